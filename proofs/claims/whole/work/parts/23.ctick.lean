/-! ===== the class's TICK ===== -/
/-- the row of a Run behind a TICK -/
def cTk (ρ D Q : Nat → Int32) (f lamp : Int32) : Nat → Int32 :=
  let x := tkV (D 0) (Q 0) (Q 1) f (ρ 3) (ρ 5)
  let t1 := ρ 3 + tkPc (D 1) lamp x
  rup (rup (rup (rup (rup (rup (rup (rup (rup ρ 3 (tkT1 (Q 2) t1)) 4 (ρ 3)) 5 (tkV1 (Q 2) t1 (tkPc (D 1) lamp x))) 6 (tkSp (D 1) lamp x)) 7 (fmax (ρ 7) (tkSp (D 1) lamp x))) 8 (ρ 8 + 1)) 9 f) 10 (ρ 10 + tkTh (ρ 3) (tkT1 (Q 2) t1))) 11 (tkSn (Q 2) (Q 3) t1 (tkL (D 1) lamp x) (ρ 11))
/-- the same by the class's own words -/
def cV (w th tw f t v : Int32) : Int32 := if t ≤ 0 then v + ((f * csSl th tw (fabs t)) * 10) / w else v - ((f * csSl th tw (fabs t)) * 10) / w
def cSp (air lamp x : Int32) : Int32 := fmax 0 (csAir air (fabs x) - lamp)
def cPc (air lamp x : Int32) : Int32 := if 0 ≤ x then cSp air lamp x else -(cSp air lamp x)
section L2C
variable {S : HS} {h d q : Nat}
theorem k_shortBefore (hq : q < hN S) (kq : hK S q = 2) (w : Int32) : s_X2_shortBefore S q w = some (fSB (hI S q 0) w, S) := by
  unfold s_X2_shortBefore
  rw [kI_some hq kq, kdiv_ne (by decide)]
  rfl
theorem k_shortBy (hq : q < hN S) (kq : hK S q = 2) (w : Int32) : s_X2_shortBy S q w = some (fSh (hI S q 0) (hI S q 1) w, S) := by
  unfold s_X2_shortBy fSh
  rw [kI_some hq kq]
  split
  · rw [kI_some hq kq, kO_some hq kq, k_shortBefore hq kq, kc_some, kI_some hq kq, kI_some hq kq, kO_some hq kq, k_shortBefore hq kq, kc_some, kI_some hq kq, kO_some hq kq, k_shortBefore hq kq, kc_some]
  · rw [kO_some hq kq, k_shortBefore hq kq, kc_some]
theorem k_slopeAt (hq : q < hN S) (kq : hK S q = 2) (w : Int32) : s_X2_slopeAt S q w = some (csSl (hI S q 0) (hI S q 1) w, S) := by
  unfold s_X2_slopeAt csSl
  split
  · rw [kO_some hq kq, k_shortBy hq kq, kc_some, kO_some hq kq, k_shortBy hq kq, kc_some]
  · rfl
theorem k_behindAir (hd : d < hN S) (kd : hK S d = 3) (x : Int32) : s_X3_behindAir S d x = some (csAir (hI S d 1) x, S) := by
  unfold s_X3_behindAir csAir
  rw [kldiv_ne (by decide), kI_some hd kd, kldiv_ne (by decide)]
theorem k_stop (hh : h < hN S) (kh : hK S h = 8) (pq : hP S h 1 = some q) (hq : q < hN S) (kq : hK S q = 2) : s_X8_stop S h = some (wC S h (rup (rup (rup (hI S h) 3 (if 0 ≤ hI S h 3 then hI S q 2 else -(hI S q 2))) 11 (if hI S h 6 ≤ hI S q 3 then 0 else 1)) 5 0)) := by
  have hne : q ≠ h := fun e => by rw [e, kh] at kq; cases kq
  have b26 : ∀ t, s_X8_stop_b26 h S (some h) t = some (wC S h (rup (rup (rup (hI S h) 3 t) 11 (if hI S h 6 ≤ hI S q 3 then 0 else 1)) 5 0)) := by
    intro t
    unfold s_X8_stop_b26 s_X8_stop_b49
    rw [kwI_some hh kh, wI_wC, kI_some (S := wC S h _) hh kh, kP_some (S := wC S h _) hh kh, hP_wC, pq, kI_some (S := wC S h _) hq kq]
    simp only [hI_wC_self, hI_wC_ne hne, rup_ne (show (6 : Nat) ≠ 3 by decide)]
    split
    · rw [kwZ_0 (S := wC S h _) hh kh, wI_wC, wC_wC, hI_wC_self, kwI_some (S := wC S h _) hh kh, wI_wC, wC_wC, hI_wC_self]
    · rw [kwZ_1 (S := wC S h _) hh kh, wI_wC, wC_wC, hI_wC_self, kwI_some (S := wC S h _) hh kh, wI_wC, wC_wC, hI_wC_self]
  unfold s_X8_stop
  rw [kI_some hh kh, kP_some hh kh, pq, kI_some hq kq, kP_some hh kh, pq, kI_some hq kq]
  split
  · rw [b26]
  · rw [b26]
theorem k_b203 (hh : h < hN S) (kh : hK S h = 8) (f : Int32) : s_X8_tick_b203 h S f = some (wC S h (rup (rup (hI S h) 8 (hI S h 8 + 1)) 9 f)) := by
  unfold s_X8_tick_b203
  rw [kI_some hh kh, kwI_some hh kh, wI_wC, kwI_some (S := wC S h _) hh kh, wI_wC, wC_wC, hI_wC_self]
theorem k_b193 (hh : h < hN S) (kh : hK S h = 8) (f : Int32) : s_X8_tick_b193 h S f = some (wC S h (rup (rup (rup (hI S h) 10 (hI S h 10 + 1)) 8 (hI S h 8 + 1)) 9 f)) := by
  unfold s_X8_tick_b193
  rw [kI_some hh kh, kwI_some hh kh, wI_wC, k_b203 (S := wC S h _) hh kh, wC_wC, hI_wC_self, rup_ne (show (8 : Nat) ≠ 10 by decide)]
/-- whether it went through 0, by the class -/
def cTh (a b : Int32) : Int32 := if a = 0 then 0 else if b = 0 then 1 else if (if 0 ≤ b then (0 : Int32) else 1) = (if 0 ≤ a then 0 else 1) then 0 else 1
theorem cTh_eq (a b : Int32) : cTh a b = tkTh a b := by
  unfold cTh tkTh
  simp only [i32_le, i32_lt, i32_eq, i32_0]
  repeat' split
  all_goals first | rfl | (exfalso; omega) | (exfalso; simp_all <;> omega)
theorem k_b152 (hh : h < hN S) (kh : hK S h = 8) (f : Int32) : s_X8_tick_b152 h S f = some (wC S h (rup (rup (rup (hI S h) 10 (hI S h 10 + cTh (hI S h 4) (hI S h 3))) 8 (hI S h 8 + 1)) 9 f)) := by
  have e0 : wC S h (rup (rup (hI S h) 8 (hI S h 8 + 1)) 9 f) = wC S h (rup (rup (rup (hI S h) 10 (hI S h 10 + 0)) 8 (hI S h 8 + 1)) 9 f) := by
    congr 1
    funext b
    simp only [rup, Int32.add_zero]
    by_cases b10 : b = 10 <;> simp [b10]
  unfold s_X8_tick_b152 s_X8_tick_b178 s_X8_tick_b190 cTh
  simp only [kI_some hh kh, k_b203 hh kh, k_b193 hh kh]
  rw [e0]
  repeat' split
  all_goals first | rfl | contradiction | (simp_all; done)
/-- the row of a Run behind a TICK, by the class's own words -/
def cTk0 (ρ D Q : Nat → Int32) (f lamp : Int32) : Nat → Int32 :=
  let x := cV (D 0) (Q 0) (Q 1) f (ρ 3) (ρ 5)
  let sp := cSp (D 1) lamp x
  let pc := cPc (D 1) lamp x
  let t1 := ρ 3 + pc
  let t2 := if fabs t1 ≤ Q 2 then t1 else if 0 ≤ t1 then Q 2 else -(Q 2)
  rup (rup (rup (rup (rup (rup (rup (rup (rup ρ 3 t2) 4 (ρ 3)) 5 (if fabs t1 ≤ Q 2 then pc else 0)) 6 sp) 7 (fmax (ρ 7) sp)) 8 (ρ 8 + 1)) 9 f) 10 (ρ 10 + cTh (ρ 3) t2)) 11 (if fabs t1 ≤ Q 2 then ρ 11 else if sp ≤ Q 3 then 0 else 1)
theorem k_b92 (hh : h < hN S) (kh : hK S h = 8) (pq : hP S h 1 = some q) (hq : q < hN S) (kq : hK S q = 2) (f pc : Int32) : s_X8_tick_b92 h S f (some h) pc = some (wC S h (
    let t1 := hI S h 3 + pc
    let t2 := if fabs t1 ≤ hI S q 2 then t1 else if 0 ≤ t1 then hI S q 2 else -(hI S q 2)
    rup (rup (rup (rup (rup (rup (rup (rup (hI S h) 3 t2) 4 (hI S h 3)) 5 (if fabs t1 ≤ hI S q 2 then pc else 0)) 7 (fmax (hI S h 7) (hI S h 6))) 8 (hI S h 8 + 1)) 9 f) 10 (hI S h 10 + cTh (hI S h 3) t2)) 11 (if fabs t1 ≤ hI S q 2 then hI S h 11 else if hI S h 6 ≤ hI S q 3 then 0 else 1))) := by
  have hne : q ≠ h := fun e => by rw [e, kh] at kq; cases kq
  unfold s_X8_tick_b92
  have g1 : ∀ (ρ : Nat → Int32) {j : Nat} {g : Int32 → Option HS}, kI (wC S h ρ) (some h) 8 j g = g (ρ j) := fun ρ j g => by rw [kI_some (S := wC S h ρ) hh kh, hI_wC_self]
  have g2 : ∀ (ρ : Nat → Int32) {j : Nat} {v : Int32} {g : HS → Option HS}, kwI (wC S h ρ) (some h) 8 j v g = g (wC S h (rup ρ j v)) := fun ρ j v g => by rw [kwI_some (S := wC S h ρ) hh kh, wI_wC, wC_wC, hI_wC_self]
  have g3 : ∀ (ρ : Nat → Int32) {g : Option Nat → Option HS}, kP (wC S h ρ) (some h) 8 1 g = g (some q) := fun ρ g => by rw [kP_some (S := wC S h ρ) hh kh, hP_wC, pq]
  have g4 : ∀ (ρ : Nat → Int32) {g : Int32 → Option HS}, kI (wC S h ρ) (some q) 2 2 g = g (hI S q 2) := fun ρ g => by rw [kI_some (S := wC S h ρ) hq kq, hI_wC_ne hne]
  rw [kwI_some hh kh, wI_wC]
  simp only [g1, g2, g3, g4]
  have n1 : ∀ {a b : Nat} {ρ : Nat → Int32} {v : Int32}, b ≠ a → rup ρ a v b = ρ b := fun hn => if_neg hn
  rw [n1 (show 7 ≠ 5 by decide), n1 (show 6 ≠ 5 by decide)]
  have fin : ∀ ρ : Nat → Int32, s_X8_tick_b152 h (wC S h ρ) f = some (wC S h (rup (rup (rup ρ 10 (ρ 10 + cTh (ρ 4) (ρ 3))) 8 (ρ 8 + 1)) 9 f)) := fun ρ => by
    rw [k_b152 (S := wC S h ρ) hh kh, wC_wC, hI_wC_self]
  have stp : ∀ ρ : Nat → Int32, s_X8_stop (wC S h ρ) h = some (wC S h (rup (rup (rup ρ 3 (if 0 ≤ ρ 3 then hI S q 2 else -(hI S q 2))) 11 (if ρ 6 ≤ hI S q 3 then 0 else 1)) 5 0)) := fun ρ => by
    rw [k_stop (S := wC S h ρ) hh kh (by rw [hP_wC]; exact pq) hq kq, wC_wC, hI_wC_self, hI_wC_ne hne]
  simp only [kO_some (S := wC S h _) (a := h) (kd := 8) hh kh, fin, stp, kcv_some]
  have v3 : ∀ (u w x y : Int32), rup (rup (rup (rup (hI S h) 5 pc) 7 u) 4 w) 3 x 3 = x := fun _ _ _ _ => rfl
  have e1 : (rup (rup (rup (hI S h) 5 pc) 7 (fmax (hI S h 7) (hI S h 6))) 4 (rup (rup (hI S h) 5 pc) 7 (fmax (hI S h 7) (hI S h 6)) 3)) 3 = hI S h 3 := rfl
  have e2 : (rup (rup (rup (hI S h) 5 pc) 7 (fmax (hI S h 7) (hI S h 6))) 4 (rup (rup (hI S h) 5 pc) 7 (fmax (hI S h 7) (hI S h 6)) 3)) 5 = pc := rfl
  rw [e1, e2]
  show (if fabs (hI S h 3 + pc) ≤ hI S q 2 then _ else _) = _
  by_cases c : fabs (hI S h 3 + pc) ≤ hI S q 2
  · simp only [if_pos c]
    congr 2
    funext b
    simp only [rup]
    by_cases b3 : b = 3
    · subst b3; simp
    by_cases b4 : b = 4
    · subst b4; simp
    by_cases b5 : b = 5
    · subst b5; simp
    by_cases b7 : b = 7
    · subst b7; simp
    by_cases b8 : b = 8
    · subst b8; simp
    by_cases b9 : b = 9
    · subst b9; simp
    by_cases b10 : b = 10
    · subst b10; simp
    by_cases b11 : b = 11
    · subst b11; simp
    simp [b3, b4, b5, b7, b8, b9, b10, b11]
  · simp only [if_neg c]
    congr 2
    funext b
    simp only [rup]
    by_cases b3 : b = 3
    · subst b3; simp
    by_cases b4 : b = 4
    · subst b4; simp
    by_cases b5 : b = 5
    · subst b5; simp
    by_cases b7 : b = 7
    · subst b7; simp
    by_cases b8 : b = 8
    · subst b8; simp
    by_cases b9 : b = 9
    · subst b9; simp
    by_cases b10 : b = 10
    · subst b10; simp
    by_cases b11 : b = 11
    · subst b11; simp
    simp [b3, b4, b5, b7, b8, b9, b10, b11]
theorem k_tick0 (hh : h < hN S) (kh : hK S h = 8) (pd : hP S h 0 = some d) (hd : d < hN S) (kd : hK S d = 3) (pq : hP S h 1 = some q) (hq : q < hN S) (kq : hK S q = 2) (hw : ¬ hI S d 0 = 0) (f lamp : Int32) : s_X8_tick S h f lamp = some (wC S h (cTk0 (hI S h) (hI S d) (hI S q) f lamp)) := by
  have hne : q ≠ h := fun e => by rw [e, kh] at kq; cases kq
  have b50 : ∀ x : Int32, s_X8_tick_b50 h S f lamp x = s_X8_tick_b92 h (wC S h (rup (hI S h) 6 (cSp (hI S d 1) lamp x))) f (some h) (cPc (hI S d 1) lamp x) := by
    intro x
    unfold s_X8_tick_b50 cPc
    rw [kP_some hh kh, pd, kO_some hd kd, k_behindAir hd kd, kc_some, kwI_some hh kh, wI_wC, kI_some (S := wC S h _) hh kh, hI_wC_self, kI_some (S := wC S h _) hh kh, hI_wC_self]
    split <;> rfl
  have b92 : ∀ x : Int32, s_X8_tick_b50 h S f lamp x = some (wC S h (
      let sp := cSp (hI S d 1) lamp x
      let pc := cPc (hI S d 1) lamp x
      let t1 := hI S h 3 + pc
      let t2 := if fabs t1 ≤ hI S q 2 then t1 else if 0 ≤ t1 then hI S q 2 else -(hI S q 2)
      rup (rup (rup (rup (rup (rup (rup (rup (rup (hI S h) 3 t2) 4 (hI S h 3)) 5 (if fabs t1 ≤ hI S q 2 then pc else 0)) 6 sp) 7 (fmax (hI S h 7) sp)) 8 (hI S h 8 + 1)) 9 f) 10 (hI S h 10 + cTh (hI S h 3) t2)) 11 (if fabs t1 ≤ hI S q 2 then hI S h 11 else if sp ≤ hI S q 3 then 0 else 1))) := by
    intro x
    rw [b50, k_b92 (S := wC S h _) hh kh (by rw [hP_wC]; exact pq) hq kq, wC_wC]
    simp only [hI_wC_self, hI_wC_ne hne]
    refine congrArg (fun z => some (wC S h z)) (funext fun b => ?_)
    simp only [rup]
    by_cases b3 : b = 3
    · subst b3; simp
    by_cases b4 : b = 4
    · subst b4; simp
    by_cases b5 : b = 5
    · subst b5; simp
    by_cases b6 : b = 6
    · subst b6; simp
    by_cases b7 : b = 7
    · subst b7; simp
    by_cases b8 : b = 8
    · subst b8; simp
    by_cases b9 : b = 9
    · subst b9; simp
    by_cases b10 : b = 10
    · subst b10; simp
    by_cases b11 : b = 11
    · subst b11; simp
    simp [b3, b4, b5, b6, b7, b8, b9, b10, b11]
  unfold s_X8_tick
  rw [kP_some hh kh, pq, kI_some hh kh, kO_some hq kq, k_slopeAt hq kq, kc_some, kP_some hh kh, pd, kI_some hd kd, kdiv_ne hw, kI_some hh kh, kI_some hh kh, kI_some hh kh, b92, b92]
  unfold cTk0 cV
  split <;> rfl
/-- under what DISC, THREAD, RUN may be, the two speak of one TICK -/
theorem cTk_eq {ρ D Q : Nat → Int32} {f lamp : Int32} {F p : Nat} (hd : DOK (D 0) (D 1) (D 2)) (hc : COK (Q 0) (Q 1) (Q 2) (Q 3)) (hf : f = nI F) (hF : F ≤ 99) (hl : lamp = nI p) (hp : p ≤ 50) (ht : TOK (Q 2) (ρ 3) (ρ 5)) : cTk0 ρ D Q f lamp = cTk ρ D Q f lamp := by
  obtain ⟨hx, hpu⟩ := tkV_bd hd hc hf hF ht
  obtain ⟨W, C, T, e0, e1, e2, hW, hW2, hC, hT, hT2⟩ := hd
  obtain ⟨A, B, M, N, f0, f1, f2, f3, hA, hA2, hB, hB2, hBM, hM, hN1, hN2⟩ := hc
  have hm : (Q 2).toInt = (M : Int) := by rw [f2]; exact nI_toInt (by omega)
  obtain ⟨ht1, ht2⟩ := ht
  have eV : cV (D 0) (Q 0) (Q 1) f (ρ 3) (ρ 5) = tkV (D 0) (Q 0) (Q 1) f (ρ 3) (ρ 5) := by
    unfold cV tkV
    rw [csSl_eq (by omega)]
    show (if _ then ρ 5 + tkPush (D 0) (Q 0) (Q 1) f (ρ 3) else ρ 5 - tkPush (D 0) (Q 0) (Q 1) f (ρ 3)) = _
    by_cases c1 : ρ 3 ≤ 0
    · rw [if_pos c1, if_pos c1]
      by_cases c2 : 0 ≤ ρ 3
      · rw [if_pos c2]
        have z : ρ 3 = 0 := by
          rw [i32_eq, i32_0]
          have a1 := i32_le.mp c1
          have a2 := i32_le.mp c2
          rw [i32_0] at a1 a2
          omega
        have p0 : tkPush (D 0) (Q 0) (Q 1) f (ρ 3) = 0 := by
          obtain ⟨p1, -⟩ := tkPush_n (W := W) (A := A) (B := B) (F := F) (t := ρ 3) hW hW2 hA2 hB hB2 hF (by rw [z]; decide)
          rw [e0, f0, f1, hf, p1, z, show slN A B (0 : Int32).toInt.natAbs = 0 from rfl]
          simp
          rfl
        rw [p0, Int32.add_zero]
      · rw [if_neg c2]
    · rw [if_neg c1, if_neg c1]
  have eS : cSp (D 1) lamp (tkV (D 0) (Q 0) (Q 1) f (ρ 3) (ρ 5)) = tkSp (D 1) lamp (tkV (D 0) (Q 0) (Q 1) f (ρ 3) (ρ 5)) := by
    unfold cSp
    rw [e1, hl]
    exact csSp_eq (by omega) hC hp
  have eP : cPc (D 1) lamp (tkV (D 0) (Q 0) (Q 1) f (ρ 3) (ρ 5)) = tkPc (D 1) lamp (tkV (D 0) (Q 0) (Q 1) f (ρ 3) (ρ 5)) := by
    unfold cPc
    rw [eS, e1, hl]
    exact csPc_eq (by omega) hC hp
  unfold cTk0 cTk
  rw [eV]
  dsimp only
  rw [eS, eP]
  simp only [fabs_sz, cTh_eq]
  have eN : ∀ o : Int32, (if fsz (ρ 3 + tkPc (D 1) lamp (tkV (D 0) (Q 0) (Q 1) f (ρ 3) (ρ 5))) ≤ Q 2 then o else if tkSp (D 1) lamp (tkV (D 0) (Q 0) (Q 1) f (ρ 3) (ρ 5)) ≤ Q 3 then 0 else 1) = tkSn (Q 2) (Q 3) (ρ 3 + tkPc (D 1) lamp (tkV (D 0) (Q 0) (Q 1) f (ρ 3) (ρ 5))) (tkL (D 1) lamp (tkV (D 0) (Q 0) (Q 1) f (ρ 3) (ρ 5))) o := by
    intro o
    unfold tkSn
    rw [e1, hl, tkSp_n (by omega) hC hp, tkL_n (by omega) hC hp, f3]
    have hb := spN_le C p (tkV (D 0) (Q 0) (Q 1) f (ρ 3) (ρ 5)).toInt.natAbs
    generalize spN C p (tkV (D 0) (Q 0) (Q 1) f (ρ 3) (ρ 5)).toInt.natAbs = Y at hb ⊢
    rw [nI_l (by omega)]
    have e : (nI Y ≤ nI N) = (lN Y ≤ lN N) := propext ((nI_leI (by omega) (by omega)).trans (lN_le (by omega) (by omega)).symm)
    simp only [e]
  rw [eN]
  rfl
end L2C
