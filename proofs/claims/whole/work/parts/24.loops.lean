/-! ===== RUNS that are foretold ===== -/
def fUn (t v : Int32) : Int32 := if v = 0 then 1 else if (v < 0 ∧ 0 < t) ∨ (0 < v ∧ t < 0) then 1 else 0
theorem fUn_01 (t v : Int32) : fUn t v = 0 ∨ fUn t v = 1 := by
  unfold fUn
  split
  · exact Or.inr rfl
  · split
    · exact Or.inr rfl
    · exact Or.inl rfl
theorem nI_le_iff {a b : Nat} (ha : a < 2 ^ 31) (hb : b < 2 ^ 31) : nI a ≤ nI b ↔ a ≤ b := nI_leI ha hb
section L2D
variable {S : HS}
theorem m_unwinds (h : LM S) : s_X12_unwinds S 33 = some (fUn (hI S 33 19) (hI S 33 20), S) := by
  unfold s_X12_unwinds s_X12_unwinds_b21 s_X12_unwinds_b35 fUn
  simp only [kI_m h, kzr_0, kzr_1, i32_le, i32_lt, i32_eq, i32_0]
  repeat' split
  all_goals first | rfl | (exfalso; omega)
theorem k_turning {h : Nat} (hh : h < hN S) (kh : hK S h = 8) : s_X8_isTurningBack S h = some ((if (hI S h 5 < 0 ∧ 0 < hI S h 3) ∨ (0 < hI S h 5 ∧ hI S h 3 < 0) then 1 else 0), S) := by
  unfold s_X8_isTurningBack s_X8_isTurningBack_b14 s_X8_isTurningBack_b28
  simp only [kI_some hh kh, kzr_0, kzr_1, i32_le, i32_lt, i32_0]
  repeat' split
  all_goals first | rfl | (exfalso; omega)
theorem k_unwinds {h : Nat} (hh : h < hN S) (kh : hK S h = 8) : s_X8_unwinds S h = some (fUn (hI S h 3) (hI S h 5), S) := by
  unfold s_X8_unwinds s_X8_unwinds_b14 fUn
  simp only [kI_some hh kh, kO_some hh kh, k_turning hh kh, kc_some, kzr_0, kzr_1]
  repeat' split
  all_goals first | rfl | contradiction | (simp_all; done)
end L2D
/-- GREATEST, pulled from 'fr' on, by the reference's row: how many TICKS are left, row, the greatest so far -/
def mG (β : Nat → Int32) (d k : Nat) (f fr : Int32) : Nat → (Nat → Int32) → Int32 → Int32 × (Nat → Int32)
  | 0, ρ, m => (m, ρ)
  | n + 1, ρ, m => if ρ 21 = 0 then
      let ρ2 := mTk ρ β d k (if fUn (ρ 19) (ρ 20) = 0 then 0 else if fsz (ρ 19) < fr then 0 else f) 0
      mG β d k f fr n ρ2 (if ρ2 22 ≤ m then m else ρ2 22)
    else (m, ρ)
theorem mG_succ (β : Nat → Int32) (d k : Nat) (f fr : Int32) (n : Nat) (ρ : Nat → Int32) (m : Int32) : mG β d k f fr (n + 1) ρ m = if ρ 21 = 0 then mG β d k f fr n (mTk ρ β d k (if fUn (ρ 19) (ρ 20) = 0 then 0 else if fsz (ρ 19) < fr then 0 else f) 0) (if (mTk ρ β d k (if fUn (ρ 19) (ρ 20) = 0 then 0 else if fsz (ρ 19) < fr then 0 else f) 0) 22 ≤ m then m else (mTk ρ β d k (if fUn (ρ 19) (ρ 20) = 0 then 0 else if fsz (ρ 19) < fr then 0 else f) 0) 22) else (m, ρ) := rfl
theorem m_grLoop {β : Nat → Int32} {d k N : Nat} {l1 l2 f fr : Int32} (h1 : l1 = nI d) (h2 : l2 = nI k) (hd : d < 4) (hk : k < 4) (hw : ¬ β (3 + 3 * d) = 0) (hN2 : N < 2 ^ 31) : ∀ (n F i : Nat) (S : HS) (m : Int32), LM S → hI S 37 = β → n < F → i + n = N → s_X12_runGreatest_L11 33 F S l1 l2 f (nI N) fr m (nI i) = some ((mG β d k f fr n (hI S 33) m).1, wC S 33 (mG β d k f fr n (hI S 33) m).2) := by
  intro n
  induction n with
  | zero =>
    intro F i S m h hβ hF hi
    obtain ⟨F, rfl⟩ : ∃ F2, F = F2 + 1 := ⟨F - 1, by omega⟩
    show s_X12_runGreatest_b11 (s_X12_runGreatest_L11 33 F) 33 S l1 l2 f (nI N) fr m (nI i) = _
    unfold s_X12_runGreatest_b11
    rw [if_pos ((nI_le_iff hN2 (by omega)).mpr (by omega))]
    show some (m, S) = some (m, wC S 33 (hI S 33))
    rw [wC_self]
  | succ n ih =>
    intro F i S m h hβ hF hi
    obtain ⟨F, rfl⟩ : ∃ F2, F = F2 + 1 := ⟨F - 1, by omega⟩
    have step : ∀ fo : Int32, s_X12_runGreatest_b53 (s_X12_runGreatest_L11 33 F) 33 S l1 l2 f (nI N) fr m (nI i) (some 33) l1 l2 fo = some ((mG β d k f fr n (mTk (hI S 33) β d k fo 0) (if (mTk (hI S 33) β d k fo 0) 22 ≤ m then m else (mTk (hI S 33) β d k fo 0) 22)).1, wC S 33 (mG β d k f fr n (mTk (hI S 33) β d k fo 0) (if (mTk (hI S 33) β d k fo 0) 22 ≤ m then m else (mTk (hI S 33) β d k fo 0) 22)).2) := by
      intro fo
      unfold s_X12_runGreatest_b53
      rw [kO_m h, m_tick h h1 h2 hd hk (by rw [hβ]; exact hw), kcv_some, hβ]
      have h5 : LM (wC S 33 (mTk (hI S 33) β d k fo 0)) := h
      rw [kI_m h5, kI_m h5, hI_wC_self]
      unfold s_X12_runGreatest_b75
      rw [show nI i + 1 = nI (i + 1) from nI_1 i]
      have ih2 := fun m2 => ih F (i + 1) (wC S 33 (mTk (hI S 33) β d k fo 0)) m2 h5 (by rw [hI_wC_ne (by decide)]; exact hβ) (by omega) (by omega)
      simp only [hI_wC_self, wC_wC] at ih2
      split
      · rw [ih2]
      · rw [ih2]
    show s_X12_runGreatest_b11 (s_X12_runGreatest_L11 33 F) 33 S l1 l2 f (nI N) fr m (nI i) = _
    unfold s_X12_runGreatest_b11 s_X12_runGreatest_b52
    rw [if_neg (fun q => by have := (nI_le_iff hN2 (by omega)).mp q; omega), kI_m h]
    simp only [kO_m h, m_unwinds h, kc_some, kI_m h, m_size, step]
    rw [mG_succ]
    by_cases c : hI S 33 21 = 0
    · simp only [if_pos c]
      by_cases c2 : fUn (hI S 33 19) (hI S 33 20) = 0
      · simp only [if_pos c2]
      · simp only [if_neg c2]
        by_cases c3 : fsz (hI S 33 19) < fr
        · simp only [if_pos c3]
        · simp only [if_neg c3]
    · simp only [if_neg c, wC_self]
theorem m_runGreatest {S : HS} (h : LM S) {d k N : Nat} {l1 l2 t0 f fr : Int32} (h1 : l1 = nI d) (h2 : l2 = nI k) (hd : d < 4) (hk : k < 4) (hw : ¬ hI S 37 (3 + 3 * d) = 0) (hN2 : N < 100000) : s_X12_runGreatest S 33 l1 l2 t0 f (nI N) fr = some ((mG (hI S 37) d k f fr N (rup (rup (rup (hI S 33) 19 t0) 20 0) 21 0) 0).1, wC S 33 (mG (hI S 37) d k f fr N (rup (rup (rup (hI S 33) 19 t0) 20 0) 21 0) 0).2) := by
  unfold s_X12_runGreatest
  rw [kO_m h, m_rest h, kcv_some]
  have e := m_grLoop (N := N) (β := hI S 37) (f := f) (fr := fr) h1 h2 hd hk hw (by omega) N 100000 0 (wC S 33 (rup (rup (rup (hI S 33) 19 t0) 20 0) 21 0)) 0 h (hI_wC_ne (by decide)) hN2 (by omega)
  simp only [hI_wC_self, wC_wC] at e
  exact e
/-- the class's: the row of the Run after at most n TICKS, pulled by f -/
def cG (D Q : Nat → Int32) (f : Int32) : Nat → (Nat → Int32) → Nat → Int32
  | 0, ρ => ρ
  | n + 1, ρ => if ρ 11 = 0 then cG D Q f n (cTk0 ρ D Q (if fUn (ρ 3) (ρ 5) = 0 then 0 else f) 0) else ρ
theorem cG_succ (D Q : Nat → Int32) (f : Int32) (n : Nat) (ρ : Nat → Int32) : cG D Q f (n + 1) ρ = if ρ 11 = 0 then cG D Q f n (cTk0 ρ D Q (if fUn (ρ 3) (ρ 5) = 0 then 0 else f) 0) else ρ := rfl
/-- the layout of Foretold (7), its Run (8), and a DISC, a THREAD that it is about -/
def LF (S : HS) (d q : Nat) : Prop := 46 ≤ hN S ∧ hK S 7 = 4 ∧ hK S 8 = 8 ∧ hP S 7 0 = some 8 ∧ hP S 7 3 = some d ∧ hP S 7 4 = some q ∧ d < hN S ∧ hK S d = 3 ∧ q < hN S ∧ hK S q = 2
theorem k_ppLoop {D Q : Nat → Int32} {d q N : Nat} {f : Int32} (hw : ¬ D 0 = 0) (hN2 : N < 2 ^ 31) : ∀ (n F i : Nat) (S : HS), LF S d q → hP S 8 0 = some d → hP S 8 1 = some q → hI S d = D → hI S q = Q → hI S 7 6 = f → hI S 7 7 = nI N → n < F → i + n = N → s_X4_pulledPace_L6 7 F S (nI i) = some ((cG D Q f n (hI S 8)) 7, wC S 8 (cG D Q f n (hI S 8))) := by
  intro n
  induction n with
  | zero =>
    intro F i S h p0 p1 hD hQ hf hn hF hi
    obtain ⟨F, rfl⟩ : ∃ F2, F = F2 + 1 := ⟨F - 1, by omega⟩
    show s_X4_pulledPace_b6 (s_X4_pulledPace_L6 7 F) 7 S (nI i) = _
    have a7 : 7 < hN S := by have := h.1; omega
    have a8 : 8 < hN S := by have := h.1; omega
    unfold s_X4_pulledPace_b6
    rw [kI_some a7 h.2.1, hn, if_pos ((nI_le_iff hN2 (by omega)).mpr (by omega)), kP_some a7 h.2.1, h.2.2.2.1, kI_some a8 h.2.2.1]
    show some (hI S 8 7, S) = some (hI S 8 7, wC S 8 (hI S 8))
    rw [wC_self]
  | succ n ih =>
    intro F i S h p0 p1 hD hQ hf hn hF hi
    obtain ⟨F, rfl⟩ : ∃ F2, F = F2 + 1 := ⟨F - 1, by omega⟩
    obtain ⟨h0, k7, k8, q0, q3, q4, dn, dk, qn, qk⟩ := id h
    have a7 : 7 < hN S := by omega
    have a8 : 8 < hN S := by omega
    have d8 : d ≠ 8 := fun e => by rw [e, k8] at dk; cases dk
    have q8 : q ≠ 8 := fun e => by rw [e, k8] at qk; cases qk
    have step : ∀ fo : Int32, s_X4_pulledPace_b46 (s_X4_pulledPace_L6 7 F) 7 S (nI i) (some 8) fo = some ((cG D Q f n (cTk0 (hI S 8) D Q fo 0)) 7, wC S 8 (cG D Q f n (cTk0 (hI S 8) D Q fo 0))) := by
      intro fo
      unfold s_X4_pulledPace_b46
      rw [kO_some a8 k8, k_tick0 a8 k8 p0 dn dk p1 qn qk (by rw [hD]; exact hw), kcv_some, hD, hQ, show nI i + 1 = nI (i + 1) from nI_1 i]
      have ih2 := ih F (i + 1) (wC S 8 (cTk0 (hI S 8) D Q fo 0)) h p0 p1 (by rw [hI_wC_ne d8]; exact hD) (by rw [hI_wC_ne q8]; exact hQ) (by rw [hI_wC_ne (by decide)]; exact hf) (by rw [hI_wC_ne (by decide)]; exact hn) (by omega) (by omega)
      simp only [hI_wC_self, wC_wC] at ih2
      exact ih2
    show s_X4_pulledPace_b6 (s_X4_pulledPace_L6 7 F) 7 S (nI i) = _
    unfold s_X4_pulledPace_b6
    rw [kI_some a7 k7, hn, if_neg (fun q => by have := (nI_le_iff hN2 (by omega)).mp q; omega)]
    simp only [kP_some a7 k7, q0, kI_some a8 k8, kO_some a8 k8, k_unwinds a8 k8, kc_some, kI_some a7 k7, hf, step]
    rw [cG_succ]
    by_cases c : hI S 8 11 = 0
    · simp only [if_pos c]
      by_cases c2 : fUn (hI S 8 3) (hI S 8 5) = 0
      · simp only [if_pos c2]
      · simp only [if_neg c2]
    · simp only [if_neg c, wC_self]
/-- what the two rows have in common -/
def FR (ρ σ : Nat → Int32) : Prop := ρ 3 = σ 19 ∧ ρ 5 = σ 20 ∧ ρ 11 = σ 21
section TKP
variable (ρ D Q β : Nat → Int32) (d k : Nat) (f lamp : Int32)
def cX : Int32 := tkV (D 0) (Q 0) (Q 1) f (ρ 3) (ρ 5)
def cP1 : Int32 := tkPc (D 1) lamp (cX ρ D Q f)
def cT1 : Int32 := ρ 3 + cP1 ρ D Q f lamp
theorem cTk_3 : cTk ρ D Q f lamp 3 = tkT1 (Q 2) (cT1 ρ D Q f lamp) := by simp [cTk, rup, cT1, cP1, cX]
theorem cTk_4 : cTk ρ D Q f lamp 4 = ρ 3 := by simp [cTk, rup]
theorem cTk_5 : cTk ρ D Q f lamp 5 = tkV1 (Q 2) (cT1 ρ D Q f lamp) (cP1 ρ D Q f lamp) := by simp [cTk, rup, cT1, cP1, cX]
theorem cTk_6 : cTk ρ D Q f lamp 6 = tkSp (D 1) lamp (cX ρ D Q f) := by simp [cTk, rup, cX]
theorem cTk_7 : cTk ρ D Q f lamp 7 = fmax (ρ 7) (tkSp (D 1) lamp (cX ρ D Q f)) := by simp [cTk, rup, cX]
theorem cTk_8 : cTk ρ D Q f lamp 8 = ρ 8 + 1 := by simp [cTk, rup]
theorem cTk_9 : cTk ρ D Q f lamp 9 = f := by simp [cTk, rup]
theorem cTk_10 : cTk ρ D Q f lamp 10 = ρ 10 + tkTh (ρ 3) (tkT1 (Q 2) (cT1 ρ D Q f lamp)) := by simp [cTk, rup, cT1, cP1, cX]
theorem cTk_11 : cTk ρ D Q f lamp 11 = tkSn (Q 2) (Q 3) (cT1 ρ D Q f lamp) (tkL (D 1) lamp (cX ρ D Q f)) (ρ 11) := by simp [cTk, rup, cT1, cP1, cX]
def mX : Int32 := tkV (β (3 + 3 * d)) (β (15 + 4 * k)) (β (15 + 4 * k + 1)) f (ρ 19) (ρ 20)
def mP1 : Int32 := tkPc (β (3 + 3 * d + 1)) lamp (mX ρ β d k f)
def mT1 : Int32 := ρ 19 + mP1 ρ β d k f lamp
theorem mTk_19 : mTk ρ β d k f lamp 19 = tkT1 (β (15 + 4 * k + 2)) (mT1 ρ β d k f lamp) := by simp [mTk, rup, mT1, mP1, mX]
theorem mTk_20 : mTk ρ β d k f lamp 20 = tkV1 (β (15 + 4 * k + 2)) (mT1 ρ β d k f lamp) (mP1 ρ β d k f lamp) := by simp [mTk, rup, mT1, mP1, mX]
theorem mTk_21 : mTk ρ β d k f lamp 21 = tkSn (β (15 + 4 * k + 2)) (β (15 + 4 * k + 3)) (mT1 ρ β d k f lamp) (tkL (β (3 + 3 * d + 1)) lamp (mX ρ β d k f)) (ρ 21) := by simp [mTk, rup, mT1, mP1, mX]
theorem mTk_22 : mTk ρ β d k f lamp 22 = tkSp (β (3 + 3 * d + 1)) lamp (mX ρ β d k f) := by simp [mTk, rup, mX]
theorem mTk_23 : mTk ρ β d k f lamp 23 = tkTh (ρ 19) (tkT1 (β (15 + 4 * k + 2)) (mT1 ρ β d k f lamp)) := by simp [mTk, rup, mT1, mP1, mX]
end TKP
theorem tk_TOK {ρ D Q : Nat → Int32} {f lamp : Int32} {F p : Nat} (hd : DOK (D 0) (D 1) (D 2)) (hc : COK (Q 0) (Q 1) (Q 2) (Q 3)) (hf : f = nI F) (hF : F ≤ 99) (hl : lamp = nI p) (hp : p ≤ 50) (ht : TOK (Q 2) (ρ 3) (ρ 5)) : TOK (Q 2) (tkT1 (Q 2) (cT1 ρ D Q f lamp)) (tkV1 (Q 2) (cT1 ρ D Q f lamp) (cP1 ρ D Q f lamp)) := by
  obtain ⟨hx, -⟩ := tkV_bd hd hc hf hF ht
  obtain ⟨W, C, T, e0, e1, e2, hW, hW2, hC, hT, hT2⟩ := hd
  obtain ⟨A, B, M, N, f0, f1, f2, f3, hA, hA2, hB, hB2, hBM, hM, hN1, hN2⟩ := hc
  obtain ⟨t1, t2⟩ := ht
  have hP2 : (cP1 ρ D Q f lamp).toInt.natAbs ≤ 161000 := by
    obtain ⟨-, hP2⟩ := tkPc_I (c := C) (p := p) (x := cX ρ D Q f) (by unfold cX; omega) hC hp
    unfold cP1
    rw [e1, hl]
    unfold cX at hP2 ⊢
    omega
  have hm : (Q 2).toInt = (M : Int) := by rw [f2]; exact nI_toInt (by omega)
  rw [hm] at t1
  unfold cT1
  generalize cP1 ρ D Q f lamp = y at hP2 ⊢
  have hs : (ρ 3 + y).toInt = (ρ 3).toInt + y.toInt := i32_add (by omega) (by omega)
  unfold TOK tkT1 tkV1
  rw [hm]
  by_cases c : fsz (ρ 3 + y) ≤ Q 2
  · rw [if_pos c, if_pos c]
    have c2 := i32_le.mp c
    rw [hm, fsz_n (by omega), nI_toInt (by omega)] at c2
    omega
  · rw [if_neg c, if_neg c]
    refine ⟨?_, by decide⟩
    split
    · rw [hm]; omega
    · rw [i32_neg (by omega), hm]; omega
/-- one TICK of both -/
theorem tick_rel {ρ σ D Q β : Nat → Int32} {d k : Nat} {f lamp : Int32} {F p : Nat} (hr : FR ρ σ) (hD : ∀ j, j < 3 → D j = β (3 + 3 * d + j)) (hQ : ∀ j, j < 4 → Q j = β (15 + 4 * k + j)) (hd : DOK (D 0) (D 1) (D 2)) (hc : COK (Q 0) (Q 1) (Q 2) (Q 3)) (hf : f = nI F) (hF : F ≤ 99) (hl : lamp = nI p) (hp : p ≤ 50) (ht : TOK (Q 2) (ρ 3) (ρ 5)) :
    FR (cTk0 ρ D Q f lamp) (mTk σ β d k f lamp) ∧ (cTk0 ρ D Q f lamp) 6 = (mTk σ β d k f lamp) 22 ∧ (cTk0 ρ D Q f lamp) 10 = ρ 10 + (mTk σ β d k f lamp) 23 ∧ (cTk0 ρ D Q f lamp) 7 = fmax (ρ 7) ((mTk σ β d k f lamp) 22) ∧ (cTk0 ρ D Q f lamp) 4 = ρ 3 ∧ (cTk0 ρ D Q f lamp) 8 = ρ 8 + 1 ∧ (cTk0 ρ D Q f lamp) 9 = f ∧ TOK (Q 2) ((cTk0 ρ D Q f lamp) 3) ((cTk0 ρ D Q f lamp) 5) := by
  obtain ⟨r1, r2, r3⟩ := hr
  have hT := tk_TOK hd hc hf hF hl hp ht
  rw [cTk_eq hd hc hf hF hl hp ht]
  have e0 : D 0 = β (3 + 3 * d) := hD 0 (by decide)
  have e1 := hD 1 (by decide)
  have g0 : Q 0 = β (15 + 4 * k) := hQ 0 (by decide)
  have g1 := hQ 1 (by decide)
  have g2 := hQ 2 (by decide)
  have g3 := hQ 3 (by decide)
  have xX : mX σ β d k f = cX ρ D Q f := by unfold mX cX; rw [← r1, ← r2, ← e0, ← g0, ← g1]
  have xP : mP1 σ β d k f lamp = cP1 ρ D Q f lamp := by unfold mP1 cP1; rw [xX, ← e1]
  have xT : mT1 σ β d k f lamp = cT1 ρ D Q f lamp := by unfold mT1 cT1; rw [xP, ← r1]
  unfold FR
  rw [cTk_3, cTk_4, cTk_5, cTk_6, cTk_7, cTk_8, cTk_9, cTk_10, cTk_11, mTk_19, mTk_20, mTk_21, mTk_22, mTk_23, xX, xP, xT, ← e1, ← g2, ← g3, ← r1, ← r3]
  exact ⟨⟨rfl, rfl, rfl⟩, rfl, rfl, rfl, rfl, rfl, rfl, hT⟩
