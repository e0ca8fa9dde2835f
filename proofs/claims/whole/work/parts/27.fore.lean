/-! ===== GREATEST ===== -/
/-- Foretold is about these -/
def ab (S : HS) (c q : Nat) (t0 f n : Int32) : HS := wC (wP (wP S 7 3 (some c)) 7 4 (some q)) 7 (rup (rup (rup (hI S 7) 5 t0) 6 f) 7 n)
theorem ab_SX (S : HS) (c q : Nat) (t0 f n : Int32) : SX S (ab S c q t0 f n) := ((SX.pw (c := 7) (j := 3) _ (Or.inl rfl) (fun _ => by decide)).tr (SX.pw (c := 7) (j := 4) _ (Or.inl rfl) (fun _ => by decide))).tr (SX.cw _ (Or.inl rfl))
theorem k_about {S : HS} (a7 : 7 < hN S) (k7 : hK S 7 = 4) (c q : Nat) (t0 f n : Int32) : s_X4_about S 7 (some c) (some q) t0 f n = some (ab S c q t0 f n) := by
  unfold s_X4_about ab
  rw [kwP_some a7 k7, kwP_some (S := wP S 7 3 (some c)) a7 k7]
  have g2 : ∀ (T : HS), 7 < hN T → hK T 7 = 4 → ∀ {j : Nat} {v : Int32} {g : HS → Option HS}, kwI T (some 7) 4 j v g = g (wC T 7 (rup (hI T 7) j v)) := fun T h1 h2 j v g => by rw [kwI_some h1 h2, wI_wC]
  rw [g2 _ (by exact a7) (by exact k7), g2 _ (by exact a7) (by exact k7), g2 _ (by exact a7) (by exact k7)]
  simp only [wC_wC, hI_wC_self]
  rfl
theorem ab_LF {S : HS} (h : RR S) {c q d k : Nat} (hc : isD S c d) (hq : isC S q k) (t0 f n : Int32) : LF (ab S c q t0 f n) c q ∧ hI (ab S c q t0 f n) 7 5 = t0 ∧ hI (ab S c q t0 f n) 7 6 = f ∧ hI (ab S c q t0 f n) 7 7 = n := by
  obtain ⟨hLM, hLC, -⟩ := h
  refine ⟨⟨hLC.1, hLC.k (c := 7) (by decide) rfl, hLC.k (c := 8) (by decide) rfl, ?_, ?_, ?_, hc.2.1, hc.2.2.1, hq.2.1, hq.2.2.1⟩, rfl, rfl, rfl⟩
  · show hP (wP (wP S 7 3 (some c)) 7 4 (some q)) 7 0 = some 8
    rw [hP_wP, if_neg (by decide), hP_wP, if_neg (by decide)]
    exact hLC.2.2.2.2.2.2.2.2.2.1
  · show hP (wP (wP S 7 3 (some c)) 7 4 (some q)) 7 3 = some c
    rw [hP_wP, if_neg (by decide), hP_wP, if_pos (by decide)]
  · show hP (wP (wP S 7 3 (some c)) 7 4 (some q)) 7 4 = some q
    rw [hP_wP, if_pos (by decide)]
/-- what may be asked: numbers as told -/
def VA (S : HS) (nd nc : Nat) (l1 l2 t0 f n : Int32) : Prop := (0 ≤ l1.toInt ∧ l1.toInt < nd) ∧ (0 ≤ l2.toInt ∧ l2.toInt < nc) ∧ (1 ≤ t0.toInt ∧ t0.toInt ≤ (hI S 37 (15 + 4 * l2.toInt.toNat + 2)).toInt) ∧ (0 ≤ f.toInt ∧ f.toInt ≤ 99) ∧ (1 ≤ n.toInt ∧ n.toInt ≤ 300)
theorem m_isAsked {S : HS} (h : LM S) {nd nc : Nat} (hd : hI S 37 0 = nI nd) (hd2 : nd ≤ 4) (hc : hI S 37 1 = nI nc) (hc2 : nc ≤ 4) (l1 l2 t0 f n : Int32) : (VA S nd nc l1 l2 t0 f n ∧ s_X12_isAsked S 33 l1 l2 t0 f n = some (1, S)) ∨ (¬ VA S nd nc l1 l2 t0 f n ∧ s_X12_isAsked S 33 l1 l2 t0 f n = some (0, S)) := by
  unfold s_X12_isAsked VA
  rw [kO_m h, m_isDisc h hd hd2, kc_some]
  by_cases c1 : 0 ≤ l1.toInt ∧ l1.toInt < nd
  · rw [if_pos c1, if_neg (by decide), kO_m h, m_isThread h hc hc2, kc_some]
    by_cases c2 : 0 ≤ l2.toInt ∧ l2.toInt < nc
    · have e2 := (ix_to (i := l2) (lo := 0) (hi := (nc : Int)) c2.1 c2.2 (by decide))
      rw [if_pos c2, if_neg (by decide), kO_m h, m_threadOf h (l2 := 2) (j := 2) e2.1 rfl (by omega) (by decide), kc_some, m_inI S (a := 1) rfl (i64_of32 _), kc_some]
      by_cases c3 : 1 ≤ t0.toInt ∧ t0.toInt ≤ (hI S 37 (15 + 4 * l2.toInt.toNat + 2)).toInt
      · rw [if_pos c3, if_neg (by decide), m_inI S (a := 0) (b := 99) rfl rfl, kc_some]
        by_cases c4 : 0 ≤ f.toInt ∧ f.toInt ≤ 99
        · rw [if_pos c4, if_neg (by decide), m_inI S (a := 1) (b := 300) rfl rfl, kc_some]
          by_cases c5 : 1 ≤ n.toInt ∧ n.toInt ≤ 300
          · rw [if_pos c5, if_neg (by decide)]
            exact Or.inl ⟨⟨c1, c2, c3, c4, c5⟩, rfl⟩
          · rw [if_neg c5, if_pos rfl]
            exact Or.inr ⟨fun q => c5 q.2.2.2.2, rfl⟩
        · rw [if_neg c4, if_pos rfl]
          exact Or.inr ⟨fun q => c4 q.2.2.2.1, rfl⟩
      · rw [if_neg c3, if_pos rfl]
        exact Or.inr ⟨fun q => c3 q.2.2.1, rfl⟩
    · rw [if_neg c2, if_pos rfl]
      exact Or.inr ⟨fun q => c2 q.2.1, rfl⟩
  · rw [if_neg c1, if_pos rfl]
    exact Or.inr ⟨fun q => c1 q.1, rfl⟩
theorem c_foretells_ {S : HS} (h : RR S) {nd nc : Nat} (hd : hI S 37 0 = nI nd) (hd2 : nd ≤ 4) (hc : hI S 37 1 = nI nc) (hc2 : nc ≤ 4) (l1 l2 t0 f n : Int32) : (VA S nd nc l1 l2 t0 f n ∧ ∃ c q d k, l1 = nI d ∧ l2 = nI k ∧ isD S c d ∧ isC S q k ∧ s_X11_foretells S 0 l1 l2 t0 f n = some (1, ab S c q t0 f n)) ∨ (¬ VA S nd nc l1 l2 t0 f n ∧ s_X11_foretells S 0 l1 l2 t0 f n = some (0, S)) := by
  have hLC := h.2.1
  have a0 := hLC.lt (c := 0) (by decide)
  have k0 : hK S 0 = 11 := hLC.k (by decide) rfl
  have a7 := hLC.lt (c := 7) (by decide)
  have k7 : hK S 7 = 4 := hLC.k (by decide) rfl
  unfold s_X11_foretells VA
  rw [kO_some a0 k0]
  rcases c_discAt_ h hd hd2 l1 with ⟨d1, d2, c, d, hl1, e1, hD⟩ | ⟨d1, e1⟩
  · rw [e1, kc_some, kO_some a0 k0]
    rcases c_cordAt_ h hc hc2 l2 with ⟨q1, q2, q, k, hl2, e2, hQ⟩ | ⟨q1, e2⟩
    · rw [e2, kc_some, if_neg (by simp), if_neg (by simp)]
      have ek : l2.toInt.toNat = k := by
        have h1 : (nI k).toInt = (k : Int) := nI_toInt (by have := hQ.2.2.2.1; omega)
        rw [hl2, h1]
        rfl
      have em : hI S 37 (15 + 4 * l2.toInt.toNat + 2) = hI S q 2 := by rw [ek]; exact (hQ.2.2.2.2.1 2 (by decide)).symm
      rw [em, kI_some hQ.2.1 hQ.2.2.1]
      have t1 : (1 : Int32).toInt = 1 := rfl
      by_cases c3 : t0 < 1
      · have c4 := i32_lt.mp c3
        rw [t1] at c4
        rw [if_pos c3]
        exact Or.inr ⟨fun z => by have := z.2.2.1.1; omega, rfl⟩
      · have c4 : ¬ t0.toInt < (1 : Int32).toInt := fun z => c3 (i32_lt.mpr z)
        rw [t1] at c4
        rw [if_neg c3]
        by_cases c5 : hI S q 2 < t0
        · have c6 := i32_lt.mp c5
          rw [if_pos c5]
          exact Or.inr ⟨fun z => by have := z.2.2.1.2; omega, rfl⟩
        · have c6 : ¬ (hI S q 2).toInt < t0.toInt := fun z => c5 (i32_lt.mpr z)
          rw [if_neg c5, c_isPull_, kc_some]
          by_cases c7 : (0 ≤ f.toInt ∧ f.toInt ≤ 99) ∧ (1 ≤ n.toInt ∧ n.toInt ≤ 300)
          · rw [if_pos c7, if_neg (by decide), kP_some a0 k0, hLC.2.2.2.1.2.2.2.2.1, kO_some a7 k7, k_about a7 k7]
            exact Or.inl ⟨⟨⟨d1, d2⟩, ⟨q1, q2⟩, ⟨by omega, by omega⟩, c7.1, c7.2⟩, c, q, d, k, hl1, hl2, hD, hQ, rfl⟩
          · rw [if_neg c7, if_pos rfl]
            exact Or.inr ⟨fun z => c7 z.2.2.2, rfl⟩
    · rw [e2, kc_some, if_neg (by simp), if_pos rfl]
      exact Or.inr ⟨fun z => q1 z.2.1, rfl⟩
  · rw [e1, kc_some, kO_some a0 k0]
    rcases c_cordAt_ h hc hc2 l2 with ⟨q1, q2, q, k, hl2, e2, hQ⟩ | ⟨q1, e2⟩
    · rw [e2, kc_some, if_pos rfl]
      exact Or.inr ⟨fun z => d1 z.1, rfl⟩
    · rw [e2, kc_some, if_pos rfl]
      exact Or.inr ⟨fun z => d1 z.1, rfl⟩
/-- the row of a Run that begins -/
def c0 (ρ : Nat → Int32) (t0 : Int32) : Nat → Int32 := rup (rup (rup (rup (rup (rup (rup (rup (rup ρ 3 t0) 4 t0) 5 0) 6 0) 7 0) 8 0) 9 (-1000000)) 10 0) 11 0
def st8 (S : HS) (r : Nat) (c q hd : Option Nat) (t0 : Int32) : HS := wC (wP (wP (wP S r 0 c) r 1 q) r 2 hd) r (c0 (hI S r) t0)
theorem k_runStart {S : HS} {r : Nat} (a8 : r < hN S) (k8 : hK S r = 8) (c q hd : Option Nat) (t0 : Int32) : s_X8_start S r c q hd t0 = some (st8 S r c q hd t0) := by
  unfold s_X8_start st8
  rw [kwP_some a8 k8, kwP_some (S := wP S r 0 c) a8 k8, kwP_some (S := wP (wP S r 0 c) r 1 q) a8 k8]
  have g2 : ∀ (T : HS), r < hN T → hK T r = 8 → ∀ {j : Nat} {v : Int32} {g : HS → Option HS}, kwI T (some r) 8 j v g = g (wC T r (rup (hI T r) j v)) := fun T h1 h2 j v g => by rw [kwI_some h1 h2, wI_wC]
  rw [g2 _ (by exact a8) (by exact k8), g2 _ (by exact a8) (by exact k8), g2 _ (by exact a8) (by exact k8), g2 _ (by exact a8) (by exact k8), g2 _ (by exact a8) (by exact k8), g2 _ (by exact a8) (by exact k8), g2 _ (by exact a8) (by exact k8), g2 _ (by exact a8) (by exact k8), kwZ_0 (by exact a8) (by exact k8), wI_wC]
  simp only [wC_wC, hI_wC_self]
  rfl
theorem st8_SX (S : HS) (c q hd : Option Nat) (t0 : Int32) : SX S (st8 S 8 c q hd t0) := (((SX.pw (c := 8) (j := 0) _ (Or.inr rfl) (fun z => by cases z)).tr (SX.pw (c := 8) (j := 1) _ (Or.inr rfl) (fun z => by cases z))).tr (SX.pw (c := 8) (j := 2) _ (Or.inr rfl) (fun z => by cases z))).tr (SX.cw _ (Or.inr (Or.inl rfl)))
theorem st8_p {S : HS} {c q hd : Option Nat} {t0 : Int32} : hP (st8 S 8 c q hd t0) 8 0 = c ∧ hP (st8 S 8 c q hd t0) 8 1 = q ∧ hP (st8 S 8 c q hd t0) 7 = hP S 7 := by
  refine ⟨?_, ?_, funext fun j => ?_⟩
  · show hP (wP (wP (wP S 8 0 c) 8 1 q) 8 2 hd) 8 0 = c
    rw [hP_wP, if_neg (by decide), hP_wP, if_neg (by decide), hP_wP, if_pos (by decide)]
  · show hP (wP (wP (wP S 8 0 c) 8 1 q) 8 2 hd) 8 1 = q
    rw [hP_wP, if_neg (by decide), hP_wP, if_pos (by decide)]
  · show hP (wP (wP (wP S 8 0 c) 8 1 q) 8 2 hd) 7 j = _
    rw [hP_wP, if_neg (by omega), hP_wP, if_neg (by omega), hP_wP, if_neg (by omega)]
theorem st8_LF {S : HS} {c q : Nat} (h : LF S c q) (t0 : Int32) : LF (st8 S 8 (some c) (some q) none t0) c q := by
  obtain ⟨h0, k7, k8, q0, q3, q4, dn, dk, qn, qk⟩ := h
  have e := (st8_p (S := S) (c := some c) (q := some q) (hd := none) (t0 := t0)).2.2
  exact ⟨h0, k7, k8, by rw [e]; exact q0, by rw [e]; exact q3, by rw [e]; exact q4, dn, dk, qn, qk⟩
theorem k_start0 {S : HS} {c q : Nat} (h : LF S c q) : s_X4_start S 7 = some (st8 S 8 (some c) (some q) none (hI S 7 5)) := by
  obtain ⟨h0, k7, k8, q0, q3, q4, dn, dk, qn, qk⟩ := h
  have a7 : 7 < hN S := by omega
  have a8 : 8 < hN S := by omega
  unfold s_X4_start
  rw [kP_some a7 k7, kP_some a7 k7, kP_some a7 k7, kI_some a7 k7, q0, q3, q4, kO_some a8 k8, k_runStart a8 k8, kcv_some]
theorem k_pulledPace {S : HS} {c q N : Nat} (h : LF S c q) (hn : hI S 7 7 = nI N) (hN2 : N < 100000) (hw : ¬ hI S c 0 = 0) : s_X4_pulledPace S 7 = some ((cG (hI S c) (hI S q) (hI S 7 6) N (c0 (hI S 8) (hI S 7 5))) 7, wC (st8 S 8 (some c) (some q) none (hI S 7 5)) 8 (cG (hI S c) (hI S q) (hI S 7 6) N (c0 (hI S 8) (hI S 7 5)))) := by
  have hF := st8_LF h (hI S 7 5)
  have c8 : c ≠ 8 := fun e => by have h1 := h.2.2.2.2.2.2.2.1; rw [e, h.2.2.1] at h1; cases h1
  have q8 : q ≠ 8 := fun e => by have h1 := h.2.2.2.2.2.2.2.2.2; rw [e, h.2.2.1] at h1; cases h1
  have o : ∀ a, a ≠ 8 → hI (st8 S 8 (some c) (some q) none (hI S 7 5)) a = hI S a := fun a ha => hI_wC_ne ha
  unfold s_X4_pulledPace
  rw [kO_some (by have := h.1; omega) h.2.1, k_start0 h, kcv_some]
  have e := k_ppLoop (D := hI S c) (Q := hI S q) (f := hI S 7 6) (N := N) hw (by omega) N 100000 0 (st8 S 8 (some c) (some q) none (hI S 7 5)) hF st8_p.1 st8_p.2.1 (o c c8) (o q q8) (by rw [o 7 (by decide)]) (by rw [o 7 (by decide)]; exact hn) hN2 (by omega)
  rw [show hI (st8 S 8 (some c) (some q) none (hI S 7 5)) 8 = c0 (hI S 8) (hI S 7 5) from hI_wC_self _ _ _] at e
  exact e
/-- the greatest pace, and whether it SNAPS: both the same -/
theorem G_eq {D Q β : Nat → Int32} {d k F : Nat} {f : Int32} (hD : ∀ j, j < 3 → D j = β (3 + 3 * d + j)) (hQ : ∀ j, j < 4 → Q j = β (15 + 4 * k + j)) (hd : DOK (D 0) (D 1) (D 2)) (hc : COK (Q 0) (Q 1) (Q 2) (Q 3)) (hf : f = nI F) (hF : F ≤ 99) : ∀ (n : Nat) (ρ σ : Nat → Int32), FR ρ σ → TOK (Q 2) (ρ 3) (ρ 5) → (cG D Q f n ρ) 7 = (mG β d k f 0 n σ (ρ 7)).1 ∧ (cG D Q f n ρ) 11 = (mG β d k f 0 n σ (ρ 7)).2 21 := by
  intro n
  induction n with
  | zero => intro ρ σ hr _; exact ⟨rfl, hr.2.2⟩
  | succ n ih =>
    intro ρ σ hr ht
    rw [cG_succ, mG_succ, ← hr.2.2]
    by_cases c : ρ 11 = 0
    · have c0' : ¬ fsz (ρ 3) < 0 := by
        have h1 := ht.1
        obtain ⟨A, B, M, N, f0, f1, f2, f3, hA, hA2, hB, hB2, hBM, hM, hN1, hN2⟩ := hc
        have hm : (Q 2).toInt = (M : Int) := by rw [f2]; exact nI_toInt (by omega)
        rw [hm] at h1
        rw [fsz_n (by omega)]
        exact nI_pos (by omega)
      simp only [if_pos c, if_neg c0', ← hr.1, ← hr.2.1]
      have key : ∀ g : Int32, (∃ F2 : Nat, g = nI F2 ∧ F2 ≤ 99) → (cG D Q f n (cTk0 ρ D Q g 0)) 7 = (mG β d k f 0 n (mTk σ β d k g 0) (if (mTk σ β d k g 0) 22 ≤ ρ 7 then ρ 7 else (mTk σ β d k g 0) 22)).1 ∧ (cG D Q f n (cTk0 ρ D Q g 0)) 11 = (mG β d k f 0 n (mTk σ β d k g 0) (if (mTk σ β d k g 0) 22 ≤ ρ 7 then ρ 7 else (mTk σ β d k g 0) 22)).2 21 := by
        rintro g ⟨F2, hg, hF2⟩
        obtain ⟨r1, -, -, r4, -, -, -, r8⟩ := tick_rel (lamp := 0) (p := 0) hr hD hQ hd hc hg hF2 rfl (by decide) ht
        have e := ih _ _ r1 r8
        rw [r4] at e
        have e7 : fmax (ρ 7) ((mTk σ β d k g 0) 22) = if (mTk σ β d k g 0) 22 ≤ ρ 7 then ρ 7 else (mTk σ β d k g 0) 22 := by
          unfold fmax
          by_cases z : (mTk σ β d k g 0) 22 ≤ ρ 7
          · rw [if_pos z, if_neg (fun y => by have h1 := i32_le.mp z; have h2 := i32_lt.mp y; omega)]
          · rw [if_neg z, if_pos (i32_lt.mpr (by have : ¬ _ := fun y => z (i32_le.mpr y); omega))]
        rw [e7] at e
        exact e
      by_cases c2 : fUn (ρ 3) (ρ 5) = 0
      · simp only [if_pos c2]
        exact key 0 ⟨0, rfl, by decide⟩
      · simp only [if_neg c2]
        exact key f ⟨F, hf, hF⟩
    · simp only [if_neg c]
      exact ⟨trivial, hr.2.2⟩
