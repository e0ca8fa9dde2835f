/-! ===== BEST, FROM ===== -/
theorem fmin_alt (a b : Int32) : fmin a b = if b ≤ a then b else a := by
  unfold fmin
  by_cases c : b < a
  · rw [if_pos c, if_pos (i32_le.mpr (by have := i32_lt.mp c; omega))]
  · rw [if_neg c]
    have c2 : ¬ _ := fun z => c (i32_lt.mpr z)
    split
    · next d =>
      have := i32_le.mp d
      exact i32_eq.mpr (by omega)
    · rfl
theorem fmax_alt (a b : Int32) : fmax a b = if b ≤ a then a else b := by
  unfold fmax
  by_cases c : b ≤ a
  · rw [if_pos c, if_neg (fun z => by have := i32_lt.mp z; have := i32_le.mp c; omega)]
  · rw [if_neg c, if_pos (i32_lt.mpr (by have : ¬ _ := fun z => c (i32_le.mpr z); omega))]
theorem lt_le {a b : Int32} (h : ¬ b ≤ a) : a < b := i32_lt.mpr (by have : ¬ _ := fun z => h (i32_le.mpr z); omega)
theorem nlt_le {a b : Int32} (h : b ≤ a) : ¬ a < b := fun z => by have := i32_lt.mp z; have := i32_le.mp h; omega
theorem SX.isD {S T : HS} (g : SX S T) {c d : Nat} (h : isD S c d) : isD T c d := by
  obtain ⟨h1, h2, h3, h4, h5, h6⟩ := h
  refine ⟨h1, by rw [g.1]; exact h2, by rw [g.2.1]; exact h3, h4, ?_, ?_⟩
  · rw [g.ge h1, g.m37]; exact h5
  · rw [g.ge h1]; exact h6
theorem SX.isC {S T : HS} (g : SX S T) {c d : Nat} (h : isC S c d) : isC T c d := by
  obtain ⟨h1, h2, h3, h4, h5, h6⟩ := h
  refine ⟨h1, by rw [g.1]; exact h2, by rw [g.2.1]; exact h3, h4, ?_, ?_⟩
  · rw [g.ge h1, g.m37]; exact h5
  · rw [g.ge h1]; exact h6
theorem SX.gp {S T : HS} (g : SX S T) {c : Nat} (hc : 46 ≤ c) : hP T c = hP S c := g.2.2.2.2.2.1 c (by omega) (by omega)
/-- a BOX that is: its DISCS and THREADS as the class finds them -/
theorem RR.bx {S : HS} (h : RR S) {b : Nat} (hb : hP S 4 1 = some b) : ∃ nd nc a0 a1 : Nat, 46 ≤ b ∧ b < hN S ∧ hK S b = 1 ∧ nd ≤ 4 ∧ nc ≤ 4 ∧ hI S 37 0 = nI nd ∧ hI S 37 1 = nI nc ∧ hI S b 3 = nI nd ∧ hI S b 4 = nI nc ∧ hP S b 0 = some a0 ∧ 46 ≤ a0 ∧ a0 < hN S ∧ hK S a0 = 17 ∧ hL S a0 = 4 ∧ hP S b 1 = some a1 ∧ 46 ≤ a1 ∧ a1 < hN S ∧ hK S a1 = 16 ∧ hL S a1 = 4 ∧ (∀ i, i < nd → ∃ c, hP S a0 i = some c ∧ isD S c i) ∧ (∀ i, i < nc → ∃ c, hP S a1 i = some c ∧ isC S c i) := by
  have h6 := h.2.2.2.2.2.1
  rw [hb] at h6
  obtain ⟨-, ⟨b1, b2, b3, nd, nc, nh, a0, a1, a2, h4, h5, e3, ⟨p0, p1, p2, p3, p4⟩, ⟨q0, q1, q2, q3, q4⟩, -, hD, hC, -⟩, -⟩ := h6
  refine ⟨nd, nc, a0, a1, b1, b2, b3, by omega, by omega, h5.1, h5.2.1, e3.1, e3.2.1, p0, p1, p2, p3, p4, q0, q1, q2, q3, q4, ?_, ?_⟩
  · intro i hi
    obtain ⟨c, c1, c2, c3, c4, c5, c6⟩ := hD i hi
    exact ⟨c, c1, c2, c3, c4, by omega, c5, c6⟩
  · intro i hi
    obtain ⟨c, c1, c2, c3, c4, c5, c6⟩ := hC i hi
    exact ⟨c, c1, c2, c3, c4, by omega, c5, c6⟩
theorem COK.most {a b m s : Int32} (h : COK a b m s) : 1 ≤ m.toInt ∧ m.toInt ≤ 800 := by
  obtain ⟨A, B, M, N, f0, f1, f2, f3, hA, hA2, hB, hB2, hBM, hM, hN1, hN2⟩ := h
  rw [f2, nI_toInt (by omega)]
  omega
/-- one pair of BEST -/
theorem best_one {S T : HS} (h : RR S) {c q d k N F : Nat} {l1 l2 f t0 : Int32} (h1 : l1 = nI d) (h2 : l2 = nI k) (hD : isD S c d) (hQ : isC S q k) (hNl : N < 100000) (hf : f = nI F) (hF : F ≤ 99) (ht : TOK (hI S q 2) t0 0) (hT : SX S T) : ∃ v s S1 T1, s_X4_pulledPace (ab S c q t0 f (nI N)) 7 = some (v, S1) ∧ s_X12_runGreatest T 33 l1 l2 t0 f (nI N) 0 = some (v, T1) ∧ SX S S1 ∧ SX S T1 ∧ hI S1 8 11 = s ∧ hI T1 33 21 = s := by
  obtain ⟨S1, p1, p2, p3⟩ := cls_G h hD hQ hNl hf hF ht
  have hM := hT.lm h.1
  have e37 := hT.m37
  have er := m_runGreatest (S := T) hM (d := d) (k := k) (N := N) (t0 := t0) (f := f) (fr := 0) h1 h2 hD.2.2.2.1 hQ.2.2.2.1 (by rw [e37]; exact hD.mw) hNl
  rw [e37] at er
  obtain ⟨s1, s2⟩ := mG_st (β := hI S 37) (d := d) (k := k) (f := f) (fr := 0) (t0 := t0) N (hI T 33) (hI S 33) 0
  rw [s1] at er
  refine ⟨_, _, S1, _, p1, er, p2, hT.tr (SX.mG33 _ _ _ _ _ _ _ _), p3, ?_⟩
  rw [hI_wC_self, s2]
theorem best_in {S0 : HS} (h0 : RR S0) {b a0 a1 nc d c N F : Nat} {t0 f : Int32} (hb1 : 46 ≤ b) (hb2 : b < hN S0) (hb3 : hK S0 b = 1) (hnc : nc ≤ 4) (hd4 : d < 4) (eB : hI S0 37 1 = nI nc) (eC : hI S0 b 4 = nI nc) (p0 : hP S0 b 0 = some a0) (p1 : 46 ≤ a0) (p2 : a0 < hN S0) (p3 : hK S0 a0 = 17) (p4 : hL S0 a0 = 4) (q0 : hP S0 b 1 = some a1) (q1 : 46 ≤ a1) (q2 : a1 < hN S0) (q3 : hK S0 a1 = 16) (q4 : hL S0 a1 = 4) (hC : ∀ i, i < nc → ∃ c, hP S0 a1 i = some c ∧ isC S0 c i) (hdc : hP S0 a0 d = some c) (hD : isD S0 c d) (hf : f = nI F) (hF : F ≤ 99) (hNl : N < 100000) (ht1 : 1 ≤ t0.toInt)
    (J1 : HS → Option Nat → Int32 → Int32 → Int32 → Int32 → Int32 → Int32 → Option (Int32 × HS)) (J2 : HS → Int32 → Int32 → Int32 → Int32 → Int32 → Int32 → Option (Int32 × HS))
    (HJ : ∀ S T bt mo, SX S0 S → SX S0 T → ∃ r S2 T2, J1 S (some b) t0 f (nI N) bt mo (nI d + 1) = some (r, S2) ∧ J2 T t0 f (nI N) bt mo (nI d + 1) = some (r, T2) ∧ SX S0 S2 ∧ SX S0 T2) :
    ∀ (n F1 F2 i : Nat) (S T : HS) (bt mo : Int32), SX S0 S → SX S0 T → n < F1 → n < F2 → i + n = nc → ∃ r S2 T2, s_X4_bestOf_L22 J1 7 F1 S (some b) t0 f (nI N) bt mo (nI d) (nI i) = some (r, S2) ∧ s_X12_best_L78 J2 33 F2 T t0 f (nI N) bt mo (nI d) (nI i) = some (r, T2) ∧ SX S0 S2 ∧ SX S0 T2 := by
  intro n
  induction n with
  | zero =>
    intro F1 F2 i S T bt mo gS gT hF1 hF2 hi
    obtain ⟨F1, rfl⟩ : ∃ z, F1 = z + 1 := ⟨F1 - 1, by omega⟩
    obtain ⟨F2, rfl⟩ : ∃ z, F2 = z + 1 := ⟨F2 - 1, by omega⟩
    have le : nI nc ≤ nI i := (nI_le_iff (by omega) (by omega)).mpr (by omega)
    obtain ⟨r, S2, T2, j1, j2, j3, j4⟩ := HJ S T bt mo gS gT
    refine ⟨r, S2, T2, ?_, ?_, j3, j4⟩
    · show s_X4_bestOf_b22 J1 _ 7 S (some b) t0 f (nI N) bt mo (nI d) (nI i) = _
      unfold s_X4_bestOf_b22
      rw [kI_some (by rw [gS.1]; exact hb2) (by rw [gS.2.1]; exact hb3), gS.ge hb1, eC, if_pos le]
      exact j1
    · show s_X12_best_b78 J2 _ 33 T t0 f (nI N) bt mo (nI d) (nI i) = _
      unfold s_X12_best_b78
      rw [kP_m5 (gT.lm h0.1), kA_m37 (gT.lm h0.1) (i := 1) (k := 1) rfl (by decide), gT.m37, eB, if_pos le]
      exact j2
  | succ n ih =>
    intro F1 F2 i S T bt mo gS gT hF1 hF2 hi
    obtain ⟨F1, rfl⟩ : ∃ z, F1 = z + 1 := ⟨F1 - 1, by omega⟩
    obtain ⟨F2, rfl⟩ : ∃ z, F2 = z + 1 := ⟨F2 - 1, by omega⟩
    have nle : ¬ nI nc ≤ nI i := fun z => by have := (nI_le_iff (by omega) (by omega)).mp z; omega
    obtain ⟨q, c1, hQ⟩ := hC i (by omega)
    have hS := h0.to gS
    have hLT := gT.lm h0.1
    have kb : 7 < hN S := hS.2.1.lt (by decide)
    have k7 : hK S 7 = 4 := hS.2.1.k (by decide) rfl
    have hDS := gS.isD hD
    have hQS := gS.isC hQ
    have hm := hQ.2.2.2.2.2.most
    have b1' : b < hN S := by rw [gS.1]; exact hb2
    have b2' : hK S b = 1 := by rw [gS.2.1]; exact hb3
    have a01 : a0 < hN S := by rw [gS.1]; exact p2
    have a02 : hK S a0 = 17 := by rw [gS.2.1]; exact p3
    have a03 : hL S a0 = 4 := by rw [gS.2.2.1]; exact p4
    have a11 : a1 < hN S := by rw [gS.1]; exact q2
    have a12 : hK S a1 = 16 := by rw [gS.2.1]; exact q3
    have a13 : hL S a1 = 4 := by rw [gS.2.2.1]; exact q4
    have em : hI S0 37 (15 + 4 * i + 2) = hI S0 q 2 := (hQ.2.2.2.2.1 2 (by decide)).symm
    have ht : TOK (hI S q 2) (fmin t0 (hI S0 q 2)) 0 := by
      rw [gS.ge hQ.1, fmin_alt]
      split
      · exact ⟨by omega, by decide⟩
      · next z =>
        have : ¬ _ := fun y => z (i32_le.mpr y)
        exact ⟨by omega, by decide⟩
    obtain ⟨v, s, S1, T1, o1, o2, o3, o4, o5, o6⟩ := best_one hS (N := N) (t0 := fmin t0 (hI S0 q 2)) (f := f) (l1 := nI d) (l2 := nI i) rfl rfl hDS hQS hNl hf hF ht (SX.rf S)
    have gT2 : ∃ T1, s_X12_runGreatest T 33 (nI d) (nI i) (fmin t0 (hI S0 q 2)) f (nI N) 0 = some (v, T1) ∧ SX S0 T1 ∧ hI T1 33 21 = s := by
      have er := m_runGreatest (S := T) hLT (d := d) (k := i) (N := N) (t0 := fmin t0 (hI S0 q 2)) (f := f) (fr := 0) rfl rfl hd4 hQ.2.2.2.1 (by rw [gT.m37]; exact hD.mw) hNl
      have er2 := m_runGreatest (S := S) hS.1 (d := d) (k := i) (N := N) (t0 := fmin t0 (hI S0 q 2)) (f := f) (fr := 0) rfl rfl hd4 hQ.2.2.2.1 (by rw [gS.m37]; exact hD.mw) hNl
      obtain ⟨x1, x2⟩ := Prod.mk.inj (det er2 o2)
      rw [gS.m37] at x1 x2
      obtain ⟨s1, s2⟩ := mG_st (β := hI S0 37) (d := d) (k := i) (f := f) (fr := 0) (t0 := fmin t0 (hI S0 q 2)) N (hI T 33) (hI S 33) 0
      rw [gT.m37, s1, x1] at er
      refine ⟨_, er, gT.tr (SX.mG33 _ _ _ _ _ _ _ _), ?_⟩
      rw [hI_wC_self, s2, ← o6, ← x2, hI_wC_self]
    obtain ⟨T1', u1, u2, u3⟩ := gT2
    have gS1 := gS.tr o3
    have next : ∀ bt mo, ∃ r S2 T2, s_X4_bestOf_b106 J1 (s_X4_bestOf_L22 J1 7 F1) 7 S1 (some b) t0 f (nI N) bt mo (nI d) (nI i) = some (r, S2) ∧ s_X12_best_b152 J2 (s_X12_best_L78 J2 33 F2) 33 T1' t0 f (nI N) bt mo (nI d) (nI i) = some (r, T2) ∧ SX S0 S2 ∧ SX S0 T2 := by
      intro bt mo
      have e := ih F1 F2 (i + 1) S1 T1' bt mo gS1 u2 (by omega) (by omega) (by omega)
      unfold s_X4_bestOf_b106 s_X12_best_b152
      rw [nI_1]
      exact e
    show ∃ r S2 T2, s_X4_bestOf_b22 J1 (s_X4_bestOf_L22 J1 7 F1) 7 S (some b) t0 f (nI N) bt mo (nI d) (nI i) = some (r, S2) ∧ s_X12_best_b78 J2 (s_X12_best_L78 J2 33 F2) 33 T t0 f (nI N) bt mo (nI d) (nI i) = some (r, T2) ∧ SX S0 S2 ∧ SX S0 T2
    have hLa := (hS.to (ab_SX S c q (fmin t0 (hI S0 q 2)) f (nI N))).2.1
    have hL1 := (h0.to gS1).2.1
    have hq2 : q < hN S := hQS.2.1
    have hq3 : hK S q = 2 := hQS.2.2.1
    have ci : s_X4_bestOf_b22 J1 (s_X4_bestOf_L22 J1 7 F1) 7 S (some b) t0 f (nI N) bt mo (nI d) (nI i) = (if s = 0 then (if mo < v then s_X4_bestOf_b106 J1 (s_X4_bestOf_L22 J1 7 F1) 7 S1 (some b) t0 f (nI N) ((8 * nI d) + nI i) v (nI d) (nI i) else s_X4_bestOf_b106 J1 (s_X4_bestOf_L22 J1 7 F1) 7 S1 (some b) t0 f (nI N) bt mo (nI d) (nI i)) else s_X4_bestOf_b106 J1 (s_X4_bestOf_L22 J1 7 F1) 7 S1 (some b) t0 f (nI N) bt mo (nI d) (nI i)) := by
      unfold s_X4_bestOf_b22
      rw [kI_some b1' b2', gS.ge hb1, eC, if_neg nle, kP_some b1' b2', gS.gp hb1, p0, kAP_in a01 a02 (by rw [a03]; exact ix_ok rfl hd4 (by decide)), nI_clamp (by omega), gS.gp p1, hdc, kP_some b1' b2', gS.gp hb1, q0, kAP_in a11 a12 (by rw [a13]; exact ix_ok (k := i) rfl (by omega) (by decide)), nI_clamp (by omega), gS.gp q1, c1, kP_some b1' b2', gS.gp hb1, q0, kAP_in a11 a12 (by rw [a13]; exact ix_ok (k := i) rfl (by omega) (by decide)), nI_clamp (by omega), gS.gp q1, c1, kI_some hq2 hq3, gS.ge hQ.1, kO_some kb k7, k_about kb k7, kcv_some, kO_c7 hLa, o1, kc_some, kP_c7_0 hL1, kI_c8 hL1, o5]
    have mi : s_X12_best_b78 J2 (s_X12_best_L78 J2 33 F2) 33 T t0 f (nI N) bt mo (nI d) (nI i) = (if s = 0 then (if v ≤ mo then s_X12_best_b152 J2 (s_X12_best_L78 J2 33 F2) 33 T1' t0 f (nI N) bt mo (nI d) (nI i) else s_X12_best_b152 J2 (s_X12_best_L78 J2 33 F2) 33 T1' t0 f (nI N) ((8 * nI d) + nI i) v (nI d) (nI i)) else s_X12_best_b152 J2 (s_X12_best_L78 J2 33 F2) 33 T1' t0 f (nI N) bt mo (nI d) (nI i)) := by
      have m116 : s_X12_best_b116 J2 (s_X12_best_L78 J2 33 F2) 33 T t0 f (nI N) bt mo (nI d) (nI i) (some 33) (nI d) (nI i) (fmin t0 (hI S0 q 2)) = (if s = 0 then (if v ≤ mo then s_X12_best_b152 J2 (s_X12_best_L78 J2 33 F2) 33 T1' t0 f (nI N) bt mo (nI d) (nI i) else s_X12_best_b152 J2 (s_X12_best_L78 J2 33 F2) 33 T1' t0 f (nI N) ((8 * nI d) + nI i) v (nI d) (nI i)) else s_X12_best_b152 J2 (s_X12_best_L78 J2 33 F2) 33 T1' t0 f (nI N) bt mo (nI d) (nI i)) := by
        unfold s_X12_best_b116
        rw [kO_m hLT, u1, kc_some, kI_m (u2.lm h0.1), u3]
      rw [fmin_alt] at m116
      unfold s_X12_best_b78
      rw [kP_m5 hLT, kA_m37 hLT (i := 1) (k := 1) rfl (by decide), gT.m37, eB, if_neg nle, kO_m hLT, m_threadOf hLT (l2 := 2) (j := 2) rfl rfl hQ.2.2.2.1 (by decide), kc_some, gT.m37, em]
      by_cases z : hI S0 q 2 ≤ t0
      · rw [if_pos z] at m116 ⊢
        rw [kO_m hLT, m_threadOf hLT (l2 := 2) (j := 2) rfl rfl hQ.2.2.2.1 (by decide), kc_some, gT.m37, em]
        exact m116
      · rw [if_neg z] at m116 ⊢
        exact m116
    rw [ci, mi]
    by_cases z : s = 0
    · rw [if_pos z, if_pos z]
      by_cases y : v ≤ mo
      · rw [if_neg (nlt_le y), if_pos y]
        exact next bt mo
      · rw [if_pos (lt_le y), if_neg y]
        exact next _ v
    · rw [if_neg z, if_neg z]
      exact next bt mo
theorem best_out {S0 : HS} (h0 : RR S0) {b N F : Nat} {t0 f : Int32} (hb : hP S0 4 1 = some b) (hf : f = nI F) (hF : F ≤ 99) (hNl : N < 100000) (ht1 : 1 ≤ t0.toInt) {nd : Nat} (hnd : nd ≤ 4) (end_ : hI S0 37 0 = nI nd) :
    ∀ (n F1 F2 i : Nat) (S T : HS) (bt mo : Int32), SX S0 S → SX S0 T → n < F1 → n < F2 → i + n = nd → ∃ r S2 T2, s_X4_bestOf_L10 7 F1 S (some b) t0 f (nI N) bt mo (nI i) = some (r, S2) ∧ s_X12_best_L64 33 F2 T t0 f (nI N) bt mo (nI i) = some (r, T2) ∧ SX S0 S2 ∧ SX S0 T2 := by
  obtain ⟨nd', nc, a0, a1, b1, b2, b3, hnd', hnc, eA, eB, eA2, eC, p0, p1, p2, p3, p4, q0, q1, q2, q3, q4, hD, hC⟩ := h0.bx hb
  have nn : nd' = nd := by
    have x1 : (nI nd).toInt = (nd : Int) := nI_toInt (by omega)
    have x2 : (nI nd').toInt = (nd' : Int) := nI_toInt (by omega)
    rw [← end_, eA] at x1
    omega
  subst nn
  intro n
  induction n with
  | zero =>
    intro F1 F2 i S T bt mo gS gT hF1 hF2 hi
    obtain ⟨F1, rfl⟩ : ∃ z, F1 = z + 1 := ⟨F1 - 1, by omega⟩
    obtain ⟨F2, rfl⟩ : ∃ z, F2 = z + 1 := ⟨F2 - 1, by omega⟩
    have le : nI nd' ≤ nI i := (nI_le_iff (by omega) (by omega)).mpr (by omega)
    refine ⟨bt, S, T, ?_, ?_, gS, gT⟩
    · show s_X4_bestOf_b10 _ 7 S (some b) t0 f (nI N) bt mo (nI i) = _
      unfold s_X4_bestOf_b10
      rw [kI_some (by rw [gS.1]; exact b2) (by rw [gS.2.1]; exact b3), gS.ge b1, eA2, if_pos le]
    · show s_X12_best_b64 _ 33 T t0 f (nI N) bt mo (nI i) = _
      unfold s_X12_best_b64
      rw [kP_m5 (gT.lm h0.1), kA_m37 (gT.lm h0.1) (i := 0) (k := 0) rfl (by decide), gT.m37, eA, if_pos le]
  | succ n ih =>
    intro F1 F2 i S T bt mo gS gT hF1 hF2 hi
    obtain ⟨F1, rfl⟩ : ∃ z, F1 = z + 1 := ⟨F1 - 1, by omega⟩
    obtain ⟨F2, rfl⟩ : ∃ z, F2 = z + 1 := ⟨F2 - 1, by omega⟩
    have nle : ¬ nI nd' ≤ nI i := fun z => by have := (nI_le_iff (by omega) (by omega)).mp z; omega
    obtain ⟨c, c1, hDi⟩ := hD i (by omega)
    obtain ⟨r, S2, T2, i1, i2, i3, i4⟩ := best_in h0 (t0 := t0) b1 b2 b3 hnc (by omega) eB eC p0 p1 p2 p3 p4 q0 q1 q2 q3 q4 hC c1 hDi hf hF hNl ht1 (s_X4_bestOf_L10 7 F1) (s_X12_best_L64 33 F2) (by
      intro S T bt mo gS gT
      rw [nI_1]
      exact ih F1 F2 (i + 1) S T bt mo gS gT (by omega) (by omega) (by omega)) nc 100000 100000 0 S T bt mo gS gT (by omega) (by omega) (by omega)
    refine ⟨r, S2, T2, ?_, ?_, i3, i4⟩
    · show s_X4_bestOf_b10 _ 7 S (some b) t0 f (nI N) bt mo (nI i) = _
      unfold s_X4_bestOf_b10
      rw [kI_some (by rw [gS.1]; exact b2) (by rw [gS.2.1]; exact b3), gS.ge b1, eA2, if_neg nle]
      exact i1
    · show s_X12_best_b64 _ 33 T t0 f (nI N) bt mo (nI i) = _
      unfold s_X12_best_b64
      rw [kP_m5 (gT.lm h0.1), kA_m37 (gT.lm h0.1) (i := 0) (k := 0) rfl (by decide), gT.m37, eA, if_neg nle]
      exact i2
theorem RR.there {S : HS} (h : RR S) : (hP S 4 1 = none ∧ hI S 33 7 = 0) ∨ (∃ b, hP S 4 1 = some b ∧ hI S 33 7 = 1) := by
  have h6 := h.2.2.2.2.2.1
  cases hb : hP S 4 1 with
  | none =>
    rw [hb] at h6
    exact Or.inl ⟨rfl, h6.1⟩
  | some b =>
    rw [hb] at h6
    exact Or.inr ⟨b, rfl, h6.1⟩
theorem ok_best {S : HS} (h : RR S) (l1 l2 l3 : Int32) : CK (fun S => s_X11_best S 0 l1 l2 l3) (fun S => s_X12_best S 33 l1 l2 l3) S := by
  have hLC := h.2.1
  have g0 := SX.w0 S
  have hL := g0.lm h.1
  have t1 : (1 : Int32).toInt = 1 := rfl
  have t8 : (800 : Int32).toInt = 800 := rfl
  have e7 : ∀ T, SX S T → hI (wI T 33 0 0) 33 7 = hI S 33 7 := fun T g => (g.tr (SX.w0 T)).2.2.2.2.1 7 (by omega)
  show ∃ r S1 S2, s_X11_best S 0 l1 l2 l3 = some (r, S1) ∧ s_X12_best S1 33 l1 l2 l3 = some (r, S2) ∧ RR S2
  unfold s_X11_best
  rw [kP_c0_2 hLC, kP_c4 hLC]
  rcases h.there with ⟨hb, ht⟩ | ⟨b, hb, ht⟩
  · rw [hb, if_pos rfl]
    refine ⟨-1000002, S, wI S 33 0 0, rfl, ?_, h.to g0⟩
    unfold s_X12_best
    rw [kwI_m h.1, kI_m hL, e7 S (SX.rf S), ht, if_pos rfl]
  · rw [hb, if_neg (by simp)]
    have mo : ∀ T, SX S T → s_X12_best T 33 l1 l2 l3 = (if 1 ≤ l1.toInt ∧ l1.toInt ≤ 800 then (if 0 ≤ l2.toInt ∧ l2.toInt ≤ 99 then (if 1 ≤ l3.toInt ∧ l3.toInt ≤ 300 then s_X12_best_L64 33 100000 (wI T 33 0 0) l1 l2 l3 (-1000000) (-1) 0 else some (-1000001, wI T 33 0 0)) else some (-1000001, wI T 33 0 0)) else some (-1000001, wI T 33 0 0)) := by
      intro T g
      have gL := (g.tr (SX.w0 T)).lm h.1
      unfold s_X12_best
      rw [kwI_m (g.lm h.1), kI_m gL, e7 T g, ht, if_neg (by decide), m_inI _ (a := 1) (b := 800) rfl rfl, kc_some]
      by_cases z : 1 ≤ l1.toInt ∧ l1.toInt ≤ 800
      · rw [if_pos z, if_pos z, if_neg (by decide), m_inI _ (a := 0) (b := 99) rfl rfl, kc_some]
        by_cases y : 0 ≤ l2.toInt ∧ l2.toInt ≤ 99
        · rw [if_pos y, if_pos y, if_neg (by decide), m_inI _ (a := 1) (b := 300) rfl rfl, kc_some]
          by_cases x : 1 ≤ l3.toInt ∧ l3.toInt ≤ 300
          · rw [if_pos x, if_pos x, if_neg (by decide)]
          · rw [if_neg x, if_neg x, if_pos rfl]
        · rw [if_neg y, if_neg y, if_pos rfl]
      · rw [if_neg z, if_neg z, if_pos rfl]
    by_cases c1 : l1 < 1
    · rw [if_pos c1]
      refine ⟨-1000001, S, wI S 33 0 0, rfl, ?_, h.to g0⟩
      rw [mo S (SX.rf S), if_neg (by have := i32_lt.mp c1; omega)]
    · have d1 : ¬ _ := fun z => c1 (i32_lt.mpr z)
      rw [if_neg c1]
      by_cases c2 : 800 < l1
      · rw [if_pos c2]
        refine ⟨-1000001, S, wI S 33 0 0, rfl, ?_, h.to g0⟩
        rw [mo S (SX.rf S), if_neg (by have := i32_lt.mp c2; omega)]
      · have d2 : ¬ _ := fun z => c2 (i32_lt.mpr z)
        rw [if_neg c2, c_isPull_, kc_some]
        have z1 : 1 ≤ l1.toInt ∧ l1.toInt ≤ 800 := by omega
        by_cases c3 : (0 ≤ l2.toInt ∧ l2.toInt ≤ 99) ∧ (1 ≤ l3.toInt ∧ l3.toInt ≤ 300)
        · rw [if_pos c3, if_neg (by decide), kP_c0_4 hLC, kO_c7 hLC]
          obtain ⟨F, hf, -, hF⟩ := I_N c3.1.1 c3.1.2 (by decide)
          obtain ⟨N, hn, hN1, hNl⟩ := I_N c3.2.1 c3.2.2 (by decide)
          obtain ⟨nd, nc, nh, hd, hc, -, nd4, nc4, -⟩ := h.cnt
          obtain ⟨r, S1, T1, i1, i2, i3, i4⟩ := best_out h (N := N) (t0 := l1) hb hf (by omega) (by omega) z1.1 nd4 hd nd 100000 100000 0 S S (-1000000) (-1) (SX.rf S) (SX.rf S) (by omega) (by omega) (by omega)
          obtain ⟨r2, S2, T2, j1, j2, j3, j4⟩ := best_out h (N := N) (t0 := l1) hb hf (by omega) (by omega) z1.1 nd4 hd nd 100000 100000 0 S (wI S1 33 0 0) (-1000000) (-1) (SX.rf S) (i3.tr (SX.w0 S1)) (by omega) (by omega) (by omega)
          obtain ⟨rfl, rfl⟩ := Prod.mk.inj (det i1 j1)
          refine ⟨r, S1, T2, ?_, ?_, h.to j4⟩
          · unfold s_X4_bestOf
            rw [hn]
            show kc (s_X4_bestOf_L10 7 100000 S (some b) l1 l2 (nI N) (-1000000) (-1) (nI 0)) _ = _
            rw [i1, kc_some]
          · rw [mo S1 i3, if_pos z1, if_pos c3.1, if_pos c3.2, hn]
            exact j2
        · rw [if_neg c3, if_pos rfl]
          refine ⟨-1000001, S, wI S 33 0 0, rfl, ?_, h.to g0⟩
          rw [mo S (SX.rf S), if_pos z1]
          by_cases y : 0 ≤ l2.toInt ∧ l2.toInt ≤ 99
          · rw [if_pos y, if_neg (fun x => c3 ⟨y, x⟩)]
          · rw [if_neg y]
