/-! ===== box ===== -/
def bT (T : HS) : HS := wC (wI (wI (wI (wI (wI T 33 0 0) 33 11 (hI T 33 9)) 33 9 0) 33 12 0) 33 17 0) 38 (fun b => if b < 131 then 0 else hI T 38 b)
theorem m_zero38 : ∀ (m F i : Nat) (T : HS), LM T → m < F → i + m = 131 → s_X12_box_L30 33 F T (nI i) = kcv (s_X12_next (wC T 38 (fun b => if i ≤ b ∧ b < 131 then 0 else hI T 38 b)) 33) mXB := by
  intro m
  induction m with
  | zero =>
    intro F i T h hF hi
    obtain ⟨F, rfl⟩ : ∃ z, F = z + 1 := ⟨F - 1, by omega⟩
    show s_X12_box_b30 _ 33 T (nI i) = _
    unfold s_X12_box_b30
    have e : (fun b => if i ≤ b ∧ b < 131 then 0 else hI T 38 b) = hI T 38 := funext fun b => if_neg (by omega)
    rw [if_pos (show (131 : Int32) ≤ nI i from (nI_le_iff (a := 131) (by omega) (by omega)).mpr (by omega)), e, wC_self, kO_m h]
    rfl
  | succ m ih =>
    intro F i T h hF hi
    obtain ⟨F, rfl⟩ : ∃ z, F = z + 1 := ⟨F - 1, by omega⟩
    show s_X12_box_b30 _ 33 T (nI i) = _
    unfold s_X12_box_b30
    rw [if_neg (fun z => by have : 131 ≤ i := (nI_le_iff (a := 131) (by omega) (by omega)).mp z; omega), kP_m6 h, kwA_m38 h rfl (by omega), nI_1, ih F (i + 1) _ (by exact h) (by omega) (by omega)]
    refine congrArg (fun X => kcv (s_X12_next X 33) mXB) ?_
    rw [wI_wC, wC_wC, hI_wC_self]
    refine congrArg (wC T 38) (funext fun b => ?_)
    unfold rup
    by_cases e : b = i
    · rw [if_neg (by omega), if_pos e, if_pos (by omega)]
    · by_cases e2 : i + 1 ≤ b ∧ b < 131
      · rw [if_pos e2, if_pos (by omega)]
      · rw [if_neg e2, if_neg e, if_neg (by omega)]
theorem m_boxA {T : HS} (h : LM T) : s_X12_box T 33 = kcv (s_X12_next (bT T) 33) mXB := by
  unfold s_X12_box
  rw [kwI_m h, kI_m (by exact h), kwI_m (by exact h), kwI_m (by exact h), kwI_m (by exact h), kwI_m (by exact h)]
  have e := m_zero38 131 100000 0 (wI (wI (wI (wI (wI T 33 0 0) 33 11 (hI (wI T 33 0 0) 33 9)) 33 9 0) 33 12 0) 33 17 0) (by exact h) (by decide) (by decide)
  refine (show s_X12_box_L30 33 100000 _ 0 = _ from e).trans ?_
  rw [hI_wI_j (show (9 : Nat) ≠ 0 by decide)]
  refine congrArg (fun X => kcv (s_X12_next X 33) mXB) ?_
  unfold bT
  refine congrArg (wC _ 38) (funext fun b => ?_)
  rw [hI_wI_ne (by decide), hI_wI_ne (by decide), hI_wI_ne (by decide), hI_wI_ne (by decide), hI_wI_ne (by decide)]
  by_cases z : b < 131
  · rw [if_pos z, if_pos ⟨Nat.zero_le _, z⟩]
  · rw [if_neg z, if_neg (fun q => z q.2)]
theorem m_copy37 : ∀ (m F i : Nat) (T : HS), LM T → m < F → i + m = 131 → s_X12_box_L179 33 F T (nI i) = s_X12_box_L206 33 100000 (wC T 37 (fun b => if i ≤ b ∧ b < 131 then hI T 38 b else hI T 37 b)) 0 := by
  intro m
  induction m with
  | zero =>
    intro F i T h hF hi
    obtain ⟨F, rfl⟩ : ∃ z, F = z + 1 := ⟨F - 1, by omega⟩
    show s_X12_box_b179 _ 33 T (nI i) = _
    unfold s_X12_box_b179
    have e : (fun b => if i ≤ b ∧ b < 131 then hI T 38 b else hI T 37 b) = hI T 37 := funext fun b => if_neg (by omega)
    rw [if_pos (show (131 : Int32) ≤ nI i from (nI_le_iff (a := 131) (by omega) (by omega)).mpr (by omega)), e, wC_self]
  | succ m ih =>
    intro F i T h hF hi
    obtain ⟨F, rfl⟩ : ∃ z, F = z + 1 := ⟨F - 1, by omega⟩
    show s_X12_box_b179 _ 33 T (nI i) = _
    unfold s_X12_box_b179
    rw [if_neg (fun z => by have : 131 ≤ i := (nI_le_iff (a := 131) (by omega) (by omega)).mp z; omega), kP_m5 h, kP_m6 h, kA_m38 h rfl (by omega), kwA_m37 h rfl (by omega), nI_1, ih F (i + 1) _ (by exact h) (by omega) (by omega)]
    refine congrArg (fun X => s_X12_box_L206 33 100000 X 0) ?_
    rw [hI_wI_ne (by decide : (38 : Nat) ≠ 37), wI_wC, wC_wC, hI_wC_self]
    refine congrArg (wC T 37) (funext fun b => ?_)
    unfold rup
    by_cases e : b = i
    · rw [if_neg (by omega), if_pos e, if_pos (by omega), e]
    · by_cases e2 : i + 1 ≤ b ∧ b < 131
      · rw [if_pos e2, if_pos (by omega)]
      · rw [if_neg e2, if_neg e, if_neg (by omega)]
theorem m_zero40 : ∀ (m F i : Nat) (T : HS), LM T → m < F → i + m = 12 → s_X12_box_L206 33 F T (nI i) = some (hI T 37 0, wC T 40 (fun b => if i ≤ b ∧ b < 12 then 0 else hI T 40 b)) := by
  intro m
  induction m with
  | zero =>
    intro F i T h hF hi
    obtain ⟨F, rfl⟩ : ∃ z, F = z + 1 := ⟨F - 1, by omega⟩
    show s_X12_box_b206 _ 33 T (nI i) = _
    unfold s_X12_box_b206
    have e : (fun b => if i ≤ b ∧ b < 12 then 0 else hI T 40 b) = hI T 40 := funext fun b => if_neg (by omega)
    rw [if_pos (show (12 : Int32) ≤ nI i from (nI_le_iff (a := 12) (by omega) (by omega)).mpr (by omega)), e, wC_self, kP_m5 h, kA_m37 h (i := 0) (k := 0) rfl (by decide)]
  | succ m ih =>
    intro F i T h hF hi
    obtain ⟨F, rfl⟩ : ∃ z, F = z + 1 := ⟨F - 1, by omega⟩
    show s_X12_box_b206 _ 33 T (nI i) = _
    unfold s_X12_box_b206
    rw [if_neg (fun z => by have : 12 ≤ i := (nI_le_iff (a := 12) (by omega) (by omega)).mp z; omega), kP_m24 h, kwA_m40 h rfl (by omega), nI_1, ih F (i + 1) _ (by exact h) (by omega) (by omega)]
    rw [hI_wI_ne (by decide : (37 : Nat) ≠ 40), wI_wC, wC_wC, hI_wC_self]
    refine congrArg (fun f => some (hI T 37 0, wC T 40 f)) (funext fun b => ?_)
    unfold rup
    by_cases e : b = i
    · rw [if_neg (by omega), if_pos e, if_pos (by omega)]
    · by_cases e2 : i + 1 ≤ b ∧ b < 12
      · rw [if_pos e2, if_pos (by omega)]
      · rw [if_neg e2, if_neg e, if_neg (by omega)]
/-- the reference, once the BOX was read -/
def eT (T : HS) : HS := wC (wC (wI T 33 7 1) 37 (fun b => if b < 131 then hI T 38 b else hI T 37 b)) 40 (fun b => if b < 12 then 0 else hI T 40 b)
theorem m_boxE {T : HS} (h : LM T) : s_X12_box_b149 33 T = if hI T 33 17 ≤ 0 then some (hI T 38 0, eT T) else some (-1000100 - hI T 33 18, wI T 33 10 (hI T 33 17)) := by
  unfold s_X12_box_b149
  rw [kI_m h]
  by_cases z : hI T 33 17 ≤ 0
  · rw [if_pos z, if_pos z, kwZ_m1 h]
    have e1 := m_copy37 131 100000 0 (wI T 33 7 1) (by exact h) (by decide) (by decide)
    refine (show s_X12_box_L179 33 100000 _ 0 = _ from e1).trans ?_
    refine (m_zero40 12 100000 0 _ (by exact h) (by decide) (by decide)).trans ?_
    rw [hI_wC_self]
    refine congrArg some (Prod.ext ?_ ?_)
    · show (if (0 : Nat) ≤ 0 ∧ (0 : Nat) < 131 then hI (wI T 33 7 1) 38 0 else hI (wI T 33 7 1) 37 0) = hI T 38 0
      rw [if_pos (by decide), hI_wI_ne (by decide)]
    · show wC (wC (wI T 33 7 1) 37 _) 40 _ = wC (wC (wI T 33 7 1) 37 _) 40 _
      rw [hI_wI_ne (by decide), hI_wI_ne (by decide), hI_wC_ne (by decide), hI_wI_ne (by decide)]
      simp only [Nat.zero_le, true_and]
  · rw [if_neg z, if_neg z, kI_m h, kwI_m h, kI_m (by exact h), hI_wI_j (by decide)]
theorem LC.p4 {S : HS} (h : LC S) (v : Option Nat) : LC (wP S 4 1 v) := h.lo (Nat.le_refl _) (fun _ _ => ⟨rfl, rfl⟩) (fun c _ c4 _ _ _ => by rw [hP_wP_ne c4]) (hP_wP_j (by decide)) (hP_wP_ne (by decide)) (hP_wP_ne (by decide)) (hP_wP_ne (by decide)) (fun j _ => by rw [hP_wP_ne (by decide)])
theorem c_boxE {S S5 : HS} {b nd : Nat} (hC0 : LC S) (e : s_X10_readBox S 2 = s_X10_readBox_b127 2 S5 (some b)) (hC : LC S5) (xb : b < hN S5) (kb : hK S5 b = 1) (en : hI S5 b 3 = nI nd) (b46 : 46 ≤ b) : s_X11_box S 0 = if hI S5 2 2 = 0 then some (nI nd, wP (wP (wI S5 2 1 0) 4 1 (some b)) 5 2 none) else some (-1000100 - hI S5 2 3, wI (wI S5 2 1 0) 0 6 (hI S5 2 2)) := by
  have hC4 : LC (wP (wI S5 2 1 0) 4 1 (some b)) := LC.p4 (S := wI S5 2 1 0) hC _
  unfold s_X11_box
  rw [kP_c0_1 hC0, kO_c2 hC0, e]
  unfold s_X10_readBox_b127
  rw [kwI_c2 hC, kI_c2 (by exact hC), hI_wI_j (by decide)]
  by_cases z : hI S5 2 2 = 0
  · rw [if_pos z, if_pos z, kc_some, if_neg (by simp), kP_c0_2 (by exact hC), kwP_c4 (by exact hC), kP_c0_2 hC4, kP_c4_0 hC4, kO_c5 hC4]
    unfold s_X8_end
    rw [kwP_c5 hC4, kcv_some, kI_some (by exact xb) (by exact kb)]
    refine congrArg (fun v => some (v, wP (wP (wI S5 2 1 0) 4 1 (some b)) 5 2 none)) ?_
    show hI (wI S5 2 1 0) b 3 = _
    rw [hI_wI_ne (by omega)]
    exact en
  · rw [if_neg z, if_neg z, kc_some, if_pos rfl, kP_c0_1 (by exact hC), kI_c2 (by exact hC), kwI_c0 (by exact hC), kP_c0_1 (by exact hC), kI_c2 (by exact hC), hI_wI_ne (by decide), hI_wI_j (by decide), hI_wI_j (by decide)]
theorem BX.of {S : HS} {b a0 a1 a2 nd nc nh M z : Nat} {β γ : Nat → Int32} (hB : CBM S b a0 a1 a2 nd nc nh M) (hP : PBM S β a0 a1 a2 nd nc nh M z) (n1 : 1 ≤ nd ∧ 1 ≤ nc ∧ 1 ≤ nh) (e : ∀ i, i < 131 → γ i = β i) : BX S b γ := by
  obtain ⟨⟨m1, m2, m3, m4, m5, m6, m7, m8, m9⟩, kb, ⟨e3, e4, e5⟩, ⟨n4, c4, h4⟩, ⟨p0, p1, p2⟩, ⟨q0, q1, q2⟩, ⟨r0, r1, r2⟩⟩ := hB
  obtain ⟨⟨β0, β1, β2⟩, hD, hQ, hH, -⟩ := hP
  refine ⟨m1, by omega, kb, nd, nc, nh, a0, a1, a2, by omega, ⟨by rw [e 0 (by decide)]; exact β0, by rw [e 1 (by decide)]; exact β1, by rw [e 2 (by decide)]; exact β2⟩, ⟨e3, e4, e5⟩, ⟨p0, by omega, by omega, p1, p2⟩, ⟨q0, by omega, by omega, q1, q2⟩, ⟨r0, by omega, by omega, r1, r2⟩, ?_, ?_, ?_⟩
  · intro i hi
    obtain ⟨c, c1, c2, c3, c4', c5, c6⟩ := hD i hi
    exact ⟨c, c1, c2, by omega, c4', fun j hj => by rw [e _ (by omega)]; exact c5 j hj, c6⟩
  · intro i hi
    obtain ⟨c, c1, c2, c3, c4', c5, c6⟩ := hQ i hi
    exact ⟨c, c1, c2, by omega, c4', fun j hj => by rw [e _ (by omega)]; exact c5 j hj, c6⟩
  · intro i hi
    obtain ⟨c, ra, m, c1, c2, c3, c4', c5, c6, c7, c8, c9, c10, c11, c12, c13⟩ := hH i hi
    refine ⟨c, ra, m, c1, c2, by omega, c4', c5, c6, by rw [e _ (by omega)]; exact c7, c8, c9, by omega, c11, c12, fun u hu => ?_⟩
    obtain ⟨z, F, z1, z2, z3, z4, z5, z6⟩ := c13 u hu
    exact ⟨z, F, z1, z2, by omega, z4, fun j hj => by rw [e _ (by omega)]; exact z5 j hj, z6⟩
theorem RR.z5 {S : HS} (h : RR S) : hI S 5 11 = 0 ∨ hI S 5 11 = 1 := by
  have h6 := h.2.2.2.2.2.1
  cases hb : hP S 4 1 with
  | none =>
    rw [hb] at h6
    exact h6.2.2.2.2.2.2
  | some b =>
    rw [hb] at h6
    have h7 := h6.2.2
    unfold RN at h7
    cases hr : hP S 5 2 with
    | none =>
      rw [hr] at h7
      exact h7.2
    | some hd =>
      rw [hr] at h7
      dsimp only at h7
      obtain ⟨-, a0, a1, a2, d, k, g, c, q, -, -, -, -, -, -, -, -, -, -, -, -, -, h8, -⟩ := h7
      exact h8
theorem RR.boxed {S S5 C R : HS} (h : RR S) (f : FB (hN S) S S5) (g1 : C.1 = S5.1) (gP : ∀ a, a ≠ 4 → a ≠ 5 → hP C a = hP S5 a) (gP4 : hP C 4 0 = hP S5 4 0) (gI : ∀ a, a ≠ 0 → a ≠ 2 → hI C a = hI S5 a) (r1 : R.1 = C.1) (rP : hP R = hP C) (rI : ∀ a, a ≠ 33 → a ≠ 37 → a ≠ 38 → a ≠ 40 → hI R a = hI C a) (r33 : ∀ j, j = 1 ∨ j = 25 ∨ j = 31 → hI R 33 j = hI C 33 j) (c21 : hI C 2 1 = 0) (r9 : hI R 33 9 = 0) (c06 : hI C 0 6 = hI R 33 10) (c0 : hI C 0 7 = hI S 0 7 ∧ hI C 0 8 = hI S 0 8) (h77 : hI R 33 7 = hI S 33 7 ∨ hI R 33 7 = 1) (hR : AG S R → SR R (hP R 4 1) (hP R 5) (hI R 5) (hI R 33 7) (hI R 37) (hI R 40)) : RR R := by
  have b46 : 46 ≤ hN S := h.1.1
  have hn : hN S ≤ hN R := by rw [eqN r1, eqN g1]; exact f.1
  have hk : ∀ c, c < hN S → hK R c = hK S c ∧ hL R c = hL S c := fun c hc => ⟨(eqK r1 c).trans ((eqK g1 c).trans (f.2.1 c hc).1), (eqL r1 c).trans ((eqL g1 c).trans (f.2.1 c hc).2.1)⟩
  have hi : ∀ a, a < hN S → a ≠ 0 → a ≠ 2 → a ≠ 33 → a ≠ 37 → a ≠ 38 → a ≠ 40 → hI R a = hI S a := fun a ha a0 a2 a33 a37 a38 a40 => by rw [rI a a33 a37 a38 a40, gI a a0 a2, f.2.2.1 a ha a2]
  have hp : ∀ a, a < hN S → a ≠ 4 → a ≠ 5 → hP R a = hP S a := fun a ha a4 a5 => by rw [rP, gP a a4 a5, (f.2.1 a ha).2.2]
  have hag : AG S R := ⟨hn, fun c h1 h2 => ⟨(hk c h2).1, (hk c h2).2, hi c h2 (by omega) (by omega) (by omega) (by omega) (by omega) (by omega), hp c h2 (by omega) (by omega)⟩⟩
  have s33 : ∀ j, j = 1 ∨ j = 25 ∨ j = 31 → hI R 33 j = hI S 33 j := fun j hj => by rw [r33 j hj, gI 33 (by decide) (by decide), f.2.2.1 33 (by omega) (by decide)]
  refine h.scene hn (fun c hc => hk c (by omega)) hag (fun a ha a4 a5 => hp a (by omega) a4 a5) (by rw [rP, gP4, (f.2.1 4 (by omega)).2.2]) (fun a ha => hi a (by omega) (by omega) (by omega) (by omega) (by omega) (by omega) (by omega)) ⟨0, by decide, ?_, r9, fun j hj => absurd hj (by omega)⟩ ⟨?_, ?_, ?_⟩ (s33 31 (by decide)) h77 (hR hag)
  · rw [rI 2 (by decide) (by decide) (by decide) (by decide)]
    exact c21
  · rw [rI 0 (by decide) (by decide) (by decide) (by decide)]
    exact c06
  · rw [rI 0 (by decide) (by decide) (by decide) (by decide), s33 1 (by decide), c0.1]
    exact h.2.2.2.2.1.2.1
  · rw [rI 0 (by decide) (by decide) (by decide) (by decide), s33 25 (by decide), c0.2]
    exact h.2.2.2.2.1.2.2
theorem ok_box {S : HS} (h : RR S) : CK (fun S => s_X11_box S 0) (fun S => s_X12_box S 33) S := by
  have hC := h.2.1
  have b46 : 46 ≤ hN S := h.1.1
  obtain ⟨n, n5, e1, e2, hj⟩ := h.2.2.2.1
  have hB : ∀ j, j < n → (hI S 39 j).toInt.toNat < 256 ∧ hI S 3 j = cb (hI S 39 j).toInt.toNat ∧ hI S 39 j = nI (hI S 39 j).toInt.toNat := by
    intro j hjn
    obtain ⟨z, z1, z2, z3⟩ := hj j hjn
    have ez : (hI S 39 j).toInt.toNat = z := by rw [z2, nI_toInt (by omega)]; rfl
    rw [ez]
    exact ⟨z1, z3, z2⟩
  have hBC : BC S n (fun j => (hI S 39 j).toInt.toNat) := ⟨hC, e1, n5, fun j hjn => ⟨(hB j hjn).1, (hB j hjn).2.1⟩⟩
  have good : ∀ T, LM T → hI T 33 9 = nI n → hI T 39 = hI S 39 → BM (bT T) n (fun j => (hI S 39 j).toInt.toNat) ∧ hI (bT T) 33 12 = 0 ∧ hI (bT T) 33 17 = 0 ∧ ∀ j, j < 131 → hI (bT T) 38 j = 0 := by
    intro T hT t9 t39
    unfold bT
    refine ⟨⟨hT, ?_, n5, fun j hjn => ⟨(hB j hjn).1, ?_⟩⟩, ?_, ?_, fun j hj => ?_⟩
    · rw [hI_wC_ne (by decide), hI_wI_j (by decide), hI_wI_j (by decide), hI_wI_j (by decide), hI_wI_self]
      exact t9
    · rw [hI_wC_ne (by decide), hI_wI_ne (by decide), hI_wI_ne (by decide), hI_wI_ne (by decide), hI_wI_ne (by decide), hI_wI_ne (by decide), t39]
      exact (hB j hjn).2.2
    · rw [hI_wC_ne (by decide), hI_wI_j (by decide), hI_wI_self]
    · rw [hI_wC_ne (by decide), hI_wI_self]
    · rw [hI_wC_self, if_pos hj]
  have cls : ∃ r C, s_X11_box S 0 = some (r, C) ∧ LM C ∧ hI C 33 = hI S 33 ∧ hI C 39 = hI S 39 := by
    obtain ⟨g1, g2, g3, g4⟩ := good S h.1 e2 rfl
    obtain ⟨S5, T5, a0, a1, a2, nd, nc, nh, M, z, a, -, hX, f, -, -⟩ := box_read hBC g1 g2 g3 g4
    have hB5 := hX.2.1
    have eq := c_boxE hC a hX.1.1.1 hB5.b hB5.2.1 hB5.2.2.1.1 b46
    have hM5 : LM S5 := h.1.lo f.1 (fun c hc => ⟨(f.2.1 c (by omega)).1, (f.2.1 c (by omega)).2.1⟩) (f.2.1 33 (by omega)).2.2
    by_cases q : hI S5 2 2 = 0
    · rw [if_pos q] at eq
      refine ⟨_, _, eq, hM5.lo (Nat.le_refl _) (fun _ _ => ⟨rfl, rfl⟩) ?_, ?_, ?_⟩
      · rw [hP_wP_ne (by decide), hP_wP_ne (by decide)]
        rfl
      · show hI (wI S5 2 1 0) 33 = _
        rw [hI_wI_ne (by decide), f.2.2.1 33 (by omega) (by decide)]
      · show hI (wI S5 2 1 0) 39 = _
        rw [hI_wI_ne (by decide), f.2.2.1 39 (by omega) (by decide)]
    · rw [if_neg q] at eq
      refine ⟨_, _, eq, hM5, ?_, ?_⟩
      · rw [hI_wI_ne (by decide), hI_wI_ne (by decide), f.2.2.1 33 (by omega) (by decide)]
      · rw [hI_wI_ne (by decide), hI_wI_ne (by decide), f.2.2.1 39 (by omega) (by decide)]
  obtain ⟨r, C, eC, hMC, c33, c39⟩ := cls
  obtain ⟨g1, g2, g3, g4⟩ := good C hMC (by rw [c33]; exact e2) c39
  obtain ⟨S5, T5, a0, a1, a2, nd, nc, nh, M, z, a, b, hX, f, u, g⟩ := box_read hBC g1 g2 g3 g4
  have hB5 := hX.2.1
  have hM5 := hX.1.2.1.1
  have eq := c_boxE hC a hX.1.1.1 hB5.b hB5.2.1 hB5.2.2.1.1 b46
  have eR : s_X12_box C 33 = _ := (m_boxA hMC).trans (b.trans (m_boxE hM5))
  obtain ⟨φ, φ3, x1, x2, x3⟩ := hX.1.2.2.2
  have t1 : T5.1 = C.1 := u.1
  have tP : hP T5 = hP C := u.2.1
  have tI : ∀ a, a ≠ 33 → a ≠ 38 → hI T5 a = hI C a := fun a a33 a38 => by
    rw [u.2.2.1 a a33 a38]
    unfold bT
    rw [hI_wC_ne a38, hI_wI_ne a33, hI_wI_ne a33, hI_wI_ne a33, hI_wI_ne a33, hI_wI_ne a33]
  have t33 : ∀ j, j = 1 ∨ j = 7 ∨ j = 10 ∨ j = 25 ∨ j = 31 → hI T5 33 j = hI C 33 j := fun j hj => by
    rw [u.2.2.2 j (by omega)]
    unfold bT
    rw [hI_wC_ne (by decide), hI_wI_j (by omega), hI_wI_j (by omega), hI_wI_j (by omega), hI_wI_j (by omega), hI_wI_j (by omega)]
  have t9 : hI T5 33 9 = 0 := by
    rw [u.2.2.2 9 (by decide)]
    unfold bT
    rw [hI_wC_ne (by decide), hI_wI_j (by decide), hI_wI_j (by decide), hI_wI_self]
  rcases hX.1.f0 with ⟨f1, f2⟩ | ⟨f1, f2, f3⟩
  · rw [if_pos f1, eC] at eq
    have eCC : C = wP (wP (wI S5 2 1 0) 4 1 (some (hN S))) 5 2 none := congrArg Prod.snd (Option.some.inj eq)
    have er : r = nI nd := congrArg Prod.fst (Option.some.inj eq)
    rw [if_pos (by rw [f2]; decide)] at eR
    have hPB := hX.2.2 f1
    refine ⟨r, C, eT T5, eC, ?_, ?_⟩
    · show s_X12_box C 33 = _
      rw [eR, hPB.1.1, er]
    · have k1 : C.1 = S5.1 := by rw [eCC]; rfl
      have kP : ∀ a, a ≠ 4 → a ≠ 5 → hP C a = hP S5 a := fun a a4 a5 => by rw [eCC, hP_wP_ne a5, hP_wP_ne a4]; rfl
      have kI : ∀ a, a ≠ 2 → hI C a = hI S5 a := fun a a2 => by
        rw [eCC]
        show hI (wI S5 2 1 0) a = _
        rw [hI_wI_ne a2]
      have k21 : hI C 2 1 = 0 := by
        rw [eCC]
        show hI (wI S5 2 1 0) 2 1 = _
        rw [hI_wI_self]
      have k41 : hP C 4 1 = some (hN S) := by rw [eCC, hP_wP_ne (by decide), hP_wP_self]
      have k40 : hP C 4 0 = hP S5 4 0 := by rw [eCC, hP_wP_ne (by decide), hP_wP_j (by decide)]; rfl
      have k52 : hP C 5 2 = none := by rw [eCC, hP_wP_self]
      have rI : ∀ a, a ≠ 33 → a ≠ 37 → a ≠ 38 → a ≠ 40 → hI (eT T5) a = hI C a := fun a a33 a37 a38 a40 => by
        unfold eT
        rw [hI_wC_ne a40, hI_wC_ne a37, hI_wI_ne a33, tI a a33 a38]
      have r33 : ∀ j, j ≠ 7 → hI (eT T5) 33 j = hI T5 33 j := fun j hj => by
        unfold eT
        rw [hI_wC_ne (by decide), hI_wC_ne (by decide), hI_wI_j hj]
      have r7 : hI (eT T5) 33 7 = 1 := by
        unfold eT
        rw [hI_wC_ne (by decide), hI_wC_ne (by decide), hI_wI_self]
      have r37 : ∀ i, i < 131 → hI (eT T5) 37 i = hI T5 38 i := fun i hi => by
        unfold eT
        rw [hI_wC_ne (by decide), hI_wC_self, if_pos hi]
      have r40 : hI (eT T5) 40 0 = 0 := by
        unfold eT
        rw [hI_wC_self, if_pos (by decide)]
      have rP : hP (eT T5) = hP C := tP
      have s33 : hI C 33 10 = hI S 33 10 := by rw [c33]
      have s0 : hI C 0 = hI S 0 := by rw [kI 0 (by decide), f.2.2.1 0 (by omega) (by decide)]
      refine h.boxed (C := C) f k1 kP k40 (fun a _ a2 => kI a a2) t1 rP rI (fun j hj => ?_) k21 ?_ ?_ ⟨by rw [s0], by rw [s0]⟩ (Or.inr r7) (fun _ => ?_)
      · rw [r33 j (by omega), t33 j (by omega)]
      · rw [r33 9 (by decide)]
        exact t9
      · rw [r33 10 (by decide), t33 10 (by decide), s0, s33]
        exact h.2.2.2.2.1.1
      · rw [rP, k41]
        have ag : AG S5 (eT T5) := ⟨Nat.le_of_eq ((eqN t1).trans (eqN k1)).symm, fun c h1 _ => ⟨(eqK t1 c).trans (eqK k1 c), (eqL t1 c).trans (eqL k1 c), by rw [rI c (by omega) (by omega) (by omega) (by omega), kI c (by omega)], by rw [rP, kP c (by omega) (by omega)]⟩⟩
        refine ⟨r7, (BX.of hB5 hPB (g f1) r37).keep ag, ?_⟩
        unfold RN
        rw [k52]
        dsimp only
        refine ⟨r40, ?_⟩
        rw [rI 5 (by decide) (by decide) (by decide) (by decide), kI 5 (by decide), f.2.2.1 5 (by omega) (by decide)]
        exact h.z5
  · rw [if_neg f1, eC] at eq
    have eCC : C = wI (wI S5 2 1 0) 0 6 (hI S5 2 2) := congrArg Prod.snd (Option.some.inj eq)
    have er : r = -1000100 - hI S5 2 3 := congrArg Prod.fst (Option.some.inj eq)
    rw [if_neg f3] at eR
    have nφ : φ ≠ 0 := fun q => f1 (by rw [x1, q]; rfl)
    refine ⟨r, C, wI T5 33 10 (hI T5 33 17), eC, ?_, ?_⟩
    · show s_X12_box C 33 = _
      rw [eR, er, x3 nφ]
    · have k1 : C.1 = S5.1 := by rw [eCC]; rfl
      have kP : hP C = hP S5 := by rw [eCC]; rfl
      have kI : ∀ a, a ≠ 0 → a ≠ 2 → hI C a = hI S5 a := fun a a0 a2 => by rw [eCC, hI_wI_ne a0, hI_wI_ne a2]
      have k21 : hI C 2 1 = 0 := by rw [eCC, hI_wI_ne (by decide), hI_wI_self]
      have k06 : hI C 0 6 = hI S5 2 2 := by rw [eCC, hI_wI_self]
      have k0 : ∀ j, j ≠ 6 → hI C 0 j = hI S 0 j := fun j hj => by rw [eCC, hI_wI_j hj, hI_wI_ne (by decide), f.2.2.1 0 (by omega) (by decide)]
      have rI : ∀ a, a ≠ 33 → a ≠ 38 → hI (wI T5 33 10 (hI T5 33 17)) a = hI C a := fun a a33 a38 => by rw [hI_wI_ne a33, tI a a33 a38]
      have r33 : ∀ j, j ≠ 10 → hI (wI T5 33 10 (hI T5 33 17)) 33 j = hI T5 33 j := fun j hj => hI_wI_j hj
      have rP : hP (wI T5 33 10 (hI T5 33 17)) = hP C := tP
      have s33 : ∀ j, hI C 33 j = hI S 33 j := fun j => by rw [c33]
      have r7 : hI (wI T5 33 10 (hI T5 33 17)) 33 7 = hI S 33 7 := by rw [r33 7 (by decide), t33 7 (by decide), s33]
      have sI : ∀ a, a < hN S → a ≠ 0 → a ≠ 2 → a ≠ 33 → a ≠ 38 → hI (wI T5 33 10 (hI T5 33 17)) a = hI S a := fun a ha a0 a2 a33 a38 => by rw [rI a a33 a38, kI a a0 a2, f.2.2.1 a ha a2]
      refine h.boxed (C := C) f k1 (fun a _ _ => by rw [kP]) (by rw [kP]) kI t1 rP (fun a a33 _ a38 _ => rI a a33 a38) (fun j hj => ?_) k21 ?_ ?_ ⟨k0 7 (by decide), k0 8 (by decide)⟩ (Or.inl r7) (fun ag => ?_)
      · rw [r33 j (by omega), t33 j (by omega)]
      · rw [r33 9 (by decide)]
        exact t9
      · rw [hI_wI_self, k06, x1, x2]
      · rw [r7, sI 5 (by omega) (by decide) (by decide) (by decide) (by decide), sI 37 (by omega) (by decide) (by decide) (by decide) (by decide), sI 40 (by omega) (by decide) (by decide) (by decide) (by decide), rP, kP, (f.2.1 4 (by omega)).2.2, (f.2.1 5 (by omega)).2.2]
        exact h.2.2.2.2.2.1.keep ag
