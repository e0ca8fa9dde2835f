/-! ===== tune: playing ===== -/
theorem lN_absI {x : Int64} {n : Nat} (h : x.toInt.natAbs = n) (hn : n < 2 ^ 62) : (if 0 ≤ x then x else -x) = lN n := by
  by_cases c : 0 ≤ x
  · have := i64_le.mp c
    rw [show (0 : Int64).toInt = 0 from rfl] at this
    rw [if_pos c]
    exact i64_of (by omega) (by omega)
  · have : ¬ _ := fun z => c (i64_le.mpr z)
    rw [show (0 : Int64).toInt = 0 from rfl] at this
    rw [if_neg c]
    refine i64_of ?_ (by omega)
    rw [Int64.toInt_neg, Int.bmod_eq_of_le (by omega) (by omega)]
    omega
theorem TW.sp {S T S2 : HS} {c q d k F p : Nat} {f lamp : Int32} (h : TW S T c q d k) (hf : f = nI F) (hF : F ≤ 99) (hl : lamp = nI p) (hp : p ≤ 50) (e : s_X8_tick S 8 f lamp = some S2) : ∃ P : Nat, P ≤ 161000 ∧ hI S2 8 6 = nI P := by
  obtain ⟨hA, p0, p1, hR, hT⟩ := h
  obtain ⟨hLF, hM, hd, hk, hc, hq, hD, hQ, g1, g2⟩ := id hA
  obtain ⟨f0, k7, k8, q0, q3, q4, dn, dk, qn, qk⟩ := id hLF
  have e1 := k_tick0 (f := f) (lamp := lamp) hLF.a8 k8 p0 dn dk p1 qn qk g1.ne
  rw [Option.some.inj (e.symm.trans e1), hI_wC_self, cTk_eq g1 g2 hf hF hl hp hT, cTk_6]
  have hb := (tkV_bd g1 g2 hf hF hT).1
  obtain ⟨W, C, T, e0, e1, e2, hW, hW2, hC, hT, hT2⟩ := g1
  refine ⟨_, ?_, by rw [e1, hl]; exact tkSp_n (by unfold cX; omega) hC hp⟩
  have := spN_le C p (cX (hI S 8) (hI S c) (hI S q) f).toInt.natAbs
  unfold cX at this ⊢
  omega
/-- the digit that thread's time j is pulled by -/
def dg (code k j : Nat) : Nat := if j + 1 = k then code % 10 else if j + 2 = k then code / 10 % 10 else code / 100
theorem dg_le {code k j : Nat} (hk : k = 1 ∧ code < 10 ∨ k = 2 ∧ code < 100 ∨ k = 3 ∧ code < 1000) : dg code k j ≤ 9 := by
  unfold dg
  split
  · omega
  · split
    · omega
    · omega
def pl : Nat → Nat → HS → HS
  | 0, _, S => S
  | m + 1, left, S => pl m (left / 10) (wI (wI S 9 m (nI (10 * (left % 10)))) 10 m 0)
theorem pl_1 (m left : Nat) (S : HS) : (pl m left S).1 = S.1 ∧ hP (pl m left S) = hP S ∧ ∀ a, a ≠ 9 → a ≠ 10 → hI (pl m left S) a = hI S a := by
  induction m generalizing left S with
  | zero => exact ⟨rfl, rfl, fun _ _ _ => rfl⟩
  | succ m ih =>
    obtain ⟨i1, i2, i3⟩ := ih (left / 10) (wI (wI S 9 m (nI (10 * (left % 10)))) 10 m 0)
    exact ⟨i1, i2, fun a h9 h10 => by
      rw [show pl (m + 1) left S = pl m (left / 10) (wI (wI S 9 m (nI (10 * (left % 10)))) 10 m 0) from rfl, i3 a h9 h10, hI_wI_ne h10, hI_wI_ne h9]⟩
theorem pl_9 (m left : Nat) (S : HS) (j : Nat) : hI (pl m left S) 9 j = (if j < m then nI (10 * (left / 10 ^ (m - 1 - j) % 10)) else hI S 9 j) ∧ hI (pl m left S) 10 j = (if j < m then 0 else hI S 10 j) := by
  induction m generalizing left S with
  | zero => exact ⟨(if_neg (by omega)).symm, (if_neg (by omega)).symm⟩
  | succ m ih =>
    obtain ⟨i1, i2⟩ := ih (left / 10) (wI (wI S 9 m (nI (10 * (left % 10)))) 10 m 0)
    rw [show pl (m + 1) left S = pl m (left / 10) (wI (wI S 9 m (nI (10 * (left % 10)))) 10 m 0) from rfl, i1, i2]
    by_cases c : j < m
    · rw [if_pos c, if_pos c, if_pos (by omega), if_pos (by omega), Nat.div_div_eq_div_mul]
      refine ⟨?_, rfl⟩
      rw [show m + 1 - 1 - j = (m - 1 - j) + 1 by omega, Nat.pow_succ, Nat.mul_comm (10 ^ (m - 1 - j)) 10]
    · rw [if_neg c, if_neg c, hI_wI_ne (by decide)]
      by_cases y : j = m
      · subst y
        rw [hI_wI_self, hI_wI_self, if_pos (by omega), if_pos (by omega), show j + 1 - 1 - j = 0 by omega, Nat.pow_zero, Nat.div_one]
        exact ⟨rfl, rfl⟩
      · rw [hI_wI_j y, hI_wI_j y, hI_wI_ne (by decide), if_neg (by omega), if_neg (by omega)]
        exact ⟨rfl, rfl⟩
theorem pl_dg {code k : Nat} (S : HS) (hk : k = 1 ∧ code < 10 ∨ k = 2 ∧ code < 100 ∨ k = 3 ∧ code < 1000) {j : Nat} (hj : j < k) : hI (pl k code S) 9 j = nI (10 * dg code k j) := by
  rw [(pl_9 k code S j).1, if_pos hj]
  unfold dg
  congr 2
  by_cases c : j + 1 = k
  · rw [if_pos c, show k - 1 - j = 0 by omega, Nat.pow_zero, Nat.div_one]
  · rw [if_neg c]
    by_cases c2 : j + 2 = k
    · rw [if_pos c2, show k - 1 - j = 1 by omega, Nat.pow_one]
    · rw [if_neg c2, show k - 1 - j = 2 by omega, show 10 ^ 2 = 100 from rfl]
      omega
theorem nI_rem (a : Nat) (h : a < 2 ^ 31) : nI a - nI a / 10 * 10 = nI (a % 10) := by
  rw [show (10 : Int32) = nI 10 from rfl, pk_div h (by decide) (by decide), nI_mul, nI_sub (by omega)]
  congr 1
  omega
theorem plLoop {k : Nat} {l2 : Int32} : ∀ (m F left : Nat) (S : HS), LC S → m ≤ 3 → left < 1000 → s_X4_playBy_L7 7 (F + m) S l2 (nI left) (nI m + (-1)) = s_X4_playBy_L7 7 F (pl m left S) l2 (nI (left / 10 ^ m)) (-1) := by
  intro m
  induction m with
  | zero =>
    intro F left S h _ _
    rw [Nat.pow_zero, Nat.div_one]
    rfl
  | succ m ih =>
    intro F left S h hm hl
    have e0 : nI (m + 1) + (-1) = nI m := nI_m1 m
    rw [e0, show F + (m + 1) = (F + m) + 1 by omega]
    show s_X4_playBy_b7 (s_X4_playBy_L7 7 (F + m)) 7 S l2 (nI left) (nI m) = _
    unfold s_X4_playBy_b7
    rw [if_neg (nI_pos (by omega)), kP_c7_1 h, krem_ne (by decide), nI_rem left (by omega), show (10 : Int32) = nI 10 from rfl, nI_mul, kwA_c9 h (k := m) rfl (by omega), kP_c7_2 (by exact h), kwA_c10 (by exact h) (k := m) rfl (by omega), kdiv_ne (by decide), pk_div (by omega) (by decide) (by decide), ih F (left / 10) _ (by exact h) (by omega) (by omega)]
    rw [Nat.div_div_eq_div_mul, ← Nat.pow_succ']
    rfl
/-! the reference goes on behind the last time -/
theorem tune_on {d k kk : Nat} {l1 l2 code : Int32} (h1 : l1 = nI d) (h2 : l2 = nI k) (hd : d < 4) (hk : k < 4) (hkk : 1 ≤ kk) (hkk3 : kk ≤ 3) : ∀ (n F2 i : Nat) (T : HS) (Y : Nat), LM T → ¬ hI T 37 (3 + 3 * d) = 0 → kk ≤ Y → Y + n < 2 ^ 30 → n < F2 → i + n = 120 → ∃ T2, s_X12_playTune_L34 33 F2 T l1 l2 code (nI kk) (nI Y) (nI i) = some T2 ∧ SX T T2 ∧ hI T2 41 = hI T 41 := by
  intro n
  induction n with
  | zero =>
    intro F2 i T Y hM hw hY hY2 hF2 hi
    obtain ⟨F2, rfl⟩ : ∃ z, F2 = z + 1 := ⟨F2 - 1, by omega⟩
    obtain rfl : i = 120 := by omega
    refine ⟨T, ?_, SX.rf T, rfl⟩
    show s_X12_playTune_b34 _ 33 T l1 l2 code (nI kk) (nI Y) (nI 120) = _
    unfold s_X12_playTune_b34
    rw [if_pos (by decide)]
  | succ n ih =>
    intro F2 i T Y hM hw hY hY2 hF2 hi
    obtain ⟨F2, rfl⟩ : ∃ z, F2 = z + 1 := ⟨F2 - 1, by omega⟩
    have nle : ¬ (120 : Int32) ≤ nI i := fun z => by have := (nI_le_iff (a := 120) (by decide) (by omega)).mp z; omega
    have x2 : SX T (wC T 33 (mTk (hI T 33) (hI T 37) d k 0 0)) := w33_fr (fun j hj => mTk_fr _ _ _ _ _ _ hj)
    have hM1 := x2.lm hM
    have b134 : ∀ l9, ∃ T2, s_X12_playTune_b134 (s_X12_playTune_L34 33 F2) 33 T l1 l2 code (nI kk) (nI Y) (nI i) 0 l9 (some 33) l1 l2 0 = some T2 ∧ SX T T2 ∧ hI T2 41 = hI T 41 := by
      intro l9
      unfold s_X12_playTune_b134 s_X12_playTune_b168 s_X12_playTune_b182
      rw [kO_m hM, m_tick hM h1 h2 hd hk hw, kcv_some, if_pos rfl, kI_m hM1]
      split
      · obtain ⟨T2, i1, i2, i3⟩ := ih F2 (i + 1) _ Y hM1 (by rw [x2.m37]; exact hw) hY (by omega) (by omega) (by omega)
        rw [← nI_1 i] at i1
        exact ⟨T2, by rw [Int32.add_zero]; exact i1, x2.tr i2, i3.trans (hI_wC_ne (by decide))⟩
      · obtain ⟨T2, i1, i2, i3⟩ := ih F2 (i + 1) _ (Y + 1) hM1 (by rw [x2.m37]; exact hw) (by omega) (by omega) (by omega) (by omega)
        rw [← nI_1 i, ← nI_1 Y] at i1
        exact ⟨T2, i1, x2.tr i2, i3.trans (hI_wC_ne (by decide))⟩
    have b66 : ∃ T2, s_X12_playTune_b66 (s_X12_playTune_L34 33 F2) 33 T l1 l2 code (nI kk) (nI Y) (nI i) = some T2 ∧ SX T T2 ∧ hI T2 41 = hI T 41 := by
      unfold s_X12_playTune_b66 s_X12_playTune_b67
      have b115 : ∀ l9 k0, ∃ T2, s_X12_playTune_b115 (s_X12_playTune_L34 33 F2) 33 T l1 l2 code (nI kk) (nI Y) (nI i) 0 l9 k0 = some T2 ∧ SX T T2 ∧ hI T2 41 = hI T 41 := by
        intro l9 k0
        unfold s_X12_playTune_b115
        rw [if_pos rfl]
        exact b134 l9
      split
      · rw [krem_ne (by decide)]
        exact b115 _ _
      · split
        · rw [kdiv_ne (by decide), krem_ne (by decide)]
          exact b115 _ _
        · rw [kdiv_ne (by decide)]
          exact b115 _ _
    show ∃ T2, s_X12_playTune_b34 (s_X12_playTune_L34 33 F2) 33 T l1 l2 code (nI kk) (nI Y) (nI i) = some T2 ∧ SX T T2 ∧ hI T2 41 = hI T 41
    unfold s_X12_playTune_b34
    rw [if_neg nle, kI_m hM]
    split
    · rw [kO_m hM, hM.u]
      split
      · exact b66
      · rw [if_pos ((nI_le_iff (by omega) (by omega)).mpr hY)]
        exact b66
    · exact ⟨T, rfl, SX.rf T, rfl⟩
theorem play_loop {c q d k code kk : Nat} {l1 l2 : Int32} (h1 : l1 = nI d) (h2 : l2 = nI k) (hkk : kk = 1 ∧ code < 10 ∨ kk = 2 ∧ code < 100 ∨ kk = 3 ∧ code < 1000) : ∀ (n F1 F2 i : Nat) (S T : HS) (Y : Nat), LC S → TW S T c q d k → (∀ j, j < kk → hI S 9 j = nI (10 * dg code kk j)) → hI S 8 10 = nI Y → Y + n < 2 ^ 30 → (∀ j, j < kk → hI S 10 j = hI T 41 j ∧ ∃ P : Nat, P ≤ 161000 ∧ hI S 10 j = nI P) → n < F1 → n < F2 → i + n = 120 → ∃ S2 T2, s_X4_playBy_L52 7 F1 S (nI kk) (nI i) = some S2 ∧ s_X12_playTune_L34 33 F2 T l1 l2 (nI code) (nI kk) (nI Y) (nI i) = some T2 ∧ KS S S2 ∧ SX T T2 ∧ (∀ j, j < kk → hI S2 10 j = hI T2 41 j ∧ ∃ P : Nat, P ≤ 161000 ∧ hI S2 10 j = nI P) := by
  have kk3 : 1 ≤ kk ∧ kk ≤ 3 := by omega
  have e3 : ∀ Y : Nat, Y < 2 ^ 31 → ((nI kk ≤ nI Y) ↔ kk ≤ Y) := fun Y hY => nI_le_iff (by omega) hY
  intro n
  induction n with
  | zero =>
    intro F1 F2 i S T Y hC h g9 g10 hY hl hF1 hF2 hi
    obtain ⟨F1, rfl⟩ : ∃ z, F1 = z + 1 := ⟨F1 - 1, by omega⟩
    obtain ⟨F2, rfl⟩ : ∃ z, F2 = z + 1 := ⟨F2 - 1, by omega⟩
    obtain rfl : i = 120 := by omega
    refine ⟨S, T, ?_, ?_, KS.rf S, SX.rf T, hl⟩
    · show s_X4_playBy_b52 _ 7 S (nI kk) (nI 120) = _
      unfold s_X4_playBy_b52
      rw [if_pos (by decide)]
    · show s_X12_playTune_b34 _ 33 T l1 l2 (nI code) (nI kk) (nI Y) (nI 120) = _
      unfold s_X12_playTune_b34
      rw [if_pos (by decide)]
  | succ n ih =>
    intro F1 F2 i S T Y hC h g9 g10 hY hl hF1 hF2 hi
    have hF2' := hF2
    obtain ⟨F1, rfl⟩ : ∃ z, F1 = z + 1 := ⟨F1 - 1, by omega⟩
    obtain ⟨F2, rfl⟩ : ∃ z, F2 = z + 1 := ⟨F2 - 1, by omega⟩
    have nle : ¬ (120 : Int32) ≤ nI i := fun z => by have := (nI_le_iff (a := 120) (by decide) (by omega)).mp z; omega
    have hX := h.1.1
    have hM := h.1.2.1
    obtain ⟨r19, r20, r21⟩ := h.2.2.2.1
    by_cases c3 : kk ≤ Y
    · obtain ⟨T2, m1, m2, m3⟩ := tune_on (code := nI code) h1 h2 h.1.2.2.1 h.1.2.2.2.1 kk3.1 kk3.2 (n + 1) (F2 + 1) i T Y hM (by
        have := h.1.2.2.2.2.2.2.1 0 (by decide)
        rw [show 3 + 3 * d + 0 = 3 + 3 * d from rfl] at this
        rw [← this]
        exact h.1.2.2.2.2.2.2.2.2.1.ne) c3 hY hF2' hi
      refine ⟨S, T2, ?_, m1, KS.rf S, m2, by rw [m3]; exact hl⟩
      show s_X4_playBy_b52 _ 7 S (nI kk) (nI i) = _
      unfold s_X4_playBy_b52
      rw [if_neg nle, hX.p70, hX.i8, hX.p70, hX.i8, g10, if_pos ((e3 Y (by omega)).mpr c3)]
      split
      · rfl
      · rfl
    · have hYk : Y < kk := by omega
      have n3 : ¬ nI kk ≤ nI Y := fun y => c3 ((e3 Y (by omega)).mp y)
      have dd := dg_le (j := Y) hkk
      -- behind the TICK
      have rest : ∀ (S1 T1 : HS), LC S1 → TW S1 T1 c q d k → KS S S1 → SX T T1 → hI S1 8 10 = nI Y + hI T1 33 23 → (hI T1 33 23 = 0 ∨ hI T1 33 23 = 1) → hI S1 9 = hI S 9 → (∀ j, j < kk → hI S1 10 j = hI T1 41 j ∧ ∃ P : Nat, P ≤ 161000 ∧ hI S1 10 j = nI P) → ∃ S2 T2, s_X4_playBy_b151 (s_X4_playBy_L52 7 F1) 7 S1 (nI kk) (nI i) = some S2 ∧ s_X12_playTune_b168 (s_X12_playTune_L34 33 F2) 33 T1 l1 l2 (nI code) (nI kk) (nI Y) (nI i) = some T2 ∧ KS S S2 ∧ SX T T2 ∧ (∀ j, j < kk → hI S2 10 j = hI T2 41 j ∧ ∃ P : Nat, P ≤ 161000 ∧ hI S2 10 j = nI P) := by
        intro S1 T1 hC1 h1w k1 x1 t7 t8 t9 hl1
        have hM1 := h1w.1.2.1
        unfold s_X4_playBy_b151 s_X12_playTune_b168 s_X12_playTune_b182
        rw [kI_m hM1]
        rcases t8 with z | z
        · rw [if_pos z]
          rw [z, Int32.add_zero] at t7
          obtain ⟨S2, T2, i1, i2, i3, i4, i5⟩ := ih F1 F2 (i + 1) S1 T1 Y hC1 h1w (by rw [t9]; exact g9) t7 (by omega) hl1 (by omega) (by omega) (by omega)
          rw [← nI_1 i] at i1 i2
          exact ⟨S2, T2, i1, by rw [Int32.add_zero]; exact i2, k1.tr i3, x1.tr i4, i5⟩
        · rw [z, if_neg (by decide)]
          rw [z, nI_1] at t7
          obtain ⟨S2, T2, i1, i2, i3, i4, i5⟩ := ih F1 F2 (i + 1) S1 T1 (Y + 1) hC1 h1w (by rw [t9]; exact g9) t7 (by omega) hl1 (by omega) (by omega) (by omega)
          rw [← nI_1 i] at i1 i2
          rw [← nI_1 Y] at i2
          exact ⟨S2, T2, i1, i2, k1.tr i3, x1.tr i4, i5⟩
      have lc : ∀ S1, SX S S1 → LC S1 := fun S1 g => hC.to g.1 g.2.1 g.2.2.1 g.2.2.2.2.2.1 g.2.2.2.2.2.2
      -- no F
      have stop : ∃ S2 T2, s_X4_playBy_b118 (s_X4_playBy_L52 7 F1) 7 S (nI kk) (nI i) (nI Y) 0 (some 8) 0 = some S2 ∧ s_X12_playTune_b134 (s_X12_playTune_L34 33 F2) 33 T l1 l2 (nI code) (nI kk) (nI Y) (nI i) 0 (nI Y) (some 33) l1 l2 0 = some T2 ∧ KS S S2 ∧ SX T T2 ∧ (∀ j, j < kk → hI S2 10 j = hI T2 41 j ∧ ∃ P : Nat, P ≤ 161000 ∧ hI S2 10 j = nI P) := by
        obtain ⟨S1, T1, t1, t2, t3, t4, t5, t6, t7, t8, t9, t10, t11, t12, t13⟩ := h.tick (lamp := 0) (p := 0) h1 h2 (f := 0) (F := 0) rfl (by decide) rfl (by decide)
        rw [g10] at t7
        unfold s_X4_playBy_b118 s_X12_playTune_b134
        rw [hX.o8, kv_some t1, if_pos rfl, kO_m hM, kv_some t2, if_pos rfl]
        exact rest S1 T1 (lc S1 t4.1) t3 t4 t5 t7 t8 (t13 9 (by decide)) (by rw [t13 10 (by decide), t12 41 (by decide)]; exact hl)
      -- F of the digit
      have pulled : ∃ S2 T2, s_X4_playBy_b118 (s_X4_playBy_L52 7 F1) 7 S (nI kk) (nI i) (nI Y) 1 (some 8) (nI (10 * dg code kk Y)) = some S2 ∧ s_X12_playTune_b134 (s_X12_playTune_L34 33 F2) 33 T l1 l2 (nI code) (nI kk) (nI Y) (nI i) 1 (nI Y) (some 33) l1 l2 (nI (10 * dg code kk Y)) = some T2 ∧ KS S S2 ∧ SX T T2 ∧ (∀ j, j < kk → hI S2 10 j = hI T2 41 j ∧ ∃ P : Nat, P ≤ 161000 ∧ hI S2 10 j = nI P) := by
        obtain ⟨S1, T1, t1, t2, t3, t4, t5, t6, t7, t8, t9, t10, t11, t12, t13⟩ := h.tick (lamp := 0) (p := 0) h1 h2 (f := nI (10 * dg code kk Y)) (F := 10 * dg code kk Y) rfl (by omega) rfl (by decide)
        obtain ⟨P, hP1, hP2⟩ := h.sp (f := nI (10 * dg code kk Y)) (F := 10 * dg code kk Y) (lamp := 0) (p := 0) rfl (by omega) rfl (by decide) t1
        rw [g10] at t7
        have hC1 := lc S1 t4.1
        have hM1 := t3.1.2.1
        have e22 : hI T1 33 22 = nI P := by rw [← t6]; exact hP2
        have l1' : ∀ j, j < kk → hI S1 10 j = hI T1 41 j ∧ ∃ P : Nat, P ≤ 161000 ∧ hI S1 10 j = nI P := by rw [t13 10 (by decide), t12 41 (by decide)]; exact hl
        obtain ⟨lY, P0, hP0, hP00⟩ := l1' Y hYk
        unfold s_X4_playBy_b118 s_X12_playTune_b134
        rw [hX.o8, kv_some t1, if_neg (by decide), kP_c7_2 hC1, kP_c7_2 hC1, kA_c10 hC1 (k := Y) rfl (by omega), kP_c7_0 hC1, kI_c8 hC1, kwA_c10 hC1 (k := Y) rfl (by omega), kO_m hM, kv_some t2, if_neg (by decide), kI_m hM1, kP_m26 hM1, kA_m41 hM1 (k := Y) rfl (by omega), fmax_alt, hP2, e22, ← lY, hP00]
        by_cases c5 : nI P ≤ nI P0
        · rw [if_pos c5, if_pos c5]
          have eS : wI S1 10 Y (nI P0) = S1 := by
            rw [← hP00, wI_wC]
            have : rup (hI S1 10) Y (hI S1 10 Y) = hI S1 10 := by
              funext b
              unfold rup
              split
              · next z => rw [z]
              · rfl
            rw [this, wC_self]
          rw [eS]
          exact rest S1 T1 hC1 t3 t4 t5 t7 t8 (t13 9 (by decide)) l1'
        · rw [if_neg c5, if_neg c5, kP_m26 hM1, kI_m hM1, e22, kwA_m41 hM1 (k := Y) rfl (by omega)]
          have kS : KS S1 (wI S1 10 Y (nI P)) := ⟨SX.iw _ (by omega), hI_wI_ne (by decide), rfl⟩
          have xT : SX T1 (wI T1 41 Y (nI P)) := SX.iw _ (by omega)
          have e8 : hI (wI S1 10 Y (nI P)) 8 = hI S1 8 := hI_wI_ne (by decide)
          have e33 : hI (wI T1 41 Y (nI P)) 33 = hI T1 33 := hI_wI_ne (by decide)
          have h3' : TW (wI S1 10 Y (nI P)) (wI T1 41 Y (nI P)) c q d k := by
            refine ⟨t3.1.keep kS xT, t3.2.1, t3.2.2.1, ?_, ?_⟩
            · rw [e8, e33]; exact t3.2.2.2.1
            · rw [e8, kS.1.ge t3.1.2.2.2.2.2.1]; exact t3.2.2.2.2
          refine rest _ _ (by exact hC1) h3' (t4.tr kS) (t5.tr xT) (by rw [e8, e33]; exact t7) (by rw [e33]; exact t8) (by rw [hI_wI_ne (by decide)]; exact t13 9 (by decide)) ?_
          intro j hj
          by_cases y : j = Y
          · subst y
            rw [hI_wI_self, hI_wI_self]
            exact ⟨rfl, P, hP1, rfl⟩
          · rw [hI_wI_j y, hI_wI_j y]
            exact l1' j hj
      -- which digit the reference takes
      have b67 : ∀ k0 : Int32, s_X12_playTune_b67 (s_X12_playTune_L34 33 F2) 33 T l1 l2 (nI code) (nI kk) (nI Y) (nI i) k0 = s_X12_playTune_b115 (s_X12_playTune_L34 33 F2) 33 T l1 l2 (nI code) (nI kk) (nI Y) (nI i) k0 (nI Y) (nI (dg code kk Y)) := by
        intro k0
        have cb : code < 2 ^ 31 := by omega
        have ea : nI kk - 1 = nI (kk - 1) := by rw [show (1 : Int32) = nI 1 from rfl, nI_sub (by omega)]
        unfold s_X12_playTune_b67 dg
        rw [ea]
        by_cases u1 : Y + 1 = kk
        · rw [if_pos ((nI_eqI (by omega) (by omega)).mpr (by omega)), if_pos u1, krem_ne (by decide), nI_rem code cb]
        · rw [if_neg (fun z => u1 (by have := (nI_eqI (by omega) (by omega)).mp z; omega)), if_neg u1]
          have eb : nI kk - 2 = nI (kk - 2) := by rw [show (2 : Int32) = nI 2 from rfl, nI_sub (by omega)]
          rw [eb]
          by_cases u2 : Y + 2 = kk
          · rw [if_pos ((nI_eqI (by omega) (by omega)).mpr (by omega)), if_pos u2, kdiv_ne (by decide), krem_ne (by decide)]
            rw [show nI code / 10 = nI (code / 10) from (by rw [show (10 : Int32) = nI 10 from rfl, pk_div cb (by decide) (by decide)]), nI_rem _ (by omega)]
          · rw [if_neg (fun z => u2 (by have := (nI_eqI (by omega) (by omega)).mp z; omega)), if_neg u2, kdiv_ne (by decide)]
            rw [show (100 : Int32) = nI 100 from rfl, pk_div cb (by decide) (by decide)]
      show ∃ S2 T2, s_X4_playBy_b52 (s_X4_playBy_L52 7 F1) 7 S (nI kk) (nI i) = some S2 ∧ s_X12_playTune_b34 (s_X12_playTune_L34 33 F2) 33 T l1 l2 (nI code) (nI kk) (nI Y) (nI i) = some T2 ∧ KS S S2 ∧ SX T T2 ∧ _
      unfold s_X4_playBy_b52 s_X12_playTune_b34 s_X12_playTune_b66
      rw [if_neg nle, if_neg nle, hX.p70, hX.i8, kI_m hM, ← r21]
      by_cases c0 : hI S 8 11 = 0
      · rw [if_pos c0, if_pos c0, hX.p70, hX.i8, g10, if_neg n3, hX.p70, hX.i8, g10, hX.p70, hX.o8, hX.u, hX.p70, kO_m hM, hM.u, h.un]
        rcases fUn_01 (hI S 8 3) (hI S 8 5) with c1 | c1
        · rw [c1, if_pos rfl, if_pos rfl, b67]
          unfold s_X12_playTune_b115
          rw [if_pos rfl]
          exact stop
        · rw [c1, if_neg (by decide), if_neg (by decide), if_neg n3, kP_c7_1 hC, kA_c9 hC (k := Y) rfl (by omega), g9 Y hYk, b67]
          unfold s_X12_playTune_b115
          rw [if_neg (by decide), show (10 : Int32) = nI 10 from rfl, nI_mul]
          exact pulled
      · rw [if_neg c0, if_neg c0]
        exact ⟨S, T, rfl, rfl, KS.rf S, SX.rf T, hl⟩
