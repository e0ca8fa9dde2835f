/-! ===== PARTS, LAMP ===== -/
theorem parts_loop {c q d k : Nat} {l1 l2 f cl : Int32} {F : Nat} (h1 : l1 = nI d) (h2 : l2 = nI k) (hf : f = nI F) (hF : F ≤ 99) : ∀ (n F1 F2 i : Nat) (S T : HS) (w : Int64), TW S T c q d k → hI S 7 6 = f → n < F1 → n < F2 → i + n = 501 → ∃ r S2 T2, s_X4_partingTicks_L9 7 F1 S cl w (nI i) = some (r, S2) ∧ s_X12_parts_L45 33 F2 T l1 l2 f cl w (nI i) = some (r, T2) ∧ KS S S2 ∧ SX T T2 := by
  intro n
  induction n with
  | zero =>
    intro F1 F2 i S T w h g6 hF1 hF2 hi
    obtain ⟨F1, rfl⟩ : ∃ z, F1 = z + 1 := ⟨F1 - 1, by omega⟩
    obtain ⟨F2, rfl⟩ : ∃ z, F2 = z + 1 := ⟨F2 - 1, by omega⟩
    obtain rfl : i = 501 := by omega
    refine ⟨-1000000, S, T, ?_, ?_, KS.rf S, SX.rf T⟩
    · show s_X4_partingTicks_b9 _ 7 S cl w (nI 501) = _
      unfold s_X4_partingTicks_b9
      rw [if_pos (by decide)]
    · show s_X12_parts_b45 _ 33 T l1 l2 f cl w (nI 501) = _
      unfold s_X12_parts_b45
      rw [if_pos (by decide)]
  | succ n ih =>
    intro F1 F2 i S T w h g6 hF1 hF2 hi
    obtain ⟨F1, rfl⟩ : ∃ z, F1 = z + 1 := ⟨F1 - 1, by omega⟩
    obtain ⟨F2, rfl⟩ : ∃ z, F2 = z + 1 := ⟨F2 - 1, by omega⟩
    have nlt : ¬ (500 : Int32) < nI i := fun z => by
      have := i32_lt.mp z
      rw [nI_toInt (by omega), show (500 : Int32).toInt = 500 from rfl] at this
      omega
    have hX := h.1.1
    have hM := h.1.2.1
    obtain ⟨r19, r20, r21⟩ := h.2.2.2.1
    have step : ∀ (fo : Int32) (F3 : Nat), fo = nI F3 → F3 ≤ 99 → ∃ r S2 T2, s_X4_partingTicks_b49 (s_X4_partingTicks_L9 7 F1) 7 S cl w (nI i) (some 8) fo = some (r, S2) ∧ s_X12_parts_b76 (s_X12_parts_L45 33 F2) 33 T l1 l2 f cl w (nI i) (some 33) l1 l2 fo = some (r, T2) ∧ KS S S2 ∧ SX T T2 := by
      intro fo F3 hfo hF3
      obtain ⟨S1, T1, t1, t2, t3, t4, t5, t6, t7, t8, t9, t10, t11, t12, t13⟩ := h.tick (lamp := 0) (p := 0) h1 h2 hfo hF3 rfl (by decide)
      have hX1 := t3.1.1
      have hM1 := t3.1.2.1
      unfold s_X4_partingTicks_b49 s_X12_parts_b76
      rw [hX.o8, kv_some t1, hX1.p70, hX1.i8, hX1.p70, hX1.i8, kO_m hM, kv_some t2, kI_m hM1, kI_m hM1, t6]
      obtain ⟨r, S2, T2, i1, i2, i3, i4⟩ := ih F1 F2 (i + 1) S1 T1 (w + (hI T1 33 22).toInt64 * (hI T1 33 22).toInt64) t3 (by rw [t4.2.1]; exact g6) (by omega) (by omega) (by omega)
      rw [← nI_1] at i1 i2
      by_cases c1 : w + (hI T1 33 22).toInt64 * (hI T1 33 22).toInt64 < 10 * cl.toInt64
      · rw [if_pos c1, if_pos c1]
        exact ⟨r, S2, T2, i1, i2, t4.tr i3, t5.tr i4⟩
      · rw [if_neg c1, if_neg c1]
        exact ⟨nI i, S1, T1, rfl, rfl, t4, t5⟩
    show ∃ r S2 T2, s_X4_partingTicks_b9 (s_X4_partingTicks_L9 7 F1) 7 S cl w (nI i) = some (r, S2) ∧ s_X12_parts_b45 (s_X12_parts_L45 33 F2) 33 T l1 l2 f cl w (nI i) = some (r, T2) ∧ KS S S2 ∧ SX T T2
    unfold s_X4_partingTicks_b9 s_X12_parts_b45
    rw [if_neg nlt, if_neg nlt, hX.p70, hX.i8, kI_m hM, ← r21]
    by_cases c0 : hI S 8 11 = 0
    · rw [if_pos c0, if_pos c0, hX.p70, hX.p70, hX.o8, hX.u, kO_m hM, hM.u, h.un]
      by_cases c1 : fUn (hI S 8 3) (hI S 8 5) = 0
      · rw [if_pos c1, if_pos c1]
        exact step 0 0 rfl (by decide)
      · rw [if_neg c1, if_neg c1, hX.i7, g6]
        exact step f F hf hF
    · rw [if_neg c0, if_neg c0]
      exact ⟨_, S, T, rfl, rfl, KS.rf S, SX.rf T⟩
theorem parts_one {c q d k : Nat} {l1 l2 t0 f cl : Int32} {F : Nat} (h1 : l1 = nI d) (h2 : l2 = nI k) (hf : f = nI F) (hF : F ≤ 99) {S T : HS} (h : AT S T c q d k) (g5 : hI S 7 5 = t0) (g6 : hI S 7 6 = f) (ht : TOK (hI S q 2) t0 0) : ∃ r S2 T2, s_X4_partingTicks S 7 cl = some (r, S2) ∧ kO T (some 33) 12 (fun a8 => kcv (s_X12_rest T a8 t0) (fun S7 => s_X12_parts_L45 33 100000 S7 l1 l2 f cl 0 1)) = some (r, T2) ∧ KS S S2 ∧ SX T T2 := by
  obtain ⟨S1, T1, s1, s2, s3, s4, s5, s6, s7, s8⟩ := TW.start h g5 ht
  obtain ⟨r, S2, T2, i1, i2, i3, i4⟩ := parts_loop (cl := cl) h1 h2 hf hF 500 100000 100000 1 S1 T1 0 s3 (by rw [s4.2.1]; exact g6) (by decide) (by decide) (by decide)
  refine ⟨r, S2, T2, ?_, ?_, s4.tr i3, s5.tr i4⟩
  · unfold s_X4_partingTicks
    rw [h.1.o7, kv_some s1]
    exact i1
  · rw [kO_m h.2.1, kv_some s2]
    exact i2
theorem ok_parts {S : HS} (h : RR S) (l1 l2 l3 l4 l5 : Int32) : CK (fun S => s_X11_parts S 0 l1 l2 l3 l4 l5) (fun S => s_X12_parts S 33 l1 l2 l3 l4 l5) S := by
  have t1 : (1 : Int32).toInt = 1 := rfl
  have t9 : (999999 : Int32).toInt = 999999 := rfl
  by_cases c5 : 1 ≤ l5.toInt ∧ l5.toInt ≤ 999999
  · have n1 : ¬ l5 < 1 := fun z => by have := i32_lt.mp z; omega
    have n2 : ¬ 999999 < l5 := fun z => by have := i32_lt.mp z; omega
    have main := asked_ok h (l1 := l1) (l2 := l2) (t0 := l3) (f := l4) (n := 1) (K := fun S1 => kP S1 (some 0) 11 4 (fun v4 => kO S1 v4 4 (fun a7 => kc (s_X4_partingTicks S1 a7 l5) (fun v6 S5 => some (v6, S5))))) (M := fun S2 => kc (s_X12_in S2 l5.toInt64 1 999999) (fun v6 S5 => if v6 = 0 then (some ((-1000001), S5)) else (kO S5 (some 33) 12 (fun a8 => kcv (s_X12_rest S5 a8 l3) (fun S7 => s_X12_parts_L45 33 100000 S7 l1 l2 l4 l5 0 1))))) (by
      intro c q d k F N e1 e2 hD hQ hf hF hn hN hN1 ht ht0
      obtain ⟨g1, g5, g6, g7⟩ := ab_LF h hD hQ l3 l4 1
      have gx := ab_SX S c q l3 l4 1
      have eq : hI (ab S c q l3 l4 1) q = hI S q := gx.ge hQ.1
      obtain ⟨r, S1, T1, i1, i2, i3, i4⟩ := parts_one (t0 := l3) (cl := l5) e1 e2 hf hF (ab_AT h hD hQ l3 l4 1 (SX.rf S)) g5 g6 (by rw [eq]; exact ht)
      have gs := gx.tr i3.1
      obtain ⟨r2, S2, T2, j1, j2, j3, j4⟩ := parts_one (t0 := l3) (cl := l5) e1 e2 hf hF (ab_AT h hD hQ l3 l4 1 (gs.tr (SX.w0 S1))) g5 g6 (by rw [eq]; exact ht)
      obtain ⟨rfl, rfl⟩ := Prod.mk.inj (det i1 j1)
      refine ⟨r, S1, T2, ?_, gs, ?_, (gs.tr (SX.w0 S1)).tr j4⟩
      · have hLa := (h.to gx).2.1
        show kP _ (some 0) 11 4 _ = _
        rw [kP_c0_4 hLa, kO_c7 hLa, i1, kc_some]
      · show kc _ _ = _
        rw [m_inI _ (a := 1) (b := 999999) rfl rfl, kc_some, if_pos c5, if_neg (by decide)]
        exact j2)
    obtain ⟨r, S1, S2, a1, a2, a3⟩ := main
    refine ⟨r, S1, S2, ?_, a2, a3⟩
    show s_X11_parts S 0 l1 l2 l3 l4 l5 = _
    unfold s_X11_parts
    rw [if_neg n1, if_neg n2]
    exact a1
  · obtain ⟨T2, b1, b2⟩ := asked_bad h (SX.rf S) (l1 := l1) (l2 := l2) (t0 := l3) (f := l4) (n := 1) (M := fun S2 => kc (s_X12_in S2 l5.toInt64 1 999999) (fun v6 S5 => if v6 = 0 then (some ((-1000001), S5)) else (kO S5 (some 33) 12 (fun a8 => kcv (s_X12_rest S5 a8 l3) (fun S7 => s_X12_parts_L45 33 100000 S7 l1 l2 l4 l5 0 1))))) (by
      intro U
      show kc _ _ = _
      rw [m_inI _ (a := 1) (b := 999999) rfl rfl, kc_some, if_neg c5, if_pos rfl])
    refine ⟨-1000001, S, T2, ?_, b1, b2⟩
    show s_X11_parts S 0 l1 l2 l3 l4 l5 = _
    unfold s_X11_parts
    by_cases n1 : l5 < 1
    · rw [if_pos n1]
    · have n2 : 999999 < l5 := i32_lt.mpr (by have : ¬ _ := fun z => n1 (i32_lt.mpr z); omega)
      rw [if_neg n1, if_pos n2]
theorem nI_m1 (p : Nat) : nI (p + 1) + (-1) = nI p := by
  rw [← nI_1, show (-1 : Int32) = -(1 : Int32) from rfl, ← Int32.sub_eq_add_neg]
  exact Int32.add_sub_cancel (nI p) 1
/-! LAMP -/
theorem shines_on {d k N p : Nat} {l1 l2 f lp : Int32} (h1 : l1 = nI d) (h2 : l2 = nI k) (hd : d < 4) (hk : k < 4) (hN : N < 2 ^ 30) : ∀ (n F2 i : Nat) (T : HS) (Y : Nat), LM T → ¬ hI T 37 (3 + 3 * d) = 0 → 3 ≤ Y → Y + n < 2 ^ 31 → n < F2 → i + n = N → ∃ T2, s_X12_shines_L11 33 F2 T l1 l2 f (nI N) lp (nI Y) (nI i) = some (1, T2) ∧ SX T T2 := by
  have fin : ∀ (T : HS) (Y : Nat), 3 ≤ Y → Y < 2 ^ 31 → s_X12_shines_b69 33 T (nI Y) = some (1, T) := by
    intro T Y h3 hY
    unfold s_X12_shines_b69
    rw [if_neg (fun z => by
      have := i32_le.mp z
      rw [nI_toInt hY, show (2 : Int32).toInt = 2 from rfl] at this
      omega), kzr_1]
  intro n
  induction n with
  | zero =>
    intro F2 i T Y hM hw hY hY2 hF2 hi
    obtain ⟨F2, rfl⟩ : ∃ z, F2 = z + 1 := ⟨F2 - 1, by omega⟩
    refine ⟨T, ?_, SX.rf T⟩
    show s_X12_shines_b11 _ 33 T l1 l2 f (nI N) lp (nI Y) (nI i) = _
    unfold s_X12_shines_b11
    rw [if_pos ((nI_le_iff (by omega) (by omega)).mpr (by omega))]
    exact fin T Y hY (by omega)
  | succ n ih =>
    intro F2 i T Y hM hw hY hY2 hF2 hi
    obtain ⟨F2, rfl⟩ : ∃ z, F2 = z + 1 := ⟨F2 - 1, by omega⟩
    have nle : ¬ nI N ≤ nI i := fun z => by have := (nI_le_iff (by omega) (by omega)).mp z; omega
    have step : ∀ fo : Int32, ∃ T2, s_X12_shines_b41 (s_X12_shines_L11 33 F2) 33 T l1 l2 f (nI N) lp (nI Y) (nI i) (some 33) l1 l2 fo = some (1, T2) ∧ SX T T2 := by
      intro fo
      have x2 : SX T (wC T 33 (mTk (hI T 33) (hI T 37) d k fo lp)) := w33_fr (fun j hj => mTk_fr _ _ _ _ _ _ hj)
      have hM1 := x2.lm hM
      unfold s_X12_shines_b41 s_X12_shines_b60
      rw [kO_m hM, m_tick hM h1 h2 hd hk hw, kcv_some, kI_m hM1]
      split
      · obtain ⟨T2, i1, i2⟩ := ih F2 (i + 1) _ Y hM1 (by rw [x2.m37]; exact hw) hY (by omega) (by omega) (by omega)
        rw [← nI_1 i] at i1
        exact ⟨T2, by rw [Int32.add_zero]; exact i1, x2.tr i2⟩
      · obtain ⟨T2, i1, i2⟩ := ih F2 (i + 1) _ (Y + 1) hM1 (by rw [x2.m37]; exact hw) (by omega) (by omega) (by omega) (by omega)
        rw [← nI_1 i, ← nI_1 Y] at i1
        exact ⟨T2, i1, x2.tr i2⟩
    show ∃ T2, s_X12_shines_b11 (s_X12_shines_L11 33 F2) 33 T l1 l2 f (nI N) lp (nI Y) (nI i) = some (1, T2) ∧ SX T T2
    unfold s_X12_shines_b11
    rw [if_neg nle, kI_m hM]
    split
    · rw [kO_m hM, hM.u]
      split
      · exact step 0
      · exact step f
    · exact ⟨T, fin T Y hY (by omega), SX.rf T⟩
theorem lamp_loop {c q d k N p : Nat} {l1 l2 f : Int32} {F : Nat} (h1 : l1 = nI d) (h2 : l2 = nI k) (hf : f = nI F) (hF : F ≤ 99) (hN : N < 2 ^ 30) (hp : p ≤ 50) : ∀ (n F1 F2 i : Nat) (S T : HS) (Y : Nat), TW S T c q d k → hI S 7 6 = f → hI S 7 7 = nI N → hI S 8 10 = nI Y → Y + n < 2 ^ 31 → n < F1 → n < F2 → i + n = N → ∃ r S2 T2, s_X4_goesThroughWith_L6 7 F1 S (nI p) (nI i) = some (r, S2) ∧ s_X12_shines_L11 33 F2 T l1 l2 f (nI N) (nI p) (nI Y) (nI i) = some (r, T2) ∧ KS S S2 ∧ SX T T2 ∧ (r = 0 ∨ r = 1) := by
  have e2 : ∀ Y : Nat, Y < 2 ^ 31 → ((nI Y ≤ 2) ↔ Y ≤ 2) := fun Y hY => nI_le_iff (b := 2) hY (by decide)
  have e3 : ∀ Y : Nat, Y < 2 ^ 31 → ((3 ≤ nI Y) ↔ 3 ≤ Y) := fun Y hY => nI_le_iff (a := 3) (by decide) hY
  have e4 : ∀ Y : Nat, Y < 2 ^ 31 → ((nI Y < 3) ↔ Y < 3) := fun Y hY => by
    rw [i32_lt, nI_toInt hY, show (3 : Int32).toInt = 3 from rfl]
    omega
  have fin : ∀ (S T : HS) (Y : Nat), TW S T c q d k → hI S 8 10 = nI Y → Y < 2 ^ 31 → ∃ r, s_X4_goesThroughWith_b67 7 S = some (r, S) ∧ s_X12_shines_b69 33 T (nI Y) = some (r, T) ∧ (r = 0 ∨ r = 1) := by
    intro S T Y h hY hY2
    unfold s_X4_goesThroughWith_b67 s_X12_shines_b69
    rw [h.1.1.p70, h.1.1.i8, hY]
    by_cases z : Y ≤ 2
    · rw [if_pos ((e4 Y hY2).mpr (by omega)), if_pos ((e2 Y hY2).mpr z)]
      exact ⟨0, rfl, rfl, Or.inl rfl⟩
    · rw [if_neg (fun y => z (by have := (e4 Y hY2).mp y; omega)), if_neg (fun y => z ((e2 Y hY2).mp y))]
      exact ⟨1, rfl, rfl, Or.inr rfl⟩
  intro n
  induction n with
  | zero =>
    intro F1 F2 i S T Y h g6 g7 g10 hY hF1 hF2 hi
    obtain ⟨F1, rfl⟩ : ∃ z, F1 = z + 1 := ⟨F1 - 1, by omega⟩
    obtain ⟨F2, rfl⟩ : ∃ z, F2 = z + 1 := ⟨F2 - 1, by omega⟩
    have le : nI N ≤ nI i := (nI_le_iff (by omega) (by omega)).mpr (by omega)
    obtain ⟨r, f1, f2, f3⟩ := fin S T Y h g10 (by omega)
    refine ⟨r, S, T, ?_, ?_, KS.rf S, SX.rf T, f3⟩
    · show s_X4_goesThroughWith_b6 _ 7 S (nI p) (nI i) = _
      unfold s_X4_goesThroughWith_b6
      rw [h.1.1.i7, g7, if_pos le]
      exact f1
    · show s_X12_shines_b11 _ 33 T l1 l2 f (nI N) (nI p) (nI Y) (nI i) = _
      unfold s_X12_shines_b11
      rw [if_pos le]
      exact f2
  | succ n ih =>
    intro F1 F2 i S T Y h g6 g7 g10 hY hF1 hF2 hi
    have hF2' := hF2
    obtain ⟨F1, rfl⟩ : ∃ z, F1 = z + 1 := ⟨F1 - 1, by omega⟩
    obtain ⟨F2, rfl⟩ : ∃ z, F2 = z + 1 := ⟨F2 - 1, by omega⟩
    have nle : ¬ nI N ≤ nI i := fun z => by have := (nI_le_iff (by omega) (by omega)).mp z; omega
    have hX := h.1.1
    have hM := h.1.2.1
    obtain ⟨r19, r20, r21⟩ := h.2.2.2.1
    have step : ∀ (fo : Int32) (F3 : Nat), fo = nI F3 → F3 ≤ 99 → ∃ r S2 T2, s_X4_goesThroughWith_b57 (s_X4_goesThroughWith_L6 7 F1) 7 S (nI p) (nI i) (some 8) fo = some (r, S2) ∧ s_X12_shines_b41 (s_X12_shines_L11 33 F2) 33 T l1 l2 f (nI N) (nI p) (nI Y) (nI i) (some 33) l1 l2 fo = some (r, T2) ∧ KS S S2 ∧ SX T T2 ∧ (r = 0 ∨ r = 1) := by
      intro fo F3 hfo hF3
      obtain ⟨S1, T1, t1, t2, t3, t4, t5, t6, t7, t8, t9, t10, t11, t12, t13⟩ := h.tick (lamp := nI p) (p := p) h1 h2 hfo hF3 rfl hp
      have hM1 := t3.1.2.1
      unfold s_X4_goesThroughWith_b57 s_X12_shines_b41 s_X12_shines_b60
      rw [hX.o8, kv_some t1, kO_m hM, kv_some t2, kI_m hM1]
      rcases t8 with z | z
      · rw [if_pos z]
        rw [z, g10, Int32.add_zero] at t7
        obtain ⟨r, S2, T2, i1, i2, i3, i4, i5⟩ := ih F1 F2 (i + 1) S1 T1 Y t3 (by rw [t4.2.1]; exact g6) (by rw [t4.2.1]; exact g7) t7 (by omega) (by omega) (by omega) (by omega)
        rw [← nI_1 i] at i1 i2
        exact ⟨r, S2, T2, i1, by rw [Int32.add_zero]; exact i2, t4.tr i3, t5.tr i4, i5⟩
      · rw [z, if_neg (by decide)]
        rw [z, g10, nI_1] at t7
        obtain ⟨r, S2, T2, i1, i2, i3, i4, i5⟩ := ih F1 F2 (i + 1) S1 T1 (Y + 1) t3 (by rw [t4.2.1]; exact g6) (by rw [t4.2.1]; exact g7) t7 (by omega) (by omega) (by omega) (by omega)
        rw [← nI_1 i] at i1 i2
        rw [← nI_1 Y] at i2
        exact ⟨r, S2, T2, i1, i2, t4.tr i3, t5.tr i4, i5⟩
    by_cases c3 : 3 ≤ Y
    · obtain ⟨T2, m1, m2⟩ := shines_on (p := p) (lp := nI p) (f := f) h1 h2 h.1.2.2.1 h.1.2.2.2.1 hN (n + 1) (F2 + 1) i T Y hM (by
        have := h.1.2.2.2.2.2.2.1 0 (by decide)
        rw [show 3 + 3 * d + 0 = 3 + 3 * d from rfl] at this
        rw [← this]
        exact h.1.2.2.2.2.2.2.2.2.1.ne) c3 hY hF2' hi
      obtain ⟨r, f1, f2, f3⟩ := fin S T Y h g10 (by omega)
      have r1 : r = 1 := by
        unfold s_X12_shines_b69 at f2
        rw [if_neg (fun y => by have := (e2 Y (by omega)).mp y; omega)] at f2
        exact (Prod.mk.inj (Option.some.inj f2)).1.symm
      subst r1
      refine ⟨1, S, T2, ?_, m1, KS.rf S, m2, Or.inr rfl⟩
      show s_X4_goesThroughWith_b6 _ 7 S (nI p) (nI i) = _
      unfold s_X4_goesThroughWith_b6
      rw [hX.i7, g7, if_neg nle, hX.p70, hX.i8, hX.p70, hX.i8, g10, if_pos ((e3 Y (by omega)).mpr c3)]
      split
      · exact f1
      · exact f1
    · show ∃ r S2 T2, s_X4_goesThroughWith_b6 (s_X4_goesThroughWith_L6 7 F1) 7 S (nI p) (nI i) = some (r, S2) ∧ s_X12_shines_b11 (s_X12_shines_L11 33 F2) 33 T l1 l2 f (nI N) (nI p) (nI Y) (nI i) = some (r, T2) ∧ KS S S2 ∧ SX T T2 ∧ (r = 0 ∨ r = 1)
      unfold s_X4_goesThroughWith_b6 s_X12_shines_b11
      rw [hX.i7, g7, if_neg nle, if_neg nle, hX.p70, hX.i8, kI_m hM, ← r21]
      by_cases c0 : hI S 8 11 = 0
      · rw [if_pos c0, if_pos c0, hX.p70, hX.i8, g10, if_neg (fun y => c3 ((e3 Y (by omega)).mp y)), hX.p70, hX.p70, hX.o8, hX.u, kO_m hM, hM.u, h.un]
        by_cases c1 : fUn (hI S 8 3) (hI S 8 5) = 0
        · rw [if_pos c1, if_pos c1]
          exact step 0 0 rfl (by decide)
        · rw [if_neg c1, if_neg c1, hX.i7, g6]
          exact step f F hf hF
      · rw [if_neg c0, if_neg c0]
        obtain ⟨r, f1, f2, f3⟩ := fin S T Y h g10 (by omega)
        exact ⟨r, S, T, f1, f2, KS.rf S, SX.rf T, f3⟩
theorem lamp_one {c q d k N p : Nat} {l1 l2 t0 f : Int32} {F : Nat} (h1 : l1 = nI d) (h2 : l2 = nI k) (hf : f = nI F) (hF : F ≤ 99) (hN : N < 100000) (hp : p ≤ 50) {S T : HS} (h : AT S T c q d k) (g5 : hI S 7 5 = t0) (g6 : hI S 7 6 = f) (g7 : hI S 7 7 = nI N) (ht : TOK (hI S q 2) t0 0) : ∃ r S2 T2, s_X4_goesThroughWith S 7 (nI p) = some (r, S2) ∧ s_X12_shines T 33 l1 l2 t0 f (nI N) (nI p) = some (r, T2) ∧ KS S S2 ∧ SX T T2 ∧ (r = 0 ∨ r = 1) := by
  obtain ⟨S1, T1, s1, s2, s3, s4, s5, s6, s7, s8⟩ := TW.start h g5 ht
  obtain ⟨r, S2, T2, i1, i2, i3, i4, i5⟩ := lamp_loop (N := N) (p := p) h1 h2 hf hF (by omega) hp N 100000 100000 0 S1 T1 0 s3 (by rw [s4.2.1]; exact g6) (by rw [s4.2.1]; exact g7) (by rw [s6]; rfl) (by omega) hN hN (by omega)
  refine ⟨r, S2, T2, ?_, ?_, s4.tr i3, s5.tr i4, i5⟩
  · unfold s_X4_goesThroughWith
    rw [h.1.o7, kv_some s1]
    exact i1
  · unfold s_X12_shines
    rw [kO_m h.2.1, kv_some s2]
    exact i2
theorem lamp_all {c q d k N : Nat} {l1 l2 t0 f : Int32} {F : Nat} (h1 : l1 = nI d) (h2 : l2 = nI k) (hf : f = nI F) (hF : F ≤ 99) (hN : N < 100000) : ∀ (p F1 F2 : Nat) (S T : HS), AT S T c q d k → hI S 7 5 = t0 → hI S 7 6 = f → hI S 7 7 = nI N → TOK (hI S q 2) t0 0 → p ≤ 50 → p + 1 < F1 → p + 1 < F2 → ∃ r S2 T2, s_X4_greatestLamp_L3 7 F1 S (nI p) = some (r, S2) ∧ s_X12_lamp_L26 33 F2 T l1 l2 t0 f (nI N) (nI p) = some (r, T2) ∧ KS S S2 ∧ SX T T2 := by
  intro p
  induction p with
  | zero =>
    intro F1 F2 S T h g5 g6 g7 ht hp hF1 hF2
    obtain ⟨F1, rfl⟩ : ∃ z, F1 = z + 1 + 1 := ⟨F1 - 2, by omega⟩
    obtain ⟨F2, rfl⟩ : ∃ z, F2 = z + 1 + 1 := ⟨F2 - 2, by omega⟩
    obtain ⟨r, S1, T1, o1, o2, o3, o4, o5⟩ := lamp_one (N := N) (p := 0) h1 h2 hf hF hN hp h g5 g6 g7 ht
    show ∃ r S2 T2, s_X4_greatestLamp_b3 (s_X4_greatestLamp_L3 7 (F1 + 1)) 7 S (nI 0) = some (r, S2) ∧ s_X12_lamp_b26 (s_X12_lamp_L26 33 (F2 + 1)) 33 T l1 l2 t0 f (nI N) (nI 0) = some (r, T2) ∧ KS S S2 ∧ SX T T2
    unfold s_X4_greatestLamp_b3 s_X12_lamp_b26
    rw [if_neg (by decide), if_neg (by decide), h.1.o7, o1, kc_some, kO_m h.2.1, o2, kc_some]
    rcases o5 with rfl | rfl
    · rw [if_pos rfl, if_pos rfl]
      refine ⟨-1000000, S1, T1, ?_, ?_, o3, o4⟩
      · show s_X4_greatestLamp_b3 (s_X4_greatestLamp_L3 7 F1) 7 S1 (nI 0 + (-1)) = _
        unfold s_X4_greatestLamp_b3
        rw [if_pos (by decide)]
      · show s_X12_lamp_b26 (s_X12_lamp_L26 33 F2) 33 T1 l1 l2 t0 f (nI N) (nI 0 + (-1)) = _
        unfold s_X12_lamp_b26 s_X12_lamp_b53
        rw [if_pos (by decide), if_neg (by decide)]
    · rw [if_neg (by decide), if_neg (by decide)]
      refine ⟨nI 0, S1, T1, rfl, ?_, o3, o4⟩
      unfold s_X12_lamp_b53
      rw [if_pos (by decide)]
  | succ p ih =>
    intro F1 F2 S T h g5 g6 g7 ht hp hF1 hF2
    obtain ⟨F1, rfl⟩ : ∃ z, F1 = z + 1 := ⟨F1 - 1, by omega⟩
    obtain ⟨F2, rfl⟩ : ∃ z, F2 = z + 1 := ⟨F2 - 1, by omega⟩
    obtain ⟨r, S1, T1, o1, o2, o3, o4, o5⟩ := lamp_one (N := N) (p := p + 1) h1 h2 hf hF hN hp h g5 g6 g7 ht
    have ec : hI S1 q = hI S q := o3.1.ge h.2.2.2.2.2.1
    obtain ⟨r2, S2, T2, i1, i2, i3, i4⟩ := ih F1 F2 S1 T1 (h.keep o3 o4) (by rw [o3.2.1]; exact g5) (by rw [o3.2.1]; exact g6) (by rw [o3.2.1]; exact g7) (by rw [ec]; exact ht) (by omega) (by omega) (by omega)
    have em : nI (p + 1) + (-1) = nI p := nI_m1 p
    have np : ¬ nI (p + 1) < 0 := nI_pos (by omega)
    show ∃ r S2 T2, s_X4_greatestLamp_b3 (s_X4_greatestLamp_L3 7 F1) 7 S (nI (p + 1)) = some (r, S2) ∧ s_X12_lamp_b26 (s_X12_lamp_L26 33 F2) 33 T l1 l2 t0 f (nI N) (nI (p + 1)) = some (r, T2) ∧ KS S S2 ∧ SX T T2
    unfold s_X4_greatestLamp_b3 s_X12_lamp_b26
    rw [if_neg np, if_neg np, h.1.o7, o1, kc_some, kO_m h.2.1, o2, kc_some]
    rcases o5 with rfl | rfl
    · rw [if_pos rfl, if_pos rfl, em]
      exact ⟨r2, S2, T2, i1, i2, o3.tr i3, o4.tr i4⟩
    · rw [if_neg (by decide), if_neg (by decide)]
      refine ⟨nI (p + 1), S1, T1, rfl, ?_, o3, o4⟩
      unfold s_X12_lamp_b53
      rw [if_pos (z_le (by omega))]
theorem ok_lamp {S : HS} (h : RR S) (l1 l2 l3 l4 l5 : Int32) : CK (fun S => s_X11_lamp S 0 l1 l2 l3 l4 l5) (fun S => s_X12_lamp S 33 l1 l2 l3 l4 l5) S := by
  refine asked_ok h (K := fun S1 => kP S1 (some 0) 11 4 (fun v4 => kO S1 v4 4 (fun a7 => kc (s_X4_greatestLamp S1 a7) (fun v6 S5 => some (v6, S5))))) (M := fun S2 => s_X12_lamp_L26 33 100000 S2 l1 l2 l3 l4 l5 50) ?_
  intro c q d k F N e1 e2 hD hQ hf hF hn hN hN1 ht ht0
  obtain ⟨g1, g5, g6, g7⟩ := ab_LF h hD hQ l3 l4 l5
  have gx := ab_SX S c q l3 l4 l5
  have eq : hI (ab S c q l3 l4 l5) q = hI S q := gx.ge hQ.1
  rw [hn] at g7 gx g1 g5 g6 eq
  obtain ⟨r, S1, T1, i1, i2, i3, i4⟩ := lamp_all (N := N) (t0 := l3) e1 e2 hf hF (by omega) 50 100000 100000 (ab S c q l3 l4 (nI N)) S (ab_AT h hD hQ l3 l4 (nI N) (SX.rf S)) g5 g6 g7 (by rw [eq]; exact ht) (by decide) (by decide) (by decide)
  have gs := gx.tr i3.1
  obtain ⟨r2, S2, T2, j1, j2, j3, j4⟩ := lamp_all (N := N) (t0 := l3) e1 e2 hf hF (by omega) 50 100000 100000 (ab S c q l3 l4 (nI N)) (wI S1 33 0 0) (ab_AT h hD hQ l3 l4 (nI N) (gs.tr (SX.w0 S1))) g5 g6 g7 (by rw [eq]; exact ht) (by decide) (by decide) (by decide)
  obtain ⟨rfl, rfl⟩ := Prod.mk.inj (det i1 j1)
  refine ⟨r, S1, T2, ?_, gs, ?_, (gs.tr (SX.w0 S1)).tr j4⟩
  · rw [hn]
    have hLa := (h.to gx).2.1
    show kP _ (some 0) 11 4 _ = _
    rw [kP_c0_4 hLa, kO_c7 hLa]
    unfold s_X4_greatestLamp
    show kc (s_X4_greatestLamp_L3 7 100000 (ab S c q l3 l4 (nI N)) (nI 50)) _ = _
    rw [i1, kc_some]
  · rw [hn]
    exact j2
