/-! ===== LATE, PARTS, LAMP ===== -/
theorem kv_some {α : Type} {S1 : HS} {o : Option HS} (h : o = some S1) {f : HS → Option α} : kcv o f = f S1 := by rw [h, kcv_some]
theorem z_le {L : Nat} (h : L < 2 ^ 31) : (0 : Int32) ≤ nI L := i32_le.mpr (by rw [nI_toInt h, i32_0]; omega)
theorem late_loop {c q d k N L : Nat} {l1 l2 t0 f : Int32} {F : Nat} (h1 : l1 = nI d) (h2 : l2 = nI k) (hf : f = nI F) (hF : F ≤ 99) (hN : N < 2 ^ 31) (hL : L < 2 ^ 31) : ∀ (n F1 F2 i : Nat) (S T : HS) (w : Int32), TW S T c q d k → hI S 7 5 = t0 → hI S 7 6 = f → hI S 7 7 = nI N → n < F1 → n < F2 → i + n = N → ∃ r S2 T2, s_X4_growsLateBy_L8 7 F1 S (nI L) w (nI i) = some (r, S2) ∧ s_X12_grows_L11 33 F2 T l1 l2 t0 f (nI N) (nI L) w (nI i) = some (r, T2) ∧ KS S S2 ∧ SX T T2 ∧ (r = 0 ∨ r = 1) := by
  intro n
  induction n with
  | zero =>
    intro F1 F2 i S T w h g5 g6 g7 hF1 hF2 hi
    obtain ⟨F1, rfl⟩ : ∃ z, F1 = z + 1 := ⟨F1 - 1, by omega⟩
    obtain ⟨F2, rfl⟩ : ∃ z, F2 = z + 1 := ⟨F2 - 1, by omega⟩
    have le : nI N ≤ nI i := (nI_le_iff hN (by omega)).mpr (by omega)
    refine ⟨0, S, T, ?_, ?_, KS.rf S, SX.rf T, Or.inl rfl⟩
    · show s_X4_growsLateBy_b8 (s_X4_growsLateBy_L8 7 F1) 7 S (nI L) w (nI i) = _
      unfold s_X4_growsLateBy_b8
      rw [h.1.1.i7, g7, if_pos le]
      rfl
    · show s_X12_grows_b11 (s_X12_grows_L11 33 F2) 33 T l1 l2 t0 f (nI N) (nI L) w (nI i) = _
      unfold s_X12_grows_b11
      rw [if_pos le]
      rfl
  | succ n ih =>
    intro F1 F2 i S T w h g5 g6 g7 hF1 hF2 hi
    obtain ⟨F1, rfl⟩ : ∃ z, F1 = z + 1 := ⟨F1 - 1, by omega⟩
    obtain ⟨F2, rfl⟩ : ∃ z, F2 = z + 1 := ⟨F2 - 1, by omega⟩
    have nle : ¬ nI N ≤ nI i := fun z => by have := (nI_le_iff hN (by omega)).mp z; omega
    have hX := h.1.1
    have hM := h.1.2.1
    obtain ⟨r19, r20, r21⟩ := h.2.2.2.1
    have e2 : hI S q 2 = hI T 37 (15 + 4 * k + 2) := h.1.2.2.2.2.2.2.2.1 2 (by decide)
    have step : ∀ (w2 fo : Int32) (F3 : Nat), fo = nI F3 → F3 ≤ 99 → ∃ r S2 T2, s_X4_growsLateBy_b61 (s_X4_growsLateBy_L8 7 F1) 7 S (nI L) w2 (nI i) (some 8) fo = some (r, S2) ∧ s_X12_grows_b76 (s_X12_grows_L11 33 F2) 33 T l1 l2 t0 f (nI N) (nI L) w2 (nI i) (fsz (hI T 33 19)) (some 33) l1 l2 fo = some (r, T2) ∧ KS S S2 ∧ SX T T2 ∧ (r = 0 ∨ r = 1) := by
      intro w2 fo F3 hfo hF3
      obtain ⟨S1, T1, t1, t2, t3, t4, t5, t6, t7, t8, t9, t10, t11, t12, t13⟩ := h.tick (lamp := 0) (p := 0) h1 h2 hfo hF3 rfl (by decide)
      obtain ⟨r, S2, T2, i1, i2, i3, i4, i5⟩ := ih F1 F2 (i + 1) S1 T1 w2 t3 (by rw [t4.2.1]; exact g5) (by rw [t4.2.1]; exact g6) (by rw [t4.2.1]; exact g7) (by omega) (by omega) (by omega)
      rw [← nI_1] at i1 i2
      have u19 := t3.2.2.2.1.1
      have hX1 := t3.1.1
      have hM1 := t3.1.2.1
      have eq1 : hI S1 q 2 = hI T1 37 (15 + 4 * k + 2) := t3.1.2.2.2.2.2.2.2.1 2 (by decide)
      unfold s_X4_growsLateBy_b61 s_X12_grows_b76 s_X4_growsLateBy_b115 s_X12_grows_b120
      rw [hX.o8, kv_some t1, hX1.p70, hX1.i8, hX1.i7, hX1.p74, hX1.iq, hX1.p70, hX1.i8, kO_m hM, kv_some t2, kI_m hM1, m_sz, kI_m hM1, m_sz, kO_m hM1, m_threadOf hM1 (l2 := 2) (j := 2) h2 rfl h.1.2.2.2.1 (by decide), kc_some, kO_m hM1, m_threadOf hM1 (l2 := 2) (j := 2) h2 rfl h.1.2.2.2.1 (by decide), kc_some, t4.2.1, g5, t9, u19, eq1, fabs_sz, fabs_sz, ← r19]
      by_cases c1 : t0 < fsz (hI T1 33 19)
      · rw [if_pos c1, if_pos c1]
        exact ⟨1, S1, T1, rfl, rfl, t4, t5, Or.inr rfl⟩
      · rw [if_neg c1, if_neg c1]
        by_cases c2 : fsz (hI T1 33 19) = hI T1 37 (15 + 4 * k + 2)
        · rw [if_pos c2, if_pos c2, ← c2]
          by_cases c3 : fsz (hI T1 33 19) ≤ fsz (hI S 8 3)
          · rw [if_pos c3, if_pos c3]
            exact ⟨r, S2, T2, i1, i2, t4.tr i3, t5.tr i4, i5⟩
          · rw [if_neg c3, if_neg c3]
            exact ⟨1, S1, T1, rfl, rfl, t4, t5, Or.inr rfl⟩
        · rw [if_neg c2, if_neg c2]
          exact ⟨r, S2, T2, i1, i2, t4.tr i3, t5.tr i4, i5⟩
    show ∃ r S2 T2, s_X4_growsLateBy_b8 (s_X4_growsLateBy_L8 7 F1) 7 S (nI L) w (nI i) = some (r, S2) ∧ s_X12_grows_b11 (s_X12_grows_L11 33 F2) 33 T l1 l2 t0 f (nI N) (nI L) w (nI i) = some (r, T2) ∧ KS S S2 ∧ SX T T2 ∧ (r = 0 ∨ r = 1)
    unfold s_X4_growsLateBy_b8 s_X12_grows_b11
    rw [hX.i7, g7, if_neg nle, if_neg nle, hX.p70, hX.i8, kI_m hM, ← r21]
    by_cases c0 : hI S 8 11 = 0
    · rw [if_pos c0, if_pos c0, hX.p70, hX.o8, hX.u, kI_m hM, m_sz, kO_m hM, hM.u, h.un]
      unfold s_X4_growsLateBy_b43 s_X12_grows_b53 s_X12_grows_b75
      by_cases c1 : fUn (hI S 8 3) (hI S 8 5) = 0
      · rw [if_pos c1, if_pos c1, hX.p70, if_pos (z_le hL), if_pos c1]
        exact step 0 0 0 rfl (by decide)
      · rw [if_neg c1, if_neg c1, hX.p70, if_neg c1, hX.i7, g6]
        by_cases c2 : w + 1 ≤ nI L
        · rw [if_pos c2, if_pos c2]
          exact step (w + 1) 0 0 rfl (by decide)
        · rw [if_neg c2, if_neg c2]
          exact step (w + 1) f F hf hF
    · rw [if_neg c0, if_neg c0]
      exact ⟨0, S, T, rfl, rfl, KS.rf S, SX.rf T, Or.inl rfl⟩
theorem late_one {c q d k N L : Nat} {l1 l2 t0 f : Int32} {F : Nat} (h1 : l1 = nI d) (h2 : l2 = nI k) (hf : f = nI F) (hF : F ≤ 99) (hN : N < 100000) (hL : L < 2 ^ 31) {S T : HS} (h : AT S T c q d k) (g5 : hI S 7 5 = t0) (g6 : hI S 7 6 = f) (g7 : hI S 7 7 = nI N) (ht : TOK (hI S q 2) t0 0) : ∃ r S2 T2, s_X4_growsLateBy S 7 (nI L) = some (r, S2) ∧ s_X12_grows T 33 l1 l2 t0 f (nI N) (nI L) = some (r, T2) ∧ KS S S2 ∧ SX T T2 ∧ (r = 0 ∨ r = 1) := by
  obtain ⟨S1, T1, s1, s2, s3, s4, s5, s6, s7, s8⟩ := TW.start h g5 ht
  obtain ⟨r, S2, T2, i1, i2, i3, i4, i5⟩ := late_loop (N := N) (L := L) (t0 := t0) h1 h2 hf hF (by omega) hL N 100000 100000 0 S1 T1 0 s3 (by rw [s4.2.1]; exact g5) (by rw [s4.2.1]; exact g6) (by rw [s4.2.1]; exact g7) hN hN (by omega)
  refine ⟨r, S2, T2, ?_, ?_, s4.tr i3, s5.tr i4, i5⟩
  · unfold s_X4_growsLateBy
    rw [h.1.o7, kv_some s1]
    exact i1
  · unfold s_X12_grows
    rw [kO_m h.2.1, kv_some s2]
    exact i2
theorem late_all {c q d k N : Nat} {l1 l2 t0 f : Int32} {F : Nat} (h1 : l1 = nI d) (h2 : l2 = nI k) (hf : f = nI F) (hF : F ≤ 99) (hN : N < 100000) : ∀ (n F1 F2 L : Nat) (S T : HS) (w : Int32), AT S T c q d k → hI S 7 5 = t0 → hI S 7 6 = f → hI S 7 7 = nI N → TOK (hI S q 2) t0 0 → n < F1 → n < F2 → L + n = 31 → w = (if L = 0 then -1000000 else nI L - 1) → ∃ r S2 T2, s_X4_latestGrowing_L5 7 F1 S w (nI L) = some (r, S2) ∧ s_X12_late_L25 33 F2 T l1 l2 t0 f (nI N) (nI L) = some (r, T2) ∧ KS S S2 ∧ SX T T2 := by
  have fin : ∀ (T : HS) (L : Nat) (w : Int32), L < 2 ^ 31 → w = (if L = 0 then -1000000 else nI L - 1) → s_X12_late_b54 33 T (nI L) = some (w, T) := by
    intro T L w hL hw
    unfold s_X12_late_b54
    by_cases z : L = 0
    · subst z
      rw [if_pos rfl] at hw
      rw [hw]
      exact if_pos rfl
    · rw [if_neg z] at hw
      rw [if_neg (nI_ne0 (by omega) (by omega)), hw]
  intro n
  induction n with
  | zero =>
    intro F1 F2 L S T w h g5 g6 g7 ht hF1 hF2 hi hw
    obtain ⟨F1, rfl⟩ : ∃ z, F1 = z + 1 := ⟨F1 - 1, by omega⟩
    obtain ⟨F2, rfl⟩ : ∃ z, F2 = z + 1 := ⟨F2 - 1, by omega⟩
    obtain rfl : L = 31 := by omega
    refine ⟨w, S, T, ?_, ?_, KS.rf S, SX.rf T⟩
    · show s_X4_latestGrowing_b5 _ 7 S w (nI 31) = _
      unfold s_X4_latestGrowing_b5
      rw [if_pos (by decide)]
    · show s_X12_late_b25 _ 33 T l1 l2 t0 f (nI N) (nI 31) = _
      unfold s_X12_late_b25
      rw [if_pos (by decide)]
      exact fin T 31 w (by decide) hw
  | succ n ih =>
    intro F1 F2 L S T w h g5 g6 g7 ht hF1 hF2 hi hw
    obtain ⟨F1, rfl⟩ : ∃ z, F1 = z + 1 := ⟨F1 - 1, by omega⟩
    obtain ⟨F2, rfl⟩ : ∃ z, F2 = z + 1 := ⟨F2 - 1, by omega⟩
    have nlt : ¬ (30 : Int32) < nI L := fun z => by
      have := i32_lt.mp z
      rw [nI_toInt (by omega), show (30 : Int32).toInt = 30 from rfl] at this
      omega
    obtain ⟨r, S1, T1, o1, o2, o3, o4, o5⟩ := late_one (N := N) (L := L) h1 h2 hf hF hN (by omega) h g5 g6 g7 ht
    have ec : hI S1 q = hI S q := o3.1.ge h.2.2.2.2.2.1
    obtain ⟨r2, S2, T2, i1, i2, i3, i4⟩ := ih F1 F2 (L + 1) S1 T1 (nI L) (h.keep o3 o4) (by rw [o3.2.1]; exact g5) (by rw [o3.2.1]; exact g6) (by rw [o3.2.1]; exact g7) (by rw [ec]; exact ht) (by omega) (by omega) (by omega) (by rw [if_neg (by omega), ← nI_1]; exact (Int32.add_sub_cancel (nI L) 1).symm)
    rw [← nI_1] at i1 i2
    show ∃ r S2 T2, s_X4_latestGrowing_b5 (s_X4_latestGrowing_L5 7 F1) 7 S w (nI L) = some (r, S2) ∧ s_X12_late_b25 (s_X12_late_L25 33 F2) 33 T l1 l2 t0 f (nI N) (nI L) = some (r, T2) ∧ KS S S2 ∧ SX T T2
    unfold s_X4_latestGrowing_b5 s_X12_late_b25
    rw [if_neg nlt, if_neg nlt, h.1.o7, o1, kc_some, kO_m h.2.1, o2, kc_some]
    rcases o5 with rfl | rfl
    · rw [if_pos rfl, if_pos rfl]
      exact ⟨w, S1, T1, rfl, fin T1 L w (by omega) hw, o3, o4⟩
    · rw [if_neg (by decide), if_neg (by decide)]
      exact ⟨r2, S2, T2, i1, i2, o3.tr i3, o4.tr i4⟩
theorem det {P : Option (Int32 × HS)} {a b : Int32 × HS} (h1 : P = some a) (h2 : P = some b) : a = b := Option.some.inj (h1.symm.trans h2)
theorem ok_late {S : HS} (h : RR S) (l1 l2 l3 l4 l5 : Int32) : CK (fun S => s_X11_late S 0 l1 l2 l3 l4 l5) (fun S => s_X12_late S 33 l1 l2 l3 l4 l5) S := by
  refine asked_ok h (K := fun S1 => kP S1 (some 0) 11 4 (fun v4 => kO S1 v4 4 (fun a7 => kc (s_X4_latestGrowing S1 a7) (fun v6 S5 => some (v6, S5))))) (M := fun S2 => s_X12_late_L25 33 100000 S2 l1 l2 l3 l4 l5 0) ?_
  intro c q d k F N e1 e2 hD hQ hf hF hn hN hN1 ht ht0
  obtain ⟨g1, g5, g6, g7⟩ := ab_LF h hD hQ l3 l4 l5
  have gx := ab_SX S c q l3 l4 l5
  have eq : hI (ab S c q l3 l4 l5) q = hI S q := gx.ge hQ.1
  rw [hn] at g7 gx g1 g5 g6 eq
  obtain ⟨r, S1, T1, i1, i2, i3, i4⟩ := late_all (N := N) (t0 := l3) e1 e2 hf hF (by omega) 31 100000 100000 0 (ab S c q l3 l4 (nI N)) S (-1000000) (ab_AT h hD hQ l3 l4 (nI N) (SX.rf S)) g5 g6 g7 (by rw [eq]; exact ht) (by decide) (by decide) (by decide) rfl
  have gs := gx.tr i3.1
  obtain ⟨r2, S2, T2, j1, j2, j3, j4⟩ := late_all (N := N) (t0 := l3) e1 e2 hf hF (by omega) 31 100000 100000 0 (ab S c q l3 l4 (nI N)) (wI S1 33 0 0) (-1000000) (ab_AT h hD hQ l3 l4 (nI N) (gs.tr (SX.w0 S1))) g5 g6 g7 (by rw [eq]; exact ht) (by decide) (by decide) (by decide) rfl
  obtain ⟨rfl, rfl⟩ := Prod.mk.inj (det i1 j1)
  refine ⟨r, S1, T2, ?_, gs, ?_, (gs.tr (SX.w0 S1)).tr j4⟩
  · rw [hn]
    have hLa := (h.to gx).2.1
    show kP _ (some 0) 11 4 _ = _
    rw [kP_c0_4 hLa, kO_c7 hLa]
    unfold s_X4_latestGrowing
    show kc (s_X4_latestGrowing_L5 7 100000 (ab S c q l3 l4 (nI N)) (-1000000) (nI 0)) _ = _
    rw [i1, kc_some]
  · rw [hn]
    exact j2
