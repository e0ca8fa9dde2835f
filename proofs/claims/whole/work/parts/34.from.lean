/-! ===== FROM ===== -/
/-- what the class pulls from w on, as mathematics; nx: the greatest lesser w that would be another -/
theorem from_loop {c q d k N F W : Nat} {f : Int32} (hf : f = nI F) (hF : F ≤ 99) (hNl : N < 2 ^ 31) (hW : W < 2 ^ 30) : ∀ (n F1 i : Nat) (S T : HS) (nx : Int32), TW S T c q d k → hI S 7 6 = f → hI S 7 7 = nI N → n < F1 → i + n = N → ∃ nx2 S2, s_X4_pulledFrom_L8 7 F1 S (nI W) nx (nI i) = some (nx2, S2) ∧ KS S S2 ∧ hI S2 8 7 = (mG (hI T 37) d k f (nI W) n (hI T 33) (hI S 8 7)).1 ∧ hI S2 8 11 = (mG (hI T 37) d k f (nI W) n (hI T 33) (hI S 8 7)).2 21 ∧ nx.toInt ≤ nx2.toInt ∧ ∀ w : Nat, nx2.toInt < w → w ≤ W → mG (hI T 37) d k f (nI w) n (hI T 33) (hI S 8 7) = mG (hI T 37) d k f (nI W) n (hI T 33) (hI S 8 7) := by
  intro n
  induction n with
  | zero =>
    intro F1 i S T nx h g6 g7 hF1 hi
    obtain ⟨F1, rfl⟩ : ∃ z, F1 = z + 1 := ⟨F1 - 1, by omega⟩
    have le : nI N ≤ nI i := (nI_le_iff (by omega) (by omega)).mpr (by omega)
    refine ⟨nx, S, ?_, KS.rf S, rfl, h.2.2.2.1.2.2, Int.le_refl _, fun _ _ _ => rfl⟩
    show s_X4_pulledFrom_b8 _ 7 S (nI W) nx (nI i) = _
    unfold s_X4_pulledFrom_b8
    rw [h.1.1.i7, g7, if_pos le]
  | succ n ih =>
    intro F1 i S T nx h g6 g7 hF1 hi
    obtain ⟨F1, rfl⟩ : ∃ z, F1 = z + 1 := ⟨F1 - 1, by omega⟩
    have nle : ¬ nI N ≤ nI i := fun z => by have := (nI_le_iff (by omega) (by omega)).mp z; omega
    have hX := h.1.1
    obtain ⟨r19, r20, r21⟩ := h.2.2.2.1
    obtain ⟨wd, hwd, hwd2⟩ : ∃ wd : Nat, fsz (hI S 8 3) = nI wd ∧ wd ≤ 800 := by
      obtain ⟨A, B, M, N, f0, f1, f2, f3, hA, hA2, hB, hB2, hBM, hM, hN1, hN2⟩ := h.1.2.2.2.2.2.2.2.2.2
      have h1 := h.2.2.2.2.1
      rw [f2, nI_toInt (by omega)] at h1
      exact ⟨(hI S 8 3).toInt.natAbs, fsz_n (by omega), by omega⟩
    have hwi : (nI wd).toInt = (wd : Int) := nI_toInt (by omega)
    have wlt : ∀ w : Nat, w < 2 ^ 30 → (nI wd < nI w ↔ wd < w) := fun w hw => by rw [i32_lt, hwi, nI_toInt (by omega)]; omega
    have step : ∀ (fo : Int32) (F3 : Nat) (nx1 : Int32), fo = nI F3 → F3 ≤ 99 → nx.toInt ≤ nx1.toInt → (if fUn (hI S 8 3) (hI S 8 5) = 0 then 0 else if fsz (hI S 8 3) < nI W then 0 else f) = fo → (∀ w : Nat, nx1.toInt < w → w ≤ W → (if fUn (hI S 8 3) (hI S 8 5) = 0 then 0 else if fsz (hI S 8 3) < nI w then 0 else f) = fo) → hI S 8 11 = 0 → ∃ nx2 S2, s_X4_pulledFrom_b88 (s_X4_pulledFrom_L8 7 F1) 7 S (nI W) nx1 (nI i) (some 8) fo = some (nx2, S2) ∧ KS S S2 ∧ hI S2 8 7 = (mG (hI T 37) d k f (nI W) (n + 1) (hI T 33) (hI S 8 7)).1 ∧ hI S2 8 11 = (mG (hI T 37) d k f (nI W) (n + 1) (hI T 33) (hI S 8 7)).2 21 ∧ nx.toInt ≤ nx2.toInt ∧ ∀ w : Nat, nx2.toInt < w → w ≤ W → mG (hI T 37) d k f (nI w) (n + 1) (hI T 33) (hI S 8 7) = mG (hI T 37) d k f (nI W) (n + 1) (hI T 33) (hI S 8 7) := by
      intro fo F3 nx1 hfo hF3 hx hW1 hw1 h11
      obtain ⟨S1, T1, t1, t2, t3, t4, t5, t6, t7, t8, t9, t10, t11, t12, t13⟩ := h.tick (l1 := nI d) (l2 := nI k) (lamp := 0) (p := 0) rfl rfl hfo hF3 rfl (by decide)
      have mw : ¬ hI T 37 (3 + 3 * d) = 0 := by
        have := h.1.2.2.2.2.2.2.1 0 (by decide)
        rw [show 3 + 3 * d + 0 = 3 + 3 * d from rfl] at this
        rw [← this]
        exact h.1.2.2.2.2.2.2.2.2.1.ne
      have e33 : hI T1 33 = mTk (hI T 33) (hI T 37) d k fo 0 := by
        have e := m_tick (f := fo) (lamp := 0) h.1.2.1 (l1 := nI d) (l2 := nI k) rfl rfl h.1.2.2.1 h.1.2.2.2.1 mw
        rw [Option.some.inj (t2.symm.trans e), hI_wC_self]
      obtain ⟨nx2, S2, i1, i2, i3, i4, i5, i6⟩ := ih F1 (i + 1) S1 T1 nx1 t3 (by rw [t4.2.1]; exact g6) (by rw [t4.2.1]; exact g7) (by omega) (by omega)
      rw [t5.m37, t10, fmax_alt, e33] at i3 i4 i6
      rw [← nI_1 i] at i1
      refine ⟨nx2, S2, ?_, t4.tr i2, ?_, ?_, by omega, ?_⟩
      · unfold s_X4_pulledFrom_b88
        rw [hX.o8, kv_some t1]
        exact i1
      · rw [mG_succ, ← r19, ← r20, ← r21, if_pos h11, hW1]
        exact i3
      · rw [mG_succ, ← r19, ← r20, ← r21, if_pos h11, hW1]
        exact i4
      · intro w hw hwW
        rw [mG_succ, mG_succ, ← r19, ← r20, ← r21, if_pos h11, if_pos h11, hW1, hw1 w (by omega) hwW]
        exact i6 w hw hwW
    show ∃ nx2 S2, s_X4_pulledFrom_b8 (s_X4_pulledFrom_L8 7 F1) 7 S (nI W) nx (nI i) = some (nx2, S2) ∧ KS S S2 ∧ _
    unfold s_X4_pulledFrom_b8
    rw [hX.i7, g7, if_neg nle, hX.p70, hX.i8]
    by_cases c0 : hI S 8 11 = 0
    · rw [if_pos c0, hX.p70, hX.i8, hX.p70, hX.o8, hX.u, fabs_sz, hwd]
      unfold s_X4_pulledFrom_b65 s_X4_pulledFrom_b87
      by_cases c1 : fUn (hI S 8 3) (hI S 8 5) = 0
      · rw [if_pos c1, hX.p70, if_pos c1]
        exact step 0 0 nx rfl (by decide) (Int.le_refl _) (if_pos c1) (fun _ _ _ => if_pos c1) c0
      · rw [if_neg c1, hX.p70, hX.p70, if_neg c1, if_neg c1, hX.i7, g6]
        by_cases c2 : wd < W
        · have a1 : ¬ nI W ≤ nI wd := fun z => by have := (nI_le_iff (by omega) (by omega)).mp z; omega
          have a2 : nI wd < nI W := (wlt W hW).mpr c2
          rw [if_neg a1, if_pos a2]
          have em : nx.toInt ≤ (fmax nx (nI wd)).toInt ∧ (wd : Int) ≤ (fmax nx (nI wd)).toInt := by
            rw [fmax_alt]
            split
            · next z => have := i32_le.mp z; omega
            · next z => have : ¬ _ := fun y => z (i32_le.mpr y); omega
          refine step 0 0 (fmax nx (nI wd)) rfl (by decide) em.1 ?_ ?_ c0
          · rw [if_neg c1, hwd, if_pos a2]
          · intro w hw hwW
            rw [if_neg c1, hwd, if_pos ((wlt w (by omega)).mpr (by omega))]
        · have a1 : nI W ≤ nI wd := (nI_le_iff (by omega) (by omega)).mpr (by omega)
          have a2 : ¬ nI wd < nI W := fun z => c2 ((wlt W hW).mp z)
          rw [if_pos a1, if_neg a2]
          refine step f F nx hf hF (Int.le_refl _) ?_ ?_ c0
          · rw [if_neg c1, hwd, if_neg a2]
          · intro w hw hwW
            rw [if_neg c1, hwd, if_neg (fun z => c2 (by have := (wlt w (by omega)).mp z; omega))]
    · rw [if_neg c0]
      have e : ∀ fr : Int32, mG (hI T 37) d k f fr (n + 1) (hI T 33) (hI S 8 7) = (hI S 8 7, hI T 33) := by
        intro fr
        rw [mG_succ, ← r21, if_neg c0]
      refine ⟨nx, S, rfl, KS.rf S, ?_, ?_, Int.le_refl _, fun w _ _ => by rw [e, e]⟩
      · rw [e]
      · rw [e]
        exact r21
theorem from_one {c q d k N F W : Nat} {f t0 : Int32} (hf : f = nI F) (hF : F ≤ 99) (hNl : N < 100000) (hW : W < 2 ^ 30) {S T : HS} (h : AT S T c q d k) (g5 : hI S 7 5 = t0) (g6 : hI S 7 6 = f) (g7 : hI S 7 7 = nI N) (ht : TOK (hI S q 2) t0 0) : ∃ nx2 S2, s_X4_pulledFrom S 7 (nI W) = some (nx2, S2) ∧ KS S S2 ∧ hI S2 8 7 = (mG (hI T 37) d k f (nI W) N (rup (rup (rup (hI T 33) 19 t0) 20 0) 21 0) 0).1 ∧ hI S2 8 11 = (mG (hI T 37) d k f (nI W) N (rup (rup (rup (hI T 33) 19 t0) 20 0) 21 0) 0).2 21 ∧ ∀ w : Nat, nx2.toInt < w → w ≤ W → mG (hI T 37) d k f (nI w) N (rup (rup (rup (hI T 33) 19 t0) 20 0) 21 0) 0 = mG (hI T 37) d k f (nI W) N (rup (rup (rup (hI T 33) 19 t0) 20 0) 21 0) 0 := by
  obtain ⟨S1, T1, s1, s2, s3, s4, s5, s6, s7, s8⟩ := TW.start h g5 ht
  have e33 : hI T1 33 = rup (rup (rup (hI T 33) 19 t0) 20 0) 21 0 := by
    rw [Option.some.inj (s2.symm.trans (m_rest h.2.1 t0)), hI_wC_self]
  obtain ⟨nx2, S2, i1, i2, i3, i4, i5, i6⟩ := from_loop (N := N) (W := W) hf hF (by omega) hW N 100000 0 S1 T1 (-1) s3 (by rw [s4.2.1]; exact g6) (by rw [s4.2.1]; exact g7) hNl (by omega)
  have e7 : hI S1 8 7 = 0 := by rw [s6]; rfl
  rw [s5.m37, e33, e7] at i3 i4 i6
  refine ⟨nx2, S2, ?_, s4.tr i2, i3, i4, i6⟩
  unfold s_X4_pulledFrom
  rw [h.1.o7, kv_some s1]
  exact i1
theorem from_all {c q d k N F : Nat} {l1 l2 f t0 : Int32} {σ β : Nat → Int32} (h1 : l1 = nI d) (h2 : l2 = nI k) (hf : f = nI F) (hF : F ≤ 99) (hNl : N < 100000) : ∀ (n F1 F2 : Nat) (S T : HS) (bt mo nx v : Int32), AT S T c q d k → hI T 37 = β → hI S 7 5 = t0 → hI S 7 6 = f → hI S 7 7 = nI N → TOK (hI S q 2) t0 0 → n + 1 < F1 → n + 1 < F2 → n < 2 ^ 30 → ((n = 0 ∧ v = -1) ∨ ∃ W, n = W + 1 ∧ v = nI W) → (∀ w : Nat, nx.toInt < w → w < n → (¬ (mG β d k f (nI w) N (rup (rup (rup σ 19 t0) 20 0) 21 0) 0).2 21 = 0) ∨ (mG β d k f (nI w) N (rup (rup (rup σ 19 t0) 20 0) 21 0) 0).1 ≤ mo) → ∃ r S2 T2, s_X4_bestFrom_L16 7 F1 S bt mo nx v = some (r, S2) ∧ s_X12_from_L32 33 F2 T l1 l2 t0 f (nI N) bt mo v = some (r, T2) ∧ KS S S2 ∧ SX T T2 := by
  intro n
  induction n with
  | zero =>
    intro F1 F2 S T bt mo nx v h hβ g5 g6 g7 ht hF1 hF2 hn hv inv
    obtain ⟨F1, rfl⟩ : ∃ z, F1 = z + 1 := ⟨F1 - 1, by omega⟩
    obtain ⟨F2, rfl⟩ : ∃ z, F2 = z + 1 := ⟨F2 - 1, by omega⟩
    obtain ⟨-, rfl⟩ : (0 : Nat) = 0 ∧ v = -1 := by
      rcases hv with hv | ⟨W, hW, -⟩
      · exact hv
      · omega
    refine ⟨bt, S, T, ?_, ?_, KS.rf S, SX.rf T⟩
    · show s_X4_bestFrom_b16 _ 7 S bt mo nx (-1) = _
      unfold s_X4_bestFrom_b16
      rw [if_pos (by decide)]
    · show s_X12_from_b32 _ 33 T l1 l2 t0 f (nI N) bt mo (-1) = _
      unfold s_X12_from_b32
      rw [if_pos (by decide)]
  | succ W ih =>
    intro F1 F2 S T bt mo nx v h hβ g5 g6 g7 ht hF1 hF2 hn hv inv
    obtain ⟨F1, rfl⟩ : ∃ z, F1 = z + 1 := ⟨F1 - 1, by omega⟩
    obtain ⟨F2, rfl⟩ : ∃ z, F2 = z + 1 := ⟨F2 - 1, by omega⟩
    obtain rfl : v = nI W := by
      rcases hv with hv | ⟨W2, hW, hv⟩
      · omega
      · rw [hv, show W2 = W by omega]
    have nn : ¬ nI W < 0 := nI_pos (by omega)
    have hwi : (nI W).toInt = (W : Int) := nI_toInt (by omega)
    have hM := h.2.1
    have mw : ¬ hI T 37 (3 + 3 * d) = 0 := by
      have := h.2.2.2.2.2.2.1 0 (by decide)
      rw [show 3 + 3 * d + 0 = 3 + 3 * d from rfl] at this
      rw [← this]
      exact h.2.2.2.2.2.2.2.2.1.ne
    have er := m_runGreatest (S := T) hM (d := d) (k := k) (N := N) (t0 := t0) (f := f) (fr := nI W) h1 h2 h.2.2.1 h.2.2.2.1 mw hNl
    have xT : SX T (wC T 33 (mG (hI T 37) d k f (nI W) N (rup (rup (rup (hI T 33) 19 t0) 20 0) 21 0) 0).2) := SX.mG33 _ _ _ _ _ _ _ _
    rw [hβ] at er xT
    obtain ⟨s1, s2⟩ := mG_st (β := β) (d := d) (k := k) (f := f) (fr := nI W) (t0 := t0) N (hI T 33) σ 0
    have hv2 : (W = 0 ∧ nI W + (-1) = -1) ∨ ∃ W2, W = W2 + 1 ∧ nI W + (-1) = nI W2 := by
      cases W with
      | zero => exact Or.inl ⟨rfl, by decide⟩
      | succ W2 => exact Or.inr ⟨W2, rfl, nI_m1 W2⟩
    have mi : ∀ (x y : Option (Int32 × HS)), s_X12_from_L32 33 F2 (wC T 33 (mG β d k f (nI W) N (rup (rup (rup (hI T 33) 19 t0) 20 0) 21 0) 0).2) l1 l2 t0 f (nI N) bt mo (nI W + (-1)) = x → s_X12_from_L32 33 F2 (wC T 33 (mG β d k f (nI W) N (rup (rup (rup (hI T 33) 19 t0) 20 0) 21 0) 0).2) l1 l2 t0 f (nI N) (nI W) (mG β d k f (nI W) N (rup (rup (rup σ 19 t0) 20 0) 21 0) 0).1 (nI W + (-1)) = y → s_X12_from_b32 (s_X12_from_L32 33 F2) 33 T l1 l2 t0 f (nI N) bt mo (nI W) = if (mG β d k f (nI W) N (rup (rup (rup σ 19 t0) 20 0) 21 0) 0).2 21 = 0 then (if (mG β d k f (nI W) N (rup (rup (rup σ 19 t0) 20 0) 21 0) 0).1 ≤ mo then x else y) else x := by
      intro x y hx hy
      unfold s_X12_from_b32 s_X12_from_b74
      rw [if_neg nn, kO_m hM, er, kc_some, kI_m (xT.lm hM), hI_wC_self, s1, s2, hx, hy]
    show ∃ r S2 T2, s_X4_bestFrom_b16 (s_X4_bestFrom_L16 7 F1) 7 S bt mo nx (nI W) = some (r, S2) ∧ s_X12_from_b32 (s_X12_from_L32 33 F2) 33 T l1 l2 t0 f (nI N) bt mo (nI W) = some (r, T2) ∧ KS S S2 ∧ SX T T2
    unfold s_X4_bestFrom_b16 s_X4_bestFrom_b72
    rw [if_neg nn]
    by_cases c1 : nI W ≤ nx
    · have c2 := i32_le.mp c1
      rw [hwi] at c2
      rw [if_pos c1, h.1.o7]
      obtain ⟨nx2, S1, o1, o2, o3, o4, o5⟩ := from_one (N := N) (W := W) hf hF hNl (by omega) h g5 g6 g7 ht
      rw [hβ] at o3 o4 o5
      rw [s1] at o3
      rw [s2] at o4
      have hF1' := h.1.keep o2
      have ec : hI S1 q = hI S q := o2.1.ge h.2.2.2.2.2.1
      have eqG : ∀ w : Nat, nx2.toInt < w → w ≤ W → (mG β d k f (nI w) N (rup (rup (rup σ 19 t0) 20 0) 21 0) 0).1 = (mG β d k f (nI W) N (rup (rup (rup σ 19 t0) 20 0) 21 0) 0).1 ∧ (mG β d k f (nI w) N (rup (rup (rup σ 19 t0) 20 0) 21 0) 0).2 21 = (mG β d k f (nI W) N (rup (rup (rup σ 19 t0) 20 0) 21 0) 0).2 21 := by
        intro w hw hwW
        obtain ⟨u1, u2⟩ := mG_st (β := β) (d := d) (k := k) (f := f) (fr := nI w) (t0 := t0) N (hI T 33) σ 0
        rw [← u1, ← u2, ← s1, ← s2, o5 w hw hwW]
        exact ⟨rfl, rfl⟩
      have rest : ∀ bt' mo', ((¬ (mG β d k f (nI W) N (rup (rup (rup σ 19 t0) 20 0) 21 0) 0).2 21 = 0) ∨ (mG β d k f (nI W) N (rup (rup (rup σ 19 t0) 20 0) 21 0) 0).1 ≤ mo') → ∃ r S2 T2, s_X4_bestFrom_L16 7 F1 S1 bt' mo' nx2 (nI W + (-1)) = some (r, S2) ∧ s_X12_from_L32 33 F2 (wC T 33 (mG β d k f (nI W) N (rup (rup (rup (hI T 33) 19 t0) 20 0) 21 0) 0).2) l1 l2 t0 f (nI N) bt' mo' (nI W + (-1)) = some (r, T2) ∧ KS S S2 ∧ SX T T2 := by
        intro bt' mo' hm
        obtain ⟨r, S2, T2, i1, i2, i3, i4⟩ := ih F1 F2 S1 (wC T 33 (mG β d k f (nI W) N (rup (rup (rup (hI T 33) 19 t0) 20 0) 21 0) 0).2) bt' mo' nx2 (nI W + (-1)) (h.keep o2 xT) (by rw [xT.m37]; exact hβ) (by rw [o2.2.1]; exact g5) (by rw [o2.2.1]; exact g6) (by rw [o2.2.1]; exact g7) (by rw [ec]; exact ht) (by omega) (by omega) (by omega) hv2 (by
          intro w hw hwW
          obtain ⟨v1, v2⟩ := eqG w hw (by omega)
          rw [v1, v2]
          exact hm)
        exact ⟨r, S2, T2, i1, i2, o2.tr i3, xT.tr i4⟩
      rw [o1, kc_some, hF1'.p70, hF1'.i8, hF1'.p70, hF1'.i8, hF1'.p70, hF1'.i8, o3, o4]
      by_cases z : (mG β d k f (nI W) N (rup (rup (rup σ 19 t0) 20 0) 21 0) 0).2 21 = 0
      · rw [if_pos z]
        by_cases y : (mG β d k f (nI W) N (rup (rup (rup σ 19 t0) 20 0) 21 0) 0).1 ≤ mo
        · rw [if_neg (nlt_le y)]
          obtain ⟨r, S2, T2, i1, i2, i3, i4⟩ := rest bt mo (Or.inr y)
          exact ⟨r, S2, T2, i1, (mi _ _ rfl rfl).trans (by rw [if_pos z, if_pos y]; exact i2), i3, i4⟩
        · rw [if_pos (lt_le y)]
          obtain ⟨r, S2, T2, i1, i2, i3, i4⟩ := rest (nI W) _ (Or.inr (i32_le.mpr (Int.le_refl _)))
          exact ⟨r, S2, T2, i1, (mi _ _ rfl rfl).trans (by rw [if_pos z, if_neg y]; exact i2), i3, i4⟩
      · rw [if_neg z]
        obtain ⟨r, S2, T2, i1, i2, i3, i4⟩ := rest bt mo (Or.inl z)
        exact ⟨r, S2, T2, i1, (mi _ _ rfl rfl).trans (by rw [if_neg z]; exact i2), i3, i4⟩
    · have c2 : ¬ _ := fun z => c1 (i32_le.mpr z)
      rw [hwi] at c2
      rw [if_neg c1]
      obtain ⟨r, S2, T2, i1, i2, i3, i4⟩ := ih F1 F2 S (wC T 33 (mG β d k f (nI W) N (rup (rup (rup (hI T 33) 19 t0) 20 0) 21 0) 0).2) bt mo nx (nI W + (-1)) (h.keep (KS.rf S) xT) (by rw [xT.m37]; exact hβ) g5 g6 g7 ht (by omega) (by omega) (by omega) hv2 (fun w hw hwW => inv w hw (by omega))
      refine ⟨r, S2, T2, i1, (mi _ _ rfl rfl).trans ?_, i3, xT.tr i4⟩
      rcases inv W (by omega) (by omega) with z | z
      · rw [if_neg z]
        exact i2
      · by_cases y : (mG β d k f (nI W) N (rup (rup (rup σ 19 t0) 20 0) 21 0) 0).2 21 = 0
        · rw [if_pos y, if_pos z]
          exact i2
        · rw [if_neg y]
          exact i2
theorem ok_from {S : HS} (h : RR S) (l1 l2 l3 l4 l5 : Int32) : CK (fun S => s_X11_from S 0 l1 l2 l3 l4 l5) (fun S => s_X12_from S 33 l1 l2 l3 l4 l5) S := by
  refine asked_ok h (K := fun S1 => kP S1 (some 0) 11 4 (fun v4 => kO S1 v4 4 (fun a7 => kc (s_X4_bestFrom S1 a7) (fun v6 S5 => some (v6, S5))))) (M := fun S2 => s_X12_from_L32 33 100000 S2 l1 l2 l3 l4 l5 (-1000000) (-1) l3) ?_
  intro c q d k F N e1 e2 hD hQ hf hF hn hNl hN1 ht ht0
  obtain ⟨g1, g5, g6, g7⟩ := ab_LF h hD hQ l3 l4 l5
  have gx := ab_SX S c q l3 l4 l5
  have eq : hI (ab S c q l3 l4 l5) q = hI S q := gx.ge hQ.1
  rw [hn] at g7 gx g1 g5 g6 eq
  have hmo := hQ.2.2.2.2.2.most
  obtain ⟨W, hW, hW1, hW2⟩ : ∃ W : Nat, l3 = nI W ∧ 1 ≤ W ∧ W ≤ 800 := by
    have := ht.1
    obtain ⟨W, w1, w2, w3⟩ := I_N (n := l3) (a := 1) (b := 800) (by omega) (by omega) (by decide)
    exact ⟨W, w1, by omega, by omega⟩
  obtain ⟨r, S1, T1, i1, i2, i3, i4⟩ := from_all (N := N) (t0 := l3) (σ := hI S 33) (β := hI S 37) e1 e2 hf hF (by omega) (W + 1) 100000 100000 (ab S c q l3 l4 (nI N)) S (-1000000) (-1) l3 l3 (ab_AT h hD hQ l3 l4 (nI N) (SX.rf S)) rfl g5 g6 g7 (by rw [eq]; exact ht) (by omega) (by omega) (by omega) (Or.inr ⟨W, rfl, hW⟩) (by
    intro w hw hw2
    rw [hW, nI_toInt (by omega)] at hw
    omega)
  have gs := gx.tr i3.1
  obtain ⟨r2, S2, T2, j1, j2, j3, j4⟩ := from_all (N := N) (t0 := l3) (σ := hI S 33) (β := hI S 37) e1 e2 hf hF (by omega) (W + 1) 100000 100000 (ab S c q l3 l4 (nI N)) (wI S1 33 0 0) (-1000000) (-1) l3 l3 (ab_AT h hD hQ l3 l4 (nI N) (gs.tr (SX.w0 S1))) (gs.tr (SX.w0 S1)).m37 g5 g6 g7 (by rw [eq]; exact ht) (by omega) (by omega) (by omega) (Or.inr ⟨W, rfl, hW⟩) (by
    intro w hw hw2
    rw [hW, nI_toInt (by omega)] at hw
    omega)
  obtain ⟨rfl, rfl⟩ := Prod.mk.inj (det i1 j1)
  refine ⟨r, S1, T2, ?_, gs, ?_, (gs.tr (SX.w0 S1)).tr j4⟩
  · rw [hn]
    have hLa := (h.to gx).2.1
    show kP _ (some 0) 11 4 _ = _
    rw [kP_c0_4 hLa, kO_c7 hLa]
    unfold s_X4_bestFrom
    rw [g1.i7, g1.i7, g5, i1, kc_some]
  · rw [hn]
    exact j2
