/-! ===== pulls ===== -/
def plR (T : HS) (l1 l2 l3 : Int32) : Option (Int32 × HS) := kP T (some 33) 12 2 (fun v8 => kA T v8 14 l1 (fun v9 => if 0 ≤ v9 then (if l2 < 0 then (s_X12_pulls_b74 33 T) else (kP T (some 33) 12 3 (fun v10 => kA T v10 14 l1 (fun v11 => if l2.toInt64 + l3.toInt64 ≤ v11.toInt64 then (s_X12_pulls_L83 33 100000 T l1 l2 l3 0) else (s_X12_pulls_b74 33 T))))) else (kO T (some 33) 12 (fun a14 => kc (s_X12_finding T a14 1) (fun v13 S12 => some (v13, S12))))))
theorem m_b74 {T : HS} (h : LM T) : s_X12_pulls_b74 33 T = some (-1000010 - 2, wI T 33 1 2) := by
  unfold s_X12_pulls_b74
  rw [kO_m h, m_finding h, kc_some]
theorem m_L83 {T : HS} (h : LM T) {r I N : Nat} {l1 l2 l3 : Int32} (h1 : l1 = nI r) (h2 : l2 = nI I) (h3 : l3 = nI N) (hr : r < 8) (hIN : I + N ≤ 40) {g : Nat → Int32} (hit : ∀ j, j < 40 → hI T 36 (40 * r + j) = g j) : ∀ (m F k : Nat), m < F → k + m = N → ((∀ x, k ≤ x → x < N → 0 ≤ (g (I + x)).toInt ∧ (g (I + x)).toInt ≤ 99) ∧ s_X12_pulls_L83 33 F T l1 l2 l3 (nI k) = s_X12_pulls_L131 33 100000 (wI T 33 1 0) l1 l2 l3 0) ∨ ((∃ x, k ≤ x ∧ x < N ∧ ¬ (0 ≤ (g (I + x)).toInt ∧ (g (I + x)).toInt ≤ 99)) ∧ s_X12_pulls_L83 33 F T l1 l2 l3 (nI k) = some (-1000001, T)) := by
  intro m
  induction m with
  | zero =>
    intro F k hF hk
    obtain ⟨F, rfl⟩ : ∃ z, F = z + 1 := ⟨F - 1, by omega⟩
    refine Or.inl ⟨fun x hx hx2 => by omega, ?_⟩
    show s_X12_pulls_b83 _ 33 T l1 l2 l3 (nI k) = _
    unfold s_X12_pulls_b83
    rw [h3, if_pos ((nI_le_iff (by omega) (by omega)).mpr (by omega)), kwI_m h]
  | succ m ih =>
    intro F k hF hk
    obtain ⟨F, rfl⟩ : ∃ z, F = z + 1 := ⟨F - 1, by omega⟩
    have e36 : 40 * l1 + l2 + nI k = nI (40 * r + (I + k)) := by rw [n40 h1 h2, nI_add, Nat.add_assoc]
    have e : s_X12_pulls_L83 33 (F + 1) T l1 l2 l3 (nI k) = (if 0 ≤ (g (I + k)).toInt ∧ (g (I + k)).toInt ≤ 99 then s_X12_pulls_L83 33 F T l1 l2 l3 (nI (k + 1)) else some (-1000001, T)) := by
      show s_X12_pulls_b83 _ 33 T l1 l2 l3 (nI k) = _
      unfold s_X12_pulls_b83
      rw [if_neg (fun z => by rw [h3] at z; have := (nI_le_iff (by omega) (by omega)).mp z; omega), kP_m4 h, kA_m36 h e36 (by omega), hit (I + k) (by omega), m_inI _ (a := 0) (b := 99) rfl rfl, kc_some, nI_1]
      by_cases c : 0 ≤ (g (I + k)).toInt ∧ (g (I + k)).toInt ≤ 99
      · rw [if_pos c, if_pos c, if_neg (by decide)]
      · rw [if_neg c, if_neg c, if_pos rfl]
    rw [e]
    by_cases c : 0 ≤ (g (I + k)).toInt ∧ (g (I + k)).toInt ≤ 99
    · rw [if_pos c]
      rcases ih F (k + 1) (by omega) (by omega) with ⟨i1, i2⟩ | ⟨⟨x, x1, x2, x3⟩, i2⟩
      · refine Or.inl ⟨?_, i2⟩
        intro x hx hx2
        by_cases y : x = k
        · subst y
          exact c
        · exact i1 x (by omega) hx2
      · exact Or.inr ⟨⟨x, by omega, x2, x3⟩, i2⟩
    · rw [if_neg c]
      exact Or.inr ⟨⟨k, Nat.le_refl _, by omega, c⟩, rfl⟩
theorem m_plR {S T : HS} (h : LM T) {r N : Nat} {l1 l2 l3 : Int32} (h1 : l1 = nI r) (h3 : l3 = nI N) (hr : r < 8) (hN1 : 1 ≤ N) (hN2 : N ≤ 40) (hs : RS S r) (e34 : hI T 34 = hI S 34) (e35 : hI T 35 = hI S 35) (e36 : hI T 36 = hI S 36) :
    (hI S (13 + 2 * r) 1 = 0 ∧ plR T l1 l2 l3 = some (-1000010 - 1, wI T 33 1 1)) ∨ (hI S (13 + 2 * r) 1 = 1 ∧ ¬ (0 ≤ l2.toInt ∧ l2.toInt + l3.toInt ≤ (hI S (13 + 2 * r) 3).toInt) ∧ plR T l1 l2 l3 = some (-1000010 - 2, wI T 33 1 2)) ∨ (∃ I : Nat, hI S (13 + 2 * r) 1 = 1 ∧ l2 = nI I ∧ I + N ≤ 40 ∧ (I : Int) + N ≤ (hI S (13 + 2 * r) 3).toInt ∧ ((WI S r I N 99 ∧ plR T l1 l2 l3 = s_X12_pulls_L131 33 100000 (wI T 33 1 0) l1 l2 l3 0) ∨ (¬ WI S r I N 99 ∧ plR T l1 l2 l3 = some (-1000001, T)))) := by
  obtain ⟨sz1, n, sz2, sz3⟩ := hs.sz
  have szi : (hI S (13 + 2 * r) 3).toInt = (n : Int) := by rw [sz2]; exact nI_toInt (by omega)
  have i3 : l3.toInt = (N : Int) := by rw [h3]; exact nI_toInt (by omega)
  unfold plR
  rw [kP_m2 h, kA_m34 h h1 hr, e34]
  rcases hs.two with ⟨a1, a2⟩ | ⟨a1, a2, q, a3, a4⟩
  · rw [a2, if_neg (by decide), kO_m h, m_finding h, kc_some]
    exact Or.inl ⟨a1, rfl⟩
  · have nn : (0 : Int32) ≤ hI S 34 r := by rw [a2, a3]; exact z_le (by omega)
    rw [if_pos nn]
    by_cases c1 : l2 < 0
    · have := i32_lt.mp c1
      rw [i32_0] at this
      rw [if_pos c1, m_b74 h]
      exact Or.inr (Or.inl ⟨a1, by omega, rfl⟩)
    · have d1 : ¬ _ := fun z => c1 (i32_lt.mpr z)
      rw [i32_0] at d1
      rw [if_neg c1, kP_m3 h, kA_m35 h h1 hr, e35, sz1]
      by_cases c2 : l2.toInt64 + l3.toInt64 ≤ (hI S (13 + 2 * r) 3).toInt64
      · have d2 := i64_le.mp c2
        rw [i64_add32, i64_of32] at d2
        rw [if_pos c2]
        obtain ⟨I, hI1, -, hI3⟩ := I_N (n := l2) (a := 0) (b := 40) (by omega) (by omega) (by decide)
        have i2 : l2.toInt = (I : Int) := by rw [hI1]; exact nI_toInt (by omega)
        refine Or.inr (Or.inr ⟨I, a1, hI1, by omega, by omega, ?_⟩)
        rcases m_L83 h (I := I) (N := N) h1 hI1 h3 hr (by omega) (g := hI S (14 + 2 * r)) (fun j hj => by rw [e36]; exact hs.it hj) N 100000 0 (by omega) (by omega) with ⟨i1, i2⟩ | ⟨⟨x, x1, x2, x3⟩, i2⟩
        · exact Or.inl ⟨fun x hx => i1 x (by omega) hx, i2⟩
        · exact Or.inr ⟨fun z => x3 (z x x2), i2⟩
      · have d2 : ¬ _ := fun z => c2 (i64_le.mpr z)
        rw [i64_add32, i64_of32] at d2
        rw [if_neg c2, m_b74 h]
        exact Or.inr (Or.inl ⟨a1, by omega, rfl⟩)
theorem pulls_loop {c q hd d k g r I N : Nat} {l1 l2 l3 : Int32} (h1 : l1 = nI r) (h2 : l2 = nI I) (h3 : l3 = nI N) (hr : r < 8) (hIN : I + N ≤ 40) : ∀ (n F1 F2 i : Nat) (S T : HS), GW S T c q hd d k g → (∀ x, x < N → ∃ F : Nat, F ≤ 99 ∧ hI S (14 + 2 * r) (I + x) = nI F ∧ hI T 36 (40 * r + (I + x)) = nI F) → n < F1 → n < F2 → i + n = N → ∃ v S2 T2, s_X11_pulls_L85 0 F1 S l2 l3 (some (13 + 2 * r)) (some 5) (nI i) = some (v, wI S2 0 7 0) ∧ s_X12_pulls_L131 33 F2 T l1 l2 l3 (nI i) = some (v, T2) ∧ GW S2 T2 c q hd d k g ∧ TS S S2 ∧ TT T T2 := by
  have b121 : ∀ (S : HS) (v : Int32), LC S → s_X11_pulls_b121 0 S v = some (v, wI S 0 7 0) := by
    intro S v hC
    unfold s_X11_pulls_b121
    rw [kO_c0 hC, c_fine hC, kc_some]
  intro n
  induction n with
  | zero =>
    intro F1 F2 i S T h hx hF1 hF2 hi
    obtain ⟨F1, rfl⟩ : ∃ z, F1 = z + 1 := ⟨F1 - 1, by omega⟩
    obtain ⟨F2, rfl⟩ : ∃ z, F2 = z + 1 := ⟨F2 - 1, by omega⟩
    have le : l3 ≤ nI i := by rw [h3]; exact (nI_le_iff (by omega) (by omega)).mpr (by omega)
    refine ⟨nI i, S, T, ?_, ?_, h, TS.rf S, TT.rf T⟩
    · show s_X11_pulls_b85 _ 0 S l2 l3 (some (13 + 2 * r)) (some 5) (nI i) = _
      unfold s_X11_pulls_b85
      rw [if_pos le, b121 S _ h.1]
    · show s_X12_pulls_b131 _ 33 T l1 l2 l3 (nI i) = _
      unfold s_X12_pulls_b131
      rw [if_pos le]
  | succ n ih =>
    intro F1 F2 i S T h hx hF1 hF2 hi
    obtain ⟨F1, rfl⟩ : ∃ z, F1 = z + 1 := ⟨F1 - 1, by omega⟩
    obtain ⟨F2, rfl⟩ : ∃ z, F2 = z + 1 := ⟨F2 - 1, by omega⟩
    have nle : ¬ l3 ≤ nI i := fun z => by rw [h3] at z; have := (nI_le_iff (by omega) (by omega)).mp z; omega
    have rq := h.rq
    have hC := h.1
    by_cases z : hI S 5 11 = 0
    · obtain ⟨F, hF, f1, f2⟩ := hx i (by omega)
      obtain ⟨S1, T1, b1, b2, b3, b4, b5⟩ := h.tick z hF
      obtain ⟨v, S2, T2, i1, i2, i3, i4, i5⟩ := ih F1 F2 (i + 1) S1 T1 b3 (fun x hx2 => by
        obtain ⟨F', g1, g2, g3⟩ := hx x hx2
        exact ⟨F', g1, by rw [b4.2.2 (14 + 2 * r) (by omega)]; exact g2, by rw [b5.2.2.1 36 (by decide) (by decide)]; exact g3⟩) (by omega) (by omega) (by omega)
      have e1 : l2 + nI i = nI (I + i) := by rw [h2, nI_add]
      have e36 : 40 * l1 + l2 + nI i = nI (40 * r + (I + i)) := by rw [n40 h1 h2, nI_add, Nat.add_assoc]
      refine ⟨v, S2, T2, ?_, ?_, i3, TS.tr b4 i4, TT.tr b5 i5⟩
      · show s_X11_pulls_b85 _ 0 S l2 l3 (some (13 + 2 * r)) (some 5) (nI i) = _
        unfold s_X11_pulls_b85
        rw [if_neg nle, h.i5, if_pos z, kP_row0 hC hr, kA_items hC hr e1 (by omega), f1, h.o5, b1, kcv_some, nI_1]
        exact i1
      · show s_X12_pulls_b131 _ 33 T l1 l2 l3 (nI i) = _
        unfold s_X12_pulls_b131
        rw [if_neg nle, h.nw 7 (by decide) (i := 7) rfl, rq.2.2.2.1, if_pos z, kP_m4 h.2.1, kA_m36 h.2.1 e36 (by omega), f2, kO_m h.2.1, b2, kcv_some, nI_1]
        exact i2
    · refine ⟨nI i, S, T, ?_, ?_, h, TS.rf S, TT.rf T⟩
      · show s_X11_pulls_b85 _ 0 S l2 l3 (some (13 + 2 * r)) (some 5) (nI i) = _
        unfold s_X11_pulls_b85
        rw [if_neg nle, h.i5, if_neg z, b121 S _ hC]
      · show s_X12_pulls_b131 _ 33 T l1 l2 l3 (nI i) = _
        unfold s_X12_pulls_b131
        rw [if_neg nle, h.nw 7 (by decide) (i := 7) rfl, rq.2.2.2.1, if_neg z]
theorem ok_pulls {S : HS} (h : RR S) (l1 l2 l3 : Int32) : CK (fun S => s_X11_pulls S 0 l1 l2 l3) (fun S => s_X12_pulls S 33 l1 l2 l3) S := by
  have hC := h.2.1
  have hM := h.1
  have t1 : (1 : Int32).toInt = 1 := rfl
  have t40 : (40 : Int32).toInt = 40 := rfl
  show ∃ r S1 S2, s_X11_pulls S 0 l1 l2 l3 = some (r, S1) ∧ s_X12_pulls S1 33 l1 l2 l3 = some (r, S2) ∧ RR S2
  have mo : ∀ X, LM X → s_X12_pulls X 33 l1 l2 l3 = (if (0 ≤ l1.toInt ∧ l1.toInt ≤ 7) ∧ (1 ≤ l3.toInt ∧ l3.toInt ≤ 40) then (if hI X 40 0 = 0 then some (-1000002, wI X 33 0 0) else plR (wI X 33 0 0) l1 l2 l3) else some (-1000001, wI X 33 0 0)) := by
    intro X hX
    have hX2 : LM (wI X 33 0 0) := hX
    have e40 : hI (wI X 33 0 0) 40 = hI X 40 := hI_wI_ne (by decide)
    unfold s_X12_pulls
    rw [kwI_m hX, m_isRow, kc_some]
    by_cases c0 : 0 ≤ l1.toInt ∧ l1.toInt ≤ 7
    · rw [if_pos c0, if_neg (by decide), m_inI _ (a := 1) (b := 40) rfl rfl, kc_some]
      by_cases c1 : 1 ≤ l3.toInt ∧ l3.toInt ≤ 40
      · rw [if_pos c1, if_neg (by decide), if_pos (show (0 ≤ l1.toInt ∧ l1.toInt ≤ 7) ∧ (1 ≤ l3.toInt ∧ l3.toInt ≤ 40) from ⟨c0, c1⟩), nw40 hX2 0 (by decide) (i := 0) rfl, e40]
        rfl
      · rw [if_neg c1, if_pos rfl, if_neg (fun z => c1 z.2)]
    · rw [if_neg c0, if_pos rfl, if_neg (fun z => c0 z.1)]
  have bad : ¬ ((0 ≤ l1.toInt ∧ l1.toInt ≤ 7) ∧ (1 ≤ l3.toInt ∧ l3.toInt ≤ 40)) → ∃ r S1 S2, (some (-1000001, S) : Option (Int32 × HS)) = some (r, S1) ∧ s_X12_pulls S1 33 l1 l2 l3 = some (r, S2) ∧ RR S2 := fun hb => ⟨_, S, _, rfl, by rw [mo S hM, if_neg hb], h.w0⟩
  unfold s_X11_pulls
  rw [kO_c0 hC]
  rcases c_rowAt hC l1 with ⟨r, hr, e1, e2⟩ | ⟨nr, e2⟩
  · have z : 0 ≤ l1.toInt ∧ l1.toInt ≤ 7 := by rw [e1, nI_toInt (by omega)]; omega
    rw [e2, kc_some, if_neg (by simp)]
    by_cases c1 : l3 < 1
    · have d1 := i32_lt.mp c1
      rw [if_pos c1]
      exact bad (by omega)
    · have d1 : ¬ _ := fun z => c1 (i32_lt.mpr z)
      rw [if_neg c1]
      by_cases c2 : l3 ≤ 40
      · have d2 := i32_le.mp c2
        have good : (0 ≤ l1.toInt ∧ l1.toInt ≤ 7) ∧ (1 ≤ l3.toInt ∧ l3.toInt ≤ 40) := by omega
        rw [if_pos c2, kP_c0_2 hC, kP_c4_0 hC, kP_c5 hC]
        rcases h.run with ⟨n1, n2⟩ | ⟨b, c, q, hd, d, k, g, hb, h40, hD, hQ, hw⟩
        · rw [n1, if_pos rfl]
          exact ⟨_, S, _, rfl, by rw [mo S hM, if_pos good, n2, if_pos rfl], h.w0⟩
        · obtain ⟨N, hN, hN1, hN2⟩ := I_N (n := l3) (a := 1) (b := 40) good.2.1 good.2.2 (by decide)
          have i3 : l3.toInt = (N : Int) := by rw [hN]; exact nI_toInt (by omega)
          rw [hw.2.2.1.2.2, if_neg (by simp), kO_row hC hr, c_finding hC hr, kc_some]
          have hX2 : LM (wI S 33 0 0) := hM
          have mo2 : ∀ v : Int32, s_X12_pulls (wI S 0 7 v) 33 l1 l2 l3 = plR (wI (wI S 0 7 v) 33 0 0) l1 l2 l3 := by
            intro v
            have e40 : hI (wI S 0 7 v) 40 = hI S 40 := hI_wI_ne (by decide)
            rw [mo (wI S 0 7 v) hM, if_pos good, e40, h40, if_neg (by decide)]
          have f34 : ∀ v, hI (wI (wI S 0 7 v) 33 0 0) 34 = hI S 34 := fun v => by rw [hI_wI_ne (by decide), hI_wI_ne (by decide)]
          have f35 : ∀ v, hI (wI (wI S 0 7 v) 33 0 0) 35 = hI S 35 := fun v => by rw [hI_wI_ne (by decide), hI_wI_ne (by decide)]
          have f36 : ∀ v, hI (wI (wI S 0 7 v) 33 0 0) 36 = hI S 36 := fun v => by rw [hI_wI_ne (by decide), hI_wI_ne (by decide)]
          have hp : ∀ v, _ := fun v => m_plR (S := S) (T := wI (wI S 0 7 v) 33 0 0) (l2 := l2) (by exact hM) e1 hN hr (by omega) (by omega) (h.rs hr) (f34 v) (f35 v) (f36 v)
          rcases m_plR (S := S) (T := wI S 33 0 0) (l2 := l2) hX2 e1 hN hr (by omega) (by omega) (h.rs hr) (hI_wI_ne (by decide)) (hI_wI_ne (by decide)) (hI_wI_ne (by decide)) with ⟨a1, -⟩ | ⟨a1, a2, -⟩ | ⟨I, a1, hI1, a3, a4, a5⟩
          · rw [a1, if_pos rfl, if_neg (by decide), kO_c0 hC, c_found hC, kc_some]
            refine ⟨_, _, _, rfl, ?_, h.fnd 1⟩
            rw [mo2]
            rcases hp 1 with ⟨-, b2⟩ | ⟨b1, -⟩ | ⟨I, b1, -⟩
            · exact b2
            · exact absurd (a1.symm.trans b1) (by decide)
            · exact absurd (a1.symm.trans b1) (by decide)
          · have ev : (if hI S (13 + 2 * r) 1 = 0 then (1 : Int32) else if (0 ≤ l2.toInt ∧ 0 ≤ l3.toInt ∧ l2.toInt + l3.toInt ≤ (hI S (13 + 2 * r) 3).toInt) then 0 else 2) = 2 := by
              rw [a1, if_neg (by decide), if_neg (fun q => a2 ⟨q.1, q.2.2⟩)]
            rw [ev, if_neg (by decide), kO_c0 hC, c_found hC, kc_some]
            refine ⟨_, _, _, rfl, ?_, h.fnd 2⟩
            rw [mo2]
            rcases hp 2 with ⟨b1, -⟩ | ⟨-, -, b2⟩ | ⟨I, b1, b2, b3, b4, -⟩
            · exact absurd (a1.symm.trans b1) (by decide)
            · exact b2
            · have i2 : l2.toInt = (I : Int) := by rw [b2]; exact nI_toInt (by omega)
              exact absurd ⟨by omega, by omega⟩ a2
          · have i2 : l2.toInt = (I : Int) := by rw [hI1]; exact nI_toInt (by omega)
            have ev : (if hI S (13 + 2 * r) 1 = 0 then (1 : Int32) else if (0 ≤ l2.toInt ∧ 0 ≤ l3.toInt ∧ l2.toInt + l3.toInt ≤ (hI S (13 + 2 * r) 3).toInt) then 0 else 2) = 0 := by
              rw [a1, if_neg (by decide), if_pos (show (0 ≤ l2.toInt ∧ 0 ≤ l3.toInt ∧ l2.toInt + l3.toInt ≤ (hI S (13 + 2 * r) 3).toInt) from ⟨by omega, by omega, by omega⟩)]
            rw [ev, if_pos rfl, kO_row hC hr]
            have moS : s_X12_pulls S 33 l1 l2 l3 = plR (wI S 33 0 0) l1 l2 l3 := by rw [mo S hM, if_pos good, h40, if_neg (by decide)]
            rcases c_within hC (mo := 99) hr hI1 hN a3 a4 with ⟨w1, w2⟩ | ⟨w1, w2⟩
            · rw [w2, kc_some, if_neg (by decide)]
              have t99 : (99 : Int32).toInt = 99 := rfl
              rw [t99] at w1
              have items : ∀ T : HS, hI T 36 = hI S 36 → ∀ x, x < N → ∃ F : Nat, F ≤ 99 ∧ hI S (14 + 2 * r) (I + x) = nI F ∧ hI T 36 (40 * r + (I + x)) = nI F := by
                intro T e36 x hx
                obtain ⟨v0, v1⟩ := w1 x hx
                obtain ⟨F, hF, -, hF2⟩ := I_N (n := hI S (14 + 2 * r) (I + x)) (a := 0) (b := 99) v0 v1 (by decide)
                exact ⟨F, by omega, hF, by rw [e36, (h.rs hr).it (by omega)]; exact hF⟩
              obtain ⟨v, S1, T1, b1, b2, b3, b4, b5⟩ := pulls_loop e1 hI1 hN hr a3 N 100000 100000 0 S S hw (items S rfl) (by omega) (by omega) (by omega)
              have hM1 : LM S1 := LM_of hM b4.1 b4.2.1
              have hw2 : GW S (wI (wI (wI S1 0 7 0) 33 0 0) 33 1 0) c q hd d k g := hw.to b4 rfl rfl (by rw [hI_wI_ne (by decide), hI_wI_ne (by decide), hI_wI_ne (by decide)]) (by rw [hI_wI_ne (by decide), hI_wI_ne (by decide), hI_wI_ne (by decide)])
              obtain ⟨v', S1', T2, d1, d2, d3, d4, d5⟩ := pulls_loop e1 hI1 hN hr a3 N 100000 100000 0 S (wI (wI (wI S1 0 7 0) 33 0 0) 33 1 0) hw2 (items _ (by rw [hI_wI_ne (by decide), hI_wI_ne (by decide), hI_wI_ne (by decide)]; exact b4.2.2 36 (by decide))) (by omega) (by omega) (by omega)
              have x12 := Prod.mk.inj (det b1 d1)
              have e40 : hI (wI S1 0 7 0) 40 0 = 1 := by rw [hI_wI_ne (by decide), b4.2.2 40 (by decide)]; exact h40
              refine ⟨v, wI S1 0 7 0, T2, b1, ?_, ?_⟩
              · rw [mo (wI S1 0 7 0) hM1, if_pos good, e40, if_neg (by decide)]
                have g34 : hI (wI (wI S1 0 7 0) 33 0 0) 34 = hI S 34 := by rw [hI_wI_ne (by decide), hI_wI_ne (by decide), b4.2.2 34 (by decide)]
                have g35 : hI (wI (wI S1 0 7 0) 33 0 0) 35 = hI S 35 := by rw [hI_wI_ne (by decide), hI_wI_ne (by decide), b4.2.2 35 (by decide)]
                have g36 : hI (wI (wI S1 0 7 0) 33 0 0) 36 = hI S 36 := by rw [hI_wI_ne (by decide), hI_wI_ne (by decide), b4.2.2 36 (by decide)]
                rcases m_plR (S := S) (T := wI (wI S1 0 7 0) 33 0 0) (l2 := l2) (by exact hM1) e1 hN hr (by omega) (by omega) (h.rs hr) g34 g35 g36 with ⟨y1, -⟩ | ⟨-, y2, -⟩ | ⟨I', -, y2, y3', -, ⟨-, y6⟩ | ⟨y5, -⟩⟩
                · exact absurd (a1.symm.trans y1) (by decide)
                · exact absurd ⟨by omega, by omega⟩ y2
                · rw [y6, x12.1]
                  exact d2
                · have E : I' = I := (nI_eqI (by omega) (by omega)).mp (y2.symm.trans hI1)
                  subst E
                  exact absurd w1 y5
              · have dS : TS S S1' := d4
                have xs : wI S1 0 7 0 = wI S1' 0 7 0 := x12.2
                have w3 : GW S1' T2 c q hd d k g := d3
                -- the class's row is the same in S1 and S1'
                have w4 : GW S1 T2 c q hd d k g := d3.upd (by rw [b4.1, d4.1]) (by rw [b4.2.1, d4.2.1]) (fun a ha => by rw [b4.2.2 a (by omega), d4.2.2 a (by omega)]) rfl rfl rfl (fun _ _ _ => rfl) (by
                  have e5 : hI S1 5 = hI S1' 5 := by
                    have e0 : hI (wI S1 0 7 0) 5 = hI (wI S1' 0 7 0) 5 := by rw [xs]
                    rw [hI_wI_ne (by decide), hI_wI_ne (by decide)] at e0
                    exact e0
                  rw [e5]
                  exact d3.rq)
                refine h.run2 hb hw b4 d5 w4 rfl rfl (fun a a0 a33 => ?_) ⟨?_, ?_⟩ ?_ ?_
                · rw [hI_wI_ne a33, hI_wI_ne a33, hI_wI_ne a0]
                · rw [hI_wI_ne (by decide), hI_wI_ne (by decide), hI_wI_j (by decide)]
                · rw [hI_wI_ne (by decide), hI_wI_ne (by decide), hI_wI_j (by decide)]
                · rw [hI_wI_ne (by decide), hI_wI_ne (by decide), hI_wI_self, hI_wI_self]
                · intro j hj
                  rw [hI_wI_j (by omega), hI_wI_j (by omega), hI_wI_ne (by decide)]
            · rw [w2, kc_some, if_pos rfl]
              have t99 : (99 : Int32).toInt = 99 := rfl
              rw [t99] at w1
              refine ⟨_, S, _, rfl, ?_, h.w0⟩
              rw [moS]
              rcases a5 with ⟨y1, -⟩ | ⟨-, y2⟩
              · exact absurd y1 w1
              · exact y2
      · have d2 : ¬ _ := fun z => c2 (i32_le.mpr z)
        rw [if_neg c2]
        exact bad (by omega)
  · rw [e2, kc_some, if_pos rfl]
    exact bad (fun q => nr q.1)
