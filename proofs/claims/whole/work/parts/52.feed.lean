/-! ===== feed ===== -/
/-- the cut to a byte sees the low byte alone -/
theorem fa_byte_low (x : Int32) : (x &&& 255).toInt8 = x.toInt8 := by
  apply Int8.toBitVec_inj.1
  apply BitVec.eq_of_getLsbD_eq
  intro i hi
  have h2 : (255 : Int32).toBitVec.getLsbD i = true := by
    have : ∀ j : Fin 8, (255 : Int32).toBitVec.getLsbD j.val = true := by decide +kernel
    exact this ⟨i, hi⟩
  have h4 : (x &&& 255).toBitVec.getLsbD i = x.toBitVec.getLsbD i := by
    show (x.toBitVec &&& (255 : Int32).toBitVec).getLsbD i = _
    rw [BitVec.getLsbD_and, h2, Bool.and_true]
  have h3 : i < 32 := by omega
  first
    | (show (((x &&& 255).toBitVec).signExtend 8).getLsbD i = (x.toBitVec.signExtend 8).getLsbD i; rw [BitVec.getLsbD_signExtend, BitVec.getLsbD_signExtend, if_pos h3, if_pos h3, h4])
    | (show (((x &&& 255).toBitVec).setWidth 8).getLsbD i = (x.toBitVec.setWidth 8).getLsbD i; rw [BitVec.getLsbD_setWidth, BitVec.getLsbD_setWidth, h4])
    | (simp [hi, h3, h4]; done)
theorem byte_eq (x : Int64) : ∃ z : Nat, z < 256 ∧ (x &&& 255).toInt32 = nI z ∧ ((x.toInt32.toInt8.toInt32).toInt8.toInt32) = (nI z).toInt8.toInt32 := by
  obtain ⟨z, hz, e⟩ := pk_andE x.toInt32 (m := 255) 8 (by decide)
  refine ⟨z, hz, ?_, ?_⟩
  · rw [Int64.toInt32_and]
    exact e
  · rw [← e, fa_byte_low, Int8.toInt8_toInt32]
def TR (S T : HS) (n : Nat) : Prop := hI S 2 1 = nI n ∧ hI T 33 9 = nI n ∧ ∀ j, j < n → ∃ z : Nat, z < 256 ∧ hI T 39 j = nI z ∧ hI S 3 j = (nI z).toInt8.toInt32
def FS (S S2 : HS) : Prop := S2.1 = S.1 ∧ hP S2 = hP S ∧ (∀ a, a ≠ 2 → a ≠ 3 → hI S2 a = hI S a) ∧ ∀ j, j ≠ 1 → hI S2 2 j = hI S 2 j
def FT (T T2 : HS) : Prop := T2.1 = T.1 ∧ hP T2 = hP T ∧ (∀ a, a ≠ 33 → a ≠ 39 → hI T2 a = hI T a) ∧ ∀ j, j ≠ 9 → hI T2 33 j = hI T 33 j
theorem m1_nI (m : Nat) : nI (m + 1) + (-1) = nI m := by
  rw [← Int32.sub_eq_add_neg]
  show nI (m + 1) - nI 1 = _
  rw [nI_sub (by omega), Nat.add_sub_cancel]
theorem feed_loop {w : Int64} : ∀ (m F1 F2 n : Nat) (S T : HS), LC S → LM T → TR S T n → m ≤ 8 → n + m ≤ 500 → m < F1 → m < F2 → ∃ S2 T2, s_X11_feed_L37 0 F1 S w (nI m + (-1)) = some (nI (n + m), S2) ∧ s_X12_feed_L40 33 F2 T w (nI m + (-1)) = some (nI (n + m), T2) ∧ TR S2 T2 (n + m) ∧ FS S S2 ∧ FT T T2 := by
  intro m
  induction m with
  | zero =>
    intro F1 F2 n S T hC hM h h8 hn hF1 hF2
    obtain ⟨F1, rfl⟩ : ∃ z, F1 = z + 1 := ⟨F1 - 1, by omega⟩
    obtain ⟨F2, rfl⟩ : ∃ z, F2 = z + 1 := ⟨F2 - 1, by omega⟩
    have lt : nI 0 + (-1) < 0 := by decide
    refine ⟨S, T, ?_, ?_, h, ⟨rfl, rfl, fun _ _ _ => rfl, fun _ _ => rfl⟩, rfl, rfl, fun _ _ _ => rfl, fun _ _ => rfl⟩
    · show s_X11_feed_b37 _ 0 S w (nI 0 + (-1)) = _
      unfold s_X11_feed_b37
      rw [if_pos lt, kP_c0_1 hC, kI_c2 hC, h.1]
      rfl
    · show s_X12_feed_b40 _ 33 T w (nI 0 + (-1)) = _
      unfold s_X12_feed_b40
      rw [if_pos lt, kI_m hM, h.2.1]
      rfl
  | succ m ih =>
    intro F1 F2 n S T hC hM h h8 hn hF1 hF2
    obtain ⟨F1, rfl⟩ : ∃ z, F1 = z + 1 := ⟨F1 - 1, by omega⟩
    obtain ⟨F2, rfl⟩ : ∃ z, F2 = z + 1 := ⟨F2 - 1, by omega⟩
    obtain ⟨h1, h2, h3⟩ := h
    rw [m1_nI]
    have nlt : ¬ nI m < 0 := nI_pos (by omega)
    have nle : ¬ (500 : Int32) ≤ nI n := fun z => by have := (nI_le_iff (a := 500) (by omega) (by omega)).mp z; omega
    obtain ⟨z, hz, z1, z2⟩ := byte_eq (w >>> ((8 * nI m : Int32).toInt64 &&& 63))
    have hC2 : LC (wI (wI S 2 1 (nI n + 1)) 3 n ((nI z).toInt8.toInt32)) := hC
    have hM2 : LM (wI (wI T 39 n (nI z)) 33 9 (nI n + 1)) := hM
    have hR2 : TR (wI (wI S 2 1 (nI n + 1)) 3 n ((nI z).toInt8.toInt32)) (wI (wI T 39 n (nI z)) 33 9 (nI n + 1)) (n + 1) := by
      refine ⟨?_, ?_, ?_⟩
      · rw [hI_wI_ne (by decide), hI_wI_self, nI_1]
      · rw [hI_wI_self, nI_1]
      · intro j hj
        by_cases e : j = n
        · subst e
          exact ⟨z, hz, by rw [hI_wI_ne (by decide), hI_wI_self], by rw [hI_wI_self]⟩
        · obtain ⟨y, y1, y2, y3⟩ := h3 j (by omega)
          exact ⟨y, y1, by rw [hI_wI_ne (by decide), hI_wI_j e]; exact y2, by rw [hI_wI_j e, hI_wI_ne (by decide)]; exact y3⟩
    obtain ⟨S2, T2, i1, i2, i3, ⟨i4, i5, i6, i7⟩, i8, i9, i10, i11⟩ := ih F1 F2 (n + 1) _ _ hC2 hM2 hR2 (by omega) (by omega) (by omega) (by omega)
    have e1 : n + 1 + m = n + (m + 1) := by omega
    rw [e1] at i1 i2 i3
    refine ⟨S2, T2, ?_, ?_, i3, ⟨i4, i5, fun a a2 a3 => ?_, fun j hj => ?_⟩, i8, i9, fun a a33 a39 => ?_, fun j hj => ?_⟩
    · show s_X11_feed_b37 _ 0 S w (nI m) = _
      unfold s_X11_feed_b37 s_X10_add
      rw [if_neg nlt, kP_c0_1 hC, kO_c2 hC, kI_c2 hC, h1, if_neg nle, kP_c2_0 hC, kI_c2 hC, h1, kwI_c2 hC, kwA_c3 (by exact hC) rfl (by omega), kcv_some, z2]
      exact i1
    · show s_X12_feed_b40 _ 33 T w (nI m) = _
      unfold s_X12_feed_b40
      rw [if_neg nlt, kP_m8 hM, kI_m hM, h2, kwA_m39 hM rfl (by omega), kI_m (by exact hM), hI_wI_ne (by decide : (33 : Nat) ≠ 39), h2, kwI_m (by exact hM), z1]
      exact i2
    · rw [i6 a a2 a3, hI_wI_ne a3, hI_wI_ne a2]
    · rw [i7 j hj, hI_wI_ne (by decide), hI_wI_j hj]
    · rw [i10 a a33 a39, hI_wI_ne a33, hI_wI_ne a39]
    · rw [i11 j hj, hI_wI_j hj, hI_wI_ne (by decide)]
theorem ok_feed {S : HS} (h : RR S) (w : Int64) (l3 : Int32) : CK (fun S => s_X11_feed S 0 w l3) (fun S => s_X12_feed S 33 w l3) S := by
  have hC := h.2.1
  have hM := h.1
  have t1 : (1 : Int32).toInt = 1 := rfl
  have t8 : (8 : Int32).toInt = 8 := rfl
  obtain ⟨n, n5, n1, n2, n3⟩ := h.2.2.2.1
  show ∃ r S1 S2, s_X11_feed S 0 w l3 = some (r, S1) ∧ s_X12_feed S1 33 w l3 = some (r, S2) ∧ RR S2
  have mo : ∀ X, LM X → s_X12_feed X 33 w l3 = (if 1 ≤ l3.toInt ∧ l3.toInt ≤ 8 then (if hI X 33 9 + l3 ≤ 500 then s_X12_feed_L40 33 100000 (wI X 33 0 0) w (l3 - 1) else some (-1000003, wI X 33 0 0)) else some (-1000001, wI X 33 0 0)) := by
    intro X hX
    have hX2 : LM (wI X 33 0 0) := hX
    unfold s_X12_feed
    rw [kwI_m hX, m_inI _ (a := 1) (b := 8) rfl rfl, kc_some]
    by_cases c1 : 1 ≤ l3.toInt ∧ l3.toInt ≤ 8
    · rw [if_pos c1, if_neg (by decide), if_pos c1, kI_m hX2, hI_wI_j (by decide)]
    · rw [if_neg c1, if_pos rfl, if_neg c1]
  unfold s_X11_feed
  by_cases c1 : l3 < 1
  · have d1 := i32_lt.mp c1
    rw [if_pos c1]
    exact ⟨_, S, _, rfl, by rw [mo S hM, if_neg (by omega)], h.w0⟩
  · have d1 : ¬ _ := fun z => c1 (i32_lt.mpr z)
    rw [if_neg c1]
    by_cases c2 : l3 ≤ 8
    · have d2 := i32_le.mp c2
      have good : 1 ≤ l3.toInt ∧ l3.toInt ≤ 8 := by omega
      obtain ⟨N, hNe, hN1, hN2⟩ := I_N (n := l3) (a := 1) (b := 8) good.1 good.2 (by decide)
      rw [if_pos c2, kP_c0_1 hC, kI_c2 hC, n1]
      by_cases c3 : nI n + l3 ≤ 500
      · have d3 : n + N ≤ 500 := by
          rw [hNe, nI_add] at c3
          exact (nI_le_iff (b := 500) (by omega) (by omega)).mp c3
        have el : l3 - 1 = nI N + (-1) := by rw [hNe, Int32.sub_eq_add_neg]
        rw [if_pos c3, el]
        obtain ⟨S1, T1, a1, -, -, a4, -⟩ := feed_loop (w := w) N 100000 100000 n S S hC hM ⟨n1, n2, n3⟩ (by omega) d3 (by omega) (by omega)
        have hM1 : LM S1 := LM_of hM a4.1 a4.2.1
        have hR2 : TR S (wI S1 33 0 0) n := by
          refine ⟨n1, ?_, fun j hj => ?_⟩
          · rw [hI_wI_j (by decide), a4.2.2.1 33 (by decide) (by decide)]; exact n2
          · obtain ⟨z, z1, z2, z3⟩ := n3 j hj
            exact ⟨z, z1, by rw [hI_wI_ne (by decide), a4.2.2.1 39 (by decide) (by decide)]; exact z2, z3⟩
        obtain ⟨S1', T2, b1, b2, b3, b4, b5⟩ := feed_loop (w := w) N 100000 100000 n S (wI S1 33 0 0) hC hM1 hR2 (by omega) d3 (by omega) (by omega)
        obtain ⟨-, x2⟩ := Prod.mk.inj (det a1 b1)
        subst x2
        have e9 : hI S1 33 9 = nI n := by rw [a4.2.2.1 33 (by decide) (by decide)]; exact n2
        refine ⟨_, S1, T2, a1, ?_, ?_⟩
        · rw [mo S1 hM1, if_pos good, e9, if_pos c3, el]
          exact b2
        · have t1' : T2.1 = S.1 := b5.1.trans a4.1
          have tP : hP T2 = hP S := b5.2.1.trans a4.2.1
          have tI : ∀ a, a ≠ 2 → a ≠ 3 → a ≠ 33 → a ≠ 39 → hI T2 a = hI S a := fun a e2 e3 e33 e39 => by
            rw [b5.2.2.1 a e33 e39, hI_wI_ne e33, a4.2.2.1 a e2 e3]
          have t33 : ∀ j, j ≠ 0 → j ≠ 9 → hI T2 33 j = hI S 33 j := fun j j0 j9 => by
            rw [b5.2.2.2 j j9, hI_wI_j j0, a4.2.2.1 33 (by decide) (by decide)]
          have t2 : hI T2 2 = hI S1 2 := by rw [b5.2.2.1 2 (by decide) (by decide), hI_wI_ne (by decide)]
          have t3 : hI T2 3 = hI S1 3 := by rw [b5.2.2.1 3 (by decide) (by decide), hI_wI_ne (by decide)]
          have n2' : T2.1.1 = S.1.1 := congrArg (fun x => x.1) t1'
          have k2 : ∀ c, hK T2 c = hK S c := fun c => congrArg (fun x => (x.2 c).1) t1'
          have l2 : ∀ c, hL T2 c = hL S c := fun c => congrArg (fun x => (x.2 c).2) t1'
          have hag : AG S T2 := ⟨Nat.le_of_eq n2'.symm, fun c hc _ => ⟨k2 c, l2 c, tI c (by omega) (by omega) (by omega) (by omega), by rw [tP]⟩⟩
          refine h.scene (Nat.le_of_eq n2'.symm) (fun c _ => ⟨k2 c, l2 c⟩) hag (fun a _ _ _ => by rw [tP]) (by rw [tP]) (fun a ha => tI a (by omega) (by omega) (by omega) (by omega)) ⟨n + N, d3, ?_, b3.2.1, ?_⟩ ⟨?_, ?_, ?_⟩ (t33 31 (by decide) (by decide)) (Or.inl (t33 7 (by decide) (by decide))) ?_
          · rw [t2]; exact b3.1
          · intro j hj
            rw [t3]
            exact b3.2.2 j hj
          · rw [tI 0 (by decide) (by decide) (by decide) (by decide), t33 10 (by decide) (by decide)]; exact h.2.2.2.2.1.1
          · rw [tI 0 (by decide) (by decide) (by decide) (by decide), t33 1 (by decide) (by decide)]; exact h.2.2.2.2.1.2.1
          · rw [tI 0 (by decide) (by decide) (by decide) (by decide), t33 25 (by decide) (by decide)]; exact h.2.2.2.2.1.2.2
          · rw [tP, tI 5 (by decide) (by decide) (by decide) (by decide), t33 7 (by decide) (by decide), tI 37 (by decide) (by decide) (by decide) (by decide), tI 40 (by decide) (by decide) (by decide) (by decide)]
            exact h.2.2.2.2.2.1.keep hag
      · rw [if_neg c3]
        exact ⟨_, S, _, rfl, by rw [mo S hM, if_pos good, n2, if_neg c3], h.w0⟩
    · have d2 : ¬ _ := fun z => c2 (i32_le.mpr z)
      rw [if_neg c2]
      exact ⟨_, S, _, rfl, by rw [mo S hM, if_neg (by omega)], h.w0⟩
