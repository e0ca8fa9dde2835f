/-! ===== a BOX of both ===== -/
theorem c_fld {X : HS} {b kd j : Nat} {g : HS → Option HS} (xb : b < hN X) (kb : hK X b = 1) : knewA X kd 4 4 (fun o S2 => kwP S2 (some b) 1 j o (fun S3 => g S3)) = g (wP (wN X kd 4) b j (some (hN X))) := by
  rw [knewA_eq (n := 4) (N := 4) rfl]
  exact kwP_some (Nat.lt_of_lt_of_le xb (Nat.le_succ _)) (by rw [hK_wN, if_neg (Nat.ne_of_lt xb)]; exact kb)
/-- the class's heap with a new Box -/
def nwB (S : HS) : HS := wP (wN (wP (wN (wP (wN (wN S 1 0) 17 4) (hN S) 0 (some (hN S + 1))) 16 4) (hN S) 1 (some (hN S + 2))) 18 4) (hN S) 2 (some (hN S + 3))
theorem c_newBox (S : HS) : s_X1_init (wN S 1 0) (hN S) = some (nwB S) := by
  have step : ∀ (X : HS) (kd j : Nat), hN S < hN X → hK X (hN S) = 1 → hN S < hN (wP (wN X kd 4) (hN S) j (some (hN X))) ∧ hK (wP (wN X kd 4) (hN S) j (some (hN X))) (hN S) = 1 := fun X kd j n k => ⟨Nat.lt_of_lt_of_le n (Nat.le_succ _), by
    show hK (wN X kd 4) (hN S) = 1
    rw [hK_wN, if_neg (Nat.ne_of_lt n)]
    exact k⟩
  have n1 : hN S < hN (wN S 1 0) := Nat.lt_succ_self _
  have k1 : hK (wN S 1 0) (hN S) = 1 := by rw [hK_wN, if_pos rfl]
  have s1 := step (wN S 1 0) 17 0 n1 k1
  have s2 := step _ 16 1 s1.1 s1.2
  unfold s_X1_init
  rw [kO_some n1 k1, c_fld n1 k1, c_fld s1.1 s1.2, c_fld s2.1 s2.2]
  rfl
theorem nwB_N (S : HS) : hN (nwB S) = hN S + 4 := rfl
theorem nwB_K (S : HS) (x : Nat) : hK (nwB S) x = if x = hN S + 3 then 18 else if x = hN S + 2 then 16 else if x = hN S + 1 then 17 else if x = hN S then 1 else hK S x := by
  show hK (wN (wN (wN (wN S 1 0) 17 4) 16 4) 18 4) x = _
  rw [hK_wN, hK_wN, hK_wN, hK_wN]
  rfl
theorem nwB_L (S : HS) (x : Nat) : hL (nwB S) x = if x = hN S + 3 then 4 else if x = hN S + 2 then 4 else if x = hN S + 1 then 4 else if x = hN S then 0 else hL S x := by
  show hL (wN (wN (wN (wN S 1 0) 17 4) 16 4) 18 4) x = _
  rw [hL_wN, hL_wN, hL_wN, hL_wN]
  rfl
theorem nwB_I (S : HS) (x j : Nat) : hI (nwB S) x j = if x = hN S + 3 then 0 else if x = hN S + 2 then 0 else if x = hN S + 1 then 0 else if x = hN S then 0 else hI S x j := by
  show hI (wN (wN (wN (wN S 1 0) 17 4) 16 4) 18 4) x j = _
  rw [hI_wN, hI_wN, hI_wN, hI_wN]
  rfl
theorem nwB_P (S : HS) {x : Nat} (hx : x < hN S) : hP (nwB S) x = hP S x := by
  unfold nwB
  rw [hP_wP_ne (by omega), hP_wN_ne (show x ≠ hN S + 3 by omega), hP_wP_ne (by omega), hP_wN_ne (show x ≠ hN S + 2 by omega), hP_wP_ne (by omega), hP_wN_ne (show x ≠ hN S + 1 by omega), hP_wN_ne (by omega)]
theorem nwB_f (S : HS) : hP (nwB S) (hN S) 0 = some (hN S + 1) ∧ hP (nwB S) (hN S) 1 = some (hN S + 2) ∧ hP (nwB S) (hN S) 2 = some (hN S + 3) := by
  unfold nwB
  refine ⟨?_, ?_, ?_⟩
  · rw [hP_wP_j (by decide), hP_wN_ne (show hN S ≠ hN S + 3 by omega), hP_wP_j (by decide), hP_wN_ne (show hN S ≠ hN S + 2 by omega), hP_wP_self]
  · rw [hP_wP_j (by decide), hP_wN_ne (show hN S ≠ hN S + 3 by omega), hP_wP_self]
  · rw [hP_wP_self]
theorem box_fb {S : HS} (b46 : 46 ≤ hN S) : FB (hN S) S (wI (wI (nwB S) 2 2 0) 2 6 0) := by
  refine ⟨Nat.le_add_right _ 4, fun x hx => ⟨?_, ?_, nwB_P S hx⟩, fun x hx h2 => ?_, fun j hj => ?_⟩
  · show hK (nwB S) x = _
    rw [nwB_K, if_neg (by omega), if_neg (by omega), if_neg (by omega), if_neg (by omega)]
  · show hL (nwB S) x = _
    rw [nwB_L, if_neg (by omega), if_neg (by omega), if_neg (by omega), if_neg (by omega)]
  · rw [hI_wI_ne h2, hI_wI_ne h2]
    funext j
    rw [nwB_I, if_neg (by omega), if_neg (by omega), if_neg (by omega), if_neg (by omega)]
  · rw [hI_wI_j (by omega), hI_wI_j (by omega), nwB_I, if_neg (by omega), if_neg (by omega), if_neg (by omega), if_neg (by omega)]
theorem c_boxA {S : HS} (hC : LC S) : s_X10_readBox S 2 = kcv (s_X10_nextToken (wI (wI (nwB S) 2 2 0) 2 6 0) 2) (fun S7 => s_X10_readBox_L24 2 6 S7 (some (hN S)) 0) := by
  have hC2 : LC (nwB S) := (LC_wI (nwB S) 2 2 0).mp ((LC_wI _ 2 6 0).mp (hC.fb (box_fb hC.1) hC.1))
  have n1 : hN S < hN (wN S 1 0) := Nat.lt_succ_self _
  have k1 : hK (wN S 1 0) (hN S) = 1 := by rw [hK_wN, if_pos rfl]
  unfold s_X10_readBox
  rw [knew_eq, kO_some n1 k1, c_newBox, kcv_some, kwI_c2 hC2, kwI_c2 (by exact hC2), kO_c2 (by exact hC2)]
theorem box_start {S T : HS} {N : Nat} {B : Nat → Nat} (hC : BC S N B) (hT : BM T N B) (t12 : hI T 33 12 = 0) (t17 : hI T 33 17 = 0) (t38 : ∀ j, j < 131 → hI T 38 j = 0) : ∃ S1 T1, s_X10_nextToken (wI (wI (nwB S) 2 2 0) 2 6 0) 2 = some S1 ∧ s_X12_next T 33 = some T1 ∧ RX S1 T1 N B (hN S) (hN S + 1) (hN S + 2) (hN S + 3) 0 0 0 (hN S + 4) 0 ∧ FB (hN S) S S1 ∧ FU T T1 := by
  have b46 := hC.1.1
  have f0 := box_fb b46
  have hC0 : BC (wI (wI (nwB S) 2 2 0) 2 6 0) N B := ⟨hC.1.fb f0 b46, by rw [f0.2.2.2 1 (by decide)]; exact hC.2.1, hC.2.2.1, by rw [f0.2.2.1 3 (by omega) (by decide)]; exact hC.2.2.2⟩
  obtain ⟨S1, T1, a1, b1, c1, d1, e1⟩ := next_both (p := 0) hC0 hT (Nat.zero_le _) (by rw [hI_wI_self]; rfl) (by rw [t12]; rfl)
  have f1 := f0.tr (c1.q.fb (hN S))
  have z2 : hI S1 2 2 = 0 := by rw [c1.2.2.2 2 (by decide), hI_wI_j (by decide), hI_wI_self]
  have z17 : hI T1 33 17 = 0 := by rw [d1.2.2.2 17 (by decide)]; exact t17
  have hR : RD S1 T1 N B := ⟨hC0.k c1, hT.k d1, e1, 0, by decide, z2, z17, fun z => absurd rfl z⟩
  have xN : hN S1 = hN S + 4 := eqN c1.1
  have xK : ∀ x, hK S1 x = hK (nwB S) x := fun x => eqK c1.1 x
  have xL : ∀ x, hL S1 x = hL (nwB S) x := fun x => eqL c1.1 x
  have xP : hP S1 = hP (nwB S) := c1.2.1
  have xI : ∀ j, hI S1 (hN S) j = 0 := fun j => by
    rw [c1.2.2.1 (hN S) (by omega), hI_wI_ne (by omega), hI_wI_ne (by omega), nwB_I, if_neg (by omega), if_neg (by omega), if_neg (by omega), if_pos rfl]
  obtain ⟨p0, p1, p2⟩ := nwB_f S
  have y38 : ∀ j, j < 131 → hI T1 38 j = 0 := fun j hj => by rw [d1.2.2.1 38 (by decide)]; exact t38 j hj
  refine ⟨S1, T1, a1, b1, ⟨hR, ⟨by omega, ?_, ⟨xI 3, xI 4, xI 5⟩, by decide, ⟨?_, ?_, ?_⟩, ⟨?_, ?_, ?_⟩, ⟨?_, ?_, ?_⟩⟩, fun _ => ⟨⟨y38 0 (by decide), y38 1 (by decide), y38 2 (by decide)⟩, fun i hi => absurd hi (by omega), fun i hi => absurd hi (by omega), fun i hi => absurd hi (by omega), fun i _ hi => y38 _ (by omega)⟩⟩, f1, d1.q.fu⟩
  · rw [xK, nwB_K, if_neg (by omega), if_neg (by omega), if_neg (by omega), if_pos rfl]
  · rw [xP]; exact p0
  · rw [xK, nwB_K, if_neg (by omega), if_neg (by omega), if_pos rfl]
  · rw [xL, nwB_L, if_neg (by omega), if_neg (by omega), if_pos rfl]
  · rw [xP]; exact p1
  · rw [xK, nwB_K, if_neg (by omega), if_pos rfl]
  · rw [xL, nwB_L, if_neg (by omega), if_pos rfl]
  · rw [xP]; exact p2
  · rw [xK, nwB_K, if_pos rfl]
  · rw [xL, nwB_L, if_pos rfl]
theorem c_fail_no {S : HS} (hC : LC S) (f : ¬ hI S 2 2 = 0) (k : Int32) : s_X10_fail S 2 k = some S := by
  unfold s_X10_fail
  rw [kI_c2 hC, if_neg f]
/-- what is left once the last HAND was read -/
def mXB (S1 : HS) : Option (Int32 × HS) := kO S1 (some 33) 12 (fun a4 => kcv (s_X12_mustBegin S1 a4 1684632419) (fun S3 => s_X12_box_L61 33 100000 S3))
theorem box_last {S T : HS} {N : Nat} {B : Nat → Nat} {b a0 a1 a2 nd nc nh M z : Nat} (h : RX S T N B b a0 a1 a2 nd nc nh M z) : ∃ S2 T2, s_X10_readBox_b115 2 S (some b) = s_X10_readBox_b127 2 S2 (some b) ∧ mXH T = s_X12_box_b149 33 T2 ∧ RX S2 T2 N B b a0 a1 a2 nd nc nh M z ∧ FB b S S2 ∧ FU T T2 ∧ (hI S2 2 2 = 0 → hI S 2 2 = 0) := by
  have hC := h.1.1.1
  have hM := h.1.2.1.1
  unfold s_X10_readBox_b115 mXH
  rw [kI_c2 hC, kI_m hM]
  rcases h.1.f0 with ⟨f1, f2⟩ | ⟨f1, f2, -⟩
  · obtain ⟨f, -, -, -, hk⟩ := h.1.2.2.1
    rw [if_pos f2, kI_m hM]
    have hs : hI S 2 4 = 0 ↔ hI T 33 13 = 1 := by
      rcases hk with ⟨q1, q2⟩ | ⟨p, -, -, -, -, ⟨q1, q2⟩ | ⟨q1, q2, -⟩ | ⟨q1, q2, -⟩ | ⟨q1, q2⟩⟩ <;> rw [q1, q2] <;> decide
    by_cases s0 : hI S 2 4 = 0
    · rw [if_pos s0, if_pos (hs.mp s0)]
      exact ⟨S, T, rfl, rfl, h, FB.rf b S, FU.rf T, fun z => z⟩
    · rw [if_neg s0, if_neg (fun q => s0 (hs.mpr q)), kO_c2 hC, kO_m hM]
      obtain ⟨S1, T1, a1', b1, c1, d1, e1, g1, -⟩ := r_fail h.1 (k := 1) (by decide) (by decide)
      have a1'' : s_X10_fail S 2 1 = some S1 := a1'
      have b1' : s_X12_bad T 33 1 = some T1 := b1
      rw [a1'', b1', kcv_some, kcv_some]
      exact ⟨S1, T1, rfl, rfl, h.op c1 d1 e1 (fun q => absurd q g1), d1.fb b, e1.fu, fun q => absurd q g1⟩
  · rw [if_neg f2]
    refine ⟨S, T, ?_, rfl, h, FB.rf b S, FU.rf T, fun z => z⟩
    by_cases s0 : hI S 2 4 = 0
    · rw [if_pos s0]
    · rw [if_neg s0, kO_c2 hC, c_fail_no hC f1, kcv_some]
theorem box_read {S T : HS} {N : Nat} {B : Nat → Nat} (hC : BC S N B) (hT : BM T N B) (t12 : hI T 33 12 = 0) (t17 : hI T 33 17 = 0) (t38 : ∀ j, j < 131 → hI T 38 j = 0) : ∃ S5 T5 a0 a1 a2 nd nc nh M z, s_X10_readBox S 2 = s_X10_readBox_b127 2 S5 (some (hN S)) ∧ kcv (s_X12_next T 33) mXB = s_X12_box_b149 33 T5 ∧ RX S5 T5 N B (hN S) a0 a1 a2 nd nc nh M z ∧ FB (hN S) S S5 ∧ FU T T5 ∧ (hI S5 2 2 = 0 → 1 ≤ nd ∧ 1 ≤ nc ∧ 1 ≤ nh) := by
  obtain ⟨S1, T1, a1, b1, c1, d1, e1⟩ := box_start hC hT t12 t17 t38
  obtain ⟨S2, T2, n2, M2, a2, b2, c2, d2, e2, g2⟩ := stage_D c1
  obtain ⟨S3, T3, n3, M3, a3, b3, c3, d3, e3, g3⟩ := stage_C c2
  obtain ⟨S4, T4, n4, M4, a4, b4, c4, d4, e4, g4⟩ := stage_H c3
  obtain ⟨S5, T5, a5, b5, c5, d5, e5, g5⟩ := box_last c4
  refine ⟨S5, T5, _, _, _, _, _, _, _, _, ?_, ?_, c5, (((d1.tr d2).tr d3).tr d4).tr d5, (((e1.tr e2).tr e3).tr e4).tr e5, fun q => ?_⟩
  · rw [c_boxA hC.1, a1, kcv_some, a2]
    exact (show _ = _ from a3).trans ((show _ = _ from a4).trans a5)
  · rw [b1, kcv_some]
    unfold mXB
    rw [kO_m c1.1.2.1.1, b2]
    unfold mXD
    rw [kO_m c2.1.2.1.1, b3]
    unfold mXC
    rw [kO_m c3.1.2.1.1, b4, b5]
  · have q5 := g5 q
    have q4 := g4 q5
    have q3 := g3 q4.1
    have q2 := g2 q3.1
    exact ⟨q2.2, q3.2, q4.2⟩
