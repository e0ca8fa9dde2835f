/-! ===== the three sorts of a BOX, one behind the other ===== -/
def mXD (T : HS) : Option (Int32 × HS) := kO T (some 33) 12 (fun a5 => kcv (s_X12_mustBegin T a5 127991944667492) (fun S4 => s_X12_box_L86 33 100000 S4))
def mXC (T : HS) : Option (Int32 × HS) := kO T (some 33) 12 (fun a5 => kcv (s_X12_mustBegin T a5 1751215716) (fun S4 => s_X12_box_L111 33 100000 S4))
def mXH (T : HS) : Option (Int32 × HS) := kI T (some 33) 12 17 (fun v4 => if v4 = 0 then (kI T (some 33) 12 13 (fun v5 => if v5 = 1 then (s_X12_box_b149 33 T) else (kO T (some 33) 12 (fun a7 => kcv (s_X12_bad T a7 1) (fun S6 => s_X12_box_b149 33 S6))))) else (s_X12_box_b149 33 T))
theorem dC_no {S : HS} (hC : LC S) (f : ¬ hI S 2 2 = 0) (b : Nat) : dC S b = some S := by
  have e : ∀ c, s_X10_readDisc_b63 2 S (some b) 0 0 0 (some 2) c = some S := fun c => by
    unfold s_X10_readDisc_b63
    rw [kO_c2 hC, c_take_no hC f, kcv_some, kI_c2 hC, if_neg f]
  unfold dC
  rw [kO_c2 hC, c_num_no hC f, kc_some, kO_c2 hC, c_num_no hC f, kc_some, kO_c2 hC, c_num_no hC f, kc_some, kI_c2 hC, e, e]
  split <;> rfl
theorem tC_no {S : HS} (hC : LC S) (f : ¬ hI S 2 2 = 0) (b : Nat) : tC_ S b = some S := by
  have e : ∀ c, s_X10_readThread_b74 2 S (some b) 0 0 0 0 (some 2) c = some S := fun c => by
    unfold s_X10_readThread_b74
    rw [kO_c2 hC, c_take_no hC f, kcv_some, kI_c2 hC, if_neg f]
  unfold tC_
  rw [kO_c2 hC, c_num_no hC f, kc_some, kO_c2 hC, c_num_no hC f, kc_some, kO_c2 hC, c_num_no hC f, kc_some, kO_c2 hC, c_num_no hC f, kc_some, kI_c2 hC, e, e]
  split <;> rfl
theorem c_disc0 {S S1 : HS} {b : Nat} (hC : LC S) (xb : b < hN S) (kb : hK S b = 1) (st : s_X10_stands S 2 0 = some (0, S)) (e : s_X10_fail S 2 1 = some S1) (hC1 : LC S1) (f : ¬ hI S1 2 2 = 0) : s_X10_readDisc S 2 (some b) = some S1 := by
  have e20 : ∀ r, s_X10_readDisc_b20 2 S (some b) (some 2) 0 r = some S1 := fun r => by
    unfold s_X10_readDisc_b20
    rw [kO_c2 hC, c_take0 hC, e, kcv_some]
    exact dC_no hC1 f b
  unfold s_X10_readDisc
  rw [kO_c2 hC, st, kc_some, kI_some xb kb, e20, e20]
  split <;> rfl
theorem c_cord0 {S S1 : HS} {b : Nat} (hC : LC S) (xb : b < hN S) (kb : hK S b = 1) (st : s_X10_stands S 2 1 = some (0, S)) (e : s_X10_fail S 2 1 = some S1) (hC1 : LC S1) (f : ¬ hI S1 2 2 = 0) : s_X10_readThread S 2 (some b) = some S1 := by
  have e20 : ∀ r, s_X10_readThread_b20 2 S (some b) (some 2) 0 r = some S1 := fun r => by
    unfold s_X10_readThread_b20
    rw [kO_c2 hC, c_take0 hC, e, kcv_some]
    exact tC_no hC1 f b
  unfold s_X10_readThread
  rw [kO_c2 hC, st, kc_some, kI_some xb kb, e20, e20]
  split <;> rfl
theorem c_hand0 {S S1 : HS} {b : Nat} (hC : LC S) (xb : b < hN S) (kb : hK S b = 1) (st : s_X10_stands S 2 2 = some (0, S)) (e : s_X10_fail S 2 1 = some S1) (hC1 : LC S1) (f : ¬ hI S1 2 2 = 0) : s_X10_readHand S 2 (some b) = some S1 := by
  have e37 : ∀ c, s_X10_readHand_b37 2 S1 (some b) (some 2) c = some S1 := fun c => by
    unfold s_X10_readHand_b37
    rw [kO_c2 hC1, c_take_no hC1 f, kcv_some, kI_c2 hC1, if_neg f]
  have e20 : ∀ r, s_X10_readHand_b20 2 S (some b) (some 2) 0 r = some S1 := fun r => by
    unfold s_X10_readHand_b20
    rw [kO_c2 hC, c_take0 hC, e, kcv_some, kI_c2 hC1, e37, e37]
    split <;> rfl
  unfold s_X10_readHand
  rw [kO_c2 hC, st, kc_some, kI_some xb kb, e20, e20]
  split <;> rfl
theorem loop_D {N : Nat} {B : Nat → Nat} {b a0 a1 a2 nc nh : Nat} : ∀ (k F1 F2 i nd M : Nat) (S T : HS), RX S T N B b a0 a1 a2 nd nc nh M nh → 1 ≤ i → (hI S 2 2 = 0 → nd = i) → i + k = 5 → k < F1 → k < F2 → ∃ S2 T2 nd2 M2, s_X10_readBox_L24 2 F1 S (some b) (nI i) = s_X10_readBox_b53 2 S2 (some b) ∧ s_X12_box_L61 33 F2 T = mXD T2 ∧ RX S2 T2 N B b a0 a1 a2 nd2 nc nh M2 nh ∧ FB b S S2 ∧ FU T T2 ∧ (hI S2 2 2 = 0 → hI S 2 2 = 0 ∧ 1 ≤ nd2) := by
  have mex : ∀ (F : Nat) (T : HS) (V : Int64), LM T → s_X12_word T 33 = some (V, T) → s_X12_box_L61 33 (F + 1) T = if V = wv 0 then kcv (s_X12_readDisc T 33) (fun S6 => s_X12_box_L61 33 F S6) else mXD T := by
    intro F T V hM v1
    have eW : (1684632419 : Int64) = wv 0 := rfl
    show s_X12_box_b61 _ 33 T = _
    unfold s_X12_box_b61
    rw [kO_m hM, v1, kc_some, eW, kO_m hM]
    rfl
  intro k
  induction k with
  | zero =>
    intro F1 F2 i nd M S T h h1 hmi hi hF1 hF2
    obtain ⟨F1, rfl⟩ : ∃ z, F1 = z + 1 := ⟨F1 - 1, by omega⟩
    obtain ⟨F2, rfl⟩ : ∃ z, F2 = z + 1 := ⟨F2 - 1, by omega⟩
    have e5 : i = 5 := by omega
    have n4 := h.2.1.2.2.2.1
    obtain ⟨V, v1, v2⟩ := r_word h.1
    have nv : ¬ V = wv 0 := fun q => by
      have := hmi ((v2 0 (by decide)).2 q).1
      omega
    refine ⟨S, T, nd, M, ?_, ?_, h, FB.rf b S, FU.rf T, fun z => ⟨z, by have := hmi z; omega⟩⟩
    · show s_X10_readBox_b24 _ 2 S (some b) (nI i) = _
      unfold s_X10_readBox_b24
      rw [e5, if_pos (by decide)]
    · rw [mex F2 T V h.1.2.1.1 v1, if_neg nv]
  | succ k ih =>
    intro F1 F2 i nd M S T h h1 hmi hi hF1 hF2
    obtain ⟨F1, rfl⟩ : ∃ z, F1 = z + 1 := ⟨F1 - 1, by omega⟩
    obtain ⟨F2, rfl⟩ : ∃ z, F2 = z + 1 := ⟨F2 - 1, by omega⟩
    have hC := h.1.1.1
    obtain ⟨V, v1, v2⟩ := r_word h.1
    have st := (v2 0 (by decide)).1
    have ng : ¬ (4 : Int32) < nI i := fun z => by
      have := i32_lt.mp z
      rw [nI_toInt (by omega), show (4 : Int32).toInt = 4 from rfl] at this
      omega
    have n0 : ¬ nI i = 0 := nI_ne0 (by omega) (by omega)
    have c24 : s_X10_readBox_L24 2 (F1 + 1) S (some b) (nI i) = (if V = wv 0 then kcv (s_X10_readDisc S 2 (some b)) (fun S1 => s_X10_readBox_L24 2 F1 S1 (some b) (nI (i + 1))) else s_X10_readBox_b53 2 S (some b)) := by
      show s_X10_readBox_b24 _ 2 S (some b) (nI i) = _
      unfold s_X10_readBox_b24 s_X10_readBox_b42
      rw [if_neg ng, if_neg n0, kO_c2 hC, st, kc_some, kO_c2 hC, nI_1]
      by_cases z : V = wv 0
      · rw [if_pos z, if_pos z, if_neg (by decide)]
      · rw [if_neg z, if_neg z, if_pos rfl]
    by_cases z : V = wv 0
    · obtain ⟨y1, y2, y3⟩ := (v2 0 (by decide)).2 z
      rw [if_pos z] at st
      obtain ⟨S1, T1, n1, M1, a1', b1, c1, d1, e1, g1⟩ := r_disc h st y1 y2
      obtain ⟨S2, T2, n2, M2, i1, i2, i3, i4, i5, i6⟩ := ih F1 F2 (i + 1) n1 M1 S1 T1 c1 (by omega) (fun q => by
        have q1 := g1 q
        have q2 := hmi y1
        omega) (by omega) (by omega) (by omega)
      refine ⟨S2, T2, n2, M2, ?_, ?_, i3, d1.tr i4, e1.tr i5, fun q => ⟨y1, (i6 q).2⟩⟩
      · rw [c24, if_pos z, a1', kcv_some]
        exact i1
      · rw [mex F2 T V h.1.2.1.1 v1, if_pos z, b1, kcv_some]
        exact i2
    · refine ⟨S, T, nd, M, c24.trans (if_neg z), ?_, h, FB.rf b S, FU.rf T, fun q => ⟨q, by have := hmi q; omega⟩⟩
      rw [mex F2 T V h.1.2.1.1 v1, if_neg z]
theorem stage_D {S T : HS} {N : Nat} {B : Nat → Nat} {b a0 a1 a2 nc nh M : Nat} (h : RX S T N B b a0 a1 a2 0 nc nh M nh) : ∃ S2 T2 nd2 M2, s_X10_readBox_L24 2 6 S (some b) 0 = s_X10_readBox_b53 2 S2 (some b) ∧ kcv (s_X12_mustBegin T 33 1684632419) (fun S3 => s_X12_box_L61 33 100000 S3) = mXD T2 ∧ RX S2 T2 N B b a0 a1 a2 nd2 nc nh M2 nh ∧ FB b S S2 ∧ FU T T2 ∧ (hI S2 2 2 = 0 → hI S 2 2 = 0 ∧ 1 ≤ nd2) := by
  have hC := h.1.1.1
  have hM := h.1.2.1.1
  have eW : (1684632419 : Int64) = wv 0 := rfl
  obtain ⟨V, v1, v2⟩ := r_word h.1
  have st := (v2 0 (by decide)).1
  have c0 : s_X10_readBox_L24 2 6 S (some b) 0 = kcv (s_X10_readDisc S 2 (some b)) (fun S1 => s_X10_readBox_L24 2 5 S1 (some b) (nI 1)) := by
    show s_X10_readBox_b24 _ 2 S (some b) 0 = _
    unfold s_X10_readBox_b24 s_X10_readBox_b42
    rw [if_neg (by decide), if_pos rfl, kO_c2 hC]
    rfl
  by_cases z : V = wv 0
  · obtain ⟨y1, y2, y3⟩ := (v2 0 (by decide)).2 z
    rw [if_pos z] at st
    obtain ⟨S1, T1, n1, M1, a1', b1, c1, d1, e1, g1⟩ := r_disc h st y1 y2
    obtain ⟨S2, T2, n2, M2, i1, i2, i3, i4, i5, i6⟩ := loop_D 4 5 99999 1 n1 M1 S1 T1 c1 (by decide) g1 (by decide) (by decide) (by decide)
    refine ⟨S2, T2, n2, M2, ?_, ?_, i3, d1.tr i4, e1.tr i5, fun q => ⟨y1, (i6 q).2⟩⟩
    · rw [c0, a1', kcv_some]
      exact i1
    · have mb : s_X12_mustBegin T 33 1684632419 = some T := by
        unfold s_X12_mustBegin
        rw [kO_m hM, v1, kc_some, eW, if_pos z]
      rw [mb, kcv_some]
      show s_X12_box_b61 (s_X12_box_L61 33 99999) 33 T = _
      unfold s_X12_box_b61
      rw [kO_m hM, v1, kc_some, eW, if_pos z, kO_m hM, b1, kcv_some]
      exact i2
  · rw [if_neg z] at st
    obtain ⟨S1, T1, a1', b1, c1, d1, e1, f1, f2, -⟩ := r_fail h.1 (k := 1) (by decide) (by decide)
    have a1'' : s_X10_fail S 2 1 = some S1 := a1'
    have b1' : s_X12_bad T 33 1 = some T1 := b1
    have h1 : RX S1 T1 N B b a0 a1 a2 0 nc nh M nh := h.op c1 d1 e1 (fun q => absurd q f1)
    obtain ⟨S2, T2, n2, M2, i1, i2, i3, i4, i5, i6⟩ := loop_D 4 5 100000 1 0 M S1 T1 h1 (by decide) (fun q => absurd q f1) (by decide) (by decide) (by decide)
    refine ⟨S2, T2, n2, M2, ?_, ?_, i3, (d1.fb b).tr i4, e1.fu.tr i5, fun q => absurd (i6 q).1 f1⟩
    · rw [c0, c_disc0 hC h.2.1.b h.2.1.2.1 st a1'' c1.1.1 f1, kcv_some]
      exact i1
    · have mb : s_X12_mustBegin T 33 1684632419 = some T1 := by
        unfold s_X12_mustBegin
        rw [kO_m hM, v1, kc_some, eW, if_neg z, kO_m hM, b1', kcv_some]
      rw [mb, kcv_some]
      exact i2
theorem loop_C {N : Nat} {B : Nat → Nat} {b a0 a1 a2 nd nh : Nat} : ∀ (k F1 F2 i nc M : Nat) (S T : HS), RX S T N B b a0 a1 a2 nd nc nh M nh → 1 ≤ i → (hI S 2 2 = 0 → nc = i) → i + k = 5 → k < F1 → k < F2 → ∃ S2 T2 nc2 M2, s_X10_readBox_L55 2 F1 S (some b) (nI i) = s_X10_readBox_b84 2 S2 (some b) ∧ s_X12_box_L86 33 F2 T = mXC T2 ∧ RX S2 T2 N B b a0 a1 a2 nd nc2 nh M2 nh ∧ FB b S S2 ∧ FU T T2 ∧ (hI S2 2 2 = 0 → hI S 2 2 = 0 ∧ 1 ≤ nc2) := by
  have mex : ∀ (F : Nat) (T : HS) (V : Int64), LM T → s_X12_word T 33 = some (V, T) → s_X12_box_L86 33 (F + 1) T = if V = wv 1 then kcv (s_X12_readThread T 33) (fun S6 => s_X12_box_L86 33 F S6) else mXC T := by
    intro F T V hM v1
    have eW : (127991944667492 : Int64) = wv 1 := rfl
    show s_X12_box_b86 _ 33 T = _
    unfold s_X12_box_b86
    rw [kO_m hM, v1, kc_some, eW, kO_m hM]
    rfl
  intro k
  induction k with
  | zero =>
    intro F1 F2 i nc M S T h h1 hmi hi hF1 hF2
    obtain ⟨F1, rfl⟩ : ∃ z, F1 = z + 1 := ⟨F1 - 1, by omega⟩
    obtain ⟨F2, rfl⟩ : ∃ z, F2 = z + 1 := ⟨F2 - 1, by omega⟩
    have e5 : i = 5 := by omega
    have n4 := h.2.1.2.2.2.1
    obtain ⟨V, v1, v2⟩ := r_word h.1
    have nv : ¬ V = wv 1 := fun q => by
      have := hmi ((v2 1 (by decide)).2 q).1
      omega
    refine ⟨S, T, nc, M, ?_, ?_, h, FB.rf b S, FU.rf T, fun z => ⟨z, by have := hmi z; omega⟩⟩
    · show s_X10_readBox_b55 _ 2 S (some b) (nI i) = _
      unfold s_X10_readBox_b55
      rw [e5, if_pos (by decide)]
    · rw [mex F2 T V h.1.2.1.1 v1, if_neg nv]
  | succ k ih =>
    intro F1 F2 i nc M S T h h1 hmi hi hF1 hF2
    obtain ⟨F1, rfl⟩ : ∃ z, F1 = z + 1 := ⟨F1 - 1, by omega⟩
    obtain ⟨F2, rfl⟩ : ∃ z, F2 = z + 1 := ⟨F2 - 1, by omega⟩
    have hC := h.1.1.1
    obtain ⟨V, v1, v2⟩ := r_word h.1
    have st := (v2 1 (by decide)).1
    have ng : ¬ (4 : Int32) < nI i := fun z => by
      have := i32_lt.mp z
      rw [nI_toInt (by omega), show (4 : Int32).toInt = 4 from rfl] at this
      omega
    have n0 : ¬ nI i = 0 := nI_ne0 (by omega) (by omega)
    have c24 : s_X10_readBox_L55 2 (F1 + 1) S (some b) (nI i) = (if V = wv 1 then kcv (s_X10_readThread S 2 (some b)) (fun S1 => s_X10_readBox_L55 2 F1 S1 (some b) (nI (i + 1))) else s_X10_readBox_b84 2 S (some b)) := by
      show s_X10_readBox_b55 _ 2 S (some b) (nI i) = _
      unfold s_X10_readBox_b55 s_X10_readBox_b73
      rw [if_neg ng, if_neg n0, kO_c2 hC, st, kc_some, kO_c2 hC, nI_1]
      by_cases z : V = wv 1
      · rw [if_pos z, if_pos z, if_neg (by decide)]
      · rw [if_neg z, if_neg z, if_pos rfl]
    by_cases z : V = wv 1
    · obtain ⟨y1, y2, y3⟩ := (v2 1 (by decide)).2 z
      rw [if_pos z] at st
      obtain ⟨S1, T1, n1, M1, a1', b1, c1, d1, e1, g1⟩ := r_cord h st y1 y2
      obtain ⟨S2, T2, n2, M2, i1, i2, i3, i4, i5, i6⟩ := ih F1 F2 (i + 1) n1 M1 S1 T1 c1 (by omega) (fun q => by
        have q1 := g1 q
        have q2 := hmi y1
        omega) (by omega) (by omega) (by omega)
      refine ⟨S2, T2, n2, M2, ?_, ?_, i3, d1.tr i4, e1.tr i5, fun q => ⟨y1, (i6 q).2⟩⟩
      · rw [c24, if_pos z, a1', kcv_some]
        exact i1
      · rw [mex F2 T V h.1.2.1.1 v1, if_pos z, b1, kcv_some]
        exact i2
    · refine ⟨S, T, nc, M, c24.trans (if_neg z), ?_, h, FB.rf b S, FU.rf T, fun q => ⟨q, by have := hmi q; omega⟩⟩
      rw [mex F2 T V h.1.2.1.1 v1, if_neg z]
theorem stage_C {S T : HS} {N : Nat} {B : Nat → Nat} {b a0 a1 a2 nd nh M : Nat} (h : RX S T N B b a0 a1 a2 nd 0 nh M nh) : ∃ S2 T2 nc2 M2, s_X10_readBox_L55 2 6 S (some b) 0 = s_X10_readBox_b84 2 S2 (some b) ∧ kcv (s_X12_mustBegin T 33 127991944667492) (fun S3 => s_X12_box_L86 33 100000 S3) = mXC T2 ∧ RX S2 T2 N B b a0 a1 a2 nd nc2 nh M2 nh ∧ FB b S S2 ∧ FU T T2 ∧ (hI S2 2 2 = 0 → hI S 2 2 = 0 ∧ 1 ≤ nc2) := by
  have hC := h.1.1.1
  have hM := h.1.2.1.1
  have eW : (127991944667492 : Int64) = wv 1 := rfl
  obtain ⟨V, v1, v2⟩ := r_word h.1
  have st := (v2 1 (by decide)).1
  have c0 : s_X10_readBox_L55 2 6 S (some b) 0 = kcv (s_X10_readThread S 2 (some b)) (fun S1 => s_X10_readBox_L55 2 5 S1 (some b) (nI 1)) := by
    show s_X10_readBox_b55 _ 2 S (some b) 0 = _
    unfold s_X10_readBox_b55 s_X10_readBox_b73
    rw [if_neg (by decide), if_pos rfl, kO_c2 hC]
    rfl
  by_cases z : V = wv 1
  · obtain ⟨y1, y2, y3⟩ := (v2 1 (by decide)).2 z
    rw [if_pos z] at st
    obtain ⟨S1, T1, n1, M1, a1', b1, c1, d1, e1, g1⟩ := r_cord h st y1 y2
    obtain ⟨S2, T2, n2, M2, i1, i2, i3, i4, i5, i6⟩ := loop_C 4 5 99999 1 n1 M1 S1 T1 c1 (by decide) g1 (by decide) (by decide) (by decide)
    refine ⟨S2, T2, n2, M2, ?_, ?_, i3, d1.tr i4, e1.tr i5, fun q => ⟨y1, (i6 q).2⟩⟩
    · rw [c0, a1', kcv_some]
      exact i1
    · have mb : s_X12_mustBegin T 33 127991944667492 = some T := by
        unfold s_X12_mustBegin
        rw [kO_m hM, v1, kc_some, eW, if_pos z]
      rw [mb, kcv_some]
      show s_X12_box_b86 (s_X12_box_L86 33 99999) 33 T = _
      unfold s_X12_box_b86
      rw [kO_m hM, v1, kc_some, eW, if_pos z, kO_m hM, b1, kcv_some]
      exact i2
  · rw [if_neg z] at st
    obtain ⟨S1, T1, a1', b1, c1, d1, e1, f1, f2, -⟩ := r_fail h.1 (k := 1) (by decide) (by decide)
    have a1'' : s_X10_fail S 2 1 = some S1 := a1'
    have b1' : s_X12_bad T 33 1 = some T1 := b1
    have h1 : RX S1 T1 N B b a0 a1 a2 nd 0 nh M nh := h.op c1 d1 e1 (fun q => absurd q f1)
    obtain ⟨S2, T2, n2, M2, i1, i2, i3, i4, i5, i6⟩ := loop_C 4 5 100000 1 0 M S1 T1 h1 (by decide) (fun q => absurd q f1) (by decide) (by decide) (by decide)
    refine ⟨S2, T2, n2, M2, ?_, ?_, i3, (d1.fb b).tr i4, e1.fu.tr i5, fun q => absurd (i6 q).1 f1⟩
    · rw [c0, c_cord0 hC h.2.1.b h.2.1.2.1 st a1'' c1.1.1 f1, kcv_some]
      exact i1
    · have mb : s_X12_mustBegin T 33 127991944667492 = some T1 := by
        unfold s_X12_mustBegin
        rw [kO_m hM, v1, kc_some, eW, if_neg z, kO_m hM, b1', kcv_some]
      rw [mb, kcv_some]
      exact i2
theorem loop_H {N : Nat} {B : Nat → Nat} {b a0 a1 a2 nd nc : Nat} : ∀ (k F1 F2 i nh M : Nat) (S T : HS), RX S T N B b a0 a1 a2 nd nc nh M nh → 1 ≤ i → (hI S 2 2 = 0 → nh = i) → i + k = 5 → k < F1 → k < F2 → ∃ S2 T2 nh2 M2, s_X10_readBox_L86 2 F1 S (some b) (nI i) = s_X10_readBox_b115 2 S2 (some b) ∧ s_X12_box_L111 33 F2 T = mXH T2 ∧ RX S2 T2 N B b a0 a1 a2 nd nc nh2 M2 nh2 ∧ FB b S S2 ∧ FU T T2 ∧ (hI S2 2 2 = 0 → hI S 2 2 = 0 ∧ 1 ≤ nh2) := by
  have mex : ∀ (F : Nat) (T : HS) (V : Int64), LM T → s_X12_word T 33 = some (V, T) → s_X12_box_L111 33 (F + 1) T = if V = wv 2 then kcv (s_X12_readHand T 33) (fun S6 => s_X12_box_L111 33 F S6) else mXH T := by
    intro F T V hM v1
    have eW : (1751215716 : Int64) = wv 2 := rfl
    show s_X12_box_b111 _ 33 T = _
    unfold s_X12_box_b111
    rw [kO_m hM, v1, kc_some, eW, kO_m hM]
    rfl
  intro k
  induction k with
  | zero =>
    intro F1 F2 i nh M S T h h1 hmi hi hF1 hF2
    obtain ⟨F1, rfl⟩ : ∃ z, F1 = z + 1 := ⟨F1 - 1, by omega⟩
    obtain ⟨F2, rfl⟩ : ∃ z, F2 = z + 1 := ⟨F2 - 1, by omega⟩
    have e5 : i = 5 := by omega
    have n4 := h.2.1.2.2.2.1
    obtain ⟨V, v1, v2⟩ := r_word h.1
    have nv : ¬ V = wv 2 := fun q => by
      have := hmi ((v2 2 (by decide)).2 q).1
      omega
    refine ⟨S, T, nh, M, ?_, ?_, h, FB.rf b S, FU.rf T, fun z => ⟨z, by have := hmi z; omega⟩⟩
    · show s_X10_readBox_b86 _ 2 S (some b) (nI i) = _
      unfold s_X10_readBox_b86
      rw [e5, if_pos (by decide)]
    · rw [mex F2 T V h.1.2.1.1 v1, if_neg nv]
  | succ k ih =>
    intro F1 F2 i nh M S T h h1 hmi hi hF1 hF2
    obtain ⟨F1, rfl⟩ : ∃ z, F1 = z + 1 := ⟨F1 - 1, by omega⟩
    obtain ⟨F2, rfl⟩ : ∃ z, F2 = z + 1 := ⟨F2 - 1, by omega⟩
    have hC := h.1.1.1
    obtain ⟨V, v1, v2⟩ := r_word h.1
    have st := (v2 2 (by decide)).1
    have ng : ¬ (4 : Int32) < nI i := fun z => by
      have := i32_lt.mp z
      rw [nI_toInt (by omega), show (4 : Int32).toInt = 4 from rfl] at this
      omega
    have n0 : ¬ nI i = 0 := nI_ne0 (by omega) (by omega)
    have c24 : s_X10_readBox_L86 2 (F1 + 1) S (some b) (nI i) = (if V = wv 2 then kcv (s_X10_readHand S 2 (some b)) (fun S1 => s_X10_readBox_L86 2 F1 S1 (some b) (nI (i + 1))) else s_X10_readBox_b115 2 S (some b)) := by
      show s_X10_readBox_b86 _ 2 S (some b) (nI i) = _
      unfold s_X10_readBox_b86 s_X10_readBox_b104
      rw [if_neg ng, if_neg n0, kO_c2 hC, st, kc_some, kO_c2 hC, nI_1]
      by_cases z : V = wv 2
      · rw [if_pos z, if_pos z, if_neg (by decide)]
      · rw [if_neg z, if_neg z, if_pos rfl]
    by_cases z : V = wv 2
    · obtain ⟨y1, y2, y3⟩ := (v2 2 (by decide)).2 z
      rw [if_pos z] at st
      obtain ⟨S1, T1, n1, M1, a1', b1, c1, d1, e1, g1⟩ := r_hand h st y1 y2
      obtain ⟨S2, T2, n2, M2, i1, i2, i3, i4, i5, i6⟩ := ih F1 F2 (i + 1) n1 M1 S1 T1 c1 (by omega) (fun q => by
        have q1 := g1 q
        have q2 := hmi y1
        omega) (by omega) (by omega) (by omega)
      refine ⟨S2, T2, n2, M2, ?_, ?_, i3, d1.tr i4, e1.tr i5, fun q => ⟨y1, (i6 q).2⟩⟩
      · rw [c24, if_pos z, a1', kcv_some]
        exact i1
      · rw [mex F2 T V h.1.2.1.1 v1, if_pos z, b1, kcv_some]
        exact i2
    · refine ⟨S, T, nh, M, c24.trans (if_neg z), ?_, h, FB.rf b S, FU.rf T, fun q => ⟨q, by have := hmi q; omega⟩⟩
      rw [mex F2 T V h.1.2.1.1 v1, if_neg z]
theorem stage_H {S T : HS} {N : Nat} {B : Nat → Nat} {b a0 a1 a2 nd nc M : Nat} (h : RX S T N B b a0 a1 a2 nd nc 0 M 0) : ∃ S2 T2 nh2 M2, s_X10_readBox_L86 2 6 S (some b) 0 = s_X10_readBox_b115 2 S2 (some b) ∧ kcv (s_X12_mustBegin T 33 1751215716) (fun S3 => s_X12_box_L111 33 100000 S3) = mXH T2 ∧ RX S2 T2 N B b a0 a1 a2 nd nc nh2 M2 nh2 ∧ FB b S S2 ∧ FU T T2 ∧ (hI S2 2 2 = 0 → hI S 2 2 = 0 ∧ 1 ≤ nh2) := by
  have hC := h.1.1.1
  have hM := h.1.2.1.1
  have eW : (1751215716 : Int64) = wv 2 := rfl
  obtain ⟨V, v1, v2⟩ := r_word h.1
  have st := (v2 2 (by decide)).1
  have c0 : s_X10_readBox_L86 2 6 S (some b) 0 = kcv (s_X10_readHand S 2 (some b)) (fun S1 => s_X10_readBox_L86 2 5 S1 (some b) (nI 1)) := by
    show s_X10_readBox_b86 _ 2 S (some b) 0 = _
    unfold s_X10_readBox_b86 s_X10_readBox_b104
    rw [if_neg (by decide), if_pos rfl, kO_c2 hC]
    rfl
  by_cases z : V = wv 2
  · obtain ⟨y1, y2, y3⟩ := (v2 2 (by decide)).2 z
    rw [if_pos z] at st
    obtain ⟨S1, T1, n1, M1, a1', b1, c1, d1, e1, g1⟩ := r_hand h st y1 y2
    obtain ⟨S2, T2, n2, M2, i1, i2, i3, i4, i5, i6⟩ := loop_H 4 5 99999 1 n1 M1 S1 T1 c1 (by decide) g1 (by decide) (by decide) (by decide)
    refine ⟨S2, T2, n2, M2, ?_, ?_, i3, d1.tr i4, e1.tr i5, fun q => ⟨y1, (i6 q).2⟩⟩
    · rw [c0, a1', kcv_some]
      exact i1
    · have mb : s_X12_mustBegin T 33 1751215716 = some T := by
        unfold s_X12_mustBegin
        rw [kO_m hM, v1, kc_some, eW, if_pos z]
      rw [mb, kcv_some]
      show s_X12_box_b111 (s_X12_box_L111 33 99999) 33 T = _
      unfold s_X12_box_b111
      rw [kO_m hM, v1, kc_some, eW, if_pos z, kO_m hM, b1, kcv_some]
      exact i2
  · rw [if_neg z] at st
    obtain ⟨S1, T1, a1', b1, c1, d1, e1, f1, f2, -⟩ := r_fail h.1 (k := 1) (by decide) (by decide)
    have a1'' : s_X10_fail S 2 1 = some S1 := a1'
    have b1' : s_X12_bad T 33 1 = some T1 := b1
    have h1 : RX S1 T1 N B b a0 a1 a2 nd nc 0 M 0 := h.op c1 d1 e1 (fun q => absurd q f1)
    obtain ⟨S2, T2, n2, M2, i1, i2, i3, i4, i5, i6⟩ := loop_H 4 5 100000 1 0 M S1 T1 h1 (by decide) (fun q => absurd q f1) (by decide) (by decide) (by decide)
    refine ⟨S2, T2, n2, M2, ?_, ?_, i3, (d1.fb b).tr i4, e1.fu.tr i5, fun q => absurd (i6 q).1 f1⟩
    · rw [c0, c_hand0 hC h.2.1.b h.2.1.2.1 st a1'' c1.1.1 f1, kcv_some]
      exact i1
    · have mb : s_X12_mustBegin T 33 1751215716 = some T1 := by
        unfold s_X12_mustBegin
        rw [kO_m hM, v1, kc_some, eW, if_neg z, kO_m hM, b1', kcv_some]
      rw [mb, kcv_some]
      exact i2
