/-! HummingDisc$Cord.shortBefore(I)I -/
abbrev rm_X2_shortBefore : Room := { frames := 0, cells := 0, slots := 0, locals := 0 }
theorem i_X2_shortBefore_2 : ∀ w ∈ wsX20, w ∈ wsX2_shortBefore := fun _ h => List.mem_cons_of_mem _ (List.mem_append_right _ (h))
def s_X2_shortBefore (S : HS) (h : Nat) (l1 : Int32) : Option (Int32 × HS) := kI S ((some h)) 2 0 (fun v1 => kdiv ((l1 * l1) * v1) 1000 (fun v2 => some (v2, S)))
set_option maxHeartbeats 4000000 in
set_option maxRecDepth 100000 in
theorem c_X2_shortBefore (l : Launch) (b0 : Nat) (G : hG) (S S1 : HS) (h : Nat) (l1 : Int32) (r : Int32) (hh : s_X2_shortBefore S h l1 = some (r, S1)) : MH l yX2_shortBefore wsX2_shortBefore rm_X2_shortBefore b0 G S [hrf b0 (some h), .int l1] (some (.int r)) S1 0 0 := by
  refine MH.ofW (cc := cX2_shortBefore) (maxL := 2) (ret := (some .int)) (own := RX2) (lv0 := [(0, hrf b0 ((some h))), (1, .int l1)]) (by decide) rfl rfl (Nat.le_of_ble_eq_true rfl) rfl ?_
  intro p e s m args below meth c E hrt hlk hnm
  have hh : (kI S ((some h)) 2 0 (fun v1 => kdiv ((l1 * l1) * v1) 1000 (fun v2 => some (v2, S)))) = some (r, S1) := hh
  refine rw_iload_n E (j0 := 1) rfl rfl dX2_shortBefore_0 ?_
  refine rw_iload_n E (j0 := 1) rfl rfl dX2_shortBefore_1 ?_
  refine rw_imul E dX2_shortBefore_2 ?_
  refine rw_aload_n E (j0 := 0) rfl rfl dX2_shortBefore_3 ?_
  refine rw_getI E hh (C := RX2) (T := TX2) (N := 4) rfl (by decide) i_X2_shortBefore_2 (by decide) rfl (List.mem_of_getElem? (i := 1) (by decide +kernel)) rfl dX2_shortBefore_4 (fun v1 hh => ?_)
  refine rw_imul E dX2_shortBefore_7 ?_
  refine rw_sipush E (v := 1000) (by decide) dX2_shortBefore_8 ?_
  refine rw_idiv E hh dX2_shortBefore_11 (fun v2 hh => ?_)
  exact rw_iret E hrt hlk hh (by decide) (by decide) dX2_shortBefore_12

/-! HummingDisc$Cord.shortBy(I)I -/
abbrev rm_X2_shortBy : Room := { frames := 1, cells := 0, slots := 0, locals := 21 }
theorem i_X2_shortBy_2 : ∀ w ∈ wsX20, w ∈ wsX2_shortBy := fun _ h => List.mem_cons_of_mem _ (List.mem_append_right _ (h))
def s_X2_shortBy (S : HS) (h : Nat) (l1 : Int32) : Option (Int32 × HS) := kI S ((some h)) 2 1 (fun v1 => if v1 < l1 then (kI S ((some h)) 2 1 (fun v2 => kO S ((some h)) 2 (fun a5 => kc (s_X2_shortBefore S a5 v2) (fun v4 S3 => kI S3 ((some h)) 2 1 (fun v6 => kI S3 ((some h)) 2 1 (fun v7 => kO S3 ((some h)) 2 (fun a10 => kc (s_X2_shortBefore S3 a10 v7) (fun v9 S8 => kI S8 ((some h)) 2 1 (fun v11 => kO S8 ((some h)) 2 (fun a14 => kc (s_X2_shortBefore S8 a14 (v11 - 1)) (fun v13 S12 => some (v4 + ((l1 - v6) * ((2 * (v9 - v13)) + 1)), S12)))))))))))) else (kO S ((some h)) 2 (fun a17 => kc (s_X2_shortBefore S a17 l1) (fun v16 S15 => some (v16, S15)))))
set_option maxHeartbeats 4000000 in
set_option maxRecDepth 100000 in
theorem c_X2_shortBy (l : Launch) (b0 : Nat) (G : hG) (S S1 : HS) (h : Nat) (l1 : Int32) (r : Int32) (hh : s_X2_shortBy S h l1 = some (r, S1)) : MH l yX2_shortBy wsX2_shortBy rm_X2_shortBy b0 G S [hrf b0 (some h), .int l1] (some (.int r)) S1 0 0 := by
  refine MH.ofW (cc := cX2_shortBy) (maxL := 2) (ret := (some .int)) (own := RX2) (lv0 := [(0, hrf b0 ((some h))), (1, .int l1)]) (by decide) rfl rfl (Nat.le_of_ble_eq_true rfl) rfl ?_
  intro p e s m args below meth c E hrt hlk hnm
  have hh : (kI S ((some h)) 2 1 (fun v1 => if v1 < l1 then (kI S ((some h)) 2 1 (fun v2 => kO S ((some h)) 2 (fun a5 => kc (s_X2_shortBefore S a5 v2) (fun v4 S3 => kI S3 ((some h)) 2 1 (fun v6 => kI S3 ((some h)) 2 1 (fun v7 => kO S3 ((some h)) 2 (fun a10 => kc (s_X2_shortBefore S3 a10 v7) (fun v9 S8 => kI S8 ((some h)) 2 1 (fun v11 => kO S8 ((some h)) 2 (fun a14 => kc (s_X2_shortBefore S8 a14 (v11 - 1)) (fun v13 S12 => some (v4 + ((l1 - v6) * ((2 * (v9 - v13)) + 1)), S12)))))))))))) else (kO S ((some h)) 2 (fun a17 => kc (s_X2_shortBefore S a17 l1) (fun v16 S15 => some (v16, S15)))))) = some (r, S1) := hh
  refine rw_iload_n E (j0 := 1) rfl rfl dX2_shortBy_0 ?_
  refine rw_aload_n E (j0 := 0) rfl rfl dX2_shortBy_1 ?_
  refine rw_getI E hh (C := RX2) (T := TX2) (N := 4) rfl (by decide) i_X2_shortBy_2 (by decide) rfl (List.mem_of_getElem? (i := 1) (by decide +kernel)) rfl dX2_shortBy_2 (fun v1 hh => ?_)
  refine rw_icmp_gt E hh (tgt := 14) (by decide) dX2_shortBy_5 (fun hh => ?_) (fun hh => ?_)
  · refine rw_aload_n E (j0 := 0) rfl rfl dX2_shortBy_14 ?_
    refine rw_aload_n E (j0 := 0) rfl rfl dX2_shortBy_15 ?_
    refine rw_getI E hh (C := RX2) (T := TX2) (N := 4) rfl (by decide) i_X2_shortBy_2 (by decide) rfl (List.mem_of_getElem? (i := 1) (by decide +kernel)) rfl dX2_shortBy_16 (fun v2 hh => ?_)
    refine rw_cVi E (As := [.int v2]) hh (by decide) rfl (fun _ _ _ hq => c_X2_shortBefore l b0 G _ _ _ _ _ hq) (cwV 1 E.2.2.2.2.1 gX2_shortBy_X2_shortBefore rfl rfl rfl (by decide +kernel) ⟨Nat.le_of_ble_eq_true rfl, Nat.le_of_ble_eq_true rfl⟩) rfl rfl (by (try simp only [List.map_cons, List.map_nil, List.sum_cons, List.sum_nil, hrf_cat, cat_i, cat_l, cat_r]) <;> decide) ⟨Nat.le_of_ble_eq_true rfl, Nat.le_of_ble_eq_true rfl⟩ dX2_shortBy_19 (fun v4 S3 hh => ?_)
    refine rw_iload_n E (j0 := 1) rfl rfl dX2_shortBy_22 ?_
    refine rw_aload_n E (j0 := 0) rfl rfl dX2_shortBy_23 ?_
    refine rw_getI E hh (C := RX2) (T := TX2) (N := 4) rfl (by decide) i_X2_shortBy_2 (by decide) rfl (List.mem_of_getElem? (i := 1) (by decide +kernel)) rfl dX2_shortBy_24 (fun v6 hh => ?_)
    refine rw_isub E dX2_shortBy_27 ?_
    refine rw_iconst E (v := 2) (by decide) dX2_shortBy_28 ?_
    refine rw_aload_n E (j0 := 0) rfl rfl dX2_shortBy_29 ?_
    refine rw_aload_n E (j0 := 0) rfl rfl dX2_shortBy_30 ?_
    refine rw_getI E hh (C := RX2) (T := TX2) (N := 4) rfl (by decide) i_X2_shortBy_2 (by decide) rfl (List.mem_of_getElem? (i := 1) (by decide +kernel)) rfl dX2_shortBy_31 (fun v7 hh => ?_)
    refine rw_cVi E (As := [.int v7]) hh (by decide) rfl (fun _ _ _ hq => c_X2_shortBefore l b0 G _ _ _ _ _ hq) (cwV 1 E.2.2.2.2.1 gX2_shortBy_X2_shortBefore rfl rfl rfl (by decide +kernel) ⟨Nat.le_of_ble_eq_true rfl, Nat.le_of_ble_eq_true rfl⟩) rfl rfl (by (try simp only [List.map_cons, List.map_nil, List.sum_cons, List.sum_nil, hrf_cat, cat_i, cat_l, cat_r]) <;> decide) ⟨Nat.le_of_ble_eq_true rfl, Nat.le_of_ble_eq_true rfl⟩ dX2_shortBy_34 (fun v9 S8 hh => ?_)
    refine rw_aload_n E (j0 := 0) rfl rfl dX2_shortBy_37 ?_
    refine rw_aload_n E (j0 := 0) rfl rfl dX2_shortBy_38 ?_
    refine rw_getI E hh (C := RX2) (T := TX2) (N := 4) rfl (by decide) i_X2_shortBy_2 (by decide) rfl (List.mem_of_getElem? (i := 1) (by decide +kernel)) rfl dX2_shortBy_39 (fun v11 hh => ?_)
    refine rw_iconst E (v := 1) (by decide) dX2_shortBy_42 ?_
    refine rw_isub E dX2_shortBy_43 ?_
    refine rw_cVi E (As := [.int (v11 - 1)]) hh (by decide) rfl (fun _ _ _ hq => c_X2_shortBefore l b0 G _ _ _ _ _ hq) (cwV 1 E.2.2.2.2.1 gX2_shortBy_X2_shortBefore rfl rfl rfl (by decide +kernel) ⟨Nat.le_of_ble_eq_true rfl, Nat.le_of_ble_eq_true rfl⟩) rfl rfl (by (try simp only [List.map_cons, List.map_nil, List.sum_cons, List.sum_nil, hrf_cat, cat_i, cat_l, cat_r]) <;> decide) ⟨Nat.le_of_ble_eq_true rfl, Nat.le_of_ble_eq_true rfl⟩ dX2_shortBy_44 (fun v13 S12 hh => ?_)
    refine rw_isub E dX2_shortBy_47 ?_
    refine rw_imul E dX2_shortBy_48 ?_
    refine rw_iconst E (v := 1) (by decide) dX2_shortBy_49 ?_
    refine rw_iadd E dX2_shortBy_50 ?_
    refine rw_imul E dX2_shortBy_51 ?_
    refine rw_iadd E dX2_shortBy_52 ?_
    exact rw_iret E hrt hlk hh (by decide) (by decide) dX2_shortBy_53
  · refine rw_aload_n E (j0 := 0) rfl rfl dX2_shortBy_8 ?_
    refine rw_iload_n E (j0 := 1) rfl rfl dX2_shortBy_9 ?_
    refine rw_cVi E (As := [.int l1]) hh (by decide) rfl (fun _ _ _ hq => c_X2_shortBefore l b0 G _ _ _ _ _ hq) (cwV 1 E.2.2.2.2.1 gX2_shortBy_X2_shortBefore rfl rfl rfl (by decide +kernel) ⟨Nat.le_of_ble_eq_true rfl, Nat.le_of_ble_eq_true rfl⟩) rfl rfl (by (try simp only [List.map_cons, List.map_nil, List.sum_cons, List.sum_nil, hrf_cat, cat_i, cat_l, cat_r]) <;> decide) ⟨Nat.le_of_ble_eq_true rfl, Nat.le_of_ble_eq_true rfl⟩ dX2_shortBy_10 (fun v16 S15 hh => ?_)
    exact rw_iret E hrt hlk hh (by decide) (by decide) dX2_shortBy_13

/-! HummingDisc$Cord.slopeAt(I)I -/
abbrev rm_X2_slopeAt : Room := { frames := 2, cells := 0, slots := 0, locals := 42 }
def s_X2_slopeAt (S : HS) (h : Nat) (l1 : Int32) : Option (Int32 × HS) := if 0 < l1 then (kO S ((some h)) 2 (fun a3 => kc (s_X2_shortBy S a3 l1) (fun v2 S1 => kO S1 ((some h)) 2 (fun a6 => kc (s_X2_shortBy S1 a6 (l1 - 1)) (fun v5 S4 => some (v2 - v5, S4)))))) else (some (0, S))
set_option maxHeartbeats 4000000 in
set_option maxRecDepth 100000 in
theorem c_X2_slopeAt (l : Launch) (b0 : Nat) (G : hG) (S S1 : HS) (h : Nat) (l1 : Int32) (r : Int32) (hh : s_X2_slopeAt S h l1 = some (r, S1)) : MH l yX2_slopeAt wsX2_slopeAt rm_X2_slopeAt b0 G S [hrf b0 (some h), .int l1] (some (.int r)) S1 0 0 := by
  refine MH.ofW (cc := cX2_slopeAt) (maxL := 2) (ret := (some .int)) (own := RX2) (lv0 := [(0, hrf b0 ((some h))), (1, .int l1)]) (by decide) rfl rfl (Nat.le_of_ble_eq_true rfl) rfl ?_
  intro p e s m args below meth c E hrt hlk hnm
  have hh : (if 0 < l1 then (kO S ((some h)) 2 (fun a3 => kc (s_X2_shortBy S a3 l1) (fun v2 S1 => kO S1 ((some h)) 2 (fun a6 => kc (s_X2_shortBy S1 a6 (l1 - 1)) (fun v5 S4 => some (v2 - v5, S4)))))) else (some (0, S))) = some (r, S1) := hh
  refine rw_iload_n E (j0 := 1) rfl rfl dX2_slopeAt_0 ?_
  refine rw_if_gt E hh (tgt := 8) (by decide) dX2_slopeAt_1 (fun hh => ?_) (fun hh => ?_)
  · refine rw_aload_n E (j0 := 0) rfl rfl dX2_slopeAt_8 ?_
    refine rw_iload_n E (j0 := 1) rfl rfl dX2_slopeAt_9 ?_
    refine rw_cVi E (As := [.int l1]) hh (by decide) rfl (fun _ _ _ hq => c_X2_shortBy l b0 G _ _ _ _ _ hq) (cwV 1 E.2.2.2.2.1 gX2_slopeAt_X2_shortBy rfl rfl rfl (by decide +kernel) ⟨Nat.le_of_ble_eq_true rfl, Nat.le_of_ble_eq_true rfl⟩) rfl rfl (by (try simp only [List.map_cons, List.map_nil, List.sum_cons, List.sum_nil, hrf_cat, cat_i, cat_l, cat_r]) <;> decide) ⟨Nat.le_of_ble_eq_true rfl, Nat.le_of_ble_eq_true rfl⟩ dX2_slopeAt_10 (fun v2 S1 hh => ?_)
    refine rw_aload_n E (j0 := 0) rfl rfl dX2_slopeAt_13 ?_
    refine rw_iload_n E (j0 := 1) rfl rfl dX2_slopeAt_14 ?_
    refine rw_iconst E (v := 1) (by decide) dX2_slopeAt_15 ?_
    refine rw_isub E dX2_slopeAt_16 ?_
    refine rw_cVi E (As := [.int (l1 - 1)]) hh (by decide) rfl (fun _ _ _ hq => c_X2_shortBy l b0 G _ _ _ _ _ hq) (cwV 1 E.2.2.2.2.1 gX2_slopeAt_X2_shortBy rfl rfl rfl (by decide +kernel) ⟨Nat.le_of_ble_eq_true rfl, Nat.le_of_ble_eq_true rfl⟩) rfl rfl (by (try simp only [List.map_cons, List.map_nil, List.sum_cons, List.sum_nil, hrf_cat, cat_i, cat_l, cat_r]) <;> decide) ⟨Nat.le_of_ble_eq_true rfl, Nat.le_of_ble_eq_true rfl⟩ dX2_slopeAt_17 (fun v5 S4 hh => ?_)
    refine rw_isub E dX2_slopeAt_20 ?_
    exact rw_iret E hrt hlk hh (by decide) (by decide) dX2_slopeAt_21
  · refine rw_iconst E (v := 0) (by decide) dX2_slopeAt_4 ?_
    refine rw_goto E (tgt := 21) (by decide) dX2_slopeAt_5 ?_
    exact rw_iret E hrt hlk hh (by decide) (by decide) dX2_slopeAt_21

/-! HummingDisc$Disc.behindAir(I)I -/
abbrev rm_X3_behindAir : Room := { frames := 1, cells := 0, slots := 0, locals := 26 }
theorem i_X3_behindAir_3 : ∀ w ∈ wsX30, w ∈ wsX3_behindAir := fun _ h => List.mem_cons_of_mem _ (List.mem_append_right _ (h))
def s_X3_behindAir (S : HS) (h : Nat) (l1 : Int32) : Option (Int32 × HS) := kldiv (l1.toInt64 * l1.toInt64) 1000 (fun v1 => kI S ((some h)) 3 1 (fun v2 => kldiv (v1 * v2.toInt64) 100 (fun v3 => some ((flmax 0 (l1.toInt64 - v3) : Int64).toInt32, S))))
set_option maxHeartbeats 4000000 in
set_option maxRecDepth 100000 in
theorem c_X3_behindAir (l : Launch) (b0 : Nat) (G : hG) (S S1 : HS) (h : Nat) (l1 : Int32) (r : Int32) (hh : s_X3_behindAir S h l1 = some (r, S1)) : MH l yX3_behindAir wsX3_behindAir rm_X3_behindAir b0 G S [hrf b0 (some h), .int l1] (some (.int r)) S1 0 0 := by
  refine MH.ofW (cc := cX3_behindAir) (maxL := 4) (ret := (some .int)) (own := RX3) (lv0 := [(0, hrf b0 ((some h))), (1, .int l1)]) (by decide) rfl rfl (Nat.le_of_ble_eq_true rfl) rfl ?_
  intro p e s m args below meth c E hrt hlk hnm
  have hh : (kldiv (l1.toInt64 * l1.toInt64) 1000 (fun v1 => kI S ((some h)) 3 1 (fun v2 => kldiv (v1 * v2.toInt64) 100 (fun v3 => some ((flmax 0 (l1.toInt64 - v3) : Int64).toInt32, S))))) = some (r, S1) := hh
  refine rw_iload_n E (j0 := 1) rfl rfl dX3_behindAir_0 ?_
  refine rw_i2l E dX3_behindAir_1 ?_
  refine rw_iload_n E (j0 := 1) rfl rfl dX3_behindAir_2 ?_
  refine rw_i2l E dX3_behindAir_3 ?_
  refine rw_lmul E dX3_behindAir_4 ?_
  refine rw_ldc2 E (v := 1000) (List.mem_of_getElem? (i := 1) (by decide +kernel)) dX3_behindAir_5 ?_
  refine rw_ldiv E hh dX3_behindAir_8 (fun v1 hh => ?_)
  refine rw_aload_n E (j0 := 0) rfl rfl dX3_behindAir_9 ?_
  refine rw_getI E hh (C := RX3) (T := TX3) (N := 3) rfl (by decide) i_X3_behindAir_3 (by decide) rfl (List.mem_of_getElem? (i := 2) (by decide +kernel)) rfl dX3_behindAir_10 (fun v2 hh => ?_)
  refine rw_i2l E dX3_behindAir_13 ?_
  refine rw_lmul E dX3_behindAir_14 ?_
  refine rw_ldc2 E (v := 100) (List.mem_of_getElem? (i := 3) (by decide +kernel)) dX3_behindAir_15 ?_
  refine rw_ldiv E hh dX3_behindAir_18 (fun v3 hh => ?_)
  refine rw_lstore_n E (lv2 := [(2, .long v3), (0, hrf b0 ((some h))), (1, .int l1)]) rfl (by decide) rfl dX3_behindAir_19 ?_
  refine rw_lconst E (v := 0) (by decide) dX3_behindAir_20 ?_
  refine rw_iload_n E (j0 := 2) rfl rfl dX3_behindAir_21 ?_
  refine rw_i2l E dX3_behindAir_22 ?_
  refine rw_lload_n E (j0 := 0) rfl rfl dX3_behindAir_23 ?_
  refine rw_lsub E dX3_behindAir_24 ?_
  refine rw_mlmax E ⟨by decide, (by (try simp only [List.map_cons, List.map_nil, List.sum_cons, List.sum_nil, hrf_cat, cat_i, cat_l, cat_r]) <;> decide), by decide, by decide⟩ (List.mem_of_getElem? (i := 4) (by decide +kernel)) (List.mem_of_getElem? (i := 5) (by decide +kernel)) (List.mem_of_getElem? (i := 6) (by decide +kernel)) (List.mem_of_getElem? (i := 7) (by decide +kernel)) dX3_behindAir_25 ?_
  refine rw_l2i E dX3_behindAir_28 ?_
  exact rw_iret E hrt hlk hh (by decide) (by decide) dX3_behindAir_29

/-! HummingDisc$Run.isTurningBack()Z -/
abbrev rm_X8_isTurningBack : Room := { frames := 0, cells := 0, slots := 0, locals := 0 }
theorem i_X8_isTurningBack_8 : ∀ w ∈ wsX80, w ∈ wsX8_isTurningBack := fun _ h => List.mem_cons_of_mem _ (List.mem_append_right _ (h))
def s_X8_isTurningBack_b28 (h : Nat) (S : HS) : Option (Int32 × HS) := kzr 1 S
set_option maxHeartbeats 4000000 in
set_option maxRecDepth 100000 in
theorem w_X8_isTurningBack_b28 {p : Program} {l : Launch} {e : Env} {s : State} {m : MethodId} {args : Array Value} {below : List Frame} {meth : Method} {c : Code} {b0 : Nat} {G : hG} {S1 : HS} {r : Int32} {h : Nat} {S : HS} (E : hE p s m args c b0 G cX8_isTurningBack RX8 1 wsX8_isTurningBack) (hrt : meth.sig.returnType = (some .boolean)) (hlk : meth.locks = false) (hh : s_X8_isTurningBack_b28 h S = some (r, S1)) : WH p l e rm_X8_isTurningBack s m args below meth c b0 G 1 0 0 (MQ below (hQ b0 G (some (.int r)) S1) args s 0 0 (hA b0)) S 28 [] [] := by
  have hh : (kzr 1 S) = some (r, S1) := hh
  refine rw_iconst E (v := 1) (by decide) dX8_isTurningBack_28 ?_
  refine rw_goto E (tgt := 33) (by decide) dX8_isTurningBack_29 ?_
  exact rw_zret E hrt hlk hh (by decide) (by decide) dX8_isTurningBack_33
def s_X8_isTurningBack_b14 (h : Nat) (S : HS) : Option (Int32 × HS) := kI S ((some h)) 8 5 (fun v1 => if v1 ≤ 0 then (kzr 0 S) else (kI S ((some h)) 8 3 (fun v2 => if 0 ≤ v2 then (kzr 0 S) else (s_X8_isTurningBack_b28 h S))))
set_option maxHeartbeats 4000000 in
set_option maxRecDepth 100000 in
theorem w_X8_isTurningBack_b14 {p : Program} {l : Launch} {e : Env} {s : State} {m : MethodId} {args : Array Value} {below : List Frame} {meth : Method} {c : Code} {b0 : Nat} {G : hG} {S1 : HS} {r : Int32} {h : Nat} {S : HS} (E : hE p s m args c b0 G cX8_isTurningBack RX8 1 wsX8_isTurningBack) (hrt : meth.sig.returnType = (some .boolean)) (hlk : meth.locks = false) (hh : s_X8_isTurningBack_b14 h S = some (r, S1)) : WH p l e rm_X8_isTurningBack s m args below meth c b0 G 1 0 0 (MQ below (hQ b0 G (some (.int r)) S1) args s 0 0 (hA b0)) S 14 [(0, hrf b0 ((some h)))] [] := by
  have hh : (kI S ((some h)) 8 5 (fun v1 => if v1 ≤ 0 then (kzr 0 S) else (kI S ((some h)) 8 3 (fun v2 => if 0 ≤ v2 then (kzr 0 S) else (s_X8_isTurningBack_b28 h S))))) = some (r, S1) := hh
  refine rw_aload_n E (j0 := 0) rfl rfl dX8_isTurningBack_14 ?_
  refine rw_getI E hh (C := RX8) (T := TX8) (N := 12) rfl (by decide) i_X8_isTurningBack_8 (by decide) rfl (List.mem_of_getElem? (i := 1) (by decide +kernel)) rfl dX8_isTurningBack_15 (fun v1 hh => ?_)
  refine rw_if_le E hh (tgt := 32) (by decide) dX8_isTurningBack_18 (fun hh => ?_) (fun hh => ?_)
  · refine rw_iconst E (v := 0) (by decide) dX8_isTurningBack_32 ?_
    exact rw_zret E hrt hlk hh (by decide) (by decide) dX8_isTurningBack_33
  · refine rw_aload_n E (j0 := 0) rfl rfl dX8_isTurningBack_21 ?_
    refine rw_getI E hh (C := RX8) (T := TX8) (N := 12) rfl (by decide) i_X8_isTurningBack_8 (by decide) rfl (List.mem_of_getElem? (i := 2) (by decide +kernel)) rfl dX8_isTurningBack_22 (fun v2 hh => ?_)
    refine rw_if_ge E hh (tgt := 32) (by decide) dX8_isTurningBack_25 (fun hh => ?_) (fun hh => ?_)
    · refine rw_iconst E (v := 0) (by decide) dX8_isTurningBack_32 ?_
      exact rw_zret E hrt hlk hh (by decide) (by decide) dX8_isTurningBack_33
    · refine WH.pick [] rfl ?_
      exact w_X8_isTurningBack_b28 E hrt hlk hh
def s_X8_isTurningBack (S : HS) (h : Nat) : Option (Int32 × HS) := kI S ((some h)) 8 5 (fun v1 => if 0 ≤ v1 then (s_X8_isTurningBack_b14 h S) else (kI S ((some h)) 8 3 (fun v2 => if 0 < v2 then (s_X8_isTurningBack_b28 h S) else (s_X8_isTurningBack_b14 h S))))
set_option maxHeartbeats 4000000 in
set_option maxRecDepth 100000 in
theorem c_X8_isTurningBack (l : Launch) (b0 : Nat) (G : hG) (S S1 : HS) (h : Nat) (r : Int32) (hh : s_X8_isTurningBack S h  = some (r, S1)) : MH l yX8_isTurningBack wsX8_isTurningBack rm_X8_isTurningBack b0 G S [hrf b0 (some h)] (some (.int r)) S1 0 0 := by
  refine MH.ofW (cc := cX8_isTurningBack) (maxL := 1) (ret := (some .boolean)) (own := RX8) (lv0 := [(0, hrf b0 ((some h)))]) (by decide) rfl rfl (Nat.le_of_ble_eq_true rfl) rfl ?_
  intro p e s m args below meth c E hrt hlk hnm
  have hh : (kI S ((some h)) 8 5 (fun v1 => if 0 ≤ v1 then (s_X8_isTurningBack_b14 h S) else (kI S ((some h)) 8 3 (fun v2 => if 0 < v2 then (s_X8_isTurningBack_b28 h S) else (s_X8_isTurningBack_b14 h S))))) = some (r, S1) := hh
  refine rw_aload_n E (j0 := 0) rfl rfl dX8_isTurningBack_0 ?_
  refine rw_getI E hh (C := RX8) (T := TX8) (N := 12) rfl (by decide) i_X8_isTurningBack_8 (by decide) rfl (List.mem_of_getElem? (i := 1) (by decide +kernel)) rfl dX8_isTurningBack_1 (fun v1 hh => ?_)
  refine rw_if_ge E hh (tgt := 14) (by decide) dX8_isTurningBack_4 (fun hh => ?_) (fun hh => ?_)
  · refine WH.pick [0] rfl ?_
    exact w_X8_isTurningBack_b14 E hrt hlk hh
  · refine rw_aload_n E (j0 := 0) rfl rfl dX8_isTurningBack_7 ?_
    refine rw_getI E hh (C := RX8) (T := TX8) (N := 12) rfl (by decide) i_X8_isTurningBack_8 (by decide) rfl (List.mem_of_getElem? (i := 2) (by decide +kernel)) rfl dX8_isTurningBack_8 (fun v2 hh => ?_)
    refine rw_if_gt E hh (tgt := 28) (by decide) dX8_isTurningBack_11 (fun hh => ?_) (fun hh => ?_)
    · refine WH.pick [] rfl ?_
      exact w_X8_isTurningBack_b28 E hrt hlk hh
    · refine WH.pick [0] rfl ?_
      exact w_X8_isTurningBack_b14 E hrt hlk hh

/-! HummingDisc$Run.unwinds()Z -/
abbrev rm_X8_unwinds : Room := { frames := 1, cells := 0, slots := 0, locals := 20 }
theorem i_X8_unwinds_8 : ∀ w ∈ wsX80, w ∈ wsX8_unwinds := fun _ h => List.mem_cons_of_mem _ (List.mem_append_right _ (h))
def s_X8_unwinds_b14 (h : Nat) (S : HS) : Option (Int32 × HS) := kzr 1 S
set_option maxHeartbeats 4000000 in
set_option maxRecDepth 100000 in
theorem w_X8_unwinds_b14 {p : Program} {l : Launch} {e : Env} {s : State} {m : MethodId} {args : Array Value} {below : List Frame} {meth : Method} {c : Code} {b0 : Nat} {G : hG} {S1 : HS} {r : Int32} {h : Nat} {S : HS} (E : hE p s m args c b0 G cX8_unwinds RX8 1 wsX8_unwinds) (hrt : meth.sig.returnType = (some .boolean)) (hlk : meth.locks = false) (hh : s_X8_unwinds_b14 h S = some (r, S1)) : WH p l e rm_X8_unwinds s m args below meth c b0 G 1 0 0 (MQ below (hQ b0 G (some (.int r)) S1) args s 0 0 (hA b0)) S 14 [] [] := by
  have hh : (kzr 1 S) = some (r, S1) := hh
  refine rw_iconst E (v := 1) (by decide) dX8_unwinds_14 ?_
  refine rw_goto E (tgt := 19) (by decide) dX8_unwinds_15 ?_
  exact rw_zret E hrt hlk hh (by decide) (by decide) dX8_unwinds_19
def s_X8_unwinds (S : HS) (h : Nat) : Option (Int32 × HS) := kI S ((some h)) 8 5 (fun v1 => if v1 = 0 then (s_X8_unwinds_b14 h S) else (kO S ((some h)) 8 (fun a4 => kc (s_X8_isTurningBack S a4 ) (fun v3 S2 => if v3 = 0 then (kzr 0 S2) else (s_X8_unwinds_b14 h S2)))))
set_option maxHeartbeats 4000000 in
set_option maxRecDepth 100000 in
theorem c_X8_unwinds (l : Launch) (b0 : Nat) (G : hG) (S S1 : HS) (h : Nat) (r : Int32) (hh : s_X8_unwinds S h  = some (r, S1)) : MH l yX8_unwinds wsX8_unwinds rm_X8_unwinds b0 G S [hrf b0 (some h)] (some (.int r)) S1 0 0 := by
  refine MH.ofW (cc := cX8_unwinds) (maxL := 1) (ret := (some .boolean)) (own := RX8) (lv0 := [(0, hrf b0 ((some h)))]) (by decide) rfl rfl (Nat.le_of_ble_eq_true rfl) rfl ?_
  intro p e s m args below meth c E hrt hlk hnm
  have hh : (kI S ((some h)) 8 5 (fun v1 => if v1 = 0 then (s_X8_unwinds_b14 h S) else (kO S ((some h)) 8 (fun a4 => kc (s_X8_isTurningBack S a4 ) (fun v3 S2 => if v3 = 0 then (kzr 0 S2) else (s_X8_unwinds_b14 h S2)))))) = some (r, S1) := hh
  refine rw_aload_n E (j0 := 0) rfl rfl dX8_unwinds_0 ?_
  refine rw_getI E hh (C := RX8) (T := TX8) (N := 12) rfl (by decide) i_X8_unwinds_8 (by decide) rfl (List.mem_of_getElem? (i := 1) (by decide +kernel)) rfl dX8_unwinds_1 (fun v1 hh => ?_)
  refine rw_if_eq E hh (tgt := 14) (by decide) dX8_unwinds_4 (fun hh => ?_) (fun hh => ?_)
  · refine WH.pick [] rfl ?_
    exact w_X8_unwinds_b14 E hrt hlk hh
  · refine rw_aload_n E (j0 := 0) rfl rfl dX8_unwinds_7 ?_
    refine rw_cVi E (As := []) hh (by decide) rfl (fun _ _ _ hq => c_X8_isTurningBack l b0 G _ _ _ _ hq) (cwV 0 E.2.2.2.2.1 gX8_unwinds_X8_isTurningBack rfl rfl rfl (by decide +kernel) ⟨Nat.le_of_ble_eq_true rfl, Nat.le_of_ble_eq_true rfl⟩) rfl rfl (by (try simp only [List.map_cons, List.map_nil, List.sum_cons, List.sum_nil, hrf_cat, cat_i, cat_l, cat_r]) <;> decide) ⟨Nat.le_of_ble_eq_true rfl, Nat.le_of_ble_eq_true rfl⟩ dX8_unwinds_8 (fun v3 S2 hh => ?_)
    refine rw_if_eq E hh (tgt := 18) (by decide) dX8_unwinds_11 (fun hh => ?_) (fun hh => ?_)
    · refine rw_iconst E (v := 0) (by decide) dX8_unwinds_18 ?_
      exact rw_zret E hrt hlk hh (by decide) (by decide) dX8_unwinds_19
    · refine WH.pick [] rfl ?_
      exact w_X8_unwinds_b14 E hrt hlk hh

/-! HummingDisc$Run.stop()V -/
abbrev rm_X8_stop : Room := { frames := 0, cells := 0, slots := 0, locals := 0 }
theorem i_X8_stop_2 : ∀ w ∈ wsX20, w ∈ wsX8_stop := fun _ h => List.mem_cons_of_mem _ (List.mem_append_right _ (h))
theorem i_X8_stop_8 : ∀ w ∈ wsX80, w ∈ wsX8_stop := fun _ h => List.mem_cons_of_mem _ (List.mem_append_left _ (List.mem_append_right _ (h)))
def s_X8_stop_b49 (h : Nat) (S : HS) (k0 : Option Nat) (k1 : Int32) : Option (HS) := kwZ S k0 8 11 k1 (fun S1 => kwI S1 ((some h)) 8 5 0 (fun S2 => some S2))
set_option maxHeartbeats 4000000 in
set_option maxRecDepth 100000 in
theorem w_X8_stop_b49 {p : Program} {l : Launch} {e : Env} {s : State} {m : MethodId} {args : Array Value} {below : List Frame} {meth : Method} {c : Code} {b0 : Nat} {G : hG} {S1 : HS} {h : Nat} {S : HS} {k0 : Option Nat} {k1 : Int32} (E : hE p s m args c b0 G cX8_stop RX8 1 wsX8_stop) (hrt : meth.sig.returnType = none) (hlk : meth.locks = false) (hh : s_X8_stop_b49 h S k0 k1 = some S1) : WH p l e rm_X8_stop s m args below meth c b0 G 1 0 0 (MQ below (hQ b0 G none S1) args s 0 0 (hA b0)) S 49 [(0, hrf b0 ((some h)))] [.int k1, hrf b0 k0] := by
  have hh : (kwZ S k0 8 11 k1 (fun S1 => kwI S1 ((some h)) 8 5 0 (fun S2 => some S2))) = some S1 := hh
  refine rw_putZ E hh (C := RX8) (T := TX8) (N := 12) (ty0 := tyX8) rfl tyX8_ok nmX8 (by decide) i_X8_stop_8 (by decide) rfl (List.mem_of_getElem? (i := 6) (by decide +kernel)) rfl (Or.inl rfl) rfl dX8_stop_49 (fun S1 hh => ?_)
  refine rw_aload_n E (j0 := 0) rfl rfl dX8_stop_52 ?_
  refine rw_iconst E (v := 0) (by decide) dX8_stop_53 ?_
  refine rw_putI E hh (C := RX8) (T := TX8) (N := 12) (ty0 := tyX8) rfl tyX8_ok nmX8 (by decide) i_X8_stop_8 (by decide) rfl (List.mem_of_getElem? (i := 7) (by decide +kernel)) rfl (Or.inl rfl) rfl dX8_stop_54 (fun S2 hh => ?_)
  exact rw_vret E hrt hlk hh (by decide) (by decide) dX8_stop_57
def s_X8_stop_b26 (h : Nat) (S : HS) (k0 : Option Nat) (k1 : Int32) : Option (HS) := kwI S k0 8 3 k1 (fun S1 => kI S1 ((some h)) 8 6 (fun v2 => kP S1 ((some h)) 8 1 (fun v3 => kI S1 v3 2 3 (fun v4 => if v2 ≤ v4 then (s_X8_stop_b49 h S1 ((some h)) 0) else (s_X8_stop_b49 h S1 ((some h)) 1)))))
set_option maxHeartbeats 4000000 in
set_option maxRecDepth 100000 in
theorem w_X8_stop_b26 {p : Program} {l : Launch} {e : Env} {s : State} {m : MethodId} {args : Array Value} {below : List Frame} {meth : Method} {c : Code} {b0 : Nat} {G : hG} {S1 : HS} {h : Nat} {S : HS} {k0 : Option Nat} {k1 : Int32} (E : hE p s m args c b0 G cX8_stop RX8 1 wsX8_stop) (hrt : meth.sig.returnType = none) (hlk : meth.locks = false) (hh : s_X8_stop_b26 h S k0 k1 = some S1) : WH p l e rm_X8_stop s m args below meth c b0 G 1 0 0 (MQ below (hQ b0 G none S1) args s 0 0 (hA b0)) S 26 [(0, hrf b0 ((some h)))] [.int k1, hrf b0 k0] := by
  have hh : (kwI S k0 8 3 k1 (fun S1 => kI S1 ((some h)) 8 6 (fun v2 => kP S1 ((some h)) 8 1 (fun v3 => kI S1 v3 2 3 (fun v4 => if v2 ≤ v4 then (s_X8_stop_b49 h S1 ((some h)) 0) else (s_X8_stop_b49 h S1 ((some h)) 1)))))) = some S1 := hh
  refine rw_putI E hh (C := RX8) (T := TX8) (N := 12) (ty0 := tyX8) rfl tyX8_ok nmX8 (by decide) i_X8_stop_8 (by decide) rfl (List.mem_of_getElem? (i := 1) (by decide +kernel)) rfl (Or.inl rfl) rfl dX8_stop_26 (fun S1 hh => ?_)
  refine rw_aload_n E (j0 := 0) rfl rfl dX8_stop_29 ?_
  refine rw_aload_n E (j0 := 0) rfl rfl dX8_stop_30 ?_
  refine rw_getI E hh (C := RX8) (T := TX8) (N := 12) rfl (by decide) i_X8_stop_8 (by decide) rfl (List.mem_of_getElem? (i := 4) (by decide +kernel)) rfl dX8_stop_31 (fun v2 hh => ?_)
  refine rw_aload_n E (j0 := 0) rfl rfl dX8_stop_34 ?_
  refine rw_getP E hh (C := RX8) (T := TX8) (N := 12) rfl (by decide) i_X8_stop_8 (by decide) rfl (List.mem_of_getElem? (i := 2) (by decide +kernel)) rfl dX8_stop_35 (fun v3 hh => ?_)
  refine rw_getI E hh (C := RX2) (T := TX2) (N := 4) rfl (by decide) i_X8_stop_2 (by decide) rfl (List.mem_of_getElem? (i := 5) (by decide +kernel)) rfl dX8_stop_38 (fun v4 hh => ?_)
  refine rw_icmp_le E hh (tgt := 48) (by decide) dX8_stop_41 (fun hh => ?_) (fun hh => ?_)
  · refine rw_iconst E (v := 0) (by decide) dX8_stop_48 ?_
    refine WH.pick [0] rfl ?_
    exact w_X8_stop_b49 E hrt hlk hh
  · refine rw_iconst E (v := 1) (by decide) dX8_stop_44 ?_
    refine rw_goto E (tgt := 49) (by decide) dX8_stop_45 ?_
    refine WH.pick [0] rfl ?_
    exact w_X8_stop_b49 E hrt hlk hh
def s_X8_stop (S : HS) (h : Nat) : Option (HS) := kI S ((some h)) 8 3 (fun v1 => if 0 ≤ v1 then (kP S ((some h)) 8 1 (fun v2 => kI S v2 2 2 (fun v3 => s_X8_stop_b26 h S ((some h)) v3))) else (kP S ((some h)) 8 1 (fun v4 => kI S v4 2 2 (fun v5 => s_X8_stop_b26 h S ((some h)) (-v5)))))
set_option maxHeartbeats 4000000 in
set_option maxRecDepth 100000 in
theorem c_X8_stop (l : Launch) (b0 : Nat) (G : hG) (S S1 : HS) (h : Nat) (hh : s_X8_stop S h  = some S1) : MH l yX8_stop wsX8_stop rm_X8_stop b0 G S [hrf b0 (some h)] none S1 0 0 := by
  refine MH.ofW (cc := cX8_stop) (maxL := 1) (ret := none) (own := RX8) (lv0 := [(0, hrf b0 ((some h)))]) (by decide) rfl rfl (Nat.le_of_ble_eq_true rfl) rfl ?_
  intro p e s m args below meth c E hrt hlk hnm
  have hh : (kI S ((some h)) 8 3 (fun v1 => if 0 ≤ v1 then (kP S ((some h)) 8 1 (fun v2 => kI S v2 2 2 (fun v3 => s_X8_stop_b26 h S ((some h)) v3))) else (kP S ((some h)) 8 1 (fun v4 => kI S v4 2 2 (fun v5 => s_X8_stop_b26 h S ((some h)) (-v5)))))) = some S1 := hh
  refine rw_aload_n E (j0 := 0) rfl rfl dX8_stop_0 ?_
  refine rw_aload_n E (j0 := 0) rfl rfl dX8_stop_1 ?_
  refine rw_getI E hh (C := RX8) (T := TX8) (N := 12) rfl (by decide) i_X8_stop_8 (by decide) rfl (List.mem_of_getElem? (i := 1) (by decide +kernel)) rfl dX8_stop_2 (fun v1 hh => ?_)
  refine rw_if_ge E hh (tgt := 19) (by decide) dX8_stop_5 (fun hh => ?_) (fun hh => ?_)
  · refine rw_aload_n E (j0 := 0) rfl rfl dX8_stop_19 ?_
    refine rw_getP E hh (C := RX8) (T := TX8) (N := 12) rfl (by decide) i_X8_stop_8 (by decide) rfl (List.mem_of_getElem? (i := 2) (by decide +kernel)) rfl dX8_stop_20 (fun v2 hh => ?_)
    refine rw_getI E hh (C := RX2) (T := TX2) (N := 4) rfl (by decide) i_X8_stop_2 (by decide) rfl (List.mem_of_getElem? (i := 3) (by decide +kernel)) rfl dX8_stop_23 (fun v3 hh => ?_)
    refine WH.pick [0] rfl ?_
    exact w_X8_stop_b26 E hrt hlk hh
  · refine rw_aload_n E (j0 := 0) rfl rfl dX8_stop_8 ?_
    refine rw_getP E hh (C := RX8) (T := TX8) (N := 12) rfl (by decide) i_X8_stop_8 (by decide) rfl (List.mem_of_getElem? (i := 2) (by decide +kernel)) rfl dX8_stop_9 (fun v4 hh => ?_)
    refine rw_getI E hh (C := RX2) (T := TX2) (N := 4) rfl (by decide) i_X8_stop_2 (by decide) rfl (List.mem_of_getElem? (i := 3) (by decide +kernel)) rfl dX8_stop_12 (fun v5 hh => ?_)
    refine rw_ineg E dX8_stop_15 ?_
    refine rw_goto E (tgt := 26) (by decide) dX8_stop_16 ?_
    refine WH.pick [0] rfl ?_
    exact w_X8_stop_b26 E hrt hlk hh

/-! HummingDisc$Run.tick(II)V -/
abbrev rm_X8_tick : Room := { frames := 3, cells := 0, slots := 0, locals := 63 }
theorem i_X8_tick_2 : ∀ w ∈ wsX20, w ∈ wsX8_tick := fun _ h => List.mem_cons_of_mem _ (List.mem_append_right _ (h))
theorem i_X8_tick_3 : ∀ w ∈ wsX30, w ∈ wsX8_tick := fun _ h => List.mem_cons_of_mem _ (List.mem_append_left _ (List.mem_append_right _ (h)))
theorem i_X8_tick_8 : ∀ w ∈ wsX80, w ∈ wsX8_tick := fun _ h => List.mem_cons_of_mem _ (List.mem_append_left _ (List.mem_append_left _ (List.mem_append_right _ (h))))
def s_X8_tick_b203 (h : Nat) (S : HS) (l1 : Int32) : Option (HS) := kI S ((some h)) 8 8 (fun v1 => kwI S ((some h)) 8 8 (v1 + 1) (fun S2 => kwI S2 ((some h)) 8 9 l1 (fun S3 => some S3)))
set_option maxHeartbeats 4000000 in
set_option maxRecDepth 100000 in
theorem w_X8_tick_b203 {p : Program} {l : Launch} {e : Env} {s : State} {m : MethodId} {args : Array Value} {below : List Frame} {meth : Method} {c : Code} {b0 : Nat} {G : hG} {S1 : HS} {h : Nat} {S : HS} {l1 : Int32} (E : hE p s m args c b0 G cX8_tick RX8 5 wsX8_tick) (hrt : meth.sig.returnType = none) (hlk : meth.locks = false) (hh : s_X8_tick_b203 h S l1 = some S1) : WH p l e rm_X8_tick s m args below meth c b0 G 5 0 0 (MQ below (hQ b0 G none S1) args s 0 0 (hA b0)) S 203 [(0, hrf b0 ((some h))), (1, .int l1)] [] := by
  have hh : (kI S ((some h)) 8 8 (fun v1 => kwI S ((some h)) 8 8 (v1 + 1) (fun S2 => kwI S2 ((some h)) 8 9 l1 (fun S3 => some S3)))) = some S1 := hh
  refine rw_aload_n E (j0 := 0) rfl rfl dX8_tick_203 ?_
  refine rw_dup E (hrf_cat _ _) dX8_tick_204 ?_
  refine rw_getI E hh (C := RX8) (T := TX8) (N := 12) rfl (by decide) i_X8_tick_8 (by decide) rfl (List.mem_of_getElem? (i := 18) (by decide +kernel)) rfl dX8_tick_205 (fun v1 hh => ?_)
  refine rw_iconst E (v := 1) (by decide) dX8_tick_208 ?_
  refine rw_iadd E dX8_tick_209 ?_
  refine rw_putI E hh (C := RX8) (T := TX8) (N := 12) (ty0 := tyX8) rfl tyX8_ok nmX8 (by decide) i_X8_tick_8 (by decide) rfl (List.mem_of_getElem? (i := 18) (by decide +kernel)) rfl (Or.inl rfl) rfl dX8_tick_210 (fun S2 hh => ?_)
  refine rw_aload_n E (j0 := 0) rfl rfl dX8_tick_213 ?_
  refine rw_iload_n E (j0 := 1) rfl rfl dX8_tick_214 ?_
  refine rw_putI E hh (C := RX8) (T := TX8) (N := 12) (ty0 := tyX8) rfl tyX8_ok nmX8 (by decide) i_X8_tick_8 (by decide) rfl (List.mem_of_getElem? (i := 19) (by decide +kernel)) rfl (Or.inl rfl) rfl dX8_tick_215 (fun S3 hh => ?_)
  exact rw_vret E hrt hlk hh (by decide) (by decide) dX8_tick_218
def s_X8_tick_b193 (h : Nat) (S : HS) (l1 : Int32) : Option (HS) := kI S ((some h)) 8 10 (fun v1 => kwI S ((some h)) 8 10 (v1 + 1) (fun S2 => s_X8_tick_b203 h S2 l1))
set_option maxHeartbeats 4000000 in
set_option maxRecDepth 100000 in
theorem w_X8_tick_b193 {p : Program} {l : Launch} {e : Env} {s : State} {m : MethodId} {args : Array Value} {below : List Frame} {meth : Method} {c : Code} {b0 : Nat} {G : hG} {S1 : HS} {h : Nat} {S : HS} {l1 : Int32} (E : hE p s m args c b0 G cX8_tick RX8 5 wsX8_tick) (hrt : meth.sig.returnType = none) (hlk : meth.locks = false) (hh : s_X8_tick_b193 h S l1 = some S1) : WH p l e rm_X8_tick s m args below meth c b0 G 5 0 0 (MQ below (hQ b0 G none S1) args s 0 0 (hA b0)) S 193 [(0, hrf b0 ((some h))), (1, .int l1)] [] := by
  have hh : (kI S ((some h)) 8 10 (fun v1 => kwI S ((some h)) 8 10 (v1 + 1) (fun S2 => s_X8_tick_b203 h S2 l1))) = some S1 := hh
  refine rw_aload_n E (j0 := 0) rfl rfl dX8_tick_193 ?_
  refine rw_dup E (hrf_cat _ _) dX8_tick_194 ?_
  refine rw_getI E hh (C := RX8) (T := TX8) (N := 12) rfl (by decide) i_X8_tick_8 (by decide) rfl (List.mem_of_getElem? (i := 17) (by decide +kernel)) rfl dX8_tick_195 (fun v1 hh => ?_)
  refine rw_iconst E (v := 1) (by decide) dX8_tick_198 ?_
  refine rw_iadd E dX8_tick_199 ?_
  refine rw_putI E hh (C := RX8) (T := TX8) (N := 12) (ty0 := tyX8) rfl tyX8_ok nmX8 (by decide) i_X8_tick_8 (by decide) rfl (List.mem_of_getElem? (i := 17) (by decide +kernel)) rfl (Or.inl rfl) rfl dX8_tick_200 (fun S2 hh => ?_)
  refine WH.pick [0, 1] rfl ?_
  exact w_X8_tick_b203 E hrt hlk hh
def s_X8_tick_b190 (h : Nat) (S : HS) (l1 : Int32) (k0 : Int32) (k1 : Int32) : Option (HS) := if k0 = k1 then (s_X8_tick_b203 h S l1) else (s_X8_tick_b193 h S l1)
set_option maxHeartbeats 4000000 in
set_option maxRecDepth 100000 in
theorem w_X8_tick_b190 {p : Program} {l : Launch} {e : Env} {s : State} {m : MethodId} {args : Array Value} {below : List Frame} {meth : Method} {c : Code} {b0 : Nat} {G : hG} {S1 : HS} {h : Nat} {S : HS} {l1 : Int32} {k0 : Int32} {k1 : Int32} (E : hE p s m args c b0 G cX8_tick RX8 5 wsX8_tick) (hrt : meth.sig.returnType = none) (hlk : meth.locks = false) (hh : s_X8_tick_b190 h S l1 k0 k1 = some S1) : WH p l e rm_X8_tick s m args below meth c b0 G 5 0 0 (MQ below (hQ b0 G none S1) args s 0 0 (hA b0)) S 190 [(0, hrf b0 ((some h))), (1, .int l1)] [.int k1, .int k0] := by
  have hh : (if k0 = k1 then (s_X8_tick_b203 h S l1) else (s_X8_tick_b193 h S l1)) = some S1 := hh
  refine rw_icmp_eq E hh (tgt := 203) (by decide) dX8_tick_190 (fun hh => ?_) (fun hh => ?_)
  · refine WH.pick [0, 1] rfl ?_
    exact w_X8_tick_b203 E hrt hlk hh
  · refine WH.pick [0, 1] rfl ?_
    exact w_X8_tick_b193 E hrt hlk hh
def s_X8_tick_b178 (h : Nat) (S : HS) (l1 : Int32) (k0 : Int32) : Option (HS) := kI S ((some h)) 8 4 (fun v1 => if 0 ≤ v1 then (s_X8_tick_b190 h S l1 k0 0) else (s_X8_tick_b190 h S l1 k0 1))
set_option maxHeartbeats 4000000 in
set_option maxRecDepth 100000 in
theorem w_X8_tick_b178 {p : Program} {l : Launch} {e : Env} {s : State} {m : MethodId} {args : Array Value} {below : List Frame} {meth : Method} {c : Code} {b0 : Nat} {G : hG} {S1 : HS} {h : Nat} {S : HS} {l1 : Int32} {k0 : Int32} (E : hE p s m args c b0 G cX8_tick RX8 5 wsX8_tick) (hrt : meth.sig.returnType = none) (hlk : meth.locks = false) (hh : s_X8_tick_b178 h S l1 k0 = some S1) : WH p l e rm_X8_tick s m args below meth c b0 G 5 0 0 (MQ below (hQ b0 G none S1) args s 0 0 (hA b0)) S 178 [(0, hrf b0 ((some h))), (1, .int l1)] [.int k0] := by
  have hh : (kI S ((some h)) 8 4 (fun v1 => if 0 ≤ v1 then (s_X8_tick_b190 h S l1 k0 0) else (s_X8_tick_b190 h S l1 k0 1))) = some S1 := hh
  refine rw_aload_n E (j0 := 0) rfl rfl dX8_tick_178 ?_
  refine rw_getI E hh (C := RX8) (T := TX8) (N := 12) rfl (by decide) i_X8_tick_8 (by decide) rfl (List.mem_of_getElem? (i := 15) (by decide +kernel)) rfl dX8_tick_179 (fun v1 hh => ?_)
  refine rw_if_ge E hh (tgt := 189) (by decide) dX8_tick_182 (fun hh => ?_) (fun hh => ?_)
  · refine rw_iconst E (v := 0) (by decide) dX8_tick_189 ?_
    refine WH.pick [0, 1] rfl ?_
    exact w_X8_tick_b190 E hrt hlk hh
  · refine rw_iconst E (v := 1) (by decide) dX8_tick_185 ?_
    refine rw_goto E (tgt := 190) (by decide) dX8_tick_186 ?_
    refine WH.pick [0, 1] rfl ?_
    exact w_X8_tick_b190 E hrt hlk hh
def s_X8_tick_b152 (h : Nat) (S : HS) (l1 : Int32) : Option (HS) := kI S ((some h)) 8 4 (fun v1 => if v1 = 0 then (s_X8_tick_b203 h S l1) else (kI S ((some h)) 8 3 (fun v2 => if v2 = 0 then (s_X8_tick_b193 h S l1) else (kI S ((some h)) 8 3 (fun v3 => if 0 ≤ v3 then (s_X8_tick_b178 h S l1 0) else (s_X8_tick_b178 h S l1 1))))))
set_option maxHeartbeats 4000000 in
set_option maxRecDepth 100000 in
theorem w_X8_tick_b152 {p : Program} {l : Launch} {e : Env} {s : State} {m : MethodId} {args : Array Value} {below : List Frame} {meth : Method} {c : Code} {b0 : Nat} {G : hG} {S1 : HS} {h : Nat} {S : HS} {l1 : Int32} (E : hE p s m args c b0 G cX8_tick RX8 5 wsX8_tick) (hrt : meth.sig.returnType = none) (hlk : meth.locks = false) (hh : s_X8_tick_b152 h S l1 = some S1) : WH p l e rm_X8_tick s m args below meth c b0 G 5 0 0 (MQ below (hQ b0 G none S1) args s 0 0 (hA b0)) S 152 [(0, hrf b0 ((some h))), (1, .int l1)] [] := by
  have hh : (kI S ((some h)) 8 4 (fun v1 => if v1 = 0 then (s_X8_tick_b203 h S l1) else (kI S ((some h)) 8 3 (fun v2 => if v2 = 0 then (s_X8_tick_b193 h S l1) else (kI S ((some h)) 8 3 (fun v3 => if 0 ≤ v3 then (s_X8_tick_b178 h S l1 0) else (s_X8_tick_b178 h S l1 1))))))) = some S1 := hh
  refine rw_aload_n E (j0 := 0) rfl rfl dX8_tick_152 ?_
  refine rw_getI E hh (C := RX8) (T := TX8) (N := 12) rfl (by decide) i_X8_tick_8 (by decide) rfl (List.mem_of_getElem? (i := 15) (by decide +kernel)) rfl dX8_tick_153 (fun v1 hh => ?_)
  refine rw_if_eq E hh (tgt := 203) (by decide) dX8_tick_156 (fun hh => ?_) (fun hh => ?_)
  · refine WH.pick [0, 1] rfl ?_
    exact w_X8_tick_b203 E hrt hlk hh
  · refine rw_aload_n E (j0 := 0) rfl rfl dX8_tick_159 ?_
    refine rw_getI E hh (C := RX8) (T := TX8) (N := 12) rfl (by decide) i_X8_tick_8 (by decide) rfl (List.mem_of_getElem? (i := 2) (by decide +kernel)) rfl dX8_tick_160 (fun v2 hh => ?_)
    refine rw_if_eq E hh (tgt := 193) (by decide) dX8_tick_163 (fun hh => ?_) (fun hh => ?_)
    · refine WH.pick [0, 1] rfl ?_
      exact w_X8_tick_b193 E hrt hlk hh
    · refine rw_aload_n E (j0 := 0) rfl rfl dX8_tick_166 ?_
      refine rw_getI E hh (C := RX8) (T := TX8) (N := 12) rfl (by decide) i_X8_tick_8 (by decide) rfl (List.mem_of_getElem? (i := 2) (by decide +kernel)) rfl dX8_tick_167 (fun v3 hh => ?_)
      refine rw_if_ge E hh (tgt := 177) (by decide) dX8_tick_170 (fun hh => ?_) (fun hh => ?_)
      · refine rw_iconst E (v := 0) (by decide) dX8_tick_177 ?_
        refine WH.pick [0, 1] rfl ?_
        exact w_X8_tick_b178 E hrt hlk hh
      · refine rw_iconst E (v := 1) (by decide) dX8_tick_173 ?_
        refine rw_goto E (tgt := 178) (by decide) dX8_tick_174 ?_
        refine WH.pick [0, 1] rfl ?_
        exact w_X8_tick_b178 E hrt hlk hh
def s_X8_tick_b92 (h : Nat) (S : HS) (l1 : Int32) (k0 : Option Nat) (k1 : Int32) : Option (HS) := kwI S k0 8 5 k1 (fun S1 => kI S1 ((some h)) 8 7 (fun v2 => kI S1 ((some h)) 8 6 (fun v3 => kwI S1 ((some h)) 8 7 (fmax v2 v3) (fun S4 => kI S4 ((some h)) 8 3 (fun v5 => kwI S4 ((some h)) 8 4 v5 (fun S6 => kI S6 ((some h)) 8 3 (fun v7 => kI S6 ((some h)) 8 5 (fun v8 => kwI S6 ((some h)) 8 3 (v7 + v8) (fun S9 => kI S9 ((some h)) 8 3 (fun v10 => kP S9 ((some h)) 8 1 (fun v11 => kI S9 v11 2 2 (fun v12 => if fabs v10 ≤ v12 then (s_X8_tick_b152 h S9 l1) else (kO S9 ((some h)) 8 (fun a14 => kcv (s_X8_stop S9 a14 ) (fun S13 => s_X8_tick_b152 h S13 l1)))))))))))))))
set_option maxHeartbeats 4000000 in
set_option maxRecDepth 100000 in
theorem w_X8_tick_b92 {p : Program} {l : Launch} {e : Env} {s : State} {m : MethodId} {args : Array Value} {below : List Frame} {meth : Method} {c : Code} {b0 : Nat} {G : hG} {S1 : HS} {h : Nat} {S : HS} {l1 : Int32} {k0 : Option Nat} {k1 : Int32} (E : hE p s m args c b0 G cX8_tick RX8 5 wsX8_tick) (hrt : meth.sig.returnType = none) (hlk : meth.locks = false) (hh : s_X8_tick_b92 h S l1 k0 k1 = some S1) : WH p l e rm_X8_tick s m args below meth c b0 G 5 0 0 (MQ below (hQ b0 G none S1) args s 0 0 (hA b0)) S 92 [(0, hrf b0 ((some h))), (1, .int l1)] [.int k1, hrf b0 k0] := by
  have hh : (kwI S k0 8 5 k1 (fun S1 => kI S1 ((some h)) 8 7 (fun v2 => kI S1 ((some h)) 8 6 (fun v3 => kwI S1 ((some h)) 8 7 (fmax v2 v3) (fun S4 => kI S4 ((some h)) 8 3 (fun v5 => kwI S4 ((some h)) 8 4 v5 (fun S6 => kI S6 ((some h)) 8 3 (fun v7 => kI S6 ((some h)) 8 5 (fun v8 => kwI S6 ((some h)) 8 3 (v7 + v8) (fun S9 => kI S9 ((some h)) 8 3 (fun v10 => kP S9 ((some h)) 8 1 (fun v11 => kI S9 v11 2 2 (fun v12 => if fabs v10 ≤ v12 then (s_X8_tick_b152 h S9 l1) else (kO S9 ((some h)) 8 (fun a14 => kcv (s_X8_stop S9 a14 ) (fun S13 => s_X8_tick_b152 h S13 l1)))))))))))))))) = some S1 := hh
  refine rw_putI E hh (C := RX8) (T := TX8) (N := 12) (ty0 := tyX8) rfl tyX8_ok nmX8 (by decide) i_X8_tick_8 (by decide) rfl (List.mem_of_getElem? (i := 9) (by decide +kernel)) rfl (Or.inl rfl) rfl dX8_tick_92 (fun S1 hh => ?_)
  refine rw_aload_n E (j0 := 0) rfl rfl dX8_tick_95 ?_
  refine rw_aload_n E (j0 := 0) rfl rfl dX8_tick_96 ?_
  refine rw_getI E hh (C := RX8) (T := TX8) (N := 12) rfl (by decide) i_X8_tick_8 (by decide) rfl (List.mem_of_getElem? (i := 14) (by decide +kernel)) rfl dX8_tick_97 (fun v2 hh => ?_)
  refine rw_aload_n E (j0 := 0) rfl rfl dX8_tick_100 ?_
  refine rw_getI E hh (C := RX8) (T := TX8) (N := 12) rfl (by decide) i_X8_tick_8 (by decide) rfl (List.mem_of_getElem? (i := 13) (by decide +kernel)) rfl dX8_tick_101 (fun v3 hh => ?_)
  refine rw_mmax E ⟨by decide, (by (try simp only [List.map_cons, List.map_nil, List.sum_cons, List.sum_nil, hrf_cat, cat_i, cat_l, cat_r]) <;> decide), by decide, by decide⟩ (List.mem_of_getElem? (i := 10) (by decide +kernel)) (List.mem_of_getElem? (i := 11) (by decide +kernel)) (List.mem_of_getElem? (i := 5) (by decide +kernel)) (List.mem_of_getElem? (i := 12) (by decide +kernel)) dX8_tick_104 ?_
  refine rw_putI E hh (C := RX8) (T := TX8) (N := 12) (ty0 := tyX8) rfl tyX8_ok nmX8 (by decide) i_X8_tick_8 (by decide) rfl (List.mem_of_getElem? (i := 14) (by decide +kernel)) rfl (Or.inl rfl) rfl dX8_tick_107 (fun S4 hh => ?_)
  refine rw_aload_n E (j0 := 0) rfl rfl dX8_tick_110 ?_
  refine rw_aload_n E (j0 := 0) rfl rfl dX8_tick_111 ?_
  refine rw_getI E hh (C := RX8) (T := TX8) (N := 12) rfl (by decide) i_X8_tick_8 (by decide) rfl (List.mem_of_getElem? (i := 2) (by decide +kernel)) rfl dX8_tick_112 (fun v5 hh => ?_)
  refine rw_putI E hh (C := RX8) (T := TX8) (N := 12) (ty0 := tyX8) rfl tyX8_ok nmX8 (by decide) i_X8_tick_8 (by decide) rfl (List.mem_of_getElem? (i := 15) (by decide +kernel)) rfl (Or.inl rfl) rfl dX8_tick_115 (fun S6 hh => ?_)
  refine rw_aload_n E (j0 := 0) rfl rfl dX8_tick_118 ?_
  refine rw_dup E (hrf_cat _ _) dX8_tick_119 ?_
  refine rw_getI E hh (C := RX8) (T := TX8) (N := 12) rfl (by decide) i_X8_tick_8 (by decide) rfl (List.mem_of_getElem? (i := 2) (by decide +kernel)) rfl dX8_tick_120 (fun v7 hh => ?_)
  refine rw_aload_n E (j0 := 0) rfl rfl dX8_tick_123 ?_
  refine rw_getI E hh (C := RX8) (T := TX8) (N := 12) rfl (by decide) i_X8_tick_8 (by decide) rfl (List.mem_of_getElem? (i := 9) (by decide +kernel)) rfl dX8_tick_124 (fun v8 hh => ?_)
  refine rw_iadd E dX8_tick_127 ?_
  refine rw_putI E hh (C := RX8) (T := TX8) (N := 12) (ty0 := tyX8) rfl tyX8_ok nmX8 (by decide) i_X8_tick_8 (by decide) rfl (List.mem_of_getElem? (i := 2) (by decide +kernel)) rfl (Or.inl rfl) rfl dX8_tick_128 (fun S9 hh => ?_)
  refine rw_aload_n E (j0 := 0) rfl rfl dX8_tick_131 ?_
  refine rw_getI E hh (C := RX8) (T := TX8) (N := 12) rfl (by decide) i_X8_tick_8 (by decide) rfl (List.mem_of_getElem? (i := 2) (by decide +kernel)) rfl dX8_tick_132 (fun v10 hh => ?_)
  refine rw_mabs E ⟨by decide, (by (try simp only [List.map_cons, List.map_nil, List.sum_cons, List.sum_nil, hrf_cat, cat_i, cat_l, cat_r]) <;> decide), by decide, by decide⟩ (List.mem_of_getElem? (i := 3) (by decide +kernel)) (List.mem_of_getElem? (i := 4) (by decide +kernel)) (List.mem_of_getElem? (i := 5) (by decide +kernel)) (List.mem_of_getElem? (i := 6) (by decide +kernel)) dX8_tick_135 ?_
  refine rw_aload_n E (j0 := 0) rfl rfl dX8_tick_138 ?_
  refine rw_getP E hh (C := RX8) (T := TX8) (N := 12) rfl (by decide) i_X8_tick_8 (by decide) rfl (List.mem_of_getElem? (i := 1) (by decide +kernel)) rfl dX8_tick_139 (fun v11 hh => ?_)
  refine rw_getI E hh (C := RX2) (T := TX2) (N := 4) rfl (by decide) i_X8_tick_2 (by decide) rfl (List.mem_of_getElem? (i := 16) (by decide +kernel)) rfl dX8_tick_142 (fun v12 hh => ?_)
  refine rw_icmp_le E hh (tgt := 152) (by decide) dX8_tick_145 (fun hh => ?_) (fun hh => ?_)
  · refine WH.pick [0, 1] rfl ?_
    exact w_X8_tick_b152 E hrt hlk hh
  · refine rw_aload_n E (j0 := 0) rfl rfl dX8_tick_148 ?_
    refine rw_cVv E (As := []) hh (by decide) rfl (fun _ _ hq => c_X8_stop l b0 G _ _ _ hq) (cwV 0 E.2.2.2.2.1 gX8_tick_X8_stop rfl rfl rfl (by decide +kernel) ⟨Nat.le_of_ble_eq_true rfl, Nat.le_of_ble_eq_true rfl⟩) rfl rfl (by (try simp only [List.map_cons, List.map_nil, List.sum_cons, List.sum_nil, hrf_cat, cat_i, cat_l, cat_r]) <;> decide) ⟨Nat.le_of_ble_eq_true rfl, Nat.le_of_ble_eq_true rfl⟩ dX8_tick_149 (fun S13 hh => ?_)
    refine WH.pick [0, 1] rfl ?_
    exact w_X8_tick_b152 E hrt hlk hh
def s_X8_tick_b50 (h : Nat) (S : HS) (l1 : Int32) (l2 : Int32) (k0 : Int32) : Option (HS) := kP S ((some h)) 8 0 (fun v1 => kO S v1 3 (fun a4 => kc (s_X3_behindAir S a4 (fabs k0)) (fun v3 S2 => kwI S2 ((some h)) 8 6 (fmax 0 (v3 - l2)) (fun S5 => if 0 ≤ k0 then (kI S5 ((some h)) 8 6 (fun v6 => s_X8_tick_b92 h S5 l1 ((some h)) v6)) else (kI S5 ((some h)) 8 6 (fun v7 => s_X8_tick_b92 h S5 l1 ((some h)) (-v7)))))))
set_option maxHeartbeats 4000000 in
set_option maxRecDepth 100000 in
theorem w_X8_tick_b50 {p : Program} {l : Launch} {e : Env} {s : State} {m : MethodId} {args : Array Value} {below : List Frame} {meth : Method} {c : Code} {b0 : Nat} {G : hG} {S1 : HS} {h : Nat} {S : HS} {l1 : Int32} {l2 : Int32} {k0 : Int32} (E : hE p s m args c b0 G cX8_tick RX8 5 wsX8_tick) (hrt : meth.sig.returnType = none) (hlk : meth.locks = false) (hh : s_X8_tick_b50 h S l1 l2 k0 = some S1) : WH p l e rm_X8_tick s m args below meth c b0 G 5 0 0 (MQ below (hQ b0 G none S1) args s 0 0 (hA b0)) S 50 [(0, hrf b0 ((some h))), (1, .int l1), (2, .int l2)] [.int k0] := by
  have hh : (kP S ((some h)) 8 0 (fun v1 => kO S v1 3 (fun a4 => kc (s_X3_behindAir S a4 (fabs k0)) (fun v3 S2 => kwI S2 ((some h)) 8 6 (fmax 0 (v3 - l2)) (fun S5 => if 0 ≤ k0 then (kI S5 ((some h)) 8 6 (fun v6 => s_X8_tick_b92 h S5 l1 ((some h)) v6)) else (kI S5 ((some h)) 8 6 (fun v7 => s_X8_tick_b92 h S5 l1 ((some h)) (-v7)))))))) = some S1 := hh
  refine rw_istore E (lv2 := [(4, .int k0), (0, hrf b0 ((some h))), (1, .int l1), (2, .int l2)]) (by decide) rfl dX8_tick_50 ?_
  refine rw_aload_n E (j0 := 1) rfl rfl dX8_tick_52 ?_
  refine rw_iconst E (v := 0) (by decide) dX8_tick_53 ?_
  refine rw_aload_n E (j0 := 1) rfl rfl dX8_tick_54 ?_
  refine rw_getP E hh (C := RX8) (T := TX8) (N := 12) rfl (by decide) i_X8_tick_8 (by decide) rfl (List.mem_of_getElem? (i := 7) (by decide +kernel)) rfl dX8_tick_55 (fun v1 hh => ?_)
  refine rw_iload E (j0 := 0) rfl dX8_tick_58 ?_
  refine rw_mabs E ⟨by decide, (by (try simp only [List.map_cons, List.map_nil, List.sum_cons, List.sum_nil, hrf_cat, cat_i, cat_l, cat_r]) <;> decide), by decide, by decide⟩ (List.mem_of_getElem? (i := 3) (by decide +kernel)) (List.mem_of_getElem? (i := 4) (by decide +kernel)) (List.mem_of_getElem? (i := 5) (by decide +kernel)) (List.mem_of_getElem? (i := 6) (by decide +kernel)) dX8_tick_60 ?_
  refine rw_cVi E (As := [.int (fabs k0)]) hh (by decide) rfl (fun _ _ _ hq => c_X3_behindAir l b0 G _ _ _ _ _ hq) (cwV 1 E.2.2.2.2.1 gX8_tick_X3_behindAir rfl rfl rfl (by decide +kernel) ⟨Nat.le_of_ble_eq_true rfl, Nat.le_of_ble_eq_true rfl⟩) rfl rfl (by (try simp only [List.map_cons, List.map_nil, List.sum_cons, List.sum_nil, hrf_cat, cat_i, cat_l, cat_r]) <;> decide) ⟨Nat.le_of_ble_eq_true rfl, Nat.le_of_ble_eq_true rfl⟩ dX8_tick_63 (fun v3 S2 hh => ?_)
  refine rw_iload_n E (j0 := 3) rfl rfl dX8_tick_66 ?_
  refine rw_isub E dX8_tick_67 ?_
  refine rw_mmax E ⟨by decide, (by (try simp only [List.map_cons, List.map_nil, List.sum_cons, List.sum_nil, hrf_cat, cat_i, cat_l, cat_r]) <;> decide), by decide, by decide⟩ (List.mem_of_getElem? (i := 10) (by decide +kernel)) (List.mem_of_getElem? (i := 11) (by decide +kernel)) (List.mem_of_getElem? (i := 5) (by decide +kernel)) (List.mem_of_getElem? (i := 12) (by decide +kernel)) dX8_tick_68 ?_
  refine rw_putI E hh (C := RX8) (T := TX8) (N := 12) (ty0 := tyX8) rfl tyX8_ok nmX8 (by decide) i_X8_tick_8 (by decide) rfl (List.mem_of_getElem? (i := 13) (by decide +kernel)) rfl (Or.inl rfl) rfl dX8_tick_71 (fun S5 hh => ?_)
  refine rw_aload_n E (j0 := 1) rfl rfl dX8_tick_74 ?_
  refine rw_iload E (j0 := 0) rfl dX8_tick_75 ?_
  refine rw_if_ge E hh (tgt := 88) (by decide) dX8_tick_77 (fun hh => ?_) (fun hh => ?_)
  · refine rw_aload_n E (j0 := 1) rfl rfl dX8_tick_88 ?_
    refine rw_getI E hh (C := RX8) (T := TX8) (N := 12) rfl (by decide) i_X8_tick_8 (by decide) rfl (List.mem_of_getElem? (i := 13) (by decide +kernel)) rfl dX8_tick_89 (fun v6 hh => ?_)
    refine WH.pick [1, 2] rfl ?_
    exact w_X8_tick_b92 E hrt hlk hh
  · refine rw_aload_n E (j0 := 1) rfl rfl dX8_tick_80 ?_
    refine rw_getI E hh (C := RX8) (T := TX8) (N := 12) rfl (by decide) i_X8_tick_8 (by decide) rfl (List.mem_of_getElem? (i := 13) (by decide +kernel)) rfl dX8_tick_81 (fun v7 hh => ?_)
    refine rw_ineg E dX8_tick_84 ?_
    refine rw_goto E (tgt := 92) (by decide) dX8_tick_85 ?_
    refine WH.pick [1, 2] rfl ?_
    exact w_X8_tick_b92 E hrt hlk hh
def s_X8_tick (S : HS) (h : Nat) (l1 : Int32) (l2 : Int32) : Option (HS) := kP S ((some h)) 8 1 (fun v1 => kI S ((some h)) 8 3 (fun v2 => kO S v1 2 (fun a5 => kc (s_X2_slopeAt S a5 (fabs v2)) (fun v4 S3 => kP S3 ((some h)) 8 0 (fun v6 => kI S3 v6 3 0 (fun v7 => kdiv ((l1 * v4) * 10) v7 (fun v8 => kI S3 ((some h)) 8 3 (fun v9 => if v9 ≤ 0 then (kI S3 ((some h)) 8 5 (fun v10 => s_X8_tick_b50 h S3 l1 l2 (v10 + v8))) else (kI S3 ((some h)) 8 5 (fun v11 => s_X8_tick_b50 h S3 l1 l2 (v11 - v8)))))))))))
set_option maxHeartbeats 4000000 in
set_option maxRecDepth 100000 in
theorem c_X8_tick (l : Launch) (b0 : Nat) (G : hG) (S S1 : HS) (h : Nat) (l1 : Int32) (l2 : Int32) (hh : s_X8_tick S h l1 l2 = some S1) : MH l yX8_tick wsX8_tick rm_X8_tick b0 G S [hrf b0 (some h), .int l1, .int l2] none S1 0 0 := by
  refine MH.ofW (cc := cX8_tick) (maxL := 5) (ret := none) (own := RX8) (lv0 := [(0, hrf b0 ((some h))), (1, .int l1), (2, .int l2)]) (by decide) rfl rfl (Nat.le_of_ble_eq_true rfl) rfl ?_
  intro p e s m args below meth c E hrt hlk hnm
  have hh : (kP S ((some h)) 8 1 (fun v1 => kI S ((some h)) 8 3 (fun v2 => kO S v1 2 (fun a5 => kc (s_X2_slopeAt S a5 (fabs v2)) (fun v4 S3 => kP S3 ((some h)) 8 0 (fun v6 => kI S3 v6 3 0 (fun v7 => kdiv ((l1 * v4) * 10) v7 (fun v8 => kI S3 ((some h)) 8 3 (fun v9 => if v9 ≤ 0 then (kI S3 ((some h)) 8 5 (fun v10 => s_X8_tick_b50 h S3 l1 l2 (v10 + v8))) else (kI S3 ((some h)) 8 5 (fun v11 => s_X8_tick_b50 h S3 l1 l2 (v11 - v8)))))))))))) = some S1 := hh
  refine rw_iload_n E (j0 := 1) rfl rfl dX8_tick_0 ?_
  refine rw_aload_n E (j0 := 0) rfl rfl dX8_tick_1 ?_
  refine rw_getP E hh (C := RX8) (T := TX8) (N := 12) rfl (by decide) i_X8_tick_8 (by decide) rfl (List.mem_of_getElem? (i := 1) (by decide +kernel)) rfl dX8_tick_2 (fun v1 hh => ?_)
  refine rw_aload_n E (j0 := 0) rfl rfl dX8_tick_5 ?_
  refine rw_getI E hh (C := RX8) (T := TX8) (N := 12) rfl (by decide) i_X8_tick_8 (by decide) rfl (List.mem_of_getElem? (i := 2) (by decide +kernel)) rfl dX8_tick_6 (fun v2 hh => ?_)
  refine rw_mabs E ⟨by decide, (by (try simp only [List.map_cons, List.map_nil, List.sum_cons, List.sum_nil, hrf_cat, cat_i, cat_l, cat_r]) <;> decide), by decide, by decide⟩ (List.mem_of_getElem? (i := 3) (by decide +kernel)) (List.mem_of_getElem? (i := 4) (by decide +kernel)) (List.mem_of_getElem? (i := 5) (by decide +kernel)) (List.mem_of_getElem? (i := 6) (by decide +kernel)) dX8_tick_9 ?_
  refine rw_cVi E (As := [.int (fabs v2)]) hh (by decide) rfl (fun _ _ _ hq => c_X2_slopeAt l b0 G _ _ _ _ _ hq) (cwV 1 E.2.2.2.2.1 gX8_tick_X2_slopeAt rfl rfl rfl (by decide +kernel) ⟨Nat.le_of_ble_eq_true rfl, Nat.le_of_ble_eq_true rfl⟩) rfl rfl (by (try simp only [List.map_cons, List.map_nil, List.sum_cons, List.sum_nil, hrf_cat, cat_i, cat_l, cat_r]) <;> decide) ⟨Nat.le_of_ble_eq_true rfl, Nat.le_of_ble_eq_true rfl⟩ dX8_tick_12 (fun v4 S3 hh => ?_)
  refine rw_imul E dX8_tick_15 ?_
  refine rw_bipush E (v := 10) (by decide) dX8_tick_16 ?_
  refine rw_imul E dX8_tick_18 ?_
  refine rw_aload_n E (j0 := 0) rfl rfl dX8_tick_19 ?_
  refine rw_getP E hh (C := RX8) (T := TX8) (N := 12) rfl (by decide) i_X8_tick_8 (by decide) rfl (List.mem_of_getElem? (i := 7) (by decide +kernel)) rfl dX8_tick_20 (fun v6 hh => ?_)
  refine rw_getI E hh (C := RX3) (T := TX3) (N := 3) rfl (by decide) i_X8_tick_3 (by decide) rfl (List.mem_of_getElem? (i := 8) (by decide +kernel)) rfl dX8_tick_23 (fun v7 hh => ?_)
  refine rw_idiv E hh dX8_tick_26 (fun v8 hh => ?_)
  refine rw_istore_n E (lv2 := [(3, .int v8), (0, hrf b0 ((some h))), (1, .int l1), (2, .int l2)]) rfl (by decide) rfl dX8_tick_27 ?_
  refine rw_aload_n E (j0 := 1) rfl rfl dX8_tick_28 ?_
  refine rw_getI E hh (C := RX8) (T := TX8) (N := 12) rfl (by decide) i_X8_tick_8 (by decide) rfl (List.mem_of_getElem? (i := 2) (by decide +kernel)) rfl dX8_tick_29 (fun v9 hh => ?_)
  refine rw_if_le E hh (tgt := 44) (by decide) dX8_tick_32 (fun hh => ?_) (fun hh => ?_)
  · refine rw_aload_n E (j0 := 1) rfl rfl dX8_tick_44 ?_
    refine rw_getI E hh (C := RX8) (T := TX8) (N := 12) rfl (by decide) i_X8_tick_8 (by decide) rfl (List.mem_of_getElem? (i := 9) (by decide +kernel)) rfl dX8_tick_45 (fun v10 hh => ?_)
    refine rw_iload_n E (j0 := 0) rfl rfl dX8_tick_48 ?_
    refine rw_iadd E dX8_tick_49 ?_
    refine WH.pick [1, 2, 3] rfl ?_
    exact w_X8_tick_b50 E hrt hlk hh
  · refine rw_aload_n E (j0 := 1) rfl rfl dX8_tick_35 ?_
    refine rw_getI E hh (C := RX8) (T := TX8) (N := 12) rfl (by decide) i_X8_tick_8 (by decide) rfl (List.mem_of_getElem? (i := 9) (by decide +kernel)) rfl dX8_tick_36 (fun v11 hh => ?_)
    refine rw_iload_n E (j0 := 0) rfl rfl dX8_tick_39 ?_
    refine rw_isub E dX8_tick_40 ?_
    refine rw_goto E (tgt := 50) (by decide) dX8_tick_41 ?_
    refine WH.pick [1, 2, 3] rfl ?_
    exact w_X8_tick_b50 E hrt hlk hh

/-! HummingDiscModel.in(JJJ)Z -/
abbrev rm_X12_in : Room := { frames := 0, cells := 0, slots := 0, locals := 0 }
def s_X12_in (S : HS) (l0 : Int64) (l2 : Int64) (l4 : Int64) : Option (Int32 × HS) := if l0 < l2 then (kzr 0 S) else (if l4 < l0 then (kzr 0 S) else (kzr 1 S))
set_option maxHeartbeats 4000000 in
set_option maxRecDepth 100000 in
theorem c_X12_in (l : Launch) (b0 : Nat) (G : hG) (S S1 : HS) (l0 : Int64) (l2 : Int64) (l4 : Int64) (r : Int32) (hh : s_X12_in S l0 l2 l4 = some (r, S1)) : MH l yX12_in wsX12_in rm_X12_in b0 G S [.long l0, .long l2, .long l4] (some (.int r)) S1 0 0 := by
  refine MH.ofW (cc := cX12_in) (maxL := 6) (ret := (some .boolean)) (own := RX12) (lv0 := [(0, .long l0), (2, .long l2), (4, .long l4)]) (by decide) rfl rfl (Nat.le_of_ble_eq_true rfl) rfl ?_
  intro p e s m args below meth c E hrt hlk hnm
  have hh : (if l0 < l2 then (kzr 0 S) else (if l4 < l0 then (kzr 0 S) else (kzr 1 S))) = some (r, S1) := hh
  refine rw_lload_n E (j0 := 0) rfl rfl dX12_in_0 ?_
  refine rw_lload_n E (j0 := 1) rfl rfl dX12_in_1 ?_
  refine rw_llt E hh (tgt := 17) (by decide) dX12_in_2 dX12_in_3 (fun hh => ?_) (fun hh => ?_)
  · refine rw_iconst E (v := 0) (by decide) dX12_in_17 ?_
    exact rw_zret E hrt hlk hh (by decide) (by decide) dX12_in_18
  · refine rw_lload_n E (j0 := 0) rfl rfl dX12_in_6 ?_
    refine rw_lload E (j0 := 2) rfl dX12_in_7 ?_
    refine rw_lgt E hh (tgt := 17) (by decide) dX12_in_9 dX12_in_10 (fun hh => ?_) (fun hh => ?_)
    · refine rw_iconst E (v := 0) (by decide) dX12_in_17 ?_
      exact rw_zret E hrt hlk hh (by decide) (by decide) dX12_in_18
    · refine rw_iconst E (v := 1) (by decide) dX12_in_13 ?_
      refine rw_goto E (tgt := 18) (by decide) dX12_in_14 ?_
      exact rw_zret E hrt hlk hh (by decide) (by decide) dX12_in_18

/-! HummingDiscModel.size(I)I -/
abbrev rm_X12_size : Room := { frames := 0, cells := 0, slots := 0, locals := 0 }
def s_X12_size (S : HS) (l0 : Int32) : Option (Int32 × HS) := if 0 ≤ l0 then (some (l0, S)) else (some (-l0, S))
set_option maxHeartbeats 4000000 in
set_option maxRecDepth 100000 in
theorem c_X12_size (l : Launch) (b0 : Nat) (G : hG) (S S1 : HS) (l0 : Int32) (r : Int32) (hh : s_X12_size S l0 = some (r, S1)) : MH l yX12_size wsX12_size rm_X12_size b0 G S [.int l0] (some (.int r)) S1 0 0 := by
  refine MH.ofW (cc := cX12_size) (maxL := 1) (ret := (some .int)) (own := RX12) (lv0 := [(0, .int l0)]) (by decide) rfl rfl (Nat.le_of_ble_eq_true rfl) rfl ?_
  intro p e s m args below meth c E hrt hlk hnm
  have hh : (if 0 ≤ l0 then (some (l0, S)) else (some (-l0, S))) = some (r, S1) := hh
  refine rw_iload_n E (j0 := 0) rfl rfl dX12_size_0 ?_
  refine rw_if_ge E hh (tgt := 9) (by decide) dX12_size_1 (fun hh => ?_) (fun hh => ?_)
  · refine rw_iload_n E (j0 := 0) rfl rfl dX12_size_9 ?_
    exact rw_iret E hrt hlk hh (by decide) (by decide) dX12_size_10
  · refine rw_iload_n E (j0 := 0) rfl rfl dX12_size_4 ?_
    refine rw_ineg E dX12_size_5 ?_
    refine rw_goto E (tgt := 10) (by decide) dX12_size_6 ?_
    exact rw_iret E hrt hlk hh (by decide) (by decide) dX12_size_10

/-! HummingDiscModel.discOf(II)I -/
abbrev rm_X12_discOf : Room := { frames := 0, cells := 0, slots := 0, locals := 0 }
theorem i_X12_discOf_12 : ∀ w ∈ wsX120, w ∈ wsX12_discOf := fun _ h => List.mem_cons_of_mem _ (List.mem_append_right _ (h))
def s_X12_discOf (S : HS) (h : Nat) (l1 : Int32) (l2 : Int32) : Option (Int32 × HS) := kP S ((some h)) 12 5 (fun v1 => kA S v1 14 ((3 + (3 * l1)) + l2) (fun v2 => some (v2, S)))
set_option maxHeartbeats 4000000 in
set_option maxRecDepth 100000 in
theorem c_X12_discOf (l : Launch) (b0 : Nat) (G : hG) (S S1 : HS) (h : Nat) (l1 : Int32) (l2 : Int32) (r : Int32) (hh : s_X12_discOf S h l1 l2 = some (r, S1)) : MH l yX12_discOf wsX12_discOf rm_X12_discOf b0 G S [hrf b0 (some h), .int l1, .int l2] (some (.int r)) S1 0 0 := by
  refine MH.ofW (cc := cX12_discOf) (maxL := 3) (ret := (some .int)) (own := RX12) (lv0 := [(0, hrf b0 ((some h))), (1, .int l1), (2, .int l2)]) (by decide) rfl rfl (Nat.le_of_ble_eq_true rfl) rfl ?_
  intro p e s m args below meth c E hrt hlk hnm
  have hh : (kP S ((some h)) 12 5 (fun v1 => kA S v1 14 ((3 + (3 * l1)) + l2) (fun v2 => some (v2, S)))) = some (r, S1) := hh
  refine rw_aload_n E (j0 := 0) rfl rfl dX12_discOf_0 ?_
  refine rw_getP E hh (C := RX12) (T := TX12) (N := 32) rfl (by decide) i_X12_discOf_12 (by decide) rfl (List.mem_of_getElem? (i := 1) (by decide +kernel)) rfl dX12_discOf_1 (fun v1 hh => ?_)
  refine rw_iconst E (v := 3) (by decide) dX12_discOf_4 ?_
  refine rw_iconst E (v := 3) (by decide) dX12_discOf_5 ?_
  refine rw_iload_n E (j0 := 1) rfl rfl dX12_discOf_6 ?_
  refine rw_imul E dX12_discOf_7 ?_
  refine rw_iadd E dX12_discOf_8 ?_
  refine rw_iload_n E (j0 := 2) rfl rfl dX12_discOf_9 ?_
  refine rw_iadd E dX12_discOf_10 ?_
  refine rw_iald E hh dX12_discOf_11 (fun v2 hh => ?_)
  exact rw_iret E hrt hlk hh (by decide) (by decide) dX12_discOf_12

/-! HummingDiscModel.threadOf(II)I -/
abbrev rm_X12_threadOf : Room := { frames := 0, cells := 0, slots := 0, locals := 0 }
theorem i_X12_threadOf_12 : ∀ w ∈ wsX120, w ∈ wsX12_threadOf := fun _ h => List.mem_cons_of_mem _ (List.mem_append_right _ (h))
def s_X12_threadOf (S : HS) (h : Nat) (l1 : Int32) (l2 : Int32) : Option (Int32 × HS) := kP S ((some h)) 12 5 (fun v1 => kA S v1 14 ((15 + (4 * l1)) + l2) (fun v2 => some (v2, S)))
set_option maxHeartbeats 4000000 in
set_option maxRecDepth 100000 in
theorem c_X12_threadOf (l : Launch) (b0 : Nat) (G : hG) (S S1 : HS) (h : Nat) (l1 : Int32) (l2 : Int32) (r : Int32) (hh : s_X12_threadOf S h l1 l2 = some (r, S1)) : MH l yX12_threadOf wsX12_threadOf rm_X12_threadOf b0 G S [hrf b0 (some h), .int l1, .int l2] (some (.int r)) S1 0 0 := by
  refine MH.ofW (cc := cX12_threadOf) (maxL := 3) (ret := (some .int)) (own := RX12) (lv0 := [(0, hrf b0 ((some h))), (1, .int l1), (2, .int l2)]) (by decide) rfl rfl (Nat.le_of_ble_eq_true rfl) rfl ?_
  intro p e s m args below meth c E hrt hlk hnm
  have hh : (kP S ((some h)) 12 5 (fun v1 => kA S v1 14 ((15 + (4 * l1)) + l2) (fun v2 => some (v2, S)))) = some (r, S1) := hh
  refine rw_aload_n E (j0 := 0) rfl rfl dX12_threadOf_0 ?_
  refine rw_getP E hh (C := RX12) (T := TX12) (N := 32) rfl (by decide) i_X12_threadOf_12 (by decide) rfl (List.mem_of_getElem? (i := 1) (by decide +kernel)) rfl dX12_threadOf_1 (fun v1 hh => ?_)
  refine rw_bipush E (v := 15) (by decide) dX12_threadOf_4 ?_
  refine rw_iconst E (v := 4) (by decide) dX12_threadOf_6 ?_
  refine rw_iload_n E (j0 := 1) rfl rfl dX12_threadOf_7 ?_
  refine rw_imul E dX12_threadOf_8 ?_
  refine rw_iadd E dX12_threadOf_9 ?_
  refine rw_iload_n E (j0 := 2) rfl rfl dX12_threadOf_10 ?_
  refine rw_iadd E dX12_threadOf_11 ?_
  refine rw_iald E hh dX12_threadOf_12 (fun v2 hh => ?_)
  exact rw_iret E hrt hlk hh (by decide) (by decide) dX12_threadOf_13

/-! HummingDiscModel.plainShort(II)I -/
abbrev rm_X12_plainShort : Room := { frames := 1, cells := 0, slots := 0, locals := 22 }
def s_X12_plainShort (S : HS) (h : Nat) (l1 : Int32) (l2 : Int32) : Option (Int32 × HS) := kO S ((some h)) 12 (fun a3 => kc (s_X12_threadOf S a3 l1 0) (fun v2 S1 => kdiv ((l2 * l2) * v2) 1000 (fun v4 => some (v4, S1))))
set_option maxHeartbeats 4000000 in
set_option maxRecDepth 100000 in
theorem c_X12_plainShort (l : Launch) (b0 : Nat) (G : hG) (S S1 : HS) (h : Nat) (l1 : Int32) (l2 : Int32) (r : Int32) (hh : s_X12_plainShort S h l1 l2 = some (r, S1)) : MH l yX12_plainShort wsX12_plainShort rm_X12_plainShort b0 G S [hrf b0 (some h), .int l1, .int l2] (some (.int r)) S1 0 0 := by
  refine MH.ofW (cc := cX12_plainShort) (maxL := 3) (ret := (some .int)) (own := RX12) (lv0 := [(0, hrf b0 ((some h))), (1, .int l1), (2, .int l2)]) (by decide) rfl rfl (Nat.le_of_ble_eq_true rfl) rfl ?_
  intro p e s m args below meth c E hrt hlk hnm
  have hh : (kO S ((some h)) 12 (fun a3 => kc (s_X12_threadOf S a3 l1 0) (fun v2 S1 => kdiv ((l2 * l2) * v2) 1000 (fun v4 => some (v4, S1))))) = some (r, S1) := hh
  refine rw_iload_n E (j0 := 2) rfl rfl dX12_plainShort_0 ?_
  refine rw_iload_n E (j0 := 2) rfl rfl dX12_plainShort_1 ?_
  refine rw_imul E dX12_plainShort_2 ?_
  refine rw_aload_n E (j0 := 0) rfl rfl dX12_plainShort_3 ?_
  refine rw_iload_n E (j0 := 1) rfl rfl dX12_plainShort_4 ?_
  refine rw_iconst E (v := 0) (by decide) dX12_plainShort_5 ?_
  refine rw_cVi E (As := [.int l1, .int 0]) hh (by decide) rfl (fun _ _ _ hq => c_X12_threadOf l b0 G _ _ _ _ _ _ hq) (cwV 2 E.2.2.2.2.1 gX12_plainShort_X12_threadOf rfl rfl rfl (by decide +kernel) ⟨Nat.le_of_ble_eq_true rfl, Nat.le_of_ble_eq_true rfl⟩) rfl rfl (by (try simp only [List.map_cons, List.map_nil, List.sum_cons, List.sum_nil, hrf_cat, cat_i, cat_l, cat_r]) <;> decide) ⟨Nat.le_of_ble_eq_true rfl, Nat.le_of_ble_eq_true rfl⟩ dX12_plainShort_6 (fun v2 S1 hh => ?_)
  refine rw_imul E dX12_plainShort_9 ?_
  refine rw_sipush E (v := 1000) (by decide) dX12_plainShort_10 ?_
  refine rw_idiv E hh dX12_plainShort_13 (fun v4 hh => ?_)
  exact rw_iret E hrt hlk hh (by decide) (by decide) dX12_plainShort_14

/-! HummingDiscModel.shortOf(II)I -/
abbrev rm_X12_shortOf : Room := { frames := 2, cells := 0, slots := 0, locals := 44 }
def s_X12_shortOf (S : HS) (h : Nat) (l1 : Int32) (l2 : Int32) : Option (Int32 × HS) := kO S ((some h)) 12 (fun a3 => kc (s_X12_threadOf S a3 l1 1) (fun v2 S1 => if v2 < l2 then (kO S1 ((some h)) 12 (fun a6 => kc (s_X12_plainShort S1 a6 l1 v2) (fun v5 S4 => kO S4 ((some h)) 12 (fun a9 => kc (s_X12_plainShort S4 a9 l1 (v2 - 1)) (fun v8 S7 => kO S7 ((some h)) 12 (fun a12 => kc (s_X12_plainShort S7 a12 l1 v2) (fun v11 S10 => some (v11 + ((l2 - v2) * ((2 * (v5 - v8)) + 1)), S10)))))))) else (kO S1 ((some h)) 12 (fun a15 => kc (s_X12_plainShort S1 a15 l1 l2) (fun v14 S13 => some (v14, S13))))))
set_option maxHeartbeats 4000000 in
set_option maxRecDepth 100000 in
theorem c_X12_shortOf (l : Launch) (b0 : Nat) (G : hG) (S S1 : HS) (h : Nat) (l1 : Int32) (l2 : Int32) (r : Int32) (hh : s_X12_shortOf S h l1 l2 = some (r, S1)) : MH l yX12_shortOf wsX12_shortOf rm_X12_shortOf b0 G S [hrf b0 (some h), .int l1, .int l2] (some (.int r)) S1 0 0 := by
  refine MH.ofW (cc := cX12_shortOf) (maxL := 5) (ret := (some .int)) (own := RX12) (lv0 := [(0, hrf b0 ((some h))), (1, .int l1), (2, .int l2)]) (by decide) rfl rfl (Nat.le_of_ble_eq_true rfl) rfl ?_
  intro p e s m args below meth c E hrt hlk hnm
  have hh : (kO S ((some h)) 12 (fun a3 => kc (s_X12_threadOf S a3 l1 1) (fun v2 S1 => if v2 < l2 then (kO S1 ((some h)) 12 (fun a6 => kc (s_X12_plainShort S1 a6 l1 v2) (fun v5 S4 => kO S4 ((some h)) 12 (fun a9 => kc (s_X12_plainShort S4 a9 l1 (v2 - 1)) (fun v8 S7 => kO S7 ((some h)) 12 (fun a12 => kc (s_X12_plainShort S7 a12 l1 v2) (fun v11 S10 => some (v11 + ((l2 - v2) * ((2 * (v5 - v8)) + 1)), S10)))))))) else (kO S1 ((some h)) 12 (fun a15 => kc (s_X12_plainShort S1 a15 l1 l2) (fun v14 S13 => some (v14, S13))))))) = some (r, S1) := hh
  refine rw_aload_n E (j0 := 0) rfl rfl dX12_shortOf_0 ?_
  refine rw_iload_n E (j0 := 1) rfl rfl dX12_shortOf_1 ?_
  refine rw_iconst E (v := 1) (by decide) dX12_shortOf_2 ?_
  refine rw_cVi E (As := [.int l1, .int 1]) hh (by decide) rfl (fun _ _ _ hq => c_X12_threadOf l b0 G _ _ _ _ _ _ hq) (cwV 2 E.2.2.2.2.1 gX12_shortOf_X12_threadOf rfl rfl rfl (by decide +kernel) ⟨Nat.le_of_ble_eq_true rfl, Nat.le_of_ble_eq_true rfl⟩) rfl rfl (by (try simp only [List.map_cons, List.map_nil, List.sum_cons, List.sum_nil, hrf_cat, cat_i, cat_l, cat_r]) <;> decide) ⟨Nat.le_of_ble_eq_true rfl, Nat.le_of_ble_eq_true rfl⟩ dX12_shortOf_3 (fun v2 S1 hh => ?_)
  refine rw_istore_n E (lv2 := [(3, .int v2), (0, hrf b0 ((some h))), (1, .int l1), (2, .int l2)]) rfl (by decide) rfl dX12_shortOf_6 ?_
  refine rw_iload_n E (j0 := 3) rfl rfl dX12_shortOf_7 ?_
  refine rw_iload_n E (j0 := 0) rfl rfl dX12_shortOf_8 ?_
  refine rw_icmp_gt E hh (tgt := 19) (by decide) dX12_shortOf_9 (fun hh => ?_) (fun hh => ?_)
  · refine rw_aload_n E (j0 := 1) rfl rfl dX12_shortOf_19 ?_
    refine rw_iload_n E (j0 := 2) rfl rfl dX12_shortOf_20 ?_
    refine rw_iload_n E (j0 := 0) rfl rfl dX12_shortOf_21 ?_
    refine rw_cVi E (As := [.int l1, .int v2]) hh (by decide) rfl (fun _ _ _ hq => c_X12_plainShort l b0 G _ _ _ _ _ _ hq) (cwV 2 E.2.2.2.2.1 gX12_shortOf_X12_plainShort rfl rfl rfl (by decide +kernel) ⟨Nat.le_of_ble_eq_true rfl, Nat.le_of_ble_eq_true rfl⟩) rfl rfl (by (try simp only [List.map_cons, List.map_nil, List.sum_cons, List.sum_nil, hrf_cat, cat_i, cat_l, cat_r]) <;> decide) ⟨Nat.le_of_ble_eq_true rfl, Nat.le_of_ble_eq_true rfl⟩ dX12_shortOf_22 (fun v5 S4 hh => ?_)
    refine rw_aload_n E (j0 := 1) rfl rfl dX12_shortOf_25 ?_
    refine rw_iload_n E (j0 := 2) rfl rfl dX12_shortOf_26 ?_
    refine rw_iload_n E (j0 := 0) rfl rfl dX12_shortOf_27 ?_
    refine rw_iconst E (v := 1) (by decide) dX12_shortOf_28 ?_
    refine rw_isub E dX12_shortOf_29 ?_
    refine rw_cVi E (As := [.int l1, .int (v2 - 1)]) hh (by decide) rfl (fun _ _ _ hq => c_X12_plainShort l b0 G _ _ _ _ _ _ hq) (cwV 2 E.2.2.2.2.1 gX12_shortOf_X12_plainShort rfl rfl rfl (by decide +kernel) ⟨Nat.le_of_ble_eq_true rfl, Nat.le_of_ble_eq_true rfl⟩) rfl rfl (by (try simp only [List.map_cons, List.map_nil, List.sum_cons, List.sum_nil, hrf_cat, cat_i, cat_l, cat_r]) <;> decide) ⟨Nat.le_of_ble_eq_true rfl, Nat.le_of_ble_eq_true rfl⟩ dX12_shortOf_30 (fun v8 S7 hh => ?_)
    refine rw_isub E dX12_shortOf_33 ?_
    refine rw_istore E (lv2 := [(4, .int (v5 - v8)), (3, .int v2), (0, hrf b0 ((some h))), (1, .int l1), (2, .int l2)]) (by decide) rfl dX12_shortOf_34 ?_
    refine rw_aload_n E (j0 := 2) rfl rfl dX12_shortOf_36 ?_
    refine rw_iload_n E (j0 := 3) rfl rfl dX12_shortOf_37 ?_
    refine rw_iload_n E (j0 := 1) rfl rfl dX12_shortOf_38 ?_
    refine rw_cVi E (As := [.int l1, .int v2]) hh (by decide) rfl (fun _ _ _ hq => c_X12_plainShort l b0 G _ _ _ _ _ _ hq) (cwV 2 E.2.2.2.2.1 gX12_shortOf_X12_plainShort rfl rfl rfl (by decide +kernel) ⟨Nat.le_of_ble_eq_true rfl, Nat.le_of_ble_eq_true rfl⟩) rfl rfl (by (try simp only [List.map_cons, List.map_nil, List.sum_cons, List.sum_nil, hrf_cat, cat_i, cat_l, cat_r]) <;> decide) ⟨Nat.le_of_ble_eq_true rfl, Nat.le_of_ble_eq_true rfl⟩ dX12_shortOf_39 (fun v11 S10 hh => ?_)
    refine rw_iload_n E (j0 := 4) rfl rfl dX12_shortOf_42 ?_
    refine rw_iload_n E (j0 := 1) rfl rfl dX12_shortOf_43 ?_
    refine rw_isub E dX12_shortOf_44 ?_
    refine rw_iconst E (v := 2) (by decide) dX12_shortOf_45 ?_
    refine rw_iload E (j0 := 0) rfl dX12_shortOf_46 ?_
    refine rw_imul E dX12_shortOf_48 ?_
    refine rw_iconst E (v := 1) (by decide) dX12_shortOf_49 ?_
    refine rw_iadd E dX12_shortOf_50 ?_
    refine rw_imul E dX12_shortOf_51 ?_
    refine rw_iadd E dX12_shortOf_52 ?_
    exact rw_iret E hrt hlk hh (by decide) (by decide) dX12_shortOf_53
  · refine rw_aload_n E (j0 := 1) rfl rfl dX12_shortOf_12 ?_
    refine rw_iload_n E (j0 := 2) rfl rfl dX12_shortOf_13 ?_
    refine rw_iload_n E (j0 := 3) rfl rfl dX12_shortOf_14 ?_
    refine rw_cVi E (As := [.int l1, .int l2]) hh (by decide) rfl (fun _ _ _ hq => c_X12_plainShort l b0 G _ _ _ _ _ _ hq) (cwV 2 E.2.2.2.2.1 gX12_shortOf_X12_plainShort rfl rfl rfl (by decide +kernel) ⟨Nat.le_of_ble_eq_true rfl, Nat.le_of_ble_eq_true rfl⟩) rfl rfl (by (try simp only [List.map_cons, List.map_nil, List.sum_cons, List.sum_nil, hrf_cat, cat_i, cat_l, cat_r]) <;> decide) ⟨Nat.le_of_ble_eq_true rfl, Nat.le_of_ble_eq_true rfl⟩ dX12_shortOf_15 (fun v14 S13 hh => ?_)
    exact rw_iret E hrt hlk hh (by decide) (by decide) dX12_shortOf_18

/-! HummingDiscModel.slopeOf(II)I -/
abbrev rm_X12_slopeOf : Room := { frames := 3, cells := 0, slots := 0, locals := 68 }
def s_X12_slopeOf (S : HS) (h : Nat) (l1 : Int32) (l2 : Int32) : Option (Int32 × HS) := if l2 = 0 then (some (0, S)) else (kO S ((some h)) 12 (fun a3 => kc (s_X12_shortOf S a3 l1 l2) (fun v2 S1 => kO S1 ((some h)) 12 (fun a6 => kc (s_X12_shortOf S1 a6 l1 (l2 - 1)) (fun v5 S4 => some (v2 - v5, S4))))))
set_option maxHeartbeats 4000000 in
set_option maxRecDepth 100000 in
theorem c_X12_slopeOf (l : Launch) (b0 : Nat) (G : hG) (S S1 : HS) (h : Nat) (l1 : Int32) (l2 : Int32) (r : Int32) (hh : s_X12_slopeOf S h l1 l2 = some (r, S1)) : MH l yX12_slopeOf wsX12_slopeOf rm_X12_slopeOf b0 G S [hrf b0 (some h), .int l1, .int l2] (some (.int r)) S1 0 0 := by
  refine MH.ofW (cc := cX12_slopeOf) (maxL := 3) (ret := (some .int)) (own := RX12) (lv0 := [(0, hrf b0 ((some h))), (1, .int l1), (2, .int l2)]) (by decide) rfl rfl (Nat.le_of_ble_eq_true rfl) rfl ?_
  intro p e s m args below meth c E hrt hlk hnm
  have hh : (if l2 = 0 then (some (0, S)) else (kO S ((some h)) 12 (fun a3 => kc (s_X12_shortOf S a3 l1 l2) (fun v2 S1 => kO S1 ((some h)) 12 (fun a6 => kc (s_X12_shortOf S1 a6 l1 (l2 - 1)) (fun v5 S4 => some (v2 - v5, S4))))))) = some (r, S1) := hh
  refine rw_iload_n E (j0 := 2) rfl rfl dX12_slopeOf_0 ?_
  refine rw_if_ne E hh (tgt := 8) (by decide) dX12_slopeOf_1 (fun hh => ?_) (fun hh => ?_)
  · refine rw_aload_n E (j0 := 0) rfl rfl dX12_slopeOf_8 ?_
    refine rw_iload_n E (j0 := 1) rfl rfl dX12_slopeOf_9 ?_
    refine rw_iload_n E (j0 := 2) rfl rfl dX12_slopeOf_10 ?_
    refine rw_cVi E (As := [.int l1, .int l2]) hh (by decide) rfl (fun _ _ _ hq => c_X12_shortOf l b0 G _ _ _ _ _ _ hq) (cwV 2 E.2.2.2.2.1 gX12_slopeOf_X12_shortOf rfl rfl rfl (by decide +kernel) ⟨Nat.le_of_ble_eq_true rfl, Nat.le_of_ble_eq_true rfl⟩) rfl rfl (by (try simp only [List.map_cons, List.map_nil, List.sum_cons, List.sum_nil, hrf_cat, cat_i, cat_l, cat_r]) <;> decide) ⟨Nat.le_of_ble_eq_true rfl, Nat.le_of_ble_eq_true rfl⟩ dX12_slopeOf_11 (fun v2 S1 hh => ?_)
    refine rw_aload_n E (j0 := 0) rfl rfl dX12_slopeOf_14 ?_
    refine rw_iload_n E (j0 := 1) rfl rfl dX12_slopeOf_15 ?_
    refine rw_iload_n E (j0 := 2) rfl rfl dX12_slopeOf_16 ?_
    refine rw_iconst E (v := 1) (by decide) dX12_slopeOf_17 ?_
    refine rw_isub E dX12_slopeOf_18 ?_
    refine rw_cVi E (As := [.int l1, .int (l2 - 1)]) hh (by decide) rfl (fun _ _ _ hq => c_X12_shortOf l b0 G _ _ _ _ _ _ hq) (cwV 2 E.2.2.2.2.1 gX12_slopeOf_X12_shortOf rfl rfl rfl (by decide +kernel) ⟨Nat.le_of_ble_eq_true rfl, Nat.le_of_ble_eq_true rfl⟩) rfl rfl (by (try simp only [List.map_cons, List.map_nil, List.sum_cons, List.sum_nil, hrf_cat, cat_i, cat_l, cat_r]) <;> decide) ⟨Nat.le_of_ble_eq_true rfl, Nat.le_of_ble_eq_true rfl⟩ dX12_slopeOf_19 (fun v5 S4 hh => ?_)
    refine rw_isub E dX12_slopeOf_22 ?_
    exact rw_iret E hrt hlk hh (by decide) (by decide) dX12_slopeOf_23
  · refine rw_iconst E (v := 0) (by decide) dX12_slopeOf_4 ?_
    refine rw_goto E (tgt := 23) (by decide) dX12_slopeOf_5 ?_
    exact rw_iret E hrt hlk hh (by decide) (by decide) dX12_slopeOf_23

/-! HummingDiscModel.tick(IIII)V -/
abbrev rm_X12_tick : Room := { frames := 4, cells := 0, slots := 0, locals := 90 }
theorem i_X12_tick_12 : ∀ w ∈ wsX120, w ∈ wsX12_tick := fun _ h => List.mem_cons_of_mem _ (List.mem_append_right _ (h))
def s_X12_tick_b262 (h : Nat) (S : HS) (k0 : Option Nat) (k1 : Int32) : Option (HS) := kwZ S k0 12 23 k1 (fun S1 => some S1)
set_option maxHeartbeats 4000000 in
set_option maxRecDepth 100000 in
theorem w_X12_tick_b262 {p : Program} {l : Launch} {e : Env} {s : State} {m : MethodId} {args : Array Value} {below : List Frame} {meth : Method} {c : Code} {b0 : Nat} {G : hG} {S1 : HS} {h : Nat} {S : HS} {k0 : Option Nat} {k1 : Int32} (E : hE p s m args c b0 G cX12_tick RX12 11 wsX12_tick) (hrt : meth.sig.returnType = none) (hlk : meth.locks = false) (hh : s_X12_tick_b262 h S k0 k1 = some S1) : WH p l e rm_X12_tick s m args below meth c b0 G 11 0 0 (MQ below (hQ b0 G none S1) args s 0 0 (hA b0)) S 262 [] [.int k1, hrf b0 k0] := by
  have hh : (kwZ S k0 12 23 k1 (fun S1 => some S1)) = some S1 := hh
  refine rw_putZ E hh (C := RX12) (T := TX12) (N := 32) (ty0 := tyX12) rfl tyX12_ok nmX12 (by decide) i_X12_tick_12 (by decide) rfl (List.mem_of_getElem? (i := 7) (by decide +kernel)) rfl (Or.inl rfl) rfl dX12_tick_262 (fun S1 hh => ?_)
  exact rw_vret E hrt hlk hh (by decide) (by decide) dX12_tick_265
def s_X12_tick_b257 (h : Nat) (S : HS) (k0 : Option Nat) : Option (HS) := s_X12_tick_b262 h S k0 1
set_option maxHeartbeats 4000000 in
set_option maxRecDepth 100000 in
theorem w_X12_tick_b257 {p : Program} {l : Launch} {e : Env} {s : State} {m : MethodId} {args : Array Value} {below : List Frame} {meth : Method} {c : Code} {b0 : Nat} {G : hG} {S1 : HS} {h : Nat} {S : HS} {k0 : Option Nat} (E : hE p s m args c b0 G cX12_tick RX12 11 wsX12_tick) (hrt : meth.sig.returnType = none) (hlk : meth.locks = false) (hh : s_X12_tick_b257 h S k0 = some S1) : WH p l e rm_X12_tick s m args below meth c b0 G 11 0 0 (MQ below (hQ b0 G none S1) args s 0 0 (hA b0)) S 257 [] [hrf b0 k0] := by
  have hh : (s_X12_tick_b262 h S k0 1) = some S1 := hh
  refine rw_iconst E (v := 1) (by decide) dX12_tick_257 ?_
  refine rw_goto E (tgt := 262) (by decide) dX12_tick_258 ?_
  refine WH.pick [] rfl ?_
  exact w_X12_tick_b262 E hrt hlk hh
def s_X12_tick_b261 (h : Nat) (S : HS) (k0 : Option Nat) : Option (HS) := s_X12_tick_b262 h S k0 0
set_option maxHeartbeats 4000000 in
set_option maxRecDepth 100000 in
theorem w_X12_tick_b261 {p : Program} {l : Launch} {e : Env} {s : State} {m : MethodId} {args : Array Value} {below : List Frame} {meth : Method} {c : Code} {b0 : Nat} {G : hG} {S1 : HS} {h : Nat} {S : HS} {k0 : Option Nat} (E : hE p s m args c b0 G cX12_tick RX12 11 wsX12_tick) (hrt : meth.sig.returnType = none) (hlk : meth.locks = false) (hh : s_X12_tick_b261 h S k0 = some S1) : WH p l e rm_X12_tick s m args below meth c b0 G 11 0 0 (MQ below (hQ b0 G none S1) args s 0 0 (hA b0)) S 261 [] [hrf b0 k0] := by
  have hh : (s_X12_tick_b262 h S k0 0) = some S1 := hh
  refine rw_iconst E (v := 0) (by decide) dX12_tick_261 ?_
  refine WH.pick [] rfl ?_
  exact w_X12_tick_b262 E hrt hlk hh
def s_X12_tick_b245 (h : Nat) (S : HS) (l5 : Int32) (k0 : Option Nat) : Option (HS) := if 0 ≤ l5 then (s_X12_tick_b261 h S k0) else (kI S ((some h)) 12 19 (fun v1 => if v1 < 0 then (s_X12_tick_b261 h S k0) else (s_X12_tick_b257 h S k0)))
set_option maxHeartbeats 4000000 in
set_option maxRecDepth 100000 in
theorem w_X12_tick_b245 {p : Program} {l : Launch} {e : Env} {s : State} {m : MethodId} {args : Array Value} {below : List Frame} {meth : Method} {c : Code} {b0 : Nat} {G : hG} {S1 : HS} {h : Nat} {S : HS} {l5 : Int32} {k0 : Option Nat} (E : hE p s m args c b0 G cX12_tick RX12 11 wsX12_tick) (hrt : meth.sig.returnType = none) (hlk : meth.locks = false) (hh : s_X12_tick_b245 h S l5 k0 = some S1) : WH p l e rm_X12_tick s m args below meth c b0 G 11 0 0 (MQ below (hQ b0 G none S1) args s 0 0 (hA b0)) S 245 [(0, hrf b0 ((some h))), (5, .int l5)] [hrf b0 k0] := by
  have hh : (if 0 ≤ l5 then (s_X12_tick_b261 h S k0) else (kI S ((some h)) 12 19 (fun v1 => if v1 < 0 then (s_X12_tick_b261 h S k0) else (s_X12_tick_b257 h S k0)))) = some S1 := hh
  refine rw_iload E (j0 := 1) rfl dX12_tick_245 ?_
  refine rw_if_ge E hh (tgt := 261) (by decide) dX12_tick_247 (fun hh => ?_) (fun hh => ?_)
  · refine WH.pick [] rfl ?_
    exact w_X12_tick_b261 E hrt hlk hh
  · refine rw_aload_n E (j0 := 0) rfl rfl dX12_tick_250 ?_
    refine rw_getI E hh (C := RX12) (T := TX12) (N := 32) rfl (by decide) i_X12_tick_12 (by decide) rfl (List.mem_of_getElem? (i := 1) (by decide +kernel)) rfl dX12_tick_251 (fun v1 hh => ?_)
    refine rw_if_lt E hh (tgt := 261) (by decide) dX12_tick_254 (fun hh => ?_) (fun hh => ?_)
    · refine WH.pick [] rfl ?_
      exact w_X12_tick_b261 E hrt hlk hh
    · refine WH.pick [] rfl ?_
      exact w_X12_tick_b257 E hrt hlk hh
def s_X12_tick_b232 (h : Nat) (S : HS) (l5 : Int32) : Option (HS) := if l5 ≤ 0 then (s_X12_tick_b245 h S l5 ((some h))) else (kI S ((some h)) 12 19 (fun v1 => if v1 ≤ 0 then (s_X12_tick_b257 h S ((some h))) else (s_X12_tick_b245 h S l5 ((some h)))))
set_option maxHeartbeats 4000000 in
set_option maxRecDepth 100000 in
theorem w_X12_tick_b232 {p : Program} {l : Launch} {e : Env} {s : State} {m : MethodId} {args : Array Value} {below : List Frame} {meth : Method} {c : Code} {b0 : Nat} {G : hG} {S1 : HS} {h : Nat} {S : HS} {l5 : Int32} (E : hE p s m args c b0 G cX12_tick RX12 11 wsX12_tick) (hrt : meth.sig.returnType = none) (hlk : meth.locks = false) (hh : s_X12_tick_b232 h S l5 = some S1) : WH p l e rm_X12_tick s m args below meth c b0 G 11 0 0 (MQ below (hQ b0 G none S1) args s 0 0 (hA b0)) S 232 [(0, hrf b0 ((some h))), (5, .int l5)] [] := by
  have hh : (if l5 ≤ 0 then (s_X12_tick_b245 h S l5 ((some h))) else (kI S ((some h)) 12 19 (fun v1 => if v1 ≤ 0 then (s_X12_tick_b257 h S ((some h))) else (s_X12_tick_b245 h S l5 ((some h)))))) = some S1 := hh
  refine rw_aload_n E (j0 := 0) rfl rfl dX12_tick_232 ?_
  refine rw_iload E (j0 := 1) rfl dX12_tick_233 ?_
  refine rw_if_le E hh (tgt := 245) (by decide) dX12_tick_235 (fun hh => ?_) (fun hh => ?_)
  · refine WH.pick [0, 1] rfl ?_
    exact w_X12_tick_b245 E hrt hlk hh
  · refine rw_aload_n E (j0 := 0) rfl rfl dX12_tick_238 ?_
    refine rw_getI E hh (C := RX12) (T := TX12) (N := 32) rfl (by decide) i_X12_tick_12 (by decide) rfl (List.mem_of_getElem? (i := 1) (by decide +kernel)) rfl dX12_tick_239 (fun v1 hh => ?_)
    refine rw_if_le E hh (tgt := 257) (by decide) dX12_tick_242 (fun hh => ?_) (fun hh => ?_)
    · refine WH.pick [] rfl ?_
      exact w_X12_tick_b257 E hrt hlk hh
    · refine WH.pick [0, 1] rfl ?_
      exact w_X12_tick_b245 E hrt hlk hh
def s_X12_tick_b224 (h : Nat) (S : HS) (l5 : Int32) (k0 : Option Nat) (k1 : Int32) : Option (HS) := kwZ S k0 12 21 k1 (fun S1 => kwI S1 ((some h)) 12 20 0 (fun S2 => s_X12_tick_b232 h S2 l5))
set_option maxHeartbeats 4000000 in
set_option maxRecDepth 100000 in
theorem w_X12_tick_b224 {p : Program} {l : Launch} {e : Env} {s : State} {m : MethodId} {args : Array Value} {below : List Frame} {meth : Method} {c : Code} {b0 : Nat} {G : hG} {S1 : HS} {h : Nat} {S : HS} {l5 : Int32} {k0 : Option Nat} {k1 : Int32} (E : hE p s m args c b0 G cX12_tick RX12 11 wsX12_tick) (hrt : meth.sig.returnType = none) (hlk : meth.locks = false) (hh : s_X12_tick_b224 h S l5 k0 k1 = some S1) : WH p l e rm_X12_tick s m args below meth c b0 G 11 0 0 (MQ below (hQ b0 G none S1) args s 0 0 (hA b0)) S 224 [(0, hrf b0 ((some h))), (5, .int l5)] [.int k1, hrf b0 k0] := by
  have hh : (kwZ S k0 12 21 k1 (fun S1 => kwI S1 ((some h)) 12 20 0 (fun S2 => s_X12_tick_b232 h S2 l5))) = some S1 := hh
  refine rw_putZ E hh (C := RX12) (T := TX12) (N := 32) (ty0 := tyX12) rfl tyX12_ok nmX12 (by decide) i_X12_tick_12 (by decide) rfl (List.mem_of_getElem? (i := 6) (by decide +kernel)) rfl (Or.inl rfl) rfl dX12_tick_224 (fun S1 hh => ?_)
  refine rw_aload_n E (j0 := 0) rfl rfl dX12_tick_227 ?_
  refine rw_iconst E (v := 0) (by decide) dX12_tick_228 ?_
  refine rw_putI E hh (C := RX12) (T := TX12) (N := 32) (ty0 := tyX12) rfl tyX12_ok nmX12 (by decide) i_X12_tick_12 (by decide) rfl (List.mem_of_getElem? (i := 2) (by decide +kernel)) rfl (Or.inl rfl) rfl dX12_tick_229 (fun S2 hh => ?_)
  refine WH.pick [0, 1] rfl ?_
  exact w_X12_tick_b232 E hrt hlk hh
def s_X12_tick_b202 (h : Nat) (S : HS) (l2 : Int32) (l5 : Int32) (l8 : Int64) (k0 : Option Nat) (k1 : Int32) : Option (HS) := kwI S k0 12 19 k1 (fun S1 => kO S1 ((some h)) 12 (fun a4 => kc (s_X12_threadOf S1 a4 l2 3) (fun v3 S2 => if l8 ≤ v3.toInt64 then (s_X12_tick_b224 h S2 l5 ((some h)) 0) else (s_X12_tick_b224 h S2 l5 ((some h)) 1))))
set_option maxHeartbeats 4000000 in
set_option maxRecDepth 100000 in
theorem w_X12_tick_b202 {p : Program} {l : Launch} {e : Env} {s : State} {m : MethodId} {args : Array Value} {below : List Frame} {meth : Method} {c : Code} {b0 : Nat} {G : hG} {S1 : HS} {h : Nat} {S : HS} {l2 : Int32} {l5 : Int32} {l8 : Int64} {k0 : Option Nat} {k1 : Int32} (E : hE p s m args c b0 G cX12_tick RX12 11 wsX12_tick) (hrt : meth.sig.returnType = none) (hlk : meth.locks = false) (hh : s_X12_tick_b202 h S l2 l5 l8 k0 k1 = some S1) : WH p l e rm_X12_tick s m args below meth c b0 G 11 0 0 (MQ below (hQ b0 G none S1) args s 0 0 (hA b0)) S 202 [(0, hrf b0 ((some h))), (2, .int l2), (5, .int l5), (8, .long l8)] [.int k1, hrf b0 k0] := by
  have hh : (kwI S k0 12 19 k1 (fun S1 => kO S1 ((some h)) 12 (fun a4 => kc (s_X12_threadOf S1 a4 l2 3) (fun v3 S2 => if l8 ≤ v3.toInt64 then (s_X12_tick_b224 h S2 l5 ((some h)) 0) else (s_X12_tick_b224 h S2 l5 ((some h)) 1))))) = some S1 := hh
  refine rw_putI E hh (C := RX12) (T := TX12) (N := 32) (ty0 := tyX12) rfl tyX12_ok nmX12 (by decide) i_X12_tick_12 (by decide) rfl (List.mem_of_getElem? (i := 1) (by decide +kernel)) rfl (Or.inl rfl) rfl dX12_tick_202 (fun S1 hh => ?_)
  refine rw_aload_n E (j0 := 0) rfl rfl dX12_tick_205 ?_
  refine rw_lload E (j0 := 3) rfl dX12_tick_206 ?_
  refine rw_aload_n E (j0 := 0) rfl rfl dX12_tick_208 ?_
  refine rw_iload_n E (j0 := 1) rfl rfl dX12_tick_209 ?_
  refine rw_iconst E (v := 3) (by decide) dX12_tick_210 ?_
  refine rw_cVi E (As := [.int l2, .int 3]) hh (by decide) rfl (fun _ _ _ hq => c_X12_threadOf l b0 G _ _ _ _ _ _ hq) (cwV 2 E.2.2.2.2.1 gX12_tick_X12_threadOf rfl rfl rfl (by decide +kernel) ⟨Nat.le_of_ble_eq_true rfl, Nat.le_of_ble_eq_true rfl⟩) rfl rfl (by (try simp only [List.map_cons, List.map_nil, List.sum_cons, List.sum_nil, hrf_cat, cat_i, cat_l, cat_r]) <;> decide) ⟨Nat.le_of_ble_eq_true rfl, Nat.le_of_ble_eq_true rfl⟩ dX12_tick_211 (fun v3 S2 hh => ?_)
  refine rw_i2l E dX12_tick_214 ?_
  refine rw_lle E hh (tgt := 223) (by decide) dX12_tick_215 dX12_tick_216 (fun hh => ?_) (fun hh => ?_)
  · refine rw_iconst E (v := 0) (by decide) dX12_tick_223 ?_
    refine WH.pick [0, 2] rfl ?_
    exact w_X12_tick_b224 E hrt hlk hh
  · refine rw_iconst E (v := 1) (by decide) dX12_tick_219 ?_
    refine rw_goto E (tgt := 224) (by decide) dX12_tick_220 ?_
    refine WH.pick [0, 2] rfl ?_
    exact w_X12_tick_b224 E hrt hlk hh
def s_X12_tick_b143 (h : Nat) (S : HS) (l2 : Int32) (l5 : Int32) (l8 : Int64) (k0 : Option Nat) (k1 : Int32) : Option (HS) := kwI S k0 12 20 k1 (fun S1 => kwI S1 ((some h)) 12 22 l8.toInt32 (fun S2 => kI S2 ((some h)) 12 19 (fun v3 => kI S2 ((some h)) 12 20 (fun v4 => kwI S2 ((some h)) 12 19 (v3 + v4) (fun S5 => kO S5 ((some h)) 12 (fun a8 => kc (s_X12_threadOf S5 a8 l2 2) (fun v7 S6 => kI S6 ((some h)) 12 19 (fun v9 => kc (s_X12_size S6 v9) (fun v11 S10 => if v11 ≤ v7 then (s_X12_tick_b232 h S10 l5) else (kI S10 ((some h)) 12 19 (fun v12 => if 0 ≤ v12 then (s_X12_tick_b202 h S10 l2 l5 l8 ((some h)) v7) else (s_X12_tick_b202 h S10 l2 l5 l8 ((some h)) (-v7)))))))))))))
set_option maxHeartbeats 4000000 in
set_option maxRecDepth 100000 in
theorem w_X12_tick_b143 {p : Program} {l : Launch} {e : Env} {s : State} {m : MethodId} {args : Array Value} {below : List Frame} {meth : Method} {c : Code} {b0 : Nat} {G : hG} {S1 : HS} {h : Nat} {S : HS} {l2 : Int32} {l5 : Int32} {l8 : Int64} {k0 : Option Nat} {k1 : Int32} (E : hE p s m args c b0 G cX12_tick RX12 11 wsX12_tick) (hrt : meth.sig.returnType = none) (hlk : meth.locks = false) (hh : s_X12_tick_b143 h S l2 l5 l8 k0 k1 = some S1) : WH p l e rm_X12_tick s m args below meth c b0 G 11 0 0 (MQ below (hQ b0 G none S1) args s 0 0 (hA b0)) S 143 [(0, hrf b0 ((some h))), (2, .int l2), (5, .int l5), (8, .long l8)] [.int k1, hrf b0 k0] := by
  have hh : (kwI S k0 12 20 k1 (fun S1 => kwI S1 ((some h)) 12 22 l8.toInt32 (fun S2 => kI S2 ((some h)) 12 19 (fun v3 => kI S2 ((some h)) 12 20 (fun v4 => kwI S2 ((some h)) 12 19 (v3 + v4) (fun S5 => kO S5 ((some h)) 12 (fun a8 => kc (s_X12_threadOf S5 a8 l2 2) (fun v7 S6 => kI S6 ((some h)) 12 19 (fun v9 => kc (s_X12_size S6 v9) (fun v11 S10 => if v11 ≤ v7 then (s_X12_tick_b232 h S10 l5) else (kI S10 ((some h)) 12 19 (fun v12 => if 0 ≤ v12 then (s_X12_tick_b202 h S10 l2 l5 l8 ((some h)) v7) else (s_X12_tick_b202 h S10 l2 l5 l8 ((some h)) (-v7)))))))))))))) = some S1 := hh
  refine rw_putI E hh (C := RX12) (T := TX12) (N := 32) (ty0 := tyX12) rfl tyX12_ok nmX12 (by decide) i_X12_tick_12 (by decide) rfl (List.mem_of_getElem? (i := 2) (by decide +kernel)) rfl (Or.inl rfl) rfl dX12_tick_143 (fun S1 hh => ?_)
  refine rw_aload_n E (j0 := 0) rfl rfl dX12_tick_146 ?_
  refine rw_lload E (j0 := 3) rfl dX12_tick_147 ?_
  refine rw_l2i E dX12_tick_149 ?_
  refine rw_putI E hh (C := RX12) (T := TX12) (N := 32) (ty0 := tyX12) rfl tyX12_ok nmX12 (by decide) i_X12_tick_12 (by decide) rfl (List.mem_of_getElem? (i := 5) (by decide +kernel)) rfl (Or.inl rfl) rfl dX12_tick_150 (fun S2 hh => ?_)
  refine rw_aload_n E (j0 := 0) rfl rfl dX12_tick_153 ?_
  refine rw_dup E (hrf_cat _ _) dX12_tick_154 ?_
  refine rw_getI E hh (C := RX12) (T := TX12) (N := 32) rfl (by decide) i_X12_tick_12 (by decide) rfl (List.mem_of_getElem? (i := 1) (by decide +kernel)) rfl dX12_tick_155 (fun v3 hh => ?_)
  refine rw_aload_n E (j0 := 0) rfl rfl dX12_tick_158 ?_
  refine rw_getI E hh (C := RX12) (T := TX12) (N := 32) rfl (by decide) i_X12_tick_12 (by decide) rfl (List.mem_of_getElem? (i := 2) (by decide +kernel)) rfl dX12_tick_159 (fun v4 hh => ?_)
  refine rw_iadd E dX12_tick_162 ?_
  refine rw_putI E hh (C := RX12) (T := TX12) (N := 32) (ty0 := tyX12) rfl tyX12_ok nmX12 (by decide) i_X12_tick_12 (by decide) rfl (List.mem_of_getElem? (i := 1) (by decide +kernel)) rfl (Or.inl rfl) rfl dX12_tick_163 (fun S5 hh => ?_)
  refine rw_aload_n E (j0 := 0) rfl rfl dX12_tick_166 ?_
  refine rw_iload_n E (j0 := 1) rfl rfl dX12_tick_167 ?_
  refine rw_iconst E (v := 2) (by decide) dX12_tick_168 ?_
  refine rw_cVi E (As := [.int l2, .int 2]) hh (by decide) rfl (fun _ _ _ hq => c_X12_threadOf l b0 G _ _ _ _ _ _ hq) (cwV 2 E.2.2.2.2.1 gX12_tick_X12_threadOf rfl rfl rfl (by decide +kernel) ⟨Nat.le_of_ble_eq_true rfl, Nat.le_of_ble_eq_true rfl⟩) rfl rfl (by (try simp only [List.map_cons, List.map_nil, List.sum_cons, List.sum_nil, hrf_cat, cat_i, cat_l, cat_r]) <;> decide) ⟨Nat.le_of_ble_eq_true rfl, Nat.le_of_ble_eq_true rfl⟩ dX12_tick_169 (fun v7 S6 hh => ?_)
  refine rw_istore E (lv2 := [(10, .int v7), (0, hrf b0 ((some h))), (2, .int l2), (5, .int l5), (8, .long l8)]) (by decide) rfl dX12_tick_172 ?_
  refine rw_aload_n E (j0 := 1) rfl rfl dX12_tick_174 ?_
  refine rw_getI E hh (C := RX12) (T := TX12) (N := 32) rfl (by decide) i_X12_tick_12 (by decide) rfl (List.mem_of_getElem? (i := 1) (by decide +kernel)) rfl dX12_tick_175 (fun v9 hh => ?_)
  refine rw_cSi E (As := [.int v9]) hh (fun _ _ hq => c_X12_size l b0 G _ _ _ _ hq) (va_cwS 1 E.2.2.2.2.1 gX12_tick_X12_size rfl rfl rfl (by decide +kernel) ⟨Nat.le_of_ble_eq_true rfl, Nat.le_of_ble_eq_true rfl⟩) rfl rfl (by (try simp only [List.map_cons, List.map_nil, List.sum_cons, List.sum_nil, hrf_cat, cat_i, cat_l, cat_r]) <;> decide) ⟨Nat.le_of_ble_eq_true rfl, Nat.le_of_ble_eq_true rfl⟩ dX12_tick_178 (fun v11 S10 hh => ?_)
  refine rw_iload E (j0 := 0) rfl dX12_tick_181 ?_
  refine rw_icmp_le E hh (tgt := 232) (by decide) dX12_tick_183 (fun hh => ?_) (fun hh => ?_)
  · refine WH.pick [1, 3] rfl ?_
    exact w_X12_tick_b232 E hrt hlk hh
  · refine rw_aload_n E (j0 := 1) rfl rfl dX12_tick_186 ?_
    refine rw_aload_n E (j0 := 1) rfl rfl dX12_tick_187 ?_
    refine rw_getI E hh (C := RX12) (T := TX12) (N := 32) rfl (by decide) i_X12_tick_12 (by decide) rfl (List.mem_of_getElem? (i := 1) (by decide +kernel)) rfl dX12_tick_188 (fun v12 hh => ?_)
    refine rw_if_ge E hh (tgt := 200) (by decide) dX12_tick_191 (fun hh => ?_) (fun hh => ?_)
    · refine rw_iload E (j0 := 0) rfl dX12_tick_200 ?_
      refine WH.pick [1, 2, 3, 4] rfl ?_
      exact w_X12_tick_b202 E hrt hlk hh
    · refine rw_iload E (j0 := 0) rfl dX12_tick_194 ?_
      refine rw_ineg E dX12_tick_196 ?_
      refine rw_goto E (tgt := 202) (by decide) dX12_tick_197 ?_
      refine WH.pick [1, 2, 3, 4] rfl ?_
      exact w_X12_tick_b202 E hrt hlk hh
def s_X12_tick_b125 (h : Nat) (S : HS) (l2 : Int32) (l5 : Int32) (l7 : Int32) (k0 : Int64) : Option (HS) := if 0 ≤ l7 then (s_X12_tick_b143 h S l2 l5 k0 ((some h)) k0.toInt32) else (s_X12_tick_b143 h S l2 l5 k0 ((some h)) ((-k0 : Int64).toInt32))
set_option maxHeartbeats 4000000 in
set_option maxRecDepth 100000 in
theorem w_X12_tick_b125 {p : Program} {l : Launch} {e : Env} {s : State} {m : MethodId} {args : Array Value} {below : List Frame} {meth : Method} {c : Code} {b0 : Nat} {G : hG} {S1 : HS} {h : Nat} {S : HS} {l2 : Int32} {l5 : Int32} {l7 : Int32} {k0 : Int64} (E : hE p s m args c b0 G cX12_tick RX12 11 wsX12_tick) (hrt : meth.sig.returnType = none) (hlk : meth.locks = false) (hh : s_X12_tick_b125 h S l2 l5 l7 k0 = some S1) : WH p l e rm_X12_tick s m args below meth c b0 G 11 0 0 (MQ below (hQ b0 G none S1) args s 0 0 (hA b0)) S 125 [(0, hrf b0 ((some h))), (2, .int l2), (5, .int l5), (7, .int l7)] [.long k0] := by
  have hh : (if 0 ≤ l7 then (s_X12_tick_b143 h S l2 l5 k0 ((some h)) k0.toInt32) else (s_X12_tick_b143 h S l2 l5 k0 ((some h)) ((-k0 : Int64).toInt32))) = some S1 := hh
  refine rw_lstore E (lv2 := [(8, .long k0), (0, hrf b0 ((some h))), (2, .int l2), (5, .int l5), (7, .int l7)]) (by decide) rfl dX12_tick_125 ?_
  refine rw_aload_n E (j0 := 1) rfl rfl dX12_tick_127 ?_
  refine rw_iload E (j0 := 4) rfl dX12_tick_128 ?_
  refine rw_if_ge E hh (tgt := 140) (by decide) dX12_tick_130 (fun hh => ?_) (fun hh => ?_)
  · refine rw_lload E (j0 := 0) rfl dX12_tick_140 ?_
    refine rw_l2i E dX12_tick_142 ?_
    refine WH.pick [1, 2, 3, 0] rfl ?_
    exact w_X12_tick_b143 E hrt hlk hh
  · refine rw_lload E (j0 := 0) rfl dX12_tick_133 ?_
    refine rw_lneg E dX12_tick_135 ?_
    refine rw_l2i E dX12_tick_136 ?_
    refine rw_goto E (tgt := 143) (by decide) dX12_tick_137 ?_
    refine WH.pick [1, 2, 3, 0] rfl ?_
    exact w_X12_tick_b143 E hrt hlk hh
def s_X12_tick_b70 (h : Nat) (S : HS) (l1 : Int32) (l2 : Int32) (l4 : Int32) (l5 : Int32) (k0 : Int32) : Option (HS) := kc (s_X12_size S k0) (fun v2 S1 => kldiv (v2.toInt64 * v2.toInt64) 1000 (fun v3 => kO S1 ((some h)) 12 (fun a6 => kc (s_X12_discOf S1 a6 l1 1) (fun v5 S4 => kldiv (v3 * v5.toInt64) 100 (fun v7 => if l4.toInt64 ≤ v2.toInt64 - v7 then (s_X12_tick_b125 h S4 l2 l5 k0 ((v2.toInt64 - v7) - l4.toInt64)) else (s_X12_tick_b125 h S4 l2 l5 k0 0))))))
set_option maxHeartbeats 4000000 in
set_option maxRecDepth 100000 in
theorem w_X12_tick_b70 {p : Program} {l : Launch} {e : Env} {s : State} {m : MethodId} {args : Array Value} {below : List Frame} {meth : Method} {c : Code} {b0 : Nat} {G : hG} {S1 : HS} {h : Nat} {S : HS} {l1 : Int32} {l2 : Int32} {l4 : Int32} {l5 : Int32} {k0 : Int32} (E : hE p s m args c b0 G cX12_tick RX12 11 wsX12_tick) (hrt : meth.sig.returnType = none) (hlk : meth.locks = false) (hh : s_X12_tick_b70 h S l1 l2 l4 l5 k0 = some S1) : WH p l e rm_X12_tick s m args below meth c b0 G 11 0 0 (MQ below (hQ b0 G none S1) args s 0 0 (hA b0)) S 70 [(0, hrf b0 ((some h))), (1, .int l1), (2, .int l2), (4, .int l4), (5, .int l5)] [.int k0] := by
  have hh : (kc (s_X12_size S k0) (fun v2 S1 => kldiv (v2.toInt64 * v2.toInt64) 1000 (fun v3 => kO S1 ((some h)) 12 (fun a6 => kc (s_X12_discOf S1 a6 l1 1) (fun v5 S4 => kldiv (v3 * v5.toInt64) 100 (fun v7 => if l4.toInt64 ≤ v2.toInt64 - v7 then (s_X12_tick_b125 h S4 l2 l5 k0 ((v2.toInt64 - v7) - l4.toInt64)) else (s_X12_tick_b125 h S4 l2 l5 k0 0))))))) = some S1 := hh
  refine rw_istore E (lv2 := [(7, .int k0), (0, hrf b0 ((some h))), (1, .int l1), (2, .int l2), (4, .int l4), (5, .int l5)]) (by decide) rfl dX12_tick_70 ?_
  refine rw_iload E (j0 := 0) rfl dX12_tick_72 ?_
  refine rw_cSi E (As := [.int k0]) hh (fun _ _ hq => c_X12_size l b0 G _ _ _ _ hq) (va_cwS 1 E.2.2.2.2.1 gX12_tick_X12_size rfl rfl rfl (by decide +kernel) ⟨Nat.le_of_ble_eq_true rfl, Nat.le_of_ble_eq_true rfl⟩) rfl rfl (by (try simp only [List.map_cons, List.map_nil, List.sum_cons, List.sum_nil, hrf_cat, cat_i, cat_l, cat_r]) <;> decide) ⟨Nat.le_of_ble_eq_true rfl, Nat.le_of_ble_eq_true rfl⟩ dX12_tick_74 (fun v2 S1 hh => ?_)
  refine rw_i2l E dX12_tick_77 ?_
  refine rw_lstore E (lv2 := [(8, .long v2.toInt64), (7, .int k0), (0, hrf b0 ((some h))), (1, .int l1), (2, .int l2), (4, .int l4), (5, .int l5)]) (by decide) rfl dX12_tick_78 ?_
  refine rw_lload E (j0 := 0) rfl dX12_tick_80 ?_
  refine rw_lload E (j0 := 0) rfl dX12_tick_82 ?_
  refine rw_lload E (j0 := 0) rfl dX12_tick_84 ?_
  refine rw_lmul E dX12_tick_86 ?_
  refine rw_ldc2 E (v := 1000) (List.mem_of_getElem? (i := 3) (by decide +kernel)) dX12_tick_87 ?_
  refine rw_ldiv E hh dX12_tick_90 (fun v3 hh => ?_)
  refine rw_aload_n E (j0 := 2) rfl rfl dX12_tick_91 ?_
  refine rw_iload_n E (j0 := 3) rfl rfl dX12_tick_92 ?_
  refine rw_iconst E (v := 1) (by decide) dX12_tick_93 ?_
  refine rw_cVi E (As := [.int l1, .int 1]) hh (by decide) rfl (fun _ _ _ hq => c_X12_discOf l b0 G _ _ _ _ _ _ hq) (cwV 2 E.2.2.2.2.1 gX12_tick_X12_discOf rfl rfl rfl (by decide +kernel) ⟨Nat.le_of_ble_eq_true rfl, Nat.le_of_ble_eq_true rfl⟩) rfl rfl (by (try simp only [List.map_cons, List.map_nil, List.sum_cons, List.sum_nil, hrf_cat, cat_i, cat_l, cat_r]) <;> decide) ⟨Nat.le_of_ble_eq_true rfl, Nat.le_of_ble_eq_true rfl⟩ dX12_tick_94 (fun v5 S4 hh => ?_)
  refine rw_i2l E dX12_tick_97 ?_
  refine rw_lmul E dX12_tick_98 ?_
  refine rw_ldc2 E (v := 100) (List.mem_of_getElem? (i := 4) (by decide +kernel)) dX12_tick_99 ?_
  refine rw_ldiv E hh dX12_tick_102 (fun v7 hh => ?_)
  refine rw_lsub E dX12_tick_103 ?_
  refine rw_lstore E (lv2 := [(8, .long (v2.toInt64 - v7)), (7, .int k0), (0, hrf b0 ((some h))), (1, .int l1), (2, .int l2), (4, .int l4), (5, .int l5)]) (by decide) rfl dX12_tick_104 ?_
  refine rw_lload E (j0 := 0) rfl dX12_tick_106 ?_
  refine rw_iload E (j0 := 5) rfl dX12_tick_108 ?_
  refine rw_i2l E dX12_tick_110 ?_
  refine rw_lge E hh (tgt := 119) (by decide) dX12_tick_111 dX12_tick_112 (fun hh => ?_) (fun hh => ?_)
  · refine rw_lload E (j0 := 0) rfl dX12_tick_119 ?_
    refine rw_iload E (j0 := 5) rfl dX12_tick_121 ?_
    refine rw_i2l E dX12_tick_123 ?_
    refine rw_lsub E dX12_tick_124 ?_
    refine WH.pick [2, 4, 6, 1] rfl ?_
    exact w_X12_tick_b125 E hrt hlk hh
  · refine rw_lconst E (v := 0) (by decide) dX12_tick_115 ?_
    refine rw_goto E (tgt := 125) (by decide) dX12_tick_116 ?_
    refine WH.pick [2, 4, 6, 1] rfl ?_
    exact w_X12_tick_b125 E hrt hlk hh
def s_X12_tick (S : HS) (h : Nat) (l1 : Int32) (l2 : Int32) (l3 : Int32) (l4 : Int32) : Option (HS) := kI S ((some h)) 12 19 (fun v1 => kI S ((some h)) 12 19 (fun v2 => kc (s_X12_size S v2) (fun v4 S3 => kO S3 ((some h)) 12 (fun a7 => kc (s_X12_slopeOf S3 a7 l2 v4) (fun v6 S5 => kO S5 ((some h)) 12 (fun a10 => kc (s_X12_discOf S5 a10 l1 0) (fun v9 S8 => kdiv ((l3 * v6) * 10) v9 (fun v11 => kI S8 ((some h)) 12 19 (fun v12 => if v12 ≤ 0 then (kI S8 ((some h)) 12 19 (fun v13 => if 0 ≤ v13 then (kI S8 ((some h)) 12 20 (fun v14 => s_X12_tick_b70 h S8 l1 l2 l4 v1 v14)) else (kI S8 ((some h)) 12 20 (fun v15 => s_X12_tick_b70 h S8 l1 l2 l4 v1 (v15 + v11))))) else (kI S8 ((some h)) 12 20 (fun v16 => s_X12_tick_b70 h S8 l1 l2 l4 v1 (v16 - v11))))))))))))
set_option maxHeartbeats 4000000 in
set_option maxRecDepth 100000 in
theorem c_X12_tick (l : Launch) (b0 : Nat) (G : hG) (S S1 : HS) (h : Nat) (l1 : Int32) (l2 : Int32) (l3 : Int32) (l4 : Int32) (hh : s_X12_tick S h l1 l2 l3 l4 = some S1) : MH l yX12_tick wsX12_tick rm_X12_tick b0 G S [hrf b0 (some h), .int l1, .int l2, .int l3, .int l4] none S1 0 0 := by
  refine MH.ofW (cc := cX12_tick) (maxL := 11) (ret := none) (own := RX12) (lv0 := [(0, hrf b0 ((some h))), (1, .int l1), (2, .int l2), (3, .int l3), (4, .int l4)]) (by decide) rfl rfl (Nat.le_of_ble_eq_true rfl) rfl ?_
  intro p e s m args below meth c E hrt hlk hnm
  have hh : (kI S ((some h)) 12 19 (fun v1 => kI S ((some h)) 12 19 (fun v2 => kc (s_X12_size S v2) (fun v4 S3 => kO S3 ((some h)) 12 (fun a7 => kc (s_X12_slopeOf S3 a7 l2 v4) (fun v6 S5 => kO S5 ((some h)) 12 (fun a10 => kc (s_X12_discOf S5 a10 l1 0) (fun v9 S8 => kdiv ((l3 * v6) * 10) v9 (fun v11 => kI S8 ((some h)) 12 19 (fun v12 => if v12 ≤ 0 then (kI S8 ((some h)) 12 19 (fun v13 => if 0 ≤ v13 then (kI S8 ((some h)) 12 20 (fun v14 => s_X12_tick_b70 h S8 l1 l2 l4 v1 v14)) else (kI S8 ((some h)) 12 20 (fun v15 => s_X12_tick_b70 h S8 l1 l2 l4 v1 (v15 + v11))))) else (kI S8 ((some h)) 12 20 (fun v16 => s_X12_tick_b70 h S8 l1 l2 l4 v1 (v16 - v11))))))))))))) = some S1 := hh
  refine rw_aload_n E (j0 := 0) rfl rfl dX12_tick_0 ?_
  refine rw_getI E hh (C := RX12) (T := TX12) (N := 32) rfl (by decide) i_X12_tick_12 (by decide) rfl (List.mem_of_getElem? (i := 1) (by decide +kernel)) rfl dX12_tick_1 (fun v1 hh => ?_)
  refine rw_istore E (lv2 := [(5, .int v1), (0, hrf b0 ((some h))), (1, .int l1), (2, .int l2), (3, .int l3), (4, .int l4)]) (by decide) rfl dX12_tick_4 ?_
  refine rw_iload_n E (j0 := 4) rfl rfl dX12_tick_6 ?_
  refine rw_aload_n E (j0 := 1) rfl rfl dX12_tick_7 ?_
  refine rw_iload_n E (j0 := 3) rfl rfl dX12_tick_8 ?_
  refine rw_aload_n E (j0 := 1) rfl rfl dX12_tick_9 ?_
  refine rw_getI E hh (C := RX12) (T := TX12) (N := 32) rfl (by decide) i_X12_tick_12 (by decide) rfl (List.mem_of_getElem? (i := 1) (by decide +kernel)) rfl dX12_tick_10 (fun v2 hh => ?_)
  refine rw_cSi E (As := [.int v2]) hh (fun _ _ hq => c_X12_size l b0 G _ _ _ _ hq) (va_cwS 1 E.2.2.2.2.1 gX12_tick_X12_size rfl rfl rfl (by decide +kernel) ⟨Nat.le_of_ble_eq_true rfl, Nat.le_of_ble_eq_true rfl⟩) rfl rfl (by (try simp only [List.map_cons, List.map_nil, List.sum_cons, List.sum_nil, hrf_cat, cat_i, cat_l, cat_r]) <;> decide) ⟨Nat.le_of_ble_eq_true rfl, Nat.le_of_ble_eq_true rfl⟩ dX12_tick_13 (fun v4 S3 hh => ?_)
  refine rw_cVi E (As := [.int l2, .int v4]) hh (by decide) rfl (fun _ _ _ hq => c_X12_slopeOf l b0 G _ _ _ _ _ _ hq) (cwV 2 E.2.2.2.2.1 gX12_tick_X12_slopeOf rfl rfl rfl (by decide +kernel) ⟨Nat.le_of_ble_eq_true rfl, Nat.le_of_ble_eq_true rfl⟩) rfl rfl (by (try simp only [List.map_cons, List.map_nil, List.sum_cons, List.sum_nil, hrf_cat, cat_i, cat_l, cat_r]) <;> decide) ⟨Nat.le_of_ble_eq_true rfl, Nat.le_of_ble_eq_true rfl⟩ dX12_tick_16 (fun v6 S5 hh => ?_)
  refine rw_imul E dX12_tick_19 ?_
  refine rw_bipush E (v := 10) (by decide) dX12_tick_20 ?_
  refine rw_imul E dX12_tick_22 ?_
  refine rw_aload_n E (j0 := 1) rfl rfl dX12_tick_23 ?_
  refine rw_iload_n E (j0 := 2) rfl rfl dX12_tick_24 ?_
  refine rw_iconst E (v := 0) (by decide) dX12_tick_25 ?_
  refine rw_cVi E (As := [.int l1, .int 0]) hh (by decide) rfl (fun _ _ _ hq => c_X12_discOf l b0 G _ _ _ _ _ _ hq) (cwV 2 E.2.2.2.2.1 gX12_tick_X12_discOf rfl rfl rfl (by decide +kernel) ⟨Nat.le_of_ble_eq_true rfl, Nat.le_of_ble_eq_true rfl⟩) rfl rfl (by (try simp only [List.map_cons, List.map_nil, List.sum_cons, List.sum_nil, hrf_cat, cat_i, cat_l, cat_r]) <;> decide) ⟨Nat.le_of_ble_eq_true rfl, Nat.le_of_ble_eq_true rfl⟩ dX12_tick_26 (fun v9 S8 hh => ?_)
  refine rw_idiv E hh dX12_tick_29 (fun v11 hh => ?_)
  refine rw_istore E (lv2 := [(6, .int v11), (5, .int v1), (0, hrf b0 ((some h))), (1, .int l1), (2, .int l2), (3, .int l3), (4, .int l4)]) (by decide) rfl dX12_tick_30 ?_
  refine rw_aload_n E (j0 := 2) rfl rfl dX12_tick_32 ?_
  refine rw_getI E hh (C := RX12) (T := TX12) (N := 32) rfl (by decide) i_X12_tick_12 (by decide) rfl (List.mem_of_getElem? (i := 1) (by decide +kernel)) rfl dX12_tick_33 (fun v12 hh => ?_)
  refine rw_if_le E hh (tgt := 49) (by decide) dX12_tick_36 (fun hh => ?_) (fun hh => ?_)
  · refine rw_aload_n E (j0 := 2) rfl rfl dX12_tick_49 ?_
    refine rw_getI E hh (C := RX12) (T := TX12) (N := 32) rfl (by decide) i_X12_tick_12 (by decide) rfl (List.mem_of_getElem? (i := 1) (by decide +kernel)) rfl dX12_tick_50 (fun v13 hh => ?_)
    refine rw_if_ge E hh (tgt := 66) (by decide) dX12_tick_53 (fun hh => ?_) (fun hh => ?_)
    · refine rw_aload_n E (j0 := 2) rfl rfl dX12_tick_66 ?_
      refine rw_getI E hh (C := RX12) (T := TX12) (N := 32) rfl (by decide) i_X12_tick_12 (by decide) rfl (List.mem_of_getElem? (i := 2) (by decide +kernel)) rfl dX12_tick_67 (fun v14 hh => ?_)
      refine WH.pick [2, 3, 4, 6, 1] rfl ?_
      exact w_X12_tick_b70 E hrt hlk hh
    · refine rw_aload_n E (j0 := 2) rfl rfl dX12_tick_56 ?_
      refine rw_getI E hh (C := RX12) (T := TX12) (N := 32) rfl (by decide) i_X12_tick_12 (by decide) rfl (List.mem_of_getElem? (i := 2) (by decide +kernel)) rfl dX12_tick_57 (fun v15 hh => ?_)
      refine rw_iload E (j0 := 0) rfl dX12_tick_60 ?_
      refine rw_iadd E dX12_tick_62 ?_
      refine rw_goto E (tgt := 70) (by decide) dX12_tick_63 ?_
      refine WH.pick [2, 3, 4, 6, 1] rfl ?_
      exact w_X12_tick_b70 E hrt hlk hh
  · refine rw_aload_n E (j0 := 2) rfl rfl dX12_tick_39 ?_
    refine rw_getI E hh (C := RX12) (T := TX12) (N := 32) rfl (by decide) i_X12_tick_12 (by decide) rfl (List.mem_of_getElem? (i := 2) (by decide +kernel)) rfl dX12_tick_40 (fun v16 hh => ?_)
    refine rw_iload E (j0 := 0) rfl dX12_tick_43 ?_
    refine rw_isub E dX12_tick_45 ?_
    refine rw_goto E (tgt := 70) (by decide) dX12_tick_46 ?_
    refine WH.pick [2, 3, 4, 6, 1] rfl ?_
    exact w_X12_tick_b70 E hrt hlk hh

