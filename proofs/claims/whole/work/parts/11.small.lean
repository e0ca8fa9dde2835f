/-! HummingDisc$Asked.<init>()V -/
abbrev rm_X0_init : Room := { frames := 1, cells := 1, slots := 16, locals := 20 }
theorem i_X0_init_0 : ∀ w ∈ wsX00, w ∈ wsX0_init := fun _ h => List.mem_cons_of_mem _ (List.mem_append_right _ (h))
def s_X0_init (S : HS) (h : Nat) : Option (HS) := kO S ((some h)) 0 (fun _ => knewA S 14 16 16 (fun o1 S2 => kwP S2 ((some h)) 0 0 o1 (fun S3 => some S3)))
set_option maxHeartbeats 4000000 in
set_option maxRecDepth 100000 in
theorem c_X0_init (l : Launch) (b0 : Nat) (G : hG) (S S1 : HS) (h : Nat) (hh : s_X0_init S h  = some S1) : MH l yX0_init wsX0_init rm_X0_init b0 G S [hrf b0 (some h)] none S1 1 16 := by
  refine MH.ofW (cc := cX0_init) (maxL := 1) (ret := none) (own := RX0) (lv0 := [(0, hrf b0 ((some h)))]) (by decide) rfl rfl (Nat.le_of_ble_eq_true rfl) rfl ?_
  intro p e s m args below meth c E hrt hlk hnm
  have hh : (kO S ((some h)) 0 (fun _ => knewA S 14 16 16 (fun o1 S2 => kwP S2 ((some h)) 0 0 o1 (fun S3 => some S3)))) = some S1 := hh
  have hc : 0 + 1 ≤ 1 := by decide
  have hs : 0 + 16 ≤ 16 := by decide
  refine rw_aload_n E (j0 := 0) rfl rfl dX0_init_0 ?_
  refine rw_objI E hh (List.mem_of_getElem? (i := 1) (by decide +kernel)) (List.mem_of_getElem? (i := 2) (by decide +kernel)) (List.mem_of_getElem? (i := 3) (by decide +kernel)) (by decide) (by (try simp only [List.map_cons, List.map_nil, List.sum_cons, List.sum_nil, hrf_cat, cat_i, cat_l, cat_r]) <;> decide) dX0_init_1 (fun hh => ?_)
  refine rw_aload_n E (j0 := 0) rfl rfl dX0_init_4 ?_
  refine rw_bipush E (v := 16) (by decide) dX0_init_5 ?_
  refine rw_newa E hh (t0 := 1) (by decide) (by decide) (by decide) rfl (fun _ => rfl) (fun _ q => by cases q) rfl (by decide) (List.mem_of_getElem? (i := 4) (by decide +kernel)) (show _ ≤ 1 by omega) (show _ ≤ 16 by omega) dX0_init_7 (fun o1 S2 hh => ?_)
  refine rw_putP E hh (C := RX0) (T := TX0) (N := 4) (ty0 := tyX0) rfl tyX0_ok nmX0 (by decide) i_X0_init_0 (by decide) rfl (List.mem_of_getElem? (i := 5) (by decide +kernel)) rfl (Or.inr ⟨rfl, hnm, rfl⟩) (Or.inr ⟨_, rfl⟩) dX0_init_9 (fun S3 hh => ?_)
  exact rw_vret E hrt hlk hh (show _ ≤ 1 by omega) (show _ ≤ 16 by omega) dX0_init_12

/-! HummingDisc$Run.isTurningBack()Z -/
abbrev rm_X8_isTurningBack : Room := { frames := 0, cells := 0, slots := 0, locals := 0 }
theorem i_X8_isTurningBack_8 : ∀ w ∈ wsX80, w ∈ wsX8_isTurningBack := fun _ h => List.mem_cons_of_mem _ (List.mem_append_right _ (h))
def s_X8_isTurningBack_b28 (h : Nat) (S : HS) : Option (Int32 × HS) := kzr 1 S
set_option maxHeartbeats 4000000 in
set_option maxRecDepth 100000 in
theorem w_X8_isTurningBack_b28 {p : Program} {l : Launch} {e : Env} {s : State} {m : MethodId} {args : Array Value} {below : List Frame} {meth : Method} {c : Code} {b0 : Nat} {G : hG} {S1 : HS} {r : Int32} {h : Nat} {S : HS} (E : hE p s m args c b0 G cX8_isTurningBack RX8 1 wsX8_isTurningBack) (hrt : meth.sig.returnType = (some .boolean)) (hlk : meth.locks = false) (hh : s_X8_isTurningBack_b28 h S = some (r, S1)) : WH p l e rm_X8_isTurningBack s m args below meth c b0 G 1 0 0 (MQ below (hQ b0 G (some (.int r)) S1) args s 0 0 (hA b0)) S 28 [] [] := by
  have hh : (kzr 1 S) = some (r, S1) := hh
  refine rw_iconst E (v := 1) (by decide) dX8_isTurningBack_28 ?_
  refine rw_goto E (tgt := 33) (by decide) dX8_isTurningBack_29 ?_
  exact rw_zret E hrt hlk hh (by decide) (by decide) dX8_isTurningBack_33
def s_X8_isTurningBack_b14 (h : Nat) (S : HS) : Option (Int32 × HS) := kI S ((some h)) 8 5 (fun v1 => if v1 ≤ 0 then (kzr 0 S) else (kI S ((some h)) 8 3 (fun v2 => if 0 ≤ v2 then (kzr 0 S) else (s_X8_isTurningBack_b28 h S))))
set_option maxHeartbeats 4000000 in
set_option maxRecDepth 100000 in
theorem w_X8_isTurningBack_b14 {p : Program} {l : Launch} {e : Env} {s : State} {m : MethodId} {args : Array Value} {below : List Frame} {meth : Method} {c : Code} {b0 : Nat} {G : hG} {S1 : HS} {r : Int32} {h : Nat} {S : HS} (E : hE p s m args c b0 G cX8_isTurningBack RX8 1 wsX8_isTurningBack) (hrt : meth.sig.returnType = (some .boolean)) (hlk : meth.locks = false) (hh : s_X8_isTurningBack_b14 h S = some (r, S1)) : WH p l e rm_X8_isTurningBack s m args below meth c b0 G 1 0 0 (MQ below (hQ b0 G (some (.int r)) S1) args s 0 0 (hA b0)) S 14 [(0, hrf b0 ((some h)))] [] := by
  have hh : (kI S ((some h)) 8 5 (fun v1 => if v1 ≤ 0 then (kzr 0 S) else (kI S ((some h)) 8 3 (fun v2 => if 0 ≤ v2 then (kzr 0 S) else (s_X8_isTurningBack_b28 h S))))) = some (r, S1) := hh
  refine rw_aload_n E (j0 := 0) rfl rfl dX8_isTurningBack_14 ?_
  refine rw_getI E hh (C := RX8) (T := TX8) (N := 12) rfl (by decide) i_X8_isTurningBack_8 (by decide) rfl (List.mem_of_getElem? (i := 1) (by decide +kernel)) rfl dX8_isTurningBack_15 (fun v1 hh => ?_)
  refine rw_if_le E hh (tgt := 32) (by decide) dX8_isTurningBack_18 (fun hh => ?_) (fun hh => ?_)
  · refine rw_iconst E (v := 0) (by decide) dX8_isTurningBack_32 ?_
    exact rw_zret E hrt hlk hh (by decide) (by decide) dX8_isTurningBack_33
  · refine rw_aload_n E (j0 := 0) rfl rfl dX8_isTurningBack_21 ?_
    refine rw_getI E hh (C := RX8) (T := TX8) (N := 12) rfl (by decide) i_X8_isTurningBack_8 (by decide) rfl (List.mem_of_getElem? (i := 2) (by decide +kernel)) rfl dX8_isTurningBack_22 (fun v2 hh => ?_)
    refine rw_if_ge E hh (tgt := 32) (by decide) dX8_isTurningBack_25 (fun hh => ?_) (fun hh => ?_)
    · refine rw_iconst E (v := 0) (by decide) dX8_isTurningBack_32 ?_
      exact rw_zret E hrt hlk hh (by decide) (by decide) dX8_isTurningBack_33
    · refine WH.pick [] rfl ?_
      exact w_X8_isTurningBack_b28 E hrt hlk hh
def s_X8_isTurningBack (S : HS) (h : Nat) : Option (Int32 × HS) := kI S ((some h)) 8 5 (fun v1 => if 0 ≤ v1 then (s_X8_isTurningBack_b14 h S) else (kI S ((some h)) 8 3 (fun v2 => if 0 < v2 then (s_X8_isTurningBack_b28 h S) else (s_X8_isTurningBack_b14 h S))))
set_option maxHeartbeats 4000000 in
set_option maxRecDepth 100000 in
theorem c_X8_isTurningBack (l : Launch) (b0 : Nat) (G : hG) (S S1 : HS) (h : Nat) (r : Int32) (hh : s_X8_isTurningBack S h  = some (r, S1)) : MH l yX8_isTurningBack wsX8_isTurningBack rm_X8_isTurningBack b0 G S [hrf b0 (some h)] (some (.int r)) S1 0 0 := by
  refine MH.ofW (cc := cX8_isTurningBack) (maxL := 1) (ret := (some .boolean)) (own := RX8) (lv0 := [(0, hrf b0 ((some h)))]) (by decide) rfl rfl (Nat.le_of_ble_eq_true rfl) rfl ?_
  intro p e s m args below meth c E hrt hlk hnm
  have hh : (kI S ((some h)) 8 5 (fun v1 => if 0 ≤ v1 then (s_X8_isTurningBack_b14 h S) else (kI S ((some h)) 8 3 (fun v2 => if 0 < v2 then (s_X8_isTurningBack_b28 h S) else (s_X8_isTurningBack_b14 h S))))) = some (r, S1) := hh
  refine rw_aload_n E (j0 := 0) rfl rfl dX8_isTurningBack_0 ?_
  refine rw_getI E hh (C := RX8) (T := TX8) (N := 12) rfl (by decide) i_X8_isTurningBack_8 (by decide) rfl (List.mem_of_getElem? (i := 1) (by decide +kernel)) rfl dX8_isTurningBack_1 (fun v1 hh => ?_)
  refine rw_if_ge E hh (tgt := 14) (by decide) dX8_isTurningBack_4 (fun hh => ?_) (fun hh => ?_)
  · refine WH.pick [0] rfl ?_
    exact w_X8_isTurningBack_b14 E hrt hlk hh
  · refine rw_aload_n E (j0 := 0) rfl rfl dX8_isTurningBack_7 ?_
    refine rw_getI E hh (C := RX8) (T := TX8) (N := 12) rfl (by decide) i_X8_isTurningBack_8 (by decide) rfl (List.mem_of_getElem? (i := 2) (by decide +kernel)) rfl dX8_isTurningBack_8 (fun v2 hh => ?_)
    refine rw_if_gt E hh (tgt := 28) (by decide) dX8_isTurningBack_11 (fun hh => ?_) (fun hh => ?_)
    · refine WH.pick [] rfl ?_
      exact w_X8_isTurningBack_b28 E hrt hlk hh
    · refine WH.pick [0] rfl ?_
      exact w_X8_isTurningBack_b14 E hrt hlk hh

/-! HummingDisc$Run.toldAs()I -/
abbrev rm_X8_toldAs : Room := { frames := 1, cells := 0, slots := 0, locals := 26 }
theorem i_X8_toldAs_2 : ∀ w ∈ wsX20, w ∈ wsX8_toldAs := fun _ h => List.mem_cons_of_mem _ (List.mem_append_right _ (h))
theorem i_X8_toldAs_8 : ∀ w ∈ wsX80, w ∈ wsX8_toldAs := fun _ h => List.mem_cons_of_mem _ (List.mem_append_left _ (List.mem_append_right _ (h)))
def s_X8_toldAs (S : HS) (h : Nat) : Option (Int32 × HS) := kI S ((some h)) 8 11 (fun v1 => if v1 = 0 then (kI S ((some h)) 8 5 (fun v2 => if v2 = 0 then (some (3, S)) else (kO S ((some h)) 8 (fun a5 => kc (s_X8_isTurningBack S a5 ) (fun v4 S3 => if v4 = 0 then (kI S3 ((some h)) 8 3 (fun v6 => kP S3 ((some h)) 8 1 (fun v7 => kI S3 v7 2 1 (fun v8 => if fabs v6 ≤ v8 then (some (2, S3)) else (some (4, S3)))))) else (some (1, S3))))))) else (some (5, S)))
set_option maxHeartbeats 4000000 in
set_option maxRecDepth 100000 in
theorem c_X8_toldAs (l : Launch) (b0 : Nat) (G : hG) (S S1 : HS) (h : Nat) (r : Int32) (hh : s_X8_toldAs S h  = some (r, S1)) : MH l yX8_toldAs wsX8_toldAs rm_X8_toldAs b0 G S [hrf b0 (some h)] (some (.int r)) S1 0 0 := by
  refine MH.ofW (cc := cX8_toldAs) (maxL := 1) (ret := (some .int)) (own := RX8) (lv0 := [(0, hrf b0 ((some h)))]) (by decide) rfl rfl (Nat.le_of_ble_eq_true rfl) rfl ?_
  intro p e s m args below meth c E hrt hlk hnm
  have hh : (kI S ((some h)) 8 11 (fun v1 => if v1 = 0 then (kI S ((some h)) 8 5 (fun v2 => if v2 = 0 then (some (3, S)) else (kO S ((some h)) 8 (fun a5 => kc (s_X8_isTurningBack S a5 ) (fun v4 S3 => if v4 = 0 then (kI S3 ((some h)) 8 3 (fun v6 => kP S3 ((some h)) 8 1 (fun v7 => kI S3 v7 2 1 (fun v8 => if fabs v6 ≤ v8 then (some (2, S3)) else (some (4, S3)))))) else (some (1, S3))))))) else (some (5, S)))) = some (r, S1) := hh
  refine rw_aload_n E (j0 := 0) rfl rfl dX8_toldAs_0 ?_
  refine rw_getI E hh (C := RX8) (T := TX8) (N := 12) rfl (by decide) i_X8_toldAs_8 (by decide) rfl (List.mem_of_getElem? (i := 1) (by decide +kernel)) rfl dX8_toldAs_1 (fun v1 hh => ?_)
  refine rw_if_eq E hh (tgt := 9) (by decide) dX8_toldAs_4 (fun hh => ?_) (fun hh => ?_)
  · refine rw_aload_n E (j0 := 0) rfl rfl dX8_toldAs_9 ?_
    refine rw_getI E hh (C := RX8) (T := TX8) (N := 12) rfl (by decide) i_X8_toldAs_8 (by decide) rfl (List.mem_of_getElem? (i := 2) (by decide +kernel)) rfl dX8_toldAs_10 (fun v2 hh => ?_)
    refine rw_if_ne E hh (tgt := 18) (by decide) dX8_toldAs_13 (fun hh => ?_) (fun hh => ?_)
    · refine rw_aload_n E (j0 := 0) rfl rfl dX8_toldAs_18 ?_
      refine rw_cVi E (As := []) hh (by decide) rfl (fun _ _ _ hq => c_X8_isTurningBack l b0 G _ _ _ _ hq) (cwV 0 E.2.2.2.2.1 gX8_toldAs_X8_isTurningBack rfl rfl rfl (by decide +kernel) ⟨Nat.le_of_ble_eq_true rfl, Nat.le_of_ble_eq_true rfl⟩) rfl rfl (by (try simp only [List.map_cons, List.map_nil, List.sum_cons, List.sum_nil, hrf_cat, cat_i, cat_l, cat_r]) <;> decide) ⟨Nat.le_of_ble_eq_true rfl, Nat.le_of_ble_eq_true rfl⟩ dX8_toldAs_19 (fun v4 S3 hh => ?_)
      refine rw_if_eq E hh (tgt := 27) (by decide) dX8_toldAs_22 (fun hh => ?_) (fun hh => ?_)
      · refine rw_aload_n E (j0 := 0) rfl rfl dX8_toldAs_27 ?_
        refine rw_getI E hh (C := RX8) (T := TX8) (N := 12) rfl (by decide) i_X8_toldAs_8 (by decide) rfl (List.mem_of_getElem? (i := 3) (by decide +kernel)) rfl dX8_toldAs_28 (fun v6 hh => ?_)
        refine rw_mabs E ⟨by decide, (by (try simp only [List.map_cons, List.map_nil, List.sum_cons, List.sum_nil, hrf_cat, cat_i, cat_l, cat_r]) <;> decide), by decide, by decide⟩ (List.mem_of_getElem? (i := 4) (by decide +kernel)) (List.mem_of_getElem? (i := 5) (by decide +kernel)) (List.mem_of_getElem? (i := 6) (by decide +kernel)) (List.mem_of_getElem? (i := 7) (by decide +kernel)) dX8_toldAs_31 ?_
        refine rw_aload_n E (j0 := 0) rfl rfl dX8_toldAs_34 ?_
        refine rw_getP E hh (C := RX8) (T := TX8) (N := 12) rfl (by decide) i_X8_toldAs_8 (by decide) rfl (List.mem_of_getElem? (i := 8) (by decide +kernel)) rfl dX8_toldAs_35 (fun v7 hh => ?_)
        refine rw_getI E hh (C := RX2) (T := TX2) (N := 4) rfl (by decide) i_X8_toldAs_2 (by decide) rfl (List.mem_of_getElem? (i := 9) (by decide +kernel)) rfl dX8_toldAs_38 (fun v8 hh => ?_)
        refine rw_icmp_le E hh (tgt := 48) (by decide) dX8_toldAs_41 (fun hh => ?_) (fun hh => ?_)
        · refine rw_iconst E (v := 2) (by decide) dX8_toldAs_48 ?_
          exact rw_iret E hrt hlk hh (by decide) (by decide) dX8_toldAs_49
        · refine rw_iconst E (v := 4) (by decide) dX8_toldAs_44 ?_
          refine rw_goto E (tgt := 49) (by decide) dX8_toldAs_45 ?_
          exact rw_iret E hrt hlk hh (by decide) (by decide) dX8_toldAs_49
      · refine rw_iconst E (v := 1) (by decide) dX8_toldAs_25 ?_
        exact rw_iret E hrt hlk hh (by decide) (by decide) dX8_toldAs_26
    · refine rw_iconst E (v := 3) (by decide) dX8_toldAs_16 ?_
      exact rw_iret E hrt hlk hh (by decide) (by decide) dX8_toldAs_17
  · refine rw_iconst E (v := 5) (by decide) dX8_toldAs_7 ?_
    exact rw_iret E hrt hlk hh (by decide) (by decide) dX8_toldAs_8

/-! HummingDisc$Asked.about(LHummingDisc$Run;)V -/
abbrev rm_X0_about : Room := { frames := 2, cells := 0, slots := 0, locals := 46 }
theorem i_X0_about_0 : ∀ w ∈ wsX00, w ∈ wsX0_about := fun _ h => List.mem_cons_of_mem _ (List.mem_append_left _ (List.mem_append_left _ (List.mem_append_right _ (h))))
def s_X0_about (S : HS) (h : Nat) (l1 : Option Nat) : Option (HS) := kwP S ((some h)) 0 2 l1 (fun S1 => kO S1 l1 8 (fun a4 => kc (s_X8_toldAs S1 a4 ) (fun v3 S2 => kwI S2 ((some h)) 0 3 v3 (fun S5 => kwI S5 ((some h)) 0 1 0 (fun S6 => some S6)))))
set_option maxHeartbeats 4000000 in
set_option maxRecDepth 100000 in
theorem c_X0_about (l : Launch) (b0 : Nat) (G : hG) (S S1 : HS) (h : Nat) (l1 : Option Nat) (hh : s_X0_about S h l1 = some S1) : MH l yX0_about wsX0_about rm_X0_about b0 G S [hrf b0 (some h), hrf b0 l1] none S1 0 0 := by
  refine MH.ofW (cc := cX0_about) (maxL := 2) (ret := none) (own := RX0) (lv0 := [(0, hrf b0 ((some h))), (1, hrf b0 l1)]) (by decide) rfl rfl (by simp [lg_sl, hrf_cat, cat_i, cat_l, cat_r]) (by simp only [lv_args, hrf_cat, cat_i, cat_l, cat_r]; rfl) ?_
  intro p e s m args below meth c E hrt hlk hnm
  have hh : (kwP S ((some h)) 0 2 l1 (fun S1 => kO S1 l1 8 (fun a4 => kc (s_X8_toldAs S1 a4 ) (fun v3 S2 => kwI S2 ((some h)) 0 3 v3 (fun S5 => kwI S5 ((some h)) 0 1 0 (fun S6 => some S6)))))) = some S1 := hh
  refine rw_aload_n E (j0 := 0) rfl rfl dX0_about_0 ?_
  refine rw_aload_n E (j0 := 1) rfl rfl dX0_about_1 ?_
  refine rw_putP E hh (C := RX0) (T := TX0) (N := 4) (ty0 := tyX0) rfl tyX0_ok nmX0 (by decide) i_X0_about_0 (by decide) rfl (List.mem_of_getElem? (i := 1) (by decide +kernel)) rfl (Or.inl rfl) (Or.inl ⟨_, rfl⟩) dX0_about_2 (fun S1 hh => ?_)
  refine rw_aload_n E (j0 := 0) rfl rfl dX0_about_5 ?_
  refine rw_aload_n E (j0 := 1) rfl rfl dX0_about_6 ?_
  refine rw_cVi E (As := []) hh (by decide) rfl (fun _ _ _ hq => c_X8_toldAs l b0 G _ _ _ _ hq) (cwV 0 E.2.2.2.2.1 gX0_about_X8_toldAs rfl rfl rfl (by decide +kernel) ⟨Nat.le_of_ble_eq_true rfl, Nat.le_of_ble_eq_true rfl⟩) rfl rfl (by (try simp only [List.map_cons, List.map_nil, List.sum_cons, List.sum_nil, hrf_cat, cat_i, cat_l, cat_r]) <;> decide) ⟨Nat.le_of_ble_eq_true rfl, Nat.le_of_ble_eq_true rfl⟩ dX0_about_7 (fun v3 S2 hh => ?_)
  refine rw_putI E hh (C := RX0) (T := TX0) (N := 4) (ty0 := tyX0) rfl tyX0_ok nmX0 (by decide) i_X0_about_0 (by decide) rfl (List.mem_of_getElem? (i := 2) (by decide +kernel)) rfl (Or.inl rfl) rfl dX0_about_10 (fun S5 hh => ?_)
  refine rw_aload_n E (j0 := 0) rfl rfl dX0_about_13 ?_
  refine rw_iconst E (v := 0) (by decide) dX0_about_14 ?_
  refine rw_putI E hh (C := RX0) (T := TX0) (N := 4) (ty0 := tyX0) rfl tyX0_ok nmX0 (by decide) i_X0_about_0 (by decide) rfl (List.mem_of_getElem? (i := 3) (by decide +kernel)) rfl (Or.inl rfl) rfl dX0_about_15 (fun S6 hh => ?_)
  exact rw_vret E hrt hlk hh (by decide) (by decide) dX0_about_18

/-! HummingDisc$Asked.leave(I)V -/
abbrev rm_X0_leave : Room := { frames := 0, cells := 0, slots := 0, locals := 0 }
theorem i_X0_leave_0 : ∀ w ∈ wsX00, w ∈ wsX0_leave := fun _ h => List.mem_cons_of_mem _ (List.mem_append_right _ (h))
def s_X0_leave (S : HS) (h : Nat) (l1 : Int32) : Option (HS) := kI S ((some h)) 0 1 (fun v1 => kP S ((some h)) 0 0 (fun v2 => kLen S v2 14 (fun v3 => if v3 ≤ v1 then (some S) else (kP S ((some h)) 0 0 (fun v4 => kI S ((some h)) 0 1 (fun v5 => kwI S ((some h)) 0 1 (v5 + 1) (fun S6 => kwA S6 v4 14 v5 l1 (fun S7 => some S7))))))))
set_option maxHeartbeats 4000000 in
set_option maxRecDepth 100000 in
theorem c_X0_leave (l : Launch) (b0 : Nat) (G : hG) (S S1 : HS) (h : Nat) (l1 : Int32) (hh : s_X0_leave S h l1 = some S1) : MH l yX0_leave wsX0_leave rm_X0_leave b0 G S [hrf b0 (some h), .int l1] none S1 0 0 := by
  refine MH.ofW (cc := cX0_leave) (maxL := 2) (ret := none) (own := RX0) (lv0 := [(0, hrf b0 ((some h))), (1, .int l1)]) (by decide) rfl rfl (Nat.le_of_ble_eq_true rfl) rfl ?_
  intro p e s m args below meth c E hrt hlk hnm
  have hh : (kI S ((some h)) 0 1 (fun v1 => kP S ((some h)) 0 0 (fun v2 => kLen S v2 14 (fun v3 => if v3 ≤ v1 then (some S) else (kP S ((some h)) 0 0 (fun v4 => kI S ((some h)) 0 1 (fun v5 => kwI S ((some h)) 0 1 (v5 + 1) (fun S6 => kwA S6 v4 14 v5 l1 (fun S7 => some S7))))))))) = some S1 := hh
  refine rw_aload_n E (j0 := 0) rfl rfl dX0_leave_0 ?_
  refine rw_getI E hh (C := RX0) (T := TX0) (N := 4) rfl (by decide) i_X0_leave_0 (by decide) rfl (List.mem_of_getElem? (i := 1) (by decide +kernel)) rfl dX0_leave_1 (fun v1 hh => ?_)
  refine rw_aload_n E (j0 := 0) rfl rfl dX0_leave_4 ?_
  refine rw_getP E hh (C := RX0) (T := TX0) (N := 4) rfl (by decide) i_X0_leave_0 (by decide) rfl (List.mem_of_getElem? (i := 2) (by decide +kernel)) rfl dX0_leave_5 (fun v2 hh => ?_)
  refine rw_alen E hh dX0_leave_8 (fun v3 hh => ?_)
  refine rw_icmp_ge E hh (tgt := 29) (by decide) dX0_leave_9 (fun hh => ?_) (fun hh => ?_)
  · exact rw_vret E hrt hlk hh (by decide) (by decide) dX0_leave_29
  · refine rw_aload_n E (j0 := 0) rfl rfl dX0_leave_12 ?_
    refine rw_getP E hh (C := RX0) (T := TX0) (N := 4) rfl (by decide) i_X0_leave_0 (by decide) rfl (List.mem_of_getElem? (i := 2) (by decide +kernel)) rfl dX0_leave_13 (fun v4 hh => ?_)
    refine rw_aload_n E (j0 := 0) rfl rfl dX0_leave_16 ?_
    refine rw_dup E (hrf_cat _ _) dX0_leave_17 ?_
    refine rw_getI E hh (C := RX0) (T := TX0) (N := 4) rfl (by decide) i_X0_leave_0 (by decide) rfl (List.mem_of_getElem? (i := 1) (by decide +kernel)) rfl dX0_leave_18 (fun v5 hh => ?_)
    refine rw_dup_x1 E rfl (hrf_cat _ _) dX0_leave_21 ?_
    refine rw_iconst E (v := 1) (by decide) dX0_leave_22 ?_
    refine rw_iadd E dX0_leave_23 ?_
    refine rw_putI E hh (C := RX0) (T := TX0) (N := 4) (ty0 := tyX0) rfl tyX0_ok nmX0 (by decide) i_X0_leave_0 (by decide) rfl (List.mem_of_getElem? (i := 1) (by decide +kernel)) rfl (Or.inl rfl) rfl dX0_leave_24 (fun S6 hh => ?_)
    refine rw_iload_n E (j0 := 1) rfl rfl dX0_leave_27 ?_
    refine rw_iast E hh dX0_leave_28 (fun S7 hh => ?_)
    exact rw_vret E hrt hlk hh (by decide) (by decide) dX0_leave_29

/-! HummingDisc$Asked.lentSize()I -/
abbrev rm_X0_lentSize : Room := { frames := 1, cells := 0, slots := 0, locals := 26 }
theorem i_X0_lentSize_0 : ∀ w ∈ wsX00, w ∈ wsX0_lentSize := fun _ h => List.mem_cons_of_mem _ (List.mem_append_left _ (List.mem_append_right _ (h)))
theorem i_X0_lentSize_8 : ∀ w ∈ wsX80, w ∈ wsX0_lentSize := fun _ h => List.mem_cons_of_mem _ (List.mem_append_right _ (h))
def s_X0_lentSize (S : HS) (h : Nat) : Option (Int32 × HS) := kO S ((some h)) 0 (fun a2 => kcv (s_X0_leave S a2 10) (fun S1 => kP S1 ((some h)) 0 2 (fun v3 => kI S1 v3 8 3 (fun v4 => some (fabs v4, S1)))))
set_option maxHeartbeats 4000000 in
set_option maxRecDepth 100000 in
theorem c_X0_lentSize (l : Launch) (b0 : Nat) (G : hG) (S S1 : HS) (h : Nat) (r : Int32) (hh : s_X0_lentSize S h  = some (r, S1)) : MH l yX0_lentSize wsX0_lentSize rm_X0_lentSize b0 G S [hrf b0 (some h)] (some (.int r)) S1 0 0 := by
  refine MH.ofW (cc := cX0_lentSize) (maxL := 1) (ret := (some .int)) (own := RX0) (lv0 := [(0, hrf b0 ((some h)))]) (by decide) rfl rfl (Nat.le_of_ble_eq_true rfl) rfl ?_
  intro p e s m args below meth c E hrt hlk hnm
  have hh : (kO S ((some h)) 0 (fun a2 => kcv (s_X0_leave S a2 10) (fun S1 => kP S1 ((some h)) 0 2 (fun v3 => kI S1 v3 8 3 (fun v4 => some (fabs v4, S1)))))) = some (r, S1) := hh
  refine rw_aload_n E (j0 := 0) rfl rfl dX0_lentSize_0 ?_
  refine rw_bipush E (v := 10) (by decide) dX0_lentSize_1 ?_
  refine rw_cVv E (As := [.int 10]) hh (by decide) rfl (fun _ _ hq => c_X0_leave l b0 G _ _ _ _ hq) (cwV 1 E.2.2.2.2.1 gX0_lentSize_X0_leave rfl rfl rfl (by decide +kernel) ⟨Nat.le_of_ble_eq_true rfl, Nat.le_of_ble_eq_true rfl⟩) rfl rfl (by (try simp only [List.map_cons, List.map_nil, List.sum_cons, List.sum_nil, hrf_cat, cat_i, cat_l, cat_r]) <;> decide) ⟨Nat.le_of_ble_eq_true rfl, Nat.le_of_ble_eq_true rfl⟩ dX0_lentSize_3 (fun S1 hh => ?_)
  refine rw_aload_n E (j0 := 0) rfl rfl dX0_lentSize_6 ?_
  refine rw_getP E hh (C := RX0) (T := TX0) (N := 4) rfl (by decide) i_X0_lentSize_0 (by decide) rfl (List.mem_of_getElem? (i := 1) (by decide +kernel)) rfl dX0_lentSize_7 (fun v3 hh => ?_)
  refine rw_getI E hh (C := RX8) (T := TX8) (N := 12) rfl (by decide) i_X0_lentSize_8 (by decide) rfl (List.mem_of_getElem? (i := 2) (by decide +kernel)) rfl dX0_lentSize_10 (fun v4 hh => ?_)
  refine rw_mabs E ⟨by decide, (by (try simp only [List.map_cons, List.map_nil, List.sum_cons, List.sum_nil, hrf_cat, cat_i, cat_l, cat_r]) <;> decide), by decide, by decide⟩ (List.mem_of_getElem? (i := 3) (by decide +kernel)) (List.mem_of_getElem? (i := 4) (by decide +kernel)) (List.mem_of_getElem? (i := 5) (by decide +kernel)) (List.mem_of_getElem? (i := 6) (by decide +kernel)) dX0_lentSize_13 ?_
  exact rw_iret E hrt hlk hh (by decide) (by decide) dX0_lentSize_16

/-! HummingDisc$Asked.lentMark()I -/
abbrev rm_X0_lentMark : Room := { frames := 1, cells := 0, slots := 0, locals := 21 }
theorem i_X0_lentMark_0 : ∀ w ∈ wsX00, w ∈ wsX0_lentMark := fun _ h => List.mem_cons_of_mem _ (List.mem_append_left _ (List.mem_append_right _ (h)))
theorem i_X0_lentMark_8 : ∀ w ∈ wsX80, w ∈ wsX0_lentMark := fun _ h => List.mem_cons_of_mem _ (List.mem_append_right _ (h))
def s_X0_lentMark (S : HS) (h : Nat) : Option (Int32 × HS) := kO S ((some h)) 0 (fun a2 => kcv (s_X0_leave S a2 20) (fun S1 => kP S1 ((some h)) 0 2 (fun v3 => kI S1 v3 8 8 (fun v4 => some (v4, S1)))))
set_option maxHeartbeats 4000000 in
set_option maxRecDepth 100000 in
theorem c_X0_lentMark (l : Launch) (b0 : Nat) (G : hG) (S S1 : HS) (h : Nat) (r : Int32) (hh : s_X0_lentMark S h  = some (r, S1)) : MH l yX0_lentMark wsX0_lentMark rm_X0_lentMark b0 G S [hrf b0 (some h)] (some (.int r)) S1 0 0 := by
  refine MH.ofW (cc := cX0_lentMark) (maxL := 1) (ret := (some .int)) (own := RX0) (lv0 := [(0, hrf b0 ((some h)))]) (by decide) rfl rfl (Nat.le_of_ble_eq_true rfl) rfl ?_
  intro p e s m args below meth c E hrt hlk hnm
  have hh : (kO S ((some h)) 0 (fun a2 => kcv (s_X0_leave S a2 20) (fun S1 => kP S1 ((some h)) 0 2 (fun v3 => kI S1 v3 8 8 (fun v4 => some (v4, S1)))))) = some (r, S1) := hh
  refine rw_aload_n E (j0 := 0) rfl rfl dX0_lentMark_0 ?_
  refine rw_bipush E (v := 20) (by decide) dX0_lentMark_1 ?_
  refine rw_cVv E (As := [.int 20]) hh (by decide) rfl (fun _ _ hq => c_X0_leave l b0 G _ _ _ _ hq) (cwV 1 E.2.2.2.2.1 gX0_lentMark_X0_leave rfl rfl rfl (by decide +kernel) ⟨Nat.le_of_ble_eq_true rfl, Nat.le_of_ble_eq_true rfl⟩) rfl rfl (by (try simp only [List.map_cons, List.map_nil, List.sum_cons, List.sum_nil, hrf_cat, cat_i, cat_l, cat_r]) <;> decide) ⟨Nat.le_of_ble_eq_true rfl, Nat.le_of_ble_eq_true rfl⟩ dX0_lentMark_3 (fun S1 hh => ?_)
  refine rw_aload_n E (j0 := 0) rfl rfl dX0_lentMark_6 ?_
  refine rw_getP E hh (C := RX0) (T := TX0) (N := 4) rfl (by decide) i_X0_lentMark_0 (by decide) rfl (List.mem_of_getElem? (i := 1) (by decide +kernel)) rfl dX0_lentMark_7 (fun v3 hh => ?_)
  refine rw_getI E hh (C := RX8) (T := TX8) (N := 12) rfl (by decide) i_X0_lentMark_8 (by decide) rfl (List.mem_of_getElem? (i := 2) (by decide +kernel)) rfl dX0_lentMark_10 (fun v4 hh => ?_)
  exact rw_iret E hrt hlk hh (by decide) (by decide) dX0_lentMark_13

/-! HummingDisc$Asked.deadSize()I -/
abbrev rm_X0_deadSize : Room := { frames := 2, cells := 0, slots := 0, locals := 46 }
def s_X0_deadSize (S : HS) (h : Nat) : Option (Int32 × HS) := kO S ((some h)) 0 (fun a2 => kcv (s_X0_leave S a2 14) (fun S1 => kO S1 ((some h)) 0 (fun a5 => kc (s_X0_lentSize S1 a5 ) (fun v4 S3 => some (-v4, S3)))))
set_option maxHeartbeats 4000000 in
set_option maxRecDepth 100000 in
theorem c_X0_deadSize (l : Launch) (b0 : Nat) (G : hG) (S S1 : HS) (h : Nat) (r : Int32) (hh : s_X0_deadSize S h  = some (r, S1)) : MH l yX0_deadSize wsX0_deadSize rm_X0_deadSize b0 G S [hrf b0 (some h)] (some (.int r)) S1 0 0 := by
  refine MH.ofW (cc := cX0_deadSize) (maxL := 1) (ret := (some .int)) (own := RX0) (lv0 := [(0, hrf b0 ((some h)))]) (by decide) rfl rfl (Nat.le_of_ble_eq_true rfl) rfl ?_
  intro p e s m args below meth c E hrt hlk hnm
  have hh : (kO S ((some h)) 0 (fun a2 => kcv (s_X0_leave S a2 14) (fun S1 => kO S1 ((some h)) 0 (fun a5 => kc (s_X0_lentSize S1 a5 ) (fun v4 S3 => some (-v4, S3)))))) = some (r, S1) := hh
  refine rw_aload_n E (j0 := 0) rfl rfl dX0_deadSize_0 ?_
  refine rw_bipush E (v := 14) (by decide) dX0_deadSize_1 ?_
  refine rw_cVv E (As := [.int 14]) hh (by decide) rfl (fun _ _ hq => c_X0_leave l b0 G _ _ _ _ hq) (cwV 1 E.2.2.2.2.1 gX0_deadSize_X0_leave rfl rfl rfl (by decide +kernel) ⟨Nat.le_of_ble_eq_true rfl, Nat.le_of_ble_eq_true rfl⟩) rfl rfl (by (try simp only [List.map_cons, List.map_nil, List.sum_cons, List.sum_nil, hrf_cat, cat_i, cat_l, cat_r]) <;> decide) ⟨Nat.le_of_ble_eq_true rfl, Nat.le_of_ble_eq_true rfl⟩ dX0_deadSize_3 (fun S1 hh => ?_)
  refine rw_aload_n E (j0 := 0) rfl rfl dX0_deadSize_6 ?_
  refine rw_cVi E (As := []) hh (by decide) rfl (fun _ _ _ hq => c_X0_lentSize l b0 G _ _ _ _ hq) (cwV 0 E.2.2.2.2.1 gX0_deadSize_X0_lentSize rfl rfl rfl (by decide +kernel) ⟨Nat.le_of_ble_eq_true rfl, Nat.le_of_ble_eq_true rfl⟩) rfl rfl (by (try simp only [List.map_cons, List.map_nil, List.sum_cons, List.sum_nil, hrf_cat, cat_i, cat_l, cat_r]) <;> decide) ⟨Nat.le_of_ble_eq_true rfl, Nat.le_of_ble_eq_true rfl⟩ dX0_deadSize_7 (fun v4 S3 hh => ?_)
  refine rw_ineg E dX0_deadSize_10 ?_
  exact rw_iret E hrt hlk hh (by decide) (by decide) dX0_deadSize_11

/-! HummingDisc$Asked.deadMark()I -/
abbrev rm_X0_deadMark : Room := { frames := 3, cells := 0, slots := 0, locals := 66 }
def s_X0_deadMark (S : HS) (h : Nat) : Option (Int32 × HS) := kO S ((some h)) 0 (fun a2 => kcv (s_X0_leave S a2 23) (fun S1 => kO S1 ((some h)) 0 (fun a5 => kc (s_X0_lentMark S1 a5 ) (fun v4 S3 => kO S3 ((some h)) 0 (fun a8 => kc (s_X0_deadSize S3 a8 ) (fun v7 S6 => some (v4 + v7, S6)))))))
set_option maxHeartbeats 4000000 in
set_option maxRecDepth 100000 in
theorem c_X0_deadMark (l : Launch) (b0 : Nat) (G : hG) (S S1 : HS) (h : Nat) (r : Int32) (hh : s_X0_deadMark S h  = some (r, S1)) : MH l yX0_deadMark wsX0_deadMark rm_X0_deadMark b0 G S [hrf b0 (some h)] (some (.int r)) S1 0 0 := by
  refine MH.ofW (cc := cX0_deadMark) (maxL := 1) (ret := (some .int)) (own := RX0) (lv0 := [(0, hrf b0 ((some h)))]) (by decide) rfl rfl (Nat.le_of_ble_eq_true rfl) rfl ?_
  intro p e s m args below meth c E hrt hlk hnm
  have hh : (kO S ((some h)) 0 (fun a2 => kcv (s_X0_leave S a2 23) (fun S1 => kO S1 ((some h)) 0 (fun a5 => kc (s_X0_lentMark S1 a5 ) (fun v4 S3 => kO S3 ((some h)) 0 (fun a8 => kc (s_X0_deadSize S3 a8 ) (fun v7 S6 => some (v4 + v7, S6)))))))) = some (r, S1) := hh
  refine rw_aload_n E (j0 := 0) rfl rfl dX0_deadMark_0 ?_
  refine rw_bipush E (v := 23) (by decide) dX0_deadMark_1 ?_
  refine rw_cVv E (As := [.int 23]) hh (by decide) rfl (fun _ _ hq => c_X0_leave l b0 G _ _ _ _ hq) (cwV 1 E.2.2.2.2.1 gX0_deadMark_X0_leave rfl rfl rfl (by decide +kernel) ⟨Nat.le_of_ble_eq_true rfl, Nat.le_of_ble_eq_true rfl⟩) rfl rfl (by (try simp only [List.map_cons, List.map_nil, List.sum_cons, List.sum_nil, hrf_cat, cat_i, cat_l, cat_r]) <;> decide) ⟨Nat.le_of_ble_eq_true rfl, Nat.le_of_ble_eq_true rfl⟩ dX0_deadMark_3 (fun S1 hh => ?_)
  refine rw_aload_n E (j0 := 0) rfl rfl dX0_deadMark_6 ?_
  refine rw_cVi E (As := []) hh (by decide) rfl (fun _ _ _ hq => c_X0_lentMark l b0 G _ _ _ _ hq) (cwV 0 E.2.2.2.2.1 gX0_deadMark_X0_lentMark rfl rfl rfl (by decide +kernel) ⟨Nat.le_of_ble_eq_true rfl, Nat.le_of_ble_eq_true rfl⟩) rfl rfl (by (try simp only [List.map_cons, List.map_nil, List.sum_cons, List.sum_nil, hrf_cat, cat_i, cat_l, cat_r]) <;> decide) ⟨Nat.le_of_ble_eq_true rfl, Nat.le_of_ble_eq_true rfl⟩ dX0_deadMark_7 (fun v4 S3 hh => ?_)
  refine rw_aload_n E (j0 := 0) rfl rfl dX0_deadMark_10 ?_
  refine rw_cVi E (As := []) hh (by decide) rfl (fun _ _ _ hq => c_X0_deadSize l b0 G _ _ _ _ hq) (cwV 0 E.2.2.2.2.1 gX0_deadMark_X0_deadSize rfl rfl rfl (by decide +kernel) ⟨Nat.le_of_ble_eq_true rfl, Nat.le_of_ble_eq_true rfl⟩) rfl rfl (by (try simp only [List.map_cons, List.map_nil, List.sum_cons, List.sum_nil, hrf_cat, cat_i, cat_l, cat_r]) <;> decide) ⟨Nat.le_of_ble_eq_true rfl, Nat.le_of_ble_eq_true rfl⟩ dX0_deadMark_11 (fun v7 S6 hh => ?_)
  refine rw_iadd E dX0_deadMark_14 ?_
  exact rw_iret E hrt hlk hh (by decide) (by decide) dX0_deadMark_15

/-! HummingDisc$Asked.mark()I -/
abbrev rm_X0_mark : Room := { frames := 4, cells := 0, slots := 0, locals := 86 }
theorem i_X0_mark_0 : ∀ w ∈ wsX00, w ∈ wsX0_mark := fun _ h => List.mem_cons_of_mem _ (List.mem_append_left _ (List.mem_append_right _ (h)))
theorem i_X0_mark_8 : ∀ w ∈ wsX80, w ∈ wsX0_mark := fun _ h => List.mem_cons_of_mem _ (List.mem_append_right _ (h))
def s_X0_mark (S : HS) (h : Nat) : Option (Int32 × HS) := kI S ((some h)) 0 3 (fun v1 => if v1 = 1 then (kO S ((some h)) 0 (fun a3 => kcv (s_X0_leave S a3 21) (fun S2 => kO S2 ((some h)) 0 (fun a6 => kc (s_X0_lentMark S2 a6 ) (fun v5 S4 => kP S4 ((some h)) 0 2 (fun v7 => kI S4 v7 8 5 (fun v8 => some (v5 + (fabs v8), S4)))))))) else (if v1 = 2 then (kO S ((some h)) 0 (fun a11 => kc (s_X0_lentMark S a11 ) (fun v10 S9 => some (v10, S9)))) else (if v1 = 3 then (kO S ((some h)) 0 (fun a14 => kc (s_X0_deadMark S a14 ) (fun v13 S12 => some (v13, S12)))) else (if v1 = 4 then (kO S ((some h)) 0 (fun a16 => kcv (s_X0_leave S a16 22) (fun S15 => kO S15 ((some h)) 0 (fun a19 => kc (s_X0_lentMark S15 a19 ) (fun v18 S17 => some (v18 + 1000, S17)))))) else (if v1 = 5 then (kO S ((some h)) 0 (fun a21 => kcv (s_X0_leave S a21 24) (fun S20 => kO S20 ((some h)) 0 (fun a24 => kc (s_X0_deadMark S20 a24 ) (fun v23 S22 => some (-v23, S22)))))) else (kO S ((some h)) 0 (fun a27 => kc (s_X0_lentMark S a27 ) (fun v26 S25 => some (v26, S25)))))))))
set_option maxHeartbeats 4000000 in
set_option maxRecDepth 100000 in
theorem c_X0_mark (l : Launch) (b0 : Nat) (G : hG) (S S1 : HS) (h : Nat) (r : Int32) (hh : s_X0_mark S h  = some (r, S1)) : MH l yX0_mark wsX0_mark rm_X0_mark b0 G S [hrf b0 (some h)] (some (.int r)) S1 0 0 := by
  refine MH.ofW (cc := cX0_mark) (maxL := 1) (ret := (some .int)) (own := RX0) (lv0 := [(0, hrf b0 ((some h)))]) (by decide) rfl rfl (Nat.le_of_ble_eq_true rfl) rfl ?_
  intro p e s m args below meth c E hrt hlk hnm
  have hh : (kI S ((some h)) 0 3 (fun v1 => if v1 = 1 then (kO S ((some h)) 0 (fun a3 => kcv (s_X0_leave S a3 21) (fun S2 => kO S2 ((some h)) 0 (fun a6 => kc (s_X0_lentMark S2 a6 ) (fun v5 S4 => kP S4 ((some h)) 0 2 (fun v7 => kI S4 v7 8 5 (fun v8 => some (v5 + (fabs v8), S4)))))))) else (if v1 = 2 then (kO S ((some h)) 0 (fun a11 => kc (s_X0_lentMark S a11 ) (fun v10 S9 => some (v10, S9)))) else (if v1 = 3 then (kO S ((some h)) 0 (fun a14 => kc (s_X0_deadMark S a14 ) (fun v13 S12 => some (v13, S12)))) else (if v1 = 4 then (kO S ((some h)) 0 (fun a16 => kcv (s_X0_leave S a16 22) (fun S15 => kO S15 ((some h)) 0 (fun a19 => kc (s_X0_lentMark S15 a19 ) (fun v18 S17 => some (v18 + 1000, S17)))))) else (if v1 = 5 then (kO S ((some h)) 0 (fun a21 => kcv (s_X0_leave S a21 24) (fun S20 => kO S20 ((some h)) 0 (fun a24 => kc (s_X0_deadMark S20 a24 ) (fun v23 S22 => some (-v23, S22)))))) else (kO S ((some h)) 0 (fun a27 => kc (s_X0_lentMark S a27 ) (fun v26 S25 => some (v26, S25)))))))))) = some (r, S1) := hh
  refine rw_aload_n E (j0 := 0) rfl rfl dX0_mark_0 ?_
  refine rw_getI E hh (C := RX0) (T := TX0) (N := 4) rfl (by decide) i_X0_mark_0 (by decide) rfl (List.mem_of_getElem? (i := 1) (by decide +kernel)) rfl dX0_mark_1 (fun v1 hh => ?_)
  by_cases c4_0 : v1 = 1
  · rw [if_pos c4_0] at hh
    refine rw_swin E (v := 1) (tgt := 40) dX0_mark_4 c4_0 (by decide) (by decide) rfl (by decide) ?_
    refine rw_aload_n E (j0 := 0) rfl rfl dX0_mark_40 ?_
    refine rw_bipush E (v := 21) (by decide) dX0_mark_41 ?_
    refine rw_cVv E (As := [.int 21]) hh (by decide) rfl (fun _ _ hq => c_X0_leave l b0 G _ _ _ _ hq) (cwV 1 E.2.2.2.2.1 gX0_mark_X0_leave rfl rfl rfl (by decide +kernel) ⟨Nat.le_of_ble_eq_true rfl, Nat.le_of_ble_eq_true rfl⟩) rfl rfl (by (try simp only [List.map_cons, List.map_nil, List.sum_cons, List.sum_nil, hrf_cat, cat_i, cat_l, cat_r]) <;> decide) ⟨Nat.le_of_ble_eq_true rfl, Nat.le_of_ble_eq_true rfl⟩ dX0_mark_43 (fun S2 hh => ?_)
    refine rw_aload_n E (j0 := 0) rfl rfl dX0_mark_46 ?_
    refine rw_cVi E (As := []) hh (by decide) rfl (fun _ _ _ hq => c_X0_lentMark l b0 G _ _ _ _ hq) (cwV 0 E.2.2.2.2.1 gX0_mark_X0_lentMark rfl rfl rfl (by decide +kernel) ⟨Nat.le_of_ble_eq_true rfl, Nat.le_of_ble_eq_true rfl⟩) rfl rfl (by (try simp only [List.map_cons, List.map_nil, List.sum_cons, List.sum_nil, hrf_cat, cat_i, cat_l, cat_r]) <;> decide) ⟨Nat.le_of_ble_eq_true rfl, Nat.le_of_ble_eq_true rfl⟩ dX0_mark_47 (fun v5 S4 hh => ?_)
    refine rw_aload_n E (j0 := 0) rfl rfl dX0_mark_50 ?_
    refine rw_getP E hh (C := RX0) (T := TX0) (N := 4) rfl (by decide) i_X0_mark_0 (by decide) rfl (List.mem_of_getElem? (i := 2) (by decide +kernel)) rfl dX0_mark_51 (fun v7 hh => ?_)
    refine rw_getI E hh (C := RX8) (T := TX8) (N := 12) rfl (by decide) i_X0_mark_8 (by decide) rfl (List.mem_of_getElem? (i := 3) (by decide +kernel)) rfl dX0_mark_54 (fun v8 hh => ?_)
    refine rw_mabs E ⟨by decide, (by (try simp only [List.map_cons, List.map_nil, List.sum_cons, List.sum_nil, hrf_cat, cat_i, cat_l, cat_r]) <;> decide), by decide, by decide⟩ (List.mem_of_getElem? (i := 4) (by decide +kernel)) (List.mem_of_getElem? (i := 5) (by decide +kernel)) (List.mem_of_getElem? (i := 6) (by decide +kernel)) (List.mem_of_getElem? (i := 7) (by decide +kernel)) dX0_mark_57 ?_
    refine rw_iadd E dX0_mark_60 ?_
    exact rw_iret E hrt hlk hh (by decide) (by decide) dX0_mark_61
  · rw [if_neg c4_0] at hh
    by_cases c4_1 : v1 = 2
    · rw [if_pos c4_1] at hh
      refine rw_swin E (v := 2) (tgt := 94) dX0_mark_4 c4_1 (by decide) (by decide) rfl (by decide) ?_
      refine rw_aload_n E (j0 := 0) rfl rfl dX0_mark_94 ?_
      refine rw_cVi E (As := []) hh (by decide) rfl (fun _ _ _ hq => c_X0_lentMark l b0 G _ _ _ _ hq) (cwV 0 E.2.2.2.2.1 gX0_mark_X0_lentMark rfl rfl rfl (by decide +kernel) ⟨Nat.le_of_ble_eq_true rfl, Nat.le_of_ble_eq_true rfl⟩) rfl rfl (by (try simp only [List.map_cons, List.map_nil, List.sum_cons, List.sum_nil, hrf_cat, cat_i, cat_l, cat_r]) <;> decide) ⟨Nat.le_of_ble_eq_true rfl, Nat.le_of_ble_eq_true rfl⟩ dX0_mark_95 (fun v10 S9 hh => ?_)
      exact rw_iret E hrt hlk hh (by decide) (by decide) dX0_mark_98
    · rw [if_neg c4_1] at hh
      by_cases c4_2 : v1 = 3
      · rw [if_pos c4_2] at hh
        refine rw_swin E (v := 3) (tgt := 77) dX0_mark_4 c4_2 (by decide) (by decide) rfl (by decide) ?_
        refine rw_aload_n E (j0 := 0) rfl rfl dX0_mark_77 ?_
        refine rw_cVi E (As := []) hh (by decide) rfl (fun _ _ _ hq => c_X0_deadMark l b0 G _ _ _ _ hq) (cwV 0 E.2.2.2.2.1 gX0_mark_X0_deadMark rfl rfl rfl (by decide +kernel) ⟨Nat.le_of_ble_eq_true rfl, Nat.le_of_ble_eq_true rfl⟩) rfl rfl (by (try simp only [List.map_cons, List.map_nil, List.sum_cons, List.sum_nil, hrf_cat, cat_i, cat_l, cat_r]) <;> decide) ⟨Nat.le_of_ble_eq_true rfl, Nat.le_of_ble_eq_true rfl⟩ dX0_mark_78 (fun v13 S12 hh => ?_)
        exact rw_iret E hrt hlk hh (by decide) (by decide) dX0_mark_81
      · rw [if_neg c4_2] at hh
        by_cases c4_3 : v1 = 4
        · rw [if_pos c4_3] at hh
          refine rw_swin E (v := 4) (tgt := 62) dX0_mark_4 c4_3 (by decide) (by decide) rfl (by decide) ?_
          refine rw_aload_n E (j0 := 0) rfl rfl dX0_mark_62 ?_
          refine rw_bipush E (v := 22) (by decide) dX0_mark_63 ?_
          refine rw_cVv E (As := [.int 22]) hh (by decide) rfl (fun _ _ hq => c_X0_leave l b0 G _ _ _ _ hq) (cwV 1 E.2.2.2.2.1 gX0_mark_X0_leave rfl rfl rfl (by decide +kernel) ⟨Nat.le_of_ble_eq_true rfl, Nat.le_of_ble_eq_true rfl⟩) rfl rfl (by (try simp only [List.map_cons, List.map_nil, List.sum_cons, List.sum_nil, hrf_cat, cat_i, cat_l, cat_r]) <;> decide) ⟨Nat.le_of_ble_eq_true rfl, Nat.le_of_ble_eq_true rfl⟩ dX0_mark_65 (fun S15 hh => ?_)
          refine rw_aload_n E (j0 := 0) rfl rfl dX0_mark_68 ?_
          refine rw_cVi E (As := []) hh (by decide) rfl (fun _ _ _ hq => c_X0_lentMark l b0 G _ _ _ _ hq) (cwV 0 E.2.2.2.2.1 gX0_mark_X0_lentMark rfl rfl rfl (by decide +kernel) ⟨Nat.le_of_ble_eq_true rfl, Nat.le_of_ble_eq_true rfl⟩) rfl rfl (by (try simp only [List.map_cons, List.map_nil, List.sum_cons, List.sum_nil, hrf_cat, cat_i, cat_l, cat_r]) <;> decide) ⟨Nat.le_of_ble_eq_true rfl, Nat.le_of_ble_eq_true rfl⟩ dX0_mark_69 (fun v18 S17 hh => ?_)
          refine rw_sipush E (v := 1000) (by decide) dX0_mark_72 ?_
          refine rw_iadd E dX0_mark_75 ?_
          exact rw_iret E hrt hlk hh (by decide) (by decide) dX0_mark_76
        · rw [if_neg c4_3] at hh
          by_cases c4_4 : v1 = 5
          · rw [if_pos c4_4] at hh
            refine rw_swin E (v := 5) (tgt := 82) dX0_mark_4 c4_4 (by decide) (by decide) rfl (by decide) ?_
            refine rw_aload_n E (j0 := 0) rfl rfl dX0_mark_82 ?_
            refine rw_bipush E (v := 24) (by decide) dX0_mark_83 ?_
            refine rw_cVv E (As := [.int 24]) hh (by decide) rfl (fun _ _ hq => c_X0_leave l b0 G _ _ _ _ hq) (cwV 1 E.2.2.2.2.1 gX0_mark_X0_leave rfl rfl rfl (by decide +kernel) ⟨Nat.le_of_ble_eq_true rfl, Nat.le_of_ble_eq_true rfl⟩) rfl rfl (by (try simp only [List.map_cons, List.map_nil, List.sum_cons, List.sum_nil, hrf_cat, cat_i, cat_l, cat_r]) <;> decide) ⟨Nat.le_of_ble_eq_true rfl, Nat.le_of_ble_eq_true rfl⟩ dX0_mark_85 (fun S20 hh => ?_)
            refine rw_aload_n E (j0 := 0) rfl rfl dX0_mark_88 ?_
            refine rw_cVi E (As := []) hh (by decide) rfl (fun _ _ _ hq => c_X0_deadMark l b0 G _ _ _ _ hq) (cwV 0 E.2.2.2.2.1 gX0_mark_X0_deadMark rfl rfl rfl (by decide +kernel) ⟨Nat.le_of_ble_eq_true rfl, Nat.le_of_ble_eq_true rfl⟩) rfl rfl (by (try simp only [List.map_cons, List.map_nil, List.sum_cons, List.sum_nil, hrf_cat, cat_i, cat_l, cat_r]) <;> decide) ⟨Nat.le_of_ble_eq_true rfl, Nat.le_of_ble_eq_true rfl⟩ dX0_mark_89 (fun v23 S22 hh => ?_)
            refine rw_ineg E dX0_mark_92 ?_
            exact rw_iret E hrt hlk hh (by decide) (by decide) dX0_mark_93
          · rw [if_neg c4_4] at hh
            have n0 := lv_neT c4_0 (a := 1) rfl
            have n1 := lv_neT c4_1 (a := 2) rfl
            have n2 := lv_neT c4_2 (a := 3) rfl
            have n3 := lv_neT c4_3 (a := 4) rfl
            have n4 := lv_neT c4_4 (a := 5) rfl
            refine rw_swout E (tgt := 94) dX0_mark_4 (by omega) (by decide) ?_
            refine rw_aload_n E (j0 := 0) rfl rfl dX0_mark_94 ?_
            refine rw_cVi E (As := []) hh (by decide) rfl (fun _ _ _ hq => c_X0_lentMark l b0 G _ _ _ _ hq) (cwV 0 E.2.2.2.2.1 gX0_mark_X0_lentMark rfl rfl rfl (by decide +kernel) ⟨Nat.le_of_ble_eq_true rfl, Nat.le_of_ble_eq_true rfl⟩) rfl rfl (by (try simp only [List.map_cons, List.map_nil, List.sum_cons, List.sum_nil, hrf_cat, cat_i, cat_l, cat_r]) <;> decide) ⟨Nat.le_of_ble_eq_true rfl, Nat.le_of_ble_eq_true rfl⟩ dX0_mark_95 (fun v26 S25 hh => ?_)
            exact rw_iret E hrt hlk hh (by decide) (by decide) dX0_mark_98

/-! HummingDisc$Asked.windingSize()I -/
abbrev rm_X0_windingSize : Room := { frames := 5, cells := 0, slots := 0, locals := 106 }
def s_X0_windingSize (S : HS) (h : Nat) : Option (Int32 × HS) := kO S ((some h)) 0 (fun a2 => kcv (s_X0_leave S a2 12) (fun S1 => kO S1 ((some h)) 0 (fun a5 => kc (s_X0_lentSize S1 a5 ) (fun v4 S3 => kO S3 ((some h)) 0 (fun a8 => kc (s_X0_mark S3 a8 ) (fun v7 S6 => some (v4 - v7, S6)))))))
set_option maxHeartbeats 4000000 in
set_option maxRecDepth 100000 in
theorem c_X0_windingSize (l : Launch) (b0 : Nat) (G : hG) (S S1 : HS) (h : Nat) (r : Int32) (hh : s_X0_windingSize S h  = some (r, S1)) : MH l yX0_windingSize wsX0_windingSize rm_X0_windingSize b0 G S [hrf b0 (some h)] (some (.int r)) S1 0 0 := by
  refine MH.ofW (cc := cX0_windingSize) (maxL := 1) (ret := (some .int)) (own := RX0) (lv0 := [(0, hrf b0 ((some h)))]) (by decide) rfl rfl (Nat.le_of_ble_eq_true rfl) rfl ?_
  intro p e s m args below meth c E hrt hlk hnm
  have hh : (kO S ((some h)) 0 (fun a2 => kcv (s_X0_leave S a2 12) (fun S1 => kO S1 ((some h)) 0 (fun a5 => kc (s_X0_lentSize S1 a5 ) (fun v4 S3 => kO S3 ((some h)) 0 (fun a8 => kc (s_X0_mark S3 a8 ) (fun v7 S6 => some (v4 - v7, S6)))))))) = some (r, S1) := hh
  refine rw_aload_n E (j0 := 0) rfl rfl dX0_windingSize_0 ?_
  refine rw_bipush E (v := 12) (by decide) dX0_windingSize_1 ?_
  refine rw_cVv E (As := [.int 12]) hh (by decide) rfl (fun _ _ hq => c_X0_leave l b0 G _ _ _ _ hq) (cwV 1 E.2.2.2.2.1 gX0_windingSize_X0_leave rfl rfl rfl (by decide +kernel) ⟨Nat.le_of_ble_eq_true rfl, Nat.le_of_ble_eq_true rfl⟩) rfl rfl (by (try simp only [List.map_cons, List.map_nil, List.sum_cons, List.sum_nil, hrf_cat, cat_i, cat_l, cat_r]) <;> decide) ⟨Nat.le_of_ble_eq_true rfl, Nat.le_of_ble_eq_true rfl⟩ dX0_windingSize_3 (fun S1 hh => ?_)
  refine rw_aload_n E (j0 := 0) rfl rfl dX0_windingSize_6 ?_
  refine rw_cVi E (As := []) hh (by decide) rfl (fun _ _ _ hq => c_X0_lentSize l b0 G _ _ _ _ hq) (cwV 0 E.2.2.2.2.1 gX0_windingSize_X0_lentSize rfl rfl rfl (by decide +kernel) ⟨Nat.le_of_ble_eq_true rfl, Nat.le_of_ble_eq_true rfl⟩) rfl rfl (by (try simp only [List.map_cons, List.map_nil, List.sum_cons, List.sum_nil, hrf_cat, cat_i, cat_l, cat_r]) <;> decide) ⟨Nat.le_of_ble_eq_true rfl, Nat.le_of_ble_eq_true rfl⟩ dX0_windingSize_7 (fun v4 S3 hh => ?_)
  refine rw_aload_n E (j0 := 0) rfl rfl dX0_windingSize_10 ?_
  refine rw_cVi E (As := []) hh (by decide) rfl (fun _ _ _ hq => c_X0_mark l b0 G _ _ _ _ hq) (cwV 0 E.2.2.2.2.1 gX0_windingSize_X0_mark rfl rfl rfl (by decide +kernel) ⟨Nat.le_of_ble_eq_true rfl, Nat.le_of_ble_eq_true rfl⟩) rfl rfl (by (try simp only [List.map_cons, List.map_nil, List.sum_cons, List.sum_nil, hrf_cat, cat_i, cat_l, cat_r]) <;> decide) ⟨Nat.le_of_ble_eq_true rfl, Nat.le_of_ble_eq_true rfl⟩ dX0_windingSize_11 (fun v7 S6 hh => ?_)
  refine rw_isub E dX0_windingSize_14 ?_
  exact rw_iret E hrt hlk hh (by decide) (by decide) dX0_windingSize_15

/-! HummingDisc$Asked.size()I -/
abbrev rm_X0_size : Room := { frames := 6, cells := 0, slots := 0, locals := 126 }
theorem i_X0_size_0 : ∀ w ∈ wsX00, w ∈ wsX0_size := fun _ h => List.mem_cons_of_mem _ (List.mem_append_left _ (List.mem_append_right _ (h)))
def s_X0_size (S : HS) (h : Nat) : Option (Int32 × HS) := kI S ((some h)) 0 3 (fun v1 => if v1 = 1 then (kO S ((some h)) 0 (fun a3 => kcv (s_X0_leave S a3 11) (fun S2 => kO S2 ((some h)) 0 (fun a6 => kc (s_X0_lentSize S2 a6 ) (fun v5 S4 => kO S4 ((some h)) 0 (fun a9 => kc (s_X0_mark S4 a9 ) (fun v8 S7 => some (v5 + v8, S7)))))))) else (if v1 = 2 then (kO S ((some h)) 0 (fun a12 => kc (s_X0_windingSize S a12 ) (fun v11 S10 => some (v11, S10)))) else (if v1 = 3 then (kO S ((some h)) 0 (fun a15 => kc (s_X0_deadSize S a15 ) (fun v14 S13 => some (v14, S13)))) else (if v1 = 4 then (kO S ((some h)) 0 (fun a17 => kcv (s_X0_leave S a17 13) (fun S16 => kO S16 ((some h)) 0 (fun a20 => kc (s_X0_windingSize S16 a20 ) (fun v19 S18 => some (2 * v19, S18)))))) else (kO S ((some h)) 0 (fun a23 => kc (s_X0_deadSize S a23 ) (fun v22 S21 => some (v22, S21))))))))
set_option maxHeartbeats 4000000 in
set_option maxRecDepth 100000 in
theorem c_X0_size (l : Launch) (b0 : Nat) (G : hG) (S S1 : HS) (h : Nat) (r : Int32) (hh : s_X0_size S h  = some (r, S1)) : MH l yX0_size wsX0_size rm_X0_size b0 G S [hrf b0 (some h)] (some (.int r)) S1 0 0 := by
  refine MH.ofW (cc := cX0_size) (maxL := 1) (ret := (some .int)) (own := RX0) (lv0 := [(0, hrf b0 ((some h)))]) (by decide) rfl rfl (Nat.le_of_ble_eq_true rfl) rfl ?_
  intro p e s m args below meth c E hrt hlk hnm
  have hh : (kI S ((some h)) 0 3 (fun v1 => if v1 = 1 then (kO S ((some h)) 0 (fun a3 => kcv (s_X0_leave S a3 11) (fun S2 => kO S2 ((some h)) 0 (fun a6 => kc (s_X0_lentSize S2 a6 ) (fun v5 S4 => kO S4 ((some h)) 0 (fun a9 => kc (s_X0_mark S4 a9 ) (fun v8 S7 => some (v5 + v8, S7)))))))) else (if v1 = 2 then (kO S ((some h)) 0 (fun a12 => kc (s_X0_windingSize S a12 ) (fun v11 S10 => some (v11, S10)))) else (if v1 = 3 then (kO S ((some h)) 0 (fun a15 => kc (s_X0_deadSize S a15 ) (fun v14 S13 => some (v14, S13)))) else (if v1 = 4 then (kO S ((some h)) 0 (fun a17 => kcv (s_X0_leave S a17 13) (fun S16 => kO S16 ((some h)) 0 (fun a20 => kc (s_X0_windingSize S16 a20 ) (fun v19 S18 => some (2 * v19, S18)))))) else (kO S ((some h)) 0 (fun a23 => kc (s_X0_deadSize S a23 ) (fun v22 S21 => some (v22, S21))))))))) = some (r, S1) := hh
  refine rw_aload_n E (j0 := 0) rfl rfl dX0_size_0 ?_
  refine rw_getI E hh (C := RX0) (T := TX0) (N := 4) rfl (by decide) i_X0_size_0 (by decide) rfl (List.mem_of_getElem? (i := 1) (by decide +kernel)) rfl dX0_size_1 (fun v1 hh => ?_)
  by_cases c4_0 : v1 = 1
  · rw [if_pos c4_0] at hh
    refine rw_swin E (v := 1) (tgt := 36) dX0_size_4 c4_0 (by decide) (by decide) rfl (by decide) ?_
    refine rw_aload_n E (j0 := 0) rfl rfl dX0_size_36 ?_
    refine rw_bipush E (v := 11) (by decide) dX0_size_37 ?_
    refine rw_cVv E (As := [.int 11]) hh (by decide) rfl (fun _ _ hq => c_X0_leave l b0 G _ _ _ _ hq) (cwV 1 E.2.2.2.2.1 gX0_size_X0_leave rfl rfl rfl (by decide +kernel) ⟨Nat.le_of_ble_eq_true rfl, Nat.le_of_ble_eq_true rfl⟩) rfl rfl (by (try simp only [List.map_cons, List.map_nil, List.sum_cons, List.sum_nil, hrf_cat, cat_i, cat_l, cat_r]) <;> decide) ⟨Nat.le_of_ble_eq_true rfl, Nat.le_of_ble_eq_true rfl⟩ dX0_size_39 (fun S2 hh => ?_)
    refine rw_aload_n E (j0 := 0) rfl rfl dX0_size_42 ?_
    refine rw_cVi E (As := []) hh (by decide) rfl (fun _ _ _ hq => c_X0_lentSize l b0 G _ _ _ _ hq) (cwV 0 E.2.2.2.2.1 gX0_size_X0_lentSize rfl rfl rfl (by decide +kernel) ⟨Nat.le_of_ble_eq_true rfl, Nat.le_of_ble_eq_true rfl⟩) rfl rfl (by (try simp only [List.map_cons, List.map_nil, List.sum_cons, List.sum_nil, hrf_cat, cat_i, cat_l, cat_r]) <;> decide) ⟨Nat.le_of_ble_eq_true rfl, Nat.le_of_ble_eq_true rfl⟩ dX0_size_43 (fun v5 S4 hh => ?_)
    refine rw_aload_n E (j0 := 0) rfl rfl dX0_size_46 ?_
    refine rw_cVi E (As := []) hh (by decide) rfl (fun _ _ _ hq => c_X0_mark l b0 G _ _ _ _ hq) (cwV 0 E.2.2.2.2.1 gX0_size_X0_mark rfl rfl rfl (by decide +kernel) ⟨Nat.le_of_ble_eq_true rfl, Nat.le_of_ble_eq_true rfl⟩) rfl rfl (by (try simp only [List.map_cons, List.map_nil, List.sum_cons, List.sum_nil, hrf_cat, cat_i, cat_l, cat_r]) <;> decide) ⟨Nat.le_of_ble_eq_true rfl, Nat.le_of_ble_eq_true rfl⟩ dX0_size_47 (fun v8 S7 hh => ?_)
    refine rw_iadd E dX0_size_50 ?_
    exact rw_iret E hrt hlk hh (by decide) (by decide) dX0_size_51
  · rw [if_neg c4_0] at hh
    by_cases c4_1 : v1 = 2
    · rw [if_pos c4_1] at hh
      refine rw_swin E (v := 2) (tgt := 52) dX0_size_4 c4_1 (by decide) (by decide) rfl (by decide) ?_
      refine rw_aload_n E (j0 := 0) rfl rfl dX0_size_52 ?_
      refine rw_cVi E (As := []) hh (by decide) rfl (fun _ _ _ hq => c_X0_windingSize l b0 G _ _ _ _ hq) (cwV 0 E.2.2.2.2.1 gX0_size_X0_windingSize rfl rfl rfl (by decide +kernel) ⟨Nat.le_of_ble_eq_true rfl, Nat.le_of_ble_eq_true rfl⟩) rfl rfl (by (try simp only [List.map_cons, List.map_nil, List.sum_cons, List.sum_nil, hrf_cat, cat_i, cat_l, cat_r]) <;> decide) ⟨Nat.le_of_ble_eq_true rfl, Nat.le_of_ble_eq_true rfl⟩ dX0_size_53 (fun v11 S10 hh => ?_)
      exact rw_iret E hrt hlk hh (by decide) (by decide) dX0_size_56
    · rw [if_neg c4_1] at hh
      by_cases c4_2 : v1 = 3
      · rw [if_pos c4_2] at hh
        refine rw_swin E (v := 3) (tgt := 70) dX0_size_4 c4_2 (by decide) (by decide) rfl (by decide) ?_
        refine rw_aload_n E (j0 := 0) rfl rfl dX0_size_70 ?_
        refine rw_cVi E (As := []) hh (by decide) rfl (fun _ _ _ hq => c_X0_deadSize l b0 G _ _ _ _ hq) (cwV 0 E.2.2.2.2.1 gX0_size_X0_deadSize rfl rfl rfl (by decide +kernel) ⟨Nat.le_of_ble_eq_true rfl, Nat.le_of_ble_eq_true rfl⟩) rfl rfl (by (try simp only [List.map_cons, List.map_nil, List.sum_cons, List.sum_nil, hrf_cat, cat_i, cat_l, cat_r]) <;> decide) ⟨Nat.le_of_ble_eq_true rfl, Nat.le_of_ble_eq_true rfl⟩ dX0_size_71 (fun v14 S13 hh => ?_)
        exact rw_iret E hrt hlk hh (by decide) (by decide) dX0_size_74
      · rw [if_neg c4_2] at hh
        by_cases c4_3 : v1 = 4
        · rw [if_pos c4_3] at hh
          refine rw_swin E (v := 4) (tgt := 57) dX0_size_4 c4_3 (by decide) (by decide) rfl (by decide) ?_
          refine rw_aload_n E (j0 := 0) rfl rfl dX0_size_57 ?_
          refine rw_bipush E (v := 13) (by decide) dX0_size_58 ?_
          refine rw_cVv E (As := [.int 13]) hh (by decide) rfl (fun _ _ hq => c_X0_leave l b0 G _ _ _ _ hq) (cwV 1 E.2.2.2.2.1 gX0_size_X0_leave rfl rfl rfl (by decide +kernel) ⟨Nat.le_of_ble_eq_true rfl, Nat.le_of_ble_eq_true rfl⟩) rfl rfl (by (try simp only [List.map_cons, List.map_nil, List.sum_cons, List.sum_nil, hrf_cat, cat_i, cat_l, cat_r]) <;> decide) ⟨Nat.le_of_ble_eq_true rfl, Nat.le_of_ble_eq_true rfl⟩ dX0_size_60 (fun S16 hh => ?_)
          refine rw_iconst E (v := 2) (by decide) dX0_size_63 ?_
          refine rw_aload_n E (j0 := 0) rfl rfl dX0_size_64 ?_
          refine rw_cVi E (As := []) hh (by decide) rfl (fun _ _ _ hq => c_X0_windingSize l b0 G _ _ _ _ hq) (cwV 0 E.2.2.2.2.1 gX0_size_X0_windingSize rfl rfl rfl (by decide +kernel) ⟨Nat.le_of_ble_eq_true rfl, Nat.le_of_ble_eq_true rfl⟩) rfl rfl (by (try simp only [List.map_cons, List.map_nil, List.sum_cons, List.sum_nil, hrf_cat, cat_i, cat_l, cat_r]) <;> decide) ⟨Nat.le_of_ble_eq_true rfl, Nat.le_of_ble_eq_true rfl⟩ dX0_size_65 (fun v19 S18 hh => ?_)
          refine rw_imul E dX0_size_68 ?_
          exact rw_iret E hrt hlk hh (by decide) (by decide) dX0_size_69
        · rw [if_neg c4_3] at hh
          have n0 := lv_neT c4_0 (a := 1) rfl
          have n1 := lv_neT c4_1 (a := 2) rfl
          have n2 := lv_neT c4_2 (a := 3) rfl
          have n3 := lv_neT c4_3 (a := 4) rfl
          refine rw_swout E (tgt := 70) dX0_size_4 (by omega) (by decide) ?_
          refine rw_aload_n E (j0 := 0) rfl rfl dX0_size_70 ?_
          refine rw_cVi E (As := []) hh (by decide) rfl (fun _ _ _ hq => c_X0_deadSize l b0 G _ _ _ _ hq) (cwV 0 E.2.2.2.2.1 gX0_size_X0_deadSize rfl rfl rfl (by decide +kernel) ⟨Nat.le_of_ble_eq_true rfl, Nat.le_of_ble_eq_true rfl⟩) rfl rfl (by (try simp only [List.map_cons, List.map_nil, List.sum_cons, List.sum_nil, hrf_cat, cat_i, cat_l, cat_r]) <;> decide) ⟨Nat.le_of_ble_eq_true rfl, Nat.le_of_ble_eq_true rfl⟩ dX0_size_71 (fun v22 S21 hh => ?_)
          exact rw_iret E hrt hlk hh (by decide) (by decide) dX0_size_74

/-! HummingDisc$Box.<init>()V -/
abbrev rm_X1_init : Room := { frames := 1, cells := 3, slots := 12, locals := 20 }
theorem i_X1_init_1 : ∀ w ∈ wsX10, w ∈ wsX1_init := fun _ h => List.mem_cons_of_mem _ (List.mem_append_right _ (h))
def s_X1_init (S : HS) (h : Nat) : Option (HS) := kO S ((some h)) 1 (fun _ => knewA S 17 4 4 (fun o1 S2 => kwP S2 ((some h)) 1 0 o1 (fun S3 => knewA S3 16 4 4 (fun o4 S5 => kwP S5 ((some h)) 1 1 o4 (fun S6 => knewA S6 18 4 4 (fun o7 S8 => kwP S8 ((some h)) 1 2 o7 (fun S9 => some S9)))))))
set_option maxHeartbeats 4000000 in
set_option maxRecDepth 100000 in
theorem c_X1_init (l : Launch) (b0 : Nat) (G : hG) (S S1 : HS) (h : Nat) (hh : s_X1_init S h  = some S1) : MH l yX1_init wsX1_init rm_X1_init b0 G S [hrf b0 (some h)] none S1 3 12 := by
  refine MH.ofW (cc := cX1_init) (maxL := 1) (ret := none) (own := RX1) (lv0 := [(0, hrf b0 ((some h)))]) (by decide) rfl rfl (Nat.le_of_ble_eq_true rfl) rfl ?_
  intro p e s m args below meth c E hrt hlk hnm
  have hh : (kO S ((some h)) 1 (fun _ => knewA S 17 4 4 (fun o1 S2 => kwP S2 ((some h)) 1 0 o1 (fun S3 => knewA S3 16 4 4 (fun o4 S5 => kwP S5 ((some h)) 1 1 o4 (fun S6 => knewA S6 18 4 4 (fun o7 S8 => kwP S8 ((some h)) 1 2 o7 (fun S9 => some S9)))))))) = some S1 := hh
  have hc : 0 + 3 ≤ 3 := by decide
  have hs : 0 + 12 ≤ 12 := by decide
  refine rw_aload_n E (j0 := 0) rfl rfl dX1_init_0 ?_
  refine rw_objI E hh (List.mem_of_getElem? (i := 1) (by decide +kernel)) (List.mem_of_getElem? (i := 2) (by decide +kernel)) (List.mem_of_getElem? (i := 3) (by decide +kernel)) (by decide) (by (try simp only [List.map_cons, List.map_nil, List.sum_cons, List.sum_nil, hrf_cat, cat_i, cat_l, cat_r]) <;> decide) dX1_init_1 (fun hh => ?_)
  refine rw_aload_n E (j0 := 0) rfl rfl dX1_init_4 ?_
  refine rw_iconst E (v := 4) (by decide) dX1_init_5 ?_
  refine rw_newq E hh (t0 := 4) (by decide) (by decide) (fun _ => rfl) (fun q => q.1.2.1) (List.mem_of_getElem? (i := 4) (by decide +kernel)) (show _ ≤ 3 by omega) (show _ ≤ 12 by omega) dX1_init_6 (fun o1 S2 hh => ?_)
  refine rw_putP E hh (C := RX1) (T := TX1) (N := 6) (ty0 := tyX1) rfl tyX1_ok nmX1 (by decide) i_X1_init_1 (by decide) rfl (List.mem_of_getElem? (i := 5) (by decide +kernel)) rfl (Or.inr ⟨rfl, hnm, rfl⟩) (Or.inr ⟨_, rfl⟩) dX1_init_9 (fun S3 hh => ?_)
  refine rw_aload_n E (j0 := 0) rfl rfl dX1_init_12 ?_
  refine rw_iconst E (v := 4) (by decide) dX1_init_13 ?_
  refine rw_newq E hh (t0 := 3) (by decide) (by decide) (fun _ => rfl) (fun q => q.1.1) (List.mem_of_getElem? (i := 6) (by decide +kernel)) (show _ ≤ 3 by omega) (show _ ≤ 12 by omega) dX1_init_14 (fun o4 S5 hh => ?_)
  refine rw_putP E hh (C := RX1) (T := TX1) (N := 6) (ty0 := tyX1) rfl tyX1_ok nmX1 (by decide) i_X1_init_1 (by decide) rfl (List.mem_of_getElem? (i := 7) (by decide +kernel)) rfl (Or.inr ⟨rfl, hnm, rfl⟩) (Or.inr ⟨_, rfl⟩) dX1_init_17 (fun S6 hh => ?_)
  refine rw_aload_n E (j0 := 0) rfl rfl dX1_init_20 ?_
  refine rw_iconst E (v := 4) (by decide) dX1_init_21 ?_
  refine rw_newq E hh (t0 := 5) (by decide) (by decide) (fun _ => rfl) (fun q => q.1.2.2.1) (List.mem_of_getElem? (i := 8) (by decide +kernel)) (show _ ≤ 3 by omega) (show _ ≤ 12 by omega) dX1_init_22 (fun o7 S8 hh => ?_)
  refine rw_putP E hh (C := RX1) (T := TX1) (N := 6) (ty0 := tyX1) rfl tyX1_ok nmX1 (by decide) i_X1_init_1 (by decide) rfl (List.mem_of_getElem? (i := 9) (by decide +kernel)) rfl (Or.inr ⟨rfl, hnm, rfl⟩) (Or.inr ⟨_, rfl⟩) dX1_init_25 (fun S9 hh => ?_)
  exact rw_vret E hrt hlk hh (show _ ≤ 3 by omega) (show _ ≤ 12 by omega) dX1_init_28

/-! HummingDisc$Box.addDisc(LHummingDisc$Disc;)V -/
abbrev rm_X1_addDisc : Room := { frames := 0, cells := 0, slots := 0, locals := 0 }
theorem i_X1_addDisc_1 : ∀ w ∈ wsX10, w ∈ wsX1_addDisc := fun _ h => List.mem_cons_of_mem _ (List.mem_append_right _ (h))
def s_X1_addDisc (S : HS) (h : Nat) (l1 : Option Nat) : Option (HS) := kI S ((some h)) 1 3 (fun v1 => if 4 ≤ v1 then (some S) else (kP S ((some h)) 1 0 (fun v2 => kI S ((some h)) 1 3 (fun v3 => kwI S ((some h)) 1 3 (v3 + 1) (fun S4 => kwAP S4 v2 17 3 v3 l1 (fun S5 => some S5))))))
set_option maxHeartbeats 4000000 in
set_option maxRecDepth 100000 in
theorem c_X1_addDisc (l : Launch) (b0 : Nat) (G : hG) (S S1 : HS) (h : Nat) (l1 : Option Nat) (hh : s_X1_addDisc S h l1 = some S1) : MH l yX1_addDisc wsX1_addDisc rm_X1_addDisc b0 G S [hrf b0 (some h), hrf b0 l1] none S1 0 0 := by
  refine MH.ofW (cc := cX1_addDisc) (maxL := 2) (ret := none) (own := RX1) (lv0 := [(0, hrf b0 ((some h))), (1, hrf b0 l1)]) (by decide) rfl rfl (by simp [lg_sl, hrf_cat, cat_i, cat_l, cat_r]) (by simp only [lv_args, hrf_cat, cat_i, cat_l, cat_r]; rfl) ?_
  intro p e s m args below meth c E hrt hlk hnm
  have hh : (kI S ((some h)) 1 3 (fun v1 => if 4 ≤ v1 then (some S) else (kP S ((some h)) 1 0 (fun v2 => kI S ((some h)) 1 3 (fun v3 => kwI S ((some h)) 1 3 (v3 + 1) (fun S4 => kwAP S4 v2 17 3 v3 l1 (fun S5 => some S5))))))) = some S1 := hh
  refine rw_aload_n E (j0 := 0) rfl rfl dX1_addDisc_0 ?_
  refine rw_getI E hh (C := RX1) (T := TX1) (N := 6) rfl (by decide) i_X1_addDisc_1 (by decide) rfl (List.mem_of_getElem? (i := 1) (by decide +kernel)) rfl dX1_addDisc_1 (fun v1 hh => ?_)
  refine rw_iconst E (v := 4) (by decide) dX1_addDisc_4 ?_
  refine rw_icmp_ge E hh (tgt := 25) (by decide) dX1_addDisc_5 (fun hh => ?_) (fun hh => ?_)
  · exact rw_vret E hrt hlk hh (by decide) (by decide) dX1_addDisc_25
  · refine rw_aload_n E (j0 := 0) rfl rfl dX1_addDisc_8 ?_
    refine rw_getP E hh (C := RX1) (T := TX1) (N := 6) rfl (by decide) i_X1_addDisc_1 (by decide) rfl (List.mem_of_getElem? (i := 2) (by decide +kernel)) rfl dX1_addDisc_9 (fun v2 hh => ?_)
    refine rw_aload_n E (j0 := 0) rfl rfl dX1_addDisc_12 ?_
    refine rw_dup E (hrf_cat _ _) dX1_addDisc_13 ?_
    refine rw_getI E hh (C := RX1) (T := TX1) (N := 6) rfl (by decide) i_X1_addDisc_1 (by decide) rfl (List.mem_of_getElem? (i := 1) (by decide +kernel)) rfl dX1_addDisc_14 (fun v3 hh => ?_)
    refine rw_dup_x1 E rfl (hrf_cat _ _) dX1_addDisc_17 ?_
    refine rw_iconst E (v := 1) (by decide) dX1_addDisc_18 ?_
    refine rw_iadd E dX1_addDisc_19 ?_
    refine rw_putI E hh (C := RX1) (T := TX1) (N := 6) (ty0 := tyX1) rfl tyX1_ok nmX1 (by decide) i_X1_addDisc_1 (by decide) rfl (List.mem_of_getElem? (i := 1) (by decide +kernel)) rfl (Or.inl rfl) rfl dX1_addDisc_20 (fun S4 hh => ?_)
    refine rw_aload_n E (j0 := 1) rfl rfl dX1_addDisc_23 ?_
    refine rw_aast E hh (t0 := 4) (by decide) (by decide) (r := (RX3, TX3, 3)) rfl (fun _ => rfl) dX1_addDisc_24 (fun S5 hh => ?_)
    exact rw_vret E hrt hlk hh (by decide) (by decide) dX1_addDisc_25

/-! HummingDisc$Box.addCord(LHummingDisc$Cord;)V -/
abbrev rm_X1_addCord : Room := { frames := 0, cells := 0, slots := 0, locals := 0 }
theorem i_X1_addCord_1 : ∀ w ∈ wsX10, w ∈ wsX1_addCord := fun _ h => List.mem_cons_of_mem _ (List.mem_append_right _ (h))
def s_X1_addCord (S : HS) (h : Nat) (l1 : Option Nat) : Option (HS) := kI S ((some h)) 1 4 (fun v1 => if 4 ≤ v1 then (some S) else (kP S ((some h)) 1 1 (fun v2 => kI S ((some h)) 1 4 (fun v3 => kwI S ((some h)) 1 4 (v3 + 1) (fun S4 => kwAP S4 v2 16 2 v3 l1 (fun S5 => some S5))))))
set_option maxHeartbeats 4000000 in
set_option maxRecDepth 100000 in
theorem c_X1_addCord (l : Launch) (b0 : Nat) (G : hG) (S S1 : HS) (h : Nat) (l1 : Option Nat) (hh : s_X1_addCord S h l1 = some S1) : MH l yX1_addCord wsX1_addCord rm_X1_addCord b0 G S [hrf b0 (some h), hrf b0 l1] none S1 0 0 := by
  refine MH.ofW (cc := cX1_addCord) (maxL := 2) (ret := none) (own := RX1) (lv0 := [(0, hrf b0 ((some h))), (1, hrf b0 l1)]) (by decide) rfl rfl (by simp [lg_sl, hrf_cat, cat_i, cat_l, cat_r]) (by simp only [lv_args, hrf_cat, cat_i, cat_l, cat_r]; rfl) ?_
  intro p e s m args below meth c E hrt hlk hnm
  have hh : (kI S ((some h)) 1 4 (fun v1 => if 4 ≤ v1 then (some S) else (kP S ((some h)) 1 1 (fun v2 => kI S ((some h)) 1 4 (fun v3 => kwI S ((some h)) 1 4 (v3 + 1) (fun S4 => kwAP S4 v2 16 2 v3 l1 (fun S5 => some S5))))))) = some S1 := hh
  refine rw_aload_n E (j0 := 0) rfl rfl dX1_addCord_0 ?_
  refine rw_getI E hh (C := RX1) (T := TX1) (N := 6) rfl (by decide) i_X1_addCord_1 (by decide) rfl (List.mem_of_getElem? (i := 1) (by decide +kernel)) rfl dX1_addCord_1 (fun v1 hh => ?_)
  refine rw_iconst E (v := 4) (by decide) dX1_addCord_4 ?_
  refine rw_icmp_ge E hh (tgt := 25) (by decide) dX1_addCord_5 (fun hh => ?_) (fun hh => ?_)
  · exact rw_vret E hrt hlk hh (by decide) (by decide) dX1_addCord_25
  · refine rw_aload_n E (j0 := 0) rfl rfl dX1_addCord_8 ?_
    refine rw_getP E hh (C := RX1) (T := TX1) (N := 6) rfl (by decide) i_X1_addCord_1 (by decide) rfl (List.mem_of_getElem? (i := 2) (by decide +kernel)) rfl dX1_addCord_9 (fun v2 hh => ?_)
    refine rw_aload_n E (j0 := 0) rfl rfl dX1_addCord_12 ?_
    refine rw_dup E (hrf_cat _ _) dX1_addCord_13 ?_
    refine rw_getI E hh (C := RX1) (T := TX1) (N := 6) rfl (by decide) i_X1_addCord_1 (by decide) rfl (List.mem_of_getElem? (i := 1) (by decide +kernel)) rfl dX1_addCord_14 (fun v3 hh => ?_)
    refine rw_dup_x1 E rfl (hrf_cat _ _) dX1_addCord_17 ?_
    refine rw_iconst E (v := 1) (by decide) dX1_addCord_18 ?_
    refine rw_iadd E dX1_addCord_19 ?_
    refine rw_putI E hh (C := RX1) (T := TX1) (N := 6) (ty0 := tyX1) rfl tyX1_ok nmX1 (by decide) i_X1_addCord_1 (by decide) rfl (List.mem_of_getElem? (i := 1) (by decide +kernel)) rfl (Or.inl rfl) rfl dX1_addCord_20 (fun S4 hh => ?_)
    refine rw_aload_n E (j0 := 1) rfl rfl dX1_addCord_23 ?_
    refine rw_aast E hh (t0 := 3) (by decide) (by decide) (r := (RX2, TX2, 4)) rfl (fun _ => rfl) dX1_addCord_24 (fun S5 hh => ?_)
    exact rw_vret E hrt hlk hh (by decide) (by decide) dX1_addCord_25

/-! HummingDisc$Box.addHand(LHummingDisc$Hand;)V -/
abbrev rm_X1_addHand : Room := { frames := 0, cells := 0, slots := 0, locals := 0 }
theorem i_X1_addHand_1 : ∀ w ∈ wsX10, w ∈ wsX1_addHand := fun _ h => List.mem_cons_of_mem _ (List.mem_append_right _ (h))
def s_X1_addHand (S : HS) (h : Nat) (l1 : Option Nat) : Option (HS) := kI S ((some h)) 1 5 (fun v1 => if 4 ≤ v1 then (some S) else (kP S ((some h)) 1 2 (fun v2 => kI S ((some h)) 1 5 (fun v3 => kwI S ((some h)) 1 5 (v3 + 1) (fun S4 => kwAP S4 v2 18 5 v3 l1 (fun S5 => some S5))))))
set_option maxHeartbeats 4000000 in
set_option maxRecDepth 100000 in
theorem c_X1_addHand (l : Launch) (b0 : Nat) (G : hG) (S S1 : HS) (h : Nat) (l1 : Option Nat) (hh : s_X1_addHand S h l1 = some S1) : MH l yX1_addHand wsX1_addHand rm_X1_addHand b0 G S [hrf b0 (some h), hrf b0 l1] none S1 0 0 := by
  refine MH.ofW (cc := cX1_addHand) (maxL := 2) (ret := none) (own := RX1) (lv0 := [(0, hrf b0 ((some h))), (1, hrf b0 l1)]) (by decide) rfl rfl (by simp [lg_sl, hrf_cat, cat_i, cat_l, cat_r]) (by simp only [lv_args, hrf_cat, cat_i, cat_l, cat_r]; rfl) ?_
  intro p e s m args below meth c E hrt hlk hnm
  have hh : (kI S ((some h)) 1 5 (fun v1 => if 4 ≤ v1 then (some S) else (kP S ((some h)) 1 2 (fun v2 => kI S ((some h)) 1 5 (fun v3 => kwI S ((some h)) 1 5 (v3 + 1) (fun S4 => kwAP S4 v2 18 5 v3 l1 (fun S5 => some S5))))))) = some S1 := hh
  refine rw_aload_n E (j0 := 0) rfl rfl dX1_addHand_0 ?_
  refine rw_getI E hh (C := RX1) (T := TX1) (N := 6) rfl (by decide) i_X1_addHand_1 (by decide) rfl (List.mem_of_getElem? (i := 1) (by decide +kernel)) rfl dX1_addHand_1 (fun v1 hh => ?_)
  refine rw_iconst E (v := 4) (by decide) dX1_addHand_4 ?_
  refine rw_icmp_ge E hh (tgt := 25) (by decide) dX1_addHand_5 (fun hh => ?_) (fun hh => ?_)
  · exact rw_vret E hrt hlk hh (by decide) (by decide) dX1_addHand_25
  · refine rw_aload_n E (j0 := 0) rfl rfl dX1_addHand_8 ?_
    refine rw_getP E hh (C := RX1) (T := TX1) (N := 6) rfl (by decide) i_X1_addHand_1 (by decide) rfl (List.mem_of_getElem? (i := 2) (by decide +kernel)) rfl dX1_addHand_9 (fun v2 hh => ?_)
    refine rw_aload_n E (j0 := 0) rfl rfl dX1_addHand_12 ?_
    refine rw_dup E (hrf_cat _ _) dX1_addHand_13 ?_
    refine rw_getI E hh (C := RX1) (T := TX1) (N := 6) rfl (by decide) i_X1_addHand_1 (by decide) rfl (List.mem_of_getElem? (i := 1) (by decide +kernel)) rfl dX1_addHand_14 (fun v3 hh => ?_)
    refine rw_dup_x1 E rfl (hrf_cat _ _) dX1_addHand_17 ?_
    refine rw_iconst E (v := 1) (by decide) dX1_addHand_18 ?_
    refine rw_iadd E dX1_addHand_19 ?_
    refine rw_putI E hh (C := RX1) (T := TX1) (N := 6) (ty0 := tyX1) rfl tyX1_ok nmX1 (by decide) i_X1_addHand_1 (by decide) rfl (List.mem_of_getElem? (i := 1) (by decide +kernel)) rfl (Or.inl rfl) rfl dX1_addHand_20 (fun S4 hh => ?_)
    refine rw_aload_n E (j0 := 1) rfl rfl dX1_addHand_23 ?_
    refine rw_aast E hh (t0 := 5) (by decide) (by decide) (r := (RX5, TX5, 2)) rfl (fun _ => rfl) dX1_addHand_24 (fun S5 hh => ?_)
    exact rw_vret E hrt hlk hh (by decide) (by decide) dX1_addHand_25

/-! HummingDisc$Box.rulesOfAll()I -/
abbrev rm_X1_rulesOfAll : Room := { frames := 0, cells := 0, slots := 0, locals := 0 }
theorem i_X1_rulesOfAll_1 : ∀ w ∈ wsX10, w ∈ wsX1_rulesOfAll := fun _ h => List.mem_cons_of_mem _ (List.mem_append_left _ (List.mem_append_right _ (h)))
theorem i_X1_rulesOfAll_5 : ∀ w ∈ wsX50, w ∈ wsX1_rulesOfAll := fun _ h => List.mem_cons_of_mem _ (List.mem_append_right _ (h))
def s_X1_rulesOfAll_b4 (j4 : HS → Int32 → Int32 → Option (Int32 × HS)) (h : Nat) (S : HS) (l1 : Int32) (l2 : Int32) : Option (Int32 × HS) := kI S ((some h)) 1 5 (fun v1 => if v1 ≤ l2 then (some (l1, S)) else (kP S ((some h)) 1 2 (fun v2 => kAP S v2 18 l2 (fun v3 => kI S v3 5 1 (fun v4 => j4 S (l1 + v4) (l2 + 1))))))
set_option maxHeartbeats 4000000 in
set_option maxRecDepth 100000 in
theorem w_X1_rulesOfAll_b4 {p : Program} {l : Launch} {e : Env} {s : State} {m : MethodId} {args : Array Value} {below : List Frame} {meth : Method} {c : Code} {b0 : Nat} {G : hG} {S1 : HS} {r : Int32} {j4 : HS → Int32 → Int32 → Option (Int32 × HS)} {h : Nat} {S : HS} {l1 : Int32} {l2 : Int32} (E : hE p s m args c b0 G cX1_rulesOfAll RX1 3 wsX1_rulesOfAll) (hrt : meth.sig.returnType = (some .int)) (hlk : meth.locks = false) (hj4 : ∀ (S : HS) (l1 : Int32) (l2 : Int32), j4 S l1 l2 = some (r, S1) → WH p l e rm_X1_rulesOfAll s m args below meth c b0 G 3 0 0 (MQ below (hQ b0 G (some (.int r)) S1) args s 0 0 (hA b0)) S 4 [(0, hrf b0 ((some h))), (1, .int l1), (2, .int l2)] []) (hh : s_X1_rulesOfAll_b4 j4 h S l1 l2 = some (r, S1)) : WH p l e rm_X1_rulesOfAll s m args below meth c b0 G 3 0 0 (MQ below (hQ b0 G (some (.int r)) S1) args s 0 0 (hA b0)) S 4 [(0, hrf b0 ((some h))), (1, .int l1), (2, .int l2)] [] := by
  have hh : (kI S ((some h)) 1 5 (fun v1 => if v1 ≤ l2 then (some (l1, S)) else (kP S ((some h)) 1 2 (fun v2 => kAP S v2 18 l2 (fun v3 => kI S v3 5 1 (fun v4 => j4 S (l1 + v4) (l2 + 1))))))) = some (r, S1) := hh
  refine rw_iload_n E (j0 := 2) rfl rfl dX1_rulesOfAll_4 ?_
  refine rw_aload_n E (j0 := 0) rfl rfl dX1_rulesOfAll_5 ?_
  refine rw_getI E hh (C := RX1) (T := TX1) (N := 6) rfl (by decide) i_X1_rulesOfAll_1 (by decide) rfl (List.mem_of_getElem? (i := 1) (by decide +kernel)) rfl dX1_rulesOfAll_6 (fun v1 hh => ?_)
  refine rw_icmp_ge E hh (tgt := 30) (by decide) dX1_rulesOfAll_9 (fun hh => ?_) (fun hh => ?_)
  · refine rw_iload_n E (j0 := 1) rfl rfl dX1_rulesOfAll_30 ?_
    exact rw_iret E hrt hlk hh (by decide) (by decide) dX1_rulesOfAll_31
  · refine rw_iload_n E (j0 := 1) rfl rfl dX1_rulesOfAll_12 ?_
    refine rw_aload_n E (j0 := 0) rfl rfl dX1_rulesOfAll_13 ?_
    refine rw_getP E hh (C := RX1) (T := TX1) (N := 6) rfl (by decide) i_X1_rulesOfAll_1 (by decide) rfl (List.mem_of_getElem? (i := 2) (by decide +kernel)) rfl dX1_rulesOfAll_14 (fun v2 hh => ?_)
    refine rw_iload_n E (j0 := 2) rfl rfl dX1_rulesOfAll_17 ?_
    refine rw_aald E hh (t0 := 5) (by decide) (fun _ => rfl) dX1_rulesOfAll_18 (fun v3 hh => ?_)
    refine rw_getI E hh (C := RX5) (T := TX5) (N := 2) rfl (by decide) i_X1_rulesOfAll_5 (by decide) rfl (List.mem_of_getElem? (i := 3) (by decide +kernel)) rfl dX1_rulesOfAll_19 (fun v4 hh => ?_)
    refine rw_iadd E dX1_rulesOfAll_22 ?_
    refine rw_istore_n E (lv2 := [(1, .int (l1 + v4)), (0, hrf b0 ((some h))), (2, .int l2)]) rfl (by decide) rfl dX1_rulesOfAll_23 ?_
    refine rw_iinc E (v := l2 + 1) (lv2 := [(2, .int (l2 + 1)), (1, .int (l1 + v4)), (0, hrf b0 ((some h)))]) (j0 := 2) rfl rfl (by decide) rfl dX1_rulesOfAll_24 ?_
    refine rw_goto E (tgt := 4) (by decide) dX1_rulesOfAll_27 ?_
    refine WH.pick [2, 1, 0] rfl ?_
    exact hj4 _ _ _ hh
def s_X1_rulesOfAll_L4 (h : Nat) : Nat → HS → Int32 → Int32 → Option (Int32 × HS)
  | 0 => fun _ _ _ => none
  | n + 1 => s_X1_rulesOfAll_b4 (s_X1_rulesOfAll_L4 h n) h
set_option maxHeartbeats 4000000 in
set_option maxRecDepth 100000 in
theorem w_X1_rulesOfAll_L4 {p : Program} {l : Launch} {e : Env} {s : State} {m : MethodId} {args : Array Value} {below : List Frame} {meth : Method} {c : Code} {b0 : Nat} {G : hG} {S1 : HS} {r : Int32} {h : Nat} (E : hE p s m args c b0 G cX1_rulesOfAll RX1 3 wsX1_rulesOfAll) (hrt : meth.sig.returnType = (some .int)) (hlk : meth.locks = false) : ∀ (n : Nat) (S : HS) (l1 : Int32) (l2 : Int32), s_X1_rulesOfAll_L4 h n S l1 l2 = some (r, S1) → WH p l e rm_X1_rulesOfAll s m args below meth c b0 G 3 0 0 (MQ below (hQ b0 G (some (.int r)) S1) args s 0 0 (hA b0)) S 4 [(0, hrf b0 ((some h))), (1, .int l1), (2, .int l2)] [] := by
  intro n
  induction n with
  | zero => intro _ _ _ hh; exact absurd hh (by simp [s_X1_rulesOfAll_L4])
  | succ n ih => intro _ _ _ hh; exact w_X1_rulesOfAll_b4 E hrt hlk  ih hh
def s_X1_rulesOfAll (S : HS) (h : Nat) : Option (Int32 × HS) := s_X1_rulesOfAll_L4 h 100000 S 0 0
set_option maxHeartbeats 4000000 in
set_option maxRecDepth 100000 in
theorem c_X1_rulesOfAll (l : Launch) (b0 : Nat) (G : hG) (S S1 : HS) (h : Nat) (r : Int32) (hh : s_X1_rulesOfAll S h  = some (r, S1)) : MH l yX1_rulesOfAll wsX1_rulesOfAll rm_X1_rulesOfAll b0 G S [hrf b0 (some h)] (some (.int r)) S1 0 0 := by
  refine MH.ofW (cc := cX1_rulesOfAll) (maxL := 3) (ret := (some .int)) (own := RX1) (lv0 := [(0, hrf b0 ((some h)))]) (by decide) rfl rfl (Nat.le_of_ble_eq_true rfl) rfl ?_
  intro p e s m args below meth c E hrt hlk hnm
  have hh : (s_X1_rulesOfAll_L4 h 100000 S 0 0) = some (r, S1) := hh
  refine rw_iconst E (v := 0) (by decide) dX1_rulesOfAll_0 ?_
  refine rw_istore_n E (lv2 := [(1, .int 0), (0, hrf b0 ((some h)))]) rfl (by decide) rfl dX1_rulesOfAll_1 ?_
  refine rw_iconst E (v := 0) (by decide) dX1_rulesOfAll_2 ?_
  refine rw_istore_n E (lv2 := [(2, .int 0), (1, .int 0), (0, hrf b0 ((some h)))]) rfl (by decide) rfl dX1_rulesOfAll_3 ?_
  refine WH.pick [2, 1, 0] rfl ?_
  exact w_X1_rulesOfAll_L4 E hrt hlk 100000 _ _ _ hh

/-! HummingDisc$Cord.<init>(IIII)V -/
abbrev rm_X2_init : Room := { frames := 1, cells := 0, slots := 0, locals := 20 }
theorem i_X2_init_2 : ∀ w ∈ wsX20, w ∈ wsX2_init := fun _ h => List.mem_cons_of_mem _ (List.mem_append_right _ (h))
def s_X2_init (S : HS) (h : Nat) (l1 : Int32) (l2 : Int32) (l3 : Int32) (l4 : Int32) : Option (HS) := kO S ((some h)) 2 (fun _ => kwI S ((some h)) 2 0 l1 (fun S1 => kwI S1 ((some h)) 2 1 l2 (fun S2 => kwI S2 ((some h)) 2 2 l3 (fun S3 => kwI S3 ((some h)) 2 3 l4 (fun S4 => some S4)))))
set_option maxHeartbeats 4000000 in
set_option maxRecDepth 100000 in
theorem c_X2_init (l : Launch) (b0 : Nat) (G : hG) (S S1 : HS) (h : Nat) (l1 : Int32) (l2 : Int32) (l3 : Int32) (l4 : Int32) (hh : s_X2_init S h l1 l2 l3 l4 = some S1) : MH l yX2_init wsX2_init rm_X2_init b0 G S [hrf b0 (some h), .int l1, .int l2, .int l3, .int l4] none S1 0 0 := by
  refine MH.ofW (cc := cX2_init) (maxL := 5) (ret := none) (own := RX2) (lv0 := [(0, hrf b0 ((some h))), (1, .int l1), (2, .int l2), (3, .int l3), (4, .int l4)]) (by decide) rfl rfl (Nat.le_of_ble_eq_true rfl) rfl ?_
  intro p e s m args below meth c E hrt hlk hnm
  have hh : (kO S ((some h)) 2 (fun _ => kwI S ((some h)) 2 0 l1 (fun S1 => kwI S1 ((some h)) 2 1 l2 (fun S2 => kwI S2 ((some h)) 2 2 l3 (fun S3 => kwI S3 ((some h)) 2 3 l4 (fun S4 => some S4)))))) = some S1 := hh
  refine rw_aload_n E (j0 := 0) rfl rfl dX2_init_0 ?_
  refine rw_objI E hh (List.mem_of_getElem? (i := 1) (by decide +kernel)) (List.mem_of_getElem? (i := 2) (by decide +kernel)) (List.mem_of_getElem? (i := 3) (by decide +kernel)) (by decide) (by (try simp only [List.map_cons, List.map_nil, List.sum_cons, List.sum_nil, hrf_cat, cat_i, cat_l, cat_r]) <;> decide) dX2_init_1 (fun hh => ?_)
  refine rw_aload_n E (j0 := 0) rfl rfl dX2_init_4 ?_
  refine rw_iload_n E (j0 := 1) rfl rfl dX2_init_5 ?_
  refine rw_putI E hh (C := RX2) (T := TX2) (N := 4) (ty0 := tyX2) rfl tyX2_ok nmX2 (by decide) i_X2_init_2 (by decide) rfl (List.mem_of_getElem? (i := 4) (by decide +kernel)) rfl (Or.inr ⟨rfl, hnm, rfl⟩) rfl dX2_init_6 (fun S1 hh => ?_)
  refine rw_aload_n E (j0 := 0) rfl rfl dX2_init_9 ?_
  refine rw_iload_n E (j0 := 2) rfl rfl dX2_init_10 ?_
  refine rw_putI E hh (C := RX2) (T := TX2) (N := 4) (ty0 := tyX2) rfl tyX2_ok nmX2 (by decide) i_X2_init_2 (by decide) rfl (List.mem_of_getElem? (i := 5) (by decide +kernel)) rfl (Or.inr ⟨rfl, hnm, rfl⟩) rfl dX2_init_11 (fun S2 hh => ?_)
  refine rw_aload_n E (j0 := 0) rfl rfl dX2_init_14 ?_
  refine rw_iload_n E (j0 := 3) rfl rfl dX2_init_15 ?_
  refine rw_putI E hh (C := RX2) (T := TX2) (N := 4) (ty0 := tyX2) rfl tyX2_ok nmX2 (by decide) i_X2_init_2 (by decide) rfl (List.mem_of_getElem? (i := 6) (by decide +kernel)) rfl (Or.inr ⟨rfl, hnm, rfl⟩) rfl dX2_init_16 (fun S3 hh => ?_)
  refine rw_aload_n E (j0 := 0) rfl rfl dX2_init_19 ?_
  refine rw_iload E (j0 := 4) rfl dX2_init_20 ?_
  refine rw_putI E hh (C := RX2) (T := TX2) (N := 4) (ty0 := tyX2) rfl tyX2_ok nmX2 (by decide) i_X2_init_2 (by decide) rfl (List.mem_of_getElem? (i := 7) (by decide +kernel)) rfl (Or.inr ⟨rfl, hnm, rfl⟩) rfl dX2_init_22 (fun S4 hh => ?_)
  exact rw_vret E hrt hlk hh (by decide) (by decide) dX2_init_25

/-! HummingDisc$Cord.shortBefore(I)I -/
abbrev rm_X2_shortBefore : Room := { frames := 0, cells := 0, slots := 0, locals := 0 }
theorem i_X2_shortBefore_2 : ∀ w ∈ wsX20, w ∈ wsX2_shortBefore := fun _ h => List.mem_cons_of_mem _ (List.mem_append_right _ (h))
def s_X2_shortBefore (S : HS) (h : Nat) (l1 : Int32) : Option (Int32 × HS) := kI S ((some h)) 2 0 (fun v1 => kdiv ((l1 * l1) * v1) 1000 (fun v2 => some (v2, S)))
set_option maxHeartbeats 4000000 in
set_option maxRecDepth 100000 in
theorem c_X2_shortBefore (l : Launch) (b0 : Nat) (G : hG) (S S1 : HS) (h : Nat) (l1 : Int32) (r : Int32) (hh : s_X2_shortBefore S h l1 = some (r, S1)) : MH l yX2_shortBefore wsX2_shortBefore rm_X2_shortBefore b0 G S [hrf b0 (some h), .int l1] (some (.int r)) S1 0 0 := by
  refine MH.ofW (cc := cX2_shortBefore) (maxL := 2) (ret := (some .int)) (own := RX2) (lv0 := [(0, hrf b0 ((some h))), (1, .int l1)]) (by decide) rfl rfl (Nat.le_of_ble_eq_true rfl) rfl ?_
  intro p e s m args below meth c E hrt hlk hnm
  have hh : (kI S ((some h)) 2 0 (fun v1 => kdiv ((l1 * l1) * v1) 1000 (fun v2 => some (v2, S)))) = some (r, S1) := hh
  refine rw_iload_n E (j0 := 1) rfl rfl dX2_shortBefore_0 ?_
  refine rw_iload_n E (j0 := 1) rfl rfl dX2_shortBefore_1 ?_
  refine rw_imul E dX2_shortBefore_2 ?_
  refine rw_aload_n E (j0 := 0) rfl rfl dX2_shortBefore_3 ?_
  refine rw_getI E hh (C := RX2) (T := TX2) (N := 4) rfl (by decide) i_X2_shortBefore_2 (by decide) rfl (List.mem_of_getElem? (i := 1) (by decide +kernel)) rfl dX2_shortBefore_4 (fun v1 hh => ?_)
  refine rw_imul E dX2_shortBefore_7 ?_
  refine rw_sipush E (v := 1000) (by decide) dX2_shortBefore_8 ?_
  refine rw_idiv E hh dX2_shortBefore_11 (fun v2 hh => ?_)
  exact rw_iret E hrt hlk hh (by decide) (by decide) dX2_shortBefore_12

/-! HummingDisc$Cord.shortBy(I)I -/
abbrev rm_X2_shortBy : Room := { frames := 1, cells := 0, slots := 0, locals := 21 }
theorem i_X2_shortBy_2 : ∀ w ∈ wsX20, w ∈ wsX2_shortBy := fun _ h => List.mem_cons_of_mem _ (List.mem_append_right _ (h))
def s_X2_shortBy (S : HS) (h : Nat) (l1 : Int32) : Option (Int32 × HS) := kI S ((some h)) 2 1 (fun v1 => if v1 < l1 then (kI S ((some h)) 2 1 (fun v2 => kO S ((some h)) 2 (fun a5 => kc (s_X2_shortBefore S a5 v2) (fun v4 S3 => kI S3 ((some h)) 2 1 (fun v6 => kI S3 ((some h)) 2 1 (fun v7 => kO S3 ((some h)) 2 (fun a10 => kc (s_X2_shortBefore S3 a10 v7) (fun v9 S8 => kI S8 ((some h)) 2 1 (fun v11 => kO S8 ((some h)) 2 (fun a14 => kc (s_X2_shortBefore S8 a14 (v11 - 1)) (fun v13 S12 => some (v4 + ((l1 - v6) * ((2 * (v9 - v13)) + 1)), S12)))))))))))) else (kO S ((some h)) 2 (fun a17 => kc (s_X2_shortBefore S a17 l1) (fun v16 S15 => some (v16, S15)))))
set_option maxHeartbeats 4000000 in
set_option maxRecDepth 100000 in
theorem c_X2_shortBy (l : Launch) (b0 : Nat) (G : hG) (S S1 : HS) (h : Nat) (l1 : Int32) (r : Int32) (hh : s_X2_shortBy S h l1 = some (r, S1)) : MH l yX2_shortBy wsX2_shortBy rm_X2_shortBy b0 G S [hrf b0 (some h), .int l1] (some (.int r)) S1 0 0 := by
  refine MH.ofW (cc := cX2_shortBy) (maxL := 2) (ret := (some .int)) (own := RX2) (lv0 := [(0, hrf b0 ((some h))), (1, .int l1)]) (by decide) rfl rfl (Nat.le_of_ble_eq_true rfl) rfl ?_
  intro p e s m args below meth c E hrt hlk hnm
  have hh : (kI S ((some h)) 2 1 (fun v1 => if v1 < l1 then (kI S ((some h)) 2 1 (fun v2 => kO S ((some h)) 2 (fun a5 => kc (s_X2_shortBefore S a5 v2) (fun v4 S3 => kI S3 ((some h)) 2 1 (fun v6 => kI S3 ((some h)) 2 1 (fun v7 => kO S3 ((some h)) 2 (fun a10 => kc (s_X2_shortBefore S3 a10 v7) (fun v9 S8 => kI S8 ((some h)) 2 1 (fun v11 => kO S8 ((some h)) 2 (fun a14 => kc (s_X2_shortBefore S8 a14 (v11 - 1)) (fun v13 S12 => some (v4 + ((l1 - v6) * ((2 * (v9 - v13)) + 1)), S12)))))))))))) else (kO S ((some h)) 2 (fun a17 => kc (s_X2_shortBefore S a17 l1) (fun v16 S15 => some (v16, S15)))))) = some (r, S1) := hh
  refine rw_iload_n E (j0 := 1) rfl rfl dX2_shortBy_0 ?_
  refine rw_aload_n E (j0 := 0) rfl rfl dX2_shortBy_1 ?_
  refine rw_getI E hh (C := RX2) (T := TX2) (N := 4) rfl (by decide) i_X2_shortBy_2 (by decide) rfl (List.mem_of_getElem? (i := 1) (by decide +kernel)) rfl dX2_shortBy_2 (fun v1 hh => ?_)
  refine rw_icmp_gt E hh (tgt := 14) (by decide) dX2_shortBy_5 (fun hh => ?_) (fun hh => ?_)
  · refine rw_aload_n E (j0 := 0) rfl rfl dX2_shortBy_14 ?_
    refine rw_aload_n E (j0 := 0) rfl rfl dX2_shortBy_15 ?_
    refine rw_getI E hh (C := RX2) (T := TX2) (N := 4) rfl (by decide) i_X2_shortBy_2 (by decide) rfl (List.mem_of_getElem? (i := 1) (by decide +kernel)) rfl dX2_shortBy_16 (fun v2 hh => ?_)
    refine rw_cVi E (As := [.int v2]) hh (by decide) rfl (fun _ _ _ hq => c_X2_shortBefore l b0 G _ _ _ _ _ hq) (cwV 1 E.2.2.2.2.1 gX2_shortBy_X2_shortBefore rfl rfl rfl (by decide +kernel) ⟨Nat.le_of_ble_eq_true rfl, Nat.le_of_ble_eq_true rfl⟩) rfl rfl (by (try simp only [List.map_cons, List.map_nil, List.sum_cons, List.sum_nil, hrf_cat, cat_i, cat_l, cat_r]) <;> decide) ⟨Nat.le_of_ble_eq_true rfl, Nat.le_of_ble_eq_true rfl⟩ dX2_shortBy_19 (fun v4 S3 hh => ?_)
    refine rw_iload_n E (j0 := 1) rfl rfl dX2_shortBy_22 ?_
    refine rw_aload_n E (j0 := 0) rfl rfl dX2_shortBy_23 ?_
    refine rw_getI E hh (C := RX2) (T := TX2) (N := 4) rfl (by decide) i_X2_shortBy_2 (by decide) rfl (List.mem_of_getElem? (i := 1) (by decide +kernel)) rfl dX2_shortBy_24 (fun v6 hh => ?_)
    refine rw_isub E dX2_shortBy_27 ?_
    refine rw_iconst E (v := 2) (by decide) dX2_shortBy_28 ?_
    refine rw_aload_n E (j0 := 0) rfl rfl dX2_shortBy_29 ?_
    refine rw_aload_n E (j0 := 0) rfl rfl dX2_shortBy_30 ?_
    refine rw_getI E hh (C := RX2) (T := TX2) (N := 4) rfl (by decide) i_X2_shortBy_2 (by decide) rfl (List.mem_of_getElem? (i := 1) (by decide +kernel)) rfl dX2_shortBy_31 (fun v7 hh => ?_)
    refine rw_cVi E (As := [.int v7]) hh (by decide) rfl (fun _ _ _ hq => c_X2_shortBefore l b0 G _ _ _ _ _ hq) (cwV 1 E.2.2.2.2.1 gX2_shortBy_X2_shortBefore rfl rfl rfl (by decide +kernel) ⟨Nat.le_of_ble_eq_true rfl, Nat.le_of_ble_eq_true rfl⟩) rfl rfl (by (try simp only [List.map_cons, List.map_nil, List.sum_cons, List.sum_nil, hrf_cat, cat_i, cat_l, cat_r]) <;> decide) ⟨Nat.le_of_ble_eq_true rfl, Nat.le_of_ble_eq_true rfl⟩ dX2_shortBy_34 (fun v9 S8 hh => ?_)
    refine rw_aload_n E (j0 := 0) rfl rfl dX2_shortBy_37 ?_
    refine rw_aload_n E (j0 := 0) rfl rfl dX2_shortBy_38 ?_
    refine rw_getI E hh (C := RX2) (T := TX2) (N := 4) rfl (by decide) i_X2_shortBy_2 (by decide) rfl (List.mem_of_getElem? (i := 1) (by decide +kernel)) rfl dX2_shortBy_39 (fun v11 hh => ?_)
    refine rw_iconst E (v := 1) (by decide) dX2_shortBy_42 ?_
    refine rw_isub E dX2_shortBy_43 ?_
    refine rw_cVi E (As := [.int (v11 - 1)]) hh (by decide) rfl (fun _ _ _ hq => c_X2_shortBefore l b0 G _ _ _ _ _ hq) (cwV 1 E.2.2.2.2.1 gX2_shortBy_X2_shortBefore rfl rfl rfl (by decide +kernel) ⟨Nat.le_of_ble_eq_true rfl, Nat.le_of_ble_eq_true rfl⟩) rfl rfl (by (try simp only [List.map_cons, List.map_nil, List.sum_cons, List.sum_nil, hrf_cat, cat_i, cat_l, cat_r]) <;> decide) ⟨Nat.le_of_ble_eq_true rfl, Nat.le_of_ble_eq_true rfl⟩ dX2_shortBy_44 (fun v13 S12 hh => ?_)
    refine rw_isub E dX2_shortBy_47 ?_
    refine rw_imul E dX2_shortBy_48 ?_
    refine rw_iconst E (v := 1) (by decide) dX2_shortBy_49 ?_
    refine rw_iadd E dX2_shortBy_50 ?_
    refine rw_imul E dX2_shortBy_51 ?_
    refine rw_iadd E dX2_shortBy_52 ?_
    exact rw_iret E hrt hlk hh (by decide) (by decide) dX2_shortBy_53
  · refine rw_aload_n E (j0 := 0) rfl rfl dX2_shortBy_8 ?_
    refine rw_iload_n E (j0 := 1) rfl rfl dX2_shortBy_9 ?_
    refine rw_cVi E (As := [.int l1]) hh (by decide) rfl (fun _ _ _ hq => c_X2_shortBefore l b0 G _ _ _ _ _ hq) (cwV 1 E.2.2.2.2.1 gX2_shortBy_X2_shortBefore rfl rfl rfl (by decide +kernel) ⟨Nat.le_of_ble_eq_true rfl, Nat.le_of_ble_eq_true rfl⟩) rfl rfl (by (try simp only [List.map_cons, List.map_nil, List.sum_cons, List.sum_nil, hrf_cat, cat_i, cat_l, cat_r]) <;> decide) ⟨Nat.le_of_ble_eq_true rfl, Nat.le_of_ble_eq_true rfl⟩ dX2_shortBy_10 (fun v16 S15 hh => ?_)
    exact rw_iret E hrt hlk hh (by decide) (by decide) dX2_shortBy_13

/-! HummingDisc$Cord.slopeAt(I)I -/
abbrev rm_X2_slopeAt : Room := { frames := 2, cells := 0, slots := 0, locals := 42 }
def s_X2_slopeAt (S : HS) (h : Nat) (l1 : Int32) : Option (Int32 × HS) := if 0 < l1 then (kO S ((some h)) 2 (fun a3 => kc (s_X2_shortBy S a3 l1) (fun v2 S1 => kO S1 ((some h)) 2 (fun a6 => kc (s_X2_shortBy S1 a6 (l1 - 1)) (fun v5 S4 => some (v2 - v5, S4)))))) else (some (0, S))
set_option maxHeartbeats 4000000 in
set_option maxRecDepth 100000 in
theorem c_X2_slopeAt (l : Launch) (b0 : Nat) (G : hG) (S S1 : HS) (h : Nat) (l1 : Int32) (r : Int32) (hh : s_X2_slopeAt S h l1 = some (r, S1)) : MH l yX2_slopeAt wsX2_slopeAt rm_X2_slopeAt b0 G S [hrf b0 (some h), .int l1] (some (.int r)) S1 0 0 := by
  refine MH.ofW (cc := cX2_slopeAt) (maxL := 2) (ret := (some .int)) (own := RX2) (lv0 := [(0, hrf b0 ((some h))), (1, .int l1)]) (by decide) rfl rfl (Nat.le_of_ble_eq_true rfl) rfl ?_
  intro p e s m args below meth c E hrt hlk hnm
  have hh : (if 0 < l1 then (kO S ((some h)) 2 (fun a3 => kc (s_X2_shortBy S a3 l1) (fun v2 S1 => kO S1 ((some h)) 2 (fun a6 => kc (s_X2_shortBy S1 a6 (l1 - 1)) (fun v5 S4 => some (v2 - v5, S4)))))) else (some (0, S))) = some (r, S1) := hh
  refine rw_iload_n E (j0 := 1) rfl rfl dX2_slopeAt_0 ?_
  refine rw_if_gt E hh (tgt := 8) (by decide) dX2_slopeAt_1 (fun hh => ?_) (fun hh => ?_)
  · refine rw_aload_n E (j0 := 0) rfl rfl dX2_slopeAt_8 ?_
    refine rw_iload_n E (j0 := 1) rfl rfl dX2_slopeAt_9 ?_
    refine rw_cVi E (As := [.int l1]) hh (by decide) rfl (fun _ _ _ hq => c_X2_shortBy l b0 G _ _ _ _ _ hq) (cwV 1 E.2.2.2.2.1 gX2_slopeAt_X2_shortBy rfl rfl rfl (by decide +kernel) ⟨Nat.le_of_ble_eq_true rfl, Nat.le_of_ble_eq_true rfl⟩) rfl rfl (by (try simp only [List.map_cons, List.map_nil, List.sum_cons, List.sum_nil, hrf_cat, cat_i, cat_l, cat_r]) <;> decide) ⟨Nat.le_of_ble_eq_true rfl, Nat.le_of_ble_eq_true rfl⟩ dX2_slopeAt_10 (fun v2 S1 hh => ?_)
    refine rw_aload_n E (j0 := 0) rfl rfl dX2_slopeAt_13 ?_
    refine rw_iload_n E (j0 := 1) rfl rfl dX2_slopeAt_14 ?_
    refine rw_iconst E (v := 1) (by decide) dX2_slopeAt_15 ?_
    refine rw_isub E dX2_slopeAt_16 ?_
    refine rw_cVi E (As := [.int (l1 - 1)]) hh (by decide) rfl (fun _ _ _ hq => c_X2_shortBy l b0 G _ _ _ _ _ hq) (cwV 1 E.2.2.2.2.1 gX2_slopeAt_X2_shortBy rfl rfl rfl (by decide +kernel) ⟨Nat.le_of_ble_eq_true rfl, Nat.le_of_ble_eq_true rfl⟩) rfl rfl (by (try simp only [List.map_cons, List.map_nil, List.sum_cons, List.sum_nil, hrf_cat, cat_i, cat_l, cat_r]) <;> decide) ⟨Nat.le_of_ble_eq_true rfl, Nat.le_of_ble_eq_true rfl⟩ dX2_slopeAt_17 (fun v5 S4 hh => ?_)
    refine rw_isub E dX2_slopeAt_20 ?_
    exact rw_iret E hrt hlk hh (by decide) (by decide) dX2_slopeAt_21
  · refine rw_iconst E (v := 0) (by decide) dX2_slopeAt_4 ?_
    refine rw_goto E (tgt := 21) (by decide) dX2_slopeAt_5 ?_
    exact rw_iret E hrt hlk hh (by decide) (by decide) dX2_slopeAt_21

/-! HummingDisc$Disc.<init>(III)V -/
abbrev rm_X3_init : Room := { frames := 1, cells := 0, slots := 0, locals := 20 }
theorem i_X3_init_3 : ∀ w ∈ wsX30, w ∈ wsX3_init := fun _ h => List.mem_cons_of_mem _ (List.mem_append_right _ (h))
def s_X3_init (S : HS) (h : Nat) (l1 : Int32) (l2 : Int32) (l3 : Int32) : Option (HS) := kO S ((some h)) 3 (fun _ => kwI S ((some h)) 3 0 l1 (fun S1 => kwI S1 ((some h)) 3 1 l2 (fun S2 => kwI S2 ((some h)) 3 2 l3 (fun S3 => some S3))))
set_option maxHeartbeats 4000000 in
set_option maxRecDepth 100000 in
theorem c_X3_init (l : Launch) (b0 : Nat) (G : hG) (S S1 : HS) (h : Nat) (l1 : Int32) (l2 : Int32) (l3 : Int32) (hh : s_X3_init S h l1 l2 l3 = some S1) : MH l yX3_init wsX3_init rm_X3_init b0 G S [hrf b0 (some h), .int l1, .int l2, .int l3] none S1 0 0 := by
  refine MH.ofW (cc := cX3_init) (maxL := 4) (ret := none) (own := RX3) (lv0 := [(0, hrf b0 ((some h))), (1, .int l1), (2, .int l2), (3, .int l3)]) (by decide) rfl rfl (Nat.le_of_ble_eq_true rfl) rfl ?_
  intro p e s m args below meth c E hrt hlk hnm
  have hh : (kO S ((some h)) 3 (fun _ => kwI S ((some h)) 3 0 l1 (fun S1 => kwI S1 ((some h)) 3 1 l2 (fun S2 => kwI S2 ((some h)) 3 2 l3 (fun S3 => some S3))))) = some S1 := hh
  refine rw_aload_n E (j0 := 0) rfl rfl dX3_init_0 ?_
  refine rw_objI E hh (List.mem_of_getElem? (i := 1) (by decide +kernel)) (List.mem_of_getElem? (i := 2) (by decide +kernel)) (List.mem_of_getElem? (i := 3) (by decide +kernel)) (by decide) (by (try simp only [List.map_cons, List.map_nil, List.sum_cons, List.sum_nil, hrf_cat, cat_i, cat_l, cat_r]) <;> decide) dX3_init_1 (fun hh => ?_)
  refine rw_aload_n E (j0 := 0) rfl rfl dX3_init_4 ?_
  refine rw_iload_n E (j0 := 1) rfl rfl dX3_init_5 ?_
  refine rw_putI E hh (C := RX3) (T := TX3) (N := 3) (ty0 := tyX3) rfl tyX3_ok nmX3 (by decide) i_X3_init_3 (by decide) rfl (List.mem_of_getElem? (i := 4) (by decide +kernel)) rfl (Or.inr ⟨rfl, hnm, rfl⟩) rfl dX3_init_6 (fun S1 hh => ?_)
  refine rw_aload_n E (j0 := 0) rfl rfl dX3_init_9 ?_
  refine rw_iload_n E (j0 := 2) rfl rfl dX3_init_10 ?_
  refine rw_putI E hh (C := RX3) (T := TX3) (N := 3) (ty0 := tyX3) rfl tyX3_ok nmX3 (by decide) i_X3_init_3 (by decide) rfl (List.mem_of_getElem? (i := 5) (by decide +kernel)) rfl (Or.inr ⟨rfl, hnm, rfl⟩) rfl dX3_init_11 (fun S2 hh => ?_)
  refine rw_aload_n E (j0 := 0) rfl rfl dX3_init_14 ?_
  refine rw_iload_n E (j0 := 3) rfl rfl dX3_init_15 ?_
  refine rw_putI E hh (C := RX3) (T := TX3) (N := 3) (ty0 := tyX3) rfl tyX3_ok nmX3 (by decide) i_X3_init_3 (by decide) rfl (List.mem_of_getElem? (i := 6) (by decide +kernel)) rfl (Or.inr ⟨rfl, hnm, rfl⟩) rfl dX3_init_16 (fun S3 hh => ?_)
  exact rw_vret E hrt hlk hh (by decide) (by decide) dX3_init_19

/-! HummingDisc$Disc.behindAir(I)I -/
abbrev rm_X3_behindAir : Room := { frames := 1, cells := 0, slots := 0, locals := 26 }
theorem i_X3_behindAir_3 : ∀ w ∈ wsX30, w ∈ wsX3_behindAir := fun _ h => List.mem_cons_of_mem _ (List.mem_append_right _ (h))
def s_X3_behindAir (S : HS) (h : Nat) (l1 : Int32) : Option (Int32 × HS) := kldiv (l1.toInt64 * l1.toInt64) 1000 (fun v1 => kI S ((some h)) 3 1 (fun v2 => kldiv (v1 * v2.toInt64) 100 (fun v3 => some ((flmax 0 (l1.toInt64 - v3) : Int64).toInt32, S))))
set_option maxHeartbeats 4000000 in
set_option maxRecDepth 100000 in
theorem c_X3_behindAir (l : Launch) (b0 : Nat) (G : hG) (S S1 : HS) (h : Nat) (l1 : Int32) (r : Int32) (hh : s_X3_behindAir S h l1 = some (r, S1)) : MH l yX3_behindAir wsX3_behindAir rm_X3_behindAir b0 G S [hrf b0 (some h), .int l1] (some (.int r)) S1 0 0 := by
  refine MH.ofW (cc := cX3_behindAir) (maxL := 4) (ret := (some .int)) (own := RX3) (lv0 := [(0, hrf b0 ((some h))), (1, .int l1)]) (by decide) rfl rfl (Nat.le_of_ble_eq_true rfl) rfl ?_
  intro p e s m args below meth c E hrt hlk hnm
  have hh : (kldiv (l1.toInt64 * l1.toInt64) 1000 (fun v1 => kI S ((some h)) 3 1 (fun v2 => kldiv (v1 * v2.toInt64) 100 (fun v3 => some ((flmax 0 (l1.toInt64 - v3) : Int64).toInt32, S))))) = some (r, S1) := hh
  refine rw_iload_n E (j0 := 1) rfl rfl dX3_behindAir_0 ?_
  refine rw_i2l E dX3_behindAir_1 ?_
  refine rw_iload_n E (j0 := 1) rfl rfl dX3_behindAir_2 ?_
  refine rw_i2l E dX3_behindAir_3 ?_
  refine rw_lmul E dX3_behindAir_4 ?_
  refine rw_ldc2 E (v := 1000) (List.mem_of_getElem? (i := 1) (by decide +kernel)) dX3_behindAir_5 ?_
  refine rw_ldiv E hh dX3_behindAir_8 (fun v1 hh => ?_)
  refine rw_aload_n E (j0 := 0) rfl rfl dX3_behindAir_9 ?_
  refine rw_getI E hh (C := RX3) (T := TX3) (N := 3) rfl (by decide) i_X3_behindAir_3 (by decide) rfl (List.mem_of_getElem? (i := 2) (by decide +kernel)) rfl dX3_behindAir_10 (fun v2 hh => ?_)
  refine rw_i2l E dX3_behindAir_13 ?_
  refine rw_lmul E dX3_behindAir_14 ?_
  refine rw_ldc2 E (v := 100) (List.mem_of_getElem? (i := 3) (by decide +kernel)) dX3_behindAir_15 ?_
  refine rw_ldiv E hh dX3_behindAir_18 (fun v3 hh => ?_)
  refine rw_lstore_n E (lv2 := [(2, .long v3), (0, hrf b0 ((some h))), (1, .int l1)]) rfl (by decide) rfl dX3_behindAir_19 ?_
  refine rw_lconst E (v := 0) (by decide) dX3_behindAir_20 ?_
  refine rw_iload_n E (j0 := 2) rfl rfl dX3_behindAir_21 ?_
  refine rw_i2l E dX3_behindAir_22 ?_
  refine rw_lload_n E (j0 := 0) rfl rfl dX3_behindAir_23 ?_
  refine rw_lsub E dX3_behindAir_24 ?_
  refine rw_mlmax E ⟨by decide, (by (try simp only [List.map_cons, List.map_nil, List.sum_cons, List.sum_nil, hrf_cat, cat_i, cat_l, cat_r]) <;> decide), by decide, by decide⟩ (List.mem_of_getElem? (i := 4) (by decide +kernel)) (List.mem_of_getElem? (i := 5) (by decide +kernel)) (List.mem_of_getElem? (i := 6) (by decide +kernel)) (List.mem_of_getElem? (i := 7) (by decide +kernel)) dX3_behindAir_25 ?_
  refine rw_l2i E dX3_behindAir_28 ?_
  exact rw_iret E hrt hlk hh (by decide) (by decide) dX3_behindAir_29

/-! HummingDisc$Disc.greatestPaceOffBy(I)I -/
abbrev rm_X3_greatestPaceOffBy : Room := { frames := 0, cells := 0, slots := 0, locals := 0 }
theorem i_X3_greatestPaceOffBy_3 : ∀ w ∈ wsX30, w ∈ wsX3_greatestPaceOffBy := fun _ h => List.mem_cons_of_mem _ (List.mem_append_right _ (h))
def s_X3_greatestPaceOffBy_b4 (j4 : HS → Int32 → Int32 → Int32 → Option (Int32 × HS)) (h : Nat) (S : HS) (l1 : Int32) (l2 : Int32) (l3 : Int32) : Option (Int32 × HS) := if 400 < l3 then (some (l2, S)) else (kdiv ((l1 * l3) * l3) 100 (fun v1 => kI S ((some h)) 3 0 (fun v2 => if v2 < v1 then (some (l2, S)) else (j4 S l1 l3 (l3 + 1)))))
set_option maxHeartbeats 4000000 in
set_option maxRecDepth 100000 in
theorem w_X3_greatestPaceOffBy_b4 {p : Program} {l : Launch} {e : Env} {s : State} {m : MethodId} {args : Array Value} {below : List Frame} {meth : Method} {c : Code} {b0 : Nat} {G : hG} {S1 : HS} {r : Int32} {j4 : HS → Int32 → Int32 → Int32 → Option (Int32 × HS)} {h : Nat} {S : HS} {l1 : Int32} {l2 : Int32} {l3 : Int32} (E : hE p s m args c b0 G cX3_greatestPaceOffBy RX3 4 wsX3_greatestPaceOffBy) (hrt : meth.sig.returnType = (some .int)) (hlk : meth.locks = false) (hj4 : ∀ (S : HS) (l1 : Int32) (l2 : Int32) (l3 : Int32), j4 S l1 l2 l3 = some (r, S1) → WH p l e rm_X3_greatestPaceOffBy s m args below meth c b0 G 4 0 0 (MQ below (hQ b0 G (some (.int r)) S1) args s 0 0 (hA b0)) S 4 [(0, hrf b0 ((some h))), (1, .int l1), (2, .int l2), (3, .int l3)] []) (hh : s_X3_greatestPaceOffBy_b4 j4 h S l1 l2 l3 = some (r, S1)) : WH p l e rm_X3_greatestPaceOffBy s m args below meth c b0 G 4 0 0 (MQ below (hQ b0 G (some (.int r)) S1) args s 0 0 (hA b0)) S 4 [(0, hrf b0 ((some h))), (1, .int l1), (2, .int l2), (3, .int l3)] [] := by
  have hh : (if 400 < l3 then (some (l2, S)) else (kdiv ((l1 * l3) * l3) 100 (fun v1 => kI S ((some h)) 3 0 (fun v2 => if v2 < v1 then (some (l2, S)) else (j4 S l1 l3 (l3 + 1)))))) = some (r, S1) := hh
  refine rw_iload_n E (j0 := 3) rfl rfl dX3_greatestPaceOffBy_4 ?_
  refine rw_sipush E (v := 400) (by decide) dX3_greatestPaceOffBy_5 ?_
  refine rw_icmp_gt E hh (tgt := 34) (by decide) dX3_greatestPaceOffBy_8 (fun hh => ?_) (fun hh => ?_)
  · refine rw_iload_n E (j0 := 2) rfl rfl dX3_greatestPaceOffBy_34 ?_
    exact rw_iret E hrt hlk hh (by decide) (by decide) dX3_greatestPaceOffBy_35
  · refine rw_iload_n E (j0 := 1) rfl rfl dX3_greatestPaceOffBy_11 ?_
    refine rw_iload_n E (j0 := 3) rfl rfl dX3_greatestPaceOffBy_12 ?_
    refine rw_imul E dX3_greatestPaceOffBy_13 ?_
    refine rw_iload_n E (j0 := 3) rfl rfl dX3_greatestPaceOffBy_14 ?_
    refine rw_imul E dX3_greatestPaceOffBy_15 ?_
    refine rw_bipush E (v := 100) (by decide) dX3_greatestPaceOffBy_16 ?_
    refine rw_idiv E hh dX3_greatestPaceOffBy_18 (fun v1 hh => ?_)
    refine rw_aload_n E (j0 := 0) rfl rfl dX3_greatestPaceOffBy_19 ?_
    refine rw_getI E hh (C := RX3) (T := TX3) (N := 3) rfl (by decide) i_X3_greatestPaceOffBy_3 (by decide) rfl (List.mem_of_getElem? (i := 1) (by decide +kernel)) rfl dX3_greatestPaceOffBy_20 (fun v2 hh => ?_)
    refine rw_icmp_gt E hh (tgt := 34) (by decide) dX3_greatestPaceOffBy_23 (fun hh => ?_) (fun hh => ?_)
    · refine rw_iload_n E (j0 := 2) rfl rfl dX3_greatestPaceOffBy_34 ?_
      exact rw_iret E hrt hlk hh (by decide) (by decide) dX3_greatestPaceOffBy_35
    · refine rw_iload_n E (j0 := 3) rfl rfl dX3_greatestPaceOffBy_26 ?_
      refine rw_istore_n E (lv2 := [(2, .int l3), (0, hrf b0 ((some h))), (1, .int l1), (3, .int l3)]) rfl (by decide) rfl dX3_greatestPaceOffBy_27 ?_
      refine rw_iinc E (v := l3 + 1) (lv2 := [(3, .int (l3 + 1)), (2, .int l3), (0, hrf b0 ((some h))), (1, .int l1)]) (j0 := 3) rfl rfl (by decide) rfl dX3_greatestPaceOffBy_28 ?_
      refine rw_goto E (tgt := 4) (by decide) dX3_greatestPaceOffBy_31 ?_
      refine WH.pick [2, 3, 1, 0] rfl ?_
      exact hj4 _ _ _ _ hh
def s_X3_greatestPaceOffBy_L4 (h : Nat) : Nat → HS → Int32 → Int32 → Int32 → Option (Int32 × HS)
  | 0 => fun _ _ _ _ => none
  | n + 1 => s_X3_greatestPaceOffBy_b4 (s_X3_greatestPaceOffBy_L4 h n) h
set_option maxHeartbeats 4000000 in
set_option maxRecDepth 100000 in
theorem w_X3_greatestPaceOffBy_L4 {p : Program} {l : Launch} {e : Env} {s : State} {m : MethodId} {args : Array Value} {below : List Frame} {meth : Method} {c : Code} {b0 : Nat} {G : hG} {S1 : HS} {r : Int32} {h : Nat} (E : hE p s m args c b0 G cX3_greatestPaceOffBy RX3 4 wsX3_greatestPaceOffBy) (hrt : meth.sig.returnType = (some .int)) (hlk : meth.locks = false) : ∀ (n : Nat) (S : HS) (l1 : Int32) (l2 : Int32) (l3 : Int32), s_X3_greatestPaceOffBy_L4 h n S l1 l2 l3 = some (r, S1) → WH p l e rm_X3_greatestPaceOffBy s m args below meth c b0 G 4 0 0 (MQ below (hQ b0 G (some (.int r)) S1) args s 0 0 (hA b0)) S 4 [(0, hrf b0 ((some h))), (1, .int l1), (2, .int l2), (3, .int l3)] [] := by
  intro n
  induction n with
  | zero => intro _ _ _ _ hh; exact absurd hh (by simp [s_X3_greatestPaceOffBy_L4])
  | succ n ih => intro _ _ _ _ hh; exact w_X3_greatestPaceOffBy_b4 E hrt hlk  ih hh
def s_X3_greatestPaceOffBy (S : HS) (h : Nat) (l1 : Int32) : Option (Int32 × HS) := s_X3_greatestPaceOffBy_L4 h 100000 S l1 0 1
set_option maxHeartbeats 4000000 in
set_option maxRecDepth 100000 in
theorem c_X3_greatestPaceOffBy (l : Launch) (b0 : Nat) (G : hG) (S S1 : HS) (h : Nat) (l1 : Int32) (r : Int32) (hh : s_X3_greatestPaceOffBy S h l1 = some (r, S1)) : MH l yX3_greatestPaceOffBy wsX3_greatestPaceOffBy rm_X3_greatestPaceOffBy b0 G S [hrf b0 (some h), .int l1] (some (.int r)) S1 0 0 := by
  refine MH.ofW (cc := cX3_greatestPaceOffBy) (maxL := 4) (ret := (some .int)) (own := RX3) (lv0 := [(0, hrf b0 ((some h))), (1, .int l1)]) (by decide) rfl rfl (Nat.le_of_ble_eq_true rfl) rfl ?_
  intro p e s m args below meth c E hrt hlk hnm
  have hh : (s_X3_greatestPaceOffBy_L4 h 100000 S l1 0 1) = some (r, S1) := hh
  refine rw_iconst E (v := 0) (by decide) dX3_greatestPaceOffBy_0 ?_
  refine rw_istore_n E (lv2 := [(2, .int 0), (0, hrf b0 ((some h))), (1, .int l1)]) rfl (by decide) rfl dX3_greatestPaceOffBy_1 ?_
  refine rw_iconst E (v := 1) (by decide) dX3_greatestPaceOffBy_2 ?_
  refine rw_istore_n E (lv2 := [(3, .int 1), (2, .int 0), (0, hrf b0 ((some h))), (1, .int l1)]) rfl (by decide) rfl dX3_greatestPaceOffBy_3 ?_
  refine WH.pick [2, 3, 1, 0] rfl ?_
  exact w_X3_greatestPaceOffBy_L4 E hrt hlk 100000 _ _ _ _ hh

/-! HummingDisc$Disc.pullsHeard([III)I -/
abbrev rm_X3_pullsHeard : Room := { frames := 0, cells := 0, slots := 0, locals := 0 }
theorem i_X3_pullsHeard_3 : ∀ w ∈ wsX30, w ∈ wsX3_pullsHeard := fun _ h => List.mem_cons_of_mem _ (List.mem_append_right _ (h))
def s_X3_pullsHeard_b79 (j11 : HS → Option Nat → Int32 → Int32 → Int32 → Int32 → Int32 → Option (Int32 × HS)) (h : Nat) (S : HS) (l1 : Option Nat) (l2 : Int32) (l3 : Int32) (l4 : Int32) (l5 : Int32) (l6 : Int32) : Option (Int32 × HS) := j11 S l1 l2 l3 l4 l5 (l6 + 1)
set_option maxHeartbeats 4000000 in
set_option maxRecDepth 100000 in
theorem w_X3_pullsHeard_b79 {p : Program} {l : Launch} {e : Env} {s : State} {m : MethodId} {args : Array Value} {below : List Frame} {meth : Method} {c : Code} {b0 : Nat} {G : hG} {S1 : HS} {r : Int32} {j11 : HS → Option Nat → Int32 → Int32 → Int32 → Int32 → Int32 → Option (Int32 × HS)} {h : Nat} {S : HS} {l1 : Option Nat} {l2 : Int32} {l3 : Int32} {l4 : Int32} {l5 : Int32} {l6 : Int32} (E : hE p s m args c b0 G cX3_pullsHeard RX3 9 wsX3_pullsHeard) (hrt : meth.sig.returnType = (some .int)) (hlk : meth.locks = false) (hj11 : ∀ (S : HS) (l1 : Option Nat) (l2 : Int32) (l3 : Int32) (l4 : Int32) (l5 : Int32) (l6 : Int32), j11 S l1 l2 l3 l4 l5 l6 = some (r, S1) → WH p l e rm_X3_pullsHeard s m args below meth c b0 G 9 0 0 (MQ below (hQ b0 G (some (.int r)) S1) args s 0 0 (hA b0)) S 11 [(0, hrf b0 ((some h))), (1, hrf b0 l1), (2, .int l2), (3, .int l3), (4, .int l4), (5, .int l5), (6, .int l6)] []) (hh : s_X3_pullsHeard_b79 j11 h S l1 l2 l3 l4 l5 l6 = some (r, S1)) : WH p l e rm_X3_pullsHeard s m args below meth c b0 G 9 0 0 (MQ below (hQ b0 G (some (.int r)) S1) args s 0 0 (hA b0)) S 79 [(0, hrf b0 ((some h))), (1, hrf b0 l1), (2, .int l2), (3, .int l3), (4, .int l4), (5, .int l5), (6, .int l6)] [] := by
  have hh : (j11 S l1 l2 l3 l4 l5 (l6 + 1)) = some (r, S1) := hh
  refine rw_iinc E (v := l6 + 1) (lv2 := [(6, .int (l6 + 1)), (0, hrf b0 ((some h))), (1, hrf b0 l1), (2, .int l2), (3, .int l3), (4, .int l4), (5, .int l5)]) (j0 := 6) rfl rfl (by decide) rfl dX3_pullsHeard_79 ?_
  refine rw_goto E (tgt := 11) (by decide) dX3_pullsHeard_82 ?_
  refine WH.pick [1, 2, 3, 4, 5, 6, 0] rfl ?_
  exact hj11 _ _ _ _ _ _ _ hh
def s_X3_pullsHeard_b77 (j11 : HS → Option Nat → Int32 → Int32 → Int32 → Int32 → Int32 → Option (Int32 × HS)) (h : Nat) (S : HS) (l1 : Option Nat) (l2 : Int32) (l3 : Int32) (l4 : Int32) (l6 : Int32) (k0 : Int32) : Option (Int32 × HS) := s_X3_pullsHeard_b79 j11 h S l1 l2 l3 l4 k0 l6
set_option maxHeartbeats 4000000 in
set_option maxRecDepth 100000 in
theorem w_X3_pullsHeard_b77 {p : Program} {l : Launch} {e : Env} {s : State} {m : MethodId} {args : Array Value} {below : List Frame} {meth : Method} {c : Code} {b0 : Nat} {G : hG} {S1 : HS} {r : Int32} {j11 : HS → Option Nat → Int32 → Int32 → Int32 → Int32 → Int32 → Option (Int32 × HS)} {h : Nat} {S : HS} {l1 : Option Nat} {l2 : Int32} {l3 : Int32} {l4 : Int32} {l6 : Int32} {k0 : Int32} (E : hE p s m args c b0 G cX3_pullsHeard RX3 9 wsX3_pullsHeard) (hrt : meth.sig.returnType = (some .int)) (hlk : meth.locks = false) (hj11 : ∀ (S : HS) (l1 : Option Nat) (l2 : Int32) (l3 : Int32) (l4 : Int32) (l5 : Int32) (l6 : Int32), j11 S l1 l2 l3 l4 l5 l6 = some (r, S1) → WH p l e rm_X3_pullsHeard s m args below meth c b0 G 9 0 0 (MQ below (hQ b0 G (some (.int r)) S1) args s 0 0 (hA b0)) S 11 [(0, hrf b0 ((some h))), (1, hrf b0 l1), (2, .int l2), (3, .int l3), (4, .int l4), (5, .int l5), (6, .int l6)] []) (hh : s_X3_pullsHeard_b77 j11 h S l1 l2 l3 l4 l6 k0 = some (r, S1)) : WH p l e rm_X3_pullsHeard s m args below meth c b0 G 9 0 0 (MQ below (hQ b0 G (some (.int r)) S1) args s 0 0 (hA b0)) S 77 [(0, hrf b0 ((some h))), (1, hrf b0 l1), (2, .int l2), (3, .int l3), (4, .int l4), (6, .int l6)] [.int k0] := by
  have hh : (s_X3_pullsHeard_b79 j11 h S l1 l2 l3 l4 k0 l6) = some (r, S1) := hh
  refine rw_istore E (lv2 := [(5, .int k0), (0, hrf b0 ((some h))), (1, hrf b0 l1), (2, .int l2), (3, .int l3), (4, .int l4), (6, .int l6)]) (by decide) rfl dX3_pullsHeard_77 ?_
  refine WH.pick [1, 2, 3, 4, 5, 0, 6] rfl ?_
  exact w_X3_pullsHeard_b79 E hrt hlk hj11 hh
def s_X3_pullsHeard_b58 (j11 : HS → Option Nat → Int32 → Int32 → Int32 → Int32 → Int32 → Option (Int32 × HS)) (h : Nat) (S : HS) (l1 : Option Nat) (l2 : Int32) (l3 : Int32) (l4 : Int32) (l5 : Int32) (l6 : Int32) (l7 : Int32) (l8 : Int32) : Option (Int32 × HS) := if l8 = l7 then (s_X3_pullsHeard_b79 j11 h S l1 l2 l3 l4 l5 l6) else (if l7 ≤ l8 then (s_X3_pullsHeard_b77 j11 h S l1 l2 l3 l4 l6 0) else (s_X3_pullsHeard_b77 j11 h S l1 l2 l3 l4 l6 1))
set_option maxHeartbeats 4000000 in
set_option maxRecDepth 100000 in
theorem w_X3_pullsHeard_b58 {p : Program} {l : Launch} {e : Env} {s : State} {m : MethodId} {args : Array Value} {below : List Frame} {meth : Method} {c : Code} {b0 : Nat} {G : hG} {S1 : HS} {r : Int32} {j11 : HS → Option Nat → Int32 → Int32 → Int32 → Int32 → Int32 → Option (Int32 × HS)} {h : Nat} {S : HS} {l1 : Option Nat} {l2 : Int32} {l3 : Int32} {l4 : Int32} {l5 : Int32} {l6 : Int32} {l7 : Int32} {l8 : Int32} (E : hE p s m args c b0 G cX3_pullsHeard RX3 9 wsX3_pullsHeard) (hrt : meth.sig.returnType = (some .int)) (hlk : meth.locks = false) (hj11 : ∀ (S : HS) (l1 : Option Nat) (l2 : Int32) (l3 : Int32) (l4 : Int32) (l5 : Int32) (l6 : Int32), j11 S l1 l2 l3 l4 l5 l6 = some (r, S1) → WH p l e rm_X3_pullsHeard s m args below meth c b0 G 9 0 0 (MQ below (hQ b0 G (some (.int r)) S1) args s 0 0 (hA b0)) S 11 [(0, hrf b0 ((some h))), (1, hrf b0 l1), (2, .int l2), (3, .int l3), (4, .int l4), (5, .int l5), (6, .int l6)] []) (hh : s_X3_pullsHeard_b58 j11 h S l1 l2 l3 l4 l5 l6 l7 l8 = some (r, S1)) : WH p l e rm_X3_pullsHeard s m args below meth c b0 G 9 0 0 (MQ below (hQ b0 G (some (.int r)) S1) args s 0 0 (hA b0)) S 58 [(0, hrf b0 ((some h))), (1, hrf b0 l1), (2, .int l2), (3, .int l3), (4, .int l4), (5, .int l5), (6, .int l6), (7, .int l7), (8, .int l8)] [] := by
  have hh : (if l8 = l7 then (s_X3_pullsHeard_b79 j11 h S l1 l2 l3 l4 l5 l6) else (if l7 ≤ l8 then (s_X3_pullsHeard_b77 j11 h S l1 l2 l3 l4 l6 0) else (s_X3_pullsHeard_b77 j11 h S l1 l2 l3 l4 l6 1))) = some (r, S1) := hh
  refine rw_iload E (j0 := 8) rfl dX3_pullsHeard_58 ?_
  refine rw_iload E (j0 := 7) rfl dX3_pullsHeard_60 ?_
  refine rw_icmp_eq E hh (tgt := 79) (by decide) dX3_pullsHeard_62 (fun hh => ?_) (fun hh => ?_)
  · refine WH.pick [0, 1, 2, 3, 4, 5, 6] rfl ?_
    exact w_X3_pullsHeard_b79 E hrt hlk hj11 hh
  · refine rw_iload E (j0 := 8) rfl dX3_pullsHeard_65 ?_
    refine rw_iload E (j0 := 7) rfl dX3_pullsHeard_67 ?_
    refine rw_icmp_ge E hh (tgt := 76) (by decide) dX3_pullsHeard_69 (fun hh => ?_) (fun hh => ?_)
    · refine rw_iconst E (v := 0) (by decide) dX3_pullsHeard_76 ?_
      refine WH.pick [0, 1, 2, 3, 4, 6] rfl ?_
      exact w_X3_pullsHeard_b77 E hrt hlk hj11 hh
    · refine rw_iconst E (v := 1) (by decide) dX3_pullsHeard_72 ?_
      refine rw_goto E (tgt := 77) (by decide) dX3_pullsHeard_73 ?_
      refine WH.pick [0, 1, 2, 3, 4, 6] rfl ?_
      exact w_X3_pullsHeard_b77 E hrt hlk hj11 hh
def s_X3_pullsHeard_b11 (j11 : HS → Option Nat → Int32 → Int32 → Int32 → Int32 → Int32 → Option (Int32 × HS)) (h : Nat) (S : HS) (l1 : Option Nat) (l2 : Int32) (l3 : Int32) (l4 : Int32) (l5 : Int32) (l6 : Int32) : Option (Int32 × HS) := if l2 + l3 ≤ l6 then (some (l4, S)) else (kA S l1 14 (l6 - 1) (fun v1 => kI S ((some h)) 3 2 (fun v2 => kdiv v1 v2 (fun v3 => kA S l1 14 l6 (fun v4 => kI S ((some h)) 3 2 (fun v5 => kdiv v4 v5 (fun v6 => if v6 ≤ v3 then (s_X3_pullsHeard_b58 j11 h S l1 l2 l3 l4 l5 l6 v3 v6) else (if l5 = 0 then (s_X3_pullsHeard_b58 j11 h S l1 l2 l3 l4 l5 l6 v3 v6) else (s_X3_pullsHeard_b58 j11 h S l1 l2 l3 (l4 + 1) l5 l6 v3 v6)))))))))
set_option maxHeartbeats 4000000 in
set_option maxRecDepth 100000 in
theorem w_X3_pullsHeard_b11 {p : Program} {l : Launch} {e : Env} {s : State} {m : MethodId} {args : Array Value} {below : List Frame} {meth : Method} {c : Code} {b0 : Nat} {G : hG} {S1 : HS} {r : Int32} {j11 : HS → Option Nat → Int32 → Int32 → Int32 → Int32 → Int32 → Option (Int32 × HS)} {h : Nat} {S : HS} {l1 : Option Nat} {l2 : Int32} {l3 : Int32} {l4 : Int32} {l5 : Int32} {l6 : Int32} (E : hE p s m args c b0 G cX3_pullsHeard RX3 9 wsX3_pullsHeard) (hrt : meth.sig.returnType = (some .int)) (hlk : meth.locks = false) (hj11 : ∀ (S : HS) (l1 : Option Nat) (l2 : Int32) (l3 : Int32) (l4 : Int32) (l5 : Int32) (l6 : Int32), j11 S l1 l2 l3 l4 l5 l6 = some (r, S1) → WH p l e rm_X3_pullsHeard s m args below meth c b0 G 9 0 0 (MQ below (hQ b0 G (some (.int r)) S1) args s 0 0 (hA b0)) S 11 [(0, hrf b0 ((some h))), (1, hrf b0 l1), (2, .int l2), (3, .int l3), (4, .int l4), (5, .int l5), (6, .int l6)] []) (hh : s_X3_pullsHeard_b11 j11 h S l1 l2 l3 l4 l5 l6 = some (r, S1)) : WH p l e rm_X3_pullsHeard s m args below meth c b0 G 9 0 0 (MQ below (hQ b0 G (some (.int r)) S1) args s 0 0 (hA b0)) S 11 [(0, hrf b0 ((some h))), (1, hrf b0 l1), (2, .int l2), (3, .int l3), (4, .int l4), (5, .int l5), (6, .int l6)] [] := by
  have hh : (if l2 + l3 ≤ l6 then (some (l4, S)) else (kA S l1 14 (l6 - 1) (fun v1 => kI S ((some h)) 3 2 (fun v2 => kdiv v1 v2 (fun v3 => kA S l1 14 l6 (fun v4 => kI S ((some h)) 3 2 (fun v5 => kdiv v4 v5 (fun v6 => if v6 ≤ v3 then (s_X3_pullsHeard_b58 j11 h S l1 l2 l3 l4 l5 l6 v3 v6) else (if l5 = 0 then (s_X3_pullsHeard_b58 j11 h S l1 l2 l3 l4 l5 l6 v3 v6) else (s_X3_pullsHeard_b58 j11 h S l1 l2 l3 (l4 + 1) l5 l6 v3 v6)))))))))) = some (r, S1) := hh
  refine rw_iload E (j0 := 6) rfl dX3_pullsHeard_11 ?_
  refine rw_iload_n E (j0 := 2) rfl rfl dX3_pullsHeard_13 ?_
  refine rw_iload_n E (j0 := 3) rfl rfl dX3_pullsHeard_14 ?_
  refine rw_iadd E dX3_pullsHeard_15 ?_
  refine rw_icmp_ge E hh (tgt := 85) (by decide) dX3_pullsHeard_16 (fun hh => ?_) (fun hh => ?_)
  · refine rw_iload E (j0 := 4) rfl dX3_pullsHeard_85 ?_
    exact rw_iret E hrt hlk hh (by decide) (by decide) dX3_pullsHeard_87
  · refine rw_aload_n E (j0 := 1) rfl rfl dX3_pullsHeard_19 ?_
    refine rw_iload E (j0 := 6) rfl dX3_pullsHeard_20 ?_
    refine rw_iconst E (v := 1) (by decide) dX3_pullsHeard_22 ?_
    refine rw_isub E dX3_pullsHeard_23 ?_
    refine rw_iald E hh dX3_pullsHeard_24 (fun v1 hh => ?_)
    refine rw_aload_n E (j0 := 0) rfl rfl dX3_pullsHeard_25 ?_
    refine rw_getI E hh (C := RX3) (T := TX3) (N := 3) rfl (by decide) i_X3_pullsHeard_3 (by decide) rfl (List.mem_of_getElem? (i := 1) (by decide +kernel)) rfl dX3_pullsHeard_26 (fun v2 hh => ?_)
    refine rw_idiv E hh dX3_pullsHeard_29 (fun v3 hh => ?_)
    refine rw_istore E (lv2 := [(7, .int v3), (0, hrf b0 ((some h))), (1, hrf b0 l1), (2, .int l2), (3, .int l3), (4, .int l4), (5, .int l5), (6, .int l6)]) (by decide) rfl dX3_pullsHeard_30 ?_
    refine rw_aload_n E (j0 := 2) rfl rfl dX3_pullsHeard_32 ?_
    refine rw_iload E (j0 := 7) rfl dX3_pullsHeard_33 ?_
    refine rw_iald E hh dX3_pullsHeard_35 (fun v4 hh => ?_)
    refine rw_aload_n E (j0 := 1) rfl rfl dX3_pullsHeard_36 ?_
    refine rw_getI E hh (C := RX3) (T := TX3) (N := 3) rfl (by decide) i_X3_pullsHeard_3 (by decide) rfl (List.mem_of_getElem? (i := 1) (by decide +kernel)) rfl dX3_pullsHeard_37 (fun v5 hh => ?_)
    refine rw_idiv E hh dX3_pullsHeard_40 (fun v6 hh => ?_)
    refine rw_istore E (lv2 := [(8, .int v6), (7, .int v3), (0, hrf b0 ((some h))), (1, hrf b0 l1), (2, .int l2), (3, .int l3), (4, .int l4), (5, .int l5), (6, .int l6)]) (by decide) rfl dX3_pullsHeard_41 ?_
    refine rw_iload E (j0 := 0) rfl dX3_pullsHeard_43 ?_
    refine rw_iload E (j0 := 1) rfl dX3_pullsHeard_45 ?_
    refine rw_icmp_le E hh (tgt := 58) (by decide) dX3_pullsHeard_47 (fun hh => ?_) (fun hh => ?_)
    · refine WH.pick [2, 3, 4, 5, 6, 7, 8, 1, 0] rfl ?_
      exact w_X3_pullsHeard_b58 E hrt hlk hj11 hh
    · refine rw_iload E (j0 := 7) rfl dX3_pullsHeard_50 ?_
      refine rw_if_eq E hh (tgt := 58) (by decide) dX3_pullsHeard_52 (fun hh => ?_) (fun hh => ?_)
      · refine WH.pick [2, 3, 4, 5, 6, 7, 8, 1, 0] rfl ?_
        exact w_X3_pullsHeard_b58 E hrt hlk hj11 hh
      · refine rw_iinc E (v := l4 + 1) (lv2 := [(4, .int (l4 + 1)), (8, .int v6), (7, .int v3), (0, hrf b0 ((some h))), (1, hrf b0 l1), (2, .int l2), (3, .int l3), (5, .int l5), (6, .int l6)]) (j0 := 6) rfl rfl (by decide) rfl dX3_pullsHeard_55 ?_
        refine WH.pick [3, 4, 5, 6, 0, 7, 8, 2, 1] rfl ?_
        exact w_X3_pullsHeard_b58 E hrt hlk hj11 hh
def s_X3_pullsHeard_L11 (h : Nat) : Nat → HS → Option Nat → Int32 → Int32 → Int32 → Int32 → Int32 → Option (Int32 × HS)
  | 0 => fun _ _ _ _ _ _ _ => none
  | n + 1 => s_X3_pullsHeard_b11 (s_X3_pullsHeard_L11 h n) h
set_option maxHeartbeats 4000000 in
set_option maxRecDepth 100000 in
theorem w_X3_pullsHeard_L11 {p : Program} {l : Launch} {e : Env} {s : State} {m : MethodId} {args : Array Value} {below : List Frame} {meth : Method} {c : Code} {b0 : Nat} {G : hG} {S1 : HS} {r : Int32} {h : Nat} (E : hE p s m args c b0 G cX3_pullsHeard RX3 9 wsX3_pullsHeard) (hrt : meth.sig.returnType = (some .int)) (hlk : meth.locks = false) : ∀ (n : Nat) (S : HS) (l1 : Option Nat) (l2 : Int32) (l3 : Int32) (l4 : Int32) (l5 : Int32) (l6 : Int32), s_X3_pullsHeard_L11 h n S l1 l2 l3 l4 l5 l6 = some (r, S1) → WH p l e rm_X3_pullsHeard s m args below meth c b0 G 9 0 0 (MQ below (hQ b0 G (some (.int r)) S1) args s 0 0 (hA b0)) S 11 [(0, hrf b0 ((some h))), (1, hrf b0 l1), (2, .int l2), (3, .int l3), (4, .int l4), (5, .int l5), (6, .int l6)] [] := by
  intro n
  induction n with
  | zero => intro _ _ _ _ _ _ _ hh; exact absurd hh (by simp [s_X3_pullsHeard_L11])
  | succ n ih => intro _ _ _ _ _ _ _ hh; exact w_X3_pullsHeard_b11 E hrt hlk  ih hh
def s_X3_pullsHeard (S : HS) (h : Nat) (l1 : Option Nat) (l2 : Int32) (l3 : Int32) : Option (Int32 × HS) := s_X3_pullsHeard_L11 h 100000 S l1 l2 l3 0 0 (l2 + 1)
set_option maxHeartbeats 4000000 in
set_option maxRecDepth 100000 in
theorem c_X3_pullsHeard (l : Launch) (b0 : Nat) (G : hG) (S S1 : HS) (h : Nat) (l1 : Option Nat) (l2 : Int32) (l3 : Int32) (r : Int32) (hh : s_X3_pullsHeard S h l1 l2 l3 = some (r, S1)) : MH l yX3_pullsHeard wsX3_pullsHeard rm_X3_pullsHeard b0 G S [hrf b0 (some h), hrf b0 l1, .int l2, .int l3] (some (.int r)) S1 0 0 := by
  refine MH.ofW (cc := cX3_pullsHeard) (maxL := 9) (ret := (some .int)) (own := RX3) (lv0 := [(0, hrf b0 ((some h))), (1, hrf b0 l1), (2, .int l2), (3, .int l3)]) (by decide) rfl rfl (by simp [lg_sl, hrf_cat, cat_i, cat_l, cat_r]) (by simp only [lv_args, hrf_cat, cat_i, cat_l, cat_r]; rfl) ?_
  intro p e s m args below meth c E hrt hlk hnm
  have hh : (s_X3_pullsHeard_L11 h 100000 S l1 l2 l3 0 0 (l2 + 1)) = some (r, S1) := hh
  refine rw_iconst E (v := 0) (by decide) dX3_pullsHeard_0 ?_
  refine rw_istore E (lv2 := [(4, .int 0), (0, hrf b0 ((some h))), (1, hrf b0 l1), (2, .int l2), (3, .int l3)]) (by decide) rfl dX3_pullsHeard_1 ?_
  refine rw_iconst E (v := 0) (by decide) dX3_pullsHeard_3 ?_
  refine rw_istore E (lv2 := [(5, .int 0), (4, .int 0), (0, hrf b0 ((some h))), (1, hrf b0 l1), (2, .int l2), (3, .int l3)]) (by decide) rfl dX3_pullsHeard_4 ?_
  refine rw_iload_n E (j0 := 4) rfl rfl dX3_pullsHeard_6 ?_
  refine rw_iconst E (v := 1) (by decide) dX3_pullsHeard_7 ?_
  refine rw_iadd E dX3_pullsHeard_8 ?_
  refine rw_istore E (lv2 := [(6, .int (l2 + 1)), (5, .int 0), (4, .int 0), (0, hrf b0 ((some h))), (1, hrf b0 l1), (2, .int l2), (3, .int l3)]) (by decide) rfl dX3_pullsHeard_9 ?_
  refine WH.pick [3, 4, 5, 6, 2, 1, 0] rfl ?_
  exact w_X3_pullsHeard_L11 E hrt hlk 100000 _ _ _ _ _ _ _ hh

/-! HummingDisc$Run.<init>()V -/
abbrev rm_X8_init : Room := { frames := 1, cells := 0, slots := 0, locals := 20 }
def s_X8_init (S : HS) (h : Nat) : Option (HS) := kO S ((some h)) 8 (fun _ => some S)
set_option maxHeartbeats 4000000 in
set_option maxRecDepth 100000 in
theorem c_X8_init (l : Launch) (b0 : Nat) (G : hG) (S S1 : HS) (h : Nat) (hh : s_X8_init S h  = some S1) : MH l yX8_init wsX8_init rm_X8_init b0 G S [hrf b0 (some h)] none S1 0 0 := by
  refine MH.ofW (cc := cX8_init) (maxL := 1) (ret := none) (own := RX8) (lv0 := [(0, hrf b0 ((some h)))]) (by decide) rfl rfl (Nat.le_of_ble_eq_true rfl) rfl ?_
  intro p e s m args below meth c E hrt hlk hnm
  have hh : (kO S ((some h)) 8 (fun _ => some S)) = some S1 := hh
  refine rw_aload_n E (j0 := 0) rfl rfl dX8_init_0 ?_
  refine rw_objI E hh (List.mem_of_getElem? (i := 1) (by decide +kernel)) (List.mem_of_getElem? (i := 2) (by decide +kernel)) (List.mem_of_getElem? (i := 3) (by decide +kernel)) (by decide) (by (try simp only [List.map_cons, List.map_nil, List.sum_cons, List.sum_nil, hrf_cat, cat_i, cat_l, cat_r]) <;> decide) dX8_init_1 (fun hh => ?_)
  exact rw_vret E hrt hlk hh (by decide) (by decide) dX8_init_4

/-! HummingDisc$Foretold.<init>()V -/
abbrev rm_X4_init : Room := { frames := 2, cells := 3, slots := 18, locals := 40 }
theorem i_X4_init_4 : ∀ w ∈ wsX40, w ∈ wsX4_init := fun _ h => List.mem_cons_of_mem _ (List.mem_append_right _ (h))
theorem i_X4_init_8 : ∀ w ∈ wsX80, w ∈ wsX4_init := fun _ h => List.mem_cons_of_mem _ (List.mem_append_left _ (List.mem_append_right _ (h)))
def s_X4_init (S : HS) (h : Nat) : Option (HS) := kO S ((some h)) 4 (fun _ => knew S 8 (fun o1 S2 => kO S2 o1 8 (fun a4 => kcv (s_X8_init S2 a4 ) (fun S3 => kwP S3 ((some h)) 4 0 o1 (fun S5 => knewA S5 14 3 3 (fun o6 S7 => kwP S7 ((some h)) 4 1 o6 (fun S8 => knewA S8 14 3 3 (fun o9 S10 => kwP S10 ((some h)) 4 2 o9 (fun S11 => some S11)))))))))
set_option maxHeartbeats 4000000 in
set_option maxRecDepth 100000 in
theorem c_X4_init (l : Launch) (b0 : Nat) (G : hG) (S S1 : HS) (h : Nat) (hh : s_X4_init S h  = some S1) : MH l yX4_init wsX4_init rm_X4_init b0 G S [hrf b0 (some h)] none S1 3 18 := by
  refine MH.ofW (cc := cX4_init) (maxL := 1) (ret := none) (own := RX4) (lv0 := [(0, hrf b0 ((some h)))]) (by decide) rfl rfl (Nat.le_of_ble_eq_true rfl) rfl ?_
  intro p e s m args below meth c E hrt hlk hnm
  have hh : (kO S ((some h)) 4 (fun _ => knew S 8 (fun o1 S2 => kO S2 o1 8 (fun a4 => kcv (s_X8_init S2 a4 ) (fun S3 => kwP S3 ((some h)) 4 0 o1 (fun S5 => knewA S5 14 3 3 (fun o6 S7 => kwP S7 ((some h)) 4 1 o6 (fun S8 => knewA S8 14 3 3 (fun o9 S10 => kwP S10 ((some h)) 4 2 o9 (fun S11 => some S11)))))))))) = some S1 := hh
  have hc : 0 + 3 ≤ 3 := by decide
  have hs : 0 + 18 ≤ 18 := by decide
  refine rw_aload_n E (j0 := 0) rfl rfl dX4_init_0 ?_
  refine rw_objI E hh (List.mem_of_getElem? (i := 1) (by decide +kernel)) (List.mem_of_getElem? (i := 2) (by decide +kernel)) (List.mem_of_getElem? (i := 3) (by decide +kernel)) (by decide) (by (try simp only [List.map_cons, List.map_nil, List.sum_cons, List.sum_nil, hrf_cat, cat_i, cat_l, cat_r]) <;> decide) dX4_init_1 (fun hh => ?_)
  refine rw_aload_n E (j0 := 0) rfl rfl dX4_init_4 ?_
  refine rw_new E hh (C := RX8) (T := TX8) (N := 12) (ty0 := tyX8) rfl tyX8_ok (by decide) i_X4_init_8 (List.mem_of_getElem? (i := 4) (by decide +kernel)) (List.mem_of_getElem? (i := 5) (by decide +kernel)) (List.mem_of_getElem? (i := 6) (by decide +kernel)) rfl hdv_8 (show _ ≤ 3 by omega) (show _ ≤ 18 by omega) dX4_init_5 (fun o1 S2 hh => ?_)
  refine rw_dup E (hrf_cat _ _) dX4_init_8 ?_
  refine rw_cNv E (As := []) hh (fun _ _ hq => c_X8_init l b0 G _ _ _ hq) (by simp [hNw]) gX4_init_X8_init_n11 rfl rfl rfl (List.mem_of_getElem? (i := 6) (by decide +kernel)) (List.mem_of_getElem? (i := 11) (by decide +kernel)) rfl (by decide +kernel) ⟨Nat.le_of_ble_eq_true rfl, Nat.le_of_ble_eq_true rfl⟩ rfl rfl (by (try simp only [List.map_cons, List.map_nil, List.sum_cons, List.sum_nil, hrf_cat, cat_i, cat_l, cat_r]) <;> decide) ⟨(show _ ≤ 3 by omega), (show _ ≤ 18 by omega)⟩ dX4_init_9 (fun S3 hh => ?_)
  refine rw_putP E hh (C := RX4) (T := TX4) (N := 9) (ty0 := tyX4) rfl tyX4_ok nmX4 (by decide) i_X4_init_4 (by decide) rfl (List.mem_of_getElem? (i := 7) (by decide +kernel)) rfl (Or.inr ⟨rfl, hnm, rfl⟩) (Or.inl ⟨_, rfl⟩) dX4_init_12 (fun S5 hh => ?_)
  refine rw_aload_n E (j0 := 0) rfl rfl dX4_init_15 ?_
  refine rw_iconst E (v := 3) (by decide) dX4_init_16 ?_
  refine rw_newa E hh (t0 := 1) (by decide) (by decide) (by decide) rfl (fun _ => rfl) (fun _ q => by cases q) rfl (by decide) (List.mem_of_getElem? (i := 8) (by decide +kernel)) (show _ ≤ 3 by omega) (show _ ≤ 18 by omega) dX4_init_17 (fun o6 S7 hh => ?_)
  refine rw_putP E hh (C := RX4) (T := TX4) (N := 9) (ty0 := tyX4) rfl tyX4_ok nmX4 (by decide) i_X4_init_4 (by decide) rfl (List.mem_of_getElem? (i := 9) (by decide +kernel)) rfl (Or.inr ⟨rfl, hnm, rfl⟩) (Or.inr ⟨_, rfl⟩) dX4_init_19 (fun S8 hh => ?_)
  refine rw_aload_n E (j0 := 0) rfl rfl dX4_init_22 ?_
  refine rw_iconst E (v := 3) (by decide) dX4_init_23 ?_
  refine rw_newa E hh (t0 := 1) (by decide) (by decide) (by decide) rfl (fun _ => rfl) (fun _ q => by cases q) rfl (by decide) (List.mem_of_getElem? (i := 8) (by decide +kernel)) (show _ ≤ 3 by omega) (show _ ≤ 18 by omega) dX4_init_24 (fun o9 S10 hh => ?_)
  refine rw_putP E hh (C := RX4) (T := TX4) (N := 9) (ty0 := tyX4) rfl tyX4_ok nmX4 (by decide) i_X4_init_4 (by decide) rfl (List.mem_of_getElem? (i := 10) (by decide +kernel)) rfl (Or.inr ⟨rfl, hnm, rfl⟩) (Or.inr ⟨_, rfl⟩) dX4_init_26 (fun S11 hh => ?_)
  exact rw_vret E hrt hlk hh (show _ ≤ 3 by omega) (show _ ≤ 18 by omega) dX4_init_29

/-! HummingDisc$Foretold.about(LHummingDisc$Disc;LHummingDisc$Cord;III)V -/
abbrev rm_X4_about : Room := { frames := 0, cells := 0, slots := 0, locals := 0 }
theorem i_X4_about_4 : ∀ w ∈ wsX40, w ∈ wsX4_about := fun _ h => List.mem_cons_of_mem _ (List.mem_append_right _ (h))
def s_X4_about (S : HS) (h : Nat) (l1 : Option Nat) (l2 : Option Nat) (l3 : Int32) (l4 : Int32) (l5 : Int32) : Option (HS) := kwP S ((some h)) 4 3 l1 (fun S1 => kwP S1 ((some h)) 4 4 l2 (fun S2 => kwI S2 ((some h)) 4 5 l3 (fun S3 => kwI S3 ((some h)) 4 6 l4 (fun S4 => kwI S4 ((some h)) 4 7 l5 (fun S5 => some S5)))))
set_option maxHeartbeats 4000000 in
set_option maxRecDepth 100000 in
theorem c_X4_about (l : Launch) (b0 : Nat) (G : hG) (S S1 : HS) (h : Nat) (l1 : Option Nat) (l2 : Option Nat) (l3 : Int32) (l4 : Int32) (l5 : Int32) (hh : s_X4_about S h l1 l2 l3 l4 l5 = some S1) : MH l yX4_about wsX4_about rm_X4_about b0 G S [hrf b0 (some h), hrf b0 l1, hrf b0 l2, .int l3, .int l4, .int l5] none S1 0 0 := by
  refine MH.ofW (cc := cX4_about) (maxL := 6) (ret := none) (own := RX4) (lv0 := [(0, hrf b0 ((some h))), (1, hrf b0 l1), (2, hrf b0 l2), (3, .int l3), (4, .int l4), (5, .int l5)]) (by decide) rfl rfl (by simp [lg_sl, hrf_cat, cat_i, cat_l, cat_r]) (by simp only [lv_args, hrf_cat, cat_i, cat_l, cat_r]; rfl) ?_
  intro p e s m args below meth c E hrt hlk hnm
  have hh : (kwP S ((some h)) 4 3 l1 (fun S1 => kwP S1 ((some h)) 4 4 l2 (fun S2 => kwI S2 ((some h)) 4 5 l3 (fun S3 => kwI S3 ((some h)) 4 6 l4 (fun S4 => kwI S4 ((some h)) 4 7 l5 (fun S5 => some S5)))))) = some S1 := hh
  refine rw_aload_n E (j0 := 0) rfl rfl dX4_about_0 ?_
  refine rw_aload_n E (j0 := 1) rfl rfl dX4_about_1 ?_
  refine rw_putP E hh (C := RX4) (T := TX4) (N := 9) (ty0 := tyX4) rfl tyX4_ok nmX4 (by decide) i_X4_about_4 (by decide) rfl (List.mem_of_getElem? (i := 1) (by decide +kernel)) rfl (Or.inl rfl) (Or.inl ⟨_, rfl⟩) dX4_about_2 (fun S1 hh => ?_)
  refine rw_aload_n E (j0 := 0) rfl rfl dX4_about_5 ?_
  refine rw_aload_n E (j0 := 2) rfl rfl dX4_about_6 ?_
  refine rw_putP E hh (C := RX4) (T := TX4) (N := 9) (ty0 := tyX4) rfl tyX4_ok nmX4 (by decide) i_X4_about_4 (by decide) rfl (List.mem_of_getElem? (i := 2) (by decide +kernel)) rfl (Or.inl rfl) (Or.inl ⟨_, rfl⟩) dX4_about_7 (fun S2 hh => ?_)
  refine rw_aload_n E (j0 := 0) rfl rfl dX4_about_10 ?_
  refine rw_iload_n E (j0 := 3) rfl rfl dX4_about_11 ?_
  refine rw_putI E hh (C := RX4) (T := TX4) (N := 9) (ty0 := tyX4) rfl tyX4_ok nmX4 (by decide) i_X4_about_4 (by decide) rfl (List.mem_of_getElem? (i := 3) (by decide +kernel)) rfl (Or.inl rfl) rfl dX4_about_12 (fun S3 hh => ?_)
  refine rw_aload_n E (j0 := 0) rfl rfl dX4_about_15 ?_
  refine rw_iload E (j0 := 4) rfl dX4_about_16 ?_
  refine rw_putI E hh (C := RX4) (T := TX4) (N := 9) (ty0 := tyX4) rfl tyX4_ok nmX4 (by decide) i_X4_about_4 (by decide) rfl (List.mem_of_getElem? (i := 4) (by decide +kernel)) rfl (Or.inl rfl) rfl dX4_about_18 (fun S4 hh => ?_)
  refine rw_aload_n E (j0 := 0) rfl rfl dX4_about_21 ?_
  refine rw_iload E (j0 := 5) rfl dX4_about_22 ?_
  refine rw_putI E hh (C := RX4) (T := TX4) (N := 9) (ty0 := tyX4) rfl tyX4_ok nmX4 (by decide) i_X4_about_4 (by decide) rfl (List.mem_of_getElem? (i := 5) (by decide +kernel)) rfl (Or.inl rfl) rfl dX4_about_24 (fun S5 hh => ?_)
  exact rw_vret E hrt hlk hh (by decide) (by decide) dX4_about_27

/-! HummingDisc$Foretold.snaps()Z -/
abbrev rm_X4_snaps : Room := { frames := 0, cells := 0, slots := 0, locals := 0 }
theorem i_X4_snaps_4 : ∀ w ∈ wsX40, w ∈ wsX4_snaps := fun _ h => List.mem_cons_of_mem _ (List.mem_append_left _ (List.mem_append_right _ (h)))
theorem i_X4_snaps_8 : ∀ w ∈ wsX80, w ∈ wsX4_snaps := fun _ h => List.mem_cons_of_mem _ (List.mem_append_right _ (h))
def s_X4_snaps (S : HS) (h : Nat) : Option (Int32 × HS) := kP S ((some h)) 4 0 (fun v1 => kI S v1 8 11 (fun v2 => kzr v2 S))
set_option maxHeartbeats 4000000 in
set_option maxRecDepth 100000 in
theorem c_X4_snaps (l : Launch) (b0 : Nat) (G : hG) (S S1 : HS) (h : Nat) (r : Int32) (hh : s_X4_snaps S h  = some (r, S1)) : MH l yX4_snaps wsX4_snaps rm_X4_snaps b0 G S [hrf b0 (some h)] (some (.int r)) S1 0 0 := by
  refine MH.ofW (cc := cX4_snaps) (maxL := 1) (ret := (some .boolean)) (own := RX4) (lv0 := [(0, hrf b0 ((some h)))]) (by decide) rfl rfl (Nat.le_of_ble_eq_true rfl) rfl ?_
  intro p e s m args below meth c E hrt hlk hnm
  have hh : (kP S ((some h)) 4 0 (fun v1 => kI S v1 8 11 (fun v2 => kzr v2 S))) = some (r, S1) := hh
  refine rw_aload_n E (j0 := 0) rfl rfl dX4_snaps_0 ?_
  refine rw_getP E hh (C := RX4) (T := TX4) (N := 9) rfl (by decide) i_X4_snaps_4 (by decide) rfl (List.mem_of_getElem? (i := 1) (by decide +kernel)) rfl dX4_snaps_1 (fun v1 hh => ?_)
  refine rw_getI E hh (C := RX8) (T := TX8) (N := 12) rfl (by decide) i_X4_snaps_8 (by decide) rfl (List.mem_of_getElem? (i := 2) (by decide +kernel)) rfl dX4_snaps_4 (fun v2 hh => ?_)
  exact rw_zret E hrt hlk hh (by decide) (by decide) dX4_snaps_7

/-! HummingDisc$Run.start(LHummingDisc$Disc;LHummingDisc$Cord;LHummingDisc$Hand;I)V -/
abbrev rm_X8_start : Room := { frames := 0, cells := 0, slots := 0, locals := 0 }
theorem i_X8_start_8 : ∀ w ∈ wsX80, w ∈ wsX8_start := fun _ h => List.mem_cons_of_mem _ (List.mem_append_right _ (h))
def s_X8_start (S : HS) (h : Nat) (l1 : Option Nat) (l2 : Option Nat) (l3 : Option Nat) (l4 : Int32) : Option (HS) := kwP S ((some h)) 8 0 l1 (fun S1 => kwP S1 ((some h)) 8 1 l2 (fun S2 => kwP S2 ((some h)) 8 2 l3 (fun S3 => kwI S3 ((some h)) 8 3 l4 (fun S4 => kwI S4 ((some h)) 8 4 l4 (fun S5 => kwI S5 ((some h)) 8 5 0 (fun S6 => kwI S6 ((some h)) 8 6 0 (fun S7 => kwI S7 ((some h)) 8 7 0 (fun S8 => kwI S8 ((some h)) 8 8 0 (fun S9 => kwI S9 ((some h)) 8 9 ((-1000000)) (fun S10 => kwI S10 ((some h)) 8 10 0 (fun S11 => kwZ S11 ((some h)) 8 11 0 (fun S12 => some S12))))))))))))
set_option maxHeartbeats 4000000 in
set_option maxRecDepth 100000 in
theorem c_X8_start (l : Launch) (b0 : Nat) (G : hG) (S S1 : HS) (h : Nat) (l1 : Option Nat) (l2 : Option Nat) (l3 : Option Nat) (l4 : Int32) (hh : s_X8_start S h l1 l2 l3 l4 = some S1) : MH l yX8_start wsX8_start rm_X8_start b0 G S [hrf b0 (some h), hrf b0 l1, hrf b0 l2, hrf b0 l3, .int l4] none S1 0 0 := by
  refine MH.ofW (cc := cX8_start) (maxL := 5) (ret := none) (own := RX8) (lv0 := [(0, hrf b0 ((some h))), (1, hrf b0 l1), (2, hrf b0 l2), (3, hrf b0 l3), (4, .int l4)]) (by decide) rfl rfl (by simp [lg_sl, hrf_cat, cat_i, cat_l, cat_r]) (by simp only [lv_args, hrf_cat, cat_i, cat_l, cat_r]; rfl) ?_
  intro p e s m args below meth c E hrt hlk hnm
  have hh : (kwP S ((some h)) 8 0 l1 (fun S1 => kwP S1 ((some h)) 8 1 l2 (fun S2 => kwP S2 ((some h)) 8 2 l3 (fun S3 => kwI S3 ((some h)) 8 3 l4 (fun S4 => kwI S4 ((some h)) 8 4 l4 (fun S5 => kwI S5 ((some h)) 8 5 0 (fun S6 => kwI S6 ((some h)) 8 6 0 (fun S7 => kwI S7 ((some h)) 8 7 0 (fun S8 => kwI S8 ((some h)) 8 8 0 (fun S9 => kwI S9 ((some h)) 8 9 ((-1000000)) (fun S10 => kwI S10 ((some h)) 8 10 0 (fun S11 => kwZ S11 ((some h)) 8 11 0 (fun S12 => some S12))))))))))))) = some S1 := hh
  refine rw_aload_n E (j0 := 0) rfl rfl dX8_start_0 ?_
  refine rw_aload_n E (j0 := 1) rfl rfl dX8_start_1 ?_
  refine rw_putP E hh (C := RX8) (T := TX8) (N := 12) (ty0 := tyX8) rfl tyX8_ok nmX8 (by decide) i_X8_start_8 (by decide) rfl (List.mem_of_getElem? (i := 1) (by decide +kernel)) rfl (Or.inl rfl) (Or.inl ⟨_, rfl⟩) dX8_start_2 (fun S1 hh => ?_)
  refine rw_aload_n E (j0 := 0) rfl rfl dX8_start_5 ?_
  refine rw_aload_n E (j0 := 2) rfl rfl dX8_start_6 ?_
  refine rw_putP E hh (C := RX8) (T := TX8) (N := 12) (ty0 := tyX8) rfl tyX8_ok nmX8 (by decide) i_X8_start_8 (by decide) rfl (List.mem_of_getElem? (i := 2) (by decide +kernel)) rfl (Or.inl rfl) (Or.inl ⟨_, rfl⟩) dX8_start_7 (fun S2 hh => ?_)
  refine rw_aload_n E (j0 := 0) rfl rfl dX8_start_10 ?_
  refine rw_aload_n E (j0 := 3) rfl rfl dX8_start_11 ?_
  refine rw_putP E hh (C := RX8) (T := TX8) (N := 12) (ty0 := tyX8) rfl tyX8_ok nmX8 (by decide) i_X8_start_8 (by decide) rfl (List.mem_of_getElem? (i := 3) (by decide +kernel)) rfl (Or.inl rfl) (Or.inl ⟨_, rfl⟩) dX8_start_12 (fun S3 hh => ?_)
  refine rw_aload_n E (j0 := 0) rfl rfl dX8_start_15 ?_
  refine rw_iload E (j0 := 4) rfl dX8_start_16 ?_
  refine rw_putI E hh (C := RX8) (T := TX8) (N := 12) (ty0 := tyX8) rfl tyX8_ok nmX8 (by decide) i_X8_start_8 (by decide) rfl (List.mem_of_getElem? (i := 4) (by decide +kernel)) rfl (Or.inl rfl) rfl dX8_start_18 (fun S4 hh => ?_)
  refine rw_aload_n E (j0 := 0) rfl rfl dX8_start_21 ?_
  refine rw_iload E (j0 := 4) rfl dX8_start_22 ?_
  refine rw_putI E hh (C := RX8) (T := TX8) (N := 12) (ty0 := tyX8) rfl tyX8_ok nmX8 (by decide) i_X8_start_8 (by decide) rfl (List.mem_of_getElem? (i := 5) (by decide +kernel)) rfl (Or.inl rfl) rfl dX8_start_24 (fun S5 hh => ?_)
  refine rw_aload_n E (j0 := 0) rfl rfl dX8_start_27 ?_
  refine rw_iconst E (v := 0) (by decide) dX8_start_28 ?_
  refine rw_putI E hh (C := RX8) (T := TX8) (N := 12) (ty0 := tyX8) rfl tyX8_ok nmX8 (by decide) i_X8_start_8 (by decide) rfl (List.mem_of_getElem? (i := 6) (by decide +kernel)) rfl (Or.inl rfl) rfl dX8_start_29 (fun S6 hh => ?_)
  refine rw_aload_n E (j0 := 0) rfl rfl dX8_start_32 ?_
  refine rw_iconst E (v := 0) (by decide) dX8_start_33 ?_
  refine rw_putI E hh (C := RX8) (T := TX8) (N := 12) (ty0 := tyX8) rfl tyX8_ok nmX8 (by decide) i_X8_start_8 (by decide) rfl (List.mem_of_getElem? (i := 7) (by decide +kernel)) rfl (Or.inl rfl) rfl dX8_start_34 (fun S7 hh => ?_)
  refine rw_aload_n E (j0 := 0) rfl rfl dX8_start_37 ?_
  refine rw_iconst E (v := 0) (by decide) dX8_start_38 ?_
  refine rw_putI E hh (C := RX8) (T := TX8) (N := 12) (ty0 := tyX8) rfl tyX8_ok nmX8 (by decide) i_X8_start_8 (by decide) rfl (List.mem_of_getElem? (i := 8) (by decide +kernel)) rfl (Or.inl rfl) rfl dX8_start_39 (fun S8 hh => ?_)
  refine rw_aload_n E (j0 := 0) rfl rfl dX8_start_42 ?_
  refine rw_iconst E (v := 0) (by decide) dX8_start_43 ?_
  refine rw_putI E hh (C := RX8) (T := TX8) (N := 12) (ty0 := tyX8) rfl tyX8_ok nmX8 (by decide) i_X8_start_8 (by decide) rfl (List.mem_of_getElem? (i := 9) (by decide +kernel)) rfl (Or.inl rfl) rfl dX8_start_44 (fun S9 hh => ?_)
  refine rw_aload_n E (j0 := 0) rfl rfl dX8_start_47 ?_
  refine rw_ldc E (v := (-1000000)) (List.mem_of_getElem? (i := 10) (by decide +kernel)) dX8_start_48 ?_
  refine rw_putI E hh (C := RX8) (T := TX8) (N := 12) (ty0 := tyX8) rfl tyX8_ok nmX8 (by decide) i_X8_start_8 (by decide) rfl (List.mem_of_getElem? (i := 11) (by decide +kernel)) rfl (Or.inl rfl) rfl dX8_start_50 (fun S10 hh => ?_)
  refine rw_aload_n E (j0 := 0) rfl rfl dX8_start_53 ?_
  refine rw_iconst E (v := 0) (by decide) dX8_start_54 ?_
  refine rw_putI E hh (C := RX8) (T := TX8) (N := 12) (ty0 := tyX8) rfl tyX8_ok nmX8 (by decide) i_X8_start_8 (by decide) rfl (List.mem_of_getElem? (i := 12) (by decide +kernel)) rfl (Or.inl rfl) rfl dX8_start_55 (fun S11 hh => ?_)
  refine rw_aload_n E (j0 := 0) rfl rfl dX8_start_58 ?_
  refine rw_iconst E (v := 0) (by decide) dX8_start_59 ?_
  refine rw_putZ E hh (C := RX8) (T := TX8) (N := 12) (ty0 := tyX8) rfl tyX8_ok nmX8 (by decide) i_X8_start_8 (by decide) rfl (List.mem_of_getElem? (i := 13) (by decide +kernel)) rfl (Or.inl rfl) rfl dX8_start_60 (fun S12 hh => ?_)
  exact rw_vret E hrt hlk hh (by decide) (by decide) dX8_start_63

/-! HummingDisc$Foretold.start()V -/
abbrev rm_X4_start : Room := { frames := 1, cells := 0, slots := 0, locals := 24 }
theorem i_X4_start_4 : ∀ w ∈ wsX40, w ∈ wsX4_start := fun _ h => List.mem_cons_of_mem _ (List.mem_append_left _ (List.mem_append_right _ (h)))
def s_X4_start (S : HS) (h : Nat) : Option (HS) := kP S ((some h)) 4 0 (fun v1 => kP S ((some h)) 4 3 (fun v2 => kP S ((some h)) 4 4 (fun v3 => kI S ((some h)) 4 5 (fun v4 => kO S v1 8 (fun a6 => kcv (s_X8_start S a6 v2 v3 none v4) (fun S5 => some S5))))))
set_option maxHeartbeats 4000000 in
set_option maxRecDepth 100000 in
theorem c_X4_start (l : Launch) (b0 : Nat) (G : hG) (S S1 : HS) (h : Nat) (hh : s_X4_start S h  = some S1) : MH l yX4_start wsX4_start rm_X4_start b0 G S [hrf b0 (some h)] none S1 0 0 := by
  refine MH.ofW (cc := cX4_start) (maxL := 1) (ret := none) (own := RX4) (lv0 := [(0, hrf b0 ((some h)))]) (by decide) rfl rfl (Nat.le_of_ble_eq_true rfl) rfl ?_
  intro p e s m args below meth c E hrt hlk hnm
  have hh : (kP S ((some h)) 4 0 (fun v1 => kP S ((some h)) 4 3 (fun v2 => kP S ((some h)) 4 4 (fun v3 => kI S ((some h)) 4 5 (fun v4 => kO S v1 8 (fun a6 => kcv (s_X8_start S a6 v2 v3 none v4) (fun S5 => some S5))))))) = some S1 := hh
  refine rw_aload_n E (j0 := 0) rfl rfl dX4_start_0 ?_
  refine rw_getP E hh (C := RX4) (T := TX4) (N := 9) rfl (by decide) i_X4_start_4 (by decide) rfl (List.mem_of_getElem? (i := 1) (by decide +kernel)) rfl dX4_start_1 (fun v1 hh => ?_)
  refine rw_aload_n E (j0 := 0) rfl rfl dX4_start_4 ?_
  refine rw_getP E hh (C := RX4) (T := TX4) (N := 9) rfl (by decide) i_X4_start_4 (by decide) rfl (List.mem_of_getElem? (i := 2) (by decide +kernel)) rfl dX4_start_5 (fun v2 hh => ?_)
  refine rw_aload_n E (j0 := 0) rfl rfl dX4_start_8 ?_
  refine rw_getP E hh (C := RX4) (T := TX4) (N := 9) rfl (by decide) i_X4_start_4 (by decide) rfl (List.mem_of_getElem? (i := 3) (by decide +kernel)) rfl dX4_start_9 (fun v3 hh => ?_)
  refine rw_null E dX4_start_12 ?_
  refine rw_aload_n E (j0 := 0) rfl rfl dX4_start_13 ?_
  refine rw_getI E hh (C := RX4) (T := TX4) (N := 9) rfl (by decide) i_X4_start_4 (by decide) rfl (List.mem_of_getElem? (i := 4) (by decide +kernel)) rfl dX4_start_14 (fun v4 hh => ?_)
  refine rw_cVv E (As := [hrf b0 v2, hrf b0 v3, hrf b0 none, .int v4]) hh (by decide) rfl (fun _ _ hq => c_X8_start l b0 G _ _ _ _ _ _ _ hq) (cwV 4 E.2.2.2.2.1 gX4_start_X8_start rfl rfl rfl (by decide +kernel) ⟨Nat.le_of_ble_eq_true rfl, Nat.le_of_ble_eq_true rfl⟩) rfl rfl (by (try simp only [List.map_cons, List.map_nil, List.sum_cons, List.sum_nil, hrf_cat, cat_i, cat_l, cat_r]) <;> decide) ⟨Nat.le_of_ble_eq_true rfl, Nat.le_of_ble_eq_true rfl⟩ dX4_start_17 (fun S5 hh => ?_)
  exact rw_vret E hrt hlk hh (by decide) (by decide) dX4_start_20

/-! HummingDisc$Run.unwinds()Z -/
abbrev rm_X8_unwinds : Room := { frames := 1, cells := 0, slots := 0, locals := 20 }
theorem i_X8_unwinds_8 : ∀ w ∈ wsX80, w ∈ wsX8_unwinds := fun _ h => List.mem_cons_of_mem _ (List.mem_append_right _ (h))
def s_X8_unwinds_b14 (h : Nat) (S : HS) : Option (Int32 × HS) := kzr 1 S
set_option maxHeartbeats 4000000 in
set_option maxRecDepth 100000 in
theorem w_X8_unwinds_b14 {p : Program} {l : Launch} {e : Env} {s : State} {m : MethodId} {args : Array Value} {below : List Frame} {meth : Method} {c : Code} {b0 : Nat} {G : hG} {S1 : HS} {r : Int32} {h : Nat} {S : HS} (E : hE p s m args c b0 G cX8_unwinds RX8 1 wsX8_unwinds) (hrt : meth.sig.returnType = (some .boolean)) (hlk : meth.locks = false) (hh : s_X8_unwinds_b14 h S = some (r, S1)) : WH p l e rm_X8_unwinds s m args below meth c b0 G 1 0 0 (MQ below (hQ b0 G (some (.int r)) S1) args s 0 0 (hA b0)) S 14 [] [] := by
  have hh : (kzr 1 S) = some (r, S1) := hh
  refine rw_iconst E (v := 1) (by decide) dX8_unwinds_14 ?_
  refine rw_goto E (tgt := 19) (by decide) dX8_unwinds_15 ?_
  exact rw_zret E hrt hlk hh (by decide) (by decide) dX8_unwinds_19
def s_X8_unwinds (S : HS) (h : Nat) : Option (Int32 × HS) := kI S ((some h)) 8 5 (fun v1 => if v1 = 0 then (s_X8_unwinds_b14 h S) else (kO S ((some h)) 8 (fun a4 => kc (s_X8_isTurningBack S a4 ) (fun v3 S2 => if v3 = 0 then (kzr 0 S2) else (s_X8_unwinds_b14 h S2)))))
set_option maxHeartbeats 4000000 in
set_option maxRecDepth 100000 in
theorem c_X8_unwinds (l : Launch) (b0 : Nat) (G : hG) (S S1 : HS) (h : Nat) (r : Int32) (hh : s_X8_unwinds S h  = some (r, S1)) : MH l yX8_unwinds wsX8_unwinds rm_X8_unwinds b0 G S [hrf b0 (some h)] (some (.int r)) S1 0 0 := by
  refine MH.ofW (cc := cX8_unwinds) (maxL := 1) (ret := (some .boolean)) (own := RX8) (lv0 := [(0, hrf b0 ((some h)))]) (by decide) rfl rfl (Nat.le_of_ble_eq_true rfl) rfl ?_
  intro p e s m args below meth c E hrt hlk hnm
  have hh : (kI S ((some h)) 8 5 (fun v1 => if v1 = 0 then (s_X8_unwinds_b14 h S) else (kO S ((some h)) 8 (fun a4 => kc (s_X8_isTurningBack S a4 ) (fun v3 S2 => if v3 = 0 then (kzr 0 S2) else (s_X8_unwinds_b14 h S2)))))) = some (r, S1) := hh
  refine rw_aload_n E (j0 := 0) rfl rfl dX8_unwinds_0 ?_
  refine rw_getI E hh (C := RX8) (T := TX8) (N := 12) rfl (by decide) i_X8_unwinds_8 (by decide) rfl (List.mem_of_getElem? (i := 1) (by decide +kernel)) rfl dX8_unwinds_1 (fun v1 hh => ?_)
  refine rw_if_eq E hh (tgt := 14) (by decide) dX8_unwinds_4 (fun hh => ?_) (fun hh => ?_)
  · refine WH.pick [] rfl ?_
    exact w_X8_unwinds_b14 E hrt hlk hh
  · refine rw_aload_n E (j0 := 0) rfl rfl dX8_unwinds_7 ?_
    refine rw_cVi E (As := []) hh (by decide) rfl (fun _ _ _ hq => c_X8_isTurningBack l b0 G _ _ _ _ hq) (cwV 0 E.2.2.2.2.1 gX8_unwinds_X8_isTurningBack rfl rfl rfl (by decide +kernel) ⟨Nat.le_of_ble_eq_true rfl, Nat.le_of_ble_eq_true rfl⟩) rfl rfl (by (try simp only [List.map_cons, List.map_nil, List.sum_cons, List.sum_nil, hrf_cat, cat_i, cat_l, cat_r]) <;> decide) ⟨Nat.le_of_ble_eq_true rfl, Nat.le_of_ble_eq_true rfl⟩ dX8_unwinds_8 (fun v3 S2 hh => ?_)
    refine rw_if_eq E hh (tgt := 18) (by decide) dX8_unwinds_11 (fun hh => ?_) (fun hh => ?_)
    · refine rw_iconst E (v := 0) (by decide) dX8_unwinds_18 ?_
      exact rw_zret E hrt hlk hh (by decide) (by decide) dX8_unwinds_19
    · refine WH.pick [] rfl ?_
      exact w_X8_unwinds_b14 E hrt hlk hh

/-! HummingDisc$Run.stop()V -/
abbrev rm_X8_stop : Room := { frames := 0, cells := 0, slots := 0, locals := 0 }
theorem i_X8_stop_2 : ∀ w ∈ wsX20, w ∈ wsX8_stop := fun _ h => List.mem_cons_of_mem _ (List.mem_append_right _ (h))
theorem i_X8_stop_8 : ∀ w ∈ wsX80, w ∈ wsX8_stop := fun _ h => List.mem_cons_of_mem _ (List.mem_append_left _ (List.mem_append_right _ (h)))
def s_X8_stop_b49 (h : Nat) (S : HS) (k0 : Option Nat) (k1 : Int32) : Option (HS) := kwZ S k0 8 11 k1 (fun S1 => kwI S1 ((some h)) 8 5 0 (fun S2 => some S2))
set_option maxHeartbeats 4000000 in
set_option maxRecDepth 100000 in
theorem w_X8_stop_b49 {p : Program} {l : Launch} {e : Env} {s : State} {m : MethodId} {args : Array Value} {below : List Frame} {meth : Method} {c : Code} {b0 : Nat} {G : hG} {S1 : HS} {h : Nat} {S : HS} {k0 : Option Nat} {k1 : Int32} (E : hE p s m args c b0 G cX8_stop RX8 1 wsX8_stop) (hrt : meth.sig.returnType = none) (hlk : meth.locks = false) (hh : s_X8_stop_b49 h S k0 k1 = some S1) : WH p l e rm_X8_stop s m args below meth c b0 G 1 0 0 (MQ below (hQ b0 G none S1) args s 0 0 (hA b0)) S 49 [(0, hrf b0 ((some h)))] [.int k1, hrf b0 k0] := by
  have hh : (kwZ S k0 8 11 k1 (fun S1 => kwI S1 ((some h)) 8 5 0 (fun S2 => some S2))) = some S1 := hh
  refine rw_putZ E hh (C := RX8) (T := TX8) (N := 12) (ty0 := tyX8) rfl tyX8_ok nmX8 (by decide) i_X8_stop_8 (by decide) rfl (List.mem_of_getElem? (i := 6) (by decide +kernel)) rfl (Or.inl rfl) rfl dX8_stop_49 (fun S1 hh => ?_)
  refine rw_aload_n E (j0 := 0) rfl rfl dX8_stop_52 ?_
  refine rw_iconst E (v := 0) (by decide) dX8_stop_53 ?_
  refine rw_putI E hh (C := RX8) (T := TX8) (N := 12) (ty0 := tyX8) rfl tyX8_ok nmX8 (by decide) i_X8_stop_8 (by decide) rfl (List.mem_of_getElem? (i := 7) (by decide +kernel)) rfl (Or.inl rfl) rfl dX8_stop_54 (fun S2 hh => ?_)
  exact rw_vret E hrt hlk hh (by decide) (by decide) dX8_stop_57
def s_X8_stop_b26 (h : Nat) (S : HS) (k0 : Option Nat) (k1 : Int32) : Option (HS) := kwI S k0 8 3 k1 (fun S1 => kI S1 ((some h)) 8 6 (fun v2 => kP S1 ((some h)) 8 1 (fun v3 => kI S1 v3 2 3 (fun v4 => if v2 ≤ v4 then (s_X8_stop_b49 h S1 ((some h)) 0) else (s_X8_stop_b49 h S1 ((some h)) 1)))))
set_option maxHeartbeats 4000000 in
set_option maxRecDepth 100000 in
theorem w_X8_stop_b26 {p : Program} {l : Launch} {e : Env} {s : State} {m : MethodId} {args : Array Value} {below : List Frame} {meth : Method} {c : Code} {b0 : Nat} {G : hG} {S1 : HS} {h : Nat} {S : HS} {k0 : Option Nat} {k1 : Int32} (E : hE p s m args c b0 G cX8_stop RX8 1 wsX8_stop) (hrt : meth.sig.returnType = none) (hlk : meth.locks = false) (hh : s_X8_stop_b26 h S k0 k1 = some S1) : WH p l e rm_X8_stop s m args below meth c b0 G 1 0 0 (MQ below (hQ b0 G none S1) args s 0 0 (hA b0)) S 26 [(0, hrf b0 ((some h)))] [.int k1, hrf b0 k0] := by
  have hh : (kwI S k0 8 3 k1 (fun S1 => kI S1 ((some h)) 8 6 (fun v2 => kP S1 ((some h)) 8 1 (fun v3 => kI S1 v3 2 3 (fun v4 => if v2 ≤ v4 then (s_X8_stop_b49 h S1 ((some h)) 0) else (s_X8_stop_b49 h S1 ((some h)) 1)))))) = some S1 := hh
  refine rw_putI E hh (C := RX8) (T := TX8) (N := 12) (ty0 := tyX8) rfl tyX8_ok nmX8 (by decide) i_X8_stop_8 (by decide) rfl (List.mem_of_getElem? (i := 1) (by decide +kernel)) rfl (Or.inl rfl) rfl dX8_stop_26 (fun S1 hh => ?_)
  refine rw_aload_n E (j0 := 0) rfl rfl dX8_stop_29 ?_
  refine rw_aload_n E (j0 := 0) rfl rfl dX8_stop_30 ?_
  refine rw_getI E hh (C := RX8) (T := TX8) (N := 12) rfl (by decide) i_X8_stop_8 (by decide) rfl (List.mem_of_getElem? (i := 4) (by decide +kernel)) rfl dX8_stop_31 (fun v2 hh => ?_)
  refine rw_aload_n E (j0 := 0) rfl rfl dX8_stop_34 ?_
  refine rw_getP E hh (C := RX8) (T := TX8) (N := 12) rfl (by decide) i_X8_stop_8 (by decide) rfl (List.mem_of_getElem? (i := 2) (by decide +kernel)) rfl dX8_stop_35 (fun v3 hh => ?_)
  refine rw_getI E hh (C := RX2) (T := TX2) (N := 4) rfl (by decide) i_X8_stop_2 (by decide) rfl (List.mem_of_getElem? (i := 5) (by decide +kernel)) rfl dX8_stop_38 (fun v4 hh => ?_)
  refine rw_icmp_le E hh (tgt := 48) (by decide) dX8_stop_41 (fun hh => ?_) (fun hh => ?_)
  · refine rw_iconst E (v := 0) (by decide) dX8_stop_48 ?_
    refine WH.pick [0] rfl ?_
    exact w_X8_stop_b49 E hrt hlk hh
  · refine rw_iconst E (v := 1) (by decide) dX8_stop_44 ?_
    refine rw_goto E (tgt := 49) (by decide) dX8_stop_45 ?_
    refine WH.pick [0] rfl ?_
    exact w_X8_stop_b49 E hrt hlk hh
def s_X8_stop (S : HS) (h : Nat) : Option (HS) := kI S ((some h)) 8 3 (fun v1 => if 0 ≤ v1 then (kP S ((some h)) 8 1 (fun v2 => kI S v2 2 2 (fun v3 => s_X8_stop_b26 h S ((some h)) v3))) else (kP S ((some h)) 8 1 (fun v4 => kI S v4 2 2 (fun v5 => s_X8_stop_b26 h S ((some h)) (-v5)))))
set_option maxHeartbeats 4000000 in
set_option maxRecDepth 100000 in
theorem c_X8_stop (l : Launch) (b0 : Nat) (G : hG) (S S1 : HS) (h : Nat) (hh : s_X8_stop S h  = some S1) : MH l yX8_stop wsX8_stop rm_X8_stop b0 G S [hrf b0 (some h)] none S1 0 0 := by
  refine MH.ofW (cc := cX8_stop) (maxL := 1) (ret := none) (own := RX8) (lv0 := [(0, hrf b0 ((some h)))]) (by decide) rfl rfl (Nat.le_of_ble_eq_true rfl) rfl ?_
  intro p e s m args below meth c E hrt hlk hnm
  have hh : (kI S ((some h)) 8 3 (fun v1 => if 0 ≤ v1 then (kP S ((some h)) 8 1 (fun v2 => kI S v2 2 2 (fun v3 => s_X8_stop_b26 h S ((some h)) v3))) else (kP S ((some h)) 8 1 (fun v4 => kI S v4 2 2 (fun v5 => s_X8_stop_b26 h S ((some h)) (-v5)))))) = some S1 := hh
  refine rw_aload_n E (j0 := 0) rfl rfl dX8_stop_0 ?_
  refine rw_aload_n E (j0 := 0) rfl rfl dX8_stop_1 ?_
  refine rw_getI E hh (C := RX8) (T := TX8) (N := 12) rfl (by decide) i_X8_stop_8 (by decide) rfl (List.mem_of_getElem? (i := 1) (by decide +kernel)) rfl dX8_stop_2 (fun v1 hh => ?_)
  refine rw_if_ge E hh (tgt := 19) (by decide) dX8_stop_5 (fun hh => ?_) (fun hh => ?_)
  · refine rw_aload_n E (j0 := 0) rfl rfl dX8_stop_19 ?_
    refine rw_getP E hh (C := RX8) (T := TX8) (N := 12) rfl (by decide) i_X8_stop_8 (by decide) rfl (List.mem_of_getElem? (i := 2) (by decide +kernel)) rfl dX8_stop_20 (fun v2 hh => ?_)
    refine rw_getI E hh (C := RX2) (T := TX2) (N := 4) rfl (by decide) i_X8_stop_2 (by decide) rfl (List.mem_of_getElem? (i := 3) (by decide +kernel)) rfl dX8_stop_23 (fun v3 hh => ?_)
    refine WH.pick [0] rfl ?_
    exact w_X8_stop_b26 E hrt hlk hh
  · refine rw_aload_n E (j0 := 0) rfl rfl dX8_stop_8 ?_
    refine rw_getP E hh (C := RX8) (T := TX8) (N := 12) rfl (by decide) i_X8_stop_8 (by decide) rfl (List.mem_of_getElem? (i := 2) (by decide +kernel)) rfl dX8_stop_9 (fun v4 hh => ?_)
    refine rw_getI E hh (C := RX2) (T := TX2) (N := 4) rfl (by decide) i_X8_stop_2 (by decide) rfl (List.mem_of_getElem? (i := 3) (by decide +kernel)) rfl dX8_stop_12 (fun v5 hh => ?_)
    refine rw_ineg E dX8_stop_15 ?_
    refine rw_goto E (tgt := 26) (by decide) dX8_stop_16 ?_
    refine WH.pick [0] rfl ?_
    exact w_X8_stop_b26 E hrt hlk hh

/-! HummingDisc$Run.tick(II)V -/
abbrev rm_X8_tick : Room := { frames := 3, cells := 0, slots := 0, locals := 63 }
theorem i_X8_tick_2 : ∀ w ∈ wsX20, w ∈ wsX8_tick := fun _ h => List.mem_cons_of_mem _ (List.mem_append_right _ (h))
theorem i_X8_tick_3 : ∀ w ∈ wsX30, w ∈ wsX8_tick := fun _ h => List.mem_cons_of_mem _ (List.mem_append_left _ (List.mem_append_right _ (h)))
theorem i_X8_tick_8 : ∀ w ∈ wsX80, w ∈ wsX8_tick := fun _ h => List.mem_cons_of_mem _ (List.mem_append_left _ (List.mem_append_left _ (List.mem_append_right _ (h))))
def s_X8_tick_b203 (h : Nat) (S : HS) (l1 : Int32) : Option (HS) := kI S ((some h)) 8 8 (fun v1 => kwI S ((some h)) 8 8 (v1 + 1) (fun S2 => kwI S2 ((some h)) 8 9 l1 (fun S3 => some S3)))
set_option maxHeartbeats 4000000 in
set_option maxRecDepth 100000 in
theorem w_X8_tick_b203 {p : Program} {l : Launch} {e : Env} {s : State} {m : MethodId} {args : Array Value} {below : List Frame} {meth : Method} {c : Code} {b0 : Nat} {G : hG} {S1 : HS} {h : Nat} {S : HS} {l1 : Int32} (E : hE p s m args c b0 G cX8_tick RX8 5 wsX8_tick) (hrt : meth.sig.returnType = none) (hlk : meth.locks = false) (hh : s_X8_tick_b203 h S l1 = some S1) : WH p l e rm_X8_tick s m args below meth c b0 G 5 0 0 (MQ below (hQ b0 G none S1) args s 0 0 (hA b0)) S 203 [(0, hrf b0 ((some h))), (1, .int l1)] [] := by
  have hh : (kI S ((some h)) 8 8 (fun v1 => kwI S ((some h)) 8 8 (v1 + 1) (fun S2 => kwI S2 ((some h)) 8 9 l1 (fun S3 => some S3)))) = some S1 := hh
  refine rw_aload_n E (j0 := 0) rfl rfl dX8_tick_203 ?_
  refine rw_dup E (hrf_cat _ _) dX8_tick_204 ?_
  refine rw_getI E hh (C := RX8) (T := TX8) (N := 12) rfl (by decide) i_X8_tick_8 (by decide) rfl (List.mem_of_getElem? (i := 18) (by decide +kernel)) rfl dX8_tick_205 (fun v1 hh => ?_)
  refine rw_iconst E (v := 1) (by decide) dX8_tick_208 ?_
  refine rw_iadd E dX8_tick_209 ?_
  refine rw_putI E hh (C := RX8) (T := TX8) (N := 12) (ty0 := tyX8) rfl tyX8_ok nmX8 (by decide) i_X8_tick_8 (by decide) rfl (List.mem_of_getElem? (i := 18) (by decide +kernel)) rfl (Or.inl rfl) rfl dX8_tick_210 (fun S2 hh => ?_)
  refine rw_aload_n E (j0 := 0) rfl rfl dX8_tick_213 ?_
  refine rw_iload_n E (j0 := 1) rfl rfl dX8_tick_214 ?_
  refine rw_putI E hh (C := RX8) (T := TX8) (N := 12) (ty0 := tyX8) rfl tyX8_ok nmX8 (by decide) i_X8_tick_8 (by decide) rfl (List.mem_of_getElem? (i := 19) (by decide +kernel)) rfl (Or.inl rfl) rfl dX8_tick_215 (fun S3 hh => ?_)
  exact rw_vret E hrt hlk hh (by decide) (by decide) dX8_tick_218
def s_X8_tick_b193 (h : Nat) (S : HS) (l1 : Int32) : Option (HS) := kI S ((some h)) 8 10 (fun v1 => kwI S ((some h)) 8 10 (v1 + 1) (fun S2 => s_X8_tick_b203 h S2 l1))
set_option maxHeartbeats 4000000 in
set_option maxRecDepth 100000 in
theorem w_X8_tick_b193 {p : Program} {l : Launch} {e : Env} {s : State} {m : MethodId} {args : Array Value} {below : List Frame} {meth : Method} {c : Code} {b0 : Nat} {G : hG} {S1 : HS} {h : Nat} {S : HS} {l1 : Int32} (E : hE p s m args c b0 G cX8_tick RX8 5 wsX8_tick) (hrt : meth.sig.returnType = none) (hlk : meth.locks = false) (hh : s_X8_tick_b193 h S l1 = some S1) : WH p l e rm_X8_tick s m args below meth c b0 G 5 0 0 (MQ below (hQ b0 G none S1) args s 0 0 (hA b0)) S 193 [(0, hrf b0 ((some h))), (1, .int l1)] [] := by
  have hh : (kI S ((some h)) 8 10 (fun v1 => kwI S ((some h)) 8 10 (v1 + 1) (fun S2 => s_X8_tick_b203 h S2 l1))) = some S1 := hh
  refine rw_aload_n E (j0 := 0) rfl rfl dX8_tick_193 ?_
  refine rw_dup E (hrf_cat _ _) dX8_tick_194 ?_
  refine rw_getI E hh (C := RX8) (T := TX8) (N := 12) rfl (by decide) i_X8_tick_8 (by decide) rfl (List.mem_of_getElem? (i := 17) (by decide +kernel)) rfl dX8_tick_195 (fun v1 hh => ?_)
  refine rw_iconst E (v := 1) (by decide) dX8_tick_198 ?_
  refine rw_iadd E dX8_tick_199 ?_
  refine rw_putI E hh (C := RX8) (T := TX8) (N := 12) (ty0 := tyX8) rfl tyX8_ok nmX8 (by decide) i_X8_tick_8 (by decide) rfl (List.mem_of_getElem? (i := 17) (by decide +kernel)) rfl (Or.inl rfl) rfl dX8_tick_200 (fun S2 hh => ?_)
  refine WH.pick [0, 1] rfl ?_
  exact w_X8_tick_b203 E hrt hlk hh
def s_X8_tick_b190 (h : Nat) (S : HS) (l1 : Int32) (k0 : Int32) (k1 : Int32) : Option (HS) := if k0 = k1 then (s_X8_tick_b203 h S l1) else (s_X8_tick_b193 h S l1)
set_option maxHeartbeats 4000000 in
set_option maxRecDepth 100000 in
theorem w_X8_tick_b190 {p : Program} {l : Launch} {e : Env} {s : State} {m : MethodId} {args : Array Value} {below : List Frame} {meth : Method} {c : Code} {b0 : Nat} {G : hG} {S1 : HS} {h : Nat} {S : HS} {l1 : Int32} {k0 : Int32} {k1 : Int32} (E : hE p s m args c b0 G cX8_tick RX8 5 wsX8_tick) (hrt : meth.sig.returnType = none) (hlk : meth.locks = false) (hh : s_X8_tick_b190 h S l1 k0 k1 = some S1) : WH p l e rm_X8_tick s m args below meth c b0 G 5 0 0 (MQ below (hQ b0 G none S1) args s 0 0 (hA b0)) S 190 [(0, hrf b0 ((some h))), (1, .int l1)] [.int k1, .int k0] := by
  have hh : (if k0 = k1 then (s_X8_tick_b203 h S l1) else (s_X8_tick_b193 h S l1)) = some S1 := hh
  refine rw_icmp_eq E hh (tgt := 203) (by decide) dX8_tick_190 (fun hh => ?_) (fun hh => ?_)
  · refine WH.pick [0, 1] rfl ?_
    exact w_X8_tick_b203 E hrt hlk hh
  · refine WH.pick [0, 1] rfl ?_
    exact w_X8_tick_b193 E hrt hlk hh
def s_X8_tick_b178 (h : Nat) (S : HS) (l1 : Int32) (k0 : Int32) : Option (HS) := kI S ((some h)) 8 4 (fun v1 => if 0 ≤ v1 then (s_X8_tick_b190 h S l1 k0 0) else (s_X8_tick_b190 h S l1 k0 1))
set_option maxHeartbeats 4000000 in
set_option maxRecDepth 100000 in
theorem w_X8_tick_b178 {p : Program} {l : Launch} {e : Env} {s : State} {m : MethodId} {args : Array Value} {below : List Frame} {meth : Method} {c : Code} {b0 : Nat} {G : hG} {S1 : HS} {h : Nat} {S : HS} {l1 : Int32} {k0 : Int32} (E : hE p s m args c b0 G cX8_tick RX8 5 wsX8_tick) (hrt : meth.sig.returnType = none) (hlk : meth.locks = false) (hh : s_X8_tick_b178 h S l1 k0 = some S1) : WH p l e rm_X8_tick s m args below meth c b0 G 5 0 0 (MQ below (hQ b0 G none S1) args s 0 0 (hA b0)) S 178 [(0, hrf b0 ((some h))), (1, .int l1)] [.int k0] := by
  have hh : (kI S ((some h)) 8 4 (fun v1 => if 0 ≤ v1 then (s_X8_tick_b190 h S l1 k0 0) else (s_X8_tick_b190 h S l1 k0 1))) = some S1 := hh
  refine rw_aload_n E (j0 := 0) rfl rfl dX8_tick_178 ?_
  refine rw_getI E hh (C := RX8) (T := TX8) (N := 12) rfl (by decide) i_X8_tick_8 (by decide) rfl (List.mem_of_getElem? (i := 15) (by decide +kernel)) rfl dX8_tick_179 (fun v1 hh => ?_)
  refine rw_if_ge E hh (tgt := 189) (by decide) dX8_tick_182 (fun hh => ?_) (fun hh => ?_)
  · refine rw_iconst E (v := 0) (by decide) dX8_tick_189 ?_
    refine WH.pick [0, 1] rfl ?_
    exact w_X8_tick_b190 E hrt hlk hh
  · refine rw_iconst E (v := 1) (by decide) dX8_tick_185 ?_
    refine rw_goto E (tgt := 190) (by decide) dX8_tick_186 ?_
    refine WH.pick [0, 1] rfl ?_
    exact w_X8_tick_b190 E hrt hlk hh
def s_X8_tick_b152 (h : Nat) (S : HS) (l1 : Int32) : Option (HS) := kI S ((some h)) 8 4 (fun v1 => if v1 = 0 then (s_X8_tick_b203 h S l1) else (kI S ((some h)) 8 3 (fun v2 => if v2 = 0 then (s_X8_tick_b193 h S l1) else (kI S ((some h)) 8 3 (fun v3 => if 0 ≤ v3 then (s_X8_tick_b178 h S l1 0) else (s_X8_tick_b178 h S l1 1))))))
set_option maxHeartbeats 4000000 in
set_option maxRecDepth 100000 in
theorem w_X8_tick_b152 {p : Program} {l : Launch} {e : Env} {s : State} {m : MethodId} {args : Array Value} {below : List Frame} {meth : Method} {c : Code} {b0 : Nat} {G : hG} {S1 : HS} {h : Nat} {S : HS} {l1 : Int32} (E : hE p s m args c b0 G cX8_tick RX8 5 wsX8_tick) (hrt : meth.sig.returnType = none) (hlk : meth.locks = false) (hh : s_X8_tick_b152 h S l1 = some S1) : WH p l e rm_X8_tick s m args below meth c b0 G 5 0 0 (MQ below (hQ b0 G none S1) args s 0 0 (hA b0)) S 152 [(0, hrf b0 ((some h))), (1, .int l1)] [] := by
  have hh : (kI S ((some h)) 8 4 (fun v1 => if v1 = 0 then (s_X8_tick_b203 h S l1) else (kI S ((some h)) 8 3 (fun v2 => if v2 = 0 then (s_X8_tick_b193 h S l1) else (kI S ((some h)) 8 3 (fun v3 => if 0 ≤ v3 then (s_X8_tick_b178 h S l1 0) else (s_X8_tick_b178 h S l1 1))))))) = some S1 := hh
  refine rw_aload_n E (j0 := 0) rfl rfl dX8_tick_152 ?_
  refine rw_getI E hh (C := RX8) (T := TX8) (N := 12) rfl (by decide) i_X8_tick_8 (by decide) rfl (List.mem_of_getElem? (i := 15) (by decide +kernel)) rfl dX8_tick_153 (fun v1 hh => ?_)
  refine rw_if_eq E hh (tgt := 203) (by decide) dX8_tick_156 (fun hh => ?_) (fun hh => ?_)
  · refine WH.pick [0, 1] rfl ?_
    exact w_X8_tick_b203 E hrt hlk hh
  · refine rw_aload_n E (j0 := 0) rfl rfl dX8_tick_159 ?_
    refine rw_getI E hh (C := RX8) (T := TX8) (N := 12) rfl (by decide) i_X8_tick_8 (by decide) rfl (List.mem_of_getElem? (i := 2) (by decide +kernel)) rfl dX8_tick_160 (fun v2 hh => ?_)
    refine rw_if_eq E hh (tgt := 193) (by decide) dX8_tick_163 (fun hh => ?_) (fun hh => ?_)
    · refine WH.pick [0, 1] rfl ?_
      exact w_X8_tick_b193 E hrt hlk hh
    · refine rw_aload_n E (j0 := 0) rfl rfl dX8_tick_166 ?_
      refine rw_getI E hh (C := RX8) (T := TX8) (N := 12) rfl (by decide) i_X8_tick_8 (by decide) rfl (List.mem_of_getElem? (i := 2) (by decide +kernel)) rfl dX8_tick_167 (fun v3 hh => ?_)
      refine rw_if_ge E hh (tgt := 177) (by decide) dX8_tick_170 (fun hh => ?_) (fun hh => ?_)
      · refine rw_iconst E (v := 0) (by decide) dX8_tick_177 ?_
        refine WH.pick [0, 1] rfl ?_
        exact w_X8_tick_b178 E hrt hlk hh
      · refine rw_iconst E (v := 1) (by decide) dX8_tick_173 ?_
        refine rw_goto E (tgt := 178) (by decide) dX8_tick_174 ?_
        refine WH.pick [0, 1] rfl ?_
        exact w_X8_tick_b178 E hrt hlk hh
def s_X8_tick_b92 (h : Nat) (S : HS) (l1 : Int32) (k0 : Option Nat) (k1 : Int32) : Option (HS) := kwI S k0 8 5 k1 (fun S1 => kI S1 ((some h)) 8 7 (fun v2 => kI S1 ((some h)) 8 6 (fun v3 => kwI S1 ((some h)) 8 7 (fmax v2 v3) (fun S4 => kI S4 ((some h)) 8 3 (fun v5 => kwI S4 ((some h)) 8 4 v5 (fun S6 => kI S6 ((some h)) 8 3 (fun v7 => kI S6 ((some h)) 8 5 (fun v8 => kwI S6 ((some h)) 8 3 (v7 + v8) (fun S9 => kI S9 ((some h)) 8 3 (fun v10 => kP S9 ((some h)) 8 1 (fun v11 => kI S9 v11 2 2 (fun v12 => if fabs v10 ≤ v12 then (s_X8_tick_b152 h S9 l1) else (kO S9 ((some h)) 8 (fun a14 => kcv (s_X8_stop S9 a14 ) (fun S13 => s_X8_tick_b152 h S13 l1)))))))))))))))
set_option maxHeartbeats 4000000 in
set_option maxRecDepth 100000 in
theorem w_X8_tick_b92 {p : Program} {l : Launch} {e : Env} {s : State} {m : MethodId} {args : Array Value} {below : List Frame} {meth : Method} {c : Code} {b0 : Nat} {G : hG} {S1 : HS} {h : Nat} {S : HS} {l1 : Int32} {k0 : Option Nat} {k1 : Int32} (E : hE p s m args c b0 G cX8_tick RX8 5 wsX8_tick) (hrt : meth.sig.returnType = none) (hlk : meth.locks = false) (hh : s_X8_tick_b92 h S l1 k0 k1 = some S1) : WH p l e rm_X8_tick s m args below meth c b0 G 5 0 0 (MQ below (hQ b0 G none S1) args s 0 0 (hA b0)) S 92 [(0, hrf b0 ((some h))), (1, .int l1)] [.int k1, hrf b0 k0] := by
  have hh : (kwI S k0 8 5 k1 (fun S1 => kI S1 ((some h)) 8 7 (fun v2 => kI S1 ((some h)) 8 6 (fun v3 => kwI S1 ((some h)) 8 7 (fmax v2 v3) (fun S4 => kI S4 ((some h)) 8 3 (fun v5 => kwI S4 ((some h)) 8 4 v5 (fun S6 => kI S6 ((some h)) 8 3 (fun v7 => kI S6 ((some h)) 8 5 (fun v8 => kwI S6 ((some h)) 8 3 (v7 + v8) (fun S9 => kI S9 ((some h)) 8 3 (fun v10 => kP S9 ((some h)) 8 1 (fun v11 => kI S9 v11 2 2 (fun v12 => if fabs v10 ≤ v12 then (s_X8_tick_b152 h S9 l1) else (kO S9 ((some h)) 8 (fun a14 => kcv (s_X8_stop S9 a14 ) (fun S13 => s_X8_tick_b152 h S13 l1)))))))))))))))) = some S1 := hh
  refine rw_putI E hh (C := RX8) (T := TX8) (N := 12) (ty0 := tyX8) rfl tyX8_ok nmX8 (by decide) i_X8_tick_8 (by decide) rfl (List.mem_of_getElem? (i := 9) (by decide +kernel)) rfl (Or.inl rfl) rfl dX8_tick_92 (fun S1 hh => ?_)
  refine rw_aload_n E (j0 := 0) rfl rfl dX8_tick_95 ?_
  refine rw_aload_n E (j0 := 0) rfl rfl dX8_tick_96 ?_
  refine rw_getI E hh (C := RX8) (T := TX8) (N := 12) rfl (by decide) i_X8_tick_8 (by decide) rfl (List.mem_of_getElem? (i := 14) (by decide +kernel)) rfl dX8_tick_97 (fun v2 hh => ?_)
  refine rw_aload_n E (j0 := 0) rfl rfl dX8_tick_100 ?_
  refine rw_getI E hh (C := RX8) (T := TX8) (N := 12) rfl (by decide) i_X8_tick_8 (by decide) rfl (List.mem_of_getElem? (i := 13) (by decide +kernel)) rfl dX8_tick_101 (fun v3 hh => ?_)
  refine rw_mmax E ⟨by decide, (by (try simp only [List.map_cons, List.map_nil, List.sum_cons, List.sum_nil, hrf_cat, cat_i, cat_l, cat_r]) <;> decide), by decide, by decide⟩ (List.mem_of_getElem? (i := 10) (by decide +kernel)) (List.mem_of_getElem? (i := 11) (by decide +kernel)) (List.mem_of_getElem? (i := 5) (by decide +kernel)) (List.mem_of_getElem? (i := 12) (by decide +kernel)) dX8_tick_104 ?_
  refine rw_putI E hh (C := RX8) (T := TX8) (N := 12) (ty0 := tyX8) rfl tyX8_ok nmX8 (by decide) i_X8_tick_8 (by decide) rfl (List.mem_of_getElem? (i := 14) (by decide +kernel)) rfl (Or.inl rfl) rfl dX8_tick_107 (fun S4 hh => ?_)
  refine rw_aload_n E (j0 := 0) rfl rfl dX8_tick_110 ?_
  refine rw_aload_n E (j0 := 0) rfl rfl dX8_tick_111 ?_
  refine rw_getI E hh (C := RX8) (T := TX8) (N := 12) rfl (by decide) i_X8_tick_8 (by decide) rfl (List.mem_of_getElem? (i := 2) (by decide +kernel)) rfl dX8_tick_112 (fun v5 hh => ?_)
  refine rw_putI E hh (C := RX8) (T := TX8) (N := 12) (ty0 := tyX8) rfl tyX8_ok nmX8 (by decide) i_X8_tick_8 (by decide) rfl (List.mem_of_getElem? (i := 15) (by decide +kernel)) rfl (Or.inl rfl) rfl dX8_tick_115 (fun S6 hh => ?_)
  refine rw_aload_n E (j0 := 0) rfl rfl dX8_tick_118 ?_
  refine rw_dup E (hrf_cat _ _) dX8_tick_119 ?_
  refine rw_getI E hh (C := RX8) (T := TX8) (N := 12) rfl (by decide) i_X8_tick_8 (by decide) rfl (List.mem_of_getElem? (i := 2) (by decide +kernel)) rfl dX8_tick_120 (fun v7 hh => ?_)
  refine rw_aload_n E (j0 := 0) rfl rfl dX8_tick_123 ?_
  refine rw_getI E hh (C := RX8) (T := TX8) (N := 12) rfl (by decide) i_X8_tick_8 (by decide) rfl (List.mem_of_getElem? (i := 9) (by decide +kernel)) rfl dX8_tick_124 (fun v8 hh => ?_)
  refine rw_iadd E dX8_tick_127 ?_
  refine rw_putI E hh (C := RX8) (T := TX8) (N := 12) (ty0 := tyX8) rfl tyX8_ok nmX8 (by decide) i_X8_tick_8 (by decide) rfl (List.mem_of_getElem? (i := 2) (by decide +kernel)) rfl (Or.inl rfl) rfl dX8_tick_128 (fun S9 hh => ?_)
  refine rw_aload_n E (j0 := 0) rfl rfl dX8_tick_131 ?_
  refine rw_getI E hh (C := RX8) (T := TX8) (N := 12) rfl (by decide) i_X8_tick_8 (by decide) rfl (List.mem_of_getElem? (i := 2) (by decide +kernel)) rfl dX8_tick_132 (fun v10 hh => ?_)
  refine rw_mabs E ⟨by decide, (by (try simp only [List.map_cons, List.map_nil, List.sum_cons, List.sum_nil, hrf_cat, cat_i, cat_l, cat_r]) <;> decide), by decide, by decide⟩ (List.mem_of_getElem? (i := 3) (by decide +kernel)) (List.mem_of_getElem? (i := 4) (by decide +kernel)) (List.mem_of_getElem? (i := 5) (by decide +kernel)) (List.mem_of_getElem? (i := 6) (by decide +kernel)) dX8_tick_135 ?_
  refine rw_aload_n E (j0 := 0) rfl rfl dX8_tick_138 ?_
  refine rw_getP E hh (C := RX8) (T := TX8) (N := 12) rfl (by decide) i_X8_tick_8 (by decide) rfl (List.mem_of_getElem? (i := 1) (by decide +kernel)) rfl dX8_tick_139 (fun v11 hh => ?_)
  refine rw_getI E hh (C := RX2) (T := TX2) (N := 4) rfl (by decide) i_X8_tick_2 (by decide) rfl (List.mem_of_getElem? (i := 16) (by decide +kernel)) rfl dX8_tick_142 (fun v12 hh => ?_)
  refine rw_icmp_le E hh (tgt := 152) (by decide) dX8_tick_145 (fun hh => ?_) (fun hh => ?_)
  · refine WH.pick [0, 1] rfl ?_
    exact w_X8_tick_b152 E hrt hlk hh
  · refine rw_aload_n E (j0 := 0) rfl rfl dX8_tick_148 ?_
    refine rw_cVv E (As := []) hh (by decide) rfl (fun _ _ hq => c_X8_stop l b0 G _ _ _ hq) (cwV 0 E.2.2.2.2.1 gX8_tick_X8_stop rfl rfl rfl (by decide +kernel) ⟨Nat.le_of_ble_eq_true rfl, Nat.le_of_ble_eq_true rfl⟩) rfl rfl (by (try simp only [List.map_cons, List.map_nil, List.sum_cons, List.sum_nil, hrf_cat, cat_i, cat_l, cat_r]) <;> decide) ⟨Nat.le_of_ble_eq_true rfl, Nat.le_of_ble_eq_true rfl⟩ dX8_tick_149 (fun S13 hh => ?_)
    refine WH.pick [0, 1] rfl ?_
    exact w_X8_tick_b152 E hrt hlk hh
def s_X8_tick_b50 (h : Nat) (S : HS) (l1 : Int32) (l2 : Int32) (k0 : Int32) : Option (HS) := kP S ((some h)) 8 0 (fun v1 => kO S v1 3 (fun a4 => kc (s_X3_behindAir S a4 (fabs k0)) (fun v3 S2 => kwI S2 ((some h)) 8 6 (fmax 0 (v3 - l2)) (fun S5 => if 0 ≤ k0 then (kI S5 ((some h)) 8 6 (fun v6 => s_X8_tick_b92 h S5 l1 ((some h)) v6)) else (kI S5 ((some h)) 8 6 (fun v7 => s_X8_tick_b92 h S5 l1 ((some h)) (-v7)))))))
set_option maxHeartbeats 4000000 in
set_option maxRecDepth 100000 in
theorem w_X8_tick_b50 {p : Program} {l : Launch} {e : Env} {s : State} {m : MethodId} {args : Array Value} {below : List Frame} {meth : Method} {c : Code} {b0 : Nat} {G : hG} {S1 : HS} {h : Nat} {S : HS} {l1 : Int32} {l2 : Int32} {k0 : Int32} (E : hE p s m args c b0 G cX8_tick RX8 5 wsX8_tick) (hrt : meth.sig.returnType = none) (hlk : meth.locks = false) (hh : s_X8_tick_b50 h S l1 l2 k0 = some S1) : WH p l e rm_X8_tick s m args below meth c b0 G 5 0 0 (MQ below (hQ b0 G none S1) args s 0 0 (hA b0)) S 50 [(0, hrf b0 ((some h))), (1, .int l1), (2, .int l2)] [.int k0] := by
  have hh : (kP S ((some h)) 8 0 (fun v1 => kO S v1 3 (fun a4 => kc (s_X3_behindAir S a4 (fabs k0)) (fun v3 S2 => kwI S2 ((some h)) 8 6 (fmax 0 (v3 - l2)) (fun S5 => if 0 ≤ k0 then (kI S5 ((some h)) 8 6 (fun v6 => s_X8_tick_b92 h S5 l1 ((some h)) v6)) else (kI S5 ((some h)) 8 6 (fun v7 => s_X8_tick_b92 h S5 l1 ((some h)) (-v7)))))))) = some S1 := hh
  refine rw_istore E (lv2 := [(4, .int k0), (0, hrf b0 ((some h))), (1, .int l1), (2, .int l2)]) (by decide) rfl dX8_tick_50 ?_
  refine rw_aload_n E (j0 := 1) rfl rfl dX8_tick_52 ?_
  refine rw_iconst E (v := 0) (by decide) dX8_tick_53 ?_
  refine rw_aload_n E (j0 := 1) rfl rfl dX8_tick_54 ?_
  refine rw_getP E hh (C := RX8) (T := TX8) (N := 12) rfl (by decide) i_X8_tick_8 (by decide) rfl (List.mem_of_getElem? (i := 7) (by decide +kernel)) rfl dX8_tick_55 (fun v1 hh => ?_)
  refine rw_iload E (j0 := 0) rfl dX8_tick_58 ?_
  refine rw_mabs E ⟨by decide, (by (try simp only [List.map_cons, List.map_nil, List.sum_cons, List.sum_nil, hrf_cat, cat_i, cat_l, cat_r]) <;> decide), by decide, by decide⟩ (List.mem_of_getElem? (i := 3) (by decide +kernel)) (List.mem_of_getElem? (i := 4) (by decide +kernel)) (List.mem_of_getElem? (i := 5) (by decide +kernel)) (List.mem_of_getElem? (i := 6) (by decide +kernel)) dX8_tick_60 ?_
  refine rw_cVi E (As := [.int (fabs k0)]) hh (by decide) rfl (fun _ _ _ hq => c_X3_behindAir l b0 G _ _ _ _ _ hq) (cwV 1 E.2.2.2.2.1 gX8_tick_X3_behindAir rfl rfl rfl (by decide +kernel) ⟨Nat.le_of_ble_eq_true rfl, Nat.le_of_ble_eq_true rfl⟩) rfl rfl (by (try simp only [List.map_cons, List.map_nil, List.sum_cons, List.sum_nil, hrf_cat, cat_i, cat_l, cat_r]) <;> decide) ⟨Nat.le_of_ble_eq_true rfl, Nat.le_of_ble_eq_true rfl⟩ dX8_tick_63 (fun v3 S2 hh => ?_)
  refine rw_iload_n E (j0 := 3) rfl rfl dX8_tick_66 ?_
  refine rw_isub E dX8_tick_67 ?_
  refine rw_mmax E ⟨by decide, (by (try simp only [List.map_cons, List.map_nil, List.sum_cons, List.sum_nil, hrf_cat, cat_i, cat_l, cat_r]) <;> decide), by decide, by decide⟩ (List.mem_of_getElem? (i := 10) (by decide +kernel)) (List.mem_of_getElem? (i := 11) (by decide +kernel)) (List.mem_of_getElem? (i := 5) (by decide +kernel)) (List.mem_of_getElem? (i := 12) (by decide +kernel)) dX8_tick_68 ?_
  refine rw_putI E hh (C := RX8) (T := TX8) (N := 12) (ty0 := tyX8) rfl tyX8_ok nmX8 (by decide) i_X8_tick_8 (by decide) rfl (List.mem_of_getElem? (i := 13) (by decide +kernel)) rfl (Or.inl rfl) rfl dX8_tick_71 (fun S5 hh => ?_)
  refine rw_aload_n E (j0 := 1) rfl rfl dX8_tick_74 ?_
  refine rw_iload E (j0 := 0) rfl dX8_tick_75 ?_
  refine rw_if_ge E hh (tgt := 88) (by decide) dX8_tick_77 (fun hh => ?_) (fun hh => ?_)
  · refine rw_aload_n E (j0 := 1) rfl rfl dX8_tick_88 ?_
    refine rw_getI E hh (C := RX8) (T := TX8) (N := 12) rfl (by decide) i_X8_tick_8 (by decide) rfl (List.mem_of_getElem? (i := 13) (by decide +kernel)) rfl dX8_tick_89 (fun v6 hh => ?_)
    refine WH.pick [1, 2] rfl ?_
    exact w_X8_tick_b92 E hrt hlk hh
  · refine rw_aload_n E (j0 := 1) rfl rfl dX8_tick_80 ?_
    refine rw_getI E hh (C := RX8) (T := TX8) (N := 12) rfl (by decide) i_X8_tick_8 (by decide) rfl (List.mem_of_getElem? (i := 13) (by decide +kernel)) rfl dX8_tick_81 (fun v7 hh => ?_)
    refine rw_ineg E dX8_tick_84 ?_
    refine rw_goto E (tgt := 92) (by decide) dX8_tick_85 ?_
    refine WH.pick [1, 2] rfl ?_
    exact w_X8_tick_b92 E hrt hlk hh
def s_X8_tick (S : HS) (h : Nat) (l1 : Int32) (l2 : Int32) : Option (HS) := kP S ((some h)) 8 1 (fun v1 => kI S ((some h)) 8 3 (fun v2 => kO S v1 2 (fun a5 => kc (s_X2_slopeAt S a5 (fabs v2)) (fun v4 S3 => kP S3 ((some h)) 8 0 (fun v6 => kI S3 v6 3 0 (fun v7 => kdiv ((l1 * v4) * 10) v7 (fun v8 => kI S3 ((some h)) 8 3 (fun v9 => if v9 ≤ 0 then (kI S3 ((some h)) 8 5 (fun v10 => s_X8_tick_b50 h S3 l1 l2 (v10 + v8))) else (kI S3 ((some h)) 8 5 (fun v11 => s_X8_tick_b50 h S3 l1 l2 (v11 - v8)))))))))))
set_option maxHeartbeats 4000000 in
set_option maxRecDepth 100000 in
theorem c_X8_tick (l : Launch) (b0 : Nat) (G : hG) (S S1 : HS) (h : Nat) (l1 : Int32) (l2 : Int32) (hh : s_X8_tick S h l1 l2 = some S1) : MH l yX8_tick wsX8_tick rm_X8_tick b0 G S [hrf b0 (some h), .int l1, .int l2] none S1 0 0 := by
  refine MH.ofW (cc := cX8_tick) (maxL := 5) (ret := none) (own := RX8) (lv0 := [(0, hrf b0 ((some h))), (1, .int l1), (2, .int l2)]) (by decide) rfl rfl (Nat.le_of_ble_eq_true rfl) rfl ?_
  intro p e s m args below meth c E hrt hlk hnm
  have hh : (kP S ((some h)) 8 1 (fun v1 => kI S ((some h)) 8 3 (fun v2 => kO S v1 2 (fun a5 => kc (s_X2_slopeAt S a5 (fabs v2)) (fun v4 S3 => kP S3 ((some h)) 8 0 (fun v6 => kI S3 v6 3 0 (fun v7 => kdiv ((l1 * v4) * 10) v7 (fun v8 => kI S3 ((some h)) 8 3 (fun v9 => if v9 ≤ 0 then (kI S3 ((some h)) 8 5 (fun v10 => s_X8_tick_b50 h S3 l1 l2 (v10 + v8))) else (kI S3 ((some h)) 8 5 (fun v11 => s_X8_tick_b50 h S3 l1 l2 (v11 - v8)))))))))))) = some S1 := hh
  refine rw_iload_n E (j0 := 1) rfl rfl dX8_tick_0 ?_
  refine rw_aload_n E (j0 := 0) rfl rfl dX8_tick_1 ?_
  refine rw_getP E hh (C := RX8) (T := TX8) (N := 12) rfl (by decide) i_X8_tick_8 (by decide) rfl (List.mem_of_getElem? (i := 1) (by decide +kernel)) rfl dX8_tick_2 (fun v1 hh => ?_)
  refine rw_aload_n E (j0 := 0) rfl rfl dX8_tick_5 ?_
  refine rw_getI E hh (C := RX8) (T := TX8) (N := 12) rfl (by decide) i_X8_tick_8 (by decide) rfl (List.mem_of_getElem? (i := 2) (by decide +kernel)) rfl dX8_tick_6 (fun v2 hh => ?_)
  refine rw_mabs E ⟨by decide, (by (try simp only [List.map_cons, List.map_nil, List.sum_cons, List.sum_nil, hrf_cat, cat_i, cat_l, cat_r]) <;> decide), by decide, by decide⟩ (List.mem_of_getElem? (i := 3) (by decide +kernel)) (List.mem_of_getElem? (i := 4) (by decide +kernel)) (List.mem_of_getElem? (i := 5) (by decide +kernel)) (List.mem_of_getElem? (i := 6) (by decide +kernel)) dX8_tick_9 ?_
  refine rw_cVi E (As := [.int (fabs v2)]) hh (by decide) rfl (fun _ _ _ hq => c_X2_slopeAt l b0 G _ _ _ _ _ hq) (cwV 1 E.2.2.2.2.1 gX8_tick_X2_slopeAt rfl rfl rfl (by decide +kernel) ⟨Nat.le_of_ble_eq_true rfl, Nat.le_of_ble_eq_true rfl⟩) rfl rfl (by (try simp only [List.map_cons, List.map_nil, List.sum_cons, List.sum_nil, hrf_cat, cat_i, cat_l, cat_r]) <;> decide) ⟨Nat.le_of_ble_eq_true rfl, Nat.le_of_ble_eq_true rfl⟩ dX8_tick_12 (fun v4 S3 hh => ?_)
  refine rw_imul E dX8_tick_15 ?_
  refine rw_bipush E (v := 10) (by decide) dX8_tick_16 ?_
  refine rw_imul E dX8_tick_18 ?_
  refine rw_aload_n E (j0 := 0) rfl rfl dX8_tick_19 ?_
  refine rw_getP E hh (C := RX8) (T := TX8) (N := 12) rfl (by decide) i_X8_tick_8 (by decide) rfl (List.mem_of_getElem? (i := 7) (by decide +kernel)) rfl dX8_tick_20 (fun v6 hh => ?_)
  refine rw_getI E hh (C := RX3) (T := TX3) (N := 3) rfl (by decide) i_X8_tick_3 (by decide) rfl (List.mem_of_getElem? (i := 8) (by decide +kernel)) rfl dX8_tick_23 (fun v7 hh => ?_)
  refine rw_idiv E hh dX8_tick_26 (fun v8 hh => ?_)
  refine rw_istore_n E (lv2 := [(3, .int v8), (0, hrf b0 ((some h))), (1, .int l1), (2, .int l2)]) rfl (by decide) rfl dX8_tick_27 ?_
  refine rw_aload_n E (j0 := 1) rfl rfl dX8_tick_28 ?_
  refine rw_getI E hh (C := RX8) (T := TX8) (N := 12) rfl (by decide) i_X8_tick_8 (by decide) rfl (List.mem_of_getElem? (i := 2) (by decide +kernel)) rfl dX8_tick_29 (fun v9 hh => ?_)
  refine rw_if_le E hh (tgt := 44) (by decide) dX8_tick_32 (fun hh => ?_) (fun hh => ?_)
  · refine rw_aload_n E (j0 := 1) rfl rfl dX8_tick_44 ?_
    refine rw_getI E hh (C := RX8) (T := TX8) (N := 12) rfl (by decide) i_X8_tick_8 (by decide) rfl (List.mem_of_getElem? (i := 9) (by decide +kernel)) rfl dX8_tick_45 (fun v10 hh => ?_)
    refine rw_iload_n E (j0 := 0) rfl rfl dX8_tick_48 ?_
    refine rw_iadd E dX8_tick_49 ?_
    refine WH.pick [1, 2, 3] rfl ?_
    exact w_X8_tick_b50 E hrt hlk hh
  · refine rw_aload_n E (j0 := 1) rfl rfl dX8_tick_35 ?_
    refine rw_getI E hh (C := RX8) (T := TX8) (N := 12) rfl (by decide) i_X8_tick_8 (by decide) rfl (List.mem_of_getElem? (i := 9) (by decide +kernel)) rfl dX8_tick_36 (fun v11 hh => ?_)
    refine rw_iload_n E (j0 := 0) rfl rfl dX8_tick_39 ?_
    refine rw_isub E dX8_tick_40 ?_
    refine rw_goto E (tgt := 50) (by decide) dX8_tick_41 ?_
    refine WH.pick [1, 2, 3] rfl ?_
    exact w_X8_tick_b50 E hrt hlk hh

/-! HummingDisc$Foretold.pulledPace()I -/
abbrev rm_X4_pulledPace : Room := { frames := 4, cells := 0, slots := 0, locals := 87 }
theorem i_X4_pulledPace_4 : ∀ w ∈ wsX40, w ∈ wsX4_pulledPace := fun _ h => List.mem_cons_of_mem _ (List.mem_append_left _ (List.mem_append_left _ (List.mem_append_left _ (List.mem_append_right _ (h)))))
theorem i_X4_pulledPace_8 : ∀ w ∈ wsX80, w ∈ wsX4_pulledPace := fun _ h => List.mem_cons_of_mem _ (List.mem_append_left _ (List.mem_append_left _ (List.mem_append_right _ (h))))
def s_X4_pulledPace_b46 (j6 : HS → Int32 → Option (Int32 × HS)) (h : Nat) (S : HS) (l1 : Int32) (k0 : Option Nat) (k1 : Int32) : Option (Int32 × HS) := kO S k0 8 (fun a2 => kcv (s_X8_tick S a2 k1 0) (fun S1 => j6 S1 (l1 + 1)))
set_option maxHeartbeats 4000000 in
set_option maxRecDepth 100000 in
theorem w_X4_pulledPace_b46 {p : Program} {l : Launch} {e : Env} {s : State} {m : MethodId} {args : Array Value} {below : List Frame} {meth : Method} {c : Code} {b0 : Nat} {G : hG} {S1 : HS} {r : Int32} {j6 : HS → Int32 → Option (Int32 × HS)} {h : Nat} {S : HS} {l1 : Int32} {k0 : Option Nat} {k1 : Int32} (E : hE p s m args c b0 G cX4_pulledPace RX4 2 wsX4_pulledPace) (hrt : meth.sig.returnType = (some .int)) (hlk : meth.locks = false) (hj6 : ∀ (S : HS) (l1 : Int32), j6 S l1 = some (r, S1) → WH p l e rm_X4_pulledPace s m args below meth c b0 G 2 0 0 (MQ below (hQ b0 G (some (.int r)) S1) args s 0 0 (hA b0)) S 6 [(0, hrf b0 ((some h))), (1, .int l1)] []) (hh : s_X4_pulledPace_b46 j6 h S l1 k0 k1 = some (r, S1)) : WH p l e rm_X4_pulledPace s m args below meth c b0 G 2 0 0 (MQ below (hQ b0 G (some (.int r)) S1) args s 0 0 (hA b0)) S 46 [(0, hrf b0 ((some h))), (1, .int l1)] [.int k1, hrf b0 k0] := by
  have hh : (kO S k0 8 (fun a2 => kcv (s_X8_tick S a2 k1 0) (fun S1 => j6 S1 (l1 + 1)))) = some (r, S1) := hh
  refine rw_iconst E (v := 0) (by decide) dX4_pulledPace_46 ?_
  refine rw_cVv E (As := [.int k1, .int 0]) hh (by decide) rfl (fun _ _ hq => c_X8_tick l b0 G _ _ _ _ _ hq) (cwV 2 E.2.2.2.2.1 gX4_pulledPace_X8_tick rfl rfl rfl (by decide +kernel) ⟨Nat.le_of_ble_eq_true rfl, Nat.le_of_ble_eq_true rfl⟩) rfl rfl (by (try simp only [List.map_cons, List.map_nil, List.sum_cons, List.sum_nil, hrf_cat, cat_i, cat_l, cat_r]) <;> decide) ⟨Nat.le_of_ble_eq_true rfl, Nat.le_of_ble_eq_true rfl⟩ dX4_pulledPace_47 (fun S1 hh => ?_)
  refine rw_iinc E (v := l1 + 1) (lv2 := [(1, .int (l1 + 1)), (0, hrf b0 ((some h)))]) (j0 := 1) rfl rfl (by decide) rfl dX4_pulledPace_50 ?_
  refine rw_goto E (tgt := 6) (by decide) dX4_pulledPace_53 ?_
  refine WH.pick [1, 0] rfl ?_
  exact hj6 _ _ hh
def s_X4_pulledPace_b6 (j6 : HS → Int32 → Option (Int32 × HS)) (h : Nat) (S : HS) (l1 : Int32) : Option (Int32 × HS) := kI S ((some h)) 4 7 (fun v1 => if v1 ≤ l1 then (kP S ((some h)) 4 0 (fun v2 => kI S v2 8 7 (fun v3 => some (v3, S)))) else (kP S ((some h)) 4 0 (fun v4 => kI S v4 8 11 (fun v5 => if v5 = 0 then (kP S ((some h)) 4 0 (fun v8 => kP S ((some h)) 4 0 (fun v9 => kO S v9 8 (fun a12 => kc (s_X8_unwinds S a12 ) (fun v11 S10 => if v11 = 0 then (s_X4_pulledPace_b46 j6 h S10 l1 v8 0) else (kI S10 ((some h)) 4 6 (fun v13 => s_X4_pulledPace_b46 j6 h S10 l1 v8 v13))))))) else (kP S ((some h)) 4 0 (fun v6 => kI S v6 8 7 (fun v7 => some (v7, S))))))))
set_option maxHeartbeats 4000000 in
set_option maxRecDepth 100000 in
theorem w_X4_pulledPace_b6 {p : Program} {l : Launch} {e : Env} {s : State} {m : MethodId} {args : Array Value} {below : List Frame} {meth : Method} {c : Code} {b0 : Nat} {G : hG} {S1 : HS} {r : Int32} {j6 : HS → Int32 → Option (Int32 × HS)} {h : Nat} {S : HS} {l1 : Int32} (E : hE p s m args c b0 G cX4_pulledPace RX4 2 wsX4_pulledPace) (hrt : meth.sig.returnType = (some .int)) (hlk : meth.locks = false) (hj6 : ∀ (S : HS) (l1 : Int32), j6 S l1 = some (r, S1) → WH p l e rm_X4_pulledPace s m args below meth c b0 G 2 0 0 (MQ below (hQ b0 G (some (.int r)) S1) args s 0 0 (hA b0)) S 6 [(0, hrf b0 ((some h))), (1, .int l1)] []) (hh : s_X4_pulledPace_b6 j6 h S l1 = some (r, S1)) : WH p l e rm_X4_pulledPace s m args below meth c b0 G 2 0 0 (MQ below (hQ b0 G (some (.int r)) S1) args s 0 0 (hA b0)) S 6 [(0, hrf b0 ((some h))), (1, .int l1)] [] := by
  have hh : (kI S ((some h)) 4 7 (fun v1 => if v1 ≤ l1 then (kP S ((some h)) 4 0 (fun v2 => kI S v2 8 7 (fun v3 => some (v3, S)))) else (kP S ((some h)) 4 0 (fun v4 => kI S v4 8 11 (fun v5 => if v5 = 0 then (kP S ((some h)) 4 0 (fun v8 => kP S ((some h)) 4 0 (fun v9 => kO S v9 8 (fun a12 => kc (s_X8_unwinds S a12 ) (fun v11 S10 => if v11 = 0 then (s_X4_pulledPace_b46 j6 h S10 l1 v8 0) else (kI S10 ((some h)) 4 6 (fun v13 => s_X4_pulledPace_b46 j6 h S10 l1 v8 v13))))))) else (kP S ((some h)) 4 0 (fun v6 => kI S v6 8 7 (fun v7 => some (v7, S))))))))) = some (r, S1) := hh
  refine rw_iload_n E (j0 := 1) rfl rfl dX4_pulledPace_6 ?_
  refine rw_aload_n E (j0 := 0) rfl rfl dX4_pulledPace_7 ?_
  refine rw_getI E hh (C := RX4) (T := TX4) (N := 9) rfl (by decide) i_X4_pulledPace_4 (by decide) rfl (List.mem_of_getElem? (i := 1) (by decide +kernel)) rfl dX4_pulledPace_8 (fun v1 hh => ?_)
  refine rw_icmp_ge E hh (tgt := 56) (by decide) dX4_pulledPace_11 (fun hh => ?_) (fun hh => ?_)
  · refine rw_aload_n E (j0 := 0) rfl rfl dX4_pulledPace_56 ?_
    refine rw_getP E hh (C := RX4) (T := TX4) (N := 9) rfl (by decide) i_X4_pulledPace_4 (by decide) rfl (List.mem_of_getElem? (i := 2) (by decide +kernel)) rfl dX4_pulledPace_57 (fun v2 hh => ?_)
    refine rw_getI E hh (C := RX8) (T := TX8) (N := 12) rfl (by decide) i_X4_pulledPace_8 (by decide) rfl (List.mem_of_getElem? (i := 5) (by decide +kernel)) rfl dX4_pulledPace_60 (fun v3 hh => ?_)
    exact rw_iret E hrt hlk hh (by decide) (by decide) dX4_pulledPace_63
  · refine rw_aload_n E (j0 := 0) rfl rfl dX4_pulledPace_14 ?_
    refine rw_getP E hh (C := RX4) (T := TX4) (N := 9) rfl (by decide) i_X4_pulledPace_4 (by decide) rfl (List.mem_of_getElem? (i := 2) (by decide +kernel)) rfl dX4_pulledPace_15 (fun v4 hh => ?_)
    refine rw_getI E hh (C := RX8) (T := TX8) (N := 12) rfl (by decide) i_X4_pulledPace_8 (by decide) rfl (List.mem_of_getElem? (i := 3) (by decide +kernel)) rfl dX4_pulledPace_18 (fun v5 hh => ?_)
    refine rw_if_ne E hh (tgt := 56) (by decide) dX4_pulledPace_21 (fun hh => ?_) (fun hh => ?_)
    · refine rw_aload_n E (j0 := 0) rfl rfl dX4_pulledPace_56 ?_
      refine rw_getP E hh (C := RX4) (T := TX4) (N := 9) rfl (by decide) i_X4_pulledPace_4 (by decide) rfl (List.mem_of_getElem? (i := 2) (by decide +kernel)) rfl dX4_pulledPace_57 (fun v6 hh => ?_)
      refine rw_getI E hh (C := RX8) (T := TX8) (N := 12) rfl (by decide) i_X4_pulledPace_8 (by decide) rfl (List.mem_of_getElem? (i := 5) (by decide +kernel)) rfl dX4_pulledPace_60 (fun v7 hh => ?_)
      exact rw_iret E hrt hlk hh (by decide) (by decide) dX4_pulledPace_63
    · refine rw_aload_n E (j0 := 0) rfl rfl dX4_pulledPace_24 ?_
      refine rw_getP E hh (C := RX4) (T := TX4) (N := 9) rfl (by decide) i_X4_pulledPace_4 (by decide) rfl (List.mem_of_getElem? (i := 2) (by decide +kernel)) rfl dX4_pulledPace_25 (fun v8 hh => ?_)
      refine rw_aload_n E (j0 := 0) rfl rfl dX4_pulledPace_28 ?_
      refine rw_getP E hh (C := RX4) (T := TX4) (N := 9) rfl (by decide) i_X4_pulledPace_4 (by decide) rfl (List.mem_of_getElem? (i := 2) (by decide +kernel)) rfl dX4_pulledPace_29 (fun v9 hh => ?_)
      refine rw_cVi E (As := []) hh (by decide) rfl (fun _ _ _ hq => c_X8_unwinds l b0 G _ _ _ _ hq) (cwV 0 E.2.2.2.2.1 gX4_pulledPace_X8_unwinds rfl rfl rfl (by decide +kernel) ⟨Nat.le_of_ble_eq_true rfl, Nat.le_of_ble_eq_true rfl⟩) rfl rfl (by (try simp only [List.map_cons, List.map_nil, List.sum_cons, List.sum_nil, hrf_cat, cat_i, cat_l, cat_r]) <;> decide) ⟨Nat.le_of_ble_eq_true rfl, Nat.le_of_ble_eq_true rfl⟩ dX4_pulledPace_32 (fun v11 S10 hh => ?_)
      refine rw_if_eq E hh (tgt := 45) (by decide) dX4_pulledPace_35 (fun hh => ?_) (fun hh => ?_)
      · refine rw_iconst E (v := 0) (by decide) dX4_pulledPace_45 ?_
        refine WH.pick [0, 1] rfl ?_
        exact w_X4_pulledPace_b46 E hrt hlk hj6 hh
      · refine rw_aload_n E (j0 := 0) rfl rfl dX4_pulledPace_38 ?_
        refine rw_getI E hh (C := RX4) (T := TX4) (N := 9) rfl (by decide) i_X4_pulledPace_4 (by decide) rfl (List.mem_of_getElem? (i := 4) (by decide +kernel)) rfl dX4_pulledPace_39 (fun v13 hh => ?_)
        refine rw_goto E (tgt := 46) (by decide) dX4_pulledPace_42 ?_
        refine WH.pick [0, 1] rfl ?_
        exact w_X4_pulledPace_b46 E hrt hlk hj6 hh
def s_X4_pulledPace_L6 (h : Nat) : Nat → HS → Int32 → Option (Int32 × HS)
  | 0 => fun _ _ => none
  | n + 1 => s_X4_pulledPace_b6 (s_X4_pulledPace_L6 h n) h
set_option maxHeartbeats 4000000 in
set_option maxRecDepth 100000 in
theorem w_X4_pulledPace_L6 {p : Program} {l : Launch} {e : Env} {s : State} {m : MethodId} {args : Array Value} {below : List Frame} {meth : Method} {c : Code} {b0 : Nat} {G : hG} {S1 : HS} {r : Int32} {h : Nat} (E : hE p s m args c b0 G cX4_pulledPace RX4 2 wsX4_pulledPace) (hrt : meth.sig.returnType = (some .int)) (hlk : meth.locks = false) : ∀ (n : Nat) (S : HS) (l1 : Int32), s_X4_pulledPace_L6 h n S l1 = some (r, S1) → WH p l e rm_X4_pulledPace s m args below meth c b0 G 2 0 0 (MQ below (hQ b0 G (some (.int r)) S1) args s 0 0 (hA b0)) S 6 [(0, hrf b0 ((some h))), (1, .int l1)] [] := by
  intro n
  induction n with
  | zero => intro _ _ hh; exact absurd hh (by simp [s_X4_pulledPace_L6])
  | succ n ih => intro _ _ hh; exact w_X4_pulledPace_b6 E hrt hlk  ih hh
def s_X4_pulledPace (S : HS) (h : Nat) : Option (Int32 × HS) := kO S ((some h)) 4 (fun a2 => kcv (s_X4_start S a2 ) (fun S1 => s_X4_pulledPace_L6 h 100000 S1 0))
set_option maxHeartbeats 4000000 in
set_option maxRecDepth 100000 in
theorem c_X4_pulledPace (l : Launch) (b0 : Nat) (G : hG) (S S1 : HS) (h : Nat) (r : Int32) (hh : s_X4_pulledPace S h  = some (r, S1)) : MH l yX4_pulledPace wsX4_pulledPace rm_X4_pulledPace b0 G S [hrf b0 (some h)] (some (.int r)) S1 0 0 := by
  refine MH.ofW (cc := cX4_pulledPace) (maxL := 2) (ret := (some .int)) (own := RX4) (lv0 := [(0, hrf b0 ((some h)))]) (by decide) rfl rfl (Nat.le_of_ble_eq_true rfl) rfl ?_
  intro p e s m args below meth c E hrt hlk hnm
  have hh : (kO S ((some h)) 4 (fun a2 => kcv (s_X4_start S a2 ) (fun S1 => s_X4_pulledPace_L6 h 100000 S1 0))) = some (r, S1) := hh
  refine rw_aload_n E (j0 := 0) rfl rfl dX4_pulledPace_0 ?_
  refine rw_cVv E (As := []) hh (by decide) rfl (fun _ _ hq => c_X4_start l b0 G _ _ _ hq) (cwV 0 E.2.2.2.2.1 gX4_pulledPace_X4_start rfl rfl rfl (by decide +kernel) ⟨Nat.le_of_ble_eq_true rfl, Nat.le_of_ble_eq_true rfl⟩) rfl rfl (by (try simp only [List.map_cons, List.map_nil, List.sum_cons, List.sum_nil, hrf_cat, cat_i, cat_l, cat_r]) <;> decide) ⟨Nat.le_of_ble_eq_true rfl, Nat.le_of_ble_eq_true rfl⟩ dX4_pulledPace_1 (fun S1 hh => ?_)
  refine rw_iconst E (v := 0) (by decide) dX4_pulledPace_4 ?_
  refine rw_istore_n E (lv2 := [(1, .int 0), (0, hrf b0 ((some h)))]) rfl (by decide) rfl dX4_pulledPace_5 ?_
  refine WH.pick [1, 0] rfl ?_
  exact w_X4_pulledPace_L6 E hrt hlk 100000 _ _ hh

/-! HummingDisc$Foretold.bestOf(LHummingDisc$Box;III)I -/
abbrev rm_X4_bestOf : Room := { frames := 5, cells := 0, slots := 0, locals := 108 }
theorem i_X4_bestOf_1 : ∀ w ∈ wsX10, w ∈ wsX4_bestOf := fun _ h => List.mem_cons_of_mem _ (List.mem_append_left _ (List.mem_append_left _ (List.mem_append_left _ (List.mem_append_left _ (List.mem_append_right _ (h))))))
theorem i_X4_bestOf_2 : ∀ w ∈ wsX20, w ∈ wsX4_bestOf := fun _ h => List.mem_cons_of_mem _ (List.mem_append_left _ (List.mem_append_left _ (List.mem_append_left _ (List.mem_append_right _ (h)))))
theorem i_X4_bestOf_4 : ∀ w ∈ wsX40, w ∈ wsX4_bestOf := fun _ h => List.mem_cons_of_mem _ (List.mem_append_left _ (List.mem_append_left _ (List.mem_append_right _ (h))))
theorem i_X4_bestOf_8 : ∀ w ∈ wsX80, w ∈ wsX4_bestOf := fun _ h => List.mem_cons_of_mem _ (List.mem_append_left _ (List.mem_append_right _ (h)))
def s_X4_bestOf_b106 (j10 : HS → Option Nat → Int32 → Int32 → Int32 → Int32 → Int32 → Int32 → Option (Int32 × HS)) (j22 : HS → Option Nat → Int32 → Int32 → Int32 → Int32 → Int32 → Int32 → Int32 → Option (Int32 × HS)) (h : Nat) (S : HS) (l1 : Option Nat) (l2 : Int32) (l3 : Int32) (l4 : Int32) (l5 : Int32) (l6 : Int32) (l7 : Int32) (l8 : Int32) : Option (Int32 × HS) := j22 S l1 l2 l3 l4 l5 l6 l7 (l8 + 1)
set_option maxHeartbeats 4000000 in
set_option maxRecDepth 100000 in
theorem w_X4_bestOf_b106 {p : Program} {l : Launch} {e : Env} {s : State} {m : MethodId} {args : Array Value} {below : List Frame} {meth : Method} {c : Code} {b0 : Nat} {G : hG} {S1 : HS} {r : Int32} {j10 : HS → Option Nat → Int32 → Int32 → Int32 → Int32 → Int32 → Int32 → Option (Int32 × HS)} {j22 : HS → Option Nat → Int32 → Int32 → Int32 → Int32 → Int32 → Int32 → Int32 → Option (Int32 × HS)} {h : Nat} {S : HS} {l1 : Option Nat} {l2 : Int32} {l3 : Int32} {l4 : Int32} {l5 : Int32} {l6 : Int32} {l7 : Int32} {l8 : Int32} (E : hE p s m args c b0 G cX4_bestOf RX4 10 wsX4_bestOf) (hrt : meth.sig.returnType = (some .int)) (hlk : meth.locks = false) (hj10 : ∀ (S : HS) (l1 : Option Nat) (l2 : Int32) (l3 : Int32) (l4 : Int32) (l5 : Int32) (l6 : Int32) (l7 : Int32), j10 S l1 l2 l3 l4 l5 l6 l7 = some (r, S1) → WH p l e rm_X4_bestOf s m args below meth c b0 G 10 0 0 (MQ below (hQ b0 G (some (.int r)) S1) args s 0 0 (hA b0)) S 10 [(0, hrf b0 ((some h))), (1, hrf b0 l1), (2, .int l2), (3, .int l3), (4, .int l4), (5, .int l5), (6, .int l6), (7, .int l7)] []) (hj22 : ∀ (S : HS) (l1 : Option Nat) (l2 : Int32) (l3 : Int32) (l4 : Int32) (l5 : Int32) (l6 : Int32) (l7 : Int32) (l8 : Int32), j22 S l1 l2 l3 l4 l5 l6 l7 l8 = some (r, S1) → WH p l e rm_X4_bestOf s m args below meth c b0 G 10 0 0 (MQ below (hQ b0 G (some (.int r)) S1) args s 0 0 (hA b0)) S 22 [(0, hrf b0 ((some h))), (1, hrf b0 l1), (2, .int l2), (3, .int l3), (4, .int l4), (5, .int l5), (6, .int l6), (7, .int l7), (8, .int l8)] []) (hh : s_X4_bestOf_b106 j10 j22 h S l1 l2 l3 l4 l5 l6 l7 l8 = some (r, S1)) : WH p l e rm_X4_bestOf s m args below meth c b0 G 10 0 0 (MQ below (hQ b0 G (some (.int r)) S1) args s 0 0 (hA b0)) S 106 [(0, hrf b0 ((some h))), (1, hrf b0 l1), (2, .int l2), (3, .int l3), (4, .int l4), (5, .int l5), (6, .int l6), (7, .int l7), (8, .int l8)] [] := by
  have hh : (j22 S l1 l2 l3 l4 l5 l6 l7 (l8 + 1)) = some (r, S1) := hh
  refine rw_iinc E (v := l8 + 1) (lv2 := [(8, .int (l8 + 1)), (0, hrf b0 ((some h))), (1, hrf b0 l1), (2, .int l2), (3, .int l3), (4, .int l4), (5, .int l5), (6, .int l6), (7, .int l7)]) (j0 := 8) rfl rfl (by decide) rfl dX4_bestOf_106 ?_
  refine rw_goto E (tgt := 22) (by decide) dX4_bestOf_109 ?_
  refine WH.pick [1, 2, 3, 4, 5, 6, 7, 8, 0] rfl ?_
  exact hj22 _ _ _ _ _ _ _ _ _ hh
def s_X4_bestOf_b22 (j10 : HS → Option Nat → Int32 → Int32 → Int32 → Int32 → Int32 → Int32 → Option (Int32 × HS)) (j22 : HS → Option Nat → Int32 → Int32 → Int32 → Int32 → Int32 → Int32 → Int32 → Option (Int32 × HS)) (h : Nat) (S : HS) (l1 : Option Nat) (l2 : Int32) (l3 : Int32) (l4 : Int32) (l5 : Int32) (l6 : Int32) (l7 : Int32) (l8 : Int32) : Option (Int32 × HS) := kI S l1 1 4 (fun v1 => if v1 ≤ l8 then (j10 S l1 l2 l3 l4 l5 l6 (l7 + 1)) else (kP S l1 1 0 (fun v2 => kAP S v2 17 l7 (fun v3 => kP S l1 1 1 (fun v4 => kAP S v4 16 l8 (fun v5 => kP S l1 1 1 (fun v6 => kAP S v6 16 l8 (fun v7 => kI S v7 2 2 (fun v8 => kO S ((some h)) 4 (fun a10 => kcv (s_X4_about S a10 v3 v5 (fmin l2 v8) l3 l4) (fun S9 => kO S9 ((some h)) 4 (fun a13 => kc (s_X4_pulledPace S9 a13 ) (fun v12 S11 => kP S11 ((some h)) 4 0 (fun v14 => kI S11 v14 8 11 (fun v15 => if v15 = 0 then (if l6 < v12 then (s_X4_bestOf_b106 j10 j22 h S11 l1 l2 l3 l4 ((8 * l7) + l8) v12 l7 l8) else (s_X4_bestOf_b106 j10 j22 h S11 l1 l2 l3 l4 l5 l6 l7 l8)) else (s_X4_bestOf_b106 j10 j22 h S11 l1 l2 l3 l4 l5 l6 l7 l8))))))))))))))))
set_option maxHeartbeats 4000000 in
set_option maxRecDepth 100000 in
theorem w_X4_bestOf_b22 {p : Program} {l : Launch} {e : Env} {s : State} {m : MethodId} {args : Array Value} {below : List Frame} {meth : Method} {c : Code} {b0 : Nat} {G : hG} {S1 : HS} {r : Int32} {j10 : HS → Option Nat → Int32 → Int32 → Int32 → Int32 → Int32 → Int32 → Option (Int32 × HS)} {j22 : HS → Option Nat → Int32 → Int32 → Int32 → Int32 → Int32 → Int32 → Int32 → Option (Int32 × HS)} {h : Nat} {S : HS} {l1 : Option Nat} {l2 : Int32} {l3 : Int32} {l4 : Int32} {l5 : Int32} {l6 : Int32} {l7 : Int32} {l8 : Int32} (E : hE p s m args c b0 G cX4_bestOf RX4 10 wsX4_bestOf) (hrt : meth.sig.returnType = (some .int)) (hlk : meth.locks = false) (hj10 : ∀ (S : HS) (l1 : Option Nat) (l2 : Int32) (l3 : Int32) (l4 : Int32) (l5 : Int32) (l6 : Int32) (l7 : Int32), j10 S l1 l2 l3 l4 l5 l6 l7 = some (r, S1) → WH p l e rm_X4_bestOf s m args below meth c b0 G 10 0 0 (MQ below (hQ b0 G (some (.int r)) S1) args s 0 0 (hA b0)) S 10 [(0, hrf b0 ((some h))), (1, hrf b0 l1), (2, .int l2), (3, .int l3), (4, .int l4), (5, .int l5), (6, .int l6), (7, .int l7)] []) (hj22 : ∀ (S : HS) (l1 : Option Nat) (l2 : Int32) (l3 : Int32) (l4 : Int32) (l5 : Int32) (l6 : Int32) (l7 : Int32) (l8 : Int32), j22 S l1 l2 l3 l4 l5 l6 l7 l8 = some (r, S1) → WH p l e rm_X4_bestOf s m args below meth c b0 G 10 0 0 (MQ below (hQ b0 G (some (.int r)) S1) args s 0 0 (hA b0)) S 22 [(0, hrf b0 ((some h))), (1, hrf b0 l1), (2, .int l2), (3, .int l3), (4, .int l4), (5, .int l5), (6, .int l6), (7, .int l7), (8, .int l8)] []) (hh : s_X4_bestOf_b22 j10 j22 h S l1 l2 l3 l4 l5 l6 l7 l8 = some (r, S1)) : WH p l e rm_X4_bestOf s m args below meth c b0 G 10 0 0 (MQ below (hQ b0 G (some (.int r)) S1) args s 0 0 (hA b0)) S 22 [(0, hrf b0 ((some h))), (1, hrf b0 l1), (2, .int l2), (3, .int l3), (4, .int l4), (5, .int l5), (6, .int l6), (7, .int l7), (8, .int l8)] [] := by
  have hh : (kI S l1 1 4 (fun v1 => if v1 ≤ l8 then (j10 S l1 l2 l3 l4 l5 l6 (l7 + 1)) else (kP S l1 1 0 (fun v2 => kAP S v2 17 l7 (fun v3 => kP S l1 1 1 (fun v4 => kAP S v4 16 l8 (fun v5 => kP S l1 1 1 (fun v6 => kAP S v6 16 l8 (fun v7 => kI S v7 2 2 (fun v8 => kO S ((some h)) 4 (fun a10 => kcv (s_X4_about S a10 v3 v5 (fmin l2 v8) l3 l4) (fun S9 => kO S9 ((some h)) 4 (fun a13 => kc (s_X4_pulledPace S9 a13 ) (fun v12 S11 => kP S11 ((some h)) 4 0 (fun v14 => kI S11 v14 8 11 (fun v15 => if v15 = 0 then (if l6 < v12 then (s_X4_bestOf_b106 j10 j22 h S11 l1 l2 l3 l4 ((8 * l7) + l8) v12 l7 l8) else (s_X4_bestOf_b106 j10 j22 h S11 l1 l2 l3 l4 l5 l6 l7 l8)) else (s_X4_bestOf_b106 j10 j22 h S11 l1 l2 l3 l4 l5 l6 l7 l8))))))))))))))))) = some (r, S1) := hh
  refine rw_iload E (j0 := 8) rfl dX4_bestOf_22 ?_
  refine rw_aload_n E (j0 := 1) rfl rfl dX4_bestOf_24 ?_
  refine rw_getI E hh (C := RX1) (T := TX1) (N := 6) rfl (by decide) i_X4_bestOf_1 (by decide) rfl (List.mem_of_getElem? (i := 3) (by decide +kernel)) rfl dX4_bestOf_25 (fun v1 hh => ?_)
  refine rw_icmp_ge E hh (tgt := 112) (by decide) dX4_bestOf_28 (fun hh => ?_) (fun hh => ?_)
  · refine rw_iinc E (v := l7 + 1) (lv2 := [(7, .int (l7 + 1)), (0, hrf b0 ((some h))), (1, hrf b0 l1), (2, .int l2), (3, .int l3), (4, .int l4), (5, .int l5), (6, .int l6), (8, .int l8)]) (j0 := 7) rfl rfl (by decide) rfl dX4_bestOf_112 ?_
    refine rw_goto E (tgt := 10) (by decide) dX4_bestOf_115 ?_
    refine WH.pick [1, 2, 3, 4, 5, 6, 7, 0] rfl ?_
    exact hj10 _ _ _ _ _ _ _ _ hh
  · refine rw_aload_n E (j0 := 0) rfl rfl dX4_bestOf_31 ?_
    refine rw_aload_n E (j0 := 1) rfl rfl dX4_bestOf_32 ?_
    refine rw_getP E hh (C := RX1) (T := TX1) (N := 6) rfl (by decide) i_X4_bestOf_1 (by decide) rfl (List.mem_of_getElem? (i := 4) (by decide +kernel)) rfl dX4_bestOf_33 (fun v2 hh => ?_)
    refine rw_iload E (j0 := 7) rfl dX4_bestOf_36 ?_
    refine rw_aald E hh (t0 := 4) (by decide) (fun _ => rfl) dX4_bestOf_38 (fun v3 hh => ?_)
    refine rw_aload_n E (j0 := 1) rfl rfl dX4_bestOf_39 ?_
    refine rw_getP E hh (C := RX1) (T := TX1) (N := 6) rfl (by decide) i_X4_bestOf_1 (by decide) rfl (List.mem_of_getElem? (i := 5) (by decide +kernel)) rfl dX4_bestOf_40 (fun v4 hh => ?_)
    refine rw_iload E (j0 := 8) rfl dX4_bestOf_43 ?_
    refine rw_aald E hh (t0 := 3) (by decide) (fun _ => rfl) dX4_bestOf_45 (fun v5 hh => ?_)
    refine rw_iload_n E (j0 := 2) rfl rfl dX4_bestOf_46 ?_
    refine rw_aload_n E (j0 := 1) rfl rfl dX4_bestOf_47 ?_
    refine rw_getP E hh (C := RX1) (T := TX1) (N := 6) rfl (by decide) i_X4_bestOf_1 (by decide) rfl (List.mem_of_getElem? (i := 5) (by decide +kernel)) rfl dX4_bestOf_48 (fun v6 hh => ?_)
    refine rw_iload E (j0 := 8) rfl dX4_bestOf_51 ?_
    refine rw_aald E hh (t0 := 3) (by decide) (fun _ => rfl) dX4_bestOf_53 (fun v7 hh => ?_)
    refine rw_getI E hh (C := RX2) (T := TX2) (N := 4) rfl (by decide) i_X4_bestOf_2 (by decide) rfl (List.mem_of_getElem? (i := 6) (by decide +kernel)) rfl dX4_bestOf_54 (fun v8 hh => ?_)
    refine rw_mmin E ⟨by decide, (by (try simp only [List.map_cons, List.map_nil, List.sum_cons, List.sum_nil, hrf_cat, cat_i, cat_l, cat_r]) <;> decide), by decide, by decide⟩ (List.mem_of_getElem? (i := 7) (by decide +kernel)) (List.mem_of_getElem? (i := 8) (by decide +kernel)) (List.mem_of_getElem? (i := 9) (by decide +kernel)) (List.mem_of_getElem? (i := 10) (by decide +kernel)) dX4_bestOf_57 ?_
    refine rw_iload_n E (j0 := 3) rfl rfl dX4_bestOf_60 ?_
    refine rw_iload E (j0 := 4) rfl dX4_bestOf_61 ?_
    refine rw_cVv E (As := [hrf b0 v3, hrf b0 v5, .int (fmin l2 v8), .int l3, .int l4]) hh (by decide) rfl (fun _ _ hq => c_X4_about l b0 G _ _ _ _ _ _ _ _ hq) (cwV 5 E.2.2.2.2.1 gX4_bestOf_X4_about rfl rfl rfl (by decide +kernel) ⟨Nat.le_of_ble_eq_true rfl, Nat.le_of_ble_eq_true rfl⟩) rfl rfl (by (try simp only [List.map_cons, List.map_nil, List.sum_cons, List.sum_nil, hrf_cat, cat_i, cat_l, cat_r]) <;> decide) ⟨Nat.le_of_ble_eq_true rfl, Nat.le_of_ble_eq_true rfl⟩ dX4_bestOf_63 (fun S9 hh => ?_)
    refine rw_aload_n E (j0 := 0) rfl rfl dX4_bestOf_66 ?_
    refine rw_cVi E (As := []) hh (by decide) rfl (fun _ _ _ hq => c_X4_pulledPace l b0 G _ _ _ _ hq) (cwV 0 E.2.2.2.2.1 gX4_bestOf_X4_pulledPace rfl rfl rfl (by decide +kernel) ⟨Nat.le_of_ble_eq_true rfl, Nat.le_of_ble_eq_true rfl⟩) rfl rfl (by (try simp only [List.map_cons, List.map_nil, List.sum_cons, List.sum_nil, hrf_cat, cat_i, cat_l, cat_r]) <;> decide) ⟨Nat.le_of_ble_eq_true rfl, Nat.le_of_ble_eq_true rfl⟩ dX4_bestOf_67 (fun v12 S11 hh => ?_)
    refine rw_istore E (lv2 := [(9, .int v12), (0, hrf b0 ((some h))), (1, hrf b0 l1), (2, .int l2), (3, .int l3), (4, .int l4), (5, .int l5), (6, .int l6), (7, .int l7), (8, .int l8)]) (by decide) rfl dX4_bestOf_70 ?_
    refine rw_aload_n E (j0 := 1) rfl rfl dX4_bestOf_72 ?_
    refine rw_getP E hh (C := RX4) (T := TX4) (N := 9) rfl (by decide) i_X4_bestOf_4 (by decide) rfl (List.mem_of_getElem? (i := 11) (by decide +kernel)) rfl dX4_bestOf_73 (fun v14 hh => ?_)
    refine rw_getI E hh (C := RX8) (T := TX8) (N := 12) rfl (by decide) i_X4_bestOf_8 (by decide) rfl (List.mem_of_getElem? (i := 12) (by decide +kernel)) rfl dX4_bestOf_76 (fun v15 hh => ?_)
    refine rw_if_ne E hh (tgt := 106) (by decide) dX4_bestOf_79 (fun hh => ?_) (fun hh => ?_)
    · refine WH.pick [1, 2, 3, 4, 5, 6, 7, 8, 9] rfl ?_
      exact w_X4_bestOf_b106 E hrt hlk hj10 hj22 hh
    · refine rw_iload E (j0 := 0) rfl dX4_bestOf_82 ?_
      refine rw_iload E (j0 := 7) rfl dX4_bestOf_84 ?_
      refine rw_icmp_gt E hh (tgt := 92) (by decide) dX4_bestOf_86 (fun hh => ?_) (fun hh => ?_)
      · refine rw_iload E (j0 := 0) rfl dX4_bestOf_92 ?_
        refine rw_istore E (lv2 := [(6, .int v12), (9, .int v12), (0, hrf b0 ((some h))), (1, hrf b0 l1), (2, .int l2), (3, .int l3), (4, .int l4), (5, .int l5), (7, .int l7), (8, .int l8)]) (by decide) rfl dX4_bestOf_94 ?_
        refine rw_bipush E (v := 8) (by decide) dX4_bestOf_96 ?_
        refine rw_iload E (j0 := 8) rfl dX4_bestOf_98 ?_
        refine rw_imul E dX4_bestOf_100 ?_
        refine rw_iload E (j0 := 9) rfl dX4_bestOf_101 ?_
        refine rw_iadd E dX4_bestOf_103 ?_
        refine rw_istore E (lv2 := [(5, .int ((8 * l7) + l8)), (6, .int v12), (9, .int v12), (0, hrf b0 ((some h))), (1, hrf b0 l1), (2, .int l2), (3, .int l3), (4, .int l4), (7, .int l7), (8, .int l8)]) (by decide) rfl dX4_bestOf_104 ?_
        refine WH.pick [3, 4, 5, 6, 7, 0, 1, 8, 9] rfl ?_
        exact w_X4_bestOf_b106 E hrt hlk hj10 hj22 hh
      · refine rw_goto E (tgt := 106) (by decide) dX4_bestOf_89 ?_
        refine WH.pick [1, 2, 3, 4, 5, 6, 7, 8, 9] rfl ?_
        exact w_X4_bestOf_b106 E hrt hlk hj10 hj22 hh
def s_X4_bestOf_L22 (j10 : HS → Option Nat → Int32 → Int32 → Int32 → Int32 → Int32 → Int32 → Option (Int32 × HS)) (h : Nat) : Nat → HS → Option Nat → Int32 → Int32 → Int32 → Int32 → Int32 → Int32 → Int32 → Option (Int32 × HS)
  | 0 => fun _ _ _ _ _ _ _ _ _ => none
  | n + 1 => s_X4_bestOf_b22 j10 (s_X4_bestOf_L22 j10 h n) h
set_option maxHeartbeats 4000000 in
set_option maxRecDepth 100000 in
theorem w_X4_bestOf_L22 {p : Program} {l : Launch} {e : Env} {s : State} {m : MethodId} {args : Array Value} {below : List Frame} {meth : Method} {c : Code} {b0 : Nat} {G : hG} {S1 : HS} {r : Int32} {j10 : HS → Option Nat → Int32 → Int32 → Int32 → Int32 → Int32 → Int32 → Option (Int32 × HS)} {h : Nat} (E : hE p s m args c b0 G cX4_bestOf RX4 10 wsX4_bestOf) (hrt : meth.sig.returnType = (some .int)) (hlk : meth.locks = false) (hj10 : ∀ (S : HS) (l1 : Option Nat) (l2 : Int32) (l3 : Int32) (l4 : Int32) (l5 : Int32) (l6 : Int32) (l7 : Int32), j10 S l1 l2 l3 l4 l5 l6 l7 = some (r, S1) → WH p l e rm_X4_bestOf s m args below meth c b0 G 10 0 0 (MQ below (hQ b0 G (some (.int r)) S1) args s 0 0 (hA b0)) S 10 [(0, hrf b0 ((some h))), (1, hrf b0 l1), (2, .int l2), (3, .int l3), (4, .int l4), (5, .int l5), (6, .int l6), (7, .int l7)] []) : ∀ (n : Nat) (S : HS) (l1 : Option Nat) (l2 : Int32) (l3 : Int32) (l4 : Int32) (l5 : Int32) (l6 : Int32) (l7 : Int32) (l8 : Int32), s_X4_bestOf_L22 j10 h n S l1 l2 l3 l4 l5 l6 l7 l8 = some (r, S1) → WH p l e rm_X4_bestOf s m args below meth c b0 G 10 0 0 (MQ below (hQ b0 G (some (.int r)) S1) args s 0 0 (hA b0)) S 22 [(0, hrf b0 ((some h))), (1, hrf b0 l1), (2, .int l2), (3, .int l3), (4, .int l4), (5, .int l5), (6, .int l6), (7, .int l7), (8, .int l8)] [] := by
  intro n
  induction n with
  | zero => intro _ _ _ _ _ _ _ _ _ hh; exact absurd hh (by simp [s_X4_bestOf_L22])
  | succ n ih => intro _ _ _ _ _ _ _ _ _ hh; exact w_X4_bestOf_b22 E hrt hlk hj10 ih hh
def s_X4_bestOf_b10 (j10 : HS → Option Nat → Int32 → Int32 → Int32 → Int32 → Int32 → Int32 → Option (Int32 × HS)) (h : Nat) (S : HS) (l1 : Option Nat) (l2 : Int32) (l3 : Int32) (l4 : Int32) (l5 : Int32) (l6 : Int32) (l7 : Int32) : Option (Int32 × HS) := kI S l1 1 3 (fun v1 => if v1 ≤ l7 then (some (l5, S)) else (s_X4_bestOf_L22 j10 h 100000 S l1 l2 l3 l4 l5 l6 l7 0))
set_option maxHeartbeats 4000000 in
set_option maxRecDepth 100000 in
theorem w_X4_bestOf_b10 {p : Program} {l : Launch} {e : Env} {s : State} {m : MethodId} {args : Array Value} {below : List Frame} {meth : Method} {c : Code} {b0 : Nat} {G : hG} {S1 : HS} {r : Int32} {j10 : HS → Option Nat → Int32 → Int32 → Int32 → Int32 → Int32 → Int32 → Option (Int32 × HS)} {h : Nat} {S : HS} {l1 : Option Nat} {l2 : Int32} {l3 : Int32} {l4 : Int32} {l5 : Int32} {l6 : Int32} {l7 : Int32} (E : hE p s m args c b0 G cX4_bestOf RX4 10 wsX4_bestOf) (hrt : meth.sig.returnType = (some .int)) (hlk : meth.locks = false) (hj10 : ∀ (S : HS) (l1 : Option Nat) (l2 : Int32) (l3 : Int32) (l4 : Int32) (l5 : Int32) (l6 : Int32) (l7 : Int32), j10 S l1 l2 l3 l4 l5 l6 l7 = some (r, S1) → WH p l e rm_X4_bestOf s m args below meth c b0 G 10 0 0 (MQ below (hQ b0 G (some (.int r)) S1) args s 0 0 (hA b0)) S 10 [(0, hrf b0 ((some h))), (1, hrf b0 l1), (2, .int l2), (3, .int l3), (4, .int l4), (5, .int l5), (6, .int l6), (7, .int l7)] []) (hh : s_X4_bestOf_b10 j10 h S l1 l2 l3 l4 l5 l6 l7 = some (r, S1)) : WH p l e rm_X4_bestOf s m args below meth c b0 G 10 0 0 (MQ below (hQ b0 G (some (.int r)) S1) args s 0 0 (hA b0)) S 10 [(0, hrf b0 ((some h))), (1, hrf b0 l1), (2, .int l2), (3, .int l3), (4, .int l4), (5, .int l5), (6, .int l6), (7, .int l7)] [] := by
  have hh : (kI S l1 1 3 (fun v1 => if v1 ≤ l7 then (some (l5, S)) else (s_X4_bestOf_L22 j10 h 100000 S l1 l2 l3 l4 l5 l6 l7 0))) = some (r, S1) := hh
  refine rw_iload E (j0 := 7) rfl dX4_bestOf_10 ?_
  refine rw_aload_n E (j0 := 1) rfl rfl dX4_bestOf_12 ?_
  refine rw_getI E hh (C := RX1) (T := TX1) (N := 6) rfl (by decide) i_X4_bestOf_1 (by decide) rfl (List.mem_of_getElem? (i := 2) (by decide +kernel)) rfl dX4_bestOf_13 (fun v1 hh => ?_)
  refine rw_icmp_ge E hh (tgt := 118) (by decide) dX4_bestOf_16 (fun hh => ?_) (fun hh => ?_)
  · refine rw_iload E (j0 := 5) rfl dX4_bestOf_118 ?_
    exact rw_iret E hrt hlk hh (by decide) (by decide) dX4_bestOf_120
  · refine rw_iconst E (v := 0) (by decide) dX4_bestOf_19 ?_
    refine rw_istore E (lv2 := [(8, .int 0), (0, hrf b0 ((some h))), (1, hrf b0 l1), (2, .int l2), (3, .int l3), (4, .int l4), (5, .int l5), (6, .int l6), (7, .int l7)]) (by decide) rfl dX4_bestOf_20 ?_
    refine WH.pick [1, 2, 3, 4, 5, 6, 7, 8, 0] rfl ?_
    exact w_X4_bestOf_L22 E hrt hlk hj10 100000 _ _ _ _ _ _ _ _ _ hh
def s_X4_bestOf_L10 (h : Nat) : Nat → HS → Option Nat → Int32 → Int32 → Int32 → Int32 → Int32 → Int32 → Option (Int32 × HS)
  | 0 => fun _ _ _ _ _ _ _ _ => none
  | n + 1 => s_X4_bestOf_b10 (s_X4_bestOf_L10 h n) h
set_option maxHeartbeats 4000000 in
set_option maxRecDepth 100000 in
theorem w_X4_bestOf_L10 {p : Program} {l : Launch} {e : Env} {s : State} {m : MethodId} {args : Array Value} {below : List Frame} {meth : Method} {c : Code} {b0 : Nat} {G : hG} {S1 : HS} {r : Int32} {h : Nat} (E : hE p s m args c b0 G cX4_bestOf RX4 10 wsX4_bestOf) (hrt : meth.sig.returnType = (some .int)) (hlk : meth.locks = false) : ∀ (n : Nat) (S : HS) (l1 : Option Nat) (l2 : Int32) (l3 : Int32) (l4 : Int32) (l5 : Int32) (l6 : Int32) (l7 : Int32), s_X4_bestOf_L10 h n S l1 l2 l3 l4 l5 l6 l7 = some (r, S1) → WH p l e rm_X4_bestOf s m args below meth c b0 G 10 0 0 (MQ below (hQ b0 G (some (.int r)) S1) args s 0 0 (hA b0)) S 10 [(0, hrf b0 ((some h))), (1, hrf b0 l1), (2, .int l2), (3, .int l3), (4, .int l4), (5, .int l5), (6, .int l6), (7, .int l7)] [] := by
  intro n
  induction n with
  | zero => intro _ _ _ _ _ _ _ _ hh; exact absurd hh (by simp [s_X4_bestOf_L10])
  | succ n ih => intro _ _ _ _ _ _ _ _ hh; exact w_X4_bestOf_b10 E hrt hlk  ih hh
def s_X4_bestOf (S : HS) (h : Nat) (l1 : Option Nat) (l2 : Int32) (l3 : Int32) (l4 : Int32) : Option (Int32 × HS) := s_X4_bestOf_L10 h 100000 S l1 l2 l3 l4 ((-1000000)) ((-1)) 0
set_option maxHeartbeats 4000000 in
set_option maxRecDepth 100000 in
theorem c_X4_bestOf (l : Launch) (b0 : Nat) (G : hG) (S S1 : HS) (h : Nat) (l1 : Option Nat) (l2 : Int32) (l3 : Int32) (l4 : Int32) (r : Int32) (hh : s_X4_bestOf S h l1 l2 l3 l4 = some (r, S1)) : MH l yX4_bestOf wsX4_bestOf rm_X4_bestOf b0 G S [hrf b0 (some h), hrf b0 l1, .int l2, .int l3, .int l4] (some (.int r)) S1 0 0 := by
  refine MH.ofW (cc := cX4_bestOf) (maxL := 10) (ret := (some .int)) (own := RX4) (lv0 := [(0, hrf b0 ((some h))), (1, hrf b0 l1), (2, .int l2), (3, .int l3), (4, .int l4)]) (by decide) rfl rfl (by simp [lg_sl, hrf_cat, cat_i, cat_l, cat_r]) (by simp only [lv_args, hrf_cat, cat_i, cat_l, cat_r]; rfl) ?_
  intro p e s m args below meth c E hrt hlk hnm
  have hh : (s_X4_bestOf_L10 h 100000 S l1 l2 l3 l4 ((-1000000)) ((-1)) 0) = some (r, S1) := hh
  refine rw_ldc E (v := (-1000000)) (List.mem_of_getElem? (i := 1) (by decide +kernel)) dX4_bestOf_0 ?_
  refine rw_istore E (lv2 := [(5, .int ((-1000000))), (0, hrf b0 ((some h))), (1, hrf b0 l1), (2, .int l2), (3, .int l3), (4, .int l4)]) (by decide) rfl dX4_bestOf_2 ?_
  refine rw_iconst E (v := (-1)) (by decide) dX4_bestOf_4 ?_
  refine rw_istore E (lv2 := [(6, .int ((-1))), (5, .int ((-1000000))), (0, hrf b0 ((some h))), (1, hrf b0 l1), (2, .int l2), (3, .int l3), (4, .int l4)]) (by decide) rfl dX4_bestOf_5 ?_
  refine rw_iconst E (v := 0) (by decide) dX4_bestOf_7 ?_
  refine rw_istore E (lv2 := [(7, .int 0), (6, .int ((-1))), (5, .int ((-1000000))), (0, hrf b0 ((some h))), (1, hrf b0 l1), (2, .int l2), (3, .int l3), (4, .int l4)]) (by decide) rfl dX4_bestOf_8 ?_
  refine WH.pick [3, 4, 5, 6, 7, 2, 1, 0] rfl ?_
  exact w_X4_bestOf_L10 E hrt hlk 100000 _ _ _ _ _ _ _ _ hh

/-! HummingDisc$Foretold.pulledFrom(I)I -/
abbrev rm_X4_pulledFrom : Room := { frames := 4, cells := 0, slots := 0, locals := 87 }
theorem i_X4_pulledFrom_4 : ∀ w ∈ wsX40, w ∈ wsX4_pulledFrom := fun _ h => List.mem_cons_of_mem _ (List.mem_append_left _ (List.mem_append_left _ (List.mem_append_left _ (List.mem_append_right _ (h)))))
theorem i_X4_pulledFrom_8 : ∀ w ∈ wsX80, w ∈ wsX4_pulledFrom := fun _ h => List.mem_cons_of_mem _ (List.mem_append_left _ (List.mem_append_left _ (List.mem_append_right _ (h))))
def s_X4_pulledFrom_b88 (j8 : HS → Int32 → Int32 → Int32 → Option (Int32 × HS)) (h : Nat) (S : HS) (l1 : Int32) (l2 : Int32) (l3 : Int32) (k0 : Option Nat) (k1 : Int32) : Option (Int32 × HS) := kO S k0 8 (fun a2 => kcv (s_X8_tick S a2 k1 0) (fun S1 => j8 S1 l1 l2 (l3 + 1)))
set_option maxHeartbeats 4000000 in
set_option maxRecDepth 100000 in
theorem w_X4_pulledFrom_b88 {p : Program} {l : Launch} {e : Env} {s : State} {m : MethodId} {args : Array Value} {below : List Frame} {meth : Method} {c : Code} {b0 : Nat} {G : hG} {S1 : HS} {r : Int32} {j8 : HS → Int32 → Int32 → Int32 → Option (Int32 × HS)} {h : Nat} {S : HS} {l1 : Int32} {l2 : Int32} {l3 : Int32} {k0 : Option Nat} {k1 : Int32} (E : hE p s m args c b0 G cX4_pulledFrom RX4 6 wsX4_pulledFrom) (hrt : meth.sig.returnType = (some .int)) (hlk : meth.locks = false) (hj8 : ∀ (S : HS) (l1 : Int32) (l2 : Int32) (l3 : Int32), j8 S l1 l2 l3 = some (r, S1) → WH p l e rm_X4_pulledFrom s m args below meth c b0 G 6 0 0 (MQ below (hQ b0 G (some (.int r)) S1) args s 0 0 (hA b0)) S 8 [(0, hrf b0 ((some h))), (1, .int l1), (2, .int l2), (3, .int l3)] []) (hh : s_X4_pulledFrom_b88 j8 h S l1 l2 l3 k0 k1 = some (r, S1)) : WH p l e rm_X4_pulledFrom s m args below meth c b0 G 6 0 0 (MQ below (hQ b0 G (some (.int r)) S1) args s 0 0 (hA b0)) S 88 [(0, hrf b0 ((some h))), (1, .int l1), (2, .int l2), (3, .int l3)] [.int k1, hrf b0 k0] := by
  have hh : (kO S k0 8 (fun a2 => kcv (s_X8_tick S a2 k1 0) (fun S1 => j8 S1 l1 l2 (l3 + 1)))) = some (r, S1) := hh
  refine rw_iconst E (v := 0) (by decide) dX4_pulledFrom_88 ?_
  refine rw_cVv E (As := [.int k1, .int 0]) hh (by decide) rfl (fun _ _ hq => c_X8_tick l b0 G _ _ _ _ _ hq) (cwV 2 E.2.2.2.2.1 gX4_pulledFrom_X8_tick rfl rfl rfl (by decide +kernel) ⟨Nat.le_of_ble_eq_true rfl, Nat.le_of_ble_eq_true rfl⟩) rfl rfl (by (try simp only [List.map_cons, List.map_nil, List.sum_cons, List.sum_nil, hrf_cat, cat_i, cat_l, cat_r]) <;> decide) ⟨Nat.le_of_ble_eq_true rfl, Nat.le_of_ble_eq_true rfl⟩ dX4_pulledFrom_89 (fun S1 hh => ?_)
  refine rw_iinc E (v := l3 + 1) (lv2 := [(3, .int (l3 + 1)), (0, hrf b0 ((some h))), (1, .int l1), (2, .int l2)]) (j0 := 3) rfl rfl (by decide) rfl dX4_pulledFrom_92 ?_
  refine rw_goto E (tgt := 8) (by decide) dX4_pulledFrom_95 ?_
  refine WH.pick [1, 2, 3, 0] rfl ?_
  exact hj8 _ _ _ _ hh
def s_X4_pulledFrom_b87 (j8 : HS → Int32 → Int32 → Int32 → Option (Int32 × HS)) (h : Nat) (S : HS) (l1 : Int32) (l2 : Int32) (l3 : Int32) (k0 : Option Nat) : Option (Int32 × HS) := s_X4_pulledFrom_b88 j8 h S l1 l2 l3 k0 0
set_option maxHeartbeats 4000000 in
set_option maxRecDepth 100000 in
theorem w_X4_pulledFrom_b87 {p : Program} {l : Launch} {e : Env} {s : State} {m : MethodId} {args : Array Value} {below : List Frame} {meth : Method} {c : Code} {b0 : Nat} {G : hG} {S1 : HS} {r : Int32} {j8 : HS → Int32 → Int32 → Int32 → Option (Int32 × HS)} {h : Nat} {S : HS} {l1 : Int32} {l2 : Int32} {l3 : Int32} {k0 : Option Nat} (E : hE p s m args c b0 G cX4_pulledFrom RX4 6 wsX4_pulledFrom) (hrt : meth.sig.returnType = (some .int)) (hlk : meth.locks = false) (hj8 : ∀ (S : HS) (l1 : Int32) (l2 : Int32) (l3 : Int32), j8 S l1 l2 l3 = some (r, S1) → WH p l e rm_X4_pulledFrom s m args below meth c b0 G 6 0 0 (MQ below (hQ b0 G (some (.int r)) S1) args s 0 0 (hA b0)) S 8 [(0, hrf b0 ((some h))), (1, .int l1), (2, .int l2), (3, .int l3)] []) (hh : s_X4_pulledFrom_b87 j8 h S l1 l2 l3 k0 = some (r, S1)) : WH p l e rm_X4_pulledFrom s m args below meth c b0 G 6 0 0 (MQ below (hQ b0 G (some (.int r)) S1) args s 0 0 (hA b0)) S 87 [(0, hrf b0 ((some h))), (1, .int l1), (2, .int l2), (3, .int l3)] [hrf b0 k0] := by
  have hh : (s_X4_pulledFrom_b88 j8 h S l1 l2 l3 k0 0) = some (r, S1) := hh
  refine rw_iconst E (v := 0) (by decide) dX4_pulledFrom_87 ?_
  refine WH.pick [0, 1, 2, 3] rfl ?_
  exact w_X4_pulledFrom_b88 E hrt hlk hj8 hh
def s_X4_pulledFrom_b65 (j8 : HS → Int32 → Int32 → Int32 → Option (Int32 × HS)) (h : Nat) (S : HS) (l1 : Int32) (l2 : Int32) (l3 : Int32) (l4 : Int32) (l5 : Int32) : Option (Int32 × HS) := kP S ((some h)) 4 0 (fun v1 => if l5 = 0 then (s_X4_pulledFrom_b87 j8 h S l1 l2 l3 v1) else (if l4 < l1 then (s_X4_pulledFrom_b87 j8 h S l1 l2 l3 v1) else (kI S ((some h)) 4 6 (fun v2 => s_X4_pulledFrom_b88 j8 h S l1 l2 l3 v1 v2))))
set_option maxHeartbeats 4000000 in
set_option maxRecDepth 100000 in
theorem w_X4_pulledFrom_b65 {p : Program} {l : Launch} {e : Env} {s : State} {m : MethodId} {args : Array Value} {below : List Frame} {meth : Method} {c : Code} {b0 : Nat} {G : hG} {S1 : HS} {r : Int32} {j8 : HS → Int32 → Int32 → Int32 → Option (Int32 × HS)} {h : Nat} {S : HS} {l1 : Int32} {l2 : Int32} {l3 : Int32} {l4 : Int32} {l5 : Int32} (E : hE p s m args c b0 G cX4_pulledFrom RX4 6 wsX4_pulledFrom) (hrt : meth.sig.returnType = (some .int)) (hlk : meth.locks = false) (hj8 : ∀ (S : HS) (l1 : Int32) (l2 : Int32) (l3 : Int32), j8 S l1 l2 l3 = some (r, S1) → WH p l e rm_X4_pulledFrom s m args below meth c b0 G 6 0 0 (MQ below (hQ b0 G (some (.int r)) S1) args s 0 0 (hA b0)) S 8 [(0, hrf b0 ((some h))), (1, .int l1), (2, .int l2), (3, .int l3)] []) (hh : s_X4_pulledFrom_b65 j8 h S l1 l2 l3 l4 l5 = some (r, S1)) : WH p l e rm_X4_pulledFrom s m args below meth c b0 G 6 0 0 (MQ below (hQ b0 G (some (.int r)) S1) args s 0 0 (hA b0)) S 65 [(0, hrf b0 ((some h))), (1, .int l1), (2, .int l2), (3, .int l3), (4, .int l4), (5, .int l5)] [] := by
  have hh : (kP S ((some h)) 4 0 (fun v1 => if l5 = 0 then (s_X4_pulledFrom_b87 j8 h S l1 l2 l3 v1) else (if l4 < l1 then (s_X4_pulledFrom_b87 j8 h S l1 l2 l3 v1) else (kI S ((some h)) 4 6 (fun v2 => s_X4_pulledFrom_b88 j8 h S l1 l2 l3 v1 v2))))) = some (r, S1) := hh
  refine rw_aload_n E (j0 := 0) rfl rfl dX4_pulledFrom_65 ?_
  refine rw_getP E hh (C := RX4) (T := TX4) (N := 9) rfl (by decide) i_X4_pulledFrom_4 (by decide) rfl (List.mem_of_getElem? (i := 2) (by decide +kernel)) rfl dX4_pulledFrom_66 (fun v1 hh => ?_)
  refine rw_iload E (j0 := 5) rfl dX4_pulledFrom_69 ?_
  refine rw_if_eq E hh (tgt := 87) (by decide) dX4_pulledFrom_71 (fun hh => ?_) (fun hh => ?_)
  · refine WH.pick [0, 1, 2, 3] rfl ?_
    exact w_X4_pulledFrom_b87 E hrt hlk hj8 hh
  · refine rw_iload E (j0 := 4) rfl dX4_pulledFrom_74 ?_
    refine rw_iload_n E (j0 := 1) rfl rfl dX4_pulledFrom_76 ?_
    refine rw_icmp_lt E hh (tgt := 87) (by decide) dX4_pulledFrom_77 (fun hh => ?_) (fun hh => ?_)
    · refine WH.pick [0, 1, 2, 3] rfl ?_
      exact w_X4_pulledFrom_b87 E hrt hlk hj8 hh
    · refine rw_aload_n E (j0 := 0) rfl rfl dX4_pulledFrom_80 ?_
      refine rw_getI E hh (C := RX4) (T := TX4) (N := 9) rfl (by decide) i_X4_pulledFrom_4 (by decide) rfl (List.mem_of_getElem? (i := 12) (by decide +kernel)) rfl dX4_pulledFrom_81 (fun v2 hh => ?_)
      refine rw_goto E (tgt := 88) (by decide) dX4_pulledFrom_84 ?_
      refine WH.pick [0, 1, 2, 3] rfl ?_
      exact w_X4_pulledFrom_b88 E hrt hlk hj8 hh
def s_X4_pulledFrom_b8 (j8 : HS → Int32 → Int32 → Int32 → Option (Int32 × HS)) (h : Nat) (S : HS) (l1 : Int32) (l2 : Int32) (l3 : Int32) : Option (Int32 × HS) := kI S ((some h)) 4 7 (fun v1 => if v1 ≤ l3 then (some (l2, S)) else (kP S ((some h)) 4 0 (fun v2 => kI S v2 8 11 (fun v3 => if v3 = 0 then (kP S ((some h)) 4 0 (fun v4 => kI S v4 8 3 (fun v5 => kP S ((some h)) 4 0 (fun v6 => kO S v6 8 (fun a9 => kc (s_X8_unwinds S a9 ) (fun v8 S7 => if v8 = 0 then (s_X4_pulledFrom_b65 j8 h S7 l1 l2 l3 (fabs v5) v8) else (if l1 ≤ fabs v5 then (s_X4_pulledFrom_b65 j8 h S7 l1 l2 l3 (fabs v5) v8) else (s_X4_pulledFrom_b65 j8 h S7 l1 (fmax l2 (fabs v5)) l3 (fabs v5) v8)))))))) else (some (l2, S))))))
set_option maxHeartbeats 4000000 in
set_option maxRecDepth 100000 in
theorem w_X4_pulledFrom_b8 {p : Program} {l : Launch} {e : Env} {s : State} {m : MethodId} {args : Array Value} {below : List Frame} {meth : Method} {c : Code} {b0 : Nat} {G : hG} {S1 : HS} {r : Int32} {j8 : HS → Int32 → Int32 → Int32 → Option (Int32 × HS)} {h : Nat} {S : HS} {l1 : Int32} {l2 : Int32} {l3 : Int32} (E : hE p s m args c b0 G cX4_pulledFrom RX4 6 wsX4_pulledFrom) (hrt : meth.sig.returnType = (some .int)) (hlk : meth.locks = false) (hj8 : ∀ (S : HS) (l1 : Int32) (l2 : Int32) (l3 : Int32), j8 S l1 l2 l3 = some (r, S1) → WH p l e rm_X4_pulledFrom s m args below meth c b0 G 6 0 0 (MQ below (hQ b0 G (some (.int r)) S1) args s 0 0 (hA b0)) S 8 [(0, hrf b0 ((some h))), (1, .int l1), (2, .int l2), (3, .int l3)] []) (hh : s_X4_pulledFrom_b8 j8 h S l1 l2 l3 = some (r, S1)) : WH p l e rm_X4_pulledFrom s m args below meth c b0 G 6 0 0 (MQ below (hQ b0 G (some (.int r)) S1) args s 0 0 (hA b0)) S 8 [(0, hrf b0 ((some h))), (1, .int l1), (2, .int l2), (3, .int l3)] [] := by
  have hh : (kI S ((some h)) 4 7 (fun v1 => if v1 ≤ l3 then (some (l2, S)) else (kP S ((some h)) 4 0 (fun v2 => kI S v2 8 11 (fun v3 => if v3 = 0 then (kP S ((some h)) 4 0 (fun v4 => kI S v4 8 3 (fun v5 => kP S ((some h)) 4 0 (fun v6 => kO S v6 8 (fun a9 => kc (s_X8_unwinds S a9 ) (fun v8 S7 => if v8 = 0 then (s_X4_pulledFrom_b65 j8 h S7 l1 l2 l3 (fabs v5) v8) else (if l1 ≤ fabs v5 then (s_X4_pulledFrom_b65 j8 h S7 l1 l2 l3 (fabs v5) v8) else (s_X4_pulledFrom_b65 j8 h S7 l1 (fmax l2 (fabs v5)) l3 (fabs v5) v8)))))))) else (some (l2, S))))))) = some (r, S1) := hh
  refine rw_iload_n E (j0 := 3) rfl rfl dX4_pulledFrom_8 ?_
  refine rw_aload_n E (j0 := 0) rfl rfl dX4_pulledFrom_9 ?_
  refine rw_getI E hh (C := RX4) (T := TX4) (N := 9) rfl (by decide) i_X4_pulledFrom_4 (by decide) rfl (List.mem_of_getElem? (i := 1) (by decide +kernel)) rfl dX4_pulledFrom_10 (fun v1 hh => ?_)
  refine rw_icmp_ge E hh (tgt := 98) (by decide) dX4_pulledFrom_13 (fun hh => ?_) (fun hh => ?_)
  · refine rw_iload_n E (j0 := 2) rfl rfl dX4_pulledFrom_98 ?_
    exact rw_iret E hrt hlk hh (by decide) (by decide) dX4_pulledFrom_99
  · refine rw_aload_n E (j0 := 0) rfl rfl dX4_pulledFrom_16 ?_
    refine rw_getP E hh (C := RX4) (T := TX4) (N := 9) rfl (by decide) i_X4_pulledFrom_4 (by decide) rfl (List.mem_of_getElem? (i := 2) (by decide +kernel)) rfl dX4_pulledFrom_17 (fun v2 hh => ?_)
    refine rw_getI E hh (C := RX8) (T := TX8) (N := 12) rfl (by decide) i_X4_pulledFrom_8 (by decide) rfl (List.mem_of_getElem? (i := 3) (by decide +kernel)) rfl dX4_pulledFrom_20 (fun v3 hh => ?_)
    refine rw_if_ne E hh (tgt := 98) (by decide) dX4_pulledFrom_23 (fun hh => ?_) (fun hh => ?_)
    · refine rw_iload_n E (j0 := 2) rfl rfl dX4_pulledFrom_98 ?_
      exact rw_iret E hrt hlk hh (by decide) (by decide) dX4_pulledFrom_99
    · refine rw_aload_n E (j0 := 0) rfl rfl dX4_pulledFrom_26 ?_
      refine rw_getP E hh (C := RX4) (T := TX4) (N := 9) rfl (by decide) i_X4_pulledFrom_4 (by decide) rfl (List.mem_of_getElem? (i := 2) (by decide +kernel)) rfl dX4_pulledFrom_27 (fun v4 hh => ?_)
      refine rw_getI E hh (C := RX8) (T := TX8) (N := 12) rfl (by decide) i_X4_pulledFrom_8 (by decide) rfl (List.mem_of_getElem? (i := 4) (by decide +kernel)) rfl dX4_pulledFrom_30 (fun v5 hh => ?_)
      refine rw_mabs E ⟨by decide, (by (try simp only [List.map_cons, List.map_nil, List.sum_cons, List.sum_nil, hrf_cat, cat_i, cat_l, cat_r]) <;> decide), by decide, by decide⟩ (List.mem_of_getElem? (i := 5) (by decide +kernel)) (List.mem_of_getElem? (i := 6) (by decide +kernel)) (List.mem_of_getElem? (i := 7) (by decide +kernel)) (List.mem_of_getElem? (i := 8) (by decide +kernel)) dX4_pulledFrom_33 ?_
      refine rw_istore E (lv2 := [(4, .int (fabs v5)), (0, hrf b0 ((some h))), (1, .int l1), (2, .int l2), (3, .int l3)]) (by decide) rfl dX4_pulledFrom_36 ?_
      refine rw_aload_n E (j0 := 1) rfl rfl dX4_pulledFrom_38 ?_
      refine rw_getP E hh (C := RX4) (T := TX4) (N := 9) rfl (by decide) i_X4_pulledFrom_4 (by decide) rfl (List.mem_of_getElem? (i := 2) (by decide +kernel)) rfl dX4_pulledFrom_39 (fun v6 hh => ?_)
      refine rw_cVi E (As := []) hh (by decide) rfl (fun _ _ _ hq => c_X8_unwinds l b0 G _ _ _ _ hq) (cwV 0 E.2.2.2.2.1 gX4_pulledFrom_X8_unwinds rfl rfl rfl (by decide +kernel) ⟨Nat.le_of_ble_eq_true rfl, Nat.le_of_ble_eq_true rfl⟩) rfl rfl (by (try simp only [List.map_cons, List.map_nil, List.sum_cons, List.sum_nil, hrf_cat, cat_i, cat_l, cat_r]) <;> decide) ⟨Nat.le_of_ble_eq_true rfl, Nat.le_of_ble_eq_true rfl⟩ dX4_pulledFrom_42 (fun v8 S7 hh => ?_)
      refine rw_istore E (lv2 := [(5, .int v8), (4, .int (fabs v5)), (0, hrf b0 ((some h))), (1, .int l1), (2, .int l2), (3, .int l3)]) (by decide) rfl dX4_pulledFrom_45 ?_
      refine rw_iload E (j0 := 0) rfl dX4_pulledFrom_47 ?_
      refine rw_if_eq E hh (tgt := 65) (by decide) dX4_pulledFrom_49 (fun hh => ?_) (fun hh => ?_)
      · refine WH.pick [2, 3, 4, 5, 1, 0] rfl ?_
        exact w_X4_pulledFrom_b65 E hrt hlk hj8 hh
      · refine rw_iload E (j0 := 1) rfl dX4_pulledFrom_52 ?_
        refine rw_iload_n E (j0 := 3) rfl rfl dX4_pulledFrom_54 ?_
        refine rw_icmp_ge E hh (tgt := 65) (by decide) dX4_pulledFrom_55 (fun hh => ?_) (fun hh => ?_)
        · refine WH.pick [2, 3, 4, 5, 1, 0] rfl ?_
          exact w_X4_pulledFrom_b65 E hrt hlk hj8 hh
        · refine rw_iload_n E (j0 := 4) rfl rfl dX4_pulledFrom_58 ?_
          refine rw_iload E (j0 := 1) rfl dX4_pulledFrom_59 ?_
          refine rw_mmax E ⟨by decide, (by (try simp only [List.map_cons, List.map_nil, List.sum_cons, List.sum_nil, hrf_cat, cat_i, cat_l, cat_r]) <;> decide), by decide, by decide⟩ (List.mem_of_getElem? (i := 9) (by decide +kernel)) (List.mem_of_getElem? (i := 10) (by decide +kernel)) (List.mem_of_getElem? (i := 7) (by decide +kernel)) (List.mem_of_getElem? (i := 11) (by decide +kernel)) dX4_pulledFrom_61 ?_
          refine rw_istore_n E (lv2 := [(2, .int (fmax l2 (fabs v5))), (5, .int v8), (4, .int (fabs v5)), (0, hrf b0 ((some h))), (1, .int l1), (3, .int l3)]) rfl (by decide) rfl dX4_pulledFrom_64 ?_
          refine WH.pick [3, 4, 0, 5, 2, 1] rfl ?_
          exact w_X4_pulledFrom_b65 E hrt hlk hj8 hh
def s_X4_pulledFrom_L8 (h : Nat) : Nat → HS → Int32 → Int32 → Int32 → Option (Int32 × HS)
  | 0 => fun _ _ _ _ => none
  | n + 1 => s_X4_pulledFrom_b8 (s_X4_pulledFrom_L8 h n) h
set_option maxHeartbeats 4000000 in
set_option maxRecDepth 100000 in
theorem w_X4_pulledFrom_L8 {p : Program} {l : Launch} {e : Env} {s : State} {m : MethodId} {args : Array Value} {below : List Frame} {meth : Method} {c : Code} {b0 : Nat} {G : hG} {S1 : HS} {r : Int32} {h : Nat} (E : hE p s m args c b0 G cX4_pulledFrom RX4 6 wsX4_pulledFrom) (hrt : meth.sig.returnType = (some .int)) (hlk : meth.locks = false) : ∀ (n : Nat) (S : HS) (l1 : Int32) (l2 : Int32) (l3 : Int32), s_X4_pulledFrom_L8 h n S l1 l2 l3 = some (r, S1) → WH p l e rm_X4_pulledFrom s m args below meth c b0 G 6 0 0 (MQ below (hQ b0 G (some (.int r)) S1) args s 0 0 (hA b0)) S 8 [(0, hrf b0 ((some h))), (1, .int l1), (2, .int l2), (3, .int l3)] [] := by
  intro n
  induction n with
  | zero => intro _ _ _ _ hh; exact absurd hh (by simp [s_X4_pulledFrom_L8])
  | succ n ih => intro _ _ _ _ hh; exact w_X4_pulledFrom_b8 E hrt hlk  ih hh
def s_X4_pulledFrom (S : HS) (h : Nat) (l1 : Int32) : Option (Int32 × HS) := kO S ((some h)) 4 (fun a2 => kcv (s_X4_start S a2 ) (fun S1 => s_X4_pulledFrom_L8 h 100000 S1 l1 ((-1)) 0))
set_option maxHeartbeats 4000000 in
set_option maxRecDepth 100000 in
theorem c_X4_pulledFrom (l : Launch) (b0 : Nat) (G : hG) (S S1 : HS) (h : Nat) (l1 : Int32) (r : Int32) (hh : s_X4_pulledFrom S h l1 = some (r, S1)) : MH l yX4_pulledFrom wsX4_pulledFrom rm_X4_pulledFrom b0 G S [hrf b0 (some h), .int l1] (some (.int r)) S1 0 0 := by
  refine MH.ofW (cc := cX4_pulledFrom) (maxL := 6) (ret := (some .int)) (own := RX4) (lv0 := [(0, hrf b0 ((some h))), (1, .int l1)]) (by decide) rfl rfl (Nat.le_of_ble_eq_true rfl) rfl ?_
  intro p e s m args below meth c E hrt hlk hnm
  have hh : (kO S ((some h)) 4 (fun a2 => kcv (s_X4_start S a2 ) (fun S1 => s_X4_pulledFrom_L8 h 100000 S1 l1 ((-1)) 0))) = some (r, S1) := hh
  refine rw_iconst E (v := (-1)) (by decide) dX4_pulledFrom_0 ?_
  refine rw_istore_n E (lv2 := [(2, .int ((-1))), (0, hrf b0 ((some h))), (1, .int l1)]) rfl (by decide) rfl dX4_pulledFrom_1 ?_
  refine rw_aload_n E (j0 := 1) rfl rfl dX4_pulledFrom_2 ?_
  refine rw_cVv E (As := []) hh (by decide) rfl (fun _ _ hq => c_X4_start l b0 G _ _ _ hq) (cwV 0 E.2.2.2.2.1 gX4_pulledFrom_X4_start rfl rfl rfl (by decide +kernel) ⟨Nat.le_of_ble_eq_true rfl, Nat.le_of_ble_eq_true rfl⟩) rfl rfl (by (try simp only [List.map_cons, List.map_nil, List.sum_cons, List.sum_nil, hrf_cat, cat_i, cat_l, cat_r]) <;> decide) ⟨Nat.le_of_ble_eq_true rfl, Nat.le_of_ble_eq_true rfl⟩ dX4_pulledFrom_3 (fun S1 hh => ?_)
  refine rw_iconst E (v := 0) (by decide) dX4_pulledFrom_6 ?_
  refine rw_istore_n E (lv2 := [(3, .int 0), (2, .int ((-1))), (0, hrf b0 ((some h))), (1, .int l1)]) rfl (by decide) rfl dX4_pulledFrom_7 ?_
  refine WH.pick [2, 3, 1, 0] rfl ?_
  exact w_X4_pulledFrom_L8 E hrt hlk 100000 _ _ _ _ hh

/-! HummingDisc$Foretold.bestFrom()I -/
abbrev rm_X4_bestFrom : Room := { frames := 5, cells := 0, slots := 0, locals := 112 }
theorem i_X4_bestFrom_4 : ∀ w ∈ wsX40, w ∈ wsX4_bestFrom := fun _ h => List.mem_cons_of_mem _ (List.mem_append_left _ (List.mem_append_left _ (List.mem_append_left _ (List.mem_append_right _ (h)))))
theorem i_X4_bestFrom_8 : ∀ w ∈ wsX80, w ∈ wsX4_bestFrom := fun _ h => List.mem_cons_of_mem _ (List.mem_append_left _ (List.mem_append_left _ (List.mem_append_right _ (h))))
def s_X4_bestFrom_b72 (j16 : HS → Int32 → Int32 → Int32 → Int32 → Option (Int32 × HS)) (h : Nat) (S : HS) (l1 : Int32) (l2 : Int32) (l3 : Int32) (l4 : Int32) : Option (Int32 × HS) := j16 S l1 l2 l3 (l4 + (-1))
set_option maxHeartbeats 4000000 in
set_option maxRecDepth 100000 in
theorem w_X4_bestFrom_b72 {p : Program} {l : Launch} {e : Env} {s : State} {m : MethodId} {args : Array Value} {below : List Frame} {meth : Method} {c : Code} {b0 : Nat} {G : hG} {S1 : HS} {r : Int32} {j16 : HS → Int32 → Int32 → Int32 → Int32 → Option (Int32 × HS)} {h : Nat} {S : HS} {l1 : Int32} {l2 : Int32} {l3 : Int32} {l4 : Int32} (E : hE p s m args c b0 G cX4_bestFrom RX4 5 wsX4_bestFrom) (hrt : meth.sig.returnType = (some .int)) (hlk : meth.locks = false) (hj16 : ∀ (S : HS) (l1 : Int32) (l2 : Int32) (l3 : Int32) (l4 : Int32), j16 S l1 l2 l3 l4 = some (r, S1) → WH p l e rm_X4_bestFrom s m args below meth c b0 G 5 0 0 (MQ below (hQ b0 G (some (.int r)) S1) args s 0 0 (hA b0)) S 16 [(0, hrf b0 ((some h))), (1, .int l1), (2, .int l2), (3, .int l3), (4, .int l4)] []) (hh : s_X4_bestFrom_b72 j16 h S l1 l2 l3 l4 = some (r, S1)) : WH p l e rm_X4_bestFrom s m args below meth c b0 G 5 0 0 (MQ below (hQ b0 G (some (.int r)) S1) args s 0 0 (hA b0)) S 72 [(0, hrf b0 ((some h))), (1, .int l1), (2, .int l2), (3, .int l3), (4, .int l4)] [] := by
  have hh : (j16 S l1 l2 l3 (l4 + (-1))) = some (r, S1) := hh
  refine rw_iinc E (v := l4 + (-1)) (lv2 := [(4, .int (l4 + (-1))), (0, hrf b0 ((some h))), (1, .int l1), (2, .int l2), (3, .int l3)]) (j0 := 4) rfl (congrArg (fun z => l4 + z) (show Int32.ofInt (-1) = (-1) by decide)) (by decide) rfl dX4_bestFrom_72 ?_
  refine rw_goto E (tgt := 16) (by decide) dX4_bestFrom_75 ?_
  refine WH.pick [1, 2, 3, 4, 0] rfl ?_
  exact hj16 _ _ _ _ _ hh
def s_X4_bestFrom_b16 (j16 : HS → Int32 → Int32 → Int32 → Int32 → Option (Int32 × HS)) (h : Nat) (S : HS) (l1 : Int32) (l2 : Int32) (l3 : Int32) (l4 : Int32) : Option (Int32 × HS) := if l4 < 0 then (some (l1, S)) else (if l4 ≤ l3 then (kO S ((some h)) 4 (fun a3 => kc (s_X4_pulledFrom S a3 l4) (fun v2 S1 => kP S1 ((some h)) 4 0 (fun v4 => kI S1 v4 8 11 (fun v5 => if v5 = 0 then (kP S1 ((some h)) 4 0 (fun v6 => kI S1 v6 8 7 (fun v7 => if l2 < v7 then (kP S1 ((some h)) 4 0 (fun v8 => kI S1 v8 8 7 (fun v9 => s_X4_bestFrom_b72 j16 h S1 l4 v9 v2 l4))) else (s_X4_bestFrom_b72 j16 h S1 l1 l2 v2 l4)))) else (s_X4_bestFrom_b72 j16 h S1 l1 l2 v2 l4)))))) else (s_X4_bestFrom_b72 j16 h S l1 l2 l3 l4))
set_option maxHeartbeats 4000000 in
set_option maxRecDepth 100000 in
theorem w_X4_bestFrom_b16 {p : Program} {l : Launch} {e : Env} {s : State} {m : MethodId} {args : Array Value} {below : List Frame} {meth : Method} {c : Code} {b0 : Nat} {G : hG} {S1 : HS} {r : Int32} {j16 : HS → Int32 → Int32 → Int32 → Int32 → Option (Int32 × HS)} {h : Nat} {S : HS} {l1 : Int32} {l2 : Int32} {l3 : Int32} {l4 : Int32} (E : hE p s m args c b0 G cX4_bestFrom RX4 5 wsX4_bestFrom) (hrt : meth.sig.returnType = (some .int)) (hlk : meth.locks = false) (hj16 : ∀ (S : HS) (l1 : Int32) (l2 : Int32) (l3 : Int32) (l4 : Int32), j16 S l1 l2 l3 l4 = some (r, S1) → WH p l e rm_X4_bestFrom s m args below meth c b0 G 5 0 0 (MQ below (hQ b0 G (some (.int r)) S1) args s 0 0 (hA b0)) S 16 [(0, hrf b0 ((some h))), (1, .int l1), (2, .int l2), (3, .int l3), (4, .int l4)] []) (hh : s_X4_bestFrom_b16 j16 h S l1 l2 l3 l4 = some (r, S1)) : WH p l e rm_X4_bestFrom s m args below meth c b0 G 5 0 0 (MQ below (hQ b0 G (some (.int r)) S1) args s 0 0 (hA b0)) S 16 [(0, hrf b0 ((some h))), (1, .int l1), (2, .int l2), (3, .int l3), (4, .int l4)] [] := by
  have hh : (if l4 < 0 then (some (l1, S)) else (if l4 ≤ l3 then (kO S ((some h)) 4 (fun a3 => kc (s_X4_pulledFrom S a3 l4) (fun v2 S1 => kP S1 ((some h)) 4 0 (fun v4 => kI S1 v4 8 11 (fun v5 => if v5 = 0 then (kP S1 ((some h)) 4 0 (fun v6 => kI S1 v6 8 7 (fun v7 => if l2 < v7 then (kP S1 ((some h)) 4 0 (fun v8 => kI S1 v8 8 7 (fun v9 => s_X4_bestFrom_b72 j16 h S1 l4 v9 v2 l4))) else (s_X4_bestFrom_b72 j16 h S1 l1 l2 v2 l4)))) else (s_X4_bestFrom_b72 j16 h S1 l1 l2 v2 l4)))))) else (s_X4_bestFrom_b72 j16 h S l1 l2 l3 l4))) = some (r, S1) := hh
  refine rw_iload E (j0 := 4) rfl dX4_bestFrom_16 ?_
  refine rw_if_lt E hh (tgt := 78) (by decide) dX4_bestFrom_18 (fun hh => ?_) (fun hh => ?_)
  · refine rw_iload_n E (j0 := 1) rfl rfl dX4_bestFrom_78 ?_
    exact rw_iret E hrt hlk hh (by decide) (by decide) dX4_bestFrom_79
  · refine rw_iload E (j0 := 4) rfl dX4_bestFrom_21 ?_
    refine rw_iload_n E (j0 := 3) rfl rfl dX4_bestFrom_23 ?_
    refine rw_icmp_le E hh (tgt := 30) (by decide) dX4_bestFrom_24 (fun hh => ?_) (fun hh => ?_)
    · refine rw_aload_n E (j0 := 0) rfl rfl dX4_bestFrom_30 ?_
      refine rw_iload E (j0 := 4) rfl dX4_bestFrom_31 ?_
      refine rw_cVi E (As := [.int l4]) hh (by decide) rfl (fun _ _ _ hq => c_X4_pulledFrom l b0 G _ _ _ _ _ hq) (cwV 1 E.2.2.2.2.1 gX4_bestFrom_X4_pulledFrom rfl rfl rfl (by decide +kernel) ⟨Nat.le_of_ble_eq_true rfl, Nat.le_of_ble_eq_true rfl⟩) rfl rfl (by (try simp only [List.map_cons, List.map_nil, List.sum_cons, List.sum_nil, hrf_cat, cat_i, cat_l, cat_r]) <;> decide) ⟨Nat.le_of_ble_eq_true rfl, Nat.le_of_ble_eq_true rfl⟩ dX4_bestFrom_33 (fun v2 S1 hh => ?_)
      refine rw_istore_n E (lv2 := [(3, .int v2), (0, hrf b0 ((some h))), (1, .int l1), (2, .int l2), (4, .int l4)]) rfl (by decide) rfl dX4_bestFrom_36 ?_
      refine rw_aload_n E (j0 := 1) rfl rfl dX4_bestFrom_37 ?_
      refine rw_getP E hh (C := RX4) (T := TX4) (N := 9) rfl (by decide) i_X4_bestFrom_4 (by decide) rfl (List.mem_of_getElem? (i := 3) (by decide +kernel)) rfl dX4_bestFrom_38 (fun v4 hh => ?_)
      refine rw_getI E hh (C := RX8) (T := TX8) (N := 12) rfl (by decide) i_X4_bestFrom_8 (by decide) rfl (List.mem_of_getElem? (i := 4) (by decide +kernel)) rfl dX4_bestFrom_41 (fun v5 hh => ?_)
      refine rw_if_ne E hh (tgt := 72) (by decide) dX4_bestFrom_44 (fun hh => ?_) (fun hh => ?_)
      · refine WH.pick [1, 2, 3, 0, 4] rfl ?_
        exact w_X4_bestFrom_b72 E hrt hlk hj16 hh
      · refine rw_aload_n E (j0 := 1) rfl rfl dX4_bestFrom_47 ?_
        refine rw_getP E hh (C := RX4) (T := TX4) (N := 9) rfl (by decide) i_X4_bestFrom_4 (by decide) rfl (List.mem_of_getElem? (i := 3) (by decide +kernel)) rfl dX4_bestFrom_48 (fun v6 hh => ?_)
        refine rw_getI E hh (C := RX8) (T := TX8) (N := 12) rfl (by decide) i_X4_bestFrom_8 (by decide) rfl (List.mem_of_getElem? (i := 5) (by decide +kernel)) rfl dX4_bestFrom_51 (fun v7 hh => ?_)
        refine rw_iload_n E (j0 := 3) rfl rfl dX4_bestFrom_54 ?_
        refine rw_icmp_gt E hh (tgt := 61) (by decide) dX4_bestFrom_55 (fun hh => ?_) (fun hh => ?_)
        · refine rw_aload_n E (j0 := 1) rfl rfl dX4_bestFrom_61 ?_
          refine rw_getP E hh (C := RX4) (T := TX4) (N := 9) rfl (by decide) i_X4_bestFrom_4 (by decide) rfl (List.mem_of_getElem? (i := 3) (by decide +kernel)) rfl dX4_bestFrom_62 (fun v8 hh => ?_)
          refine rw_getI E hh (C := RX8) (T := TX8) (N := 12) rfl (by decide) i_X4_bestFrom_8 (by decide) rfl (List.mem_of_getElem? (i := 5) (by decide +kernel)) rfl dX4_bestFrom_65 (fun v9 hh => ?_)
          refine rw_istore_n E (lv2 := [(2, .int v9), (3, .int v2), (0, hrf b0 ((some h))), (1, .int l1), (4, .int l4)]) rfl (by decide) rfl dX4_bestFrom_68 ?_
          refine rw_iload E (j0 := 4) rfl dX4_bestFrom_69 ?_
          refine rw_istore_n E (lv2 := [(1, .int l4), (2, .int v9), (3, .int v2), (0, hrf b0 ((some h))), (4, .int l4)]) rfl (by decide) rfl dX4_bestFrom_71 ?_
          refine WH.pick [3, 0, 1, 2, 4] rfl ?_
          exact w_X4_bestFrom_b72 E hrt hlk hj16 hh
        · refine rw_goto E (tgt := 72) (by decide) dX4_bestFrom_58 ?_
          refine WH.pick [1, 2, 3, 0, 4] rfl ?_
          exact w_X4_bestFrom_b72 E hrt hlk hj16 hh
    · refine rw_goto E (tgt := 72) (by decide) dX4_bestFrom_27 ?_
      refine WH.pick [0, 1, 2, 3, 4] rfl ?_
      exact w_X4_bestFrom_b72 E hrt hlk hj16 hh
def s_X4_bestFrom_L16 (h : Nat) : Nat → HS → Int32 → Int32 → Int32 → Int32 → Option (Int32 × HS)
  | 0 => fun _ _ _ _ _ => none
  | n + 1 => s_X4_bestFrom_b16 (s_X4_bestFrom_L16 h n) h
set_option maxHeartbeats 4000000 in
set_option maxRecDepth 100000 in
theorem w_X4_bestFrom_L16 {p : Program} {l : Launch} {e : Env} {s : State} {m : MethodId} {args : Array Value} {below : List Frame} {meth : Method} {c : Code} {b0 : Nat} {G : hG} {S1 : HS} {r : Int32} {h : Nat} (E : hE p s m args c b0 G cX4_bestFrom RX4 5 wsX4_bestFrom) (hrt : meth.sig.returnType = (some .int)) (hlk : meth.locks = false) : ∀ (n : Nat) (S : HS) (l1 : Int32) (l2 : Int32) (l3 : Int32) (l4 : Int32), s_X4_bestFrom_L16 h n S l1 l2 l3 l4 = some (r, S1) → WH p l e rm_X4_bestFrom s m args below meth c b0 G 5 0 0 (MQ below (hQ b0 G (some (.int r)) S1) args s 0 0 (hA b0)) S 16 [(0, hrf b0 ((some h))), (1, .int l1), (2, .int l2), (3, .int l3), (4, .int l4)] [] := by
  intro n
  induction n with
  | zero => intro _ _ _ _ _ hh; exact absurd hh (by simp [s_X4_bestFrom_L16])
  | succ n ih => intro _ _ _ _ _ hh; exact w_X4_bestFrom_b16 E hrt hlk  ih hh
def s_X4_bestFrom (S : HS) (h : Nat) : Option (Int32 × HS) := kI S ((some h)) 4 5 (fun v1 => kI S ((some h)) 4 5 (fun v2 => s_X4_bestFrom_L16 h 100000 S ((-1000000)) ((-1)) v1 v2))
set_option maxHeartbeats 4000000 in
set_option maxRecDepth 100000 in
theorem c_X4_bestFrom (l : Launch) (b0 : Nat) (G : hG) (S S1 : HS) (h : Nat) (r : Int32) (hh : s_X4_bestFrom S h  = some (r, S1)) : MH l yX4_bestFrom wsX4_bestFrom rm_X4_bestFrom b0 G S [hrf b0 (some h)] (some (.int r)) S1 0 0 := by
  refine MH.ofW (cc := cX4_bestFrom) (maxL := 5) (ret := (some .int)) (own := RX4) (lv0 := [(0, hrf b0 ((some h)))]) (by decide) rfl rfl (Nat.le_of_ble_eq_true rfl) rfl ?_
  intro p e s m args below meth c E hrt hlk hnm
  have hh : (kI S ((some h)) 4 5 (fun v1 => kI S ((some h)) 4 5 (fun v2 => s_X4_bestFrom_L16 h 100000 S ((-1000000)) ((-1)) v1 v2))) = some (r, S1) := hh
  refine rw_ldc E (v := (-1000000)) (List.mem_of_getElem? (i := 1) (by decide +kernel)) dX4_bestFrom_0 ?_
  refine rw_istore_n E (lv2 := [(1, .int ((-1000000))), (0, hrf b0 ((some h)))]) rfl (by decide) rfl dX4_bestFrom_2 ?_
  refine rw_iconst E (v := (-1)) (by decide) dX4_bestFrom_3 ?_
  refine rw_istore_n E (lv2 := [(2, .int ((-1))), (1, .int ((-1000000))), (0, hrf b0 ((some h)))]) rfl (by decide) rfl dX4_bestFrom_4 ?_
  refine rw_aload_n E (j0 := 2) rfl rfl dX4_bestFrom_5 ?_
  refine rw_getI E hh (C := RX4) (T := TX4) (N := 9) rfl (by decide) i_X4_bestFrom_4 (by decide) rfl (List.mem_of_getElem? (i := 2) (by decide +kernel)) rfl dX4_bestFrom_6 (fun v1 hh => ?_)
  refine rw_istore_n E (lv2 := [(3, .int v1), (2, .int ((-1))), (1, .int ((-1000000))), (0, hrf b0 ((some h)))]) rfl (by decide) rfl dX4_bestFrom_9 ?_
  refine rw_aload_n E (j0 := 3) rfl rfl dX4_bestFrom_10 ?_
  refine rw_getI E hh (C := RX4) (T := TX4) (N := 9) rfl (by decide) i_X4_bestFrom_4 (by decide) rfl (List.mem_of_getElem? (i := 2) (by decide +kernel)) rfl dX4_bestFrom_11 (fun v2 hh => ?_)
  refine rw_istore E (lv2 := [(4, .int v2), (3, .int v1), (2, .int ((-1))), (1, .int ((-1000000))), (0, hrf b0 ((some h)))]) (by decide) rfl dX4_bestFrom_14 ?_
  refine WH.pick [4, 3, 2, 1, 0] rfl ?_
  exact w_X4_bestFrom_L16 E hrt hlk 100000 _ _ _ _ _ hh

/-! HummingDisc$Foretold.growsLateBy(I)Z -/
abbrev rm_X4_growsLateBy : Room := { frames := 4, cells := 0, slots := 0, locals := 87 }
theorem i_X4_growsLateBy_2 : ∀ w ∈ wsX20, w ∈ wsX4_growsLateBy := fun _ h => List.mem_cons_of_mem _ (List.mem_append_left _ (List.mem_append_right _ (h)))
theorem i_X4_growsLateBy_4 : ∀ w ∈ wsX40, w ∈ wsX4_growsLateBy := fun _ h => List.mem_cons_of_mem _ (List.mem_append_left _ (List.mem_append_left _ (List.mem_append_left _ (List.mem_append_right _ (h)))))
theorem i_X4_growsLateBy_8 : ∀ w ∈ wsX80, w ∈ wsX4_growsLateBy := fun _ h => List.mem_cons_of_mem _ (List.mem_append_left _ (List.mem_append_left _ (List.mem_append_right _ (h))))
def s_X4_growsLateBy_b115 (j8 : HS → Int32 → Int32 → Int32 → Option (Int32 × HS)) (h : Nat) (S : HS) (l1 : Int32) (l2 : Int32) (l3 : Int32) : Option (Int32 × HS) := j8 S l1 l2 (l3 + 1)
set_option maxHeartbeats 4000000 in
set_option maxRecDepth 100000 in
theorem w_X4_growsLateBy_b115 {p : Program} {l : Launch} {e : Env} {s : State} {m : MethodId} {args : Array Value} {below : List Frame} {meth : Method} {c : Code} {b0 : Nat} {G : hG} {S1 : HS} {r : Int32} {j8 : HS → Int32 → Int32 → Int32 → Option (Int32 × HS)} {h : Nat} {S : HS} {l1 : Int32} {l2 : Int32} {l3 : Int32} (E : hE p s m args c b0 G cX4_growsLateBy RX4 5 wsX4_growsLateBy) (hrt : meth.sig.returnType = (some .boolean)) (hlk : meth.locks = false) (hj8 : ∀ (S : HS) (l1 : Int32) (l2 : Int32) (l3 : Int32), j8 S l1 l2 l3 = some (r, S1) → WH p l e rm_X4_growsLateBy s m args below meth c b0 G 5 0 0 (MQ below (hQ b0 G (some (.int r)) S1) args s 0 0 (hA b0)) S 8 [(0, hrf b0 ((some h))), (1, .int l1), (2, .int l2), (3, .int l3)] []) (hh : s_X4_growsLateBy_b115 j8 h S l1 l2 l3 = some (r, S1)) : WH p l e rm_X4_growsLateBy s m args below meth c b0 G 5 0 0 (MQ below (hQ b0 G (some (.int r)) S1) args s 0 0 (hA b0)) S 115 [(0, hrf b0 ((some h))), (1, .int l1), (2, .int l2), (3, .int l3)] [] := by
  have hh : (j8 S l1 l2 (l3 + 1)) = some (r, S1) := hh
  refine rw_iinc E (v := l3 + 1) (lv2 := [(3, .int (l3 + 1)), (0, hrf b0 ((some h))), (1, .int l1), (2, .int l2)]) (j0 := 3) rfl rfl (by decide) rfl dX4_growsLateBy_115 ?_
  refine rw_goto E (tgt := 8) (by decide) dX4_growsLateBy_118 ?_
  refine WH.pick [1, 2, 3, 0] rfl ?_
  exact hj8 _ _ _ _ hh
def s_X4_growsLateBy_b61 (j8 : HS → Int32 → Int32 → Int32 → Option (Int32 × HS)) (h : Nat) (S : HS) (l1 : Int32) (l2 : Int32) (l3 : Int32) (k0 : Option Nat) (k1 : Int32) : Option (Int32 × HS) := kO S k0 8 (fun a2 => kcv (s_X8_tick S a2 k1 0) (fun S1 => kP S1 ((some h)) 4 0 (fun v3 => kI S1 v3 8 3 (fun v4 => kI S1 ((some h)) 4 5 (fun v5 => if v5 < fabs v4 then (kzr 1 S1) else (kP S1 ((some h)) 4 4 (fun v6 => kI S1 v6 2 2 (fun v7 => if fabs v4 = v7 then (kP S1 ((some h)) 4 0 (fun v8 => kI S1 v8 8 4 (fun v9 => if fabs v4 ≤ fabs v9 then (s_X4_growsLateBy_b115 j8 h S1 l1 l2 l3) else (kzr 1 S1)))) else (s_X4_growsLateBy_b115 j8 h S1 l1 l2 l3)))))))))
set_option maxHeartbeats 4000000 in
set_option maxRecDepth 100000 in
theorem w_X4_growsLateBy_b61 {p : Program} {l : Launch} {e : Env} {s : State} {m : MethodId} {args : Array Value} {below : List Frame} {meth : Method} {c : Code} {b0 : Nat} {G : hG} {S1 : HS} {r : Int32} {j8 : HS → Int32 → Int32 → Int32 → Option (Int32 × HS)} {h : Nat} {S : HS} {l1 : Int32} {l2 : Int32} {l3 : Int32} {k0 : Option Nat} {k1 : Int32} (E : hE p s m args c b0 G cX4_growsLateBy RX4 5 wsX4_growsLateBy) (hrt : meth.sig.returnType = (some .boolean)) (hlk : meth.locks = false) (hj8 : ∀ (S : HS) (l1 : Int32) (l2 : Int32) (l3 : Int32), j8 S l1 l2 l3 = some (r, S1) → WH p l e rm_X4_growsLateBy s m args below meth c b0 G 5 0 0 (MQ below (hQ b0 G (some (.int r)) S1) args s 0 0 (hA b0)) S 8 [(0, hrf b0 ((some h))), (1, .int l1), (2, .int l2), (3, .int l3)] []) (hh : s_X4_growsLateBy_b61 j8 h S l1 l2 l3 k0 k1 = some (r, S1)) : WH p l e rm_X4_growsLateBy s m args below meth c b0 G 5 0 0 (MQ below (hQ b0 G (some (.int r)) S1) args s 0 0 (hA b0)) S 61 [(0, hrf b0 ((some h))), (1, .int l1), (2, .int l2), (3, .int l3)] [.int k1, hrf b0 k0] := by
  have hh : (kO S k0 8 (fun a2 => kcv (s_X8_tick S a2 k1 0) (fun S1 => kP S1 ((some h)) 4 0 (fun v3 => kI S1 v3 8 3 (fun v4 => kI S1 ((some h)) 4 5 (fun v5 => if v5 < fabs v4 then (kzr 1 S1) else (kP S1 ((some h)) 4 4 (fun v6 => kI S1 v6 2 2 (fun v7 => if fabs v4 = v7 then (kP S1 ((some h)) 4 0 (fun v8 => kI S1 v8 8 4 (fun v9 => if fabs v4 ≤ fabs v9 then (s_X4_growsLateBy_b115 j8 h S1 l1 l2 l3) else (kzr 1 S1)))) else (s_X4_growsLateBy_b115 j8 h S1 l1 l2 l3)))))))))) = some (r, S1) := hh
  refine rw_iconst E (v := 0) (by decide) dX4_growsLateBy_61 ?_
  refine rw_cVv E (As := [.int k1, .int 0]) hh (by decide) rfl (fun _ _ hq => c_X8_tick l b0 G _ _ _ _ _ hq) (cwV 2 E.2.2.2.2.1 gX4_growsLateBy_X8_tick rfl rfl rfl (by decide +kernel) ⟨Nat.le_of_ble_eq_true rfl, Nat.le_of_ble_eq_true rfl⟩) rfl rfl (by (try simp only [List.map_cons, List.map_nil, List.sum_cons, List.sum_nil, hrf_cat, cat_i, cat_l, cat_r]) <;> decide) ⟨Nat.le_of_ble_eq_true rfl, Nat.le_of_ble_eq_true rfl⟩ dX4_growsLateBy_62 (fun S1 hh => ?_)
  refine rw_aload_n E (j0 := 0) rfl rfl dX4_growsLateBy_65 ?_
  refine rw_getP E hh (C := RX4) (T := TX4) (N := 9) rfl (by decide) i_X4_growsLateBy_4 (by decide) rfl (List.mem_of_getElem? (i := 2) (by decide +kernel)) rfl dX4_growsLateBy_66 (fun v3 hh => ?_)
  refine rw_getI E hh (C := RX8) (T := TX8) (N := 12) rfl (by decide) i_X4_growsLateBy_8 (by decide) rfl (List.mem_of_getElem? (i := 5) (by decide +kernel)) rfl dX4_growsLateBy_69 (fun v4 hh => ?_)
  refine rw_mabs E ⟨by decide, (by (try simp only [List.map_cons, List.map_nil, List.sum_cons, List.sum_nil, hrf_cat, cat_i, cat_l, cat_r]) <;> decide), by decide, by decide⟩ (List.mem_of_getElem? (i := 6) (by decide +kernel)) (List.mem_of_getElem? (i := 7) (by decide +kernel)) (List.mem_of_getElem? (i := 8) (by decide +kernel)) (List.mem_of_getElem? (i := 9) (by decide +kernel)) dX4_growsLateBy_72 ?_
  refine rw_istore E (lv2 := [(4, .int (fabs v4)), (0, hrf b0 ((some h))), (1, .int l1), (2, .int l2), (3, .int l3)]) (by decide) rfl dX4_growsLateBy_75 ?_
  refine rw_iload E (j0 := 0) rfl dX4_growsLateBy_77 ?_
  refine rw_aload_n E (j0 := 1) rfl rfl dX4_growsLateBy_79 ?_
  refine rw_getI E hh (C := RX4) (T := TX4) (N := 9) rfl (by decide) i_X4_growsLateBy_4 (by decide) rfl (List.mem_of_getElem? (i := 10) (by decide +kernel)) rfl dX4_growsLateBy_80 (fun v5 hh => ?_)
  refine rw_icmp_gt E hh (tgt := 113) (by decide) dX4_growsLateBy_83 (fun hh => ?_) (fun hh => ?_)
  · refine rw_iconst E (v := 1) (by decide) dX4_growsLateBy_113 ?_
    exact rw_zret E hrt hlk hh (by decide) (by decide) dX4_growsLateBy_114
  · refine rw_iload E (j0 := 0) rfl dX4_growsLateBy_86 ?_
    refine rw_aload_n E (j0 := 1) rfl rfl dX4_growsLateBy_88 ?_
    refine rw_getP E hh (C := RX4) (T := TX4) (N := 9) rfl (by decide) i_X4_growsLateBy_4 (by decide) rfl (List.mem_of_getElem? (i := 11) (by decide +kernel)) rfl dX4_growsLateBy_89 (fun v6 hh => ?_)
    refine rw_getI E hh (C := RX2) (T := TX2) (N := 4) rfl (by decide) i_X4_growsLateBy_2 (by decide) rfl (List.mem_of_getElem? (i := 12) (by decide +kernel)) rfl dX4_growsLateBy_92 (fun v7 hh => ?_)
    refine rw_icmp_ne E hh (tgt := 115) (by decide) dX4_growsLateBy_95 (fun hh => ?_) (fun hh => ?_)
    · refine WH.pick [1, 2, 3, 4] rfl ?_
      exact w_X4_growsLateBy_b115 E hrt hlk hj8 hh
    · refine rw_aload_n E (j0 := 1) rfl rfl dX4_growsLateBy_98 ?_
      refine rw_getP E hh (C := RX4) (T := TX4) (N := 9) rfl (by decide) i_X4_growsLateBy_4 (by decide) rfl (List.mem_of_getElem? (i := 2) (by decide +kernel)) rfl dX4_growsLateBy_99 (fun v8 hh => ?_)
      refine rw_getI E hh (C := RX8) (T := TX8) (N := 12) rfl (by decide) i_X4_growsLateBy_8 (by decide) rfl (List.mem_of_getElem? (i := 13) (by decide +kernel)) rfl dX4_growsLateBy_102 (fun v9 hh => ?_)
      refine rw_mabs E ⟨by decide, (by (try simp only [List.map_cons, List.map_nil, List.sum_cons, List.sum_nil, hrf_cat, cat_i, cat_l, cat_r]) <;> decide), by decide, by decide⟩ (List.mem_of_getElem? (i := 6) (by decide +kernel)) (List.mem_of_getElem? (i := 7) (by decide +kernel)) (List.mem_of_getElem? (i := 8) (by decide +kernel)) (List.mem_of_getElem? (i := 9) (by decide +kernel)) dX4_growsLateBy_105 ?_
      refine rw_iload E (j0 := 0) rfl dX4_growsLateBy_108 ?_
      refine rw_icmp_ge E hh (tgt := 115) (by decide) dX4_growsLateBy_110 (fun hh => ?_) (fun hh => ?_)
      · refine WH.pick [1, 2, 3, 4] rfl ?_
        exact w_X4_growsLateBy_b115 E hrt hlk hj8 hh
      · refine rw_iconst E (v := 1) (by decide) dX4_growsLateBy_113 ?_
        exact rw_zret E hrt hlk hh (by decide) (by decide) dX4_growsLateBy_114
def s_X4_growsLateBy_b43 (j8 : HS → Int32 → Int32 → Int32 → Option (Int32 × HS)) (h : Nat) (S : HS) (l1 : Int32) (l3 : Int32) (k0 : Int32) : Option (Int32 × HS) := kP S ((some h)) 4 0 (fun v1 => if k0 ≤ l1 then (s_X4_growsLateBy_b61 j8 h S l1 k0 l3 v1 0) else (kI S ((some h)) 4 6 (fun v2 => s_X4_growsLateBy_b61 j8 h S l1 k0 l3 v1 v2)))
set_option maxHeartbeats 4000000 in
set_option maxRecDepth 100000 in
theorem w_X4_growsLateBy_b43 {p : Program} {l : Launch} {e : Env} {s : State} {m : MethodId} {args : Array Value} {below : List Frame} {meth : Method} {c : Code} {b0 : Nat} {G : hG} {S1 : HS} {r : Int32} {j8 : HS → Int32 → Int32 → Int32 → Option (Int32 × HS)} {h : Nat} {S : HS} {l1 : Int32} {l3 : Int32} {k0 : Int32} (E : hE p s m args c b0 G cX4_growsLateBy RX4 5 wsX4_growsLateBy) (hrt : meth.sig.returnType = (some .boolean)) (hlk : meth.locks = false) (hj8 : ∀ (S : HS) (l1 : Int32) (l2 : Int32) (l3 : Int32), j8 S l1 l2 l3 = some (r, S1) → WH p l e rm_X4_growsLateBy s m args below meth c b0 G 5 0 0 (MQ below (hQ b0 G (some (.int r)) S1) args s 0 0 (hA b0)) S 8 [(0, hrf b0 ((some h))), (1, .int l1), (2, .int l2), (3, .int l3)] []) (hh : s_X4_growsLateBy_b43 j8 h S l1 l3 k0 = some (r, S1)) : WH p l e rm_X4_growsLateBy s m args below meth c b0 G 5 0 0 (MQ below (hQ b0 G (some (.int r)) S1) args s 0 0 (hA b0)) S 43 [(0, hrf b0 ((some h))), (1, .int l1), (3, .int l3)] [.int k0] := by
  have hh : (kP S ((some h)) 4 0 (fun v1 => if k0 ≤ l1 then (s_X4_growsLateBy_b61 j8 h S l1 k0 l3 v1 0) else (kI S ((some h)) 4 6 (fun v2 => s_X4_growsLateBy_b61 j8 h S l1 k0 l3 v1 v2)))) = some (r, S1) := hh
  refine rw_istore_n E (lv2 := [(2, .int k0), (0, hrf b0 ((some h))), (1, .int l1), (3, .int l3)]) rfl (by decide) rfl dX4_growsLateBy_43 ?_
  refine rw_aload_n E (j0 := 1) rfl rfl dX4_growsLateBy_44 ?_
  refine rw_getP E hh (C := RX4) (T := TX4) (N := 9) rfl (by decide) i_X4_growsLateBy_4 (by decide) rfl (List.mem_of_getElem? (i := 2) (by decide +kernel)) rfl dX4_growsLateBy_45 (fun v1 hh => ?_)
  refine rw_iload_n E (j0 := 0) rfl rfl dX4_growsLateBy_48 ?_
  refine rw_iload_n E (j0 := 2) rfl rfl dX4_growsLateBy_49 ?_
  refine rw_icmp_le E hh (tgt := 60) (by decide) dX4_growsLateBy_50 (fun hh => ?_) (fun hh => ?_)
  · refine rw_iconst E (v := 0) (by decide) dX4_growsLateBy_60 ?_
    refine WH.pick [1, 2, 0, 3] rfl ?_
    exact w_X4_growsLateBy_b61 E hrt hlk hj8 hh
  · refine rw_aload_n E (j0 := 1) rfl rfl dX4_growsLateBy_53 ?_
    refine rw_getI E hh (C := RX4) (T := TX4) (N := 9) rfl (by decide) i_X4_growsLateBy_4 (by decide) rfl (List.mem_of_getElem? (i := 4) (by decide +kernel)) rfl dX4_growsLateBy_54 (fun v2 hh => ?_)
    refine rw_goto E (tgt := 61) (by decide) dX4_growsLateBy_57 ?_
    refine WH.pick [1, 2, 0, 3] rfl ?_
    exact w_X4_growsLateBy_b61 E hrt hlk hj8 hh
def s_X4_growsLateBy_b8 (j8 : HS → Int32 → Int32 → Int32 → Option (Int32 × HS)) (h : Nat) (S : HS) (l1 : Int32) (l2 : Int32) (l3 : Int32) : Option (Int32 × HS) := kI S ((some h)) 4 7 (fun v1 => if v1 ≤ l3 then (kzr 0 S) else (kP S ((some h)) 4 0 (fun v2 => kI S v2 8 11 (fun v3 => if v3 = 0 then (kP S ((some h)) 4 0 (fun v4 => kO S v4 8 (fun a7 => kc (s_X8_unwinds S a7 ) (fun v6 S5 => if v6 = 0 then (s_X4_growsLateBy_b43 j8 h S5 l1 l3 0) else (s_X4_growsLateBy_b43 j8 h S5 l1 l3 (l2 + 1)))))) else (kzr 0 S)))))
set_option maxHeartbeats 4000000 in
set_option maxRecDepth 100000 in
theorem w_X4_growsLateBy_b8 {p : Program} {l : Launch} {e : Env} {s : State} {m : MethodId} {args : Array Value} {below : List Frame} {meth : Method} {c : Code} {b0 : Nat} {G : hG} {S1 : HS} {r : Int32} {j8 : HS → Int32 → Int32 → Int32 → Option (Int32 × HS)} {h : Nat} {S : HS} {l1 : Int32} {l2 : Int32} {l3 : Int32} (E : hE p s m args c b0 G cX4_growsLateBy RX4 5 wsX4_growsLateBy) (hrt : meth.sig.returnType = (some .boolean)) (hlk : meth.locks = false) (hj8 : ∀ (S : HS) (l1 : Int32) (l2 : Int32) (l3 : Int32), j8 S l1 l2 l3 = some (r, S1) → WH p l e rm_X4_growsLateBy s m args below meth c b0 G 5 0 0 (MQ below (hQ b0 G (some (.int r)) S1) args s 0 0 (hA b0)) S 8 [(0, hrf b0 ((some h))), (1, .int l1), (2, .int l2), (3, .int l3)] []) (hh : s_X4_growsLateBy_b8 j8 h S l1 l2 l3 = some (r, S1)) : WH p l e rm_X4_growsLateBy s m args below meth c b0 G 5 0 0 (MQ below (hQ b0 G (some (.int r)) S1) args s 0 0 (hA b0)) S 8 [(0, hrf b0 ((some h))), (1, .int l1), (2, .int l2), (3, .int l3)] [] := by
  have hh : (kI S ((some h)) 4 7 (fun v1 => if v1 ≤ l3 then (kzr 0 S) else (kP S ((some h)) 4 0 (fun v2 => kI S v2 8 11 (fun v3 => if v3 = 0 then (kP S ((some h)) 4 0 (fun v4 => kO S v4 8 (fun a7 => kc (s_X8_unwinds S a7 ) (fun v6 S5 => if v6 = 0 then (s_X4_growsLateBy_b43 j8 h S5 l1 l3 0) else (s_X4_growsLateBy_b43 j8 h S5 l1 l3 (l2 + 1)))))) else (kzr 0 S)))))) = some (r, S1) := hh
  refine rw_iload_n E (j0 := 3) rfl rfl dX4_growsLateBy_8 ?_
  refine rw_aload_n E (j0 := 0) rfl rfl dX4_growsLateBy_9 ?_
  refine rw_getI E hh (C := RX4) (T := TX4) (N := 9) rfl (by decide) i_X4_growsLateBy_4 (by decide) rfl (List.mem_of_getElem? (i := 1) (by decide +kernel)) rfl dX4_growsLateBy_10 (fun v1 hh => ?_)
  refine rw_icmp_ge E hh (tgt := 121) (by decide) dX4_growsLateBy_13 (fun hh => ?_) (fun hh => ?_)
  · refine rw_iconst E (v := 0) (by decide) dX4_growsLateBy_121 ?_
    exact rw_zret E hrt hlk hh (by decide) (by decide) dX4_growsLateBy_122
  · refine rw_aload_n E (j0 := 0) rfl rfl dX4_growsLateBy_16 ?_
    refine rw_getP E hh (C := RX4) (T := TX4) (N := 9) rfl (by decide) i_X4_growsLateBy_4 (by decide) rfl (List.mem_of_getElem? (i := 2) (by decide +kernel)) rfl dX4_growsLateBy_17 (fun v2 hh => ?_)
    refine rw_getI E hh (C := RX8) (T := TX8) (N := 12) rfl (by decide) i_X4_growsLateBy_8 (by decide) rfl (List.mem_of_getElem? (i := 3) (by decide +kernel)) rfl dX4_growsLateBy_20 (fun v3 hh => ?_)
    refine rw_if_ne E hh (tgt := 121) (by decide) dX4_growsLateBy_23 (fun hh => ?_) (fun hh => ?_)
    · refine rw_iconst E (v := 0) (by decide) dX4_growsLateBy_121 ?_
      exact rw_zret E hrt hlk hh (by decide) (by decide) dX4_growsLateBy_122
    · refine rw_aload_n E (j0 := 0) rfl rfl dX4_growsLateBy_26 ?_
      refine rw_getP E hh (C := RX4) (T := TX4) (N := 9) rfl (by decide) i_X4_growsLateBy_4 (by decide) rfl (List.mem_of_getElem? (i := 2) (by decide +kernel)) rfl dX4_growsLateBy_27 (fun v4 hh => ?_)
      refine rw_cVi E (As := []) hh (by decide) rfl (fun _ _ _ hq => c_X8_unwinds l b0 G _ _ _ _ hq) (cwV 0 E.2.2.2.2.1 gX4_growsLateBy_X8_unwinds rfl rfl rfl (by decide +kernel) ⟨Nat.le_of_ble_eq_true rfl, Nat.le_of_ble_eq_true rfl⟩) rfl rfl (by (try simp only [List.map_cons, List.map_nil, List.sum_cons, List.sum_nil, hrf_cat, cat_i, cat_l, cat_r]) <;> decide) ⟨Nat.le_of_ble_eq_true rfl, Nat.le_of_ble_eq_true rfl⟩ dX4_growsLateBy_30 (fun v6 S5 hh => ?_)
      refine rw_if_eq E hh (tgt := 42) (by decide) dX4_growsLateBy_33 (fun hh => ?_) (fun hh => ?_)
      · refine rw_iconst E (v := 0) (by decide) dX4_growsLateBy_42 ?_
        refine WH.pick [0, 1, 3] rfl ?_
        exact w_X4_growsLateBy_b43 E hrt hlk hj8 hh
      · refine rw_iload_n E (j0 := 2) rfl rfl dX4_growsLateBy_36 ?_
        refine rw_iconst E (v := 1) (by decide) dX4_growsLateBy_37 ?_
        refine rw_iadd E dX4_growsLateBy_38 ?_
        refine rw_goto E (tgt := 43) (by decide) dX4_growsLateBy_39 ?_
        refine WH.pick [0, 1, 3] rfl ?_
        exact w_X4_growsLateBy_b43 E hrt hlk hj8 hh
def s_X4_growsLateBy_L8 (h : Nat) : Nat → HS → Int32 → Int32 → Int32 → Option (Int32 × HS)
  | 0 => fun _ _ _ _ => none
  | n + 1 => s_X4_growsLateBy_b8 (s_X4_growsLateBy_L8 h n) h
set_option maxHeartbeats 4000000 in
set_option maxRecDepth 100000 in
theorem w_X4_growsLateBy_L8 {p : Program} {l : Launch} {e : Env} {s : State} {m : MethodId} {args : Array Value} {below : List Frame} {meth : Method} {c : Code} {b0 : Nat} {G : hG} {S1 : HS} {r : Int32} {h : Nat} (E : hE p s m args c b0 G cX4_growsLateBy RX4 5 wsX4_growsLateBy) (hrt : meth.sig.returnType = (some .boolean)) (hlk : meth.locks = false) : ∀ (n : Nat) (S : HS) (l1 : Int32) (l2 : Int32) (l3 : Int32), s_X4_growsLateBy_L8 h n S l1 l2 l3 = some (r, S1) → WH p l e rm_X4_growsLateBy s m args below meth c b0 G 5 0 0 (MQ below (hQ b0 G (some (.int r)) S1) args s 0 0 (hA b0)) S 8 [(0, hrf b0 ((some h))), (1, .int l1), (2, .int l2), (3, .int l3)] [] := by
  intro n
  induction n with
  | zero => intro _ _ _ _ hh; exact absurd hh (by simp [s_X4_growsLateBy_L8])
  | succ n ih => intro _ _ _ _ hh; exact w_X4_growsLateBy_b8 E hrt hlk  ih hh
def s_X4_growsLateBy (S : HS) (h : Nat) (l1 : Int32) : Option (Int32 × HS) := kO S ((some h)) 4 (fun a2 => kcv (s_X4_start S a2 ) (fun S1 => s_X4_growsLateBy_L8 h 100000 S1 l1 0 0))
set_option maxHeartbeats 4000000 in
set_option maxRecDepth 100000 in
theorem c_X4_growsLateBy (l : Launch) (b0 : Nat) (G : hG) (S S1 : HS) (h : Nat) (l1 : Int32) (r : Int32) (hh : s_X4_growsLateBy S h l1 = some (r, S1)) : MH l yX4_growsLateBy wsX4_growsLateBy rm_X4_growsLateBy b0 G S [hrf b0 (some h), .int l1] (some (.int r)) S1 0 0 := by
  refine MH.ofW (cc := cX4_growsLateBy) (maxL := 5) (ret := (some .boolean)) (own := RX4) (lv0 := [(0, hrf b0 ((some h))), (1, .int l1)]) (by decide) rfl rfl (Nat.le_of_ble_eq_true rfl) rfl ?_
  intro p e s m args below meth c E hrt hlk hnm
  have hh : (kO S ((some h)) 4 (fun a2 => kcv (s_X4_start S a2 ) (fun S1 => s_X4_growsLateBy_L8 h 100000 S1 l1 0 0))) = some (r, S1) := hh
  refine rw_iconst E (v := 0) (by decide) dX4_growsLateBy_0 ?_
  refine rw_istore_n E (lv2 := [(2, .int 0), (0, hrf b0 ((some h))), (1, .int l1)]) rfl (by decide) rfl dX4_growsLateBy_1 ?_
  refine rw_aload_n E (j0 := 1) rfl rfl dX4_growsLateBy_2 ?_
  refine rw_cVv E (As := []) hh (by decide) rfl (fun _ _ hq => c_X4_start l b0 G _ _ _ hq) (cwV 0 E.2.2.2.2.1 gX4_growsLateBy_X4_start rfl rfl rfl (by decide +kernel) ⟨Nat.le_of_ble_eq_true rfl, Nat.le_of_ble_eq_true rfl⟩) rfl rfl (by (try simp only [List.map_cons, List.map_nil, List.sum_cons, List.sum_nil, hrf_cat, cat_i, cat_l, cat_r]) <;> decide) ⟨Nat.le_of_ble_eq_true rfl, Nat.le_of_ble_eq_true rfl⟩ dX4_growsLateBy_3 (fun S1 hh => ?_)
  refine rw_iconst E (v := 0) (by decide) dX4_growsLateBy_6 ?_
  refine rw_istore_n E (lv2 := [(3, .int 0), (2, .int 0), (0, hrf b0 ((some h))), (1, .int l1)]) rfl (by decide) rfl dX4_growsLateBy_7 ?_
  refine WH.pick [2, 3, 1, 0] rfl ?_
  exact w_X4_growsLateBy_L8 E hrt hlk 100000 _ _ _ _ hh

/-! HummingDisc$Foretold.latestGrowing()I -/
abbrev rm_X4_latestGrowing : Room := { frames := 5, cells := 0, slots := 0, locals := 111 }
def s_X4_latestGrowing_b5 (j5 : HS → Int32 → Int32 → Option (Int32 × HS)) (h : Nat) (S : HS) (l1 : Int32) (l2 : Int32) : Option (Int32 × HS) := if 30 < l2 then (some (l1, S)) else (kO S ((some h)) 4 (fun a3 => kc (s_X4_growsLateBy S a3 l2) (fun v2 S1 => if v2 = 0 then (some (l1, S1)) else (j5 S1 l2 (l2 + 1)))))
set_option maxHeartbeats 4000000 in
set_option maxRecDepth 100000 in
theorem w_X4_latestGrowing_b5 {p : Program} {l : Launch} {e : Env} {s : State} {m : MethodId} {args : Array Value} {below : List Frame} {meth : Method} {c : Code} {b0 : Nat} {G : hG} {S1 : HS} {r : Int32} {j5 : HS → Int32 → Int32 → Option (Int32 × HS)} {h : Nat} {S : HS} {l1 : Int32} {l2 : Int32} (E : hE p s m args c b0 G cX4_latestGrowing RX4 3 wsX4_latestGrowing) (hrt : meth.sig.returnType = (some .int)) (hlk : meth.locks = false) (hj5 : ∀ (S : HS) (l1 : Int32) (l2 : Int32), j5 S l1 l2 = some (r, S1) → WH p l e rm_X4_latestGrowing s m args below meth c b0 G 3 0 0 (MQ below (hQ b0 G (some (.int r)) S1) args s 0 0 (hA b0)) S 5 [(0, hrf b0 ((some h))), (1, .int l1), (2, .int l2)] []) (hh : s_X4_latestGrowing_b5 j5 h S l1 l2 = some (r, S1)) : WH p l e rm_X4_latestGrowing s m args below meth c b0 G 3 0 0 (MQ below (hQ b0 G (some (.int r)) S1) args s 0 0 (hA b0)) S 5 [(0, hrf b0 ((some h))), (1, .int l1), (2, .int l2)] [] := by
  have hh : (if 30 < l2 then (some (l1, S)) else (kO S ((some h)) 4 (fun a3 => kc (s_X4_growsLateBy S a3 l2) (fun v2 S1 => if v2 = 0 then (some (l1, S1)) else (j5 S1 l2 (l2 + 1)))))) = some (r, S1) := hh
  refine rw_iload_n E (j0 := 2) rfl rfl dX4_latestGrowing_5 ?_
  refine rw_bipush E (v := 30) (by decide) dX4_latestGrowing_6 ?_
  refine rw_icmp_gt E hh (tgt := 27) (by decide) dX4_latestGrowing_8 (fun hh => ?_) (fun hh => ?_)
  · refine rw_iload_n E (j0 := 1) rfl rfl dX4_latestGrowing_27 ?_
    exact rw_iret E hrt hlk hh (by decide) (by decide) dX4_latestGrowing_28
  · refine rw_aload_n E (j0 := 0) rfl rfl dX4_latestGrowing_11 ?_
    refine rw_iload_n E (j0 := 2) rfl rfl dX4_latestGrowing_12 ?_
    refine rw_cVi E (As := [.int l2]) hh (by decide) rfl (fun _ _ _ hq => c_X4_growsLateBy l b0 G _ _ _ _ _ hq) (cwV 1 E.2.2.2.2.1 gX4_latestGrowing_X4_growsLateBy rfl rfl rfl (by decide +kernel) ⟨Nat.le_of_ble_eq_true rfl, Nat.le_of_ble_eq_true rfl⟩) rfl rfl (by (try simp only [List.map_cons, List.map_nil, List.sum_cons, List.sum_nil, hrf_cat, cat_i, cat_l, cat_r]) <;> decide) ⟨Nat.le_of_ble_eq_true rfl, Nat.le_of_ble_eq_true rfl⟩ dX4_latestGrowing_13 (fun v2 S1 hh => ?_)
    refine rw_if_eq E hh (tgt := 27) (by decide) dX4_latestGrowing_16 (fun hh => ?_) (fun hh => ?_)
    · refine rw_iload_n E (j0 := 1) rfl rfl dX4_latestGrowing_27 ?_
      exact rw_iret E hrt hlk hh (by decide) (by decide) dX4_latestGrowing_28
    · refine rw_iload_n E (j0 := 2) rfl rfl dX4_latestGrowing_19 ?_
      refine rw_istore_n E (lv2 := [(1, .int l2), (0, hrf b0 ((some h))), (2, .int l2)]) rfl (by decide) rfl dX4_latestGrowing_20 ?_
      refine rw_iinc E (v := l2 + 1) (lv2 := [(2, .int (l2 + 1)), (1, .int l2), (0, hrf b0 ((some h)))]) (j0 := 2) rfl rfl (by decide) rfl dX4_latestGrowing_21 ?_
      refine rw_goto E (tgt := 5) (by decide) dX4_latestGrowing_24 ?_
      refine WH.pick [2, 1, 0] rfl ?_
      exact hj5 _ _ _ hh
def s_X4_latestGrowing_L5 (h : Nat) : Nat → HS → Int32 → Int32 → Option (Int32 × HS)
  | 0 => fun _ _ _ => none
  | n + 1 => s_X4_latestGrowing_b5 (s_X4_latestGrowing_L5 h n) h
set_option maxHeartbeats 4000000 in
set_option maxRecDepth 100000 in
theorem w_X4_latestGrowing_L5 {p : Program} {l : Launch} {e : Env} {s : State} {m : MethodId} {args : Array Value} {below : List Frame} {meth : Method} {c : Code} {b0 : Nat} {G : hG} {S1 : HS} {r : Int32} {h : Nat} (E : hE p s m args c b0 G cX4_latestGrowing RX4 3 wsX4_latestGrowing) (hrt : meth.sig.returnType = (some .int)) (hlk : meth.locks = false) : ∀ (n : Nat) (S : HS) (l1 : Int32) (l2 : Int32), s_X4_latestGrowing_L5 h n S l1 l2 = some (r, S1) → WH p l e rm_X4_latestGrowing s m args below meth c b0 G 3 0 0 (MQ below (hQ b0 G (some (.int r)) S1) args s 0 0 (hA b0)) S 5 [(0, hrf b0 ((some h))), (1, .int l1), (2, .int l2)] [] := by
  intro n
  induction n with
  | zero => intro _ _ _ hh; exact absurd hh (by simp [s_X4_latestGrowing_L5])
  | succ n ih => intro _ _ _ hh; exact w_X4_latestGrowing_b5 E hrt hlk  ih hh
def s_X4_latestGrowing (S : HS) (h : Nat) : Option (Int32 × HS) := s_X4_latestGrowing_L5 h 100000 S ((-1000000)) 0
set_option maxHeartbeats 4000000 in
set_option maxRecDepth 100000 in
theorem c_X4_latestGrowing (l : Launch) (b0 : Nat) (G : hG) (S S1 : HS) (h : Nat) (r : Int32) (hh : s_X4_latestGrowing S h  = some (r, S1)) : MH l yX4_latestGrowing wsX4_latestGrowing rm_X4_latestGrowing b0 G S [hrf b0 (some h)] (some (.int r)) S1 0 0 := by
  refine MH.ofW (cc := cX4_latestGrowing) (maxL := 3) (ret := (some .int)) (own := RX4) (lv0 := [(0, hrf b0 ((some h)))]) (by decide) rfl rfl (Nat.le_of_ble_eq_true rfl) rfl ?_
  intro p e s m args below meth c E hrt hlk hnm
  have hh : (s_X4_latestGrowing_L5 h 100000 S ((-1000000)) 0) = some (r, S1) := hh
  refine rw_ldc E (v := (-1000000)) (List.mem_of_getElem? (i := 1) (by decide +kernel)) dX4_latestGrowing_0 ?_
  refine rw_istore_n E (lv2 := [(1, .int ((-1000000))), (0, hrf b0 ((some h)))]) rfl (by decide) rfl dX4_latestGrowing_2 ?_
  refine rw_iconst E (v := 0) (by decide) dX4_latestGrowing_3 ?_
  refine rw_istore_n E (lv2 := [(2, .int 0), (1, .int ((-1000000))), (0, hrf b0 ((some h)))]) rfl (by decide) rfl dX4_latestGrowing_4 ?_
  refine WH.pick [2, 1, 0] rfl ?_
  exact w_X4_latestGrowing_L5 E hrt hlk 100000 _ _ _ hh

/-! HummingDisc$Foretold.partingTicks(I)I -/
abbrev rm_X4_partingTicks : Room := { frames := 4, cells := 0, slots := 0, locals := 87 }
theorem i_X4_partingTicks_4 : ∀ w ∈ wsX40, w ∈ wsX4_partingTicks := fun _ h => List.mem_cons_of_mem _ (List.mem_append_left _ (List.mem_append_left _ (List.mem_append_left _ (List.mem_append_right _ (h)))))
theorem i_X4_partingTicks_8 : ∀ w ∈ wsX80, w ∈ wsX4_partingTicks := fun _ h => List.mem_cons_of_mem _ (List.mem_append_left _ (List.mem_append_left _ (List.mem_append_right _ (h))))
def s_X4_partingTicks_b49 (j9 : HS → Int32 → Int64 → Int32 → Option (Int32 × HS)) (h : Nat) (S : HS) (l1 : Int32) (l2 : Int64) (l4 : Int32) (k0 : Option Nat) (k1 : Int32) : Option (Int32 × HS) := kO S k0 8 (fun a2 => kcv (s_X8_tick S a2 k1 0) (fun S1 => kP S1 ((some h)) 4 0 (fun v3 => kI S1 v3 8 6 (fun v4 => kP S1 ((some h)) 4 0 (fun v5 => kI S1 v5 8 6 (fun v6 => if l2 + (v4.toInt64 * v6.toInt64) < 10 * l1.toInt64 then (j9 S1 l1 (l2 + (v4.toInt64 * v6.toInt64)) (l4 + 1)) else (some (l4, S1))))))))
set_option maxHeartbeats 4000000 in
set_option maxRecDepth 100000 in
theorem w_X4_partingTicks_b49 {p : Program} {l : Launch} {e : Env} {s : State} {m : MethodId} {args : Array Value} {below : List Frame} {meth : Method} {c : Code} {b0 : Nat} {G : hG} {S1 : HS} {r : Int32} {j9 : HS → Int32 → Int64 → Int32 → Option (Int32 × HS)} {h : Nat} {S : HS} {l1 : Int32} {l2 : Int64} {l4 : Int32} {k0 : Option Nat} {k1 : Int32} (E : hE p s m args c b0 G cX4_partingTicks RX4 5 wsX4_partingTicks) (hrt : meth.sig.returnType = (some .int)) (hlk : meth.locks = false) (hj9 : ∀ (S : HS) (l1 : Int32) (l2 : Int64) (l4 : Int32), j9 S l1 l2 l4 = some (r, S1) → WH p l e rm_X4_partingTicks s m args below meth c b0 G 5 0 0 (MQ below (hQ b0 G (some (.int r)) S1) args s 0 0 (hA b0)) S 9 [(0, hrf b0 ((some h))), (1, .int l1), (2, .long l2), (4, .int l4)] []) (hh : s_X4_partingTicks_b49 j9 h S l1 l2 l4 k0 k1 = some (r, S1)) : WH p l e rm_X4_partingTicks s m args below meth c b0 G 5 0 0 (MQ below (hQ b0 G (some (.int r)) S1) args s 0 0 (hA b0)) S 49 [(0, hrf b0 ((some h))), (1, .int l1), (2, .long l2), (4, .int l4)] [.int k1, hrf b0 k0] := by
  have hh : (kO S k0 8 (fun a2 => kcv (s_X8_tick S a2 k1 0) (fun S1 => kP S1 ((some h)) 4 0 (fun v3 => kI S1 v3 8 6 (fun v4 => kP S1 ((some h)) 4 0 (fun v5 => kI S1 v5 8 6 (fun v6 => if l2 + (v4.toInt64 * v6.toInt64) < 10 * l1.toInt64 then (j9 S1 l1 (l2 + (v4.toInt64 * v6.toInt64)) (l4 + 1)) else (some (l4, S1))))))))) = some (r, S1) := hh
  refine rw_iconst E (v := 0) (by decide) dX4_partingTicks_49 ?_
  refine rw_cVv E (As := [.int k1, .int 0]) hh (by decide) rfl (fun _ _ hq => c_X8_tick l b0 G _ _ _ _ _ hq) (cwV 2 E.2.2.2.2.1 gX4_partingTicks_X8_tick rfl rfl rfl (by decide +kernel) ⟨Nat.le_of_ble_eq_true rfl, Nat.le_of_ble_eq_true rfl⟩) rfl rfl (by (try simp only [List.map_cons, List.map_nil, List.sum_cons, List.sum_nil, hrf_cat, cat_i, cat_l, cat_r]) <;> decide) ⟨Nat.le_of_ble_eq_true rfl, Nat.le_of_ble_eq_true rfl⟩ dX4_partingTicks_50 (fun S1 hh => ?_)
  refine rw_lload_n E (j0 := 2) rfl rfl dX4_partingTicks_53 ?_
  refine rw_aload_n E (j0 := 0) rfl rfl dX4_partingTicks_54 ?_
  refine rw_getP E hh (C := RX4) (T := TX4) (N := 9) rfl (by decide) i_X4_partingTicks_4 (by decide) rfl (List.mem_of_getElem? (i := 1) (by decide +kernel)) rfl dX4_partingTicks_55 (fun v3 hh => ?_)
  refine rw_getI E hh (C := RX8) (T := TX8) (N := 12) rfl (by decide) i_X4_partingTicks_8 (by decide) rfl (List.mem_of_getElem? (i := 4) (by decide +kernel)) rfl dX4_partingTicks_58 (fun v4 hh => ?_)
  refine rw_i2l E dX4_partingTicks_61 ?_
  refine rw_aload_n E (j0 := 0) rfl rfl dX4_partingTicks_62 ?_
  refine rw_getP E hh (C := RX4) (T := TX4) (N := 9) rfl (by decide) i_X4_partingTicks_4 (by decide) rfl (List.mem_of_getElem? (i := 1) (by decide +kernel)) rfl dX4_partingTicks_63 (fun v5 hh => ?_)
  refine rw_getI E hh (C := RX8) (T := TX8) (N := 12) rfl (by decide) i_X4_partingTicks_8 (by decide) rfl (List.mem_of_getElem? (i := 4) (by decide +kernel)) rfl dX4_partingTicks_66 (fun v6 hh => ?_)
  refine rw_i2l E dX4_partingTicks_69 ?_
  refine rw_lmul E dX4_partingTicks_70 ?_
  refine rw_ladd E dX4_partingTicks_71 ?_
  refine rw_lstore_n E (lv2 := [(2, .long (l2 + (v4.toInt64 * v6.toInt64))), (0, hrf b0 ((some h))), (1, .int l1), (4, .int l4)]) rfl (by decide) rfl dX4_partingTicks_72 ?_
  refine rw_lload_n E (j0 := 0) rfl rfl dX4_partingTicks_73 ?_
  refine rw_ldc2 E (v := 10) (List.mem_of_getElem? (i := 5) (by decide +kernel)) dX4_partingTicks_74 ?_
  refine rw_iload_n E (j0 := 2) rfl rfl dX4_partingTicks_77 ?_
  refine rw_i2l E dX4_partingTicks_78 ?_
  refine rw_lmul E dX4_partingTicks_79 ?_
  refine rw_llt E hh (tgt := 87) (by decide) dX4_partingTicks_80 dX4_partingTicks_81 (fun hh => ?_) (fun hh => ?_)
  · refine rw_iinc E (v := l4 + 1) (lv2 := [(4, .int (l4 + 1)), (2, .long (l2 + (v4.toInt64 * v6.toInt64))), (0, hrf b0 ((some h))), (1, .int l1)]) (j0 := 3) rfl rfl (by decide) rfl dX4_partingTicks_87 ?_
    refine rw_goto E (tgt := 9) (by decide) dX4_partingTicks_90 ?_
    refine WH.pick [2, 3, 1, 0] rfl ?_
    exact hj9 _ _ _ _ hh
  · refine rw_iload E (j0 := 3) rfl dX4_partingTicks_84 ?_
    exact rw_iret E hrt hlk hh (by decide) (by decide) dX4_partingTicks_86
def s_X4_partingTicks_b9 (j9 : HS → Int32 → Int64 → Int32 → Option (Int32 × HS)) (h : Nat) (S : HS) (l1 : Int32) (l2 : Int64) (l4 : Int32) : Option (Int32 × HS) := if 500 < l4 then (some ((-1000000), S)) else (kP S ((some h)) 4 0 (fun v1 => kI S v1 8 11 (fun v2 => if v2 = 0 then (kP S ((some h)) 4 0 (fun v3 => kP S ((some h)) 4 0 (fun v4 => kO S v4 8 (fun a7 => kc (s_X8_unwinds S a7 ) (fun v6 S5 => if v6 = 0 then (s_X4_partingTicks_b49 j9 h S5 l1 l2 l4 v3 0) else (kI S5 ((some h)) 4 6 (fun v8 => s_X4_partingTicks_b49 j9 h S5 l1 l2 l4 v3 v8))))))) else (some ((-1000000), S)))))
set_option maxHeartbeats 4000000 in
set_option maxRecDepth 100000 in
theorem w_X4_partingTicks_b9 {p : Program} {l : Launch} {e : Env} {s : State} {m : MethodId} {args : Array Value} {below : List Frame} {meth : Method} {c : Code} {b0 : Nat} {G : hG} {S1 : HS} {r : Int32} {j9 : HS → Int32 → Int64 → Int32 → Option (Int32 × HS)} {h : Nat} {S : HS} {l1 : Int32} {l2 : Int64} {l4 : Int32} (E : hE p s m args c b0 G cX4_partingTicks RX4 5 wsX4_partingTicks) (hrt : meth.sig.returnType = (some .int)) (hlk : meth.locks = false) (hj9 : ∀ (S : HS) (l1 : Int32) (l2 : Int64) (l4 : Int32), j9 S l1 l2 l4 = some (r, S1) → WH p l e rm_X4_partingTicks s m args below meth c b0 G 5 0 0 (MQ below (hQ b0 G (some (.int r)) S1) args s 0 0 (hA b0)) S 9 [(0, hrf b0 ((some h))), (1, .int l1), (2, .long l2), (4, .int l4)] []) (hh : s_X4_partingTicks_b9 j9 h S l1 l2 l4 = some (r, S1)) : WH p l e rm_X4_partingTicks s m args below meth c b0 G 5 0 0 (MQ below (hQ b0 G (some (.int r)) S1) args s 0 0 (hA b0)) S 9 [(0, hrf b0 ((some h))), (1, .int l1), (2, .long l2), (4, .int l4)] [] := by
  have hh : (if 500 < l4 then (some ((-1000000), S)) else (kP S ((some h)) 4 0 (fun v1 => kI S v1 8 11 (fun v2 => if v2 = 0 then (kP S ((some h)) 4 0 (fun v3 => kP S ((some h)) 4 0 (fun v4 => kO S v4 8 (fun a7 => kc (s_X8_unwinds S a7 ) (fun v6 S5 => if v6 = 0 then (s_X4_partingTicks_b49 j9 h S5 l1 l2 l4 v3 0) else (kI S5 ((some h)) 4 6 (fun v8 => s_X4_partingTicks_b49 j9 h S5 l1 l2 l4 v3 v8))))))) else (some ((-1000000), S)))))) = some (r, S1) := hh
  refine rw_iload E (j0 := 3) rfl dX4_partingTicks_9 ?_
  refine rw_sipush E (v := 500) (by decide) dX4_partingTicks_11 ?_
  refine rw_icmp_gt E hh (tgt := 93) (by decide) dX4_partingTicks_14 (fun hh => ?_) (fun hh => ?_)
  · refine rw_ldc E (v := (-1000000)) (List.mem_of_getElem? (i := 6) (by decide +kernel)) dX4_partingTicks_93 ?_
    exact rw_iret E hrt hlk hh (by decide) (by decide) dX4_partingTicks_95
  · refine rw_aload_n E (j0 := 0) rfl rfl dX4_partingTicks_17 ?_
    refine rw_getP E hh (C := RX4) (T := TX4) (N := 9) rfl (by decide) i_X4_partingTicks_4 (by decide) rfl (List.mem_of_getElem? (i := 1) (by decide +kernel)) rfl dX4_partingTicks_18 (fun v1 hh => ?_)
    refine rw_getI E hh (C := RX8) (T := TX8) (N := 12) rfl (by decide) i_X4_partingTicks_8 (by decide) rfl (List.mem_of_getElem? (i := 2) (by decide +kernel)) rfl dX4_partingTicks_21 (fun v2 hh => ?_)
    refine rw_if_ne E hh (tgt := 93) (by decide) dX4_partingTicks_24 (fun hh => ?_) (fun hh => ?_)
    · refine rw_ldc E (v := (-1000000)) (List.mem_of_getElem? (i := 6) (by decide +kernel)) dX4_partingTicks_93 ?_
      exact rw_iret E hrt hlk hh (by decide) (by decide) dX4_partingTicks_95
    · refine rw_aload_n E (j0 := 0) rfl rfl dX4_partingTicks_27 ?_
      refine rw_getP E hh (C := RX4) (T := TX4) (N := 9) rfl (by decide) i_X4_partingTicks_4 (by decide) rfl (List.mem_of_getElem? (i := 1) (by decide +kernel)) rfl dX4_partingTicks_28 (fun v3 hh => ?_)
      refine rw_aload_n E (j0 := 0) rfl rfl dX4_partingTicks_31 ?_
      refine rw_getP E hh (C := RX4) (T := TX4) (N := 9) rfl (by decide) i_X4_partingTicks_4 (by decide) rfl (List.mem_of_getElem? (i := 1) (by decide +kernel)) rfl dX4_partingTicks_32 (fun v4 hh => ?_)
      refine rw_cVi E (As := []) hh (by decide) rfl (fun _ _ _ hq => c_X8_unwinds l b0 G _ _ _ _ hq) (cwV 0 E.2.2.2.2.1 gX4_partingTicks_X8_unwinds rfl rfl rfl (by decide +kernel) ⟨Nat.le_of_ble_eq_true rfl, Nat.le_of_ble_eq_true rfl⟩) rfl rfl (by (try simp only [List.map_cons, List.map_nil, List.sum_cons, List.sum_nil, hrf_cat, cat_i, cat_l, cat_r]) <;> decide) ⟨Nat.le_of_ble_eq_true rfl, Nat.le_of_ble_eq_true rfl⟩ dX4_partingTicks_35 (fun v6 S5 hh => ?_)
      refine rw_if_eq E hh (tgt := 48) (by decide) dX4_partingTicks_38 (fun hh => ?_) (fun hh => ?_)
      · refine rw_iconst E (v := 0) (by decide) dX4_partingTicks_48 ?_
        refine WH.pick [0, 1, 2, 3] rfl ?_
        exact w_X4_partingTicks_b49 E hrt hlk hj9 hh
      · refine rw_aload_n E (j0 := 0) rfl rfl dX4_partingTicks_41 ?_
        refine rw_getI E hh (C := RX4) (T := TX4) (N := 9) rfl (by decide) i_X4_partingTicks_4 (by decide) rfl (List.mem_of_getElem? (i := 3) (by decide +kernel)) rfl dX4_partingTicks_42 (fun v8 hh => ?_)
        refine rw_goto E (tgt := 49) (by decide) dX4_partingTicks_45 ?_
        refine WH.pick [0, 1, 2, 3] rfl ?_
        exact w_X4_partingTicks_b49 E hrt hlk hj9 hh
def s_X4_partingTicks_L9 (h : Nat) : Nat → HS → Int32 → Int64 → Int32 → Option (Int32 × HS)
  | 0 => fun _ _ _ _ => none
  | n + 1 => s_X4_partingTicks_b9 (s_X4_partingTicks_L9 h n) h
set_option maxHeartbeats 4000000 in
set_option maxRecDepth 100000 in
theorem w_X4_partingTicks_L9 {p : Program} {l : Launch} {e : Env} {s : State} {m : MethodId} {args : Array Value} {below : List Frame} {meth : Method} {c : Code} {b0 : Nat} {G : hG} {S1 : HS} {r : Int32} {h : Nat} (E : hE p s m args c b0 G cX4_partingTicks RX4 5 wsX4_partingTicks) (hrt : meth.sig.returnType = (some .int)) (hlk : meth.locks = false) : ∀ (n : Nat) (S : HS) (l1 : Int32) (l2 : Int64) (l4 : Int32), s_X4_partingTicks_L9 h n S l1 l2 l4 = some (r, S1) → WH p l e rm_X4_partingTicks s m args below meth c b0 G 5 0 0 (MQ below (hQ b0 G (some (.int r)) S1) args s 0 0 (hA b0)) S 9 [(0, hrf b0 ((some h))), (1, .int l1), (2, .long l2), (4, .int l4)] [] := by
  intro n
  induction n with
  | zero => intro _ _ _ _ hh; exact absurd hh (by simp [s_X4_partingTicks_L9])
  | succ n ih => intro _ _ _ _ hh; exact w_X4_partingTicks_b9 E hrt hlk  ih hh
def s_X4_partingTicks (S : HS) (h : Nat) (l1 : Int32) : Option (Int32 × HS) := kO S ((some h)) 4 (fun a2 => kcv (s_X4_start S a2 ) (fun S1 => s_X4_partingTicks_L9 h 100000 S1 l1 0 1))
set_option maxHeartbeats 4000000 in
set_option maxRecDepth 100000 in
theorem c_X4_partingTicks (l : Launch) (b0 : Nat) (G : hG) (S S1 : HS) (h : Nat) (l1 : Int32) (r : Int32) (hh : s_X4_partingTicks S h l1 = some (r, S1)) : MH l yX4_partingTicks wsX4_partingTicks rm_X4_partingTicks b0 G S [hrf b0 (some h), .int l1] (some (.int r)) S1 0 0 := by
  refine MH.ofW (cc := cX4_partingTicks) (maxL := 5) (ret := (some .int)) (own := RX4) (lv0 := [(0, hrf b0 ((some h))), (1, .int l1)]) (by decide) rfl rfl (Nat.le_of_ble_eq_true rfl) rfl ?_
  intro p e s m args below meth c E hrt hlk hnm
  have hh : (kO S ((some h)) 4 (fun a2 => kcv (s_X4_start S a2 ) (fun S1 => s_X4_partingTicks_L9 h 100000 S1 l1 0 1))) = some (r, S1) := hh
  refine rw_lconst E (v := 0) (by decide) dX4_partingTicks_0 ?_
  refine rw_lstore_n E (lv2 := [(2, .long 0), (0, hrf b0 ((some h))), (1, .int l1)]) rfl (by decide) rfl dX4_partingTicks_1 ?_
  refine rw_aload_n E (j0 := 1) rfl rfl dX4_partingTicks_2 ?_
  refine rw_cVv E (As := []) hh (by decide) rfl (fun _ _ hq => c_X4_start l b0 G _ _ _ hq) (cwV 0 E.2.2.2.2.1 gX4_partingTicks_X4_start rfl rfl rfl (by decide +kernel) ⟨Nat.le_of_ble_eq_true rfl, Nat.le_of_ble_eq_true rfl⟩) rfl rfl (by (try simp only [List.map_cons, List.map_nil, List.sum_cons, List.sum_nil, hrf_cat, cat_i, cat_l, cat_r]) <;> decide) ⟨Nat.le_of_ble_eq_true rfl, Nat.le_of_ble_eq_true rfl⟩ dX4_partingTicks_3 (fun S1 hh => ?_)
  refine rw_iconst E (v := 1) (by decide) dX4_partingTicks_6 ?_
  refine rw_istore E (lv2 := [(4, .int 1), (2, .long 0), (0, hrf b0 ((some h))), (1, .int l1)]) (by decide) rfl dX4_partingTicks_7 ?_
  refine WH.pick [2, 3, 1, 0] rfl ?_
  exact w_X4_partingTicks_L9 E hrt hlk 100000 _ _ _ _ hh

/-! HummingDisc$Foretold.goesThroughWith(I)Z -/
abbrev rm_X4_goesThroughWith : Room := { frames := 4, cells := 0, slots := 0, locals := 87 }
theorem i_X4_goesThroughWith_4 : ∀ w ∈ wsX40, w ∈ wsX4_goesThroughWith := fun _ h => List.mem_cons_of_mem _ (List.mem_append_left _ (List.mem_append_left _ (List.mem_append_left _ (List.mem_append_right _ (h)))))
theorem i_X4_goesThroughWith_8 : ∀ w ∈ wsX80, w ∈ wsX4_goesThroughWith := fun _ h => List.mem_cons_of_mem _ (List.mem_append_left _ (List.mem_append_left _ (List.mem_append_right _ (h))))
def s_X4_goesThroughWith_b57 (j6 : HS → Int32 → Int32 → Option (Int32 × HS)) (h : Nat) (S : HS) (l1 : Int32) (l2 : Int32) (k0 : Option Nat) (k1 : Int32) : Option (Int32 × HS) := kO S k0 8 (fun a2 => kcv (s_X8_tick S a2 k1 l1) (fun S1 => j6 S1 l1 (l2 + 1)))
set_option maxHeartbeats 4000000 in
set_option maxRecDepth 100000 in
theorem w_X4_goesThroughWith_b57 {p : Program} {l : Launch} {e : Env} {s : State} {m : MethodId} {args : Array Value} {below : List Frame} {meth : Method} {c : Code} {b0 : Nat} {G : hG} {S1 : HS} {r : Int32} {j6 : HS → Int32 → Int32 → Option (Int32 × HS)} {h : Nat} {S : HS} {l1 : Int32} {l2 : Int32} {k0 : Option Nat} {k1 : Int32} (E : hE p s m args c b0 G cX4_goesThroughWith RX4 3 wsX4_goesThroughWith) (hrt : meth.sig.returnType = (some .boolean)) (hlk : meth.locks = false) (hj6 : ∀ (S : HS) (l1 : Int32) (l2 : Int32), j6 S l1 l2 = some (r, S1) → WH p l e rm_X4_goesThroughWith s m args below meth c b0 G 3 0 0 (MQ below (hQ b0 G (some (.int r)) S1) args s 0 0 (hA b0)) S 6 [(0, hrf b0 ((some h))), (1, .int l1), (2, .int l2)] []) (hh : s_X4_goesThroughWith_b57 j6 h S l1 l2 k0 k1 = some (r, S1)) : WH p l e rm_X4_goesThroughWith s m args below meth c b0 G 3 0 0 (MQ below (hQ b0 G (some (.int r)) S1) args s 0 0 (hA b0)) S 57 [(0, hrf b0 ((some h))), (1, .int l1), (2, .int l2)] [.int k1, hrf b0 k0] := by
  have hh : (kO S k0 8 (fun a2 => kcv (s_X8_tick S a2 k1 l1) (fun S1 => j6 S1 l1 (l2 + 1)))) = some (r, S1) := hh
  refine rw_iload_n E (j0 := 1) rfl rfl dX4_goesThroughWith_57 ?_
  refine rw_cVv E (As := [.int k1, .int l1]) hh (by decide) rfl (fun _ _ hq => c_X8_tick l b0 G _ _ _ _ _ hq) (cwV 2 E.2.2.2.2.1 gX4_goesThroughWith_X8_tick rfl rfl rfl (by decide +kernel) ⟨Nat.le_of_ble_eq_true rfl, Nat.le_of_ble_eq_true rfl⟩) rfl rfl (by (try simp only [List.map_cons, List.map_nil, List.sum_cons, List.sum_nil, hrf_cat, cat_i, cat_l, cat_r]) <;> decide) ⟨Nat.le_of_ble_eq_true rfl, Nat.le_of_ble_eq_true rfl⟩ dX4_goesThroughWith_58 (fun S1 hh => ?_)
  refine rw_iinc E (v := l2 + 1) (lv2 := [(2, .int (l2 + 1)), (0, hrf b0 ((some h))), (1, .int l1)]) (j0 := 2) rfl rfl (by decide) rfl dX4_goesThroughWith_61 ?_
  refine rw_goto E (tgt := 6) (by decide) dX4_goesThroughWith_64 ?_
  refine WH.pick [1, 2, 0] rfl ?_
  exact hj6 _ _ _ hh
def s_X4_goesThroughWith_b67 (h : Nat) (S : HS) : Option (Int32 × HS) := kP S ((some h)) 4 0 (fun v1 => kI S v1 8 10 (fun v2 => if v2 < 3 then (kzr 0 S) else (kzr 1 S)))
set_option maxHeartbeats 4000000 in
set_option maxRecDepth 100000 in
theorem w_X4_goesThroughWith_b67 {p : Program} {l : Launch} {e : Env} {s : State} {m : MethodId} {args : Array Value} {below : List Frame} {meth : Method} {c : Code} {b0 : Nat} {G : hG} {S1 : HS} {r : Int32} {h : Nat} {S : HS} (E : hE p s m args c b0 G cX4_goesThroughWith RX4 3 wsX4_goesThroughWith) (hrt : meth.sig.returnType = (some .boolean)) (hlk : meth.locks = false) (hh : s_X4_goesThroughWith_b67 h S = some (r, S1)) : WH p l e rm_X4_goesThroughWith s m args below meth c b0 G 3 0 0 (MQ below (hQ b0 G (some (.int r)) S1) args s 0 0 (hA b0)) S 67 [(0, hrf b0 ((some h)))] [] := by
  have hh : (kP S ((some h)) 4 0 (fun v1 => kI S v1 8 10 (fun v2 => if v2 < 3 then (kzr 0 S) else (kzr 1 S)))) = some (r, S1) := hh
  refine rw_aload_n E (j0 := 0) rfl rfl dX4_goesThroughWith_67 ?_
  refine rw_getP E hh (C := RX4) (T := TX4) (N := 9) rfl (by decide) i_X4_goesThroughWith_4 (by decide) rfl (List.mem_of_getElem? (i := 2) (by decide +kernel)) rfl dX4_goesThroughWith_68 (fun v1 hh => ?_)
  refine rw_getI E hh (C := RX8) (T := TX8) (N := 12) rfl (by decide) i_X4_goesThroughWith_8 (by decide) rfl (List.mem_of_getElem? (i := 4) (by decide +kernel)) rfl dX4_goesThroughWith_71 (fun v2 hh => ?_)
  refine rw_iconst E (v := 3) (by decide) dX4_goesThroughWith_74 ?_
  refine rw_icmp_lt E hh (tgt := 82) (by decide) dX4_goesThroughWith_75 (fun hh => ?_) (fun hh => ?_)
  · refine rw_iconst E (v := 0) (by decide) dX4_goesThroughWith_82 ?_
    exact rw_zret E hrt hlk hh (by decide) (by decide) dX4_goesThroughWith_83
  · refine rw_iconst E (v := 1) (by decide) dX4_goesThroughWith_78 ?_
    refine rw_goto E (tgt := 83) (by decide) dX4_goesThroughWith_79 ?_
    exact rw_zret E hrt hlk hh (by decide) (by decide) dX4_goesThroughWith_83
def s_X4_goesThroughWith_b6 (j6 : HS → Int32 → Int32 → Option (Int32 × HS)) (h : Nat) (S : HS) (l1 : Int32) (l2 : Int32) : Option (Int32 × HS) := kI S ((some h)) 4 7 (fun v1 => if v1 ≤ l2 then (s_X4_goesThroughWith_b67 h S) else (kP S ((some h)) 4 0 (fun v2 => kI S v2 8 11 (fun v3 => if v3 = 0 then (kP S ((some h)) 4 0 (fun v4 => kI S v4 8 10 (fun v5 => if 3 ≤ v5 then (s_X4_goesThroughWith_b67 h S) else (kP S ((some h)) 4 0 (fun v6 => kP S ((some h)) 4 0 (fun v7 => kO S v7 8 (fun a10 => kc (s_X8_unwinds S a10 ) (fun v9 S8 => if v9 = 0 then (s_X4_goesThroughWith_b57 j6 h S8 l1 l2 v6 0) else (kI S8 ((some h)) 4 6 (fun v11 => s_X4_goesThroughWith_b57 j6 h S8 l1 l2 v6 v11)))))))))) else (s_X4_goesThroughWith_b67 h S)))))
set_option maxHeartbeats 4000000 in
set_option maxRecDepth 100000 in
theorem w_X4_goesThroughWith_b6 {p : Program} {l : Launch} {e : Env} {s : State} {m : MethodId} {args : Array Value} {below : List Frame} {meth : Method} {c : Code} {b0 : Nat} {G : hG} {S1 : HS} {r : Int32} {j6 : HS → Int32 → Int32 → Option (Int32 × HS)} {h : Nat} {S : HS} {l1 : Int32} {l2 : Int32} (E : hE p s m args c b0 G cX4_goesThroughWith RX4 3 wsX4_goesThroughWith) (hrt : meth.sig.returnType = (some .boolean)) (hlk : meth.locks = false) (hj6 : ∀ (S : HS) (l1 : Int32) (l2 : Int32), j6 S l1 l2 = some (r, S1) → WH p l e rm_X4_goesThroughWith s m args below meth c b0 G 3 0 0 (MQ below (hQ b0 G (some (.int r)) S1) args s 0 0 (hA b0)) S 6 [(0, hrf b0 ((some h))), (1, .int l1), (2, .int l2)] []) (hh : s_X4_goesThroughWith_b6 j6 h S l1 l2 = some (r, S1)) : WH p l e rm_X4_goesThroughWith s m args below meth c b0 G 3 0 0 (MQ below (hQ b0 G (some (.int r)) S1) args s 0 0 (hA b0)) S 6 [(0, hrf b0 ((some h))), (1, .int l1), (2, .int l2)] [] := by
  have hh : (kI S ((some h)) 4 7 (fun v1 => if v1 ≤ l2 then (s_X4_goesThroughWith_b67 h S) else (kP S ((some h)) 4 0 (fun v2 => kI S v2 8 11 (fun v3 => if v3 = 0 then (kP S ((some h)) 4 0 (fun v4 => kI S v4 8 10 (fun v5 => if 3 ≤ v5 then (s_X4_goesThroughWith_b67 h S) else (kP S ((some h)) 4 0 (fun v6 => kP S ((some h)) 4 0 (fun v7 => kO S v7 8 (fun a10 => kc (s_X8_unwinds S a10 ) (fun v9 S8 => if v9 = 0 then (s_X4_goesThroughWith_b57 j6 h S8 l1 l2 v6 0) else (kI S8 ((some h)) 4 6 (fun v11 => s_X4_goesThroughWith_b57 j6 h S8 l1 l2 v6 v11)))))))))) else (s_X4_goesThroughWith_b67 h S)))))) = some (r, S1) := hh
  refine rw_iload_n E (j0 := 2) rfl rfl dX4_goesThroughWith_6 ?_
  refine rw_aload_n E (j0 := 0) rfl rfl dX4_goesThroughWith_7 ?_
  refine rw_getI E hh (C := RX4) (T := TX4) (N := 9) rfl (by decide) i_X4_goesThroughWith_4 (by decide) rfl (List.mem_of_getElem? (i := 1) (by decide +kernel)) rfl dX4_goesThroughWith_8 (fun v1 hh => ?_)
  refine rw_icmp_ge E hh (tgt := 67) (by decide) dX4_goesThroughWith_11 (fun hh => ?_) (fun hh => ?_)
  · refine WH.pick [0] rfl ?_
    exact w_X4_goesThroughWith_b67 E hrt hlk hh
  · refine rw_aload_n E (j0 := 0) rfl rfl dX4_goesThroughWith_14 ?_
    refine rw_getP E hh (C := RX4) (T := TX4) (N := 9) rfl (by decide) i_X4_goesThroughWith_4 (by decide) rfl (List.mem_of_getElem? (i := 2) (by decide +kernel)) rfl dX4_goesThroughWith_15 (fun v2 hh => ?_)
    refine rw_getI E hh (C := RX8) (T := TX8) (N := 12) rfl (by decide) i_X4_goesThroughWith_8 (by decide) rfl (List.mem_of_getElem? (i := 3) (by decide +kernel)) rfl dX4_goesThroughWith_18 (fun v3 hh => ?_)
    refine rw_if_ne E hh (tgt := 67) (by decide) dX4_goesThroughWith_21 (fun hh => ?_) (fun hh => ?_)
    · refine WH.pick [0] rfl ?_
      exact w_X4_goesThroughWith_b67 E hrt hlk hh
    · refine rw_aload_n E (j0 := 0) rfl rfl dX4_goesThroughWith_24 ?_
      refine rw_getP E hh (C := RX4) (T := TX4) (N := 9) rfl (by decide) i_X4_goesThroughWith_4 (by decide) rfl (List.mem_of_getElem? (i := 2) (by decide +kernel)) rfl dX4_goesThroughWith_25 (fun v4 hh => ?_)
      refine rw_getI E hh (C := RX8) (T := TX8) (N := 12) rfl (by decide) i_X4_goesThroughWith_8 (by decide) rfl (List.mem_of_getElem? (i := 4) (by decide +kernel)) rfl dX4_goesThroughWith_28 (fun v5 hh => ?_)
      refine rw_iconst E (v := 3) (by decide) dX4_goesThroughWith_31 ?_
      refine rw_icmp_ge E hh (tgt := 67) (by decide) dX4_goesThroughWith_32 (fun hh => ?_) (fun hh => ?_)
      · refine WH.pick [0] rfl ?_
        exact w_X4_goesThroughWith_b67 E hrt hlk hh
      · refine rw_aload_n E (j0 := 0) rfl rfl dX4_goesThroughWith_35 ?_
        refine rw_getP E hh (C := RX4) (T := TX4) (N := 9) rfl (by decide) i_X4_goesThroughWith_4 (by decide) rfl (List.mem_of_getElem? (i := 2) (by decide +kernel)) rfl dX4_goesThroughWith_36 (fun v6 hh => ?_)
        refine rw_aload_n E (j0 := 0) rfl rfl dX4_goesThroughWith_39 ?_
        refine rw_getP E hh (C := RX4) (T := TX4) (N := 9) rfl (by decide) i_X4_goesThroughWith_4 (by decide) rfl (List.mem_of_getElem? (i := 2) (by decide +kernel)) rfl dX4_goesThroughWith_40 (fun v7 hh => ?_)
        refine rw_cVi E (As := []) hh (by decide) rfl (fun _ _ _ hq => c_X8_unwinds l b0 G _ _ _ _ hq) (cwV 0 E.2.2.2.2.1 gX4_goesThroughWith_X8_unwinds rfl rfl rfl (by decide +kernel) ⟨Nat.le_of_ble_eq_true rfl, Nat.le_of_ble_eq_true rfl⟩) rfl rfl (by (try simp only [List.map_cons, List.map_nil, List.sum_cons, List.sum_nil, hrf_cat, cat_i, cat_l, cat_r]) <;> decide) ⟨Nat.le_of_ble_eq_true rfl, Nat.le_of_ble_eq_true rfl⟩ dX4_goesThroughWith_43 (fun v9 S8 hh => ?_)
        refine rw_if_eq E hh (tgt := 56) (by decide) dX4_goesThroughWith_46 (fun hh => ?_) (fun hh => ?_)
        · refine rw_iconst E (v := 0) (by decide) dX4_goesThroughWith_56 ?_
          refine WH.pick [0, 1, 2] rfl ?_
          exact w_X4_goesThroughWith_b57 E hrt hlk hj6 hh
        · refine rw_aload_n E (j0 := 0) rfl rfl dX4_goesThroughWith_49 ?_
          refine rw_getI E hh (C := RX4) (T := TX4) (N := 9) rfl (by decide) i_X4_goesThroughWith_4 (by decide) rfl (List.mem_of_getElem? (i := 5) (by decide +kernel)) rfl dX4_goesThroughWith_50 (fun v11 hh => ?_)
          refine rw_goto E (tgt := 57) (by decide) dX4_goesThroughWith_53 ?_
          refine WH.pick [0, 1, 2] rfl ?_
          exact w_X4_goesThroughWith_b57 E hrt hlk hj6 hh
def s_X4_goesThroughWith_L6 (h : Nat) : Nat → HS → Int32 → Int32 → Option (Int32 × HS)
  | 0 => fun _ _ _ => none
  | n + 1 => s_X4_goesThroughWith_b6 (s_X4_goesThroughWith_L6 h n) h
set_option maxHeartbeats 4000000 in
set_option maxRecDepth 100000 in
theorem w_X4_goesThroughWith_L6 {p : Program} {l : Launch} {e : Env} {s : State} {m : MethodId} {args : Array Value} {below : List Frame} {meth : Method} {c : Code} {b0 : Nat} {G : hG} {S1 : HS} {r : Int32} {h : Nat} (E : hE p s m args c b0 G cX4_goesThroughWith RX4 3 wsX4_goesThroughWith) (hrt : meth.sig.returnType = (some .boolean)) (hlk : meth.locks = false) : ∀ (n : Nat) (S : HS) (l1 : Int32) (l2 : Int32), s_X4_goesThroughWith_L6 h n S l1 l2 = some (r, S1) → WH p l e rm_X4_goesThroughWith s m args below meth c b0 G 3 0 0 (MQ below (hQ b0 G (some (.int r)) S1) args s 0 0 (hA b0)) S 6 [(0, hrf b0 ((some h))), (1, .int l1), (2, .int l2)] [] := by
  intro n
  induction n with
  | zero => intro _ _ _ hh; exact absurd hh (by simp [s_X4_goesThroughWith_L6])
  | succ n ih => intro _ _ _ hh; exact w_X4_goesThroughWith_b6 E hrt hlk  ih hh
def s_X4_goesThroughWith (S : HS) (h : Nat) (l1 : Int32) : Option (Int32 × HS) := kO S ((some h)) 4 (fun a2 => kcv (s_X4_start S a2 ) (fun S1 => s_X4_goesThroughWith_L6 h 100000 S1 l1 0))
set_option maxHeartbeats 4000000 in
set_option maxRecDepth 100000 in
theorem c_X4_goesThroughWith (l : Launch) (b0 : Nat) (G : hG) (S S1 : HS) (h : Nat) (l1 : Int32) (r : Int32) (hh : s_X4_goesThroughWith S h l1 = some (r, S1)) : MH l yX4_goesThroughWith wsX4_goesThroughWith rm_X4_goesThroughWith b0 G S [hrf b0 (some h), .int l1] (some (.int r)) S1 0 0 := by
  refine MH.ofW (cc := cX4_goesThroughWith) (maxL := 3) (ret := (some .boolean)) (own := RX4) (lv0 := [(0, hrf b0 ((some h))), (1, .int l1)]) (by decide) rfl rfl (Nat.le_of_ble_eq_true rfl) rfl ?_
  intro p e s m args below meth c E hrt hlk hnm
  have hh : (kO S ((some h)) 4 (fun a2 => kcv (s_X4_start S a2 ) (fun S1 => s_X4_goesThroughWith_L6 h 100000 S1 l1 0))) = some (r, S1) := hh
  refine rw_aload_n E (j0 := 0) rfl rfl dX4_goesThroughWith_0 ?_
  refine rw_cVv E (As := []) hh (by decide) rfl (fun _ _ hq => c_X4_start l b0 G _ _ _ hq) (cwV 0 E.2.2.2.2.1 gX4_goesThroughWith_X4_start rfl rfl rfl (by decide +kernel) ⟨Nat.le_of_ble_eq_true rfl, Nat.le_of_ble_eq_true rfl⟩) rfl rfl (by (try simp only [List.map_cons, List.map_nil, List.sum_cons, List.sum_nil, hrf_cat, cat_i, cat_l, cat_r]) <;> decide) ⟨Nat.le_of_ble_eq_true rfl, Nat.le_of_ble_eq_true rfl⟩ dX4_goesThroughWith_1 (fun S1 hh => ?_)
  refine rw_iconst E (v := 0) (by decide) dX4_goesThroughWith_4 ?_
  refine rw_istore_n E (lv2 := [(2, .int 0), (0, hrf b0 ((some h))), (1, .int l1)]) rfl (by decide) rfl dX4_goesThroughWith_5 ?_
  refine WH.pick [1, 2, 0] rfl ?_
  exact w_X4_goesThroughWith_L6 E hrt hlk 100000 _ _ _ hh

/-! HummingDisc$Foretold.greatestLamp()I -/
abbrev rm_X4_greatestLamp : Room := { frames := 5, cells := 0, slots := 0, locals := 109 }
def s_X4_greatestLamp_b3 (j3 : HS → Int32 → Option (Int32 × HS)) (h : Nat) (S : HS) (l1 : Int32) : Option (Int32 × HS) := if l1 < 0 then (some ((-1000000), S)) else (kO S ((some h)) 4 (fun a3 => kc (s_X4_goesThroughWith S a3 l1) (fun v2 S1 => if v2 = 0 then (j3 S1 (l1 + (-1))) else (some (l1, S1)))))
set_option maxHeartbeats 4000000 in
set_option maxRecDepth 100000 in
theorem w_X4_greatestLamp_b3 {p : Program} {l : Launch} {e : Env} {s : State} {m : MethodId} {args : Array Value} {below : List Frame} {meth : Method} {c : Code} {b0 : Nat} {G : hG} {S1 : HS} {r : Int32} {j3 : HS → Int32 → Option (Int32 × HS)} {h : Nat} {S : HS} {l1 : Int32} (E : hE p s m args c b0 G cX4_greatestLamp RX4 2 wsX4_greatestLamp) (hrt : meth.sig.returnType = (some .int)) (hlk : meth.locks = false) (hj3 : ∀ (S : HS) (l1 : Int32), j3 S l1 = some (r, S1) → WH p l e rm_X4_greatestLamp s m args below meth c b0 G 2 0 0 (MQ below (hQ b0 G (some (.int r)) S1) args s 0 0 (hA b0)) S 3 [(0, hrf b0 ((some h))), (1, .int l1)] []) (hh : s_X4_greatestLamp_b3 j3 h S l1 = some (r, S1)) : WH p l e rm_X4_greatestLamp s m args below meth c b0 G 2 0 0 (MQ below (hQ b0 G (some (.int r)) S1) args s 0 0 (hA b0)) S 3 [(0, hrf b0 ((some h))), (1, .int l1)] [] := by
  have hh : (if l1 < 0 then (some ((-1000000), S)) else (kO S ((some h)) 4 (fun a3 => kc (s_X4_goesThroughWith S a3 l1) (fun v2 S1 => if v2 = 0 then (j3 S1 (l1 + (-1))) else (some (l1, S1)))))) = some (r, S1) := hh
  refine rw_iload_n E (j0 := 1) rfl rfl dX4_greatestLamp_3 ?_
  refine rw_if_lt E hh (tgt := 23) (by decide) dX4_greatestLamp_4 (fun hh => ?_) (fun hh => ?_)
  · refine rw_ldc E (v := (-1000000)) (List.mem_of_getElem? (i := 1) (by decide +kernel)) dX4_greatestLamp_23 ?_
    exact rw_iret E hrt hlk hh (by decide) (by decide) dX4_greatestLamp_25
  · refine rw_aload_n E (j0 := 0) rfl rfl dX4_greatestLamp_7 ?_
    refine rw_iload_n E (j0 := 1) rfl rfl dX4_greatestLamp_8 ?_
    refine rw_cVi E (As := [.int l1]) hh (by decide) rfl (fun _ _ _ hq => c_X4_goesThroughWith l b0 G _ _ _ _ _ hq) (cwV 1 E.2.2.2.2.1 gX4_greatestLamp_X4_goesThroughWith rfl rfl rfl (by decide +kernel) ⟨Nat.le_of_ble_eq_true rfl, Nat.le_of_ble_eq_true rfl⟩) rfl rfl (by (try simp only [List.map_cons, List.map_nil, List.sum_cons, List.sum_nil, hrf_cat, cat_i, cat_l, cat_r]) <;> decide) ⟨Nat.le_of_ble_eq_true rfl, Nat.le_of_ble_eq_true rfl⟩ dX4_greatestLamp_9 (fun v2 S1 hh => ?_)
    refine rw_if_eq E hh (tgt := 17) (by decide) dX4_greatestLamp_12 (fun hh => ?_) (fun hh => ?_)
    · refine rw_iinc E (v := l1 + (-1)) (lv2 := [(1, .int (l1 + (-1))), (0, hrf b0 ((some h)))]) (j0 := 1) rfl (congrArg (fun z => l1 + z) (show Int32.ofInt (-1) = (-1) by decide)) (by decide) rfl dX4_greatestLamp_17 ?_
      refine rw_goto E (tgt := 3) (by decide) dX4_greatestLamp_20 ?_
      refine WH.pick [1, 0] rfl ?_
      exact hj3 _ _ hh
    · refine rw_iload_n E (j0 := 1) rfl rfl dX4_greatestLamp_15 ?_
      exact rw_iret E hrt hlk hh (by decide) (by decide) dX4_greatestLamp_16
def s_X4_greatestLamp_L3 (h : Nat) : Nat → HS → Int32 → Option (Int32 × HS)
  | 0 => fun _ _ => none
  | n + 1 => s_X4_greatestLamp_b3 (s_X4_greatestLamp_L3 h n) h
set_option maxHeartbeats 4000000 in
set_option maxRecDepth 100000 in
theorem w_X4_greatestLamp_L3 {p : Program} {l : Launch} {e : Env} {s : State} {m : MethodId} {args : Array Value} {below : List Frame} {meth : Method} {c : Code} {b0 : Nat} {G : hG} {S1 : HS} {r : Int32} {h : Nat} (E : hE p s m args c b0 G cX4_greatestLamp RX4 2 wsX4_greatestLamp) (hrt : meth.sig.returnType = (some .int)) (hlk : meth.locks = false) : ∀ (n : Nat) (S : HS) (l1 : Int32), s_X4_greatestLamp_L3 h n S l1 = some (r, S1) → WH p l e rm_X4_greatestLamp s m args below meth c b0 G 2 0 0 (MQ below (hQ b0 G (some (.int r)) S1) args s 0 0 (hA b0)) S 3 [(0, hrf b0 ((some h))), (1, .int l1)] [] := by
  intro n
  induction n with
  | zero => intro _ _ hh; exact absurd hh (by simp [s_X4_greatestLamp_L3])
  | succ n ih => intro _ _ hh; exact w_X4_greatestLamp_b3 E hrt hlk  ih hh
def s_X4_greatestLamp (S : HS) (h : Nat) : Option (Int32 × HS) := s_X4_greatestLamp_L3 h 100000 S 50
set_option maxHeartbeats 4000000 in
set_option maxRecDepth 100000 in
theorem c_X4_greatestLamp (l : Launch) (b0 : Nat) (G : hG) (S S1 : HS) (h : Nat) (r : Int32) (hh : s_X4_greatestLamp S h  = some (r, S1)) : MH l yX4_greatestLamp wsX4_greatestLamp rm_X4_greatestLamp b0 G S [hrf b0 (some h)] (some (.int r)) S1 0 0 := by
  refine MH.ofW (cc := cX4_greatestLamp) (maxL := 2) (ret := (some .int)) (own := RX4) (lv0 := [(0, hrf b0 ((some h)))]) (by decide) rfl rfl (Nat.le_of_ble_eq_true rfl) rfl ?_
  intro p e s m args below meth c E hrt hlk hnm
  have hh : (s_X4_greatestLamp_L3 h 100000 S 50) = some (r, S1) := hh
  refine rw_bipush E (v := 50) (by decide) dX4_greatestLamp_0 ?_
  refine rw_istore_n E (lv2 := [(1, .int 50), (0, hrf b0 ((some h)))]) rfl (by decide) rfl dX4_greatestLamp_2 ?_
  refine WH.pick [1, 0] rfl ?_
  exact w_X4_greatestLamp_L3 E hrt hlk 100000 _ _ hh

/-! HummingDisc$Foretold.playBy(II)V -/
abbrev rm_X4_playBy : Room := { frames := 4, cells := 0, slots := 0, locals := 87 }
theorem i_X4_playBy_4 : ∀ w ∈ wsX40, w ∈ wsX4_playBy := fun _ h => List.mem_cons_of_mem _ (List.mem_append_left _ (List.mem_append_left _ (List.mem_append_left _ (List.mem_append_right _ (h)))))
theorem i_X4_playBy_8 : ∀ w ∈ wsX80, w ∈ wsX4_playBy := fun _ h => List.mem_cons_of_mem _ (List.mem_append_left _ (List.mem_append_left _ (List.mem_append_right _ (h))))
def s_X4_playBy_b151 (j52 : HS → Int32 → Int32 → Option (HS)) (h : Nat) (S : HS) (l2 : Int32) (l4 : Int32) : Option (HS) := j52 S l2 (l4 + 1)
set_option maxHeartbeats 4000000 in
set_option maxRecDepth 100000 in
theorem w_X4_playBy_b151 {p : Program} {l : Launch} {e : Env} {s : State} {m : MethodId} {args : Array Value} {below : List Frame} {meth : Method} {c : Code} {b0 : Nat} {G : hG} {S1 : HS} {j52 : HS → Int32 → Int32 → Option (HS)} {h : Nat} {S : HS} {l2 : Int32} {l4 : Int32} (E : hE p s m args c b0 G cX4_playBy RX4 7 wsX4_playBy) (hrt : meth.sig.returnType = none) (hlk : meth.locks = false) (hj52 : ∀ (S : HS) (l2 : Int32) (l4 : Int32), j52 S l2 l4 = some S1 → WH p l e rm_X4_playBy s m args below meth c b0 G 7 0 0 (MQ below (hQ b0 G none S1) args s 0 0 (hA b0)) S 52 [(0, hrf b0 ((some h))), (2, .int l2), (4, .int l4)] []) (hh : s_X4_playBy_b151 j52 h S l2 l4 = some S1) : WH p l e rm_X4_playBy s m args below meth c b0 G 7 0 0 (MQ below (hQ b0 G none S1) args s 0 0 (hA b0)) S 151 [(0, hrf b0 ((some h))), (2, .int l2), (4, .int l4)] [] := by
  have hh : (j52 S l2 (l4 + 1)) = some S1 := hh
  refine rw_iinc E (v := l4 + 1) (lv2 := [(4, .int (l4 + 1)), (0, hrf b0 ((some h))), (2, .int l2)]) (j0 := 2) rfl rfl (by decide) rfl dX4_playBy_151 ?_
  refine rw_goto E (tgt := 52) (by decide) dX4_playBy_154 ?_
  refine WH.pick [1, 2, 0] rfl ?_
  exact hj52 _ _ _ hh
def s_X4_playBy_b118 (j52 : HS → Int32 → Int32 → Option (HS)) (h : Nat) (S : HS) (l2 : Int32) (l4 : Int32) (l5 : Int32) (l6 : Int32) (k0 : Option Nat) (k1 : Int32) : Option (HS) := kO S k0 8 (fun a2 => kcv (s_X8_tick S a2 k1 0) (fun S1 => if l6 = 0 then (s_X4_playBy_b151 j52 h S1 l2 l4) else (kP S1 ((some h)) 4 2 (fun v3 => kP S1 ((some h)) 4 2 (fun v4 => kA S1 v4 14 l5 (fun v5 => kP S1 ((some h)) 4 0 (fun v6 => kI S1 v6 8 6 (fun v7 => kwA S1 v3 14 l5 (fmax v5 v7) (fun S8 => s_X4_playBy_b151 j52 h S8 l2 l4)))))))))
set_option maxHeartbeats 4000000 in
set_option maxRecDepth 100000 in
theorem w_X4_playBy_b118 {p : Program} {l : Launch} {e : Env} {s : State} {m : MethodId} {args : Array Value} {below : List Frame} {meth : Method} {c : Code} {b0 : Nat} {G : hG} {S1 : HS} {j52 : HS → Int32 → Int32 → Option (HS)} {h : Nat} {S : HS} {l2 : Int32} {l4 : Int32} {l5 : Int32} {l6 : Int32} {k0 : Option Nat} {k1 : Int32} (E : hE p s m args c b0 G cX4_playBy RX4 7 wsX4_playBy) (hrt : meth.sig.returnType = none) (hlk : meth.locks = false) (hj52 : ∀ (S : HS) (l2 : Int32) (l4 : Int32), j52 S l2 l4 = some S1 → WH p l e rm_X4_playBy s m args below meth c b0 G 7 0 0 (MQ below (hQ b0 G none S1) args s 0 0 (hA b0)) S 52 [(0, hrf b0 ((some h))), (2, .int l2), (4, .int l4)] []) (hh : s_X4_playBy_b118 j52 h S l2 l4 l5 l6 k0 k1 = some S1) : WH p l e rm_X4_playBy s m args below meth c b0 G 7 0 0 (MQ below (hQ b0 G none S1) args s 0 0 (hA b0)) S 118 [(0, hrf b0 ((some h))), (2, .int l2), (4, .int l4), (5, .int l5), (6, .int l6)] [.int k1, hrf b0 k0] := by
  have hh : (kO S k0 8 (fun a2 => kcv (s_X8_tick S a2 k1 0) (fun S1 => if l6 = 0 then (s_X4_playBy_b151 j52 h S1 l2 l4) else (kP S1 ((some h)) 4 2 (fun v3 => kP S1 ((some h)) 4 2 (fun v4 => kA S1 v4 14 l5 (fun v5 => kP S1 ((some h)) 4 0 (fun v6 => kI S1 v6 8 6 (fun v7 => kwA S1 v3 14 l5 (fmax v5 v7) (fun S8 => s_X4_playBy_b151 j52 h S8 l2 l4)))))))))) = some S1 := hh
  refine rw_iconst E (v := 0) (by decide) dX4_playBy_118 ?_
  refine rw_cVv E (As := [.int k1, .int 0]) hh (by decide) rfl (fun _ _ hq => c_X8_tick l b0 G _ _ _ _ _ hq) (cwV 2 E.2.2.2.2.1 gX4_playBy_X8_tick rfl rfl rfl (by decide +kernel) ⟨Nat.le_of_ble_eq_true rfl, Nat.le_of_ble_eq_true rfl⟩) rfl rfl (by (try simp only [List.map_cons, List.map_nil, List.sum_cons, List.sum_nil, hrf_cat, cat_i, cat_l, cat_r]) <;> decide) ⟨Nat.le_of_ble_eq_true rfl, Nat.le_of_ble_eq_true rfl⟩ dX4_playBy_119 (fun S1 hh => ?_)
  refine rw_iload E (j0 := 4) rfl dX4_playBy_122 ?_
  refine rw_if_eq E hh (tgt := 151) (by decide) dX4_playBy_124 (fun hh => ?_) (fun hh => ?_)
  · refine WH.pick [0, 1, 2] rfl ?_
    exact w_X4_playBy_b151 E hrt hlk hj52 hh
  · refine rw_aload_n E (j0 := 0) rfl rfl dX4_playBy_127 ?_
    refine rw_getP E hh (C := RX4) (T := TX4) (N := 9) rfl (by decide) i_X4_playBy_4 (by decide) rfl (List.mem_of_getElem? (i := 2) (by decide +kernel)) rfl dX4_playBy_128 (fun v3 hh => ?_)
    refine rw_iload E (j0 := 3) rfl dX4_playBy_131 ?_
    refine rw_aload_n E (j0 := 0) rfl rfl dX4_playBy_133 ?_
    refine rw_getP E hh (C := RX4) (T := TX4) (N := 9) rfl (by decide) i_X4_playBy_4 (by decide) rfl (List.mem_of_getElem? (i := 2) (by decide +kernel)) rfl dX4_playBy_134 (fun v4 hh => ?_)
    refine rw_iload E (j0 := 3) rfl dX4_playBy_137 ?_
    refine rw_iald E hh dX4_playBy_139 (fun v5 hh => ?_)
    refine rw_aload_n E (j0 := 0) rfl rfl dX4_playBy_140 ?_
    refine rw_getP E hh (C := RX4) (T := TX4) (N := 9) rfl (by decide) i_X4_playBy_4 (by decide) rfl (List.mem_of_getElem? (i := 3) (by decide +kernel)) rfl dX4_playBy_141 (fun v6 hh => ?_)
    refine rw_getI E hh (C := RX8) (T := TX8) (N := 12) rfl (by decide) i_X4_playBy_8 (by decide) rfl (List.mem_of_getElem? (i := 6) (by decide +kernel)) rfl dX4_playBy_144 (fun v7 hh => ?_)
    refine rw_mmax E ⟨by decide, (by (try simp only [List.map_cons, List.map_nil, List.sum_cons, List.sum_nil, hrf_cat, cat_i, cat_l, cat_r]) <;> decide), by decide, by decide⟩ (List.mem_of_getElem? (i := 7) (by decide +kernel)) (List.mem_of_getElem? (i := 8) (by decide +kernel)) (List.mem_of_getElem? (i := 9) (by decide +kernel)) (List.mem_of_getElem? (i := 10) (by decide +kernel)) dX4_playBy_147 ?_
    refine rw_iast E hh dX4_playBy_150 (fun S8 hh => ?_)
    refine WH.pick [0, 1, 2] rfl ?_
    exact w_X4_playBy_b151 E hrt hlk hj52 hh
def s_X4_playBy_b52 (j52 : HS → Int32 → Int32 → Option (HS)) (h : Nat) (S : HS) (l2 : Int32) (l4 : Int32) : Option (HS) := if 120 ≤ l4 then (some S) else (kP S ((some h)) 4 0 (fun v1 => kI S v1 8 11 (fun v2 => if v2 = 0 then (kP S ((some h)) 4 0 (fun v3 => kI S v3 8 10 (fun v4 => if l2 ≤ v4 then (some S) else (kP S ((some h)) 4 0 (fun v5 => kI S v5 8 10 (fun v6 => kP S ((some h)) 4 0 (fun v7 => kO S v7 8 (fun a10 => kc (s_X8_unwinds S a10 ) (fun v9 S8 => kP S8 ((some h)) 4 0 (fun v11 => if v9 = 0 then (s_X4_playBy_b118 j52 h S8 l2 l4 v6 v9 v11 0) else (kP S8 ((some h)) 4 1 (fun v12 => kA S8 v12 14 v6 (fun v13 => s_X4_playBy_b118 j52 h S8 l2 l4 v6 v9 v11 v13))))))))))))) else (some S))))
set_option maxHeartbeats 4000000 in
set_option maxRecDepth 100000 in
theorem w_X4_playBy_b52 {p : Program} {l : Launch} {e : Env} {s : State} {m : MethodId} {args : Array Value} {below : List Frame} {meth : Method} {c : Code} {b0 : Nat} {G : hG} {S1 : HS} {j52 : HS → Int32 → Int32 → Option (HS)} {h : Nat} {S : HS} {l2 : Int32} {l4 : Int32} (E : hE p s m args c b0 G cX4_playBy RX4 7 wsX4_playBy) (hrt : meth.sig.returnType = none) (hlk : meth.locks = false) (hj52 : ∀ (S : HS) (l2 : Int32) (l4 : Int32), j52 S l2 l4 = some S1 → WH p l e rm_X4_playBy s m args below meth c b0 G 7 0 0 (MQ below (hQ b0 G none S1) args s 0 0 (hA b0)) S 52 [(0, hrf b0 ((some h))), (2, .int l2), (4, .int l4)] []) (hh : s_X4_playBy_b52 j52 h S l2 l4 = some S1) : WH p l e rm_X4_playBy s m args below meth c b0 G 7 0 0 (MQ below (hQ b0 G none S1) args s 0 0 (hA b0)) S 52 [(0, hrf b0 ((some h))), (2, .int l2), (4, .int l4)] [] := by
  have hh : (if 120 ≤ l4 then (some S) else (kP S ((some h)) 4 0 (fun v1 => kI S v1 8 11 (fun v2 => if v2 = 0 then (kP S ((some h)) 4 0 (fun v3 => kI S v3 8 10 (fun v4 => if l2 ≤ v4 then (some S) else (kP S ((some h)) 4 0 (fun v5 => kI S v5 8 10 (fun v6 => kP S ((some h)) 4 0 (fun v7 => kO S v7 8 (fun a10 => kc (s_X8_unwinds S a10 ) (fun v9 S8 => kP S8 ((some h)) 4 0 (fun v11 => if v9 = 0 then (s_X4_playBy_b118 j52 h S8 l2 l4 v6 v9 v11 0) else (kP S8 ((some h)) 4 1 (fun v12 => kA S8 v12 14 v6 (fun v13 => s_X4_playBy_b118 j52 h S8 l2 l4 v6 v9 v11 v13))))))))))))) else (some S))))) = some S1 := hh
  refine rw_iload E (j0 := 2) rfl dX4_playBy_52 ?_
  refine rw_bipush E (v := 120) (by decide) dX4_playBy_54 ?_
  refine rw_icmp_ge E hh (tgt := 157) (by decide) dX4_playBy_56 (fun hh => ?_) (fun hh => ?_)
  · exact rw_vret E hrt hlk hh (by decide) (by decide) dX4_playBy_157
  · refine rw_aload_n E (j0 := 0) rfl rfl dX4_playBy_59 ?_
    refine rw_getP E hh (C := RX4) (T := TX4) (N := 9) rfl (by decide) i_X4_playBy_4 (by decide) rfl (List.mem_of_getElem? (i := 3) (by decide +kernel)) rfl dX4_playBy_60 (fun v1 hh => ?_)
    refine rw_getI E hh (C := RX8) (T := TX8) (N := 12) rfl (by decide) i_X4_playBy_8 (by decide) rfl (List.mem_of_getElem? (i := 4) (by decide +kernel)) rfl dX4_playBy_63 (fun v2 hh => ?_)
    refine rw_if_ne E hh (tgt := 157) (by decide) dX4_playBy_66 (fun hh => ?_) (fun hh => ?_)
    · exact rw_vret E hrt hlk hh (by decide) (by decide) dX4_playBy_157
    · refine rw_aload_n E (j0 := 0) rfl rfl dX4_playBy_69 ?_
      refine rw_getP E hh (C := RX4) (T := TX4) (N := 9) rfl (by decide) i_X4_playBy_4 (by decide) rfl (List.mem_of_getElem? (i := 3) (by decide +kernel)) rfl dX4_playBy_70 (fun v3 hh => ?_)
      refine rw_getI E hh (C := RX8) (T := TX8) (N := 12) rfl (by decide) i_X4_playBy_8 (by decide) rfl (List.mem_of_getElem? (i := 5) (by decide +kernel)) rfl dX4_playBy_73 (fun v4 hh => ?_)
      refine rw_iload_n E (j0 := 1) rfl rfl dX4_playBy_76 ?_
      refine rw_icmp_ge E hh (tgt := 157) (by decide) dX4_playBy_77 (fun hh => ?_) (fun hh => ?_)
      · exact rw_vret E hrt hlk hh (by decide) (by decide) dX4_playBy_157
      · refine rw_aload_n E (j0 := 0) rfl rfl dX4_playBy_80 ?_
        refine rw_getP E hh (C := RX4) (T := TX4) (N := 9) rfl (by decide) i_X4_playBy_4 (by decide) rfl (List.mem_of_getElem? (i := 3) (by decide +kernel)) rfl dX4_playBy_81 (fun v5 hh => ?_)
        refine rw_getI E hh (C := RX8) (T := TX8) (N := 12) rfl (by decide) i_X4_playBy_8 (by decide) rfl (List.mem_of_getElem? (i := 5) (by decide +kernel)) rfl dX4_playBy_84 (fun v6 hh => ?_)
        refine rw_istore E (lv2 := [(5, .int v6), (0, hrf b0 ((some h))), (2, .int l2), (4, .int l4)]) (by decide) rfl dX4_playBy_87 ?_
        refine rw_aload_n E (j0 := 1) rfl rfl dX4_playBy_89 ?_
        refine rw_getP E hh (C := RX4) (T := TX4) (N := 9) rfl (by decide) i_X4_playBy_4 (by decide) rfl (List.mem_of_getElem? (i := 3) (by decide +kernel)) rfl dX4_playBy_90 (fun v7 hh => ?_)
        refine rw_cVi E (As := []) hh (by decide) rfl (fun _ _ _ hq => c_X8_unwinds l b0 G _ _ _ _ hq) (cwV 0 E.2.2.2.2.1 gX4_playBy_X8_unwinds rfl rfl rfl (by decide +kernel) ⟨Nat.le_of_ble_eq_true rfl, Nat.le_of_ble_eq_true rfl⟩) rfl rfl (by (try simp only [List.map_cons, List.map_nil, List.sum_cons, List.sum_nil, hrf_cat, cat_i, cat_l, cat_r]) <;> decide) ⟨Nat.le_of_ble_eq_true rfl, Nat.le_of_ble_eq_true rfl⟩ dX4_playBy_93 (fun v9 S8 hh => ?_)
        refine rw_istore E (lv2 := [(6, .int v9), (5, .int v6), (0, hrf b0 ((some h))), (2, .int l2), (4, .int l4)]) (by decide) rfl dX4_playBy_96 ?_
        refine rw_aload_n E (j0 := 2) rfl rfl dX4_playBy_98 ?_
        refine rw_getP E hh (C := RX4) (T := TX4) (N := 9) rfl (by decide) i_X4_playBy_4 (by decide) rfl (List.mem_of_getElem? (i := 3) (by decide +kernel)) rfl dX4_playBy_99 (fun v11 hh => ?_)
        refine rw_iload E (j0 := 0) rfl dX4_playBy_102 ?_
        refine rw_if_eq E hh (tgt := 117) (by decide) dX4_playBy_104 (fun hh => ?_) (fun hh => ?_)
        · refine rw_iconst E (v := 0) (by decide) dX4_playBy_117 ?_
          refine WH.pick [2, 3, 4, 1, 0] rfl ?_
          exact w_X4_playBy_b118 E hrt hlk hj52 hh
        · refine rw_aload_n E (j0 := 2) rfl rfl dX4_playBy_107 ?_
          refine rw_getP E hh (C := RX4) (T := TX4) (N := 9) rfl (by decide) i_X4_playBy_4 (by decide) rfl (List.mem_of_getElem? (i := 1) (by decide +kernel)) rfl dX4_playBy_108 (fun v12 hh => ?_)
          refine rw_iload E (j0 := 1) rfl dX4_playBy_111 ?_
          refine rw_iald E hh dX4_playBy_113 (fun v13 hh => ?_)
          refine rw_goto E (tgt := 118) (by decide) dX4_playBy_114 ?_
          refine WH.pick [2, 3, 4, 1, 0] rfl ?_
          exact w_X4_playBy_b118 E hrt hlk hj52 hh
def s_X4_playBy_L52 (h : Nat) : Nat → HS → Int32 → Int32 → Option (HS)
  | 0 => fun _ _ _ => none
  | n + 1 => s_X4_playBy_b52 (s_X4_playBy_L52 h n) h
set_option maxHeartbeats 4000000 in
set_option maxRecDepth 100000 in
theorem w_X4_playBy_L52 {p : Program} {l : Launch} {e : Env} {s : State} {m : MethodId} {args : Array Value} {below : List Frame} {meth : Method} {c : Code} {b0 : Nat} {G : hG} {S1 : HS} {h : Nat} (E : hE p s m args c b0 G cX4_playBy RX4 7 wsX4_playBy) (hrt : meth.sig.returnType = none) (hlk : meth.locks = false) : ∀ (n : Nat) (S : HS) (l2 : Int32) (l4 : Int32), s_X4_playBy_L52 h n S l2 l4 = some S1 → WH p l e rm_X4_playBy s m args below meth c b0 G 7 0 0 (MQ below (hQ b0 G none S1) args s 0 0 (hA b0)) S 52 [(0, hrf b0 ((some h))), (2, .int l2), (4, .int l4)] [] := by
  intro n
  induction n with
  | zero => intro _ _ _ hh; exact absurd hh (by simp [s_X4_playBy_L52])
  | succ n ih => intro _ _ _ hh; exact w_X4_playBy_b52 E hrt hlk  ih hh
def s_X4_playBy_b7 (j7 : HS → Int32 → Int32 → Int32 → Option (HS)) (h : Nat) (S : HS) (l2 : Int32) (l3 : Int32) (l4 : Int32) : Option (HS) := if l4 < 0 then (kO S ((some h)) 4 (fun a2 => kcv (s_X4_start S a2 ) (fun S1 => s_X4_playBy_L52 h 100000 S1 l2 0))) else (kP S ((some h)) 4 1 (fun v3 => krem l3 10 (fun v4 => kwA S v3 14 l4 (10 * v4) (fun S5 => kP S5 ((some h)) 4 2 (fun v6 => kwA S5 v6 14 l4 0 (fun S7 => kdiv l3 10 (fun v8 => j7 S7 l2 v8 (l4 + (-1)))))))))
set_option maxHeartbeats 4000000 in
set_option maxRecDepth 100000 in
theorem w_X4_playBy_b7 {p : Program} {l : Launch} {e : Env} {s : State} {m : MethodId} {args : Array Value} {below : List Frame} {meth : Method} {c : Code} {b0 : Nat} {G : hG} {S1 : HS} {j7 : HS → Int32 → Int32 → Int32 → Option (HS)} {h : Nat} {S : HS} {l2 : Int32} {l3 : Int32} {l4 : Int32} (E : hE p s m args c b0 G cX4_playBy RX4 7 wsX4_playBy) (hrt : meth.sig.returnType = none) (hlk : meth.locks = false) (hj7 : ∀ (S : HS) (l2 : Int32) (l3 : Int32) (l4 : Int32), j7 S l2 l3 l4 = some S1 → WH p l e rm_X4_playBy s m args below meth c b0 G 7 0 0 (MQ below (hQ b0 G none S1) args s 0 0 (hA b0)) S 7 [(0, hrf b0 ((some h))), (2, .int l2), (3, .int l3), (4, .int l4)] []) (hh : s_X4_playBy_b7 j7 h S l2 l3 l4 = some S1) : WH p l e rm_X4_playBy s m args below meth c b0 G 7 0 0 (MQ below (hQ b0 G none S1) args s 0 0 (hA b0)) S 7 [(0, hrf b0 ((some h))), (2, .int l2), (3, .int l3), (4, .int l4)] [] := by
  have hh : (if l4 < 0 then (kO S ((some h)) 4 (fun a2 => kcv (s_X4_start S a2 ) (fun S1 => s_X4_playBy_L52 h 100000 S1 l2 0))) else (kP S ((some h)) 4 1 (fun v3 => krem l3 10 (fun v4 => kwA S v3 14 l4 (10 * v4) (fun S5 => kP S5 ((some h)) 4 2 (fun v6 => kwA S5 v6 14 l4 0 (fun S7 => kdiv l3 10 (fun v8 => j7 S7 l2 v8 (l4 + (-1)))))))))) = some S1 := hh
  refine rw_iload E (j0 := 3) rfl dX4_playBy_7 ?_
  refine rw_if_lt E hh (tgt := 45) (by decide) dX4_playBy_9 (fun hh => ?_) (fun hh => ?_)
  · refine rw_aload_n E (j0 := 0) rfl rfl dX4_playBy_45 ?_
    refine rw_cVv E (As := []) hh (by decide) rfl (fun _ _ hq => c_X4_start l b0 G _ _ _ hq) (cwV 0 E.2.2.2.2.1 gX4_playBy_X4_start rfl rfl rfl (by decide +kernel) ⟨Nat.le_of_ble_eq_true rfl, Nat.le_of_ble_eq_true rfl⟩) rfl rfl (by (try simp only [List.map_cons, List.map_nil, List.sum_cons, List.sum_nil, hrf_cat, cat_i, cat_l, cat_r]) <;> decide) ⟨Nat.le_of_ble_eq_true rfl, Nat.le_of_ble_eq_true rfl⟩ dX4_playBy_46 (fun S1 hh => ?_)
    refine rw_iconst E (v := 0) (by decide) dX4_playBy_49 ?_
    refine rw_istore E (lv2 := [(4, .int 0), (0, hrf b0 ((some h))), (2, .int l2), (3, .int l3)]) (by decide) rfl dX4_playBy_50 ?_
    refine WH.pick [1, 2, 0] rfl ?_
    exact w_X4_playBy_L52 E hrt hlk 100000 _ _ _ hh
  · refine rw_aload_n E (j0 := 0) rfl rfl dX4_playBy_12 ?_
    refine rw_getP E hh (C := RX4) (T := TX4) (N := 9) rfl (by decide) i_X4_playBy_4 (by decide) rfl (List.mem_of_getElem? (i := 1) (by decide +kernel)) rfl dX4_playBy_13 (fun v3 hh => ?_)
    refine rw_iload E (j0 := 3) rfl dX4_playBy_16 ?_
    refine rw_bipush E (v := 10) (by decide) dX4_playBy_18 ?_
    refine rw_iload_n E (j0 := 2) rfl rfl dX4_playBy_20 ?_
    refine rw_bipush E (v := 10) (by decide) dX4_playBy_21 ?_
    refine rw_irem E hh dX4_playBy_23 (fun v4 hh => ?_)
    refine rw_imul E dX4_playBy_24 ?_
    refine rw_iast E hh dX4_playBy_25 (fun S5 hh => ?_)
    refine rw_aload_n E (j0 := 0) rfl rfl dX4_playBy_26 ?_
    refine rw_getP E hh (C := RX4) (T := TX4) (N := 9) rfl (by decide) i_X4_playBy_4 (by decide) rfl (List.mem_of_getElem? (i := 2) (by decide +kernel)) rfl dX4_playBy_27 (fun v6 hh => ?_)
    refine rw_iload E (j0 := 3) rfl dX4_playBy_30 ?_
    refine rw_iconst E (v := 0) (by decide) dX4_playBy_32 ?_
    refine rw_iast E hh dX4_playBy_33 (fun S7 hh => ?_)
    refine rw_iload_n E (j0 := 2) rfl rfl dX4_playBy_34 ?_
    refine rw_bipush E (v := 10) (by decide) dX4_playBy_35 ?_
    refine rw_idiv E hh dX4_playBy_37 (fun v8 hh => ?_)
    refine rw_istore_n E (lv2 := [(3, .int v8), (0, hrf b0 ((some h))), (2, .int l2), (4, .int l4)]) rfl (by decide) rfl dX4_playBy_38 ?_
    refine rw_iinc E (v := l4 + (-1)) (lv2 := [(4, .int (l4 + (-1))), (3, .int v8), (0, hrf b0 ((some h))), (2, .int l2)]) (j0 := 3) rfl (congrArg (fun z => l4 + z) (show Int32.ofInt (-1) = (-1) by decide)) (by decide) rfl dX4_playBy_39 ?_
    refine rw_goto E (tgt := 7) (by decide) dX4_playBy_42 ?_
    refine WH.pick [2, 3, 1, 0] rfl ?_
    exact hj7 _ _ _ _ hh
def s_X4_playBy_L7 (h : Nat) : Nat → HS → Int32 → Int32 → Int32 → Option (HS)
  | 0 => fun _ _ _ _ => none
  | n + 1 => s_X4_playBy_b7 (s_X4_playBy_L7 h n) h
set_option maxHeartbeats 4000000 in
set_option maxRecDepth 100000 in
theorem w_X4_playBy_L7 {p : Program} {l : Launch} {e : Env} {s : State} {m : MethodId} {args : Array Value} {below : List Frame} {meth : Method} {c : Code} {b0 : Nat} {G : hG} {S1 : HS} {h : Nat} (E : hE p s m args c b0 G cX4_playBy RX4 7 wsX4_playBy) (hrt : meth.sig.returnType = none) (hlk : meth.locks = false) : ∀ (n : Nat) (S : HS) (l2 : Int32) (l3 : Int32) (l4 : Int32), s_X4_playBy_L7 h n S l2 l3 l4 = some S1 → WH p l e rm_X4_playBy s m args below meth c b0 G 7 0 0 (MQ below (hQ b0 G none S1) args s 0 0 (hA b0)) S 7 [(0, hrf b0 ((some h))), (2, .int l2), (3, .int l3), (4, .int l4)] [] := by
  intro n
  induction n with
  | zero => intro _ _ _ _ hh; exact absurd hh (by simp [s_X4_playBy_L7])
  | succ n ih => intro _ _ _ _ hh; exact w_X4_playBy_b7 E hrt hlk  ih hh
def s_X4_playBy (S : HS) (h : Nat) (l1 : Int32) (l2 : Int32) : Option (HS) := s_X4_playBy_L7 h 100000 S l2 l1 (l2 - 1)
set_option maxHeartbeats 4000000 in
set_option maxRecDepth 100000 in
theorem c_X4_playBy (l : Launch) (b0 : Nat) (G : hG) (S S1 : HS) (h : Nat) (l1 : Int32) (l2 : Int32) (hh : s_X4_playBy S h l1 l2 = some S1) : MH l yX4_playBy wsX4_playBy rm_X4_playBy b0 G S [hrf b0 (some h), .int l1, .int l2] none S1 0 0 := by
  refine MH.ofW (cc := cX4_playBy) (maxL := 7) (ret := none) (own := RX4) (lv0 := [(0, hrf b0 ((some h))), (1, .int l1), (2, .int l2)]) (by decide) rfl rfl (Nat.le_of_ble_eq_true rfl) rfl ?_
  intro p e s m args below meth c E hrt hlk hnm
  have hh : (s_X4_playBy_L7 h 100000 S l2 l1 (l2 - 1)) = some S1 := hh
  refine rw_iload_n E (j0 := 1) rfl rfl dX4_playBy_0 ?_
  refine rw_istore_n E (lv2 := [(3, .int l1), (0, hrf b0 ((some h))), (1, .int l1), (2, .int l2)]) rfl (by decide) rfl dX4_playBy_1 ?_
  refine rw_iload_n E (j0 := 3) rfl rfl dX4_playBy_2 ?_
  refine rw_iconst E (v := 1) (by decide) dX4_playBy_3 ?_
  refine rw_isub E dX4_playBy_4 ?_
  refine rw_istore E (lv2 := [(4, .int (l2 - 1)), (3, .int l1), (0, hrf b0 ((some h))), (1, .int l1), (2, .int l2)]) (by decide) rfl dX4_playBy_5 ?_
  refine WH.pick [2, 4, 1, 0] rfl ?_
  exact w_X4_playBy_L7 E hrt hlk 100000 _ _ _ _ hh

/-! HummingDisc$Foretold.forcesFor([III)I -/
abbrev rm_X4_forcesFor : Room := { frames := 5, cells := 0, slots := 0, locals := 113 }
theorem i_X4_forcesFor_3 : ∀ w ∈ wsX30, w ∈ wsX4_forcesFor := fun _ h => List.mem_cons_of_mem _ (List.mem_append_left _ (List.mem_append_left _ (List.mem_append_right _ (h))))
theorem i_X4_forcesFor_4 : ∀ w ∈ wsX40, w ∈ wsX4_forcesFor := fun _ h => List.mem_cons_of_mem _ (List.mem_append_left _ (List.mem_append_left _ (List.mem_append_left _ (List.mem_append_right _ (h)))))
def s_X4_forcesFor_b120 (j31 : HS → Option Nat → Int32 → Int32 → Int32 → Int32 → Int32 → Option (Int32 × HS)) (h : Nat) (S : HS) (l1 : Option Nat) (l2 : Int32) (l3 : Int32) (l4 : Int32) (l5 : Int32) (l6 : Int32) : Option (Int32 × HS) := j31 S l1 l2 l3 l4 l5 (l6 + 1)
set_option maxHeartbeats 4000000 in
set_option maxRecDepth 100000 in
theorem w_X4_forcesFor_b120 {p : Program} {l : Launch} {e : Env} {s : State} {m : MethodId} {args : Array Value} {below : List Frame} {meth : Method} {c : Code} {b0 : Nat} {G : hG} {S1 : HS} {r : Int32} {j31 : HS → Option Nat → Int32 → Int32 → Int32 → Int32 → Int32 → Option (Int32 × HS)} {h : Nat} {S : HS} {l1 : Option Nat} {l2 : Int32} {l3 : Int32} {l4 : Int32} {l5 : Int32} {l6 : Int32} (E : hE p s m args c b0 G cX4_forcesFor RX4 9 wsX4_forcesFor) (hrt : meth.sig.returnType = (some .int)) (hlk : meth.locks = false) (hj31 : ∀ (S : HS) (l1 : Option Nat) (l2 : Int32) (l3 : Int32) (l4 : Int32) (l5 : Int32) (l6 : Int32), j31 S l1 l2 l3 l4 l5 l6 = some (r, S1) → WH p l e rm_X4_forcesFor s m args below meth c b0 G 9 0 0 (MQ below (hQ b0 G (some (.int r)) S1) args s 0 0 (hA b0)) S 31 [(0, hrf b0 ((some h))), (1, hrf b0 l1), (2, .int l2), (3, .int l3), (4, .int l4), (5, .int l5), (6, .int l6)] []) (hh : s_X4_forcesFor_b120 j31 h S l1 l2 l3 l4 l5 l6 = some (r, S1)) : WH p l e rm_X4_forcesFor s m args below meth c b0 G 9 0 0 (MQ below (hQ b0 G (some (.int r)) S1) args s 0 0 (hA b0)) S 120 [(0, hrf b0 ((some h))), (1, hrf b0 l1), (2, .int l2), (3, .int l3), (4, .int l4), (5, .int l5), (6, .int l6)] [] := by
  have hh : (j31 S l1 l2 l3 l4 l5 (l6 + 1)) = some (r, S1) := hh
  refine rw_iinc E (v := l6 + 1) (lv2 := [(6, .int (l6 + 1)), (0, hrf b0 ((some h))), (1, hrf b0 l1), (2, .int l2), (3, .int l3), (4, .int l4), (5, .int l5)]) (j0 := 6) rfl rfl (by decide) rfl dX4_forcesFor_120 ?_
  refine rw_goto E (tgt := 31) (by decide) dX4_forcesFor_123 ?_
  refine WH.pick [1, 2, 3, 4, 5, 6, 0] rfl ?_
  exact hj31 _ _ _ _ _ _ _ hh
def s_X4_forcesFor_b110 (j31 : HS → Option Nat → Int32 → Int32 → Int32 → Int32 → Int32 → Option (Int32 × HS)) (h : Nat) (S : HS) (l1 : Option Nat) (l2 : Int32) (l3 : Int32) (l5 : Int32) (l6 : Int32) (l7 : Int32) : Option (Int32 × HS) := kwI S ((some h)) 4 8 l7 (fun S1 => s_X4_forcesFor_b120 j31 h S1 l1 l2 l3 l6 l5 l6)
set_option maxHeartbeats 4000000 in
set_option maxRecDepth 100000 in
theorem w_X4_forcesFor_b110 {p : Program} {l : Launch} {e : Env} {s : State} {m : MethodId} {args : Array Value} {below : List Frame} {meth : Method} {c : Code} {b0 : Nat} {G : hG} {S1 : HS} {r : Int32} {j31 : HS → Option Nat → Int32 → Int32 → Int32 → Int32 → Int32 → Option (Int32 × HS)} {h : Nat} {S : HS} {l1 : Option Nat} {l2 : Int32} {l3 : Int32} {l5 : Int32} {l6 : Int32} {l7 : Int32} (E : hE p s m args c b0 G cX4_forcesFor RX4 9 wsX4_forcesFor) (hrt : meth.sig.returnType = (some .int)) (hlk : meth.locks = false) (hj31 : ∀ (S : HS) (l1 : Option Nat) (l2 : Int32) (l3 : Int32) (l4 : Int32) (l5 : Int32) (l6 : Int32), j31 S l1 l2 l3 l4 l5 l6 = some (r, S1) → WH p l e rm_X4_forcesFor s m args below meth c b0 G 9 0 0 (MQ below (hQ b0 G (some (.int r)) S1) args s 0 0 (hA b0)) S 31 [(0, hrf b0 ((some h))), (1, hrf b0 l1), (2, .int l2), (3, .int l3), (4, .int l4), (5, .int l5), (6, .int l6)] []) (hh : s_X4_forcesFor_b110 j31 h S l1 l2 l3 l5 l6 l7 = some (r, S1)) : WH p l e rm_X4_forcesFor s m args below meth c b0 G 9 0 0 (MQ below (hQ b0 G (some (.int r)) S1) args s 0 0 (hA b0)) S 110 [(0, hrf b0 ((some h))), (1, hrf b0 l1), (2, .int l2), (3, .int l3), (5, .int l5), (6, .int l6), (7, .int l7)] [] := by
  have hh : (kwI S ((some h)) 4 8 l7 (fun S1 => s_X4_forcesFor_b120 j31 h S1 l1 l2 l3 l6 l5 l6)) = some (r, S1) := hh
  refine rw_aload_n E (j0 := 0) rfl rfl dX4_forcesFor_110 ?_
  refine rw_iload E (j0 := 6) rfl dX4_forcesFor_111 ?_
  refine rw_putI E hh (C := RX4) (T := TX4) (N := 9) (ty0 := tyX4) rfl tyX4_ok nmX4 (by decide) i_X4_forcesFor_4 (by decide) rfl (List.mem_of_getElem? (i := 8) (by decide +kernel)) rfl (Or.inl rfl) rfl dX4_forcesFor_113 (fun S1 hh => ?_)
  refine rw_iload E (j0 := 5) rfl dX4_forcesFor_116 ?_
  refine rw_istore E (lv2 := [(4, .int l6), (0, hrf b0 ((some h))), (1, hrf b0 l1), (2, .int l2), (3, .int l3), (5, .int l5), (6, .int l6), (7, .int l7)]) (by decide) rfl dX4_forcesFor_118 ?_
  refine WH.pick [1, 2, 3, 4, 0, 5, 6] rfl ?_
  exact w_X4_forcesFor_b120 E hrt hlk hj31 hh
def s_X4_forcesFor_b51 (j31 : HS → Option Nat → Int32 → Int32 → Int32 → Int32 → Int32 → Option (Int32 × HS)) (j51 : HS → Option Nat → Int32 → Int32 → Int32 → Int32 → Int32 → Int32 → Int32 → Option (Int32 × HS)) (h : Nat) (S : HS) (l1 : Option Nat) (l2 : Int32) (l3 : Int32) (l4 : Int32) (l5 : Int32) (l6 : Int32) (l7 : Int32) (l8 : Int32) : Option (Int32 × HS) := if l3 ≤ l8 then (if l6 ≤ 0 then (s_X4_forcesFor_b110 j31 h S l1 l2 l3 l5 l6 l7) else (kI S ((some h)) 4 8 (fun v1 => if l7 < v1 then (s_X4_forcesFor_b110 j31 h S l1 l2 l3 l5 l6 l7) else (s_X4_forcesFor_b120 j31 h S l1 l2 l3 l4 l5 l6)))) else (kP S ((some h)) 4 2 (fun v2 => kA S v2 14 l8 (fun v3 => kP S ((some h)) 4 3 (fun v4 => kI S v4 3 2 (fun v5 => kA S l1 14 (l2 + l8) (fun v6 => j51 S l1 l2 l3 l4 l5 l6 (l7 + (fabs ((v3 * v5) - v6))) (l8 + 1)))))))
set_option maxHeartbeats 4000000 in
set_option maxRecDepth 100000 in
theorem w_X4_forcesFor_b51 {p : Program} {l : Launch} {e : Env} {s : State} {m : MethodId} {args : Array Value} {below : List Frame} {meth : Method} {c : Code} {b0 : Nat} {G : hG} {S1 : HS} {r : Int32} {j31 : HS → Option Nat → Int32 → Int32 → Int32 → Int32 → Int32 → Option (Int32 × HS)} {j51 : HS → Option Nat → Int32 → Int32 → Int32 → Int32 → Int32 → Int32 → Int32 → Option (Int32 × HS)} {h : Nat} {S : HS} {l1 : Option Nat} {l2 : Int32} {l3 : Int32} {l4 : Int32} {l5 : Int32} {l6 : Int32} {l7 : Int32} {l8 : Int32} (E : hE p s m args c b0 G cX4_forcesFor RX4 9 wsX4_forcesFor) (hrt : meth.sig.returnType = (some .int)) (hlk : meth.locks = false) (hj31 : ∀ (S : HS) (l1 : Option Nat) (l2 : Int32) (l3 : Int32) (l4 : Int32) (l5 : Int32) (l6 : Int32), j31 S l1 l2 l3 l4 l5 l6 = some (r, S1) → WH p l e rm_X4_forcesFor s m args below meth c b0 G 9 0 0 (MQ below (hQ b0 G (some (.int r)) S1) args s 0 0 (hA b0)) S 31 [(0, hrf b0 ((some h))), (1, hrf b0 l1), (2, .int l2), (3, .int l3), (4, .int l4), (5, .int l5), (6, .int l6)] []) (hj51 : ∀ (S : HS) (l1 : Option Nat) (l2 : Int32) (l3 : Int32) (l4 : Int32) (l5 : Int32) (l6 : Int32) (l7 : Int32) (l8 : Int32), j51 S l1 l2 l3 l4 l5 l6 l7 l8 = some (r, S1) → WH p l e rm_X4_forcesFor s m args below meth c b0 G 9 0 0 (MQ below (hQ b0 G (some (.int r)) S1) args s 0 0 (hA b0)) S 51 [(0, hrf b0 ((some h))), (1, hrf b0 l1), (2, .int l2), (3, .int l3), (4, .int l4), (5, .int l5), (6, .int l6), (7, .int l7), (8, .int l8)] []) (hh : s_X4_forcesFor_b51 j31 j51 h S l1 l2 l3 l4 l5 l6 l7 l8 = some (r, S1)) : WH p l e rm_X4_forcesFor s m args below meth c b0 G 9 0 0 (MQ below (hQ b0 G (some (.int r)) S1) args s 0 0 (hA b0)) S 51 [(0, hrf b0 ((some h))), (1, hrf b0 l1), (2, .int l2), (3, .int l3), (4, .int l4), (5, .int l5), (6, .int l6), (7, .int l7), (8, .int l8)] [] := by
  have hh : (if l3 ≤ l8 then (if l6 ≤ 0 then (s_X4_forcesFor_b110 j31 h S l1 l2 l3 l5 l6 l7) else (kI S ((some h)) 4 8 (fun v1 => if l7 < v1 then (s_X4_forcesFor_b110 j31 h S l1 l2 l3 l5 l6 l7) else (s_X4_forcesFor_b120 j31 h S l1 l2 l3 l4 l5 l6)))) else (kP S ((some h)) 4 2 (fun v2 => kA S v2 14 l8 (fun v3 => kP S ((some h)) 4 3 (fun v4 => kI S v4 3 2 (fun v5 => kA S l1 14 (l2 + l8) (fun v6 => j51 S l1 l2 l3 l4 l5 l6 (l7 + (fabs ((v3 * v5) - v6))) (l8 + 1)))))))) = some (r, S1) := hh
  refine rw_iload E (j0 := 8) rfl dX4_forcesFor_51 ?_
  refine rw_iload_n E (j0 := 3) rfl rfl dX4_forcesFor_53 ?_
  refine rw_icmp_ge E hh (tgt := 93) (by decide) dX4_forcesFor_54 (fun hh => ?_) (fun hh => ?_)
  · refine rw_iload E (j0 := 6) rfl dX4_forcesFor_93 ?_
    refine rw_if_le E hh (tgt := 110) (by decide) dX4_forcesFor_95 (fun hh => ?_) (fun hh => ?_)
    · refine WH.pick [0, 1, 2, 3, 5, 6, 7] rfl ?_
      exact w_X4_forcesFor_b110 E hrt hlk hj31 hh
    · refine rw_iload E (j0 := 7) rfl dX4_forcesFor_98 ?_
      refine rw_aload_n E (j0 := 0) rfl rfl dX4_forcesFor_100 ?_
      refine rw_getI E hh (C := RX4) (T := TX4) (N := 9) rfl (by decide) i_X4_forcesFor_4 (by decide) rfl (List.mem_of_getElem? (i := 8) (by decide +kernel)) rfl dX4_forcesFor_101 (fun v1 hh => ?_)
      refine rw_icmp_lt E hh (tgt := 110) (by decide) dX4_forcesFor_104 (fun hh => ?_) (fun hh => ?_)
      · refine WH.pick [0, 1, 2, 3, 5, 6, 7] rfl ?_
        exact w_X4_forcesFor_b110 E hrt hlk hj31 hh
      · refine rw_goto E (tgt := 120) (by decide) dX4_forcesFor_107 ?_
        refine WH.pick [0, 1, 2, 3, 4, 5, 6] rfl ?_
        exact w_X4_forcesFor_b120 E hrt hlk hj31 hh
  · refine rw_iload E (j0 := 7) rfl dX4_forcesFor_57 ?_
    refine rw_aload_n E (j0 := 0) rfl rfl dX4_forcesFor_59 ?_
    refine rw_getP E hh (C := RX4) (T := TX4) (N := 9) rfl (by decide) i_X4_forcesFor_4 (by decide) rfl (List.mem_of_getElem? (i := 1) (by decide +kernel)) rfl dX4_forcesFor_60 (fun v2 hh => ?_)
    refine rw_iload E (j0 := 8) rfl dX4_forcesFor_63 ?_
    refine rw_iald E hh dX4_forcesFor_65 (fun v3 hh => ?_)
    refine rw_aload_n E (j0 := 0) rfl rfl dX4_forcesFor_66 ?_
    refine rw_getP E hh (C := RX4) (T := TX4) (N := 9) rfl (by decide) i_X4_forcesFor_4 (by decide) rfl (List.mem_of_getElem? (i := 2) (by decide +kernel)) rfl dX4_forcesFor_67 (fun v4 hh => ?_)
    refine rw_getI E hh (C := RX3) (T := TX3) (N := 3) rfl (by decide) i_X4_forcesFor_3 (by decide) rfl (List.mem_of_getElem? (i := 3) (by decide +kernel)) rfl dX4_forcesFor_70 (fun v5 hh => ?_)
    refine rw_imul E dX4_forcesFor_73 ?_
    refine rw_aload_n E (j0 := 1) rfl rfl dX4_forcesFor_74 ?_
    refine rw_iload_n E (j0 := 2) rfl rfl dX4_forcesFor_75 ?_
    refine rw_iload E (j0 := 8) rfl dX4_forcesFor_76 ?_
    refine rw_iadd E dX4_forcesFor_78 ?_
    refine rw_iald E hh dX4_forcesFor_79 (fun v6 hh => ?_)
    refine rw_isub E dX4_forcesFor_80 ?_
    refine rw_mabs E ⟨by decide, (by (try simp only [List.map_cons, List.map_nil, List.sum_cons, List.sum_nil, hrf_cat, cat_i, cat_l, cat_r]) <;> decide), by decide, by decide⟩ (List.mem_of_getElem? (i := 4) (by decide +kernel)) (List.mem_of_getElem? (i := 5) (by decide +kernel)) (List.mem_of_getElem? (i := 6) (by decide +kernel)) (List.mem_of_getElem? (i := 7) (by decide +kernel)) dX4_forcesFor_81 ?_
    refine rw_iadd E dX4_forcesFor_84 ?_
    refine rw_istore E (lv2 := [(7, .int (l7 + (fabs ((v3 * v5) - v6)))), (0, hrf b0 ((some h))), (1, hrf b0 l1), (2, .int l2), (3, .int l3), (4, .int l4), (5, .int l5), (6, .int l6), (8, .int l8)]) (by decide) rfl dX4_forcesFor_85 ?_
    refine rw_iinc E (v := l8 + 1) (lv2 := [(8, .int (l8 + 1)), (7, .int (l7 + (fabs ((v3 * v5) - v6)))), (0, hrf b0 ((some h))), (1, hrf b0 l1), (2, .int l2), (3, .int l3), (4, .int l4), (5, .int l5), (6, .int l6)]) (j0 := 8) rfl rfl (by decide) rfl dX4_forcesFor_87 ?_
    refine rw_goto E (tgt := 51) (by decide) dX4_forcesFor_90 ?_
    refine WH.pick [2, 3, 4, 5, 6, 7, 8, 1, 0] rfl ?_
    exact hj51 _ _ _ _ _ _ _ _ _ hh
def s_X4_forcesFor_L51 (j31 : HS → Option Nat → Int32 → Int32 → Int32 → Int32 → Int32 → Option (Int32 × HS)) (h : Nat) : Nat → HS → Option Nat → Int32 → Int32 → Int32 → Int32 → Int32 → Int32 → Int32 → Option (Int32 × HS)
  | 0 => fun _ _ _ _ _ _ _ _ _ => none
  | n + 1 => s_X4_forcesFor_b51 j31 (s_X4_forcesFor_L51 j31 h n) h
set_option maxHeartbeats 4000000 in
set_option maxRecDepth 100000 in
theorem w_X4_forcesFor_L51 {p : Program} {l : Launch} {e : Env} {s : State} {m : MethodId} {args : Array Value} {below : List Frame} {meth : Method} {c : Code} {b0 : Nat} {G : hG} {S1 : HS} {r : Int32} {j31 : HS → Option Nat → Int32 → Int32 → Int32 → Int32 → Int32 → Option (Int32 × HS)} {h : Nat} (E : hE p s m args c b0 G cX4_forcesFor RX4 9 wsX4_forcesFor) (hrt : meth.sig.returnType = (some .int)) (hlk : meth.locks = false) (hj31 : ∀ (S : HS) (l1 : Option Nat) (l2 : Int32) (l3 : Int32) (l4 : Int32) (l5 : Int32) (l6 : Int32), j31 S l1 l2 l3 l4 l5 l6 = some (r, S1) → WH p l e rm_X4_forcesFor s m args below meth c b0 G 9 0 0 (MQ below (hQ b0 G (some (.int r)) S1) args s 0 0 (hA b0)) S 31 [(0, hrf b0 ((some h))), (1, hrf b0 l1), (2, .int l2), (3, .int l3), (4, .int l4), (5, .int l5), (6, .int l6)] []) : ∀ (n : Nat) (S : HS) (l1 : Option Nat) (l2 : Int32) (l3 : Int32) (l4 : Int32) (l5 : Int32) (l6 : Int32) (l7 : Int32) (l8 : Int32), s_X4_forcesFor_L51 j31 h n S l1 l2 l3 l4 l5 l6 l7 l8 = some (r, S1) → WH p l e rm_X4_forcesFor s m args below meth c b0 G 9 0 0 (MQ below (hQ b0 G (some (.int r)) S1) args s 0 0 (hA b0)) S 51 [(0, hrf b0 ((some h))), (1, hrf b0 l1), (2, .int l2), (3, .int l3), (4, .int l4), (5, .int l5), (6, .int l6), (7, .int l7), (8, .int l8)] [] := by
  intro n
  induction n with
  | zero => intro _ _ _ _ _ _ _ _ _ hh; exact absurd hh (by simp [s_X4_forcesFor_L51])
  | succ n ih => intro _ _ _ _ _ _ _ _ _ hh; exact w_X4_forcesFor_b51 E hrt hlk hj31 ih hh
def s_X4_forcesFor_b31 (j31 : HS → Option Nat → Int32 → Int32 → Int32 → Int32 → Int32 → Option (Int32 × HS)) (h : Nat) (S : HS) (l1 : Option Nat) (l2 : Int32) (l3 : Int32) (l4 : Int32) (l5 : Int32) (l6 : Int32) : Option (Int32 × HS) := if l5 ≤ l6 then (some (l4, S)) else (kO S ((some h)) 4 (fun a2 => kcv (s_X4_playBy S a2 l6 l3) (fun S1 => s_X4_forcesFor_L51 j31 h 100000 S1 l1 l2 l3 l4 l5 l6 0 0)))
set_option maxHeartbeats 4000000 in
set_option maxRecDepth 100000 in
theorem w_X4_forcesFor_b31 {p : Program} {l : Launch} {e : Env} {s : State} {m : MethodId} {args : Array Value} {below : List Frame} {meth : Method} {c : Code} {b0 : Nat} {G : hG} {S1 : HS} {r : Int32} {j31 : HS → Option Nat → Int32 → Int32 → Int32 → Int32 → Int32 → Option (Int32 × HS)} {h : Nat} {S : HS} {l1 : Option Nat} {l2 : Int32} {l3 : Int32} {l4 : Int32} {l5 : Int32} {l6 : Int32} (E : hE p s m args c b0 G cX4_forcesFor RX4 9 wsX4_forcesFor) (hrt : meth.sig.returnType = (some .int)) (hlk : meth.locks = false) (hj31 : ∀ (S : HS) (l1 : Option Nat) (l2 : Int32) (l3 : Int32) (l4 : Int32) (l5 : Int32) (l6 : Int32), j31 S l1 l2 l3 l4 l5 l6 = some (r, S1) → WH p l e rm_X4_forcesFor s m args below meth c b0 G 9 0 0 (MQ below (hQ b0 G (some (.int r)) S1) args s 0 0 (hA b0)) S 31 [(0, hrf b0 ((some h))), (1, hrf b0 l1), (2, .int l2), (3, .int l3), (4, .int l4), (5, .int l5), (6, .int l6)] []) (hh : s_X4_forcesFor_b31 j31 h S l1 l2 l3 l4 l5 l6 = some (r, S1)) : WH p l e rm_X4_forcesFor s m args below meth c b0 G 9 0 0 (MQ below (hQ b0 G (some (.int r)) S1) args s 0 0 (hA b0)) S 31 [(0, hrf b0 ((some h))), (1, hrf b0 l1), (2, .int l2), (3, .int l3), (4, .int l4), (5, .int l5), (6, .int l6)] [] := by
  have hh : (if l5 ≤ l6 then (some (l4, S)) else (kO S ((some h)) 4 (fun a2 => kcv (s_X4_playBy S a2 l6 l3) (fun S1 => s_X4_forcesFor_L51 j31 h 100000 S1 l1 l2 l3 l4 l5 l6 0 0)))) = some (r, S1) := hh
  refine rw_iload E (j0 := 6) rfl dX4_forcesFor_31 ?_
  refine rw_iload E (j0 := 5) rfl dX4_forcesFor_33 ?_
  refine rw_icmp_ge E hh (tgt := 126) (by decide) dX4_forcesFor_35 (fun hh => ?_) (fun hh => ?_)
  · refine rw_iload E (j0 := 4) rfl dX4_forcesFor_126 ?_
    exact rw_iret E hrt hlk hh (by decide) (by decide) dX4_forcesFor_128
  · refine rw_aload_n E (j0 := 0) rfl rfl dX4_forcesFor_38 ?_
    refine rw_iload E (j0 := 6) rfl dX4_forcesFor_39 ?_
    refine rw_iload_n E (j0 := 3) rfl rfl dX4_forcesFor_41 ?_
    refine rw_cVv E (As := [.int l6, .int l3]) hh (by decide) rfl (fun _ _ hq => c_X4_playBy l b0 G _ _ _ _ _ hq) (cwV 2 E.2.2.2.2.1 gX4_forcesFor_X4_playBy rfl rfl rfl (by decide +kernel) ⟨Nat.le_of_ble_eq_true rfl, Nat.le_of_ble_eq_true rfl⟩) rfl rfl (by (try simp only [List.map_cons, List.map_nil, List.sum_cons, List.sum_nil, hrf_cat, cat_i, cat_l, cat_r]) <;> decide) ⟨Nat.le_of_ble_eq_true rfl, Nat.le_of_ble_eq_true rfl⟩ dX4_forcesFor_42 (fun S1 hh => ?_)
    refine rw_iconst E (v := 0) (by decide) dX4_forcesFor_45 ?_
    refine rw_istore E (lv2 := [(7, .int 0), (0, hrf b0 ((some h))), (1, hrf b0 l1), (2, .int l2), (3, .int l3), (4, .int l4), (5, .int l5), (6, .int l6)]) (by decide) rfl dX4_forcesFor_46 ?_
    refine rw_iconst E (v := 0) (by decide) dX4_forcesFor_48 ?_
    refine rw_istore E (lv2 := [(8, .int 0), (7, .int 0), (0, hrf b0 ((some h))), (1, hrf b0 l1), (2, .int l2), (3, .int l3), (4, .int l4), (5, .int l5), (6, .int l6)]) (by decide) rfl dX4_forcesFor_49 ?_
    refine WH.pick [2, 3, 4, 5, 6, 7, 8, 1, 0] rfl ?_
    exact w_X4_forcesFor_L51 E hrt hlk hj31 100000 _ _ _ _ _ _ _ _ _ hh
def s_X4_forcesFor_L31 (h : Nat) : Nat → HS → Option Nat → Int32 → Int32 → Int32 → Int32 → Int32 → Option (Int32 × HS)
  | 0 => fun _ _ _ _ _ _ _ => none
  | n + 1 => s_X4_forcesFor_b31 (s_X4_forcesFor_L31 h n) h
set_option maxHeartbeats 4000000 in
set_option maxRecDepth 100000 in
theorem w_X4_forcesFor_L31 {p : Program} {l : Launch} {e : Env} {s : State} {m : MethodId} {args : Array Value} {below : List Frame} {meth : Method} {c : Code} {b0 : Nat} {G : hG} {S1 : HS} {r : Int32} {h : Nat} (E : hE p s m args c b0 G cX4_forcesFor RX4 9 wsX4_forcesFor) (hrt : meth.sig.returnType = (some .int)) (hlk : meth.locks = false) : ∀ (n : Nat) (S : HS) (l1 : Option Nat) (l2 : Int32) (l3 : Int32) (l4 : Int32) (l5 : Int32) (l6 : Int32), s_X4_forcesFor_L31 h n S l1 l2 l3 l4 l5 l6 = some (r, S1) → WH p l e rm_X4_forcesFor s m args below meth c b0 G 9 0 0 (MQ below (hQ b0 G (some (.int r)) S1) args s 0 0 (hA b0)) S 31 [(0, hrf b0 ((some h))), (1, hrf b0 l1), (2, .int l2), (3, .int l3), (4, .int l4), (5, .int l5), (6, .int l6)] [] := by
  intro n
  induction n with
  | zero => intro _ _ _ _ _ _ _ hh; exact absurd hh (by simp [s_X4_forcesFor_L31])
  | succ n ih => intro _ _ _ _ _ _ _ hh; exact w_X4_forcesFor_b31 E hrt hlk  ih hh
def s_X4_forcesFor_b26 (h : Nat) (S : HS) (l1 : Option Nat) (l2 : Int32) (l3 : Int32) (l4 : Int32) (k0 : Int32) : Option (Int32 × HS) := s_X4_forcesFor_L31 h 100000 S l1 l2 l3 l4 k0 0
set_option maxHeartbeats 4000000 in
set_option maxRecDepth 100000 in
theorem w_X4_forcesFor_b26 {p : Program} {l : Launch} {e : Env} {s : State} {m : MethodId} {args : Array Value} {below : List Frame} {meth : Method} {c : Code} {b0 : Nat} {G : hG} {S1 : HS} {r : Int32} {h : Nat} {S : HS} {l1 : Option Nat} {l2 : Int32} {l3 : Int32} {l4 : Int32} {k0 : Int32} (E : hE p s m args c b0 G cX4_forcesFor RX4 9 wsX4_forcesFor) (hrt : meth.sig.returnType = (some .int)) (hlk : meth.locks = false) (hh : s_X4_forcesFor_b26 h S l1 l2 l3 l4 k0 = some (r, S1)) : WH p l e rm_X4_forcesFor s m args below meth c b0 G 9 0 0 (MQ below (hQ b0 G (some (.int r)) S1) args s 0 0 (hA b0)) S 26 [(0, hrf b0 ((some h))), (1, hrf b0 l1), (2, .int l2), (3, .int l3), (4, .int l4)] [.int k0] := by
  have hh : (s_X4_forcesFor_L31 h 100000 S l1 l2 l3 l4 k0 0) = some (r, S1) := hh
  refine rw_istore E (lv2 := [(5, .int k0), (0, hrf b0 ((some h))), (1, hrf b0 l1), (2, .int l2), (3, .int l3), (4, .int l4)]) (by decide) rfl dX4_forcesFor_26 ?_
  refine rw_iconst E (v := 0) (by decide) dX4_forcesFor_28 ?_
  refine rw_istore E (lv2 := [(6, .int 0), (5, .int k0), (0, hrf b0 ((some h))), (1, hrf b0 l1), (2, .int l2), (3, .int l3), (4, .int l4)]) (by decide) rfl dX4_forcesFor_29 ?_
  refine WH.pick [2, 3, 4, 5, 6, 1, 0] rfl ?_
  exact w_X4_forcesFor_L31 E hrt hlk 100000 _ _ _ _ _ _ _ hh
def s_X4_forcesFor (S : HS) (h : Nat) (l1 : Option Nat) (l2 : Int32) (l3 : Int32) : Option (Int32 × HS) := if l3 = 1 then (s_X4_forcesFor_b26 h S l1 l2 l3 0 10) else (if l3 = 2 then (s_X4_forcesFor_b26 h S l1 l2 l3 0 100) else (s_X4_forcesFor_b26 h S l1 l2 l3 0 1000))
set_option maxHeartbeats 4000000 in
set_option maxRecDepth 100000 in
theorem c_X4_forcesFor (l : Launch) (b0 : Nat) (G : hG) (S S1 : HS) (h : Nat) (l1 : Option Nat) (l2 : Int32) (l3 : Int32) (r : Int32) (hh : s_X4_forcesFor S h l1 l2 l3 = some (r, S1)) : MH l yX4_forcesFor wsX4_forcesFor rm_X4_forcesFor b0 G S [hrf b0 (some h), hrf b0 l1, .int l2, .int l3] (some (.int r)) S1 0 0 := by
  refine MH.ofW (cc := cX4_forcesFor) (maxL := 9) (ret := (some .int)) (own := RX4) (lv0 := [(0, hrf b0 ((some h))), (1, hrf b0 l1), (2, .int l2), (3, .int l3)]) (by decide) rfl rfl (by simp [lg_sl, hrf_cat, cat_i, cat_l, cat_r]) (by simp only [lv_args, hrf_cat, cat_i, cat_l, cat_r]; rfl) ?_
  intro p e s m args below meth c E hrt hlk hnm
  have hh : (if l3 = 1 then (s_X4_forcesFor_b26 h S l1 l2 l3 0 10) else (if l3 = 2 then (s_X4_forcesFor_b26 h S l1 l2 l3 0 100) else (s_X4_forcesFor_b26 h S l1 l2 l3 0 1000))) = some (r, S1) := hh
  refine rw_iconst E (v := 0) (by decide) dX4_forcesFor_0 ?_
  refine rw_istore E (lv2 := [(4, .int 0), (0, hrf b0 ((some h))), (1, hrf b0 l1), (2, .int l2), (3, .int l3)]) (by decide) rfl dX4_forcesFor_1 ?_
  refine rw_iload_n E (j0 := 4) rfl rfl dX4_forcesFor_3 ?_
  refine rw_iconst E (v := 1) (by decide) dX4_forcesFor_4 ?_
  refine rw_icmp_ne E hh (tgt := 13) (by decide) dX4_forcesFor_5 (fun hh => ?_) (fun hh => ?_)
  · refine rw_iload_n E (j0 := 4) rfl rfl dX4_forcesFor_13 ?_
    refine rw_iconst E (v := 2) (by decide) dX4_forcesFor_14 ?_
    refine rw_icmp_ne E hh (tgt := 23) (by decide) dX4_forcesFor_15 (fun hh => ?_) (fun hh => ?_)
    · refine rw_sipush E (v := 1000) (by decide) dX4_forcesFor_23 ?_
      refine WH.pick [1, 2, 3, 4, 0] rfl ?_
      exact w_X4_forcesFor_b26 E hrt hlk hh
    · refine rw_bipush E (v := 100) (by decide) dX4_forcesFor_18 ?_
      refine rw_goto E (tgt := 26) (by decide) dX4_forcesFor_20 ?_
      refine WH.pick [1, 2, 3, 4, 0] rfl ?_
      exact w_X4_forcesFor_b26 E hrt hlk hh
  · refine rw_bipush E (v := 10) (by decide) dX4_forcesFor_8 ?_
    refine rw_goto E (tgt := 26) (by decide) dX4_forcesFor_10 ?_
    refine WH.pick [1, 2, 3, 4, 0] rfl ?_
    exact w_X4_forcesFor_b26 E hrt hlk hh

/-! HummingDisc$Hand.<init>()V -/
abbrev rm_X5_init : Room := { frames := 1, cells := 1, slots := 6, locals := 20 }
theorem i_X5_init_5 : ∀ w ∈ wsX50, w ∈ wsX5_init := fun _ h => List.mem_cons_of_mem _ (List.mem_append_right _ (h))
def s_X5_init (S : HS) (h : Nat) : Option (HS) := kO S ((some h)) 5 (fun _ => knewA S 20 6 6 (fun o1 S2 => kwP S2 ((some h)) 5 0 o1 (fun S3 => some S3)))
set_option maxHeartbeats 4000000 in
set_option maxRecDepth 100000 in
theorem c_X5_init (l : Launch) (b0 : Nat) (G : hG) (S S1 : HS) (h : Nat) (hh : s_X5_init S h  = some S1) : MH l yX5_init wsX5_init rm_X5_init b0 G S [hrf b0 (some h)] none S1 1 6 := by
  refine MH.ofW (cc := cX5_init) (maxL := 1) (ret := none) (own := RX5) (lv0 := [(0, hrf b0 ((some h)))]) (by decide) rfl rfl (Nat.le_of_ble_eq_true rfl) rfl ?_
  intro p e s m args below meth c E hrt hlk hnm
  have hh : (kO S ((some h)) 5 (fun _ => knewA S 20 6 6 (fun o1 S2 => kwP S2 ((some h)) 5 0 o1 (fun S3 => some S3)))) = some S1 := hh
  have hc : 0 + 1 ≤ 1 := by decide
  have hs : 0 + 6 ≤ 6 := by decide
  refine rw_aload_n E (j0 := 0) rfl rfl dX5_init_0 ?_
  refine rw_objI E hh (List.mem_of_getElem? (i := 1) (by decide +kernel)) (List.mem_of_getElem? (i := 2) (by decide +kernel)) (List.mem_of_getElem? (i := 3) (by decide +kernel)) (by decide) (by (try simp only [List.map_cons, List.map_nil, List.sum_cons, List.sum_nil, hrf_cat, cat_i, cat_l, cat_r]) <;> decide) dX5_init_1 (fun hh => ?_)
  refine rw_aload_n E (j0 := 0) rfl rfl dX5_init_4 ?_
  refine rw_bipush E (v := 6) (by decide) dX5_init_5 ?_
  refine rw_newq E hh (t0 := 7) (by decide) (by decide) (fun _ => rfl) (fun q => q.1.2.2.2.2.1) (List.mem_of_getElem? (i := 4) (by decide +kernel)) (show _ ≤ 1 by omega) (show _ ≤ 6 by omega) dX5_init_7 (fun o1 S2 hh => ?_)
  refine rw_putP E hh (C := RX5) (T := TX5) (N := 2) (ty0 := tyX5) rfl tyX5_ok nmX5 (by decide) i_X5_init_5 (by decide) rfl (List.mem_of_getElem? (i := 5) (by decide +kernel)) rfl (Or.inr ⟨rfl, hnm, rfl⟩) (Or.inr ⟨_, rfl⟩) dX5_init_10 (fun S3 hh => ?_)
  exact rw_vret E hrt hlk hh (show _ ≤ 1 by omega) (show _ ≤ 6 by omega) dX5_init_13

/-! HummingDisc$Hand.hasRoom()Z -/
abbrev rm_X5_hasRoom : Room := { frames := 0, cells := 0, slots := 0, locals := 0 }
theorem i_X5_hasRoom_5 : ∀ w ∈ wsX50, w ∈ wsX5_hasRoom := fun _ h => List.mem_cons_of_mem _ (List.mem_append_right _ (h))
def s_X5_hasRoom (S : HS) (h : Nat) : Option (Int32 × HS) := kI S ((some h)) 5 1 (fun v1 => if 6 ≤ v1 then (kzr 0 S) else (kzr 1 S))
set_option maxHeartbeats 4000000 in
set_option maxRecDepth 100000 in
theorem c_X5_hasRoom (l : Launch) (b0 : Nat) (G : hG) (S S1 : HS) (h : Nat) (r : Int32) (hh : s_X5_hasRoom S h  = some (r, S1)) : MH l yX5_hasRoom wsX5_hasRoom rm_X5_hasRoom b0 G S [hrf b0 (some h)] (some (.int r)) S1 0 0 := by
  refine MH.ofW (cc := cX5_hasRoom) (maxL := 1) (ret := (some .boolean)) (own := RX5) (lv0 := [(0, hrf b0 ((some h)))]) (by decide) rfl rfl (Nat.le_of_ble_eq_true rfl) rfl ?_
  intro p e s m args below meth c E hrt hlk hnm
  have hh : (kI S ((some h)) 5 1 (fun v1 => if 6 ≤ v1 then (kzr 0 S) else (kzr 1 S))) = some (r, S1) := hh
  refine rw_aload_n E (j0 := 0) rfl rfl dX5_hasRoom_0 ?_
  refine rw_getI E hh (C := RX5) (T := TX5) (N := 2) rfl (by decide) i_X5_hasRoom_5 (by decide) rfl (List.mem_of_getElem? (i := 1) (by decide +kernel)) rfl dX5_hasRoom_1 (fun v1 hh => ?_)
  refine rw_bipush E (v := 6) (by decide) dX5_hasRoom_4 ?_
  refine rw_icmp_ge E hh (tgt := 13) (by decide) dX5_hasRoom_6 (fun hh => ?_) (fun hh => ?_)
  · refine rw_iconst E (v := 0) (by decide) dX5_hasRoom_13 ?_
    exact rw_zret E hrt hlk hh (by decide) (by decide) dX5_hasRoom_14
  · refine rw_iconst E (v := 1) (by decide) dX5_hasRoom_9 ?_
    refine rw_goto E (tgt := 14) (by decide) dX5_hasRoom_10 ?_
    exact rw_zret E hrt hlk hh (by decide) (by decide) dX5_hasRoom_14

/-! HummingDisc$Hand.add(LHummingDisc$Rule;)V -/
abbrev rm_X5_add : Room := { frames := 1, cells := 0, slots := 0, locals := 20 }
theorem i_X5_add_5 : ∀ w ∈ wsX50, w ∈ wsX5_add := fun _ h => List.mem_cons_of_mem _ (List.mem_append_right _ (h))
def s_X5_add (S : HS) (h : Nat) (l1 : Option Nat) : Option (HS) := kO S ((some h)) 5 (fun a3 => kc (s_X5_hasRoom S a3 ) (fun v2 S1 => if v2 = 0 then (some S1) else (kP S1 ((some h)) 5 0 (fun v4 => kI S1 ((some h)) 5 1 (fun v5 => kwI S1 ((some h)) 5 1 (v5 + 1) (fun S6 => kwAP S6 v4 20 7 v5 l1 (fun S7 => some S7)))))))
set_option maxHeartbeats 4000000 in
set_option maxRecDepth 100000 in
theorem c_X5_add (l : Launch) (b0 : Nat) (G : hG) (S S1 : HS) (h : Nat) (l1 : Option Nat) (hh : s_X5_add S h l1 = some S1) : MH l yX5_add wsX5_add rm_X5_add b0 G S [hrf b0 (some h), hrf b0 l1] none S1 0 0 := by
  refine MH.ofW (cc := cX5_add) (maxL := 2) (ret := none) (own := RX5) (lv0 := [(0, hrf b0 ((some h))), (1, hrf b0 l1)]) (by decide) rfl rfl (by simp [lg_sl, hrf_cat, cat_i, cat_l, cat_r]) (by simp only [lv_args, hrf_cat, cat_i, cat_l, cat_r]; rfl) ?_
  intro p e s m args below meth c E hrt hlk hnm
  have hh : (kO S ((some h)) 5 (fun a3 => kc (s_X5_hasRoom S a3 ) (fun v2 S1 => if v2 = 0 then (some S1) else (kP S1 ((some h)) 5 0 (fun v4 => kI S1 ((some h)) 5 1 (fun v5 => kwI S1 ((some h)) 5 1 (v5 + 1) (fun S6 => kwAP S6 v4 20 7 v5 l1 (fun S7 => some S7)))))))) = some S1 := hh
  refine rw_aload_n E (j0 := 0) rfl rfl dX5_add_0 ?_
  refine rw_cVi E (As := []) hh (by decide) rfl (fun _ _ _ hq => c_X5_hasRoom l b0 G _ _ _ _ hq) (cwV 0 E.2.2.2.2.1 gX5_add_X5_hasRoom rfl rfl rfl (by decide +kernel) ⟨Nat.le_of_ble_eq_true rfl, Nat.le_of_ble_eq_true rfl⟩) rfl rfl (by (try simp only [List.map_cons, List.map_nil, List.sum_cons, List.sum_nil, hrf_cat, cat_i, cat_l, cat_r]) <;> decide) ⟨Nat.le_of_ble_eq_true rfl, Nat.le_of_ble_eq_true rfl⟩ dX5_add_1 (fun v2 S1 hh => ?_)
  refine rw_if_eq E hh (tgt := 24) (by decide) dX5_add_4 (fun hh => ?_) (fun hh => ?_)
  · exact rw_vret E hrt hlk hh (by decide) (by decide) dX5_add_24
  · refine rw_aload_n E (j0 := 0) rfl rfl dX5_add_7 ?_
    refine rw_getP E hh (C := RX5) (T := TX5) (N := 2) rfl (by decide) i_X5_add_5 (by decide) rfl (List.mem_of_getElem? (i := 1) (by decide +kernel)) rfl dX5_add_8 (fun v4 hh => ?_)
    refine rw_aload_n E (j0 := 0) rfl rfl dX5_add_11 ?_
    refine rw_dup E (hrf_cat _ _) dX5_add_12 ?_
    refine rw_getI E hh (C := RX5) (T := TX5) (N := 2) rfl (by decide) i_X5_add_5 (by decide) rfl (List.mem_of_getElem? (i := 2) (by decide +kernel)) rfl dX5_add_13 (fun v5 hh => ?_)
    refine rw_dup_x1 E rfl (hrf_cat _ _) dX5_add_16 ?_
    refine rw_iconst E (v := 1) (by decide) dX5_add_17 ?_
    refine rw_iadd E dX5_add_18 ?_
    refine rw_putI E hh (C := RX5) (T := TX5) (N := 2) (ty0 := tyX5) rfl tyX5_ok nmX5 (by decide) i_X5_add_5 (by decide) rfl (List.mem_of_getElem? (i := 2) (by decide +kernel)) rfl (Or.inl rfl) rfl dX5_add_19 (fun S6 hh => ?_)
    refine rw_aload_n E (j0 := 1) rfl rfl dX5_add_22 ?_
    refine rw_aast E hh (t0 := 7) (by decide) (by decide) (r := (RX7, TX7, 4)) rfl (fun _ => rfl) dX5_add_23 (fun S7 hh => ?_)
    exact rw_vret E hrt hlk hh (by decide) (by decide) dX5_add_24

/-! HummingDisc$Run.felt(I)I -/
abbrev rm_X8_felt : Room := { frames := 2, cells := 0, slots := 0, locals := 42 }
theorem i_X8_felt_8 : ∀ w ∈ wsX80, w ∈ wsX8_felt := fun _ h => List.mem_cons_of_mem _ (List.mem_append_left _ (List.mem_append_right _ (h)))
def s_X8_felt (S : HS) (h : Nat) (l1 : Int32) : Option (Int32 × HS) := if l1 = 0 then (kI S ((some h)) 8 3 (fun v1 => some (fabs v1, S))) else (if l1 = 1 then (kI S ((some h)) 8 5 (fun v2 => some (fabs v2, S))) else (if l1 = 2 then (kP S ((some h)) 8 1 (fun v3 => kI S ((some h)) 8 3 (fun v4 => kO S v3 2 (fun a7 => kc (s_X2_shortBy S a7 (fabs v4)) (fun v6 S5 => kP S5 ((some h)) 8 1 (fun v8 => kI S5 ((some h)) 8 4 (fun v9 => kO S5 v8 2 (fun a12 => kc (s_X2_shortBy S5 a12 (fabs v9)) (fun v11 S10 => some (v6 - v11, S10)))))))))) else (kI S ((some h)) 8 8 (fun v13 => some (v13, S)))))
set_option maxHeartbeats 4000000 in
set_option maxRecDepth 100000 in
theorem c_X8_felt (l : Launch) (b0 : Nat) (G : hG) (S S1 : HS) (h : Nat) (l1 : Int32) (r : Int32) (hh : s_X8_felt S h l1 = some (r, S1)) : MH l yX8_felt wsX8_felt rm_X8_felt b0 G S [hrf b0 (some h), .int l1] (some (.int r)) S1 0 0 := by
  refine MH.ofW (cc := cX8_felt) (maxL := 2) (ret := (some .int)) (own := RX8) (lv0 := [(0, hrf b0 ((some h))), (1, .int l1)]) (by decide) rfl rfl (Nat.le_of_ble_eq_true rfl) rfl ?_
  intro p e s m args below meth c E hrt hlk hnm
  have hh : (if l1 = 0 then (kI S ((some h)) 8 3 (fun v1 => some (fabs v1, S))) else (if l1 = 1 then (kI S ((some h)) 8 5 (fun v2 => some (fabs v2, S))) else (if l1 = 2 then (kP S ((some h)) 8 1 (fun v3 => kI S ((some h)) 8 3 (fun v4 => kO S v3 2 (fun a7 => kc (s_X2_shortBy S a7 (fabs v4)) (fun v6 S5 => kP S5 ((some h)) 8 1 (fun v8 => kI S5 ((some h)) 8 4 (fun v9 => kO S5 v8 2 (fun a12 => kc (s_X2_shortBy S5 a12 (fabs v9)) (fun v11 S10 => some (v6 - v11, S10)))))))))) else (kI S ((some h)) 8 8 (fun v13 => some (v13, S)))))) = some (r, S1) := hh
  refine rw_iload_n E (j0 := 1) rfl rfl dX8_felt_0 ?_
  by_cases c1_0 : l1 = 0
  · rw [if_pos c1_0] at hh
    refine rw_swin E (v := 0) (tgt := 28) dX8_felt_1 c1_0 (by decide) (by decide) rfl (by decide) ?_
    refine rw_aload_n E (j0 := 0) rfl rfl dX8_felt_28 ?_
    refine rw_getI E hh (C := RX8) (T := TX8) (N := 12) rfl (by decide) i_X8_felt_8 (by decide) rfl (List.mem_of_getElem? (i := 1) (by decide +kernel)) rfl dX8_felt_29 (fun v1 hh => ?_)
    refine rw_mabs E ⟨by decide, (by (try simp only [List.map_cons, List.map_nil, List.sum_cons, List.sum_nil, hrf_cat, cat_i, cat_l, cat_r]) <;> decide), by decide, by decide⟩ (List.mem_of_getElem? (i := 2) (by decide +kernel)) (List.mem_of_getElem? (i := 3) (by decide +kernel)) (List.mem_of_getElem? (i := 4) (by decide +kernel)) (List.mem_of_getElem? (i := 5) (by decide +kernel)) dX8_felt_32 ?_
    exact rw_iret E hrt hlk hh (by decide) (by decide) dX8_felt_35
  · rw [if_neg c1_0] at hh
    by_cases c1_1 : l1 = 1
    · rw [if_pos c1_1] at hh
      refine rw_swin E (v := 1) (tgt := 36) dX8_felt_1 c1_1 (by decide) (by decide) rfl (by decide) ?_
      refine rw_aload_n E (j0 := 0) rfl rfl dX8_felt_36 ?_
      refine rw_getI E hh (C := RX8) (T := TX8) (N := 12) rfl (by decide) i_X8_felt_8 (by decide) rfl (List.mem_of_getElem? (i := 6) (by decide +kernel)) rfl dX8_felt_37 (fun v2 hh => ?_)
      refine rw_mabs E ⟨by decide, (by (try simp only [List.map_cons, List.map_nil, List.sum_cons, List.sum_nil, hrf_cat, cat_i, cat_l, cat_r]) <;> decide), by decide, by decide⟩ (List.mem_of_getElem? (i := 2) (by decide +kernel)) (List.mem_of_getElem? (i := 3) (by decide +kernel)) (List.mem_of_getElem? (i := 4) (by decide +kernel)) (List.mem_of_getElem? (i := 5) (by decide +kernel)) dX8_felt_40 ?_
      exact rw_iret E hrt hlk hh (by decide) (by decide) dX8_felt_43
    · rw [if_neg c1_1] at hh
      by_cases c1_2 : l1 = 2
      · rw [if_pos c1_2] at hh
        refine rw_swin E (v := 2) (tgt := 44) dX8_felt_1 c1_2 (by decide) (by decide) rfl (by decide) ?_
        refine rw_aload_n E (j0 := 0) rfl rfl dX8_felt_44 ?_
        refine rw_getP E hh (C := RX8) (T := TX8) (N := 12) rfl (by decide) i_X8_felt_8 (by decide) rfl (List.mem_of_getElem? (i := 7) (by decide +kernel)) rfl dX8_felt_45 (fun v3 hh => ?_)
        refine rw_aload_n E (j0 := 0) rfl rfl dX8_felt_48 ?_
        refine rw_getI E hh (C := RX8) (T := TX8) (N := 12) rfl (by decide) i_X8_felt_8 (by decide) rfl (List.mem_of_getElem? (i := 1) (by decide +kernel)) rfl dX8_felt_49 (fun v4 hh => ?_)
        refine rw_mabs E ⟨by decide, (by (try simp only [List.map_cons, List.map_nil, List.sum_cons, List.sum_nil, hrf_cat, cat_i, cat_l, cat_r]) <;> decide), by decide, by decide⟩ (List.mem_of_getElem? (i := 2) (by decide +kernel)) (List.mem_of_getElem? (i := 3) (by decide +kernel)) (List.mem_of_getElem? (i := 4) (by decide +kernel)) (List.mem_of_getElem? (i := 5) (by decide +kernel)) dX8_felt_52 ?_
        refine rw_cVi E (As := [.int (fabs v4)]) hh (by decide) rfl (fun _ _ _ hq => c_X2_shortBy l b0 G _ _ _ _ _ hq) (cwV 1 E.2.2.2.2.1 gX8_felt_X2_shortBy rfl rfl rfl (by decide +kernel) ⟨Nat.le_of_ble_eq_true rfl, Nat.le_of_ble_eq_true rfl⟩) rfl rfl (by (try simp only [List.map_cons, List.map_nil, List.sum_cons, List.sum_nil, hrf_cat, cat_i, cat_l, cat_r]) <;> decide) ⟨Nat.le_of_ble_eq_true rfl, Nat.le_of_ble_eq_true rfl⟩ dX8_felt_55 (fun v6 S5 hh => ?_)
        refine rw_aload_n E (j0 := 0) rfl rfl dX8_felt_58 ?_
        refine rw_getP E hh (C := RX8) (T := TX8) (N := 12) rfl (by decide) i_X8_felt_8 (by decide) rfl (List.mem_of_getElem? (i := 7) (by decide +kernel)) rfl dX8_felt_59 (fun v8 hh => ?_)
        refine rw_aload_n E (j0 := 0) rfl rfl dX8_felt_62 ?_
        refine rw_getI E hh (C := RX8) (T := TX8) (N := 12) rfl (by decide) i_X8_felt_8 (by decide) rfl (List.mem_of_getElem? (i := 8) (by decide +kernel)) rfl dX8_felt_63 (fun v9 hh => ?_)
        refine rw_mabs E ⟨by decide, (by (try simp only [List.map_cons, List.map_nil, List.sum_cons, List.sum_nil, hrf_cat, cat_i, cat_l, cat_r]) <;> decide), by decide, by decide⟩ (List.mem_of_getElem? (i := 2) (by decide +kernel)) (List.mem_of_getElem? (i := 3) (by decide +kernel)) (List.mem_of_getElem? (i := 4) (by decide +kernel)) (List.mem_of_getElem? (i := 5) (by decide +kernel)) dX8_felt_66 ?_
        refine rw_cVi E (As := [.int (fabs v9)]) hh (by decide) rfl (fun _ _ _ hq => c_X2_shortBy l b0 G _ _ _ _ _ hq) (cwV 1 E.2.2.2.2.1 gX8_felt_X2_shortBy rfl rfl rfl (by decide +kernel) ⟨Nat.le_of_ble_eq_true rfl, Nat.le_of_ble_eq_true rfl⟩) rfl rfl (by (try simp only [List.map_cons, List.map_nil, List.sum_cons, List.sum_nil, hrf_cat, cat_i, cat_l, cat_r]) <;> decide) ⟨Nat.le_of_ble_eq_true rfl, Nat.le_of_ble_eq_true rfl⟩ dX8_felt_69 (fun v11 S10 hh => ?_)
        refine rw_isub E dX8_felt_72 ?_
        exact rw_iret E hrt hlk hh (by decide) (by decide) dX8_felt_73
      · rw [if_neg c1_2] at hh
        have n0 := lv_neT c1_0 (a := 0) rfl
        have n1 := lv_neT c1_1 (a := 1) rfl
        have n2 := lv_neT c1_2 (a := 2) rfl
        refine rw_swout E (tgt := 74) dX8_felt_1 (by omega) (by decide) ?_
        refine rw_aload_n E (j0 := 0) rfl rfl dX8_felt_74 ?_
        refine rw_getI E hh (C := RX8) (T := TX8) (N := 12) rfl (by decide) i_X8_felt_8 (by decide) rfl (List.mem_of_getElem? (i := 9) (by decide +kernel)) rfl dX8_felt_75 (fun v13 hh => ?_)
        exact rw_iret E hrt hlk hh (by decide) (by decide) dX8_felt_78

/-! HummingDisc$Rule.isMetBy(LHummingDisc$Run;)Z -/
abbrev rm_X7_isMetBy : Room := { frames := 3, cells := 0, slots := 0, locals := 63 }
theorem i_X7_isMetBy_7 : ∀ w ∈ wsX70, w ∈ wsX7_isMetBy := fun _ h => List.mem_cons_of_mem _ (List.mem_append_left _ (List.mem_append_left _ (List.mem_append_right _ (h))))
def s_X7_isMetBy (S : HS) (h : Nat) (l1 : Option Nat) : Option (Int32 × HS) := kI S ((some h)) 7 0 (fun v1 => kO S l1 8 (fun a4 => kc (s_X8_felt S a4 v1) (fun v3 S2 => kI S2 ((some h)) 7 1 (fun v5 => if v5 = 0 then (kI S2 ((some h)) 7 2 (fun v6 => if v6 ≤ v3 then (kzr 0 S2) else (kzr 1 S2))) else (kI S2 ((some h)) 7 2 (fun v7 => if v3 ≤ v7 then (kzr 0 S2) else (kzr 1 S2)))))))
set_option maxHeartbeats 4000000 in
set_option maxRecDepth 100000 in
theorem c_X7_isMetBy (l : Launch) (b0 : Nat) (G : hG) (S S1 : HS) (h : Nat) (l1 : Option Nat) (r : Int32) (hh : s_X7_isMetBy S h l1 = some (r, S1)) : MH l yX7_isMetBy wsX7_isMetBy rm_X7_isMetBy b0 G S [hrf b0 (some h), hrf b0 l1] (some (.int r)) S1 0 0 := by
  refine MH.ofW (cc := cX7_isMetBy) (maxL := 3) (ret := (some .boolean)) (own := RX7) (lv0 := [(0, hrf b0 ((some h))), (1, hrf b0 l1)]) (by decide) rfl rfl (by simp [lg_sl, hrf_cat, cat_i, cat_l, cat_r]) (by simp only [lv_args, hrf_cat, cat_i, cat_l, cat_r]; rfl) ?_
  intro p e s m args below meth c E hrt hlk hnm
  have hh : (kI S ((some h)) 7 0 (fun v1 => kO S l1 8 (fun a4 => kc (s_X8_felt S a4 v1) (fun v3 S2 => kI S2 ((some h)) 7 1 (fun v5 => if v5 = 0 then (kI S2 ((some h)) 7 2 (fun v6 => if v6 ≤ v3 then (kzr 0 S2) else (kzr 1 S2))) else (kI S2 ((some h)) 7 2 (fun v7 => if v3 ≤ v7 then (kzr 0 S2) else (kzr 1 S2)))))))) = some (r, S1) := hh
  refine rw_aload_n E (j0 := 1) rfl rfl dX7_isMetBy_0 ?_
  refine rw_aload_n E (j0 := 0) rfl rfl dX7_isMetBy_1 ?_
  refine rw_getI E hh (C := RX7) (T := TX7) (N := 4) rfl (by decide) i_X7_isMetBy_7 (by decide) rfl (List.mem_of_getElem? (i := 1) (by decide +kernel)) rfl dX7_isMetBy_2 (fun v1 hh => ?_)
  refine rw_cVi E (As := [.int v1]) hh (by decide) rfl (fun _ _ _ hq => c_X8_felt l b0 G _ _ _ _ _ hq) (cwV 1 E.2.2.2.2.1 gX7_isMetBy_X8_felt rfl rfl rfl (by decide +kernel) ⟨Nat.le_of_ble_eq_true rfl, Nat.le_of_ble_eq_true rfl⟩) rfl rfl (by (try simp only [List.map_cons, List.map_nil, List.sum_cons, List.sum_nil, hrf_cat, cat_i, cat_l, cat_r]) <;> decide) ⟨Nat.le_of_ble_eq_true rfl, Nat.le_of_ble_eq_true rfl⟩ dX7_isMetBy_5 (fun v3 S2 hh => ?_)
  refine rw_istore_n E (i := 2) (lv2 := [(2, .int v3), (0, hrf b0 ((some h))), (1, hrf b0 l1)]) rfl (by decide) (by simp [lvs, lvs2, hrf_cat]) dX7_isMetBy_8 ?_
  refine rw_aload_n E (j0 := 1) rfl rfl dX7_isMetBy_9 ?_
  refine rw_getI E hh (C := RX7) (T := TX7) (N := 4) rfl (by decide) i_X7_isMetBy_7 (by decide) rfl (List.mem_of_getElem? (i := 2) (by decide +kernel)) rfl dX7_isMetBy_10 (fun v5 hh => ?_)
  refine rw_if_eq E hh (tgt := 32) (by decide) dX7_isMetBy_13 (fun hh => ?_) (fun hh => ?_)
  · refine rw_iload_n E (j0 := 0) rfl rfl dX7_isMetBy_32 ?_
    refine rw_aload_n E (j0 := 1) rfl rfl dX7_isMetBy_33 ?_
    refine rw_getI E hh (C := RX7) (T := TX7) (N := 4) rfl (by decide) i_X7_isMetBy_7 (by decide) rfl (List.mem_of_getElem? (i := 3) (by decide +kernel)) rfl dX7_isMetBy_34 (fun v6 hh => ?_)
    refine rw_icmp_ge E hh (tgt := 44) (by decide) dX7_isMetBy_37 (fun hh => ?_) (fun hh => ?_)
    · refine rw_iconst E (v := 0) (by decide) dX7_isMetBy_44 ?_
      exact rw_zret E hrt hlk hh (by decide) (by decide) dX7_isMetBy_45
    · refine rw_iconst E (v := 1) (by decide) dX7_isMetBy_40 ?_
      refine rw_goto E (tgt := 45) (by decide) dX7_isMetBy_41 ?_
      exact rw_zret E hrt hlk hh (by decide) (by decide) dX7_isMetBy_45
  · refine rw_iload_n E (j0 := 0) rfl rfl dX7_isMetBy_16 ?_
    refine rw_aload_n E (j0 := 1) rfl rfl dX7_isMetBy_17 ?_
    refine rw_getI E hh (C := RX7) (T := TX7) (N := 4) rfl (by decide) i_X7_isMetBy_7 (by decide) rfl (List.mem_of_getElem? (i := 3) (by decide +kernel)) rfl dX7_isMetBy_18 (fun v7 hh => ?_)
    refine rw_icmp_le E hh (tgt := 28) (by decide) dX7_isMetBy_21 (fun hh => ?_) (fun hh => ?_)
    · refine rw_iconst E (v := 0) (by decide) dX7_isMetBy_28 ?_
      refine rw_goto E (tgt := 45) (by decide) dX7_isMetBy_29 ?_
      exact rw_zret E hrt hlk hh (by decide) (by decide) dX7_isMetBy_45
    · refine rw_iconst E (v := 1) (by decide) dX7_isMetBy_24 ?_
      refine rw_goto E (tgt := 45) (by decide) dX7_isMetBy_25 ?_
      exact rw_zret E hrt hlk hh (by decide) (by decide) dX7_isMetBy_45

/-! HummingDisc$Hand.pullIn(LHummingDisc$Run;)I -/
abbrev rm_X5_pullIn : Room := { frames := 4, cells := 0, slots := 0, locals := 85 }
theorem i_X5_pullIn_5 : ∀ w ∈ wsX50, w ∈ wsX5_pullIn := fun _ h => List.mem_cons_of_mem _ (List.mem_append_left _ (List.mem_append_left _ (List.mem_append_left _ (List.mem_append_right _ (h)))))
theorem i_X5_pullIn_7 : ∀ w ∈ wsX70, w ∈ wsX5_pullIn := fun _ h => List.mem_cons_of_mem _ (List.mem_append_left _ (List.mem_append_left _ (List.mem_append_right _ (h))))
def s_X5_pullIn_b2 (j2 : HS → Option Nat → Int32 → Option (Int32 × HS)) (h : Nat) (S : HS) (l1 : Option Nat) (l2 : Int32) : Option (Int32 × HS) := kI S ((some h)) 5 1 (fun v1 => if v1 ≤ l2 then (some (0, S)) else (kP S ((some h)) 5 0 (fun v2 => kAP S v2 20 l2 (fun v3 => kO S v3 7 (fun a6 => kc (s_X7_isMetBy S a6 l1) (fun v5 S4 => if v5 = 0 then (j2 S4 l1 (l2 + 1)) else (kP S4 ((some h)) 5 0 (fun v7 => kAP S4 v7 20 l2 (fun v8 => kI S4 v8 7 3 (fun v9 => some (v9, S4)))))))))))
set_option maxHeartbeats 4000000 in
set_option maxRecDepth 100000 in
theorem w_X5_pullIn_b2 {p : Program} {l : Launch} {e : Env} {s : State} {m : MethodId} {args : Array Value} {below : List Frame} {meth : Method} {c : Code} {b0 : Nat} {G : hG} {S1 : HS} {r : Int32} {j2 : HS → Option Nat → Int32 → Option (Int32 × HS)} {h : Nat} {S : HS} {l1 : Option Nat} {l2 : Int32} (E : hE p s m args c b0 G cX5_pullIn RX5 3 wsX5_pullIn) (hrt : meth.sig.returnType = (some .int)) (hlk : meth.locks = false) (hj2 : ∀ (S : HS) (l1 : Option Nat) (l2 : Int32), j2 S l1 l2 = some (r, S1) → WH p l e rm_X5_pullIn s m args below meth c b0 G 3 0 0 (MQ below (hQ b0 G (some (.int r)) S1) args s 0 0 (hA b0)) S 2 [(0, hrf b0 ((some h))), (1, hrf b0 l1), (2, .int l2)] []) (hh : s_X5_pullIn_b2 j2 h S l1 l2 = some (r, S1)) : WH p l e rm_X5_pullIn s m args below meth c b0 G 3 0 0 (MQ below (hQ b0 G (some (.int r)) S1) args s 0 0 (hA b0)) S 2 [(0, hrf b0 ((some h))), (1, hrf b0 l1), (2, .int l2)] [] := by
  have hh : (kI S ((some h)) 5 1 (fun v1 => if v1 ≤ l2 then (some (0, S)) else (kP S ((some h)) 5 0 (fun v2 => kAP S v2 20 l2 (fun v3 => kO S v3 7 (fun a6 => kc (s_X7_isMetBy S a6 l1) (fun v5 S4 => if v5 = 0 then (j2 S4 l1 (l2 + 1)) else (kP S4 ((some h)) 5 0 (fun v7 => kAP S4 v7 20 l2 (fun v8 => kI S4 v8 7 3 (fun v9 => some (v9, S4)))))))))))) = some (r, S1) := hh
  refine rw_iload_n E (j0 := 2) rfl rfl dX5_pullIn_2 ?_
  refine rw_aload_n E (j0 := 0) rfl rfl dX5_pullIn_3 ?_
  refine rw_getI E hh (C := RX5) (T := TX5) (N := 2) rfl (by decide) i_X5_pullIn_5 (by decide) rfl (List.mem_of_getElem? (i := 1) (by decide +kernel)) rfl dX5_pullIn_4 (fun v1 hh => ?_)
  refine rw_icmp_ge E hh (tgt := 39) (by decide) dX5_pullIn_7 (fun hh => ?_) (fun hh => ?_)
  · refine rw_iconst E (v := 0) (by decide) dX5_pullIn_39 ?_
    exact rw_iret E hrt hlk hh (by decide) (by decide) dX5_pullIn_40
  · refine rw_aload_n E (j0 := 0) rfl rfl dX5_pullIn_10 ?_
    refine rw_getP E hh (C := RX5) (T := TX5) (N := 2) rfl (by decide) i_X5_pullIn_5 (by decide) rfl (List.mem_of_getElem? (i := 2) (by decide +kernel)) rfl dX5_pullIn_11 (fun v2 hh => ?_)
    refine rw_iload_n E (j0 := 2) rfl rfl dX5_pullIn_14 ?_
    refine rw_aald E hh (t0 := 7) (by decide) (fun _ => rfl) dX5_pullIn_15 (fun v3 hh => ?_)
    refine rw_aload_n E (j0 := 1) rfl rfl dX5_pullIn_16 ?_
    refine rw_cVi E (As := [hrf b0 l1]) hh (by decide) rfl (fun _ _ _ hq => c_X7_isMetBy l b0 G _ _ _ _ _ hq) (cwV 1 E.2.2.2.2.1 gX5_pullIn_X7_isMetBy rfl rfl rfl (by decide +kernel) ⟨Nat.le_of_ble_eq_true rfl, Nat.le_of_ble_eq_true rfl⟩) rfl rfl (by (try simp only [List.map_cons, List.map_nil, List.sum_cons, List.sum_nil, hrf_cat, cat_i, cat_l, cat_r]) <;> decide) ⟨Nat.le_of_ble_eq_true rfl, Nat.le_of_ble_eq_true rfl⟩ dX5_pullIn_17 (fun v5 S4 hh => ?_)
    refine rw_if_eq E hh (tgt := 33) (by decide) dX5_pullIn_20 (fun hh => ?_) (fun hh => ?_)
    · refine rw_iinc E (v := l2 + 1) (lv2 := [(2, .int (l2 + 1)), (0, hrf b0 ((some h))), (1, hrf b0 l1)]) (j0 := 2) rfl rfl (by decide) (by simp [lvs, lvs2, hrf_cat]) dX5_pullIn_33 ?_
      refine rw_goto E (tgt := 2) (by decide) dX5_pullIn_36 ?_
      refine WH.pick [1, 2, 0] rfl ?_
      exact hj2 _ _ _ hh
    · refine rw_aload_n E (j0 := 0) rfl rfl dX5_pullIn_23 ?_
      refine rw_getP E hh (C := RX5) (T := TX5) (N := 2) rfl (by decide) i_X5_pullIn_5 (by decide) rfl (List.mem_of_getElem? (i := 2) (by decide +kernel)) rfl dX5_pullIn_24 (fun v7 hh => ?_)
      refine rw_iload_n E (j0 := 2) rfl rfl dX5_pullIn_27 ?_
      refine rw_aald E hh (t0 := 7) (by decide) (fun _ => rfl) dX5_pullIn_28 (fun v8 hh => ?_)
      refine rw_getI E hh (C := RX7) (T := TX7) (N := 4) rfl (by decide) i_X5_pullIn_7 (by decide) rfl (List.mem_of_getElem? (i := 3) (by decide +kernel)) rfl dX5_pullIn_29 (fun v9 hh => ?_)
      exact rw_iret E hrt hlk hh (by decide) (by decide) dX5_pullIn_32
def s_X5_pullIn_L2 (h : Nat) : Nat → HS → Option Nat → Int32 → Option (Int32 × HS)
  | 0 => fun _ _ _ => none
  | n + 1 => s_X5_pullIn_b2 (s_X5_pullIn_L2 h n) h
set_option maxHeartbeats 4000000 in
set_option maxRecDepth 100000 in
theorem w_X5_pullIn_L2 {p : Program} {l : Launch} {e : Env} {s : State} {m : MethodId} {args : Array Value} {below : List Frame} {meth : Method} {c : Code} {b0 : Nat} {G : hG} {S1 : HS} {r : Int32} {h : Nat} (E : hE p s m args c b0 G cX5_pullIn RX5 3 wsX5_pullIn) (hrt : meth.sig.returnType = (some .int)) (hlk : meth.locks = false) : ∀ (n : Nat) (S : HS) (l1 : Option Nat) (l2 : Int32), s_X5_pullIn_L2 h n S l1 l2 = some (r, S1) → WH p l e rm_X5_pullIn s m args below meth c b0 G 3 0 0 (MQ below (hQ b0 G (some (.int r)) S1) args s 0 0 (hA b0)) S 2 [(0, hrf b0 ((some h))), (1, hrf b0 l1), (2, .int l2)] [] := by
  intro n
  induction n with
  | zero => intro _ _ _ hh; exact absurd hh (by simp [s_X5_pullIn_L2])
  | succ n ih => intro _ _ _ hh; exact w_X5_pullIn_b2 E hrt hlk  ih hh
def s_X5_pullIn (S : HS) (h : Nat) (l1 : Option Nat) : Option (Int32 × HS) := s_X5_pullIn_L2 h 100000 S l1 0
set_option maxHeartbeats 4000000 in
set_option maxRecDepth 100000 in
theorem c_X5_pullIn (l : Launch) (b0 : Nat) (G : hG) (S S1 : HS) (h : Nat) (l1 : Option Nat) (r : Int32) (hh : s_X5_pullIn S h l1 = some (r, S1)) : MH l yX5_pullIn wsX5_pullIn rm_X5_pullIn b0 G S [hrf b0 (some h), hrf b0 l1] (some (.int r)) S1 0 0 := by
  refine MH.ofW (cc := cX5_pullIn) (maxL := 3) (ret := (some .int)) (own := RX5) (lv0 := [(0, hrf b0 ((some h))), (1, hrf b0 l1)]) (by decide) rfl rfl (by simp [lg_sl, hrf_cat, cat_i, cat_l, cat_r]) (by simp only [lv_args, hrf_cat, cat_i, cat_l, cat_r]; rfl) ?_
  intro p e s m args below meth c E hrt hlk hnm
  have hh : (s_X5_pullIn_L2 h 100000 S l1 0) = some (r, S1) := hh
  refine rw_iconst E (v := 0) (by decide) dX5_pullIn_0 ?_
  refine rw_istore_n E (i := 2) (lv2 := [(2, .int 0), (0, hrf b0 ((some h))), (1, hrf b0 l1)]) rfl (by decide) (by simp [lvs, lvs2, hrf_cat]) dX5_pullIn_1 ?_
  refine WH.pick [1, 2, 0] rfl ?_
  exact w_X5_pullIn_L2 E hrt hlk 100000 _ _ _ hh

/-! HummingDisc$Row.<init>()V -/
abbrev rm_X6_init : Room := { frames := 1, cells := 1, slots := 40, locals := 20 }
theorem i_X6_init_6 : ∀ w ∈ wsX60, w ∈ wsX6_init := fun _ h => List.mem_cons_of_mem _ (List.mem_append_right _ (h))
def s_X6_init (S : HS) (h : Nat) : Option (HS) := kO S ((some h)) 6 (fun _ => knewA S 14 40 40 (fun o1 S2 => kwP S2 ((some h)) 6 0 o1 (fun S3 => some S3)))
set_option maxHeartbeats 4000000 in
set_option maxRecDepth 100000 in
theorem c_X6_init (l : Launch) (b0 : Nat) (G : hG) (S S1 : HS) (h : Nat) (hh : s_X6_init S h  = some S1) : MH l yX6_init wsX6_init rm_X6_init b0 G S [hrf b0 (some h)] none S1 1 40 := by
  refine MH.ofW (cc := cX6_init) (maxL := 1) (ret := none) (own := RX6) (lv0 := [(0, hrf b0 ((some h)))]) (by decide) rfl rfl (Nat.le_of_ble_eq_true rfl) rfl ?_
  intro p e s m args below meth c E hrt hlk hnm
  have hh : (kO S ((some h)) 6 (fun _ => knewA S 14 40 40 (fun o1 S2 => kwP S2 ((some h)) 6 0 o1 (fun S3 => some S3)))) = some S1 := hh
  have hc : 0 + 1 ≤ 1 := by decide
  have hs : 0 + 40 ≤ 40 := by decide
  refine rw_aload_n E (j0 := 0) rfl rfl dX6_init_0 ?_
  refine rw_objI E hh (List.mem_of_getElem? (i := 1) (by decide +kernel)) (List.mem_of_getElem? (i := 2) (by decide +kernel)) (List.mem_of_getElem? (i := 3) (by decide +kernel)) (by decide) (by (try simp only [List.map_cons, List.map_nil, List.sum_cons, List.sum_nil, hrf_cat, cat_i, cat_l, cat_r]) <;> decide) dX6_init_1 (fun hh => ?_)
  refine rw_aload_n E (j0 := 0) rfl rfl dX6_init_4 ?_
  refine rw_bipush E (v := 40) (by decide) dX6_init_5 ?_
  refine rw_newa E hh (t0 := 1) (by decide) (by decide) (by decide) rfl (fun _ => rfl) (fun _ q => by cases q) rfl (by decide) (List.mem_of_getElem? (i := 4) (by decide +kernel)) (show _ ≤ 1 by omega) (show _ ≤ 40 by omega) dX6_init_7 (fun o1 S2 hh => ?_)
  refine rw_putP E hh (C := RX6) (T := TX6) (N := 4) (ty0 := tyX6) rfl tyX6_ok nmX6 (by decide) i_X6_init_6 (by decide) rfl (List.mem_of_getElem? (i := 5) (by decide +kernel)) rfl (Or.inr ⟨rfl, hnm, rfl⟩) (Or.inr ⟨_, rfl⟩) dX6_init_9 (fun S3 hh => ?_)
  exact rw_vret E hrt hlk hh (show _ ≤ 1 by omega) (show _ ≤ 40 by omega) dX6_init_12

/-! java/util/Arrays.fill([II)V -/
abbrev rm_J7_fill_53178 : Room := { frames := 0, cells := 0, slots := 0, locals := 0 }
def s_J7_fill_53178_b5 (j5 : HS → Option Nat → Int32 → Int32 → Int32 → Option (HS)) (S : HS) (l0 : Option Nat) (l1 : Int32) (l2 : Int32) (l3 : Int32) : Option (HS) := if l3 ≤ l2 then (some S) else (kwA S l0 14 l2 l1 (fun S1 => j5 S1 l0 l1 (l2 + 1) l3))
set_option maxHeartbeats 4000000 in
set_option maxRecDepth 100000 in
theorem w_J7_fill_53178_b5 {p : Program} {l : Launch} {e : Env} {s : State} {m : MethodId} {args : Array Value} {below : List Frame} {meth : Method} {c : Code} {b0 : Nat} {G : hG} {S1 : HS} {j5 : HS → Option Nat → Int32 → Int32 → Int32 → Option (HS)} {S : HS} {l0 : Option Nat} {l1 : Int32} {l2 : Int32} {l3 : Int32} (E : hE p s m args c b0 G cJ7_fill_53178 RJ7 4 wsJ7_fill_53178) (hrt : meth.sig.returnType = none) (hlk : meth.locks = false) (hj5 : ∀ (S : HS) (l0 : Option Nat) (l1 : Int32) (l2 : Int32) (l3 : Int32), j5 S l0 l1 l2 l3 = some S1 → WH p l e rm_J7_fill_53178 s m args below meth c b0 G 4 0 0 (MQ below (hQ b0 G none S1) args s 0 0 (hA b0)) S 5 [(0, hrf b0 l0), (1, .int l1), (2, .int l2), (3, .int l3)] []) (hh : s_J7_fill_53178_b5 j5  S l0 l1 l2 l3 = some S1) : WH p l e rm_J7_fill_53178 s m args below meth c b0 G 4 0 0 (MQ below (hQ b0 G none S1) args s 0 0 (hA b0)) S 5 [(0, hrf b0 l0), (1, .int l1), (2, .int l2), (3, .int l3)] [] := by
  have hh : (if l3 ≤ l2 then (some S) else (kwA S l0 14 l2 l1 (fun S1 => j5 S1 l0 l1 (l2 + 1) l3))) = some S1 := hh
  refine rw_iload_n E (j0 := 2) rfl rfl dJ7_fill_53178_5 ?_
  refine rw_iload_n E (j0 := 3) rfl rfl dJ7_fill_53178_6 ?_
  refine rw_icmp_ge E hh (tgt := 20) (by decide) dJ7_fill_53178_7 (fun hh => ?_) (fun hh => ?_)
  · exact rw_vret E hrt hlk hh (by decide) (by decide) dJ7_fill_53178_20
  · refine rw_aload_n E (j0 := 0) rfl rfl dJ7_fill_53178_10 ?_
    refine rw_iload_n E (j0 := 2) rfl rfl dJ7_fill_53178_11 ?_
    refine rw_iload_n E (j0 := 1) rfl rfl dJ7_fill_53178_12 ?_
    refine rw_iast E hh dJ7_fill_53178_13 (fun S1 hh => ?_)
    refine rw_iinc E (v := l2 + 1) (lv2 := [(2, .int (l2 + 1)), (0, hrf b0 l0), (1, .int l1), (3, .int l3)]) (j0 := 2) rfl rfl (by decide) rfl dJ7_fill_53178_14 ?_
    refine rw_goto E (tgt := 5) (by decide) dJ7_fill_53178_17 ?_
    refine WH.pick [1, 2, 0, 3] rfl ?_
    exact hj5 _ _ _ _ _ hh
def s_J7_fill_53178_L5 : Nat → HS → Option Nat → Int32 → Int32 → Int32 → Option (HS)
  | 0 => fun _ _ _ _ _ => none
  | n + 1 => s_J7_fill_53178_b5 (s_J7_fill_53178_L5  n) 
set_option maxHeartbeats 4000000 in
set_option maxRecDepth 100000 in
theorem w_J7_fill_53178_L5 {p : Program} {l : Launch} {e : Env} {s : State} {m : MethodId} {args : Array Value} {below : List Frame} {meth : Method} {c : Code} {b0 : Nat} {G : hG} {S1 : HS} (E : hE p s m args c b0 G cJ7_fill_53178 RJ7 4 wsJ7_fill_53178) (hrt : meth.sig.returnType = none) (hlk : meth.locks = false) : ∀ (n : Nat) (S : HS) (l0 : Option Nat) (l1 : Int32) (l2 : Int32) (l3 : Int32), s_J7_fill_53178_L5  n S l0 l1 l2 l3 = some S1 → WH p l e rm_J7_fill_53178 s m args below meth c b0 G 4 0 0 (MQ below (hQ b0 G none S1) args s 0 0 (hA b0)) S 5 [(0, hrf b0 l0), (1, .int l1), (2, .int l2), (3, .int l3)] [] := by
  intro n
  induction n with
  | zero => intro _ _ _ _ _ hh; exact absurd hh (by simp [s_J7_fill_53178_L5])
  | succ n ih => intro _ _ _ _ _ hh; exact w_J7_fill_53178_b5 E hrt hlk  ih hh
def s_J7_fill_53178 (S : HS) (l0 : Option Nat) (l1 : Int32) : Option (HS) := kLen S l0 14 (fun v1 => s_J7_fill_53178_L5 100000 S l0 l1 0 v1)
set_option maxHeartbeats 4000000 in
set_option maxRecDepth 100000 in
theorem c_J7_fill_53178 (l : Launch) (b0 : Nat) (G : hG) (S S1 : HS) (l0 : Option Nat) (l1 : Int32) (hh : s_J7_fill_53178 S l0 l1 = some S1) : MH l yJ7_fill_53178 wsJ7_fill_53178 rm_J7_fill_53178 b0 G S [hrf b0 l0, .int l1] none S1 0 0 := by
  refine MH.ofW (cc := cJ7_fill_53178) (maxL := 4) (ret := none) (own := RJ7) (lv0 := [(0, hrf b0 l0), (1, .int l1)]) (by decide) rfl rfl (by simp [lg_sl, hrf_cat, cat_i, cat_l, cat_r]) (by simp only [lv_args, hrf_cat, cat_i, cat_l, cat_r]; rfl) ?_
  intro p e s m args below meth c E hrt hlk hnm
  have hh : (kLen S l0 14 (fun v1 => s_J7_fill_53178_L5 100000 S l0 l1 0 v1)) = some S1 := hh
  refine rw_iconst E (v := 0) (by decide) dJ7_fill_53178_0 ?_
  refine rw_istore_n E (lv2 := [(2, .int 0), (0, hrf b0 l0), (1, .int l1)]) rfl (by decide) rfl dJ7_fill_53178_1 ?_
  refine rw_aload_n E (j0 := 1) rfl rfl dJ7_fill_53178_2 ?_
  refine rw_alen E hh dJ7_fill_53178_3 (fun v1 hh => ?_)
  refine rw_istore_n E (lv2 := [(3, .int v1), (2, .int 0), (0, hrf b0 l0), (1, .int l1)]) rfl (by decide) rfl dJ7_fill_53178_4 ?_
  refine WH.pick [2, 3, 1, 0] rfl ?_
  exact w_J7_fill_53178_L5 E hrt hlk 100000 _ _ _ _ _ hh

/-! HummingDisc$Row.make(II)V -/
abbrev rm_X6_make : Room := { frames := 1, cells := 0, slots := 0, locals := 23 }
theorem i_X6_make_6 : ∀ w ∈ wsX60, w ∈ wsX6_make := fun _ h => List.mem_cons_of_mem _ (List.mem_append_right _ (h))
def s_X6_make (S : HS) (h : Nat) (l1 : Int32) (l2 : Int32) : Option (HS) := kwZ S ((some h)) 6 1 1 (fun S1 => kwI S1 ((some h)) 6 2 l1 (fun S2 => kwI S2 ((some h)) 6 3 l2 (fun S3 => kP S3 ((some h)) 6 0 (fun v4 => kcv (s_J7_fill_53178 S3 v4 0) (fun S5 => some S5)))))
set_option maxHeartbeats 4000000 in
set_option maxRecDepth 100000 in
theorem c_X6_make (l : Launch) (b0 : Nat) (G : hG) (S S1 : HS) (h : Nat) (l1 : Int32) (l2 : Int32) (hh : s_X6_make S h l1 l2 = some S1) : MH l yX6_make wsX6_make rm_X6_make b0 G S [hrf b0 (some h), .int l1, .int l2] none S1 0 0 := by
  refine MH.ofW (cc := cX6_make) (maxL := 3) (ret := none) (own := RX6) (lv0 := [(0, hrf b0 ((some h))), (1, .int l1), (2, .int l2)]) (by decide) rfl rfl (Nat.le_of_ble_eq_true rfl) rfl ?_
  intro p e s m args below meth c E hrt hlk hnm
  have hh : (kwZ S ((some h)) 6 1 1 (fun S1 => kwI S1 ((some h)) 6 2 l1 (fun S2 => kwI S2 ((some h)) 6 3 l2 (fun S3 => kP S3 ((some h)) 6 0 (fun v4 => kcv (s_J7_fill_53178 S3 v4 0) (fun S5 => some S5)))))) = some S1 := hh
  refine rw_aload_n E (j0 := 0) rfl rfl dX6_make_0 ?_
  refine rw_iconst E (v := 1) (by decide) dX6_make_1 ?_
  refine rw_putZ E hh (C := RX6) (T := TX6) (N := 4) (ty0 := tyX6) rfl tyX6_ok nmX6 (by decide) i_X6_make_6 (by decide) rfl (List.mem_of_getElem? (i := 1) (by decide +kernel)) rfl (Or.inl rfl) rfl dX6_make_2 (fun S1 hh => ?_)
  refine rw_aload_n E (j0 := 0) rfl rfl dX6_make_5 ?_
  refine rw_iload_n E (j0 := 1) rfl rfl dX6_make_6 ?_
  refine rw_putI E hh (C := RX6) (T := TX6) (N := 4) (ty0 := tyX6) rfl tyX6_ok nmX6 (by decide) i_X6_make_6 (by decide) rfl (List.mem_of_getElem? (i := 2) (by decide +kernel)) rfl (Or.inl rfl) rfl dX6_make_7 (fun S2 hh => ?_)
  refine rw_aload_n E (j0 := 0) rfl rfl dX6_make_10 ?_
  refine rw_iload_n E (j0 := 2) rfl rfl dX6_make_11 ?_
  refine rw_putI E hh (C := RX6) (T := TX6) (N := 4) (ty0 := tyX6) rfl tyX6_ok nmX6 (by decide) i_X6_make_6 (by decide) rfl (List.mem_of_getElem? (i := 3) (by decide +kernel)) rfl (Or.inl rfl) rfl dX6_make_12 (fun S3 hh => ?_)
  refine rw_aload_n E (j0 := 0) rfl rfl dX6_make_15 ?_
  refine rw_getP E hh (C := RX6) (T := TX6) (N := 4) rfl (by decide) i_X6_make_6 (by decide) rfl (List.mem_of_getElem? (i := 4) (by decide +kernel)) rfl dX6_make_16 (fun v4 hh => ?_)
  refine rw_iconst E (v := 0) (by decide) dX6_make_19 ?_
  refine rw_cSv E (As := [hrf b0 v4, .int 0]) hh (fun _ hq => c_J7_fill_53178 l b0 G _ _ _ _ hq) (va_cwS 2 E.2.2.2.2.1 gX6_make_J7_fill_53178 rfl rfl rfl (by decide +kernel) ⟨Nat.le_of_ble_eq_true rfl, Nat.le_of_ble_eq_true rfl⟩) rfl rfl (by (try simp only [List.map_cons, List.map_nil, List.sum_cons, List.sum_nil, hrf_cat, cat_i, cat_l, cat_r]) <;> decide) ⟨Nat.le_of_ble_eq_true rfl, Nat.le_of_ble_eq_true rfl⟩ dX6_make_20 (fun S5 hh => ?_)
  exact rw_vret E hrt hlk hh (by decide) (by decide) dX6_make_23

/-! HummingDisc$Row.holds(II)Z -/
abbrev rm_X6_holds : Room := { frames := 0, cells := 0, slots := 0, locals := 0 }
theorem i_X6_holds_6 : ∀ w ∈ wsX60, w ∈ wsX6_holds := fun _ h => List.mem_cons_of_mem _ (List.mem_append_right _ (h))
def s_X6_holds (S : HS) (h : Nat) (l1 : Int32) (l2 : Int32) : Option (Int32 × HS) := if l1 < 0 then (kzr 0 S) else (if l2 < 0 then (kzr 0 S) else (kI S ((some h)) 6 3 (fun v1 => if v1.toInt64 < l1.toInt64 + l2.toInt64 then (kzr 0 S) else (kzr 1 S))))
set_option maxHeartbeats 4000000 in
set_option maxRecDepth 100000 in
theorem c_X6_holds (l : Launch) (b0 : Nat) (G : hG) (S S1 : HS) (h : Nat) (l1 : Int32) (l2 : Int32) (r : Int32) (hh : s_X6_holds S h l1 l2 = some (r, S1)) : MH l yX6_holds wsX6_holds rm_X6_holds b0 G S [hrf b0 (some h), .int l1, .int l2] (some (.int r)) S1 0 0 := by
  refine MH.ofW (cc := cX6_holds) (maxL := 3) (ret := (some .boolean)) (own := RX6) (lv0 := [(0, hrf b0 ((some h))), (1, .int l1), (2, .int l2)]) (by decide) rfl rfl (Nat.le_of_ble_eq_true rfl) rfl ?_
  intro p e s m args below meth c E hrt hlk hnm
  have hh : (if l1 < 0 then (kzr 0 S) else (if l2 < 0 then (kzr 0 S) else (kI S ((some h)) 6 3 (fun v1 => if v1.toInt64 < l1.toInt64 + l2.toInt64 then (kzr 0 S) else (kzr 1 S))))) = some (r, S1) := hh
  refine rw_iload_n E (j0 := 1) rfl rfl dX6_holds_0 ?_
  refine rw_if_lt E hh (tgt := 26) (by decide) dX6_holds_1 (fun hh => ?_) (fun hh => ?_)
  · refine rw_iconst E (v := 0) (by decide) dX6_holds_26 ?_
    exact rw_zret E hrt hlk hh (by decide) (by decide) dX6_holds_27
  · refine rw_iload_n E (j0 := 2) rfl rfl dX6_holds_4 ?_
    refine rw_if_lt E hh (tgt := 26) (by decide) dX6_holds_5 (fun hh => ?_) (fun hh => ?_)
    · refine rw_iconst E (v := 0) (by decide) dX6_holds_26 ?_
      exact rw_zret E hrt hlk hh (by decide) (by decide) dX6_holds_27
    · refine rw_iload_n E (j0 := 1) rfl rfl dX6_holds_8 ?_
      refine rw_i2l E dX6_holds_9 ?_
      refine rw_iload_n E (j0 := 2) rfl rfl dX6_holds_10 ?_
      refine rw_i2l E dX6_holds_11 ?_
      refine rw_ladd E dX6_holds_12 ?_
      refine rw_aload_n E (j0 := 0) rfl rfl dX6_holds_13 ?_
      refine rw_getI E hh (C := RX6) (T := TX6) (N := 4) rfl (by decide) i_X6_holds_6 (by decide) rfl (List.mem_of_getElem? (i := 1) (by decide +kernel)) rfl dX6_holds_14 (fun v1 hh => ?_)
      refine rw_i2l E dX6_holds_17 ?_
      refine rw_lgt E hh (tgt := 26) (by decide) dX6_holds_18 dX6_holds_19 (fun hh => ?_) (fun hh => ?_)
      · refine rw_iconst E (v := 0) (by decide) dX6_holds_26 ?_
        exact rw_zret E hrt hlk hh (by decide) (by decide) dX6_holds_27
      · refine rw_iconst E (v := 1) (by decide) dX6_holds_22 ?_
        refine rw_goto E (tgt := 27) (by decide) dX6_holds_23 ?_
        exact rw_zret E hrt hlk hh (by decide) (by decide) dX6_holds_27

/-! HummingDisc$Row.findingAt(II)I -/
abbrev rm_X6_findingAt : Room := { frames := 1, cells := 0, slots := 0, locals := 22 }
theorem i_X6_findingAt_6 : ∀ w ∈ wsX60, w ∈ wsX6_findingAt := fun _ h => List.mem_cons_of_mem _ (List.mem_append_right _ (h))
def s_X6_findingAt (S : HS) (h : Nat) (l1 : Int32) (l2 : Int32) : Option (Int32 × HS) := kI S ((some h)) 6 1 (fun v1 => if v1 = 0 then (some (1, S)) else (kO S ((some h)) 6 (fun a4 => kc (s_X6_holds S a4 l1 l2) (fun v3 S2 => if v3 = 0 then (some (2, S2)) else (some (0, S2))))))
set_option maxHeartbeats 4000000 in
set_option maxRecDepth 100000 in
theorem c_X6_findingAt (l : Launch) (b0 : Nat) (G : hG) (S S1 : HS) (h : Nat) (l1 : Int32) (l2 : Int32) (r : Int32) (hh : s_X6_findingAt S h l1 l2 = some (r, S1)) : MH l yX6_findingAt wsX6_findingAt rm_X6_findingAt b0 G S [hrf b0 (some h), .int l1, .int l2] (some (.int r)) S1 0 0 := by
  refine MH.ofW (cc := cX6_findingAt) (maxL := 3) (ret := (some .int)) (own := RX6) (lv0 := [(0, hrf b0 ((some h))), (1, .int l1), (2, .int l2)]) (by decide) rfl rfl (Nat.le_of_ble_eq_true rfl) rfl ?_
  intro p e s m args below meth c E hrt hlk hnm
  have hh : (kI S ((some h)) 6 1 (fun v1 => if v1 = 0 then (some (1, S)) else (kO S ((some h)) 6 (fun a4 => kc (s_X6_holds S a4 l1 l2) (fun v3 S2 => if v3 = 0 then (some (2, S2)) else (some (0, S2))))))) = some (r, S1) := hh
  refine rw_aload_n E (j0 := 0) rfl rfl dX6_findingAt_0 ?_
  refine rw_getI E hh (C := RX6) (T := TX6) (N := 4) rfl (by decide) i_X6_findingAt_6 (by decide) rfl (List.mem_of_getElem? (i := 1) (by decide +kernel)) rfl dX6_findingAt_1 (fun v1 hh => ?_)
  refine rw_if_ne E hh (tgt := 9) (by decide) dX6_findingAt_4 (fun hh => ?_) (fun hh => ?_)
  · refine rw_aload_n E (j0 := 0) rfl rfl dX6_findingAt_9 ?_
    refine rw_iload_n E (j0 := 1) rfl rfl dX6_findingAt_10 ?_
    refine rw_iload_n E (j0 := 2) rfl rfl dX6_findingAt_11 ?_
    refine rw_cVi E (As := [.int l1, .int l2]) hh (by decide) rfl (fun _ _ _ hq => c_X6_holds l b0 G _ _ _ _ _ _ hq) (cwV 2 E.2.2.2.2.1 gX6_findingAt_X6_holds rfl rfl rfl (by decide +kernel) ⟨Nat.le_of_ble_eq_true rfl, Nat.le_of_ble_eq_true rfl⟩) rfl rfl (by (try simp only [List.map_cons, List.map_nil, List.sum_cons, List.sum_nil, hrf_cat, cat_i, cat_l, cat_r]) <;> decide) ⟨Nat.le_of_ble_eq_true rfl, Nat.le_of_ble_eq_true rfl⟩ dX6_findingAt_12 (fun v3 S2 hh => ?_)
    refine rw_if_eq E hh (tgt := 22) (by decide) dX6_findingAt_15 (fun hh => ?_) (fun hh => ?_)
    · refine rw_iconst E (v := 2) (by decide) dX6_findingAt_22 ?_
      exact rw_iret E hrt hlk hh (by decide) (by decide) dX6_findingAt_23
    · refine rw_iconst E (v := 0) (by decide) dX6_findingAt_18 ?_
      refine rw_goto E (tgt := 23) (by decide) dX6_findingAt_19 ?_
      exact rw_iret E hrt hlk hh (by decide) (by decide) dX6_findingAt_23
  · refine rw_iconst E (v := 1) (by decide) dX6_findingAt_7 ?_
    exact rw_iret E hrt hlk hh (by decide) (by decide) dX6_findingAt_8

/-! HummingDisc$Row.put(II)I -/
abbrev rm_X6_put : Room := { frames := 1, cells := 0, slots := 0, locals := 22 }
theorem i_X6_put_6 : ∀ w ∈ wsX60, w ∈ wsX6_put := fun _ h => List.mem_cons_of_mem _ (List.mem_append_right _ (h))
def s_X6_put_b42 (h : Nat) (S : HS) (l1 : Int32) (k0 : Option Nat) (k1 : Int32) (k2 : Int32) : Option (Int32 × HS) := kwA S k0 14 k1 k2 (fun S1 => kP S1 ((some h)) 6 0 (fun v2 => kA S1 v2 14 l1 (fun v3 => some (v3, S1))))
set_option maxHeartbeats 4000000 in
set_option maxRecDepth 100000 in
theorem w_X6_put_b42 {p : Program} {l : Launch} {e : Env} {s : State} {m : MethodId} {args : Array Value} {below : List Frame} {meth : Method} {c : Code} {b0 : Nat} {G : hG} {S1 : HS} {r : Int32} {h : Nat} {S : HS} {l1 : Int32} {k0 : Option Nat} {k1 : Int32} {k2 : Int32} (E : hE p s m args c b0 G cX6_put RX6 3 wsX6_put) (hrt : meth.sig.returnType = (some .int)) (hlk : meth.locks = false) (hh : s_X6_put_b42 h S l1 k0 k1 k2 = some (r, S1)) : WH p l e rm_X6_put s m args below meth c b0 G 3 0 0 (MQ below (hQ b0 G (some (.int r)) S1) args s 0 0 (hA b0)) S 42 [(0, hrf b0 ((some h))), (1, .int l1)] [.int k2, .int k1, hrf b0 k0] := by
  have hh : (kwA S k0 14 k1 k2 (fun S1 => kP S1 ((some h)) 6 0 (fun v2 => kA S1 v2 14 l1 (fun v3 => some (v3, S1))))) = some (r, S1) := hh
  refine rw_iast E hh dX6_put_42 (fun S1 hh => ?_)
  refine rw_aload_n E (j0 := 0) rfl rfl dX6_put_43 ?_
  refine rw_getP E hh (C := RX6) (T := TX6) (N := 4) rfl (by decide) i_X6_put_6 (by decide) rfl (List.mem_of_getElem? (i := 1) (by decide +kernel)) rfl dX6_put_44 (fun v2 hh => ?_)
  refine rw_iload_n E (j0 := 1) rfl rfl dX6_put_47 ?_
  refine rw_iald E hh dX6_put_48 (fun v3 hh => ?_)
  exact rw_iret E hrt hlk hh (by decide) (by decide) dX6_put_49
def s_X6_put (S : HS) (h : Nat) (l1 : Int32) (l2 : Int32) : Option (Int32 × HS) := kO S ((some h)) 6 (fun a3 => kc (s_X6_holds S a3 l1 1) (fun v2 S1 => if v2 = 0 then (some (0, S1)) else (kP S1 ((some h)) 6 0 (fun v4 => kI S1 ((some h)) 6 2 (fun v5 => if v5 = 0 then (s_X6_put_b42 h S1 l1 v4 l1 l2.toInt8.toInt32) else (kI S1 ((some h)) 6 2 (fun v6 => if v6 = 1 then (s_X6_put_b42 h S1 l1 v4 l1 l2.toInt16.toInt32) else (s_X6_put_b42 h S1 l1 v4 l1 l2))))))))
set_option maxHeartbeats 4000000 in
set_option maxRecDepth 100000 in
theorem c_X6_put (l : Launch) (b0 : Nat) (G : hG) (S S1 : HS) (h : Nat) (l1 : Int32) (l2 : Int32) (r : Int32) (hh : s_X6_put S h l1 l2 = some (r, S1)) : MH l yX6_put wsX6_put rm_X6_put b0 G S [hrf b0 (some h), .int l1, .int l2] (some (.int r)) S1 0 0 := by
  refine MH.ofW (cc := cX6_put) (maxL := 3) (ret := (some .int)) (own := RX6) (lv0 := [(0, hrf b0 ((some h))), (1, .int l1), (2, .int l2)]) (by decide) rfl rfl (Nat.le_of_ble_eq_true rfl) rfl ?_
  intro p e s m args below meth c E hrt hlk hnm
  have hh : (kO S ((some h)) 6 (fun a3 => kc (s_X6_holds S a3 l1 1) (fun v2 S1 => if v2 = 0 then (some (0, S1)) else (kP S1 ((some h)) 6 0 (fun v4 => kI S1 ((some h)) 6 2 (fun v5 => if v5 = 0 then (s_X6_put_b42 h S1 l1 v4 l1 l2.toInt8.toInt32) else (kI S1 ((some h)) 6 2 (fun v6 => if v6 = 1 then (s_X6_put_b42 h S1 l1 v4 l1 l2.toInt16.toInt32) else (s_X6_put_b42 h S1 l1 v4 l1 l2))))))))) = some (r, S1) := hh
  refine rw_aload_n E (j0 := 0) rfl rfl dX6_put_0 ?_
  refine rw_iload_n E (j0 := 1) rfl rfl dX6_put_1 ?_
  refine rw_iconst E (v := 1) (by decide) dX6_put_2 ?_
  refine rw_cVi E (As := [.int l1, .int 1]) hh (by decide) rfl (fun _ _ _ hq => c_X6_holds l b0 G _ _ _ _ _ _ hq) (cwV 2 E.2.2.2.2.1 gX6_put_X6_holds rfl rfl rfl (by decide +kernel) ⟨Nat.le_of_ble_eq_true rfl, Nat.le_of_ble_eq_true rfl⟩) rfl rfl (by (try simp only [List.map_cons, List.map_nil, List.sum_cons, List.sum_nil, hrf_cat, cat_i, cat_l, cat_r]) <;> decide) ⟨Nat.le_of_ble_eq_true rfl, Nat.le_of_ble_eq_true rfl⟩ dX6_put_3 (fun v2 S1 hh => ?_)
  refine rw_if_ne E hh (tgt := 11) (by decide) dX6_put_6 (fun hh => ?_) (fun hh => ?_)
  · refine rw_aload_n E (j0 := 0) rfl rfl dX6_put_11 ?_
    refine rw_getP E hh (C := RX6) (T := TX6) (N := 4) rfl (by decide) i_X6_put_6 (by decide) rfl (List.mem_of_getElem? (i := 1) (by decide +kernel)) rfl dX6_put_12 (fun v4 hh => ?_)
    refine rw_iload_n E (j0 := 1) rfl rfl dX6_put_15 ?_
    refine rw_aload_n E (j0 := 0) rfl rfl dX6_put_16 ?_
    refine rw_getI E hh (C := RX6) (T := TX6) (N := 4) rfl (by decide) i_X6_put_6 (by decide) rfl (List.mem_of_getElem? (i := 2) (by decide +kernel)) rfl dX6_put_17 (fun v5 hh => ?_)
    refine rw_if_ne E hh (tgt := 28) (by decide) dX6_put_20 (fun hh => ?_) (fun hh => ?_)
    · refine rw_aload_n E (j0 := 0) rfl rfl dX6_put_28 ?_
      refine rw_getI E hh (C := RX6) (T := TX6) (N := 4) rfl (by decide) i_X6_put_6 (by decide) rfl (List.mem_of_getElem? (i := 2) (by decide +kernel)) rfl dX6_put_29 (fun v6 hh => ?_)
      refine rw_iconst E (v := 1) (by decide) dX6_put_32 ?_
      refine rw_icmp_ne E hh (tgt := 41) (by decide) dX6_put_33 (fun hh => ?_) (fun hh => ?_)
      · refine rw_iload_n E (j0 := 2) rfl rfl dX6_put_41 ?_
        refine WH.pick [0, 1] rfl ?_
        exact w_X6_put_b42 E hrt hlk hh
      · refine rw_iload_n E (j0 := 2) rfl rfl dX6_put_36 ?_
        refine rw_i2s E dX6_put_37 ?_
        refine rw_goto E (tgt := 42) (by decide) dX6_put_38 ?_
        refine WH.pick [0, 1] rfl ?_
        exact w_X6_put_b42 E hrt hlk hh
    · refine rw_iload_n E (j0 := 2) rfl rfl dX6_put_23 ?_
      refine rw_i2b E dX6_put_24 ?_
      refine rw_goto E (tgt := 42) (by decide) dX6_put_25 ?_
      refine WH.pick [0, 1] rfl ?_
      exact w_X6_put_b42 E hrt hlk hh
  · refine rw_iconst E (v := 0) (by decide) dX6_put_9 ?_
    exact rw_iret E hrt hlk hh (by decide) (by decide) dX6_put_10

/-! HummingDisc$Row.areWithin(III)Z -/
abbrev rm_X6_areWithin : Room := { frames := 1, cells := 0, slots := 0, locals := 22 }
theorem i_X6_areWithin_6 : ∀ w ∈ wsX60, w ∈ wsX6_areWithin := fun _ h => List.mem_cons_of_mem _ (List.mem_append_right _ (h))
def s_X6_areWithin_b14 (j14 : HS → Int32 → Int32 → Int32 → Int32 → Option (Int32 × HS)) (h : Nat) (S : HS) (l1 : Int32) (l2 : Int32) (l3 : Int32) (l4 : Int32) : Option (Int32 × HS) := if l1 + l2 ≤ l4 then (kzr 1 S) else (kP S ((some h)) 6 0 (fun v1 => kA S v1 14 l4 (fun v2 => if v2 < 0 then (kzr 0 S) else (kP S ((some h)) 6 0 (fun v3 => kA S v3 14 l4 (fun v4 => if v4 ≤ l3 then (j14 S l1 l2 l3 (l4 + 1)) else (kzr 0 S)))))))
set_option maxHeartbeats 4000000 in
set_option maxRecDepth 100000 in
theorem w_X6_areWithin_b14 {p : Program} {l : Launch} {e : Env} {s : State} {m : MethodId} {args : Array Value} {below : List Frame} {meth : Method} {c : Code} {b0 : Nat} {G : hG} {S1 : HS} {r : Int32} {j14 : HS → Int32 → Int32 → Int32 → Int32 → Option (Int32 × HS)} {h : Nat} {S : HS} {l1 : Int32} {l2 : Int32} {l3 : Int32} {l4 : Int32} (E : hE p s m args c b0 G cX6_areWithin RX6 5 wsX6_areWithin) (hrt : meth.sig.returnType = (some .boolean)) (hlk : meth.locks = false) (hj14 : ∀ (S : HS) (l1 : Int32) (l2 : Int32) (l3 : Int32) (l4 : Int32), j14 S l1 l2 l3 l4 = some (r, S1) → WH p l e rm_X6_areWithin s m args below meth c b0 G 5 0 0 (MQ below (hQ b0 G (some (.int r)) S1) args s 0 0 (hA b0)) S 14 [(0, hrf b0 ((some h))), (1, .int l1), (2, .int l2), (3, .int l3), (4, .int l4)] []) (hh : s_X6_areWithin_b14 j14 h S l1 l2 l3 l4 = some (r, S1)) : WH p l e rm_X6_areWithin s m args below meth c b0 G 5 0 0 (MQ below (hQ b0 G (some (.int r)) S1) args s 0 0 (hA b0)) S 14 [(0, hrf b0 ((some h))), (1, .int l1), (2, .int l2), (3, .int l3), (4, .int l4)] [] := by
  have hh : (if l1 + l2 ≤ l4 then (kzr 1 S) else (kP S ((some h)) 6 0 (fun v1 => kA S v1 14 l4 (fun v2 => if v2 < 0 then (kzr 0 S) else (kP S ((some h)) 6 0 (fun v3 => kA S v3 14 l4 (fun v4 => if v4 ≤ l3 then (j14 S l1 l2 l3 (l4 + 1)) else (kzr 0 S)))))))) = some (r, S1) := hh
  refine rw_iload E (j0 := 4) rfl dX6_areWithin_14 ?_
  refine rw_iload_n E (j0 := 1) rfl rfl dX6_areWithin_16 ?_
  refine rw_iload_n E (j0 := 2) rfl rfl dX6_areWithin_17 ?_
  refine rw_iadd E dX6_areWithin_18 ?_
  refine rw_icmp_ge E hh (tgt := 51) (by decide) dX6_areWithin_19 (fun hh => ?_) (fun hh => ?_)
  · refine rw_iconst E (v := 1) (by decide) dX6_areWithin_51 ?_
    exact rw_zret E hrt hlk hh (by decide) (by decide) dX6_areWithin_52
  · refine rw_aload_n E (j0 := 0) rfl rfl dX6_areWithin_22 ?_
    refine rw_getP E hh (C := RX6) (T := TX6) (N := 4) rfl (by decide) i_X6_areWithin_6 (by decide) rfl (List.mem_of_getElem? (i := 1) (by decide +kernel)) rfl dX6_areWithin_23 (fun v1 hh => ?_)
    refine rw_iload E (j0 := 4) rfl dX6_areWithin_26 ?_
    refine rw_iald E hh dX6_areWithin_28 (fun v2 hh => ?_)
    refine rw_if_lt E hh (tgt := 43) (by decide) dX6_areWithin_29 (fun hh => ?_) (fun hh => ?_)
    · refine rw_iconst E (v := 0) (by decide) dX6_areWithin_43 ?_
      exact rw_zret E hrt hlk hh (by decide) (by decide) dX6_areWithin_44
    · refine rw_aload_n E (j0 := 0) rfl rfl dX6_areWithin_32 ?_
      refine rw_getP E hh (C := RX6) (T := TX6) (N := 4) rfl (by decide) i_X6_areWithin_6 (by decide) rfl (List.mem_of_getElem? (i := 1) (by decide +kernel)) rfl dX6_areWithin_33 (fun v3 hh => ?_)
      refine rw_iload E (j0 := 4) rfl dX6_areWithin_36 ?_
      refine rw_iald E hh dX6_areWithin_38 (fun v4 hh => ?_)
      refine rw_iload_n E (j0 := 3) rfl rfl dX6_areWithin_39 ?_
      refine rw_icmp_le E hh (tgt := 45) (by decide) dX6_areWithin_40 (fun hh => ?_) (fun hh => ?_)
      · refine rw_iinc E (v := l4 + 1) (lv2 := [(4, .int (l4 + 1)), (0, hrf b0 ((some h))), (1, .int l1), (2, .int l2), (3, .int l3)]) (j0 := 4) rfl rfl (by decide) rfl dX6_areWithin_45 ?_
        refine rw_goto E (tgt := 14) (by decide) dX6_areWithin_48 ?_
        refine WH.pick [1, 2, 3, 4, 0] rfl ?_
        exact hj14 _ _ _ _ _ hh
      · refine rw_iconst E (v := 0) (by decide) dX6_areWithin_43 ?_
        exact rw_zret E hrt hlk hh (by decide) (by decide) dX6_areWithin_44
def s_X6_areWithin_L14 (h : Nat) : Nat → HS → Int32 → Int32 → Int32 → Int32 → Option (Int32 × HS)
  | 0 => fun _ _ _ _ _ => none
  | n + 1 => s_X6_areWithin_b14 (s_X6_areWithin_L14 h n) h
set_option maxHeartbeats 4000000 in
set_option maxRecDepth 100000 in
theorem w_X6_areWithin_L14 {p : Program} {l : Launch} {e : Env} {s : State} {m : MethodId} {args : Array Value} {below : List Frame} {meth : Method} {c : Code} {b0 : Nat} {G : hG} {S1 : HS} {r : Int32} {h : Nat} (E : hE p s m args c b0 G cX6_areWithin RX6 5 wsX6_areWithin) (hrt : meth.sig.returnType = (some .boolean)) (hlk : meth.locks = false) : ∀ (n : Nat) (S : HS) (l1 : Int32) (l2 : Int32) (l3 : Int32) (l4 : Int32), s_X6_areWithin_L14 h n S l1 l2 l3 l4 = some (r, S1) → WH p l e rm_X6_areWithin s m args below meth c b0 G 5 0 0 (MQ below (hQ b0 G (some (.int r)) S1) args s 0 0 (hA b0)) S 14 [(0, hrf b0 ((some h))), (1, .int l1), (2, .int l2), (3, .int l3), (4, .int l4)] [] := by
  intro n
  induction n with
  | zero => intro _ _ _ _ _ hh; exact absurd hh (by simp [s_X6_areWithin_L14])
  | succ n ih => intro _ _ _ _ _ hh; exact w_X6_areWithin_b14 E hrt hlk  ih hh
def s_X6_areWithin (S : HS) (h : Nat) (l1 : Int32) (l2 : Int32) (l3 : Int32) : Option (Int32 × HS) := kO S ((some h)) 6 (fun a3 => kc (s_X6_holds S a3 l1 l2) (fun v2 S1 => if v2 = 0 then (kzr 0 S1) else (s_X6_areWithin_L14 h 100000 S1 l1 l2 l3 l1)))
set_option maxHeartbeats 4000000 in
set_option maxRecDepth 100000 in
theorem c_X6_areWithin (l : Launch) (b0 : Nat) (G : hG) (S S1 : HS) (h : Nat) (l1 : Int32) (l2 : Int32) (l3 : Int32) (r : Int32) (hh : s_X6_areWithin S h l1 l2 l3 = some (r, S1)) : MH l yX6_areWithin wsX6_areWithin rm_X6_areWithin b0 G S [hrf b0 (some h), .int l1, .int l2, .int l3] (some (.int r)) S1 0 0 := by
  refine MH.ofW (cc := cX6_areWithin) (maxL := 5) (ret := (some .boolean)) (own := RX6) (lv0 := [(0, hrf b0 ((some h))), (1, .int l1), (2, .int l2), (3, .int l3)]) (by decide) rfl rfl (Nat.le_of_ble_eq_true rfl) rfl ?_
  intro p e s m args below meth c E hrt hlk hnm
  have hh : (kO S ((some h)) 6 (fun a3 => kc (s_X6_holds S a3 l1 l2) (fun v2 S1 => if v2 = 0 then (kzr 0 S1) else (s_X6_areWithin_L14 h 100000 S1 l1 l2 l3 l1)))) = some (r, S1) := hh
  refine rw_aload_n E (j0 := 0) rfl rfl dX6_areWithin_0 ?_
  refine rw_iload_n E (j0 := 1) rfl rfl dX6_areWithin_1 ?_
  refine rw_iload_n E (j0 := 2) rfl rfl dX6_areWithin_2 ?_
  refine rw_cVi E (As := [.int l1, .int l2]) hh (by decide) rfl (fun _ _ _ hq => c_X6_holds l b0 G _ _ _ _ _ _ hq) (cwV 2 E.2.2.2.2.1 gX6_areWithin_X6_holds rfl rfl rfl (by decide +kernel) ⟨Nat.le_of_ble_eq_true rfl, Nat.le_of_ble_eq_true rfl⟩) rfl rfl (by (try simp only [List.map_cons, List.map_nil, List.sum_cons, List.sum_nil, hrf_cat, cat_i, cat_l, cat_r]) <;> decide) ⟨Nat.le_of_ble_eq_true rfl, Nat.le_of_ble_eq_true rfl⟩ dX6_areWithin_3 (fun v2 S1 hh => ?_)
  refine rw_if_ne E hh (tgt := 11) (by decide) dX6_areWithin_6 (fun hh => ?_) (fun hh => ?_)
  · refine rw_iload_n E (j0 := 1) rfl rfl dX6_areWithin_11 ?_
    refine rw_istore E (lv2 := [(4, .int l1), (0, hrf b0 ((some h))), (1, .int l1), (2, .int l2), (3, .int l3)]) (by decide) rfl dX6_areWithin_12 ?_
    refine WH.pick [1, 2, 3, 4, 0] rfl ?_
    exact w_X6_areWithin_L14 E hrt hlk 100000 _ _ _ _ _ hh
  · refine rw_iconst E (v := 0) (by decide) dX6_areWithin_9 ?_
    exact rw_zret E hrt hlk hh (by decide) (by decide) dX6_areWithin_10

/-! HummingDisc$Row.greatestItem(II)I -/
abbrev rm_X6_greatestItem : Room := { frames := 1, cells := 0, slots := 0, locals := 26 }
theorem i_X6_greatestItem_6 : ∀ w ∈ wsX60, w ∈ wsX6_greatestItem := fun _ h => List.mem_cons_of_mem _ (List.mem_append_right _ (h))
def s_X6_greatestItem_b16 (j16 : HS → Int32 → Int32 → Int32 → Int32 → Option (Int32 × HS)) (h : Nat) (S : HS) (l1 : Int32) (l2 : Int32) (l3 : Int32) (l4 : Int32) : Option (Int32 × HS) := if l1 + l2 ≤ l4 then (some (l3, S)) else (kP S ((some h)) 6 0 (fun v1 => kA S v1 14 l4 (fun v2 => j16 S l1 l2 (fmax l3 v2) (l4 + 1))))
set_option maxHeartbeats 4000000 in
set_option maxRecDepth 100000 in
theorem w_X6_greatestItem_b16 {p : Program} {l : Launch} {e : Env} {s : State} {m : MethodId} {args : Array Value} {below : List Frame} {meth : Method} {c : Code} {b0 : Nat} {G : hG} {S1 : HS} {r : Int32} {j16 : HS → Int32 → Int32 → Int32 → Int32 → Option (Int32 × HS)} {h : Nat} {S : HS} {l1 : Int32} {l2 : Int32} {l3 : Int32} {l4 : Int32} (E : hE p s m args c b0 G cX6_greatestItem RX6 5 wsX6_greatestItem) (hrt : meth.sig.returnType = (some .int)) (hlk : meth.locks = false) (hj16 : ∀ (S : HS) (l1 : Int32) (l2 : Int32) (l3 : Int32) (l4 : Int32), j16 S l1 l2 l3 l4 = some (r, S1) → WH p l e rm_X6_greatestItem s m args below meth c b0 G 5 0 0 (MQ below (hQ b0 G (some (.int r)) S1) args s 0 0 (hA b0)) S 16 [(0, hrf b0 ((some h))), (1, .int l1), (2, .int l2), (3, .int l3), (4, .int l4)] []) (hh : s_X6_greatestItem_b16 j16 h S l1 l2 l3 l4 = some (r, S1)) : WH p l e rm_X6_greatestItem s m args below meth c b0 G 5 0 0 (MQ below (hQ b0 G (some (.int r)) S1) args s 0 0 (hA b0)) S 16 [(0, hrf b0 ((some h))), (1, .int l1), (2, .int l2), (3, .int l3), (4, .int l4)] [] := by
  have hh : (if l1 + l2 ≤ l4 then (some (l3, S)) else (kP S ((some h)) 6 0 (fun v1 => kA S v1 14 l4 (fun v2 => j16 S l1 l2 (fmax l3 v2) (l4 + 1))))) = some (r, S1) := hh
  refine rw_iload E (j0 := 4) rfl dX6_greatestItem_16 ?_
  refine rw_iload_n E (j0 := 1) rfl rfl dX6_greatestItem_18 ?_
  refine rw_iload_n E (j0 := 2) rfl rfl dX6_greatestItem_19 ?_
  refine rw_iadd E dX6_greatestItem_20 ?_
  refine rw_icmp_ge E hh (tgt := 42) (by decide) dX6_greatestItem_21 (fun hh => ?_) (fun hh => ?_)
  · refine rw_iload_n E (j0 := 3) rfl rfl dX6_greatestItem_42 ?_
    exact rw_iret E hrt hlk hh (by decide) (by decide) dX6_greatestItem_43
  · refine rw_iload_n E (j0 := 3) rfl rfl dX6_greatestItem_24 ?_
    refine rw_aload_n E (j0 := 0) rfl rfl dX6_greatestItem_25 ?_
    refine rw_getP E hh (C := RX6) (T := TX6) (N := 4) rfl (by decide) i_X6_greatestItem_6 (by decide) rfl (List.mem_of_getElem? (i := 1) (by decide +kernel)) rfl dX6_greatestItem_26 (fun v1 hh => ?_)
    refine rw_iload E (j0 := 4) rfl dX6_greatestItem_29 ?_
    refine rw_iald E hh dX6_greatestItem_31 (fun v2 hh => ?_)
    refine rw_mmax E ⟨by decide, (by (try simp only [List.map_cons, List.map_nil, List.sum_cons, List.sum_nil, hrf_cat, cat_i, cat_l, cat_r]) <;> decide), by decide, by decide⟩ (List.mem_of_getElem? (i := 2) (by decide +kernel)) (List.mem_of_getElem? (i := 3) (by decide +kernel)) (List.mem_of_getElem? (i := 4) (by decide +kernel)) (List.mem_of_getElem? (i := 5) (by decide +kernel)) dX6_greatestItem_32 ?_
    refine rw_istore_n E (lv2 := [(3, .int (fmax l3 v2)), (0, hrf b0 ((some h))), (1, .int l1), (2, .int l2), (4, .int l4)]) rfl (by decide) rfl dX6_greatestItem_35 ?_
    refine rw_iinc E (v := l4 + 1) (lv2 := [(4, .int (l4 + 1)), (3, .int (fmax l3 v2)), (0, hrf b0 ((some h))), (1, .int l1), (2, .int l2)]) (j0 := 4) rfl rfl (by decide) rfl dX6_greatestItem_36 ?_
    refine rw_goto E (tgt := 16) (by decide) dX6_greatestItem_39 ?_
    refine WH.pick [2, 3, 4, 1, 0] rfl ?_
    exact hj16 _ _ _ _ _ hh
def s_X6_greatestItem_L16 (h : Nat) : Nat → HS → Int32 → Int32 → Int32 → Int32 → Option (Int32 × HS)
  | 0 => fun _ _ _ _ _ => none
  | n + 1 => s_X6_greatestItem_b16 (s_X6_greatestItem_L16 h n) h
set_option maxHeartbeats 4000000 in
set_option maxRecDepth 100000 in
theorem w_X6_greatestItem_L16 {p : Program} {l : Launch} {e : Env} {s : State} {m : MethodId} {args : Array Value} {below : List Frame} {meth : Method} {c : Code} {b0 : Nat} {G : hG} {S1 : HS} {r : Int32} {h : Nat} (E : hE p s m args c b0 G cX6_greatestItem RX6 5 wsX6_greatestItem) (hrt : meth.sig.returnType = (some .int)) (hlk : meth.locks = false) : ∀ (n : Nat) (S : HS) (l1 : Int32) (l2 : Int32) (l3 : Int32) (l4 : Int32), s_X6_greatestItem_L16 h n S l1 l2 l3 l4 = some (r, S1) → WH p l e rm_X6_greatestItem s m args below meth c b0 G 5 0 0 (MQ below (hQ b0 G (some (.int r)) S1) args s 0 0 (hA b0)) S 16 [(0, hrf b0 ((some h))), (1, .int l1), (2, .int l2), (3, .int l3), (4, .int l4)] [] := by
  intro n
  induction n with
  | zero => intro _ _ _ _ _ hh; exact absurd hh (by simp [s_X6_greatestItem_L16])
  | succ n ih => intro _ _ _ _ _ hh; exact w_X6_greatestItem_b16 E hrt hlk  ih hh
def s_X6_greatestItem (S : HS) (h : Nat) (l1 : Int32) (l2 : Int32) : Option (Int32 × HS) := kO S ((some h)) 6 (fun a3 => kc (s_X6_holds S a3 l1 l2) (fun v2 S1 => if v2 = 0 then (some (0, S1)) else (s_X6_greatestItem_L16 h 100000 S1 l1 l2 0 l1)))
set_option maxHeartbeats 4000000 in
set_option maxRecDepth 100000 in
theorem c_X6_greatestItem (l : Launch) (b0 : Nat) (G : hG) (S S1 : HS) (h : Nat) (l1 : Int32) (l2 : Int32) (r : Int32) (hh : s_X6_greatestItem S h l1 l2 = some (r, S1)) : MH l yX6_greatestItem wsX6_greatestItem rm_X6_greatestItem b0 G S [hrf b0 (some h), .int l1, .int l2] (some (.int r)) S1 0 0 := by
  refine MH.ofW (cc := cX6_greatestItem) (maxL := 5) (ret := (some .int)) (own := RX6) (lv0 := [(0, hrf b0 ((some h))), (1, .int l1), (2, .int l2)]) (by decide) rfl rfl (Nat.le_of_ble_eq_true rfl) rfl ?_
  intro p e s m args below meth c E hrt hlk hnm
  have hh : (kO S ((some h)) 6 (fun a3 => kc (s_X6_holds S a3 l1 l2) (fun v2 S1 => if v2 = 0 then (some (0, S1)) else (s_X6_greatestItem_L16 h 100000 S1 l1 l2 0 l1)))) = some (r, S1) := hh
  refine rw_iconst E (v := 0) (by decide) dX6_greatestItem_0 ?_
  refine rw_istore_n E (lv2 := [(3, .int 0), (0, hrf b0 ((some h))), (1, .int l1), (2, .int l2)]) rfl (by decide) rfl dX6_greatestItem_1 ?_
  refine rw_aload_n E (j0 := 1) rfl rfl dX6_greatestItem_2 ?_
  refine rw_iload_n E (j0 := 2) rfl rfl dX6_greatestItem_3 ?_
  refine rw_iload_n E (j0 := 3) rfl rfl dX6_greatestItem_4 ?_
  refine rw_cVi E (As := [.int l1, .int l2]) hh (by decide) rfl (fun _ _ _ hq => c_X6_holds l b0 G _ _ _ _ _ _ hq) (cwV 2 E.2.2.2.2.1 gX6_greatestItem_X6_holds rfl rfl rfl (by decide +kernel) ⟨Nat.le_of_ble_eq_true rfl, Nat.le_of_ble_eq_true rfl⟩) rfl rfl (by (try simp only [List.map_cons, List.map_nil, List.sum_cons, List.sum_nil, hrf_cat, cat_i, cat_l, cat_r]) <;> decide) ⟨Nat.le_of_ble_eq_true rfl, Nat.le_of_ble_eq_true rfl⟩ dX6_greatestItem_5 (fun v2 S1 hh => ?_)
  refine rw_if_ne E hh (tgt := 13) (by decide) dX6_greatestItem_8 (fun hh => ?_) (fun hh => ?_)
  · refine rw_iload_n E (j0 := 2) rfl rfl dX6_greatestItem_13 ?_
    refine rw_istore E (lv2 := [(4, .int l1), (3, .int 0), (0, hrf b0 ((some h))), (1, .int l1), (2, .int l2)]) (by decide) rfl dX6_greatestItem_14 ?_
    refine WH.pick [2, 3, 4, 1, 0] rfl ?_
    exact w_X6_greatestItem_L16 E hrt hlk 100000 _ _ _ _ _ hh
  · refine rw_iload_n E (j0 := 0) rfl rfl dX6_greatestItem_11 ?_
    exact rw_iret E hrt hlk hh (by decide) (by decide) dX6_greatestItem_12

/-! HummingDisc$Rule.<init>(IZII)V -/
abbrev rm_X7_init : Room := { frames := 1, cells := 0, slots := 0, locals := 20 }
theorem i_X7_init_7 : ∀ w ∈ wsX70, w ∈ wsX7_init := fun _ h => List.mem_cons_of_mem _ (List.mem_append_right _ (h))
def s_X7_init (S : HS) (h : Nat) (l1 : Int32) (l2 : Int32) (l3 : Int32) (l4 : Int32) : Option (HS) := kO S ((some h)) 7 (fun _ => kwI S ((some h)) 7 0 l1 (fun S1 => kwZ S1 ((some h)) 7 1 l2 (fun S2 => kwI S2 ((some h)) 7 2 l3 (fun S3 => kwI S3 ((some h)) 7 3 l4 (fun S4 => some S4)))))
set_option maxHeartbeats 4000000 in
set_option maxRecDepth 100000 in
theorem c_X7_init (l : Launch) (b0 : Nat) (G : hG) (S S1 : HS) (h : Nat) (l1 : Int32) (l2 : Int32) (l3 : Int32) (l4 : Int32) (hh : s_X7_init S h l1 l2 l3 l4 = some S1) : MH l yX7_init wsX7_init rm_X7_init b0 G S [hrf b0 (some h), .int l1, .int l2, .int l3, .int l4] none S1 0 0 := by
  refine MH.ofW (cc := cX7_init) (maxL := 5) (ret := none) (own := RX7) (lv0 := [(0, hrf b0 ((some h))), (1, .int l1), (2, .int l2), (3, .int l3), (4, .int l4)]) (by decide) rfl rfl (Nat.le_of_ble_eq_true rfl) rfl ?_
  intro p e s m args below meth c E hrt hlk hnm
  have hh : (kO S ((some h)) 7 (fun _ => kwI S ((some h)) 7 0 l1 (fun S1 => kwZ S1 ((some h)) 7 1 l2 (fun S2 => kwI S2 ((some h)) 7 2 l3 (fun S3 => kwI S3 ((some h)) 7 3 l4 (fun S4 => some S4)))))) = some S1 := hh
  refine rw_aload_n E (j0 := 0) rfl rfl dX7_init_0 ?_
  refine rw_objI E hh (List.mem_of_getElem? (i := 1) (by decide +kernel)) (List.mem_of_getElem? (i := 2) (by decide +kernel)) (List.mem_of_getElem? (i := 3) (by decide +kernel)) (by decide) (by (try simp only [List.map_cons, List.map_nil, List.sum_cons, List.sum_nil, hrf_cat, cat_i, cat_l, cat_r]) <;> decide) dX7_init_1 (fun hh => ?_)
  refine rw_aload_n E (j0 := 0) rfl rfl dX7_init_4 ?_
  refine rw_iload_n E (j0 := 1) rfl rfl dX7_init_5 ?_
  refine rw_putI E hh (C := RX7) (T := TX7) (N := 4) (ty0 := tyX7) rfl tyX7_ok nmX7 (by decide) i_X7_init_7 (by decide) rfl (List.mem_of_getElem? (i := 4) (by decide +kernel)) rfl (Or.inr ⟨rfl, hnm, rfl⟩) rfl dX7_init_6 (fun S1 hh => ?_)
  refine rw_aload_n E (j0 := 0) rfl rfl dX7_init_9 ?_
  refine rw_iload_n E (j0 := 2) rfl rfl dX7_init_10 ?_
  refine rw_putZ E hh (C := RX7) (T := TX7) (N := 4) (ty0 := tyX7) rfl tyX7_ok nmX7 (by decide) i_X7_init_7 (by decide) rfl (List.mem_of_getElem? (i := 5) (by decide +kernel)) rfl (Or.inr ⟨rfl, hnm, rfl⟩) rfl dX7_init_11 (fun S2 hh => ?_)
  refine rw_aload_n E (j0 := 0) rfl rfl dX7_init_14 ?_
  refine rw_iload_n E (j0 := 3) rfl rfl dX7_init_15 ?_
  refine rw_putI E hh (C := RX7) (T := TX7) (N := 4) (ty0 := tyX7) rfl tyX7_ok nmX7 (by decide) i_X7_init_7 (by decide) rfl (List.mem_of_getElem? (i := 6) (by decide +kernel)) rfl (Or.inr ⟨rfl, hnm, rfl⟩) rfl dX7_init_16 (fun S3 hh => ?_)
  refine rw_aload_n E (j0 := 0) rfl rfl dX7_init_19 ?_
  refine rw_iload E (j0 := 4) rfl dX7_init_20 ?_
  refine rw_putI E hh (C := RX7) (T := TX7) (N := 4) (ty0 := tyX7) rfl tyX7_ok nmX7 (by decide) i_X7_init_7 (by decide) rfl (List.mem_of_getElem? (i := 7) (by decide +kernel)) rfl (Or.inr ⟨rfl, hnm, rfl⟩) rfl dX7_init_22 (fun S4 hh => ?_)
  exact rw_vret E hrt hlk hh (by decide) (by decide) dX7_init_25

/-! HummingDisc$Run.end()V -/
abbrev rm_X8_end : Room := { frames := 0, cells := 0, slots := 0, locals := 0 }
theorem i_X8_end_8 : ∀ w ∈ wsX80, w ∈ wsX8_end := fun _ h => List.mem_cons_of_mem _ (List.mem_append_right _ (h))
def s_X8_end (S : HS) (h : Nat) : Option (HS) := kwP S ((some h)) 8 2 none (fun S1 => some S1)
set_option maxHeartbeats 4000000 in
set_option maxRecDepth 100000 in
theorem c_X8_end (l : Launch) (b0 : Nat) (G : hG) (S S1 : HS) (h : Nat) (hh : s_X8_end S h  = some S1) : MH l yX8_end wsX8_end rm_X8_end b0 G S [hrf b0 (some h)] none S1 0 0 := by
  refine MH.ofW (cc := cX8_end) (maxL := 1) (ret := none) (own := RX8) (lv0 := [(0, hrf b0 ((some h)))]) (by decide) rfl rfl (Nat.le_of_ble_eq_true rfl) rfl ?_
  intro p e s m args below meth c E hrt hlk hnm
  have hh : (kwP S ((some h)) 8 2 none (fun S1 => some S1)) = some S1 := hh
  refine rw_aload_n E (j0 := 0) rfl rfl dX8_end_0 ?_
  refine rw_null E dX8_end_1 ?_
  refine rw_putP E hh (C := RX8) (T := TX8) (N := 12) (ty0 := tyX8) rfl tyX8_ok nmX8 (by decide) i_X8_end_8 (by decide) rfl (List.mem_of_getElem? (i := 1) (by decide +kernel)) rfl (Or.inl rfl) (Or.inl ⟨_, rfl⟩) dX8_end_2 (fun S1 hh => ?_)
  exact rw_vret E hrt hlk hh (by decide) (by decide) dX8_end_5

/-! HummingDisc$Run.become(LHummingDisc$Run;)V -/
abbrev rm_X8_become : Room := { frames := 0, cells := 0, slots := 0, locals := 0 }
theorem i_X8_become_8 : ∀ w ∈ wsX80, w ∈ wsX8_become := fun _ h => List.mem_cons_of_mem _ (List.mem_append_right _ (h))
def s_X8_become (S : HS) (h : Nat) (l1 : Option Nat) : Option (HS) := kP S l1 8 0 (fun v1 => kwP S ((some h)) 8 0 v1 (fun S2 => kP S2 l1 8 1 (fun v3 => kwP S2 ((some h)) 8 1 v3 (fun S4 => kP S4 l1 8 2 (fun v5 => kwP S4 ((some h)) 8 2 v5 (fun S6 => kI S6 l1 8 3 (fun v7 => kwI S6 ((some h)) 8 3 v7 (fun S8 => kI S8 l1 8 4 (fun v9 => kwI S8 ((some h)) 8 4 v9 (fun S10 => kI S10 l1 8 5 (fun v11 => kwI S10 ((some h)) 8 5 v11 (fun S12 => kI S12 l1 8 6 (fun v13 => kwI S12 ((some h)) 8 6 v13 (fun S14 => kI S14 l1 8 7 (fun v15 => kwI S14 ((some h)) 8 7 v15 (fun S16 => kI S16 l1 8 8 (fun v17 => kwI S16 ((some h)) 8 8 v17 (fun S18 => kI S18 l1 8 9 (fun v19 => kwI S18 ((some h)) 8 9 v19 (fun S20 => kI S20 l1 8 10 (fun v21 => kwI S20 ((some h)) 8 10 v21 (fun S22 => kI S22 l1 8 11 (fun v23 => kwZ S22 ((some h)) 8 11 v23 (fun S24 => some S24))))))))))))))))))))))))
set_option maxHeartbeats 4000000 in
set_option maxRecDepth 100000 in
theorem c_X8_become (l : Launch) (b0 : Nat) (G : hG) (S S1 : HS) (h : Nat) (l1 : Option Nat) (hh : s_X8_become S h l1 = some S1) : MH l yX8_become wsX8_become rm_X8_become b0 G S [hrf b0 (some h), hrf b0 l1] none S1 0 0 := by
  refine MH.ofW (cc := cX8_become) (maxL := 2) (ret := none) (own := RX8) (lv0 := [(0, hrf b0 ((some h))), (1, hrf b0 l1)]) (by decide) rfl rfl (by simp [lg_sl, hrf_cat, cat_i, cat_l, cat_r]) (by simp only [lv_args, hrf_cat, cat_i, cat_l, cat_r]; rfl) ?_
  intro p e s m args below meth c E hrt hlk hnm
  have hh : (kP S l1 8 0 (fun v1 => kwP S ((some h)) 8 0 v1 (fun S2 => kP S2 l1 8 1 (fun v3 => kwP S2 ((some h)) 8 1 v3 (fun S4 => kP S4 l1 8 2 (fun v5 => kwP S4 ((some h)) 8 2 v5 (fun S6 => kI S6 l1 8 3 (fun v7 => kwI S6 ((some h)) 8 3 v7 (fun S8 => kI S8 l1 8 4 (fun v9 => kwI S8 ((some h)) 8 4 v9 (fun S10 => kI S10 l1 8 5 (fun v11 => kwI S10 ((some h)) 8 5 v11 (fun S12 => kI S12 l1 8 6 (fun v13 => kwI S12 ((some h)) 8 6 v13 (fun S14 => kI S14 l1 8 7 (fun v15 => kwI S14 ((some h)) 8 7 v15 (fun S16 => kI S16 l1 8 8 (fun v17 => kwI S16 ((some h)) 8 8 v17 (fun S18 => kI S18 l1 8 9 (fun v19 => kwI S18 ((some h)) 8 9 v19 (fun S20 => kI S20 l1 8 10 (fun v21 => kwI S20 ((some h)) 8 10 v21 (fun S22 => kI S22 l1 8 11 (fun v23 => kwZ S22 ((some h)) 8 11 v23 (fun S24 => some S24))))))))))))))))))))))))) = some S1 := hh
  refine rw_aload_n E (j0 := 0) rfl rfl dX8_become_0 ?_
  refine rw_aload_n E (j0 := 1) rfl rfl dX8_become_1 ?_
  refine rw_getP E hh (C := RX8) (T := TX8) (N := 12) rfl (by decide) i_X8_become_8 (by decide) rfl (List.mem_of_getElem? (i := 1) (by decide +kernel)) rfl dX8_become_2 (fun v1 hh => ?_)
  refine rw_putP E hh (C := RX8) (T := TX8) (N := 12) (ty0 := tyX8) rfl tyX8_ok nmX8 (by decide) i_X8_become_8 (by decide) rfl (List.mem_of_getElem? (i := 1) (by decide +kernel)) rfl (Or.inl rfl) (Or.inl ⟨_, rfl⟩) dX8_become_5 (fun S2 hh => ?_)
  refine rw_aload_n E (j0 := 0) rfl rfl dX8_become_8 ?_
  refine rw_aload_n E (j0 := 1) rfl rfl dX8_become_9 ?_
  refine rw_getP E hh (C := RX8) (T := TX8) (N := 12) rfl (by decide) i_X8_become_8 (by decide) rfl (List.mem_of_getElem? (i := 2) (by decide +kernel)) rfl dX8_become_10 (fun v3 hh => ?_)
  refine rw_putP E hh (C := RX8) (T := TX8) (N := 12) (ty0 := tyX8) rfl tyX8_ok nmX8 (by decide) i_X8_become_8 (by decide) rfl (List.mem_of_getElem? (i := 2) (by decide +kernel)) rfl (Or.inl rfl) (Or.inl ⟨_, rfl⟩) dX8_become_13 (fun S4 hh => ?_)
  refine rw_aload_n E (j0 := 0) rfl rfl dX8_become_16 ?_
  refine rw_aload_n E (j0 := 1) rfl rfl dX8_become_17 ?_
  refine rw_getP E hh (C := RX8) (T := TX8) (N := 12) rfl (by decide) i_X8_become_8 (by decide) rfl (List.mem_of_getElem? (i := 3) (by decide +kernel)) rfl dX8_become_18 (fun v5 hh => ?_)
  refine rw_putP E hh (C := RX8) (T := TX8) (N := 12) (ty0 := tyX8) rfl tyX8_ok nmX8 (by decide) i_X8_become_8 (by decide) rfl (List.mem_of_getElem? (i := 3) (by decide +kernel)) rfl (Or.inl rfl) (Or.inl ⟨_, rfl⟩) dX8_become_21 (fun S6 hh => ?_)
  refine rw_aload_n E (j0 := 0) rfl rfl dX8_become_24 ?_
  refine rw_aload_n E (j0 := 1) rfl rfl dX8_become_25 ?_
  refine rw_getI E hh (C := RX8) (T := TX8) (N := 12) rfl (by decide) i_X8_become_8 (by decide) rfl (List.mem_of_getElem? (i := 4) (by decide +kernel)) rfl dX8_become_26 (fun v7 hh => ?_)
  refine rw_putI E hh (C := RX8) (T := TX8) (N := 12) (ty0 := tyX8) rfl tyX8_ok nmX8 (by decide) i_X8_become_8 (by decide) rfl (List.mem_of_getElem? (i := 4) (by decide +kernel)) rfl (Or.inl rfl) rfl dX8_become_29 (fun S8 hh => ?_)
  refine rw_aload_n E (j0 := 0) rfl rfl dX8_become_32 ?_
  refine rw_aload_n E (j0 := 1) rfl rfl dX8_become_33 ?_
  refine rw_getI E hh (C := RX8) (T := TX8) (N := 12) rfl (by decide) i_X8_become_8 (by decide) rfl (List.mem_of_getElem? (i := 5) (by decide +kernel)) rfl dX8_become_34 (fun v9 hh => ?_)
  refine rw_putI E hh (C := RX8) (T := TX8) (N := 12) (ty0 := tyX8) rfl tyX8_ok nmX8 (by decide) i_X8_become_8 (by decide) rfl (List.mem_of_getElem? (i := 5) (by decide +kernel)) rfl (Or.inl rfl) rfl dX8_become_37 (fun S10 hh => ?_)
  refine rw_aload_n E (j0 := 0) rfl rfl dX8_become_40 ?_
  refine rw_aload_n E (j0 := 1) rfl rfl dX8_become_41 ?_
  refine rw_getI E hh (C := RX8) (T := TX8) (N := 12) rfl (by decide) i_X8_become_8 (by decide) rfl (List.mem_of_getElem? (i := 6) (by decide +kernel)) rfl dX8_become_42 (fun v11 hh => ?_)
  refine rw_putI E hh (C := RX8) (T := TX8) (N := 12) (ty0 := tyX8) rfl tyX8_ok nmX8 (by decide) i_X8_become_8 (by decide) rfl (List.mem_of_getElem? (i := 6) (by decide +kernel)) rfl (Or.inl rfl) rfl dX8_become_45 (fun S12 hh => ?_)
  refine rw_aload_n E (j0 := 0) rfl rfl dX8_become_48 ?_
  refine rw_aload_n E (j0 := 1) rfl rfl dX8_become_49 ?_
  refine rw_getI E hh (C := RX8) (T := TX8) (N := 12) rfl (by decide) i_X8_become_8 (by decide) rfl (List.mem_of_getElem? (i := 7) (by decide +kernel)) rfl dX8_become_50 (fun v13 hh => ?_)
  refine rw_putI E hh (C := RX8) (T := TX8) (N := 12) (ty0 := tyX8) rfl tyX8_ok nmX8 (by decide) i_X8_become_8 (by decide) rfl (List.mem_of_getElem? (i := 7) (by decide +kernel)) rfl (Or.inl rfl) rfl dX8_become_53 (fun S14 hh => ?_)
  refine rw_aload_n E (j0 := 0) rfl rfl dX8_become_56 ?_
  refine rw_aload_n E (j0 := 1) rfl rfl dX8_become_57 ?_
  refine rw_getI E hh (C := RX8) (T := TX8) (N := 12) rfl (by decide) i_X8_become_8 (by decide) rfl (List.mem_of_getElem? (i := 8) (by decide +kernel)) rfl dX8_become_58 (fun v15 hh => ?_)
  refine rw_putI E hh (C := RX8) (T := TX8) (N := 12) (ty0 := tyX8) rfl tyX8_ok nmX8 (by decide) i_X8_become_8 (by decide) rfl (List.mem_of_getElem? (i := 8) (by decide +kernel)) rfl (Or.inl rfl) rfl dX8_become_61 (fun S16 hh => ?_)
  refine rw_aload_n E (j0 := 0) rfl rfl dX8_become_64 ?_
  refine rw_aload_n E (j0 := 1) rfl rfl dX8_become_65 ?_
  refine rw_getI E hh (C := RX8) (T := TX8) (N := 12) rfl (by decide) i_X8_become_8 (by decide) rfl (List.mem_of_getElem? (i := 9) (by decide +kernel)) rfl dX8_become_66 (fun v17 hh => ?_)
  refine rw_putI E hh (C := RX8) (T := TX8) (N := 12) (ty0 := tyX8) rfl tyX8_ok nmX8 (by decide) i_X8_become_8 (by decide) rfl (List.mem_of_getElem? (i := 9) (by decide +kernel)) rfl (Or.inl rfl) rfl dX8_become_69 (fun S18 hh => ?_)
  refine rw_aload_n E (j0 := 0) rfl rfl dX8_become_72 ?_
  refine rw_aload_n E (j0 := 1) rfl rfl dX8_become_73 ?_
  refine rw_getI E hh (C := RX8) (T := TX8) (N := 12) rfl (by decide) i_X8_become_8 (by decide) rfl (List.mem_of_getElem? (i := 10) (by decide +kernel)) rfl dX8_become_74 (fun v19 hh => ?_)
  refine rw_putI E hh (C := RX8) (T := TX8) (N := 12) (ty0 := tyX8) rfl tyX8_ok nmX8 (by decide) i_X8_become_8 (by decide) rfl (List.mem_of_getElem? (i := 10) (by decide +kernel)) rfl (Or.inl rfl) rfl dX8_become_77 (fun S20 hh => ?_)
  refine rw_aload_n E (j0 := 0) rfl rfl dX8_become_80 ?_
  refine rw_aload_n E (j0 := 1) rfl rfl dX8_become_81 ?_
  refine rw_getI E hh (C := RX8) (T := TX8) (N := 12) rfl (by decide) i_X8_become_8 (by decide) rfl (List.mem_of_getElem? (i := 11) (by decide +kernel)) rfl dX8_become_82 (fun v21 hh => ?_)
  refine rw_putI E hh (C := RX8) (T := TX8) (N := 12) (ty0 := tyX8) rfl tyX8_ok nmX8 (by decide) i_X8_become_8 (by decide) rfl (List.mem_of_getElem? (i := 11) (by decide +kernel)) rfl (Or.inl rfl) rfl dX8_become_85 (fun S22 hh => ?_)
  refine rw_aload_n E (j0 := 0) rfl rfl dX8_become_88 ?_
  refine rw_aload_n E (j0 := 1) rfl rfl dX8_become_89 ?_
  refine rw_getI E hh (C := RX8) (T := TX8) (N := 12) rfl (by decide) i_X8_become_8 (by decide) rfl (List.mem_of_getElem? (i := 12) (by decide +kernel)) rfl dX8_become_90 (fun v23 hh => ?_)
  refine rw_putZ E hh (C := RX8) (T := TX8) (N := 12) (ty0 := tyX8) rfl tyX8_ok nmX8 (by decide) i_X8_become_8 (by decide) rfl (List.mem_of_getElem? (i := 12) (by decide +kernel)) rfl (Or.inl rfl) rfl dX8_become_93 (fun S24 hh => ?_)
  exact rw_vret E hrt hlk hh (by decide) (by decide) dX8_become_96

/-! HummingDisc$Run.isOne(I)Z -/
abbrev rm_X8_isOne : Room := { frames := 2, cells := 0, slots := 0, locals := 46 }
def s_X8_isOne_b34 (h : Nat) (S : HS) : Option (Int32 × HS) := kzr 1 S
set_option maxHeartbeats 4000000 in
set_option maxRecDepth 100000 in
theorem w_X8_isOne_b34 {p : Program} {l : Launch} {e : Env} {s : State} {m : MethodId} {args : Array Value} {below : List Frame} {meth : Method} {c : Code} {b0 : Nat} {G : hG} {S1 : HS} {r : Int32} {h : Nat} {S : HS} (E : hE p s m args c b0 G cX8_isOne RX8 3 wsX8_isOne) (hrt : meth.sig.returnType = (some .boolean)) (hlk : meth.locks = false) (hh : s_X8_isOne_b34 h S = some (r, S1)) : WH p l e rm_X8_isOne s m args below meth c b0 G 3 0 0 (MQ below (hQ b0 G (some (.int r)) S1) args s 0 0 (hA b0)) S 34 [] [] := by
  have hh : (kzr 1 S) = some (r, S1) := hh
  refine rw_iconst E (v := 1) (by decide) dX8_isOne_34 ?_
  refine rw_goto E (tgt := 39) (by decide) dX8_isOne_35 ?_
  exact rw_zret E hrt hlk hh (by decide) (by decide) dX8_isOne_39
def s_X8_isOne_b24 (h : Nat) (S : HS) (l1 : Int32) (l2 : Int32) : Option (Int32 × HS) := if l1 = 3 then (if l2 = 5 then (s_X8_isOne_b34 h S) else (kzr 0 S)) else (kzr 0 S)
set_option maxHeartbeats 4000000 in
set_option maxRecDepth 100000 in
theorem w_X8_isOne_b24 {p : Program} {l : Launch} {e : Env} {s : State} {m : MethodId} {args : Array Value} {below : List Frame} {meth : Method} {c : Code} {b0 : Nat} {G : hG} {S1 : HS} {r : Int32} {h : Nat} {S : HS} {l1 : Int32} {l2 : Int32} (E : hE p s m args c b0 G cX8_isOne RX8 3 wsX8_isOne) (hrt : meth.sig.returnType = (some .boolean)) (hlk : meth.locks = false) (hh : s_X8_isOne_b24 h S l1 l2 = some (r, S1)) : WH p l e rm_X8_isOne s m args below meth c b0 G 3 0 0 (MQ below (hQ b0 G (some (.int r)) S1) args s 0 0 (hA b0)) S 24 [(1, .int l1), (2, .int l2)] [] := by
  have hh : (if l1 = 3 then (if l2 = 5 then (s_X8_isOne_b34 h S) else (kzr 0 S)) else (kzr 0 S)) = some (r, S1) := hh
  refine rw_iload_n E (j0 := 0) rfl rfl dX8_isOne_24 ?_
  refine rw_iconst E (v := 3) (by decide) dX8_isOne_25 ?_
  refine rw_icmp_ne E hh (tgt := 38) (by decide) dX8_isOne_26 (fun hh => ?_) (fun hh => ?_)
  · refine rw_iconst E (v := 0) (by decide) dX8_isOne_38 ?_
    exact rw_zret E hrt hlk hh (by decide) (by decide) dX8_isOne_39
  · refine rw_iload_n E (j0 := 1) rfl rfl dX8_isOne_29 ?_
    refine rw_iconst E (v := 5) (by decide) dX8_isOne_30 ?_
    refine rw_icmp_ne E hh (tgt := 38) (by decide) dX8_isOne_31 (fun hh => ?_) (fun hh => ?_)
    · refine rw_iconst E (v := 0) (by decide) dX8_isOne_38 ?_
      exact rw_zret E hrt hlk hh (by decide) (by decide) dX8_isOne_39
    · refine WH.pick [] rfl ?_
      exact w_X8_isOne_b34 E hrt hlk hh
def s_X8_isOne (S : HS) (h : Nat) (l1 : Int32) : Option (Int32 × HS) := kO S ((some h)) 8 (fun a3 => kc (s_X8_toldAs S a3 ) (fun v2 S1 => if l1 = 0 then (s_X8_isOne_b34 h S1) else (if l1 = v2 then (s_X8_isOne_b34 h S1) else (if l1 = 2 then (if v2 = 4 then (s_X8_isOne_b34 h S1) else (s_X8_isOne_b24 h S1 l1 v2)) else (s_X8_isOne_b24 h S1 l1 v2)))))
set_option maxHeartbeats 4000000 in
set_option maxRecDepth 100000 in
theorem c_X8_isOne (l : Launch) (b0 : Nat) (G : hG) (S S1 : HS) (h : Nat) (l1 : Int32) (r : Int32) (hh : s_X8_isOne S h l1 = some (r, S1)) : MH l yX8_isOne wsX8_isOne rm_X8_isOne b0 G S [hrf b0 (some h), .int l1] (some (.int r)) S1 0 0 := by
  refine MH.ofW (cc := cX8_isOne) (maxL := 3) (ret := (some .boolean)) (own := RX8) (lv0 := [(0, hrf b0 ((some h))), (1, .int l1)]) (by decide) rfl rfl (Nat.le_of_ble_eq_true rfl) rfl ?_
  intro p e s m args below meth c E hrt hlk hnm
  have hh : (kO S ((some h)) 8 (fun a3 => kc (s_X8_toldAs S a3 ) (fun v2 S1 => if l1 = 0 then (s_X8_isOne_b34 h S1) else (if l1 = v2 then (s_X8_isOne_b34 h S1) else (if l1 = 2 then (if v2 = 4 then (s_X8_isOne_b34 h S1) else (s_X8_isOne_b24 h S1 l1 v2)) else (s_X8_isOne_b24 h S1 l1 v2)))))) = some (r, S1) := hh
  refine rw_aload_n E (j0 := 0) rfl rfl dX8_isOne_0 ?_
  refine rw_cVi E (As := []) hh (by decide) rfl (fun _ _ _ hq => c_X8_toldAs l b0 G _ _ _ _ hq) (cwV 0 E.2.2.2.2.1 gX8_isOne_X8_toldAs rfl rfl rfl (by decide +kernel) ⟨Nat.le_of_ble_eq_true rfl, Nat.le_of_ble_eq_true rfl⟩) rfl rfl (by (try simp only [List.map_cons, List.map_nil, List.sum_cons, List.sum_nil, hrf_cat, cat_i, cat_l, cat_r]) <;> decide) ⟨Nat.le_of_ble_eq_true rfl, Nat.le_of_ble_eq_true rfl⟩ dX8_isOne_1 (fun v2 S1 hh => ?_)
  refine rw_istore_n E (lv2 := [(2, .int v2), (0, hrf b0 ((some h))), (1, .int l1)]) rfl (by decide) rfl dX8_isOne_4 ?_
  refine rw_iload_n E (j0 := 2) rfl rfl dX8_isOne_5 ?_
  refine rw_if_eq E hh (tgt := 34) (by decide) dX8_isOne_6 (fun hh => ?_) (fun hh => ?_)
  · refine WH.pick [] rfl ?_
    exact w_X8_isOne_b34 E hrt hlk hh
  · refine rw_iload_n E (j0 := 2) rfl rfl dX8_isOne_9 ?_
    refine rw_iload_n E (j0 := 0) rfl rfl dX8_isOne_10 ?_
    refine rw_icmp_eq E hh (tgt := 34) (by decide) dX8_isOne_11 (fun hh => ?_) (fun hh => ?_)
    · refine WH.pick [] rfl ?_
      exact w_X8_isOne_b34 E hrt hlk hh
    · refine rw_iload_n E (j0 := 2) rfl rfl dX8_isOne_14 ?_
      refine rw_iconst E (v := 2) (by decide) dX8_isOne_15 ?_
      refine rw_icmp_ne E hh (tgt := 24) (by decide) dX8_isOne_16 (fun hh => ?_) (fun hh => ?_)
      · refine WH.pick [2, 0] rfl ?_
        exact w_X8_isOne_b24 E hrt hlk hh
      · refine rw_iload_n E (j0 := 0) rfl rfl dX8_isOne_19 ?_
        refine rw_iconst E (v := 4) (by decide) dX8_isOne_20 ?_
        refine rw_icmp_eq E hh (tgt := 34) (by decide) dX8_isOne_21 (fun hh => ?_) (fun hh => ?_)
        · refine WH.pick [] rfl ?_
          exact w_X8_isOne_b34 E hrt hlk hh
        · refine WH.pick [2, 0] rfl ?_
          exact w_X8_isOne_b24 E hrt hlk hh

/-! HummingDisc$Scene.<init>()V -/
abbrev rm_X9_init : Room := { frames := 2, cells := 1, slots := 12, locals := 40 }
theorem i_X9_init_8 : ∀ w ∈ wsX80, w ∈ wsX9_init := fun _ h => List.mem_cons_of_mem _ (List.mem_append_left _ (List.mem_append_right _ (h)))
theorem i_X9_init_9 : ∀ w ∈ wsX90, w ∈ wsX9_init := fun _ h => List.mem_cons_of_mem _ (List.mem_append_right _ (h))
def s_X9_init (S : HS) (h : Nat) : Option (HS) := kO S ((some h)) 9 (fun _ => knew S 8 (fun o1 S2 => kO S2 o1 8 (fun a4 => kcv (s_X8_init S2 a4 ) (fun S3 => kwP S3 ((some h)) 9 0 o1 (fun S5 => some S5)))))
set_option maxHeartbeats 4000000 in
set_option maxRecDepth 100000 in
theorem c_X9_init (l : Launch) (b0 : Nat) (G : hG) (S S1 : HS) (h : Nat) (hh : s_X9_init S h  = some S1) : MH l yX9_init wsX9_init rm_X9_init b0 G S [hrf b0 (some h)] none S1 1 12 := by
  refine MH.ofW (cc := cX9_init) (maxL := 1) (ret := none) (own := RX9) (lv0 := [(0, hrf b0 ((some h)))]) (by decide) rfl rfl (Nat.le_of_ble_eq_true rfl) rfl ?_
  intro p e s m args below meth c E hrt hlk hnm
  have hh : (kO S ((some h)) 9 (fun _ => knew S 8 (fun o1 S2 => kO S2 o1 8 (fun a4 => kcv (s_X8_init S2 a4 ) (fun S3 => kwP S3 ((some h)) 9 0 o1 (fun S5 => some S5)))))) = some S1 := hh
  have hc : 0 + 1 ≤ 1 := by decide
  have hs : 0 + 12 ≤ 12 := by decide
  refine rw_aload_n E (j0 := 0) rfl rfl dX9_init_0 ?_
  refine rw_objI E hh (List.mem_of_getElem? (i := 1) (by decide +kernel)) (List.mem_of_getElem? (i := 2) (by decide +kernel)) (List.mem_of_getElem? (i := 3) (by decide +kernel)) (by decide) (by (try simp only [List.map_cons, List.map_nil, List.sum_cons, List.sum_nil, hrf_cat, cat_i, cat_l, cat_r]) <;> decide) dX9_init_1 (fun hh => ?_)
  refine rw_aload_n E (j0 := 0) rfl rfl dX9_init_4 ?_
  refine rw_new E hh (C := RX8) (T := TX8) (N := 12) (ty0 := tyX8) rfl tyX8_ok (by decide) i_X9_init_8 (List.mem_of_getElem? (i := 4) (by decide +kernel)) (List.mem_of_getElem? (i := 5) (by decide +kernel)) (List.mem_of_getElem? (i := 6) (by decide +kernel)) rfl hdv_8 (show _ ≤ 1 by omega) (show _ ≤ 12 by omega) dX9_init_5 (fun o1 S2 hh => ?_)
  refine rw_dup E (hrf_cat _ _) dX9_init_8 ?_
  refine rw_cNv E (As := []) hh (fun _ _ hq => c_X8_init l b0 G _ _ _ hq) (by simp [hNw]) gX9_init_X8_init_n9 rfl rfl rfl (List.mem_of_getElem? (i := 6) (by decide +kernel)) (List.mem_of_getElem? (i := 8) (by decide +kernel)) rfl (by decide +kernel) ⟨Nat.le_of_ble_eq_true rfl, Nat.le_of_ble_eq_true rfl⟩ rfl rfl (by (try simp only [List.map_cons, List.map_nil, List.sum_cons, List.sum_nil, hrf_cat, cat_i, cat_l, cat_r]) <;> decide) ⟨(show _ ≤ 1 by omega), (show _ ≤ 12 by omega)⟩ dX9_init_9 (fun S3 hh => ?_)
  refine rw_putP E hh (C := RX9) (T := TX9) (N := 2) (ty0 := tyX9) rfl tyX9_ok nmX9 (by decide) i_X9_init_9 (by decide) rfl (List.mem_of_getElem? (i := 7) (by decide +kernel)) rfl (Or.inr ⟨rfl, hnm, rfl⟩) (Or.inl ⟨_, rfl⟩) dX9_init_12 (fun S5 hh => ?_)
  exact rw_vret E hrt hlk hh (show _ ≤ 1 by omega) (show _ ≤ 12 by omega) dX9_init_15

/-! HummingDisc$Scene.become(LHummingDisc$Scene;)V -/
abbrev rm_X9_become : Room := { frames := 1, cells := 0, slots := 0, locals := 21 }
theorem i_X9_become_9 : ∀ w ∈ wsX90, w ∈ wsX9_become := fun _ h => List.mem_cons_of_mem _ (List.mem_append_left _ (List.mem_append_right _ (h)))
def s_X9_become (S : HS) (h : Nat) (l1 : Option Nat) : Option (HS) := kP S l1 9 1 (fun v1 => kwP S ((some h)) 9 1 v1 (fun S2 => kP S2 ((some h)) 9 0 (fun v3 => kP S2 l1 9 0 (fun v4 => kO S2 v3 8 (fun a6 => kcv (s_X8_become S2 a6 v4) (fun S5 => some S5))))))
set_option maxHeartbeats 4000000 in
set_option maxRecDepth 100000 in
theorem c_X9_become (l : Launch) (b0 : Nat) (G : hG) (S S1 : HS) (h : Nat) (l1 : Option Nat) (hh : s_X9_become S h l1 = some S1) : MH l yX9_become wsX9_become rm_X9_become b0 G S [hrf b0 (some h), hrf b0 l1] none S1 0 0 := by
  refine MH.ofW (cc := cX9_become) (maxL := 2) (ret := none) (own := RX9) (lv0 := [(0, hrf b0 ((some h))), (1, hrf b0 l1)]) (by decide) rfl rfl (by simp [lg_sl, hrf_cat, cat_i, cat_l, cat_r]) (by simp only [lv_args, hrf_cat, cat_i, cat_l, cat_r]; rfl) ?_
  intro p e s m args below meth c E hrt hlk hnm
  have hh : (kP S l1 9 1 (fun v1 => kwP S ((some h)) 9 1 v1 (fun S2 => kP S2 ((some h)) 9 0 (fun v3 => kP S2 l1 9 0 (fun v4 => kO S2 v3 8 (fun a6 => kcv (s_X8_become S2 a6 v4) (fun S5 => some S5))))))) = some S1 := hh
  refine rw_aload_n E (j0 := 0) rfl rfl dX9_become_0 ?_
  refine rw_aload_n E (j0 := 1) rfl rfl dX9_become_1 ?_
  refine rw_getP E hh (C := RX9) (T := TX9) (N := 2) rfl (by decide) i_X9_become_9 (by decide) rfl (List.mem_of_getElem? (i := 1) (by decide +kernel)) rfl dX9_become_2 (fun v1 hh => ?_)
  refine rw_putP E hh (C := RX9) (T := TX9) (N := 2) (ty0 := tyX9) rfl tyX9_ok nmX9 (by decide) i_X9_become_9 (by decide) rfl (List.mem_of_getElem? (i := 1) (by decide +kernel)) rfl (Or.inl rfl) (Or.inl ⟨_, rfl⟩) dX9_become_5 (fun S2 hh => ?_)
  refine rw_aload_n E (j0 := 0) rfl rfl dX9_become_8 ?_
  refine rw_getP E hh (C := RX9) (T := TX9) (N := 2) rfl (by decide) i_X9_become_9 (by decide) rfl (List.mem_of_getElem? (i := 2) (by decide +kernel)) rfl dX9_become_9 (fun v3 hh => ?_)
  refine rw_aload_n E (j0 := 1) rfl rfl dX9_become_12 ?_
  refine rw_getP E hh (C := RX9) (T := TX9) (N := 2) rfl (by decide) i_X9_become_9 (by decide) rfl (List.mem_of_getElem? (i := 2) (by decide +kernel)) rfl dX9_become_13 (fun v4 hh => ?_)
  refine rw_cVv E (As := [hrf b0 v4]) hh (by decide) rfl (fun _ _ hq => c_X8_become l b0 G _ _ _ _ hq) (cwV 1 E.2.2.2.2.1 gX9_become_X8_become rfl rfl rfl (by decide +kernel) ⟨Nat.le_of_ble_eq_true rfl, Nat.le_of_ble_eq_true rfl⟩) rfl rfl (by (try simp only [List.map_cons, List.map_nil, List.sum_cons, List.sum_nil, hrf_cat, cat_i, cat_l, cat_r]) <;> decide) ⟨Nat.le_of_ble_eq_true rfl, Nat.le_of_ble_eq_true rfl⟩ dX9_become_16 (fun S5 hh => ?_)
  exact rw_vret E hrt hlk hh (by decide) (by decide) dX9_become_19
