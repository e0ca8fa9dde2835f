/-! HummingDiscModel.<init>()V -/
abbrev rm_X12_init : Room := { frames := 1, cells := 12, slots := 1417, locals := 20 }
theorem i_X12_init_12 : ∀ w ∈ wsX120, w ∈ wsX12_init := fun _ h => List.mem_cons_of_mem _ (List.mem_append_right _ (h))
def s_X12_init (S : HS) (h : Nat) : Option (HS) := kO S ((some h)) 12 (fun _ => knewA S 14 8 8 (fun o1 S2 => kwA S2 o1 14 0 ((-1)) (fun S3 => kwA S3 o1 14 1 ((-1)) (fun S4 => kwA S4 o1 14 2 ((-1)) (fun S5 => kwA S5 o1 14 3 ((-1)) (fun S6 => kwA S6 o1 14 4 ((-1)) (fun S7 => kwA S7 o1 14 5 ((-1)) (fun S8 => kwA S8 o1 14 6 ((-1)) (fun S9 => kwA S9 o1 14 7 ((-1)) (fun S10 => kwP S10 ((some h)) 12 2 o1 (fun S11 => knewA S11 14 8 8 (fun o12 S13 => kwP S13 ((some h)) 12 3 o12 (fun S14 => knewA S14 14 320 320 (fun o15 S16 => kwP S16 ((some h)) 12 4 o15 (fun S17 => knewA S17 14 131 131 (fun o18 S19 => kwP S19 ((some h)) 12 5 o18 (fun S20 => knewA S20 14 131 131 (fun o21 S22 => kwP S22 ((some h)) 12 6 o21 (fun S23 => knewA S23 14 500 500 (fun o24 S25 => kwP S25 ((some h)) 12 8 o24 (fun S26 => knewA S26 14 12 12 (fun o27 S28 => kwP S28 ((some h)) 12 24 o27 (fun S29 => kwI S29 ((some h)) 12 25 ((-1000000)) (fun S30 => knewA S30 14 3 3 (fun o31 S32 => kwP S32 ((some h)) 12 26 o31 (fun S33 => knewA S33 15 2 2 (fun o34 S35 => kwP S35 ((some h)) 12 27 o34 (fun S36 => knewA S36 14 262 262 (fun o37 S38 => kwP S38 ((some h)) 12 28 o37 (fun S39 => knewA S39 14 24 24 (fun o40 S41 => kwP S41 ((some h)) 12 29 o40 (fun S42 => knewA S42 14 16 16 (fun o43 S44 => kwP S44 ((some h)) 12 30 o43 (fun S45 => some S45))))))))))))))))))))))))))))))))))
set_option maxHeartbeats 4000000 in
set_option maxRecDepth 100000 in
theorem c_X12_init (l : Launch) (b0 : Nat) (G : hG) (S S1 : HS) (h : Nat) (hh : s_X12_init S h  = some S1) : MH l yX12_init wsX12_init rm_X12_init b0 G S [hrf b0 (some h)] none S1 12 1417 := by
  refine MH.ofW (cc := cX12_init) (maxL := 1) (ret := none) (own := RX12) (lv0 := [(0, hrf b0 ((some h)))]) (by decide) rfl rfl (Nat.le_of_ble_eq_true rfl) rfl ?_
  intro p e s m args below meth c E hrt hlk hnm
  have hh : (kO S ((some h)) 12 (fun _ => knewA S 14 8 8 (fun o1 S2 => kwA S2 o1 14 0 ((-1)) (fun S3 => kwA S3 o1 14 1 ((-1)) (fun S4 => kwA S4 o1 14 2 ((-1)) (fun S5 => kwA S5 o1 14 3 ((-1)) (fun S6 => kwA S6 o1 14 4 ((-1)) (fun S7 => kwA S7 o1 14 5 ((-1)) (fun S8 => kwA S8 o1 14 6 ((-1)) (fun S9 => kwA S9 o1 14 7 ((-1)) (fun S10 => kwP S10 ((some h)) 12 2 o1 (fun S11 => knewA S11 14 8 8 (fun o12 S13 => kwP S13 ((some h)) 12 3 o12 (fun S14 => knewA S14 14 320 320 (fun o15 S16 => kwP S16 ((some h)) 12 4 o15 (fun S17 => knewA S17 14 131 131 (fun o18 S19 => kwP S19 ((some h)) 12 5 o18 (fun S20 => knewA S20 14 131 131 (fun o21 S22 => kwP S22 ((some h)) 12 6 o21 (fun S23 => knewA S23 14 500 500 (fun o24 S25 => kwP S25 ((some h)) 12 8 o24 (fun S26 => knewA S26 14 12 12 (fun o27 S28 => kwP S28 ((some h)) 12 24 o27 (fun S29 => kwI S29 ((some h)) 12 25 ((-1000000)) (fun S30 => knewA S30 14 3 3 (fun o31 S32 => kwP S32 ((some h)) 12 26 o31 (fun S33 => knewA S33 15 2 2 (fun o34 S35 => kwP S35 ((some h)) 12 27 o34 (fun S36 => knewA S36 14 262 262 (fun o37 S38 => kwP S38 ((some h)) 12 28 o37 (fun S39 => knewA S39 14 24 24 (fun o40 S41 => kwP S41 ((some h)) 12 29 o40 (fun S42 => knewA S42 14 16 16 (fun o43 S44 => kwP S44 ((some h)) 12 30 o43 (fun S45 => some S45))))))))))))))))))))))))))))))))))) = some S1 := hh
  have hc : 0 + 12 ≤ 12 := by decide
  have hs : 0 + 1417 ≤ 1417 := by decide
  refine rw_aload_n E (j0 := 0) rfl rfl dX12_init_0 ?_
  refine rw_objI E hh (List.mem_of_getElem? (i := 1) (by decide +kernel)) (List.mem_of_getElem? (i := 2) (by decide +kernel)) (List.mem_of_getElem? (i := 3) (by decide +kernel)) (by decide) (by (try simp only [List.map_cons, List.map_nil, List.sum_cons, List.sum_nil, hrf_cat, cat_i, cat_l, cat_r]) <;> decide) dX12_init_1 (fun hh => ?_)
  refine rw_aload_n E (j0 := 0) rfl rfl dX12_init_4 ?_
  refine rw_bipush E (v := 8) (by decide) dX12_init_5 ?_
  refine rw_newa E hh (t0 := 1) (by decide) (by decide) (by decide) rfl (fun _ => rfl) (fun _ q => by cases q) rfl (by decide) (List.mem_of_getElem? (i := 4) (by decide +kernel)) (show _ ≤ 12 by omega) (show _ ≤ 1417 by omega) dX12_init_7 (fun o1 S2 hh => ?_)
  refine rw_dup E (hrf_cat _ _) dX12_init_9 ?_
  refine rw_iconst E (v := 0) (by decide) dX12_init_10 ?_
  refine rw_iconst E (v := (-1)) (by decide) dX12_init_11 ?_
  refine rw_iast E hh dX12_init_12 (fun S3 hh => ?_)
  refine rw_dup E (hrf_cat _ _) dX12_init_13 ?_
  refine rw_iconst E (v := 1) (by decide) dX12_init_14 ?_
  refine rw_iconst E (v := (-1)) (by decide) dX12_init_15 ?_
  refine rw_iast E hh dX12_init_16 (fun S4 hh => ?_)
  refine rw_dup E (hrf_cat _ _) dX12_init_17 ?_
  refine rw_iconst E (v := 2) (by decide) dX12_init_18 ?_
  refine rw_iconst E (v := (-1)) (by decide) dX12_init_19 ?_
  refine rw_iast E hh dX12_init_20 (fun S5 hh => ?_)
  refine rw_dup E (hrf_cat _ _) dX12_init_21 ?_
  refine rw_iconst E (v := 3) (by decide) dX12_init_22 ?_
  refine rw_iconst E (v := (-1)) (by decide) dX12_init_23 ?_
  refine rw_iast E hh dX12_init_24 (fun S6 hh => ?_)
  refine rw_dup E (hrf_cat _ _) dX12_init_25 ?_
  refine rw_iconst E (v := 4) (by decide) dX12_init_26 ?_
  refine rw_iconst E (v := (-1)) (by decide) dX12_init_27 ?_
  refine rw_iast E hh dX12_init_28 (fun S7 hh => ?_)
  refine rw_dup E (hrf_cat _ _) dX12_init_29 ?_
  refine rw_iconst E (v := 5) (by decide) dX12_init_30 ?_
  refine rw_iconst E (v := (-1)) (by decide) dX12_init_31 ?_
  refine rw_iast E hh dX12_init_32 (fun S8 hh => ?_)
  refine rw_dup E (hrf_cat _ _) dX12_init_33 ?_
  refine rw_bipush E (v := 6) (by decide) dX12_init_34 ?_
  refine rw_iconst E (v := (-1)) (by decide) dX12_init_36 ?_
  refine rw_iast E hh dX12_init_37 (fun S9 hh => ?_)
  refine rw_dup E (hrf_cat _ _) dX12_init_38 ?_
  refine rw_bipush E (v := 7) (by decide) dX12_init_39 ?_
  refine rw_iconst E (v := (-1)) (by decide) dX12_init_41 ?_
  refine rw_iast E hh dX12_init_42 (fun S10 hh => ?_)
  refine rw_putP E hh (C := RX12) (T := TX12) (N := 32) (ty0 := tyX12) rfl tyX12_ok nmX12 (by decide) i_X12_init_12 (by decide) rfl (List.mem_of_getElem? (i := 5) (by decide +kernel)) rfl (Or.inr ⟨rfl, hnm, rfl⟩) (Or.inr ⟨_, rfl⟩) dX12_init_43 (fun S11 hh => ?_)
  refine rw_aload_n E (j0 := 0) rfl rfl dX12_init_46 ?_
  refine rw_bipush E (v := 8) (by decide) dX12_init_47 ?_
  refine rw_newa E hh (t0 := 1) (by decide) (by decide) (by decide) rfl (fun _ => rfl) (fun _ q => by cases q) rfl (by decide) (List.mem_of_getElem? (i := 4) (by decide +kernel)) (show _ ≤ 12 by omega) (show _ ≤ 1417 by omega) dX12_init_49 (fun o12 S13 hh => ?_)
  refine rw_putP E hh (C := RX12) (T := TX12) (N := 32) (ty0 := tyX12) rfl tyX12_ok nmX12 (by decide) i_X12_init_12 (by decide) rfl (List.mem_of_getElem? (i := 6) (by decide +kernel)) rfl (Or.inr ⟨rfl, hnm, rfl⟩) (Or.inr ⟨_, rfl⟩) dX12_init_51 (fun S14 hh => ?_)
  refine rw_aload_n E (j0 := 0) rfl rfl dX12_init_54 ?_
  refine rw_sipush E (v := 320) (by decide) dX12_init_55 ?_
  refine rw_newa E hh (t0 := 1) (by decide) (by decide) (by decide) rfl (fun _ => rfl) (fun _ q => by cases q) rfl (by decide) (List.mem_of_getElem? (i := 4) (by decide +kernel)) (show _ ≤ 12 by omega) (show _ ≤ 1417 by omega) dX12_init_58 (fun o15 S16 hh => ?_)
  refine rw_putP E hh (C := RX12) (T := TX12) (N := 32) (ty0 := tyX12) rfl tyX12_ok nmX12 (by decide) i_X12_init_12 (by decide) rfl (List.mem_of_getElem? (i := 7) (by decide +kernel)) rfl (Or.inr ⟨rfl, hnm, rfl⟩) (Or.inr ⟨_, rfl⟩) dX12_init_60 (fun S17 hh => ?_)
  refine rw_aload_n E (j0 := 0) rfl rfl dX12_init_63 ?_
  refine rw_sipush E (v := 131) (by decide) dX12_init_64 ?_
  refine rw_newa E hh (t0 := 1) (by decide) (by decide) (by decide) rfl (fun _ => rfl) (fun _ q => by cases q) rfl (by decide) (List.mem_of_getElem? (i := 4) (by decide +kernel)) (show _ ≤ 12 by omega) (show _ ≤ 1417 by omega) dX12_init_67 (fun o18 S19 hh => ?_)
  refine rw_putP E hh (C := RX12) (T := TX12) (N := 32) (ty0 := tyX12) rfl tyX12_ok nmX12 (by decide) i_X12_init_12 (by decide) rfl (List.mem_of_getElem? (i := 8) (by decide +kernel)) rfl (Or.inr ⟨rfl, hnm, rfl⟩) (Or.inr ⟨_, rfl⟩) dX12_init_69 (fun S20 hh => ?_)
  refine rw_aload_n E (j0 := 0) rfl rfl dX12_init_72 ?_
  refine rw_sipush E (v := 131) (by decide) dX12_init_73 ?_
  refine rw_newa E hh (t0 := 1) (by decide) (by decide) (by decide) rfl (fun _ => rfl) (fun _ q => by cases q) rfl (by decide) (List.mem_of_getElem? (i := 4) (by decide +kernel)) (show _ ≤ 12 by omega) (show _ ≤ 1417 by omega) dX12_init_76 (fun o21 S22 hh => ?_)
  refine rw_putP E hh (C := RX12) (T := TX12) (N := 32) (ty0 := tyX12) rfl tyX12_ok nmX12 (by decide) i_X12_init_12 (by decide) rfl (List.mem_of_getElem? (i := 9) (by decide +kernel)) rfl (Or.inr ⟨rfl, hnm, rfl⟩) (Or.inr ⟨_, rfl⟩) dX12_init_78 (fun S23 hh => ?_)
  refine rw_aload_n E (j0 := 0) rfl rfl dX12_init_81 ?_
  refine rw_sipush E (v := 500) (by decide) dX12_init_82 ?_
  refine rw_newa E hh (t0 := 1) (by decide) (by decide) (by decide) rfl (fun _ => rfl) (fun _ q => by cases q) rfl (by decide) (List.mem_of_getElem? (i := 4) (by decide +kernel)) (show _ ≤ 12 by omega) (show _ ≤ 1417 by omega) dX12_init_85 (fun o24 S25 hh => ?_)
  refine rw_putP E hh (C := RX12) (T := TX12) (N := 32) (ty0 := tyX12) rfl tyX12_ok nmX12 (by decide) i_X12_init_12 (by decide) rfl (List.mem_of_getElem? (i := 10) (by decide +kernel)) rfl (Or.inr ⟨rfl, hnm, rfl⟩) (Or.inr ⟨_, rfl⟩) dX12_init_87 (fun S26 hh => ?_)
  refine rw_aload_n E (j0 := 0) rfl rfl dX12_init_90 ?_
  refine rw_bipush E (v := 12) (by decide) dX12_init_91 ?_
  refine rw_newa E hh (t0 := 1) (by decide) (by decide) (by decide) rfl (fun _ => rfl) (fun _ q => by cases q) rfl (by decide) (List.mem_of_getElem? (i := 4) (by decide +kernel)) (show _ ≤ 12 by omega) (show _ ≤ 1417 by omega) dX12_init_93 (fun o27 S28 hh => ?_)
  refine rw_putP E hh (C := RX12) (T := TX12) (N := 32) (ty0 := tyX12) rfl tyX12_ok nmX12 (by decide) i_X12_init_12 (by decide) rfl (List.mem_of_getElem? (i := 11) (by decide +kernel)) rfl (Or.inr ⟨rfl, hnm, rfl⟩) (Or.inr ⟨_, rfl⟩) dX12_init_95 (fun S29 hh => ?_)
  refine rw_aload_n E (j0 := 0) rfl rfl dX12_init_98 ?_
  refine rw_ldc E (v := (-1000000)) (List.mem_of_getElem? (i := 12) (by decide +kernel)) dX12_init_99 ?_
  refine rw_putI E hh (C := RX12) (T := TX12) (N := 32) (ty0 := tyX12) rfl tyX12_ok nmX12 (by decide) i_X12_init_12 (by decide) rfl (List.mem_of_getElem? (i := 13) (by decide +kernel)) rfl (Or.inl rfl) rfl dX12_init_101 (fun S30 hh => ?_)
  refine rw_aload_n E (j0 := 0) rfl rfl dX12_init_104 ?_
  refine rw_iconst E (v := 3) (by decide) dX12_init_105 ?_
  refine rw_newa E hh (t0 := 1) (by decide) (by decide) (by decide) rfl (fun _ => rfl) (fun _ q => by cases q) rfl (by decide) (List.mem_of_getElem? (i := 4) (by decide +kernel)) (show _ ≤ 12 by omega) (show _ ≤ 1417 by omega) dX12_init_106 (fun o31 S32 hh => ?_)
  refine rw_putP E hh (C := RX12) (T := TX12) (N := 32) (ty0 := tyX12) rfl tyX12_ok nmX12 (by decide) i_X12_init_12 (by decide) rfl (List.mem_of_getElem? (i := 14) (by decide +kernel)) rfl (Or.inr ⟨rfl, hnm, rfl⟩) (Or.inr ⟨_, rfl⟩) dX12_init_108 (fun S33 hh => ?_)
  refine rw_aload_n E (j0 := 0) rfl rfl dX12_init_111 ?_
  refine rw_iconst E (v := 2) (by decide) dX12_init_112 ?_
  refine rw_newa E hh (t0 := 2) (by decide) (by decide) (by decide) rfl (fun _ => rfl) (fun _ q => by cases q) rfl (by decide) (List.mem_of_getElem? (i := 15) (by decide +kernel)) (show _ ≤ 12 by omega) (show _ ≤ 1417 by omega) dX12_init_113 (fun o34 S35 hh => ?_)
  refine rw_putP E hh (C := RX12) (T := TX12) (N := 32) (ty0 := tyX12) rfl tyX12_ok nmX12 (by decide) i_X12_init_12 (by decide) rfl (List.mem_of_getElem? (i := 16) (by decide +kernel)) rfl (Or.inr ⟨rfl, hnm, rfl⟩) (Or.inr ⟨_, rfl⟩) dX12_init_115 (fun S36 hh => ?_)
  refine rw_aload_n E (j0 := 0) rfl rfl dX12_init_118 ?_
  refine rw_sipush E (v := 262) (by decide) dX12_init_119 ?_
  refine rw_newa E hh (t0 := 1) (by decide) (by decide) (by decide) rfl (fun _ => rfl) (fun _ q => by cases q) rfl (by decide) (List.mem_of_getElem? (i := 4) (by decide +kernel)) (show _ ≤ 12 by omega) (show _ ≤ 1417 by omega) dX12_init_122 (fun o37 S38 hh => ?_)
  refine rw_putP E hh (C := RX12) (T := TX12) (N := 32) (ty0 := tyX12) rfl tyX12_ok nmX12 (by decide) i_X12_init_12 (by decide) rfl (List.mem_of_getElem? (i := 17) (by decide +kernel)) rfl (Or.inr ⟨rfl, hnm, rfl⟩) (Or.inr ⟨_, rfl⟩) dX12_init_124 (fun S39 hh => ?_)
  refine rw_aload_n E (j0 := 0) rfl rfl dX12_init_127 ?_
  refine rw_bipush E (v := 24) (by decide) dX12_init_128 ?_
  refine rw_newa E hh (t0 := 1) (by decide) (by decide) (by decide) rfl (fun _ => rfl) (fun _ q => by cases q) rfl (by decide) (List.mem_of_getElem? (i := 4) (by decide +kernel)) (show _ ≤ 12 by omega) (show _ ≤ 1417 by omega) dX12_init_130 (fun o40 S41 hh => ?_)
  refine rw_putP E hh (C := RX12) (T := TX12) (N := 32) (ty0 := tyX12) rfl tyX12_ok nmX12 (by decide) i_X12_init_12 (by decide) rfl (List.mem_of_getElem? (i := 18) (by decide +kernel)) rfl (Or.inr ⟨rfl, hnm, rfl⟩) (Or.inr ⟨_, rfl⟩) dX12_init_132 (fun S42 hh => ?_)
  refine rw_aload_n E (j0 := 0) rfl rfl dX12_init_135 ?_
  refine rw_bipush E (v := 16) (by decide) dX12_init_136 ?_
  refine rw_newa E hh (t0 := 1) (by decide) (by decide) (by decide) rfl (fun _ => rfl) (fun _ q => by cases q) rfl (by decide) (List.mem_of_getElem? (i := 4) (by decide +kernel)) (show _ ≤ 12 by omega) (show _ ≤ 1417 by omega) dX12_init_138 (fun o43 S44 hh => ?_)
  refine rw_putP E hh (C := RX12) (T := TX12) (N := 32) (ty0 := tyX12) rfl tyX12_ok nmX12 (by decide) i_X12_init_12 (by decide) rfl (List.mem_of_getElem? (i := 19) (by decide +kernel)) rfl (Or.inr ⟨rfl, hnm, rfl⟩) (Or.inr ⟨_, rfl⟩) dX12_init_140 (fun S45 hh => ?_)
  exact rw_vret E hrt hlk hh (show _ ≤ 12 by omega) (show _ ≤ 1417 by omega) dX12_init_143

/-! HummingDiscModel.in(JJJ)Z -/
abbrev rm_X12_in : Room := { frames := 0, cells := 0, slots := 0, locals := 0 }
def s_X12_in (S : HS) (l0 : Int64) (l2 : Int64) (l4 : Int64) : Option (Int32 × HS) := if l0 < l2 then (kzr 0 S) else (if l4 < l0 then (kzr 0 S) else (kzr 1 S))
set_option maxHeartbeats 4000000 in
set_option maxRecDepth 100000 in
theorem c_X12_in (l : Launch) (b0 : Nat) (G : hG) (S S1 : HS) (l0 : Int64) (l2 : Int64) (l4 : Int64) (r : Int32) (hh : s_X12_in S l0 l2 l4 = some (r, S1)) : MH l yX12_in wsX12_in rm_X12_in b0 G S [.long l0, .long l2, .long l4] (some (.int r)) S1 0 0 := by
  refine MH.ofW (cc := cX12_in) (maxL := 6) (ret := (some .boolean)) (own := RX12) (lv0 := [(0, .long l0), (2, .long l2), (4, .long l4)]) (by decide) rfl rfl (Nat.le_of_ble_eq_true rfl) rfl ?_
  intro p e s m args below meth c E hrt hlk hnm
  have hh : (if l0 < l2 then (kzr 0 S) else (if l4 < l0 then (kzr 0 S) else (kzr 1 S))) = some (r, S1) := hh
  refine rw_lload_n E (j0 := 0) rfl rfl dX12_in_0 ?_
  refine rw_lload_n E (j0 := 1) rfl rfl dX12_in_1 ?_
  refine rw_llt E hh (tgt := 17) (by decide) dX12_in_2 dX12_in_3 (fun hh => ?_) (fun hh => ?_)
  · refine rw_iconst E (v := 0) (by decide) dX12_in_17 ?_
    exact rw_zret E hrt hlk hh (by decide) (by decide) dX12_in_18
  · refine rw_lload_n E (j0 := 0) rfl rfl dX12_in_6 ?_
    refine rw_lload E (j0 := 2) rfl dX12_in_7 ?_
    refine rw_lgt E hh (tgt := 17) (by decide) dX12_in_9 dX12_in_10 (fun hh => ?_) (fun hh => ?_)
    · refine rw_iconst E (v := 0) (by decide) dX12_in_17 ?_
      exact rw_zret E hrt hlk hh (by decide) (by decide) dX12_in_18
    · refine rw_iconst E (v := 1) (by decide) dX12_in_13 ?_
      refine rw_goto E (tgt := 18) (by decide) dX12_in_14 ?_
      exact rw_zret E hrt hlk hh (by decide) (by decide) dX12_in_18

/-! HummingDiscModel.finding(I)I -/
abbrev rm_X12_finding : Room := { frames := 0, cells := 0, slots := 0, locals := 0 }
theorem i_X12_finding_12 : ∀ w ∈ wsX120, w ∈ wsX12_finding := fun _ h => List.mem_cons_of_mem _ (List.mem_append_right _ (h))
def s_X12_finding (S : HS) (h : Nat) (l1 : Int32) : Option (Int32 × HS) := kwI S ((some h)) 12 1 l1 (fun S1 => some (((-1000010)) - l1, S1))
set_option maxHeartbeats 4000000 in
set_option maxRecDepth 100000 in
theorem c_X12_finding (l : Launch) (b0 : Nat) (G : hG) (S S1 : HS) (h : Nat) (l1 : Int32) (r : Int32) (hh : s_X12_finding S h l1 = some (r, S1)) : MH l yX12_finding wsX12_finding rm_X12_finding b0 G S [hrf b0 (some h), .int l1] (some (.int r)) S1 0 0 := by
  refine MH.ofW (cc := cX12_finding) (maxL := 2) (ret := (some .int)) (own := RX12) (lv0 := [(0, hrf b0 ((some h))), (1, .int l1)]) (by decide) rfl rfl (Nat.le_of_ble_eq_true rfl) rfl ?_
  intro p e s m args below meth c E hrt hlk hnm
  have hh : (kwI S ((some h)) 12 1 l1 (fun S1 => some (((-1000010)) - l1, S1))) = some (r, S1) := hh
  refine rw_aload_n E (j0 := 0) rfl rfl dX12_finding_0 ?_
  refine rw_iload_n E (j0 := 1) rfl rfl dX12_finding_1 ?_
  refine rw_putI E hh (C := RX12) (T := TX12) (N := 32) (ty0 := tyX12) rfl tyX12_ok nmX12 (by decide) i_X12_finding_12 (by decide) rfl (List.mem_of_getElem? (i := 1) (by decide +kernel)) rfl (Or.inl rfl) rfl dX12_finding_2 (fun S1 hh => ?_)
  refine rw_ldc E (v := (-1000010)) (List.mem_of_getElem? (i := 2) (by decide +kernel)) dX12_finding_5 ?_
  refine rw_iload_n E (j0 := 1) rfl rfl dX12_finding_7 ?_
  refine rw_isub E dX12_finding_8 ?_
  exact rw_iret E hrt hlk hh (by decide) (by decide) dX12_finding_9

/-! HummingDiscModel.isRow(I)Z -/
abbrev rm_X12_isRow : Room := { frames := 1, cells := 0, slots := 0, locals := 25 }
def s_X12_isRow (S : HS) (l0 : Int32) : Option (Int32 × HS) := kc (s_X12_in S l0.toInt64 0 7) (fun v2 S1 => kzr v2 S1)
set_option maxHeartbeats 4000000 in
set_option maxRecDepth 100000 in
theorem c_X12_isRow (l : Launch) (b0 : Nat) (G : hG) (S S1 : HS) (l0 : Int32) (r : Int32) (hh : s_X12_isRow S l0 = some (r, S1)) : MH l yX12_isRow wsX12_isRow rm_X12_isRow b0 G S [.int l0] (some (.int r)) S1 0 0 := by
  refine MH.ofW (cc := cX12_isRow) (maxL := 1) (ret := (some .boolean)) (own := RX12) (lv0 := [(0, .int l0)]) (by decide) rfl rfl (Nat.le_of_ble_eq_true rfl) rfl ?_
  intro p e s m args below meth c E hrt hlk hnm
  have hh : (kc (s_X12_in S l0.toInt64 0 7) (fun v2 S1 => kzr v2 S1)) = some (r, S1) := hh
  refine rw_iload_n E (j0 := 0) rfl rfl dX12_isRow_0 ?_
  refine rw_i2l E dX12_isRow_1 ?_
  refine rw_lconst E (v := 0) (by decide) dX12_isRow_2 ?_
  refine rw_ldc2 E (v := 7) (List.mem_of_getElem? (i := 1) (by decide +kernel)) dX12_isRow_3 ?_
  refine rw_cSi E (As := [.long l0.toInt64, .long 0, .long 7]) hh (fun _ _ hq => c_X12_in l b0 G _ _ _ _ _ _ hq) (va_cwS 3 E.2.2.2.2.1 gX12_isRow_X12_in rfl rfl rfl (by decide +kernel) ⟨Nat.le_of_ble_eq_true rfl, Nat.le_of_ble_eq_true rfl⟩) rfl rfl (by (try simp only [List.map_cons, List.map_nil, List.sum_cons, List.sum_nil, hrf_cat, cat_i, cat_l, cat_r]) <;> decide) ⟨Nat.le_of_ble_eq_true rfl, Nat.le_of_ble_eq_true rfl⟩ dX12_isRow_6 (fun v2 S1 hh => ?_)
  exact rw_zret E hrt hlk hh (by decide) (by decide) dX12_isRow_9

/-! HummingDiscModel.row(III)I -/
abbrev rm_X12_row : Room := { frames := 2, cells := 0, slots := 0, locals := 45 }
theorem i_X12_row_12 : ∀ w ∈ wsX120, w ∈ wsX12_row := fun _ h => List.mem_cons_of_mem _ (List.mem_append_right _ (h))
def s_X12_row_b65 (j65 : HS → Int32 → Int32 → Int32 → Option (Int32 × HS)) (h : Nat) (S : HS) (l1 : Int32) (l3 : Int32) (l4 : Int32) : Option (Int32 × HS) := if 40 ≤ l4 then (some (l3, S)) else (kP S ((some h)) 12 4 (fun v1 => kwA S v1 14 ((40 * l1) + l4) 0 (fun S2 => j65 S2 l1 l3 (l4 + 1))))
set_option maxHeartbeats 4000000 in
set_option maxRecDepth 100000 in
theorem w_X12_row_b65 {p : Program} {l : Launch} {e : Env} {s : State} {m : MethodId} {args : Array Value} {below : List Frame} {meth : Method} {c : Code} {b0 : Nat} {G : hG} {S1 : HS} {r : Int32} {j65 : HS → Int32 → Int32 → Int32 → Option (Int32 × HS)} {h : Nat} {S : HS} {l1 : Int32} {l3 : Int32} {l4 : Int32} (E : hE p s m args c b0 G cX12_row RX12 5 wsX12_row) (hrt : meth.sig.returnType = (some .int)) (hlk : meth.locks = false) (hj65 : ∀ (S : HS) (l1 : Int32) (l3 : Int32) (l4 : Int32), j65 S l1 l3 l4 = some (r, S1) → WH p l e rm_X12_row s m args below meth c b0 G 5 0 0 (MQ below (hQ b0 G (some (.int r)) S1) args s 0 0 (hA b0)) S 65 [(0, hrf b0 ((some h))), (1, .int l1), (3, .int l3), (4, .int l4)] []) (hh : s_X12_row_b65 j65 h S l1 l3 l4 = some (r, S1)) : WH p l e rm_X12_row s m args below meth c b0 G 5 0 0 (MQ below (hQ b0 G (some (.int r)) S1) args s 0 0 (hA b0)) S 65 [(0, hrf b0 ((some h))), (1, .int l1), (3, .int l3), (4, .int l4)] [] := by
  have hh : (if 40 ≤ l4 then (some (l3, S)) else (kP S ((some h)) 12 4 (fun v1 => kwA S v1 14 ((40 * l1) + l4) 0 (fun S2 => j65 S2 l1 l3 (l4 + 1))))) = some (r, S1) := hh
  refine rw_iload E (j0 := 3) rfl dX12_row_65 ?_
  refine rw_bipush E (v := 40) (by decide) dX12_row_67 ?_
  refine rw_icmp_ge E hh (tgt := 91) (by decide) dX12_row_69 (fun hh => ?_) (fun hh => ?_)
  · refine rw_iload_n E (j0 := 2) rfl rfl dX12_row_91 ?_
    exact rw_iret E hrt hlk hh (by decide) (by decide) dX12_row_92
  · refine rw_aload_n E (j0 := 0) rfl rfl dX12_row_72 ?_
    refine rw_getP E hh (C := RX12) (T := TX12) (N := 32) rfl (by decide) i_X12_row_12 (by decide) rfl (List.mem_of_getElem? (i := 7) (by decide +kernel)) rfl dX12_row_73 (fun v1 hh => ?_)
    refine rw_bipush E (v := 40) (by decide) dX12_row_76 ?_
    refine rw_iload_n E (j0 := 1) rfl rfl dX12_row_78 ?_
    refine rw_imul E dX12_row_79 ?_
    refine rw_iload E (j0 := 3) rfl dX12_row_80 ?_
    refine rw_iadd E dX12_row_82 ?_
    refine rw_iconst E (v := 0) (by decide) dX12_row_83 ?_
    refine rw_iast E hh dX12_row_84 (fun S2 hh => ?_)
    refine rw_iinc E (v := l4 + 1) (lv2 := [(4, .int (l4 + 1)), (0, hrf b0 ((some h))), (1, .int l1), (3, .int l3)]) (j0 := 3) rfl rfl (by decide) rfl dX12_row_85 ?_
    refine rw_goto E (tgt := 65) (by decide) dX12_row_88 ?_
    refine WH.pick [1, 2, 3, 0] rfl ?_
    exact hj65 _ _ _ _ hh
def s_X12_row_L65 (h : Nat) : Nat → HS → Int32 → Int32 → Int32 → Option (Int32 × HS)
  | 0 => fun _ _ _ _ => none
  | n + 1 => s_X12_row_b65 (s_X12_row_L65 h n) h
set_option maxHeartbeats 4000000 in
set_option maxRecDepth 100000 in
theorem w_X12_row_L65 {p : Program} {l : Launch} {e : Env} {s : State} {m : MethodId} {args : Array Value} {below : List Frame} {meth : Method} {c : Code} {b0 : Nat} {G : hG} {S1 : HS} {r : Int32} {h : Nat} (E : hE p s m args c b0 G cX12_row RX12 5 wsX12_row) (hrt : meth.sig.returnType = (some .int)) (hlk : meth.locks = false) : ∀ (n : Nat) (S : HS) (l1 : Int32) (l3 : Int32) (l4 : Int32), s_X12_row_L65 h n S l1 l3 l4 = some (r, S1) → WH p l e rm_X12_row s m args below meth c b0 G 5 0 0 (MQ below (hQ b0 G (some (.int r)) S1) args s 0 0 (hA b0)) S 65 [(0, hrf b0 ((some h))), (1, .int l1), (3, .int l3), (4, .int l4)] [] := by
  intro n
  induction n with
  | zero => intro _ _ _ _ hh; exact absurd hh (by simp [s_X12_row_L65])
  | succ n ih => intro _ _ _ _ hh; exact w_X12_row_b65 E hrt hlk  ih hh
def s_X12_row (S : HS) (h : Nat) (l1 : Int32) (l2 : Int32) (l3 : Int32) : Option (Int32 × HS) := kwI S ((some h)) 12 0 0 (fun S1 => kc (s_X12_isRow S1 l1) (fun v3 S2 => if v3 = 0 then (some ((-1000001), S2)) else (kc (s_X12_in S2 l2.toInt64 0 2) (fun v5 S4 => if v5 = 0 then (some ((-1000001), S4)) else (if l3 ≤ 40 then (kwI S4 ((some h)) 12 1 0 (fun S6 => if 0 ≤ l3 then (kP S6 ((some h)) 12 2 (fun v7 => kwA S6 v7 14 l1 l2 (fun S8 => kP S8 ((some h)) 12 3 (fun v9 => kwA S8 v9 14 l1 l3 (fun S10 => s_X12_row_L65 h 100000 S10 l1 l3 0))))) else (kO S6 ((some h)) 12 (fun a13 => kc (s_X12_finding S6 a13 4) (fun v12 S11 => some (v12, S11)))))) else (some ((-1000001), S4)))))))
set_option maxHeartbeats 4000000 in
set_option maxRecDepth 100000 in
theorem c_X12_row (l : Launch) (b0 : Nat) (G : hG) (S S1 : HS) (h : Nat) (l1 : Int32) (l2 : Int32) (l3 : Int32) (r : Int32) (hh : s_X12_row S h l1 l2 l3 = some (r, S1)) : MH l yX12_row wsX12_row rm_X12_row b0 G S [hrf b0 (some h), .int l1, .int l2, .int l3] (some (.int r)) S1 0 0 := by
  refine MH.ofW (cc := cX12_row) (maxL := 5) (ret := (some .int)) (own := RX12) (lv0 := [(0, hrf b0 ((some h))), (1, .int l1), (2, .int l2), (3, .int l3)]) (by decide) rfl rfl (Nat.le_of_ble_eq_true rfl) rfl ?_
  intro p e s m args below meth c E hrt hlk hnm
  have hh : (kwI S ((some h)) 12 0 0 (fun S1 => kc (s_X12_isRow S1 l1) (fun v3 S2 => if v3 = 0 then (some ((-1000001), S2)) else (kc (s_X12_in S2 l2.toInt64 0 2) (fun v5 S4 => if v5 = 0 then (some ((-1000001), S4)) else (if l3 ≤ 40 then (kwI S4 ((some h)) 12 1 0 (fun S6 => if 0 ≤ l3 then (kP S6 ((some h)) 12 2 (fun v7 => kwA S6 v7 14 l1 l2 (fun S8 => kP S8 ((some h)) 12 3 (fun v9 => kwA S8 v9 14 l1 l3 (fun S10 => s_X12_row_L65 h 100000 S10 l1 l3 0))))) else (kO S6 ((some h)) 12 (fun a13 => kc (s_X12_finding S6 a13 4) (fun v12 S11 => some (v12, S11)))))) else (some ((-1000001), S4)))))))) = some (r, S1) := hh
  refine rw_aload_n E (j0 := 0) rfl rfl dX12_row_0 ?_
  refine rw_iconst E (v := 0) (by decide) dX12_row_1 ?_
  refine rw_putI E hh (C := RX12) (T := TX12) (N := 32) (ty0 := tyX12) rfl tyX12_ok nmX12 (by decide) i_X12_row_12 (by decide) rfl (List.mem_of_getElem? (i := 1) (by decide +kernel)) rfl (Or.inl rfl) rfl dX12_row_2 (fun S1 hh => ?_)
  refine rw_iload_n E (j0 := 1) rfl rfl dX12_row_5 ?_
  refine rw_cSi E (As := [.int l1]) hh (fun _ _ hq => c_X12_isRow l b0 G _ _ _ _ hq) (va_cwS 1 E.2.2.2.2.1 gX12_row_X12_isRow rfl rfl rfl (by decide +kernel) ⟨Nat.le_of_ble_eq_true rfl, Nat.le_of_ble_eq_true rfl⟩) rfl rfl (by (try simp only [List.map_cons, List.map_nil, List.sum_cons, List.sum_nil, hrf_cat, cat_i, cat_l, cat_r]) <;> decide) ⟨Nat.le_of_ble_eq_true rfl, Nat.le_of_ble_eq_true rfl⟩ dX12_row_6 (fun v3 S2 hh => ?_)
  refine rw_if_eq E hh (tgt := 30) (by decide) dX12_row_9 (fun hh => ?_) (fun hh => ?_)
  · refine rw_ldc E (v := (-1000001)) (List.mem_of_getElem? (i := 3) (by decide +kernel)) dX12_row_30 ?_
    exact rw_iret E hrt hlk hh (by decide) (by decide) dX12_row_32
  · refine rw_iload_n E (j0 := 2) rfl rfl dX12_row_12 ?_
    refine rw_i2l E dX12_row_13 ?_
    refine rw_lconst E (v := 0) (by decide) dX12_row_14 ?_
    refine rw_ldc2 E (v := 2) (List.mem_of_getElem? (i := 2) (by decide +kernel)) dX12_row_15 ?_
    refine rw_cSi E (As := [.long l2.toInt64, .long 0, .long 2]) hh (fun _ _ hq => c_X12_in l b0 G _ _ _ _ _ _ hq) (va_cwS 3 E.2.2.2.2.1 gX12_row_X12_in rfl rfl rfl (by decide +kernel) ⟨Nat.le_of_ble_eq_true rfl, Nat.le_of_ble_eq_true rfl⟩) rfl rfl (by (try simp only [List.map_cons, List.map_nil, List.sum_cons, List.sum_nil, hrf_cat, cat_i, cat_l, cat_r]) <;> decide) ⟨Nat.le_of_ble_eq_true rfl, Nat.le_of_ble_eq_true rfl⟩ dX12_row_18 (fun v5 S4 hh => ?_)
    refine rw_if_eq E hh (tgt := 30) (by decide) dX12_row_21 (fun hh => ?_) (fun hh => ?_)
    · refine rw_ldc E (v := (-1000001)) (List.mem_of_getElem? (i := 3) (by decide +kernel)) dX12_row_30 ?_
      exact rw_iret E hrt hlk hh (by decide) (by decide) dX12_row_32
    · refine rw_iload_n E (j0 := 3) rfl rfl dX12_row_24 ?_
      refine rw_bipush E (v := 40) (by decide) dX12_row_25 ?_
      refine rw_icmp_le E hh (tgt := 33) (by decide) dX12_row_27 (fun hh => ?_) (fun hh => ?_)
      · refine rw_aload_n E (j0 := 0) rfl rfl dX12_row_33 ?_
        refine rw_iconst E (v := 0) (by decide) dX12_row_34 ?_
        refine rw_putI E hh (C := RX12) (T := TX12) (N := 32) (ty0 := tyX12) rfl tyX12_ok nmX12 (by decide) i_X12_row_12 (by decide) rfl (List.mem_of_getElem? (i := 4) (by decide +kernel)) rfl (Or.inl rfl) rfl dX12_row_35 (fun S6 hh => ?_)
        refine rw_iload_n E (j0 := 3) rfl rfl dX12_row_38 ?_
        refine rw_if_ge E hh (tgt := 48) (by decide) dX12_row_39 (fun hh => ?_) (fun hh => ?_)
        · refine rw_aload_n E (j0 := 0) rfl rfl dX12_row_48 ?_
          refine rw_getP E hh (C := RX12) (T := TX12) (N := 32) rfl (by decide) i_X12_row_12 (by decide) rfl (List.mem_of_getElem? (i := 5) (by decide +kernel)) rfl dX12_row_49 (fun v7 hh => ?_)
          refine rw_iload_n E (j0 := 1) rfl rfl dX12_row_52 ?_
          refine rw_iload_n E (j0 := 2) rfl rfl dX12_row_53 ?_
          refine rw_iast E hh dX12_row_54 (fun S8 hh => ?_)
          refine rw_aload_n E (j0 := 0) rfl rfl dX12_row_55 ?_
          refine rw_getP E hh (C := RX12) (T := TX12) (N := 32) rfl (by decide) i_X12_row_12 (by decide) rfl (List.mem_of_getElem? (i := 6) (by decide +kernel)) rfl dX12_row_56 (fun v9 hh => ?_)
          refine rw_iload_n E (j0 := 1) rfl rfl dX12_row_59 ?_
          refine rw_iload_n E (j0 := 3) rfl rfl dX12_row_60 ?_
          refine rw_iast E hh dX12_row_61 (fun S10 hh => ?_)
          refine rw_iconst E (v := 0) (by decide) dX12_row_62 ?_
          refine rw_istore E (lv2 := [(4, .int 0), (0, hrf b0 ((some h))), (1, .int l1), (2, .int l2), (3, .int l3)]) (by decide) rfl dX12_row_63 ?_
          refine WH.pick [1, 2, 4, 0] rfl ?_
          exact w_X12_row_L65 E hrt hlk 100000 _ _ _ _ hh
        · refine rw_aload_n E (j0 := 0) rfl rfl dX12_row_42 ?_
          refine rw_iconst E (v := 4) (by decide) dX12_row_43 ?_
          refine rw_cVi E (As := [.int 4]) hh (by decide) rfl (fun _ _ _ hq => c_X12_finding l b0 G _ _ _ _ _ hq) (cwV 1 E.2.2.2.2.1 gX12_row_X12_finding rfl rfl rfl (by decide +kernel) ⟨Nat.le_of_ble_eq_true rfl, Nat.le_of_ble_eq_true rfl⟩) rfl rfl (by (try simp only [List.map_cons, List.map_nil, List.sum_cons, List.sum_nil, hrf_cat, cat_i, cat_l, cat_r]) <;> decide) ⟨Nat.le_of_ble_eq_true rfl, Nat.le_of_ble_eq_true rfl⟩ dX12_row_44 (fun v12 S11 hh => ?_)
          exact rw_iret E hrt hlk hh (by decide) (by decide) dX12_row_47
      · refine rw_ldc E (v := (-1000001)) (List.mem_of_getElem? (i := 3) (by decide +kernel)) dX12_row_30 ?_
        exact rw_iret E hrt hlk hh (by decide) (by decide) dX12_row_32

/-! HummingDiscModel.set(III)I -/
abbrev rm_X12_set : Room := { frames := 2, cells := 0, slots := 0, locals := 45 }
theorem i_X12_set_12 : ∀ w ∈ wsX120, w ∈ wsX12_set := fun _ h => List.mem_cons_of_mem _ (List.mem_append_right _ (h))
def s_X12_set_b99 (h : Nat) (S : HS) (l1 : Int32) (l2 : Int32) (k0 : Option Nat) (k1 : Int32) (k2 : Int32) : Option (Int32 × HS) := kwA S k0 14 k1 k2 (fun S1 => kP S1 ((some h)) 12 4 (fun v2 => kA S1 v2 14 ((40 * l1) + l2) (fun v3 => some (v3, S1))))
set_option maxHeartbeats 4000000 in
set_option maxRecDepth 100000 in
theorem w_X12_set_b99 {p : Program} {l : Launch} {e : Env} {s : State} {m : MethodId} {args : Array Value} {below : List Frame} {meth : Method} {c : Code} {b0 : Nat} {G : hG} {S1 : HS} {r : Int32} {h : Nat} {S : HS} {l1 : Int32} {l2 : Int32} {k0 : Option Nat} {k1 : Int32} {k2 : Int32} (E : hE p s m args c b0 G cX12_set RX12 4 wsX12_set) (hrt : meth.sig.returnType = (some .int)) (hlk : meth.locks = false) (hh : s_X12_set_b99 h S l1 l2 k0 k1 k2 = some (r, S1)) : WH p l e rm_X12_set s m args below meth c b0 G 4 0 0 (MQ below (hQ b0 G (some (.int r)) S1) args s 0 0 (hA b0)) S 99 [(0, hrf b0 ((some h))), (1, .int l1), (2, .int l2)] [.int k2, .int k1, hrf b0 k0] := by
  have hh : (kwA S k0 14 k1 k2 (fun S1 => kP S1 ((some h)) 12 4 (fun v2 => kA S1 v2 14 ((40 * l1) + l2) (fun v3 => some (v3, S1))))) = some (r, S1) := hh
  refine rw_iast E hh dX12_set_99 (fun S1 hh => ?_)
  refine rw_aload_n E (j0 := 0) rfl rfl dX12_set_100 ?_
  refine rw_getP E hh (C := RX12) (T := TX12) (N := 32) rfl (by decide) i_X12_set_12 (by decide) rfl (List.mem_of_getElem? (i := 6) (by decide +kernel)) rfl dX12_set_101 (fun v2 hh => ?_)
  refine rw_bipush E (v := 40) (by decide) dX12_set_104 ?_
  refine rw_iload_n E (j0 := 1) rfl rfl dX12_set_106 ?_
  refine rw_imul E dX12_set_107 ?_
  refine rw_iload_n E (j0 := 2) rfl rfl dX12_set_108 ?_
  refine rw_iadd E dX12_set_109 ?_
  refine rw_iald E hh dX12_set_110 (fun v3 hh => ?_)
  exact rw_iret E hrt hlk hh (by decide) (by decide) dX12_set_111
def s_X12_set (S : HS) (h : Nat) (l1 : Int32) (l2 : Int32) (l3 : Int32) : Option (Int32 × HS) := kwI S ((some h)) 12 0 0 (fun S1 => kc (s_X12_isRow S1 l1) (fun v3 S2 => if v3 = 0 then (some ((-1000001), S2)) else (kwI S2 ((some h)) 12 1 0 (fun S4 => kP S4 ((some h)) 12 2 (fun v5 => kA S4 v5 14 l1 (fun v6 => if 0 ≤ v6 then (kP S4 ((some h)) 12 3 (fun v7 => kA S4 v7 14 l1 (fun v8 => kc (s_X12_in S4 l2.toInt64 0 ((v8 - 1 : Int32).toInt64)) (fun v10 S9 => if v10 = 0 then (kO S9 ((some h)) 12 (fun a18 => kc (s_X12_finding S9 a18 2) (fun v17 S16 => some (v17, S16)))) else (kP S9 ((some h)) 12 4 (fun v11 => kP S9 ((some h)) 12 2 (fun v12 => kA S9 v12 14 l1 (fun v13 => if v13 = 0 then (s_X12_set_b99 h S9 l1 l2 v11 ((40 * l1) + l2) l3.toInt8.toInt32) else (kP S9 ((some h)) 12 2 (fun v14 => kA S9 v14 14 l1 (fun v15 => if v15 = 1 then (s_X12_set_b99 h S9 l1 l2 v11 ((40 * l1) + l2) l3.toInt16.toInt32) else (s_X12_set_b99 h S9 l1 l2 v11 ((40 * l1) + l2) l3)))))))))))) else (kO S4 ((some h)) 12 (fun a21 => kc (s_X12_finding S4 a21 1) (fun v20 S19 => some (v20, S19))))))))))
set_option maxHeartbeats 4000000 in
set_option maxRecDepth 100000 in
theorem c_X12_set (l : Launch) (b0 : Nat) (G : hG) (S S1 : HS) (h : Nat) (l1 : Int32) (l2 : Int32) (l3 : Int32) (r : Int32) (hh : s_X12_set S h l1 l2 l3 = some (r, S1)) : MH l yX12_set wsX12_set rm_X12_set b0 G S [hrf b0 (some h), .int l1, .int l2, .int l3] (some (.int r)) S1 0 0 := by
  refine MH.ofW (cc := cX12_set) (maxL := 4) (ret := (some .int)) (own := RX12) (lv0 := [(0, hrf b0 ((some h))), (1, .int l1), (2, .int l2), (3, .int l3)]) (by decide) rfl rfl (Nat.le_of_ble_eq_true rfl) rfl ?_
  intro p e s m args below meth c E hrt hlk hnm
  have hh : (kwI S ((some h)) 12 0 0 (fun S1 => kc (s_X12_isRow S1 l1) (fun v3 S2 => if v3 = 0 then (some ((-1000001), S2)) else (kwI S2 ((some h)) 12 1 0 (fun S4 => kP S4 ((some h)) 12 2 (fun v5 => kA S4 v5 14 l1 (fun v6 => if 0 ≤ v6 then (kP S4 ((some h)) 12 3 (fun v7 => kA S4 v7 14 l1 (fun v8 => kc (s_X12_in S4 l2.toInt64 0 ((v8 - 1 : Int32).toInt64)) (fun v10 S9 => if v10 = 0 then (kO S9 ((some h)) 12 (fun a18 => kc (s_X12_finding S9 a18 2) (fun v17 S16 => some (v17, S16)))) else (kP S9 ((some h)) 12 4 (fun v11 => kP S9 ((some h)) 12 2 (fun v12 => kA S9 v12 14 l1 (fun v13 => if v13 = 0 then (s_X12_set_b99 h S9 l1 l2 v11 ((40 * l1) + l2) l3.toInt8.toInt32) else (kP S9 ((some h)) 12 2 (fun v14 => kA S9 v14 14 l1 (fun v15 => if v15 = 1 then (s_X12_set_b99 h S9 l1 l2 v11 ((40 * l1) + l2) l3.toInt16.toInt32) else (s_X12_set_b99 h S9 l1 l2 v11 ((40 * l1) + l2) l3)))))))))))) else (kO S4 ((some h)) 12 (fun a21 => kc (s_X12_finding S4 a21 1) (fun v20 S19 => some (v20, S19))))))))))) = some (r, S1) := hh
  refine rw_aload_n E (j0 := 0) rfl rfl dX12_set_0 ?_
  refine rw_iconst E (v := 0) (by decide) dX12_set_1 ?_
  refine rw_putI E hh (C := RX12) (T := TX12) (N := 32) (ty0 := tyX12) rfl tyX12_ok nmX12 (by decide) i_X12_set_12 (by decide) rfl (List.mem_of_getElem? (i := 1) (by decide +kernel)) rfl (Or.inl rfl) rfl dX12_set_2 (fun S1 hh => ?_)
  refine rw_iload_n E (j0 := 1) rfl rfl dX12_set_5 ?_
  refine rw_cSi E (As := [.int l1]) hh (fun _ _ hq => c_X12_isRow l b0 G _ _ _ _ hq) (va_cwS 1 E.2.2.2.2.1 gX12_set_X12_isRow rfl rfl rfl (by decide +kernel) ⟨Nat.le_of_ble_eq_true rfl, Nat.le_of_ble_eq_true rfl⟩) rfl rfl (by (try simp only [List.map_cons, List.map_nil, List.sum_cons, List.sum_nil, hrf_cat, cat_i, cat_l, cat_r]) <;> decide) ⟨Nat.le_of_ble_eq_true rfl, Nat.le_of_ble_eq_true rfl⟩ dX12_set_6 (fun v3 S2 hh => ?_)
  refine rw_if_ne E hh (tgt := 15) (by decide) dX12_set_9 (fun hh => ?_) (fun hh => ?_)
  · refine rw_aload_n E (j0 := 0) rfl rfl dX12_set_15 ?_
    refine rw_iconst E (v := 0) (by decide) dX12_set_16 ?_
    refine rw_putI E hh (C := RX12) (T := TX12) (N := 32) (ty0 := tyX12) rfl tyX12_ok nmX12 (by decide) i_X12_set_12 (by decide) rfl (List.mem_of_getElem? (i := 3) (by decide +kernel)) rfl (Or.inl rfl) rfl dX12_set_17 (fun S4 hh => ?_)
    refine rw_aload_n E (j0 := 0) rfl rfl dX12_set_20 ?_
    refine rw_getP E hh (C := RX12) (T := TX12) (N := 32) rfl (by decide) i_X12_set_12 (by decide) rfl (List.mem_of_getElem? (i := 4) (by decide +kernel)) rfl dX12_set_21 (fun v5 hh => ?_)
    refine rw_iload_n E (j0 := 1) rfl rfl dX12_set_24 ?_
    refine rw_iald E hh dX12_set_25 (fun v6 hh => ?_)
    refine rw_if_ge E hh (tgt := 35) (by decide) dX12_set_26 (fun hh => ?_) (fun hh => ?_)
    · refine rw_iload_n E (j0 := 2) rfl rfl dX12_set_35 ?_
      refine rw_i2l E dX12_set_36 ?_
      refine rw_lconst E (v := 0) (by decide) dX12_set_37 ?_
      refine rw_aload_n E (j0 := 0) rfl rfl dX12_set_38 ?_
      refine rw_getP E hh (C := RX12) (T := TX12) (N := 32) rfl (by decide) i_X12_set_12 (by decide) rfl (List.mem_of_getElem? (i := 5) (by decide +kernel)) rfl dX12_set_39 (fun v7 hh => ?_)
      refine rw_iload_n E (j0 := 1) rfl rfl dX12_set_42 ?_
      refine rw_iald E hh dX12_set_43 (fun v8 hh => ?_)
      refine rw_iconst E (v := 1) (by decide) dX12_set_44 ?_
      refine rw_isub E dX12_set_45 ?_
      refine rw_i2l E dX12_set_46 ?_
      refine rw_cSi E (As := [.long l2.toInt64, .long 0, .long ((v8 - 1 : Int32).toInt64)]) hh (fun _ _ hq => c_X12_in l b0 G _ _ _ _ _ _ hq) (va_cwS 3 E.2.2.2.2.1 gX12_set_X12_in rfl rfl rfl (by decide +kernel) ⟨Nat.le_of_ble_eq_true rfl, Nat.le_of_ble_eq_true rfl⟩) rfl rfl (by (try simp only [List.map_cons, List.map_nil, List.sum_cons, List.sum_nil, hrf_cat, cat_i, cat_l, cat_r]) <;> decide) ⟨Nat.le_of_ble_eq_true rfl, Nat.le_of_ble_eq_true rfl⟩ dX12_set_47 (fun v10 S9 hh => ?_)
      refine rw_if_ne E hh (tgt := 59) (by decide) dX12_set_50 (fun hh => ?_) (fun hh => ?_)
      · refine rw_aload_n E (j0 := 0) rfl rfl dX12_set_59 ?_
        refine rw_getP E hh (C := RX12) (T := TX12) (N := 32) rfl (by decide) i_X12_set_12 (by decide) rfl (List.mem_of_getElem? (i := 6) (by decide +kernel)) rfl dX12_set_60 (fun v11 hh => ?_)
        refine rw_bipush E (v := 40) (by decide) dX12_set_63 ?_
        refine rw_iload_n E (j0 := 1) rfl rfl dX12_set_65 ?_
        refine rw_imul E dX12_set_66 ?_
        refine rw_iload_n E (j0 := 2) rfl rfl dX12_set_67 ?_
        refine rw_iadd E dX12_set_68 ?_
        refine rw_aload_n E (j0 := 0) rfl rfl dX12_set_69 ?_
        refine rw_getP E hh (C := RX12) (T := TX12) (N := 32) rfl (by decide) i_X12_set_12 (by decide) rfl (List.mem_of_getElem? (i := 4) (by decide +kernel)) rfl dX12_set_70 (fun v12 hh => ?_)
        refine rw_iload_n E (j0 := 1) rfl rfl dX12_set_73 ?_
        refine rw_iald E hh dX12_set_74 (fun v13 hh => ?_)
        refine rw_if_ne E hh (tgt := 83) (by decide) dX12_set_75 (fun hh => ?_) (fun hh => ?_)
        · refine rw_aload_n E (j0 := 0) rfl rfl dX12_set_83 ?_
          refine rw_getP E hh (C := RX12) (T := TX12) (N := 32) rfl (by decide) i_X12_set_12 (by decide) rfl (List.mem_of_getElem? (i := 4) (by decide +kernel)) rfl dX12_set_84 (fun v14 hh => ?_)
          refine rw_iload_n E (j0 := 1) rfl rfl dX12_set_87 ?_
          refine rw_iald E hh dX12_set_88 (fun v15 hh => ?_)
          refine rw_iconst E (v := 1) (by decide) dX12_set_89 ?_
          refine rw_icmp_ne E hh (tgt := 98) (by decide) dX12_set_90 (fun hh => ?_) (fun hh => ?_)
          · refine rw_iload_n E (j0 := 3) rfl rfl dX12_set_98 ?_
            refine WH.pick [0, 1, 2] rfl ?_
            exact w_X12_set_b99 E hrt hlk hh
          · refine rw_iload_n E (j0 := 3) rfl rfl dX12_set_93 ?_
            refine rw_i2s E dX12_set_94 ?_
            refine rw_goto E (tgt := 99) (by decide) dX12_set_95 ?_
            refine WH.pick [0, 1, 2] rfl ?_
            exact w_X12_set_b99 E hrt hlk hh
        · refine rw_iload_n E (j0 := 3) rfl rfl dX12_set_78 ?_
          refine rw_i2b E dX12_set_79 ?_
          refine rw_goto E (tgt := 99) (by decide) dX12_set_80 ?_
          refine WH.pick [0, 1, 2] rfl ?_
          exact w_X12_set_b99 E hrt hlk hh
      · refine rw_aload_n E (j0 := 0) rfl rfl dX12_set_53 ?_
        refine rw_iconst E (v := 2) (by decide) dX12_set_54 ?_
        refine rw_cVi E (As := [.int 2]) hh (by decide) rfl (fun _ _ _ hq => c_X12_finding l b0 G _ _ _ _ _ hq) (cwV 1 E.2.2.2.2.1 gX12_set_X12_finding rfl rfl rfl (by decide +kernel) ⟨Nat.le_of_ble_eq_true rfl, Nat.le_of_ble_eq_true rfl⟩) rfl rfl (by (try simp only [List.map_cons, List.map_nil, List.sum_cons, List.sum_nil, hrf_cat, cat_i, cat_l, cat_r]) <;> decide) ⟨Nat.le_of_ble_eq_true rfl, Nat.le_of_ble_eq_true rfl⟩ dX12_set_55 (fun v17 S16 hh => ?_)
        exact rw_iret E hrt hlk hh (by decide) (by decide) dX12_set_58
    · refine rw_aload_n E (j0 := 0) rfl rfl dX12_set_29 ?_
      refine rw_iconst E (v := 1) (by decide) dX12_set_30 ?_
      refine rw_cVi E (As := [.int 1]) hh (by decide) rfl (fun _ _ _ hq => c_X12_finding l b0 G _ _ _ _ _ hq) (cwV 1 E.2.2.2.2.1 gX12_set_X12_finding rfl rfl rfl (by decide +kernel) ⟨Nat.le_of_ble_eq_true rfl, Nat.le_of_ble_eq_true rfl⟩) rfl rfl (by (try simp only [List.map_cons, List.map_nil, List.sum_cons, List.sum_nil, hrf_cat, cat_i, cat_l, cat_r]) <;> decide) ⟨Nat.le_of_ble_eq_true rfl, Nat.le_of_ble_eq_true rfl⟩ dX12_set_31 (fun v20 S19 hh => ?_)
      exact rw_iret E hrt hlk hh (by decide) (by decide) dX12_set_34
  · refine rw_ldc E (v := (-1000001)) (List.mem_of_getElem? (i := 2) (by decide +kernel)) dX12_set_12 ?_
    exact rw_iret E hrt hlk hh (by decide) (by decide) dX12_set_14

/-! HummingDiscModel.copy(IIIII)I -/
abbrev rm_X12_copy : Room := { frames := 2, cells := 0, slots := 0, locals := 45 }
theorem i_X12_copy_12 : ∀ w ∈ wsX120, w ∈ wsX12_copy := fun _ h => List.mem_cons_of_mem _ (List.mem_append_right _ (h))
def s_X12_copy_b45 (h : Nat) (S : HS) : Option (Int32 × HS) := kO S ((some h)) 12 (fun a3 => kc (s_X12_finding S a3 1) (fun v2 S1 => some (v2, S1)))
set_option maxHeartbeats 4000000 in
set_option maxRecDepth 100000 in
theorem w_X12_copy_b45 {p : Program} {l : Launch} {e : Env} {s : State} {m : MethodId} {args : Array Value} {below : List Frame} {meth : Method} {c : Code} {b0 : Nat} {G : hG} {S1 : HS} {r : Int32} {h : Nat} {S : HS} (E : hE p s m args c b0 G cX12_copy RX12 9 wsX12_copy) (hrt : meth.sig.returnType = (some .int)) (hlk : meth.locks = false) (hh : s_X12_copy_b45 h S = some (r, S1)) : WH p l e rm_X12_copy s m args below meth c b0 G 9 0 0 (MQ below (hQ b0 G (some (.int r)) S1) args s 0 0 (hA b0)) S 45 [(0, hrf b0 ((some h)))] [] := by
  have hh : (kO S ((some h)) 12 (fun a3 => kc (s_X12_finding S a3 1) (fun v2 S1 => some (v2, S1)))) = some (r, S1) := hh
  refine rw_aload_n E (j0 := 0) rfl rfl dX12_copy_45 ?_
  refine rw_iconst E (v := 1) (by decide) dX12_copy_46 ?_
  refine rw_cVi E (As := [.int 1]) hh (by decide) rfl (fun _ _ _ hq => c_X12_finding l b0 G _ _ _ _ _ hq) (cwV 1 E.2.2.2.2.1 gX12_copy_X12_finding rfl rfl rfl (by decide +kernel) ⟨Nat.le_of_ble_eq_true rfl, Nat.le_of_ble_eq_true rfl⟩) rfl rfl (by (try simp only [List.map_cons, List.map_nil, List.sum_cons, List.sum_nil, hrf_cat, cat_i, cat_l, cat_r]) <;> decide) ⟨Nat.le_of_ble_eq_true rfl, Nat.le_of_ble_eq_true rfl⟩ dX12_copy_47 (fun v2 S1 hh => ?_)
  exact rw_iret E hrt hlk hh (by decide) (by decide) dX12_copy_50
def s_X12_copy_b121 (h : Nat) (S : HS) : Option (Int32 × HS) := kO S ((some h)) 12 (fun a3 => kc (s_X12_finding S a3 2) (fun v2 S1 => some (v2, S1)))
set_option maxHeartbeats 4000000 in
set_option maxRecDepth 100000 in
theorem w_X12_copy_b121 {p : Program} {l : Launch} {e : Env} {s : State} {m : MethodId} {args : Array Value} {below : List Frame} {meth : Method} {c : Code} {b0 : Nat} {G : hG} {S1 : HS} {r : Int32} {h : Nat} {S : HS} (E : hE p s m args c b0 G cX12_copy RX12 9 wsX12_copy) (hrt : meth.sig.returnType = (some .int)) (hlk : meth.locks = false) (hh : s_X12_copy_b121 h S = some (r, S1)) : WH p l e rm_X12_copy s m args below meth c b0 G 9 0 0 (MQ below (hQ b0 G (some (.int r)) S1) args s 0 0 (hA b0)) S 121 [(0, hrf b0 ((some h)))] [] := by
  have hh : (kO S ((some h)) 12 (fun a3 => kc (s_X12_finding S a3 2) (fun v2 S1 => some (v2, S1)))) = some (r, S1) := hh
  refine rw_aload_n E (j0 := 0) rfl rfl dX12_copy_121 ?_
  refine rw_iconst E (v := 2) (by decide) dX12_copy_122 ?_
  refine rw_cVi E (As := [.int 2]) hh (by decide) rfl (fun _ _ _ hq => c_X12_finding l b0 G _ _ _ _ _ hq) (cwV 1 E.2.2.2.2.1 gX12_copy_X12_finding rfl rfl rfl (by decide +kernel) ⟨Nat.le_of_ble_eq_true rfl, Nat.le_of_ble_eq_true rfl⟩) rfl rfl (by (try simp only [List.map_cons, List.map_nil, List.sum_cons, List.sum_nil, hrf_cat, cat_i, cat_l, cat_r]) <;> decide) ⟨Nat.le_of_ble_eq_true rfl, Nat.le_of_ble_eq_true rfl⟩ dX12_copy_123 (fun v2 S1 hh => ?_)
  exact rw_iret E hrt hlk hh (by decide) (by decide) dX12_copy_126
def s_X12_copy_b167 (j143 : HS → Int32 → Int32 → Int32 → Int32 → Int32 → Int32 → Int32 → Option (Int32 × HS)) (h : Nat) (S : HS) (l1 : Int32) (l2 : Int32) (l3 : Int32) (l4 : Int32) (l5 : Int32) (l6 : Int32) (l7 : Int32) (k0 : Int32) : Option (Int32 × HS) := kP S ((some h)) 12 4 (fun v1 => kP S ((some h)) 12 4 (fun v2 => kA S v2 14 (((40 * l1) + l2) + k0) (fun v3 => kwA S v1 14 (((40 * l3) + l4) + k0) v3 (fun S4 => j143 S4 l1 l2 l3 l4 l5 l6 (l7 + 1)))))
set_option maxHeartbeats 4000000 in
set_option maxRecDepth 100000 in
theorem w_X12_copy_b167 {p : Program} {l : Launch} {e : Env} {s : State} {m : MethodId} {args : Array Value} {below : List Frame} {meth : Method} {c : Code} {b0 : Nat} {G : hG} {S1 : HS} {r : Int32} {j143 : HS → Int32 → Int32 → Int32 → Int32 → Int32 → Int32 → Int32 → Option (Int32 × HS)} {h : Nat} {S : HS} {l1 : Int32} {l2 : Int32} {l3 : Int32} {l4 : Int32} {l5 : Int32} {l6 : Int32} {l7 : Int32} {k0 : Int32} (E : hE p s m args c b0 G cX12_copy RX12 9 wsX12_copy) (hrt : meth.sig.returnType = (some .int)) (hlk : meth.locks = false) (hj143 : ∀ (S : HS) (l1 : Int32) (l2 : Int32) (l3 : Int32) (l4 : Int32) (l5 : Int32) (l6 : Int32) (l7 : Int32), j143 S l1 l2 l3 l4 l5 l6 l7 = some (r, S1) → WH p l e rm_X12_copy s m args below meth c b0 G 9 0 0 (MQ below (hQ b0 G (some (.int r)) S1) args s 0 0 (hA b0)) S 143 [(0, hrf b0 ((some h))), (1, .int l1), (2, .int l2), (3, .int l3), (4, .int l4), (5, .int l5), (6, .int l6), (7, .int l7)] []) (hh : s_X12_copy_b167 j143 h S l1 l2 l3 l4 l5 l6 l7 k0 = some (r, S1)) : WH p l e rm_X12_copy s m args below meth c b0 G 9 0 0 (MQ below (hQ b0 G (some (.int r)) S1) args s 0 0 (hA b0)) S 167 [(0, hrf b0 ((some h))), (1, .int l1), (2, .int l2), (3, .int l3), (4, .int l4), (5, .int l5), (6, .int l6), (7, .int l7)] [.int k0] := by
  have hh : (kP S ((some h)) 12 4 (fun v1 => kP S ((some h)) 12 4 (fun v2 => kA S v2 14 (((40 * l1) + l2) + k0) (fun v3 => kwA S v1 14 (((40 * l3) + l4) + k0) v3 (fun S4 => j143 S4 l1 l2 l3 l4 l5 l6 (l7 + 1)))))) = some (r, S1) := hh
  refine rw_istore E (lv2 := [(8, .int k0), (0, hrf b0 ((some h))), (1, .int l1), (2, .int l2), (3, .int l3), (4, .int l4), (5, .int l5), (6, .int l6), (7, .int l7)]) (by decide) rfl dX12_copy_167 ?_
  refine rw_aload_n E (j0 := 1) rfl rfl dX12_copy_169 ?_
  refine rw_getP E hh (C := RX12) (T := TX12) (N := 32) rfl (by decide) i_X12_copy_12 (by decide) rfl (List.mem_of_getElem? (i := 6) (by decide +kernel)) rfl dX12_copy_170 (fun v1 hh => ?_)
  refine rw_bipush E (v := 40) (by decide) dX12_copy_173 ?_
  refine rw_iload_n E (j0 := 4) rfl rfl dX12_copy_175 ?_
  refine rw_imul E dX12_copy_176 ?_
  refine rw_iload E (j0 := 5) rfl dX12_copy_177 ?_
  refine rw_iadd E dX12_copy_179 ?_
  refine rw_iload E (j0 := 0) rfl dX12_copy_180 ?_
  refine rw_iadd E dX12_copy_182 ?_
  refine rw_aload_n E (j0 := 1) rfl rfl dX12_copy_183 ?_
  refine rw_getP E hh (C := RX12) (T := TX12) (N := 32) rfl (by decide) i_X12_copy_12 (by decide) rfl (List.mem_of_getElem? (i := 6) (by decide +kernel)) rfl dX12_copy_184 (fun v2 hh => ?_)
  refine rw_bipush E (v := 40) (by decide) dX12_copy_187 ?_
  refine rw_iload_n E (j0 := 2) rfl rfl dX12_copy_189 ?_
  refine rw_imul E dX12_copy_190 ?_
  refine rw_iload_n E (j0 := 3) rfl rfl dX12_copy_191 ?_
  refine rw_iadd E dX12_copy_192 ?_
  refine rw_iload E (j0 := 0) rfl dX12_copy_193 ?_
  refine rw_iadd E dX12_copy_195 ?_
  refine rw_iald E hh dX12_copy_196 (fun v3 hh => ?_)
  refine rw_iast E hh dX12_copy_197 (fun S4 hh => ?_)
  refine rw_iinc E (v := l7 + 1) (lv2 := [(7, .int (l7 + 1)), (8, .int k0), (0, hrf b0 ((some h))), (1, .int l1), (2, .int l2), (3, .int l3), (4, .int l4), (5, .int l5), (6, .int l6)]) (j0 := 8) rfl rfl (by decide) rfl dX12_copy_198 ?_
  refine rw_goto E (tgt := 143) (by decide) dX12_copy_201 ?_
  refine WH.pick [2, 3, 4, 5, 6, 7, 8, 0] rfl ?_
  exact hj143 _ _ _ _ _ _ _ _ hh
def s_X12_copy_b143 (j143 : HS → Int32 → Int32 → Int32 → Int32 → Int32 → Int32 → Int32 → Option (Int32 × HS)) (h : Nat) (S : HS) (l1 : Int32) (l2 : Int32) (l3 : Int32) (l4 : Int32) (l5 : Int32) (l6 : Int32) (l7 : Int32) : Option (Int32 × HS) := if l5 ≤ l7 then (some (l5, S)) else (if l6 = 0 then (s_X12_copy_b167 j143 h S l1 l2 l3 l4 l5 l6 l7 ((l5 - 1) - l7)) else (s_X12_copy_b167 j143 h S l1 l2 l3 l4 l5 l6 l7 l7))
set_option maxHeartbeats 4000000 in
set_option maxRecDepth 100000 in
theorem w_X12_copy_b143 {p : Program} {l : Launch} {e : Env} {s : State} {m : MethodId} {args : Array Value} {below : List Frame} {meth : Method} {c : Code} {b0 : Nat} {G : hG} {S1 : HS} {r : Int32} {j143 : HS → Int32 → Int32 → Int32 → Int32 → Int32 → Int32 → Int32 → Option (Int32 × HS)} {h : Nat} {S : HS} {l1 : Int32} {l2 : Int32} {l3 : Int32} {l4 : Int32} {l5 : Int32} {l6 : Int32} {l7 : Int32} (E : hE p s m args c b0 G cX12_copy RX12 9 wsX12_copy) (hrt : meth.sig.returnType = (some .int)) (hlk : meth.locks = false) (hj143 : ∀ (S : HS) (l1 : Int32) (l2 : Int32) (l3 : Int32) (l4 : Int32) (l5 : Int32) (l6 : Int32) (l7 : Int32), j143 S l1 l2 l3 l4 l5 l6 l7 = some (r, S1) → WH p l e rm_X12_copy s m args below meth c b0 G 9 0 0 (MQ below (hQ b0 G (some (.int r)) S1) args s 0 0 (hA b0)) S 143 [(0, hrf b0 ((some h))), (1, .int l1), (2, .int l2), (3, .int l3), (4, .int l4), (5, .int l5), (6, .int l6), (7, .int l7)] []) (hh : s_X12_copy_b143 j143 h S l1 l2 l3 l4 l5 l6 l7 = some (r, S1)) : WH p l e rm_X12_copy s m args below meth c b0 G 9 0 0 (MQ below (hQ b0 G (some (.int r)) S1) args s 0 0 (hA b0)) S 143 [(0, hrf b0 ((some h))), (1, .int l1), (2, .int l2), (3, .int l3), (4, .int l4), (5, .int l5), (6, .int l6), (7, .int l7)] [] := by
  have hh : (if l5 ≤ l7 then (some (l5, S)) else (if l6 = 0 then (s_X12_copy_b167 j143 h S l1 l2 l3 l4 l5 l6 l7 ((l5 - 1) - l7)) else (s_X12_copy_b167 j143 h S l1 l2 l3 l4 l5 l6 l7 l7))) = some (r, S1) := hh
  refine rw_iload E (j0 := 7) rfl dX12_copy_143 ?_
  refine rw_iload E (j0 := 5) rfl dX12_copy_145 ?_
  refine rw_icmp_ge E hh (tgt := 204) (by decide) dX12_copy_147 (fun hh => ?_) (fun hh => ?_)
  · refine rw_iload E (j0 := 5) rfl dX12_copy_204 ?_
    exact rw_iret E hrt hlk hh (by decide) (by decide) dX12_copy_206
  · refine rw_iload E (j0 := 6) rfl dX12_copy_150 ?_
    refine rw_if_eq E hh (tgt := 160) (by decide) dX12_copy_152 (fun hh => ?_) (fun hh => ?_)
    · refine rw_iload E (j0 := 5) rfl dX12_copy_160 ?_
      refine rw_iconst E (v := 1) (by decide) dX12_copy_162 ?_
      refine rw_isub E dX12_copy_163 ?_
      refine rw_iload E (j0 := 7) rfl dX12_copy_164 ?_
      refine rw_isub E dX12_copy_166 ?_
      refine WH.pick [0, 1, 2, 3, 4, 5, 6, 7] rfl ?_
      exact w_X12_copy_b167 E hrt hlk hj143 hh
    · refine rw_iload E (j0 := 7) rfl dX12_copy_155 ?_
      refine rw_goto E (tgt := 167) (by decide) dX12_copy_157 ?_
      refine WH.pick [0, 1, 2, 3, 4, 5, 6, 7] rfl ?_
      exact w_X12_copy_b167 E hrt hlk hj143 hh
def s_X12_copy_L143 (h : Nat) : Nat → HS → Int32 → Int32 → Int32 → Int32 → Int32 → Int32 → Int32 → Option (Int32 × HS)
  | 0 => fun _ _ _ _ _ _ _ _ => none
  | n + 1 => s_X12_copy_b143 (s_X12_copy_L143 h n) h
set_option maxHeartbeats 4000000 in
set_option maxRecDepth 100000 in
theorem w_X12_copy_L143 {p : Program} {l : Launch} {e : Env} {s : State} {m : MethodId} {args : Array Value} {below : List Frame} {meth : Method} {c : Code} {b0 : Nat} {G : hG} {S1 : HS} {r : Int32} {h : Nat} (E : hE p s m args c b0 G cX12_copy RX12 9 wsX12_copy) (hrt : meth.sig.returnType = (some .int)) (hlk : meth.locks = false) : ∀ (n : Nat) (S : HS) (l1 : Int32) (l2 : Int32) (l3 : Int32) (l4 : Int32) (l5 : Int32) (l6 : Int32) (l7 : Int32), s_X12_copy_L143 h n S l1 l2 l3 l4 l5 l6 l7 = some (r, S1) → WH p l e rm_X12_copy s m args below meth c b0 G 9 0 0 (MQ below (hQ b0 G (some (.int r)) S1) args s 0 0 (hA b0)) S 143 [(0, hrf b0 ((some h))), (1, .int l1), (2, .int l2), (3, .int l3), (4, .int l4), (5, .int l5), (6, .int l6), (7, .int l7)] [] := by
  intro n
  induction n with
  | zero => intro _ _ _ _ _ _ _ _ hh; exact absurd hh (by simp [s_X12_copy_L143])
  | succ n ih => intro _ _ _ _ _ _ _ _ hh; exact w_X12_copy_b143 E hrt hlk  ih hh
def s_X12_copy_b138 (h : Nat) (S : HS) (l1 : Int32) (l2 : Int32) (l3 : Int32) (l4 : Int32) (l5 : Int32) (k0 : Int32) : Option (Int32 × HS) := s_X12_copy_L143 h 100000 S l1 l2 l3 l4 l5 k0 0
set_option maxHeartbeats 4000000 in
set_option maxRecDepth 100000 in
theorem w_X12_copy_b138 {p : Program} {l : Launch} {e : Env} {s : State} {m : MethodId} {args : Array Value} {below : List Frame} {meth : Method} {c : Code} {b0 : Nat} {G : hG} {S1 : HS} {r : Int32} {h : Nat} {S : HS} {l1 : Int32} {l2 : Int32} {l3 : Int32} {l4 : Int32} {l5 : Int32} {k0 : Int32} (E : hE p s m args c b0 G cX12_copy RX12 9 wsX12_copy) (hrt : meth.sig.returnType = (some .int)) (hlk : meth.locks = false) (hh : s_X12_copy_b138 h S l1 l2 l3 l4 l5 k0 = some (r, S1)) : WH p l e rm_X12_copy s m args below meth c b0 G 9 0 0 (MQ below (hQ b0 G (some (.int r)) S1) args s 0 0 (hA b0)) S 138 [(0, hrf b0 ((some h))), (1, .int l1), (2, .int l2), (3, .int l3), (4, .int l4), (5, .int l5)] [.int k0] := by
  have hh : (s_X12_copy_L143 h 100000 S l1 l2 l3 l4 l5 k0 0) = some (r, S1) := hh
  refine rw_istore E (lv2 := [(6, .int k0), (0, hrf b0 ((some h))), (1, .int l1), (2, .int l2), (3, .int l3), (4, .int l4), (5, .int l5)]) (by decide) rfl dX12_copy_138 ?_
  refine rw_iconst E (v := 0) (by decide) dX12_copy_140 ?_
  refine rw_istore E (lv2 := [(7, .int 0), (6, .int k0), (0, hrf b0 ((some h))), (1, .int l1), (2, .int l2), (3, .int l3), (4, .int l4), (5, .int l5)]) (by decide) rfl dX12_copy_141 ?_
  refine WH.pick [2, 3, 4, 5, 6, 7, 1, 0] rfl ?_
  exact w_X12_copy_L143 E hrt hlk 100000 _ _ _ _ _ _ _ _ hh
def s_X12_copy (S : HS) (h : Nat) (l1 : Int32) (l2 : Int32) (l3 : Int32) (l4 : Int32) (l5 : Int32) : Option (Int32 × HS) := kwI S ((some h)) 12 0 0 (fun S1 => kc (s_X12_isRow S1 l1) (fun v3 S2 => if v3 = 0 then (some ((-1000001), S2)) else (kc (s_X12_isRow S2 l3) (fun v5 S4 => if v5 = 0 then (some ((-1000001), S4)) else (kwI S4 ((some h)) 12 1 0 (fun S6 => kP S6 ((some h)) 12 2 (fun v7 => kA S6 v7 14 l1 (fun v8 => if v8 < 0 then (s_X12_copy_b45 h S6) else (kP S6 ((some h)) 12 2 (fun v9 => kA S6 v9 14 l3 (fun v10 => if 0 ≤ v10 then (kP S6 ((some h)) 12 2 (fun v11 => kA S6 v11 14 l1 (fun v12 => kP S6 ((some h)) 12 2 (fun v13 => kA S6 v13 14 l3 (fun v14 => if v12 = v14 then (if l2 < 0 then (s_X12_copy_b121 h S6) else (if l4 < 0 then (s_X12_copy_b121 h S6) else (if l5 < 0 then (s_X12_copy_b121 h S6) else (kP S6 ((some h)) 12 3 (fun v15 => kA S6 v15 14 l1 (fun v16 => if v16.toInt64 < l2.toInt64 + l5.toInt64 then (s_X12_copy_b121 h S6) else (kP S6 ((some h)) 12 3 (fun v17 => kA S6 v17 14 l3 (fun v18 => if l4.toInt64 + l5.toInt64 ≤ v18.toInt64 then (if l2 < l4 then (s_X12_copy_b138 h S6 l1 l2 l3 l4 l5 0) else (s_X12_copy_b138 h S6 l1 l2 l3 l4 l5 1)) else (s_X12_copy_b121 h S6)))))))))) else (kO S6 ((some h)) 12 (fun a21 => kc (s_X12_finding S6 a21 5) (fun v20 S19 => some (v20, S19))))))))) else (s_X12_copy_b45 h S6))))))))))))
set_option maxHeartbeats 4000000 in
set_option maxRecDepth 100000 in
theorem c_X12_copy (l : Launch) (b0 : Nat) (G : hG) (S S1 : HS) (h : Nat) (l1 : Int32) (l2 : Int32) (l3 : Int32) (l4 : Int32) (l5 : Int32) (r : Int32) (hh : s_X12_copy S h l1 l2 l3 l4 l5 = some (r, S1)) : MH l yX12_copy wsX12_copy rm_X12_copy b0 G S [hrf b0 (some h), .int l1, .int l2, .int l3, .int l4, .int l5] (some (.int r)) S1 0 0 := by
  refine MH.ofW (cc := cX12_copy) (maxL := 9) (ret := (some .int)) (own := RX12) (lv0 := [(0, hrf b0 ((some h))), (1, .int l1), (2, .int l2), (3, .int l3), (4, .int l4), (5, .int l5)]) (by decide) rfl rfl (Nat.le_of_ble_eq_true rfl) rfl ?_
  intro p e s m args below meth c E hrt hlk hnm
  have hh : (kwI S ((some h)) 12 0 0 (fun S1 => kc (s_X12_isRow S1 l1) (fun v3 S2 => if v3 = 0 then (some ((-1000001), S2)) else (kc (s_X12_isRow S2 l3) (fun v5 S4 => if v5 = 0 then (some ((-1000001), S4)) else (kwI S4 ((some h)) 12 1 0 (fun S6 => kP S6 ((some h)) 12 2 (fun v7 => kA S6 v7 14 l1 (fun v8 => if v8 < 0 then (s_X12_copy_b45 h S6) else (kP S6 ((some h)) 12 2 (fun v9 => kA S6 v9 14 l3 (fun v10 => if 0 ≤ v10 then (kP S6 ((some h)) 12 2 (fun v11 => kA S6 v11 14 l1 (fun v12 => kP S6 ((some h)) 12 2 (fun v13 => kA S6 v13 14 l3 (fun v14 => if v12 = v14 then (if l2 < 0 then (s_X12_copy_b121 h S6) else (if l4 < 0 then (s_X12_copy_b121 h S6) else (if l5 < 0 then (s_X12_copy_b121 h S6) else (kP S6 ((some h)) 12 3 (fun v15 => kA S6 v15 14 l1 (fun v16 => if v16.toInt64 < l2.toInt64 + l5.toInt64 then (s_X12_copy_b121 h S6) else (kP S6 ((some h)) 12 3 (fun v17 => kA S6 v17 14 l3 (fun v18 => if l4.toInt64 + l5.toInt64 ≤ v18.toInt64 then (if l2 < l4 then (s_X12_copy_b138 h S6 l1 l2 l3 l4 l5 0) else (s_X12_copy_b138 h S6 l1 l2 l3 l4 l5 1)) else (s_X12_copy_b121 h S6)))))))))) else (kO S6 ((some h)) 12 (fun a21 => kc (s_X12_finding S6 a21 5) (fun v20 S19 => some (v20, S19))))))))) else (s_X12_copy_b45 h S6))))))))))))) = some (r, S1) := hh
  refine rw_aload_n E (j0 := 0) rfl rfl dX12_copy_0 ?_
  refine rw_iconst E (v := 0) (by decide) dX12_copy_1 ?_
  refine rw_putI E hh (C := RX12) (T := TX12) (N := 32) (ty0 := tyX12) rfl tyX12_ok nmX12 (by decide) i_X12_copy_12 (by decide) rfl (List.mem_of_getElem? (i := 1) (by decide +kernel)) rfl (Or.inl rfl) rfl dX12_copy_2 (fun S1 hh => ?_)
  refine rw_iload_n E (j0 := 1) rfl rfl dX12_copy_5 ?_
  refine rw_cSi E (As := [.int l1]) hh (fun _ _ hq => c_X12_isRow l b0 G _ _ _ _ hq) (va_cwS 1 E.2.2.2.2.1 gX12_copy_X12_isRow rfl rfl rfl (by decide +kernel) ⟨Nat.le_of_ble_eq_true rfl, Nat.le_of_ble_eq_true rfl⟩) rfl rfl (by (try simp only [List.map_cons, List.map_nil, List.sum_cons, List.sum_nil, hrf_cat, cat_i, cat_l, cat_r]) <;> decide) ⟨Nat.le_of_ble_eq_true rfl, Nat.le_of_ble_eq_true rfl⟩ dX12_copy_6 (fun v3 S2 hh => ?_)
  refine rw_if_eq E hh (tgt := 19) (by decide) dX12_copy_9 (fun hh => ?_) (fun hh => ?_)
  · refine rw_ldc E (v := (-1000001)) (List.mem_of_getElem? (i := 2) (by decide +kernel)) dX12_copy_19 ?_
    exact rw_iret E hrt hlk hh (by decide) (by decide) dX12_copy_21
  · refine rw_iload_n E (j0 := 3) rfl rfl dX12_copy_12 ?_
    refine rw_cSi E (As := [.int l3]) hh (fun _ _ hq => c_X12_isRow l b0 G _ _ _ _ hq) (va_cwS 1 E.2.2.2.2.1 gX12_copy_X12_isRow rfl rfl rfl (by decide +kernel) ⟨Nat.le_of_ble_eq_true rfl, Nat.le_of_ble_eq_true rfl⟩) rfl rfl (by (try simp only [List.map_cons, List.map_nil, List.sum_cons, List.sum_nil, hrf_cat, cat_i, cat_l, cat_r]) <;> decide) ⟨Nat.le_of_ble_eq_true rfl, Nat.le_of_ble_eq_true rfl⟩ dX12_copy_13 (fun v5 S4 hh => ?_)
    refine rw_if_ne E hh (tgt := 22) (by decide) dX12_copy_16 (fun hh => ?_) (fun hh => ?_)
    · refine rw_aload_n E (j0 := 0) rfl rfl dX12_copy_22 ?_
      refine rw_iconst E (v := 0) (by decide) dX12_copy_23 ?_
      refine rw_putI E hh (C := RX12) (T := TX12) (N := 32) (ty0 := tyX12) rfl tyX12_ok nmX12 (by decide) i_X12_copy_12 (by decide) rfl (List.mem_of_getElem? (i := 3) (by decide +kernel)) rfl (Or.inl rfl) rfl dX12_copy_24 (fun S6 hh => ?_)
      refine rw_aload_n E (j0 := 0) rfl rfl dX12_copy_27 ?_
      refine rw_getP E hh (C := RX12) (T := TX12) (N := 32) rfl (by decide) i_X12_copy_12 (by decide) rfl (List.mem_of_getElem? (i := 4) (by decide +kernel)) rfl dX12_copy_28 (fun v7 hh => ?_)
      refine rw_iload_n E (j0 := 1) rfl rfl dX12_copy_31 ?_
      refine rw_iald E hh dX12_copy_32 (fun v8 hh => ?_)
      refine rw_if_lt E hh (tgt := 45) (by decide) dX12_copy_33 (fun hh => ?_) (fun hh => ?_)
      · refine WH.pick [0] rfl ?_
        exact w_X12_copy_b45 E hrt hlk hh
      · refine rw_aload_n E (j0 := 0) rfl rfl dX12_copy_36 ?_
        refine rw_getP E hh (C := RX12) (T := TX12) (N := 32) rfl (by decide) i_X12_copy_12 (by decide) rfl (List.mem_of_getElem? (i := 4) (by decide +kernel)) rfl dX12_copy_37 (fun v9 hh => ?_)
        refine rw_iload_n E (j0 := 3) rfl rfl dX12_copy_40 ?_
        refine rw_iald E hh dX12_copy_41 (fun v10 hh => ?_)
        refine rw_if_ge E hh (tgt := 51) (by decide) dX12_copy_42 (fun hh => ?_) (fun hh => ?_)
        · refine rw_aload_n E (j0 := 0) rfl rfl dX12_copy_51 ?_
          refine rw_getP E hh (C := RX12) (T := TX12) (N := 32) rfl (by decide) i_X12_copy_12 (by decide) rfl (List.mem_of_getElem? (i := 4) (by decide +kernel)) rfl dX12_copy_52 (fun v11 hh => ?_)
          refine rw_iload_n E (j0 := 1) rfl rfl dX12_copy_55 ?_
          refine rw_iald E hh dX12_copy_56 (fun v12 hh => ?_)
          refine rw_aload_n E (j0 := 0) rfl rfl dX12_copy_57 ?_
          refine rw_getP E hh (C := RX12) (T := TX12) (N := 32) rfl (by decide) i_X12_copy_12 (by decide) rfl (List.mem_of_getElem? (i := 4) (by decide +kernel)) rfl dX12_copy_58 (fun v13 hh => ?_)
          refine rw_iload_n E (j0 := 3) rfl rfl dX12_copy_61 ?_
          refine rw_iald E hh dX12_copy_62 (fun v14 hh => ?_)
          refine rw_icmp_eq E hh (tgt := 72) (by decide) dX12_copy_63 (fun hh => ?_) (fun hh => ?_)
          · refine rw_iload_n E (j0 := 2) rfl rfl dX12_copy_72 ?_
            refine rw_if_lt E hh (tgt := 121) (by decide) dX12_copy_73 (fun hh => ?_) (fun hh => ?_)
            · refine WH.pick [0] rfl ?_
              exact w_X12_copy_b121 E hrt hlk hh
            · refine rw_iload E (j0 := 4) rfl dX12_copy_76 ?_
              refine rw_if_lt E hh (tgt := 121) (by decide) dX12_copy_78 (fun hh => ?_) (fun hh => ?_)
              · refine WH.pick [0] rfl ?_
                exact w_X12_copy_b121 E hrt hlk hh
              · refine rw_iload E (j0 := 5) rfl dX12_copy_81 ?_
                refine rw_if_lt E hh (tgt := 121) (by decide) dX12_copy_83 (fun hh => ?_) (fun hh => ?_)
                · refine WH.pick [0] rfl ?_
                  exact w_X12_copy_b121 E hrt hlk hh
                · refine rw_iload_n E (j0 := 2) rfl rfl dX12_copy_86 ?_
                  refine rw_i2l E dX12_copy_87 ?_
                  refine rw_iload E (j0 := 5) rfl dX12_copy_88 ?_
                  refine rw_i2l E dX12_copy_90 ?_
                  refine rw_ladd E dX12_copy_91 ?_
                  refine rw_aload_n E (j0 := 0) rfl rfl dX12_copy_92 ?_
                  refine rw_getP E hh (C := RX12) (T := TX12) (N := 32) rfl (by decide) i_X12_copy_12 (by decide) rfl (List.mem_of_getElem? (i := 5) (by decide +kernel)) rfl dX12_copy_93 (fun v15 hh => ?_)
                  refine rw_iload_n E (j0 := 1) rfl rfl dX12_copy_96 ?_
                  refine rw_iald E hh dX12_copy_97 (fun v16 hh => ?_)
                  refine rw_i2l E dX12_copy_98 ?_
                  refine rw_lgt E hh (tgt := 121) (by decide) dX12_copy_99 dX12_copy_100 (fun hh => ?_) (fun hh => ?_)
                  · refine WH.pick [0] rfl ?_
                    exact w_X12_copy_b121 E hrt hlk hh
                  · refine rw_iload E (j0 := 4) rfl dX12_copy_103 ?_
                    refine rw_i2l E dX12_copy_105 ?_
                    refine rw_iload E (j0 := 5) rfl dX12_copy_106 ?_
                    refine rw_i2l E dX12_copy_108 ?_
                    refine rw_ladd E dX12_copy_109 ?_
                    refine rw_aload_n E (j0 := 0) rfl rfl dX12_copy_110 ?_
                    refine rw_getP E hh (C := RX12) (T := TX12) (N := 32) rfl (by decide) i_X12_copy_12 (by decide) rfl (List.mem_of_getElem? (i := 5) (by decide +kernel)) rfl dX12_copy_111 (fun v17 hh => ?_)
                    refine rw_iload_n E (j0 := 3) rfl rfl dX12_copy_114 ?_
                    refine rw_iald E hh dX12_copy_115 (fun v18 hh => ?_)
                    refine rw_i2l E dX12_copy_116 ?_
                    refine rw_lle E hh (tgt := 127) (by decide) dX12_copy_117 dX12_copy_118 (fun hh => ?_) (fun hh => ?_)
                    · refine rw_iload_n E (j0 := 2) rfl rfl dX12_copy_127 ?_
                      refine rw_iload E (j0 := 4) rfl dX12_copy_128 ?_
                      refine rw_icmp_lt E hh (tgt := 137) (by decide) dX12_copy_130 (fun hh => ?_) (fun hh => ?_)
                      · refine rw_iconst E (v := 0) (by decide) dX12_copy_137 ?_
                        refine WH.pick [0, 1, 2, 3, 4, 5] rfl ?_
                        exact w_X12_copy_b138 E hrt hlk hh
                      · refine rw_iconst E (v := 1) (by decide) dX12_copy_133 ?_
                        refine rw_goto E (tgt := 138) (by decide) dX12_copy_134 ?_
                        refine WH.pick [0, 1, 2, 3, 4, 5] rfl ?_
                        exact w_X12_copy_b138 E hrt hlk hh
                    · refine WH.pick [0] rfl ?_
                      exact w_X12_copy_b121 E hrt hlk hh
          · refine rw_aload_n E (j0 := 0) rfl rfl dX12_copy_66 ?_
            refine rw_iconst E (v := 5) (by decide) dX12_copy_67 ?_
            refine rw_cVi E (As := [.int 5]) hh (by decide) rfl (fun _ _ _ hq => c_X12_finding l b0 G _ _ _ _ _ hq) (cwV 1 E.2.2.2.2.1 gX12_copy_X12_finding rfl rfl rfl (by decide +kernel) ⟨Nat.le_of_ble_eq_true rfl, Nat.le_of_ble_eq_true rfl⟩) rfl rfl (by (try simp only [List.map_cons, List.map_nil, List.sum_cons, List.sum_nil, hrf_cat, cat_i, cat_l, cat_r]) <;> decide) ⟨Nat.le_of_ble_eq_true rfl, Nat.le_of_ble_eq_true rfl⟩ dX12_copy_68 (fun v20 S19 hh => ?_)
            exact rw_iret E hrt hlk hh (by decide) (by decide) dX12_copy_71
        · refine WH.pick [0] rfl ?_
          exact w_X12_copy_b45 E hrt hlk hh
    · refine rw_ldc E (v := (-1000001)) (List.mem_of_getElem? (i := 2) (by decide +kernel)) dX12_copy_19 ?_
      exact rw_iret E hrt hlk hh (by decide) (by decide) dX12_copy_21

/-! HummingDiscModel.drop(I)I -/
abbrev rm_X12_drop : Room := { frames := 2, cells := 0, slots := 0, locals := 45 }
theorem i_X12_drop_12 : ∀ w ∈ wsX120, w ∈ wsX12_drop := fun _ h => List.mem_cons_of_mem _ (List.mem_append_right _ (h))
def s_X12_drop (S : HS) (h : Nat) (l1 : Int32) : Option (Int32 × HS) := kwI S ((some h)) 12 0 0 (fun S1 => kc (s_X12_isRow S1 l1) (fun v3 S2 => if v3 = 0 then (some ((-1000001), S2)) else (kwI S2 ((some h)) 12 1 0 (fun S4 => kP S4 ((some h)) 12 2 (fun v5 => kA S4 v5 14 l1 (fun v6 => if 0 ≤ v6 then (kP S4 ((some h)) 12 2 (fun v7 => kwA S4 v7 14 l1 ((-1)) (fun S8 => kP S8 ((some h)) 12 3 (fun v9 => kA S8 v9 14 l1 (fun v10 => some (v10, S8)))))) else (kO S4 ((some h)) 12 (fun a13 => kc (s_X12_finding S4 a13 1) (fun v12 S11 => some (v12, S11))))))))))
set_option maxHeartbeats 4000000 in
set_option maxRecDepth 100000 in
theorem c_X12_drop (l : Launch) (b0 : Nat) (G : hG) (S S1 : HS) (h : Nat) (l1 : Int32) (r : Int32) (hh : s_X12_drop S h l1 = some (r, S1)) : MH l yX12_drop wsX12_drop rm_X12_drop b0 G S [hrf b0 (some h), .int l1] (some (.int r)) S1 0 0 := by
  refine MH.ofW (cc := cX12_drop) (maxL := 2) (ret := (some .int)) (own := RX12) (lv0 := [(0, hrf b0 ((some h))), (1, .int l1)]) (by decide) rfl rfl (Nat.le_of_ble_eq_true rfl) rfl ?_
  intro p e s m args below meth c E hrt hlk hnm
  have hh : (kwI S ((some h)) 12 0 0 (fun S1 => kc (s_X12_isRow S1 l1) (fun v3 S2 => if v3 = 0 then (some ((-1000001), S2)) else (kwI S2 ((some h)) 12 1 0 (fun S4 => kP S4 ((some h)) 12 2 (fun v5 => kA S4 v5 14 l1 (fun v6 => if 0 ≤ v6 then (kP S4 ((some h)) 12 2 (fun v7 => kwA S4 v7 14 l1 ((-1)) (fun S8 => kP S8 ((some h)) 12 3 (fun v9 => kA S8 v9 14 l1 (fun v10 => some (v10, S8)))))) else (kO S4 ((some h)) 12 (fun a13 => kc (s_X12_finding S4 a13 1) (fun v12 S11 => some (v12, S11))))))))))) = some (r, S1) := hh
  refine rw_aload_n E (j0 := 0) rfl rfl dX12_drop_0 ?_
  refine rw_iconst E (v := 0) (by decide) dX12_drop_1 ?_
  refine rw_putI E hh (C := RX12) (T := TX12) (N := 32) (ty0 := tyX12) rfl tyX12_ok nmX12 (by decide) i_X12_drop_12 (by decide) rfl (List.mem_of_getElem? (i := 1) (by decide +kernel)) rfl (Or.inl rfl) rfl dX12_drop_2 (fun S1 hh => ?_)
  refine rw_iload_n E (j0 := 1) rfl rfl dX12_drop_5 ?_
  refine rw_cSi E (As := [.int l1]) hh (fun _ _ hq => c_X12_isRow l b0 G _ _ _ _ hq) (va_cwS 1 E.2.2.2.2.1 gX12_drop_X12_isRow rfl rfl rfl (by decide +kernel) ⟨Nat.le_of_ble_eq_true rfl, Nat.le_of_ble_eq_true rfl⟩) rfl rfl (by (try simp only [List.map_cons, List.map_nil, List.sum_cons, List.sum_nil, hrf_cat, cat_i, cat_l, cat_r]) <;> decide) ⟨Nat.le_of_ble_eq_true rfl, Nat.le_of_ble_eq_true rfl⟩ dX12_drop_6 (fun v3 S2 hh => ?_)
  refine rw_if_ne E hh (tgt := 15) (by decide) dX12_drop_9 (fun hh => ?_) (fun hh => ?_)
  · refine rw_aload_n E (j0 := 0) rfl rfl dX12_drop_15 ?_
    refine rw_iconst E (v := 0) (by decide) dX12_drop_16 ?_
    refine rw_putI E hh (C := RX12) (T := TX12) (N := 32) (ty0 := tyX12) rfl tyX12_ok nmX12 (by decide) i_X12_drop_12 (by decide) rfl (List.mem_of_getElem? (i := 3) (by decide +kernel)) rfl (Or.inl rfl) rfl dX12_drop_17 (fun S4 hh => ?_)
    refine rw_aload_n E (j0 := 0) rfl rfl dX12_drop_20 ?_
    refine rw_getP E hh (C := RX12) (T := TX12) (N := 32) rfl (by decide) i_X12_drop_12 (by decide) rfl (List.mem_of_getElem? (i := 4) (by decide +kernel)) rfl dX12_drop_21 (fun v5 hh => ?_)
    refine rw_iload_n E (j0 := 1) rfl rfl dX12_drop_24 ?_
    refine rw_iald E hh dX12_drop_25 (fun v6 hh => ?_)
    refine rw_if_ge E hh (tgt := 35) (by decide) dX12_drop_26 (fun hh => ?_) (fun hh => ?_)
    · refine rw_aload_n E (j0 := 0) rfl rfl dX12_drop_35 ?_
      refine rw_getP E hh (C := RX12) (T := TX12) (N := 32) rfl (by decide) i_X12_drop_12 (by decide) rfl (List.mem_of_getElem? (i := 4) (by decide +kernel)) rfl dX12_drop_36 (fun v7 hh => ?_)
      refine rw_iload_n E (j0 := 1) rfl rfl dX12_drop_39 ?_
      refine rw_iconst E (v := (-1)) (by decide) dX12_drop_40 ?_
      refine rw_iast E hh dX12_drop_41 (fun S8 hh => ?_)
      refine rw_aload_n E (j0 := 0) rfl rfl dX12_drop_42 ?_
      refine rw_getP E hh (C := RX12) (T := TX12) (N := 32) rfl (by decide) i_X12_drop_12 (by decide) rfl (List.mem_of_getElem? (i := 5) (by decide +kernel)) rfl dX12_drop_43 (fun v9 hh => ?_)
      refine rw_iload_n E (j0 := 1) rfl rfl dX12_drop_46 ?_
      refine rw_iald E hh dX12_drop_47 (fun v10 hh => ?_)
      exact rw_iret E hrt hlk hh (by decide) (by decide) dX12_drop_48
    · refine rw_aload_n E (j0 := 0) rfl rfl dX12_drop_29 ?_
      refine rw_iconst E (v := 1) (by decide) dX12_drop_30 ?_
      refine rw_cVi E (As := [.int 1]) hh (by decide) rfl (fun _ _ _ hq => c_X12_finding l b0 G _ _ _ _ _ hq) (cwV 1 E.2.2.2.2.1 gX12_drop_X12_finding rfl rfl rfl (by decide +kernel) ⟨Nat.le_of_ble_eq_true rfl, Nat.le_of_ble_eq_true rfl⟩) rfl rfl (by (try simp only [List.map_cons, List.map_nil, List.sum_cons, List.sum_nil, hrf_cat, cat_i, cat_l, cat_r]) <;> decide) ⟨Nat.le_of_ble_eq_true rfl, Nat.le_of_ble_eq_true rfl⟩ dX12_drop_31 (fun v12 S11 hh => ?_)
      exact rw_iret E hrt hlk hh (by decide) (by decide) dX12_drop_34
  · refine rw_ldc E (v := (-1000001)) (List.mem_of_getElem? (i := 2) (by decide +kernel)) dX12_drop_12 ?_
    exact rw_iret E hrt hlk hh (by decide) (by decide) dX12_drop_14

/-! HummingDiscModel.feed(JI)I -/
abbrev rm_X12_feed : Room := { frames := 1, cells := 0, slots := 0, locals := 25 }
theorem i_X12_feed_12 : ∀ w ∈ wsX120, w ∈ wsX12_feed := fun _ h => List.mem_cons_of_mem _ (List.mem_append_right _ (h))
def s_X12_feed_b40 (j40 : HS → Int64 → Int32 → Option (Int32 × HS)) (h : Nat) (S : HS) (l1 : Int64) (l4 : Int32) : Option (Int32 × HS) := if l4 < 0 then (kI S ((some h)) 12 9 (fun v1 => some (v1, S))) else (kP S ((some h)) 12 8 (fun v2 => kI S ((some h)) 12 9 (fun v3 => kwA S v2 14 v3 (((l1 >>> ((8 * l4 : Int32).toInt64 &&& 63)) &&& 255 : Int64).toInt32) (fun S4 => kI S4 ((some h)) 12 9 (fun v5 => kwI S4 ((some h)) 12 9 (v5 + 1) (fun S6 => j40 S6 l1 (l4 + (-1))))))))
set_option maxHeartbeats 4000000 in
set_option maxRecDepth 100000 in
theorem w_X12_feed_b40 {p : Program} {l : Launch} {e : Env} {s : State} {m : MethodId} {args : Array Value} {below : List Frame} {meth : Method} {c : Code} {b0 : Nat} {G : hG} {S1 : HS} {r : Int32} {j40 : HS → Int64 → Int32 → Option (Int32 × HS)} {h : Nat} {S : HS} {l1 : Int64} {l4 : Int32} (E : hE p s m args c b0 G cX12_feed RX12 5 wsX12_feed) (hrt : meth.sig.returnType = (some .int)) (hlk : meth.locks = false) (hj40 : ∀ (S : HS) (l1 : Int64) (l4 : Int32), j40 S l1 l4 = some (r, S1) → WH p l e rm_X12_feed s m args below meth c b0 G 5 0 0 (MQ below (hQ b0 G (some (.int r)) S1) args s 0 0 (hA b0)) S 40 [(0, hrf b0 ((some h))), (1, .long l1), (4, .int l4)] []) (hh : s_X12_feed_b40 j40 h S l1 l4 = some (r, S1)) : WH p l e rm_X12_feed s m args below meth c b0 G 5 0 0 (MQ below (hQ b0 G (some (.int r)) S1) args s 0 0 (hA b0)) S 40 [(0, hrf b0 ((some h))), (1, .long l1), (4, .int l4)] [] := by
  have hh : (if l4 < 0 then (kI S ((some h)) 12 9 (fun v1 => some (v1, S))) else (kP S ((some h)) 12 8 (fun v2 => kI S ((some h)) 12 9 (fun v3 => kwA S v2 14 v3 (((l1 >>> ((8 * l4 : Int32).toInt64 &&& 63)) &&& 255 : Int64).toInt32) (fun S4 => kI S4 ((some h)) 12 9 (fun v5 => kwI S4 ((some h)) 12 9 (v5 + 1) (fun S6 => j40 S6 l1 (l4 + (-1))))))))) = some (r, S1) := hh
  refine rw_iload E (j0 := 2) rfl dX12_feed_40 ?_
  refine rw_if_lt E hh (tgt := 82) (by decide) dX12_feed_42 (fun hh => ?_) (fun hh => ?_)
  · refine rw_aload_n E (j0 := 0) rfl rfl dX12_feed_82 ?_
    refine rw_getI E hh (C := RX12) (T := TX12) (N := 32) rfl (by decide) i_X12_feed_12 (by decide) rfl (List.mem_of_getElem? (i := 4) (by decide +kernel)) rfl dX12_feed_83 (fun v1 hh => ?_)
    exact rw_iret E hrt hlk hh (by decide) (by decide) dX12_feed_86
  · refine rw_aload_n E (j0 := 0) rfl rfl dX12_feed_45 ?_
    refine rw_getP E hh (C := RX12) (T := TX12) (N := 32) rfl (by decide) i_X12_feed_12 (by decide) rfl (List.mem_of_getElem? (i := 6) (by decide +kernel)) rfl dX12_feed_46 (fun v2 hh => ?_)
    refine rw_aload_n E (j0 := 0) rfl rfl dX12_feed_49 ?_
    refine rw_getI E hh (C := RX12) (T := TX12) (N := 32) rfl (by decide) i_X12_feed_12 (by decide) rfl (List.mem_of_getElem? (i := 4) (by decide +kernel)) rfl dX12_feed_50 (fun v3 hh => ?_)
    refine rw_lload_n E (j0 := 1) rfl rfl dX12_feed_53 ?_
    refine rw_bipush E (v := 8) (by decide) dX12_feed_54 ?_
    refine rw_iload E (j0 := 2) rfl dX12_feed_56 ?_
    refine rw_imul E dX12_feed_58 ?_
    refine rw_lshr E dX12_feed_59 ?_
    refine rw_ldc2 E (v := 255) (List.mem_of_getElem? (i := 7) (by decide +kernel)) dX12_feed_60 ?_
    refine rw_land E dX12_feed_63 ?_
    refine rw_l2i E dX12_feed_64 ?_
    refine rw_iast E hh dX12_feed_65 (fun S4 hh => ?_)
    refine rw_aload_n E (j0 := 0) rfl rfl dX12_feed_66 ?_
    refine rw_dup E (hrf_cat _ _) dX12_feed_67 ?_
    refine rw_getI E hh (C := RX12) (T := TX12) (N := 32) rfl (by decide) i_X12_feed_12 (by decide) rfl (List.mem_of_getElem? (i := 4) (by decide +kernel)) rfl dX12_feed_68 (fun v5 hh => ?_)
    refine rw_iconst E (v := 1) (by decide) dX12_feed_71 ?_
    refine rw_iadd E dX12_feed_72 ?_
    refine rw_putI E hh (C := RX12) (T := TX12) (N := 32) (ty0 := tyX12) rfl tyX12_ok nmX12 (by decide) i_X12_feed_12 (by decide) rfl (List.mem_of_getElem? (i := 4) (by decide +kernel)) rfl (Or.inl rfl) rfl dX12_feed_73 (fun S6 hh => ?_)
    refine rw_iinc E (v := l4 + (-1)) (lv2 := [(4, .int (l4 + (-1))), (0, hrf b0 ((some h))), (1, .long l1)]) (j0 := 2) rfl (congrArg (fun z => l4 + z) (show Int32.ofInt (-1) = (-1) by decide)) (by decide) rfl dX12_feed_76 ?_
    refine rw_goto E (tgt := 40) (by decide) dX12_feed_79 ?_
    refine WH.pick [1, 2, 0] rfl ?_
    exact hj40 _ _ _ hh
def s_X12_feed_L40 (h : Nat) : Nat → HS → Int64 → Int32 → Option (Int32 × HS)
  | 0 => fun _ _ _ => none
  | n + 1 => s_X12_feed_b40 (s_X12_feed_L40 h n) h
set_option maxHeartbeats 4000000 in
set_option maxRecDepth 100000 in
theorem w_X12_feed_L40 {p : Program} {l : Launch} {e : Env} {s : State} {m : MethodId} {args : Array Value} {below : List Frame} {meth : Method} {c : Code} {b0 : Nat} {G : hG} {S1 : HS} {r : Int32} {h : Nat} (E : hE p s m args c b0 G cX12_feed RX12 5 wsX12_feed) (hrt : meth.sig.returnType = (some .int)) (hlk : meth.locks = false) : ∀ (n : Nat) (S : HS) (l1 : Int64) (l4 : Int32), s_X12_feed_L40 h n S l1 l4 = some (r, S1) → WH p l e rm_X12_feed s m args below meth c b0 G 5 0 0 (MQ below (hQ b0 G (some (.int r)) S1) args s 0 0 (hA b0)) S 40 [(0, hrf b0 ((some h))), (1, .long l1), (4, .int l4)] [] := by
  intro n
  induction n with
  | zero => intro _ _ _ hh; exact absurd hh (by simp [s_X12_feed_L40])
  | succ n ih => intro _ _ _ hh; exact w_X12_feed_b40 E hrt hlk  ih hh
def s_X12_feed (S : HS) (h : Nat) (l1 : Int64) (l3 : Int32) : Option (Int32 × HS) := kwI S ((some h)) 12 0 0 (fun S1 => kc (s_X12_in S1 l3.toInt64 1 8) (fun v3 S2 => if v3 = 0 then (some ((-1000001), S2)) else (kI S2 ((some h)) 12 9 (fun v4 => if v4 + l3 ≤ 500 then (s_X12_feed_L40 h 100000 S2 l1 (l3 - 1)) else (some ((-1000003), S2))))))
set_option maxHeartbeats 4000000 in
set_option maxRecDepth 100000 in
theorem c_X12_feed (l : Launch) (b0 : Nat) (G : hG) (S S1 : HS) (h : Nat) (l1 : Int64) (l3 : Int32) (r : Int32) (hh : s_X12_feed S h l1 l3 = some (r, S1)) : MH l yX12_feed wsX12_feed rm_X12_feed b0 G S [hrf b0 (some h), .long l1, .int l3] (some (.int r)) S1 0 0 := by
  refine MH.ofW (cc := cX12_feed) (maxL := 5) (ret := (some .int)) (own := RX12) (lv0 := [(0, hrf b0 ((some h))), (1, .long l1), (3, .int l3)]) (by decide) rfl rfl (Nat.le_of_ble_eq_true rfl) rfl ?_
  intro p e s m args below meth c E hrt hlk hnm
  have hh : (kwI S ((some h)) 12 0 0 (fun S1 => kc (s_X12_in S1 l3.toInt64 1 8) (fun v3 S2 => if v3 = 0 then (some ((-1000001), S2)) else (kI S2 ((some h)) 12 9 (fun v4 => if v4 + l3 ≤ 500 then (s_X12_feed_L40 h 100000 S2 l1 (l3 - 1)) else (some ((-1000003), S2))))))) = some (r, S1) := hh
  refine rw_aload_n E (j0 := 0) rfl rfl dX12_feed_0 ?_
  refine rw_iconst E (v := 0) (by decide) dX12_feed_1 ?_
  refine rw_putI E hh (C := RX12) (T := TX12) (N := 32) (ty0 := tyX12) rfl tyX12_ok nmX12 (by decide) i_X12_feed_12 (by decide) rfl (List.mem_of_getElem? (i := 1) (by decide +kernel)) rfl (Or.inl rfl) rfl dX12_feed_2 (fun S1 hh => ?_)
  refine rw_iload_n E (j0 := 2) rfl rfl dX12_feed_5 ?_
  refine rw_i2l E dX12_feed_6 ?_
  refine rw_lconst E (v := 1) (by decide) dX12_feed_7 ?_
  refine rw_ldc2 E (v := 8) (List.mem_of_getElem? (i := 2) (by decide +kernel)) dX12_feed_8 ?_
  refine rw_cSi E (As := [.long l3.toInt64, .long 1, .long 8]) hh (fun _ _ hq => c_X12_in l b0 G _ _ _ _ _ _ hq) (va_cwS 3 E.2.2.2.2.1 gX12_feed_X12_in rfl rfl rfl (by decide +kernel) ⟨Nat.le_of_ble_eq_true rfl, Nat.le_of_ble_eq_true rfl⟩) rfl rfl (by (try simp only [List.map_cons, List.map_nil, List.sum_cons, List.sum_nil, hrf_cat, cat_i, cat_l, cat_r]) <;> decide) ⟨Nat.le_of_ble_eq_true rfl, Nat.le_of_ble_eq_true rfl⟩ dX12_feed_11 (fun v3 S2 hh => ?_)
  refine rw_if_ne E hh (tgt := 20) (by decide) dX12_feed_14 (fun hh => ?_) (fun hh => ?_)
  · refine rw_aload_n E (j0 := 0) rfl rfl dX12_feed_20 ?_
    refine rw_getI E hh (C := RX12) (T := TX12) (N := 32) rfl (by decide) i_X12_feed_12 (by decide) rfl (List.mem_of_getElem? (i := 4) (by decide +kernel)) rfl dX12_feed_21 (fun v4 hh => ?_)
    refine rw_iload_n E (j0 := 2) rfl rfl dX12_feed_24 ?_
    refine rw_iadd E dX12_feed_25 ?_
    refine rw_sipush E (v := 500) (by decide) dX12_feed_26 ?_
    refine rw_icmp_le E hh (tgt := 35) (by decide) dX12_feed_29 (fun hh => ?_) (fun hh => ?_)
    · refine rw_iload_n E (j0 := 2) rfl rfl dX12_feed_35 ?_
      refine rw_iconst E (v := 1) (by decide) dX12_feed_36 ?_
      refine rw_isub E dX12_feed_37 ?_
      refine rw_istore E (lv2 := [(4, .int (l3 - 1)), (0, hrf b0 ((some h))), (1, .long l1), (3, .int l3)]) (by decide) rfl dX12_feed_38 ?_
      refine WH.pick [1, 2, 0] rfl ?_
      exact w_X12_feed_L40 E hrt hlk 100000 _ _ _ hh
    · refine rw_ldc E (v := (-1000003)) (List.mem_of_getElem? (i := 5) (by decide +kernel)) dX12_feed_32 ?_
      exact rw_iret E hrt hlk hh (by decide) (by decide) dX12_feed_34
  · refine rw_ldc E (v := (-1000001)) (List.mem_of_getElem? (i := 3) (by decide +kernel)) dX12_feed_17 ?_
    exact rw_iret E hrt hlk hh (by decide) (by decide) dX12_feed_19

/-! HummingDiscModel.byteAt(I)I -/
abbrev rm_X12_byteAt : Room := { frames := 0, cells := 0, slots := 0, locals := 0 }
theorem i_X12_byteAt_12 : ∀ w ∈ wsX120, w ∈ wsX12_byteAt := fun _ h => List.mem_cons_of_mem _ (List.mem_append_right _ (h))
def s_X12_byteAt (S : HS) (h : Nat) (l1 : Int32) : Option (Int32 × HS) := kI S ((some h)) 12 11 (fun v1 => if v1 ≤ l1 then (some ((-1000000), S)) else (kP S ((some h)) 12 8 (fun v2 => kA S v2 14 l1 (fun v3 => some (v3, S)))))
set_option maxHeartbeats 4000000 in
set_option maxRecDepth 100000 in
theorem c_X12_byteAt (l : Launch) (b0 : Nat) (G : hG) (S S1 : HS) (h : Nat) (l1 : Int32) (r : Int32) (hh : s_X12_byteAt S h l1 = some (r, S1)) : MH l yX12_byteAt wsX12_byteAt rm_X12_byteAt b0 G S [hrf b0 (some h), .int l1] (some (.int r)) S1 0 0 := by
  refine MH.ofW (cc := cX12_byteAt) (maxL := 2) (ret := (some .int)) (own := RX12) (lv0 := [(0, hrf b0 ((some h))), (1, .int l1)]) (by decide) rfl rfl (Nat.le_of_ble_eq_true rfl) rfl ?_
  intro p e s m args below meth c E hrt hlk hnm
  have hh : (kI S ((some h)) 12 11 (fun v1 => if v1 ≤ l1 then (some ((-1000000), S)) else (kP S ((some h)) 12 8 (fun v2 => kA S v2 14 l1 (fun v3 => some (v3, S)))))) = some (r, S1) := hh
  refine rw_iload_n E (j0 := 1) rfl rfl dX12_byteAt_0 ?_
  refine rw_aload_n E (j0 := 0) rfl rfl dX12_byteAt_1 ?_
  refine rw_getI E hh (C := RX12) (T := TX12) (N := 32) rfl (by decide) i_X12_byteAt_12 (by decide) rfl (List.mem_of_getElem? (i := 1) (by decide +kernel)) rfl dX12_byteAt_2 (fun v1 hh => ?_)
  refine rw_icmp_ge E hh (tgt := 17) (by decide) dX12_byteAt_5 (fun hh => ?_) (fun hh => ?_)
  · refine rw_ldc E (v := (-1000000)) (List.mem_of_getElem? (i := 3) (by decide +kernel)) dX12_byteAt_17 ?_
    exact rw_iret E hrt hlk hh (by decide) (by decide) dX12_byteAt_19
  · refine rw_aload_n E (j0 := 0) rfl rfl dX12_byteAt_8 ?_
    refine rw_getP E hh (C := RX12) (T := TX12) (N := 32) rfl (by decide) i_X12_byteAt_12 (by decide) rfl (List.mem_of_getElem? (i := 2) (by decide +kernel)) rfl dX12_byteAt_9 (fun v2 hh => ?_)
    refine rw_iload_n E (j0 := 1) rfl rfl dX12_byteAt_12 ?_
    refine rw_iald E hh dX12_byteAt_13 (fun v3 hh => ?_)
    refine rw_goto E (tgt := 19) (by decide) dX12_byteAt_14 ?_
    exact rw_iret E hrt hlk hh (by decide) (by decide) dX12_byteAt_19

/-! HummingDiscModel.isLetter(I)Z -/
abbrev rm_X12_isLetter : Room := { frames := 0, cells := 0, slots := 0, locals := 0 }
def s_X12_isLetter (S : HS) (l0 : Int32) : Option (Int32 × HS) := if l0 < 97 then (kzr 0 S) else (if 122 < l0 then (kzr 0 S) else (kzr 1 S))
set_option maxHeartbeats 4000000 in
set_option maxRecDepth 100000 in
theorem c_X12_isLetter (l : Launch) (b0 : Nat) (G : hG) (S S1 : HS) (l0 : Int32) (r : Int32) (hh : s_X12_isLetter S l0 = some (r, S1)) : MH l yX12_isLetter wsX12_isLetter rm_X12_isLetter b0 G S [.int l0] (some (.int r)) S1 0 0 := by
  refine MH.ofW (cc := cX12_isLetter) (maxL := 1) (ret := (some .boolean)) (own := RX12) (lv0 := [(0, .int l0)]) (by decide) rfl rfl (Nat.le_of_ble_eq_true rfl) rfl ?_
  intro p e s m args below meth c E hrt hlk hnm
  have hh : (if l0 < 97 then (kzr 0 S) else (if 122 < l0 then (kzr 0 S) else (kzr 1 S))) = some (r, S1) := hh
  refine rw_iload_n E (j0 := 0) rfl rfl dX12_isLetter_0 ?_
  refine rw_bipush E (v := 97) (by decide) dX12_isLetter_1 ?_
  refine rw_icmp_lt E hh (tgt := 16) (by decide) dX12_isLetter_3 (fun hh => ?_) (fun hh => ?_)
  · refine rw_iconst E (v := 0) (by decide) dX12_isLetter_16 ?_
    exact rw_zret E hrt hlk hh (by decide) (by decide) dX12_isLetter_17
  · refine rw_iload_n E (j0 := 0) rfl rfl dX12_isLetter_6 ?_
    refine rw_bipush E (v := 122) (by decide) dX12_isLetter_7 ?_
    refine rw_icmp_gt E hh (tgt := 16) (by decide) dX12_isLetter_9 (fun hh => ?_) (fun hh => ?_)
    · refine rw_iconst E (v := 0) (by decide) dX12_isLetter_16 ?_
      exact rw_zret E hrt hlk hh (by decide) (by decide) dX12_isLetter_17
    · refine rw_iconst E (v := 1) (by decide) dX12_isLetter_12 ?_
      refine rw_goto E (tgt := 17) (by decide) dX12_isLetter_13 ?_
      exact rw_zret E hrt hlk hh (by decide) (by decide) dX12_isLetter_17

/-! HummingDiscModel.isFigure(I)Z -/
abbrev rm_X12_isFigure : Room := { frames := 0, cells := 0, slots := 0, locals := 0 }
def s_X12_isFigure (S : HS) (l0 : Int32) : Option (Int32 × HS) := if l0 < 48 then (kzr 0 S) else (if 57 < l0 then (kzr 0 S) else (kzr 1 S))
set_option maxHeartbeats 4000000 in
set_option maxRecDepth 100000 in
theorem c_X12_isFigure (l : Launch) (b0 : Nat) (G : hG) (S S1 : HS) (l0 : Int32) (r : Int32) (hh : s_X12_isFigure S l0 = some (r, S1)) : MH l yX12_isFigure wsX12_isFigure rm_X12_isFigure b0 G S [.int l0] (some (.int r)) S1 0 0 := by
  refine MH.ofW (cc := cX12_isFigure) (maxL := 1) (ret := (some .boolean)) (own := RX12) (lv0 := [(0, .int l0)]) (by decide) rfl rfl (Nat.le_of_ble_eq_true rfl) rfl ?_
  intro p e s m args below meth c E hrt hlk hnm
  have hh : (if l0 < 48 then (kzr 0 S) else (if 57 < l0 then (kzr 0 S) else (kzr 1 S))) = some (r, S1) := hh
  refine rw_iload_n E (j0 := 0) rfl rfl dX12_isFigure_0 ?_
  refine rw_bipush E (v := 48) (by decide) dX12_isFigure_1 ?_
  refine rw_icmp_lt E hh (tgt := 16) (by decide) dX12_isFigure_3 (fun hh => ?_) (fun hh => ?_)
  · refine rw_iconst E (v := 0) (by decide) dX12_isFigure_16 ?_
    exact rw_zret E hrt hlk hh (by decide) (by decide) dX12_isFigure_17
  · refine rw_iload_n E (j0 := 0) rfl rfl dX12_isFigure_6 ?_
    refine rw_bipush E (v := 57) (by decide) dX12_isFigure_7 ?_
    refine rw_icmp_gt E hh (tgt := 16) (by decide) dX12_isFigure_9 (fun hh => ?_) (fun hh => ?_)
    · refine rw_iconst E (v := 0) (by decide) dX12_isFigure_16 ?_
      exact rw_zret E hrt hlk hh (by decide) (by decide) dX12_isFigure_17
    · refine rw_iconst E (v := 1) (by decide) dX12_isFigure_12 ?_
      refine rw_goto E (tgt := 17) (by decide) dX12_isFigure_13 ?_
      exact rw_zret E hrt hlk hh (by decide) (by decide) dX12_isFigure_17

/-! HummingDiscModel.nextNumber()V -/
abbrev rm_X12_nextNumber : Room := { frames := 1, cells := 0, slots := 0, locals := 25 }
theorem i_X12_nextNumber_12 : ∀ w ∈ wsX120, w ∈ wsX12_nextNumber := fun _ h => List.mem_cons_of_mem _ (List.mem_append_right _ (h))
def s_X12_nextNumber_b98 (j47 : HS → Int32 → Int32 → Option (HS)) (h : Nat) (S : HS) (l1 : Int32) (l2 : Int32) (k0 : Option Nat) (k1 : Int32) : Option (HS) := kwI S k0 12 16 k1 (fun S1 => kI S1 ((some h)) 12 12 (fun v2 => kwI S1 ((some h)) 12 12 (v2 + 1) (fun S3 => j47 S3 l1 l2)))
set_option maxHeartbeats 4000000 in
set_option maxRecDepth 100000 in
theorem w_X12_nextNumber_b98 {p : Program} {l : Launch} {e : Env} {s : State} {m : MethodId} {args : Array Value} {below : List Frame} {meth : Method} {c : Code} {b0 : Nat} {G : hG} {S1 : HS} {j47 : HS → Int32 → Int32 → Option (HS)} {h : Nat} {S : HS} {l1 : Int32} {l2 : Int32} {k0 : Option Nat} {k1 : Int32} (E : hE p s m args c b0 G cX12_nextNumber RX12 3 wsX12_nextNumber) (hrt : meth.sig.returnType = none) (hlk : meth.locks = false) (hj47 : ∀ (S : HS) (l1 : Int32) (l2 : Int32), j47 S l1 l2 = some S1 → WH p l e rm_X12_nextNumber s m args below meth c b0 G 3 0 0 (MQ below (hQ b0 G none S1) args s 0 0 (hA b0)) S 47 [(0, hrf b0 ((some h))), (1, .int l1), (2, .int l2)] []) (hh : s_X12_nextNumber_b98 j47 h S l1 l2 k0 k1 = some S1) : WH p l e rm_X12_nextNumber s m args below meth c b0 G 3 0 0 (MQ below (hQ b0 G none S1) args s 0 0 (hA b0)) S 98 [(0, hrf b0 ((some h))), (1, .int l1), (2, .int l2)] [.int k1, hrf b0 k0] := by
  have hh : (kwI S k0 12 16 k1 (fun S1 => kI S1 ((some h)) 12 12 (fun v2 => kwI S1 ((some h)) 12 12 (v2 + 1) (fun S3 => j47 S3 l1 l2)))) = some S1 := hh
  refine rw_putI E hh (C := RX12) (T := TX12) (N := 32) (ty0 := tyX12) rfl tyX12_ok nmX12 (by decide) i_X12_nextNumber_12 (by decide) rfl (List.mem_of_getElem? (i := 2) (by decide +kernel)) rfl (Or.inl rfl) rfl dX12_nextNumber_98 (fun S1 hh => ?_)
  refine rw_aload_n E (j0 := 0) rfl rfl dX12_nextNumber_101 ?_
  refine rw_dup E (hrf_cat _ _) dX12_nextNumber_102 ?_
  refine rw_getI E hh (C := RX12) (T := TX12) (N := 32) rfl (by decide) i_X12_nextNumber_12 (by decide) rfl (List.mem_of_getElem? (i := 1) (by decide +kernel)) rfl dX12_nextNumber_103 (fun v2 hh => ?_)
  refine rw_iconst E (v := 1) (by decide) dX12_nextNumber_106 ?_
  refine rw_iadd E dX12_nextNumber_107 ?_
  refine rw_putI E hh (C := RX12) (T := TX12) (N := 32) (ty0 := tyX12) rfl tyX12_ok nmX12 (by decide) i_X12_nextNumber_12 (by decide) rfl (List.mem_of_getElem? (i := 1) (by decide +kernel)) rfl (Or.inl rfl) rfl dX12_nextNumber_108 (fun S3 hh => ?_)
  refine rw_goto E (tgt := 47) (by decide) dX12_nextNumber_111 ?_
  refine WH.pick [0, 1, 2] rfl ?_
  exact hj47 _ _ _ hh
def s_X12_nextNumber_b157 (h : Nat) (S : HS) (k0 : Option Nat) (k1 : Int32) : Option (HS) := kwI S k0 12 13 k1 (fun S1 => some S1)
set_option maxHeartbeats 4000000 in
set_option maxRecDepth 100000 in
theorem w_X12_nextNumber_b157 {p : Program} {l : Launch} {e : Env} {s : State} {m : MethodId} {args : Array Value} {below : List Frame} {meth : Method} {c : Code} {b0 : Nat} {G : hG} {S1 : HS} {h : Nat} {S : HS} {k0 : Option Nat} {k1 : Int32} (E : hE p s m args c b0 G cX12_nextNumber RX12 3 wsX12_nextNumber) (hrt : meth.sig.returnType = none) (hlk : meth.locks = false) (hh : s_X12_nextNumber_b157 h S k0 k1 = some S1) : WH p l e rm_X12_nextNumber s m args below meth c b0 G 3 0 0 (MQ below (hQ b0 G none S1) args s 0 0 (hA b0)) S 157 [] [.int k1, hrf b0 k0] := by
  have hh : (kwI S k0 12 13 k1 (fun S1 => some S1)) = some S1 := hh
  refine rw_putI E hh (C := RX12) (T := TX12) (N := 32) (ty0 := tyX12) rfl tyX12_ok nmX12 (by decide) i_X12_nextNumber_12 (by decide) rfl (List.mem_of_getElem? (i := 4) (by decide +kernel)) rfl (Or.inl rfl) rfl dX12_nextNumber_157 (fun S1 hh => ?_)
  exact rw_vret E hrt hlk hh (by decide) (by decide) dX12_nextNumber_160
def s_X12_nextNumber_b131 (h : Nat) (S : HS) (l2 : Int32) (k0 : Option Nat) (k1 : Int32) : Option (HS) := kwI S k0 12 16 k1 (fun S1 => kI S1 ((some h)) 12 12 (fun v2 => kc (s_X12_in S1 ((v2 - l2 : Int32).toInt64) 1 4) (fun v4 S3 => if v4 = 0 then (s_X12_nextNumber_b157 h S3 ((some h)) 0) else (s_X12_nextNumber_b157 h S3 ((some h)) 3))))
set_option maxHeartbeats 4000000 in
set_option maxRecDepth 100000 in
theorem w_X12_nextNumber_b131 {p : Program} {l : Launch} {e : Env} {s : State} {m : MethodId} {args : Array Value} {below : List Frame} {meth : Method} {c : Code} {b0 : Nat} {G : hG} {S1 : HS} {h : Nat} {S : HS} {l2 : Int32} {k0 : Option Nat} {k1 : Int32} (E : hE p s m args c b0 G cX12_nextNumber RX12 3 wsX12_nextNumber) (hrt : meth.sig.returnType = none) (hlk : meth.locks = false) (hh : s_X12_nextNumber_b131 h S l2 k0 k1 = some S1) : WH p l e rm_X12_nextNumber s m args below meth c b0 G 3 0 0 (MQ below (hQ b0 G none S1) args s 0 0 (hA b0)) S 131 [(0, hrf b0 ((some h))), (2, .int l2)] [.int k1, hrf b0 k0] := by
  have hh : (kwI S k0 12 16 k1 (fun S1 => kI S1 ((some h)) 12 12 (fun v2 => kc (s_X12_in S1 ((v2 - l2 : Int32).toInt64) 1 4) (fun v4 S3 => if v4 = 0 then (s_X12_nextNumber_b157 h S3 ((some h)) 0) else (s_X12_nextNumber_b157 h S3 ((some h)) 3))))) = some S1 := hh
  refine rw_putI E hh (C := RX12) (T := TX12) (N := 32) (ty0 := tyX12) rfl tyX12_ok nmX12 (by decide) i_X12_nextNumber_12 (by decide) rfl (List.mem_of_getElem? (i := 2) (by decide +kernel)) rfl (Or.inl rfl) rfl dX12_nextNumber_131 (fun S1 hh => ?_)
  refine rw_aload_n E (j0 := 0) rfl rfl dX12_nextNumber_134 ?_
  refine rw_aload_n E (j0 := 0) rfl rfl dX12_nextNumber_135 ?_
  refine rw_getI E hh (C := RX12) (T := TX12) (N := 32) rfl (by decide) i_X12_nextNumber_12 (by decide) rfl (List.mem_of_getElem? (i := 1) (by decide +kernel)) rfl dX12_nextNumber_136 (fun v2 hh => ?_)
  refine rw_iload_n E (j0 := 1) rfl rfl dX12_nextNumber_139 ?_
  refine rw_isub E dX12_nextNumber_140 ?_
  refine rw_i2l E dX12_nextNumber_141 ?_
  refine rw_lconst E (v := 1) (by decide) dX12_nextNumber_142 ?_
  refine rw_ldc2 E (v := 4) (List.mem_of_getElem? (i := 3) (by decide +kernel)) dX12_nextNumber_143 ?_
  refine rw_cSi E (As := [.long ((v2 - l2 : Int32).toInt64), .long 1, .long 4]) hh (fun _ _ hq => c_X12_in l b0 G _ _ _ _ _ _ hq) (va_cwS 3 E.2.2.2.2.1 gX12_nextNumber_X12_in rfl rfl rfl (by decide +kernel) ⟨Nat.le_of_ble_eq_true rfl, Nat.le_of_ble_eq_true rfl⟩) rfl rfl (by (try simp only [List.map_cons, List.map_nil, List.sum_cons, List.sum_nil, hrf_cat, cat_i, cat_l, cat_r]) <;> decide) ⟨Nat.le_of_ble_eq_true rfl, Nat.le_of_ble_eq_true rfl⟩ dX12_nextNumber_146 (fun v4 S3 hh => ?_)
  refine rw_if_eq E hh (tgt := 156) (by decide) dX12_nextNumber_149 (fun hh => ?_) (fun hh => ?_)
  · refine rw_iconst E (v := 0) (by decide) dX12_nextNumber_156 ?_
    refine WH.pick [] rfl ?_
    exact w_X12_nextNumber_b157 E hrt hlk hh
  · refine rw_iconst E (v := 3) (by decide) dX12_nextNumber_152 ?_
    refine rw_goto E (tgt := 157) (by decide) dX12_nextNumber_153 ?_
    refine WH.pick [] rfl ?_
    exact w_X12_nextNumber_b157 E hrt hlk hh
def s_X12_nextNumber_b47 (j47 : HS → Int32 → Int32 → Option (HS)) (h : Nat) (S : HS) (l1 : Int32) (l2 : Int32) : Option (HS) := kI S ((some h)) 12 12 (fun v1 => kO S ((some h)) 12 (fun a4 => kc (s_X12_byteAt S a4 v1) (fun v3 S2 => kc (s_X12_isFigure S2 v3) (fun v6 S5 => if v6 = 0 then (if l1 = 0 then (kI S5 ((some h)) 12 16 (fun v7 => s_X12_nextNumber_b131 h S5 l2 ((some h)) v7)) else (kI S5 ((some h)) 12 16 (fun v8 => s_X12_nextNumber_b131 h S5 l2 ((some h)) (-v8)))) else (kI S5 ((some h)) 12 12 (fun v9 => if 4 ≤ v9 - l2 then (kI S5 ((some h)) 12 16 (fun v10 => s_X12_nextNumber_b98 j47 h S5 l1 l2 ((some h)) v10)) else (kI S5 ((some h)) 12 16 (fun v11 => kI S5 ((some h)) 12 12 (fun v12 => kO S5 ((some h)) 12 (fun a15 => kc (s_X12_byteAt S5 a15 v12) (fun v14 S13 => s_X12_nextNumber_b98 j47 h S13 l1 l2 ((some h)) (((10 * v11) + v14) - 48))))))))))))
set_option maxHeartbeats 4000000 in
set_option maxRecDepth 100000 in
theorem w_X12_nextNumber_b47 {p : Program} {l : Launch} {e : Env} {s : State} {m : MethodId} {args : Array Value} {below : List Frame} {meth : Method} {c : Code} {b0 : Nat} {G : hG} {S1 : HS} {j47 : HS → Int32 → Int32 → Option (HS)} {h : Nat} {S : HS} {l1 : Int32} {l2 : Int32} (E : hE p s m args c b0 G cX12_nextNumber RX12 3 wsX12_nextNumber) (hrt : meth.sig.returnType = none) (hlk : meth.locks = false) (hj47 : ∀ (S : HS) (l1 : Int32) (l2 : Int32), j47 S l1 l2 = some S1 → WH p l e rm_X12_nextNumber s m args below meth c b0 G 3 0 0 (MQ below (hQ b0 G none S1) args s 0 0 (hA b0)) S 47 [(0, hrf b0 ((some h))), (1, .int l1), (2, .int l2)] []) (hh : s_X12_nextNumber_b47 j47 h S l1 l2 = some S1) : WH p l e rm_X12_nextNumber s m args below meth c b0 G 3 0 0 (MQ below (hQ b0 G none S1) args s 0 0 (hA b0)) S 47 [(0, hrf b0 ((some h))), (1, .int l1), (2, .int l2)] [] := by
  have hh : (kI S ((some h)) 12 12 (fun v1 => kO S ((some h)) 12 (fun a4 => kc (s_X12_byteAt S a4 v1) (fun v3 S2 => kc (s_X12_isFigure S2 v3) (fun v6 S5 => if v6 = 0 then (if l1 = 0 then (kI S5 ((some h)) 12 16 (fun v7 => s_X12_nextNumber_b131 h S5 l2 ((some h)) v7)) else (kI S5 ((some h)) 12 16 (fun v8 => s_X12_nextNumber_b131 h S5 l2 ((some h)) (-v8)))) else (kI S5 ((some h)) 12 12 (fun v9 => if 4 ≤ v9 - l2 then (kI S5 ((some h)) 12 16 (fun v10 => s_X12_nextNumber_b98 j47 h S5 l1 l2 ((some h)) v10)) else (kI S5 ((some h)) 12 16 (fun v11 => kI S5 ((some h)) 12 12 (fun v12 => kO S5 ((some h)) 12 (fun a15 => kc (s_X12_byteAt S5 a15 v12) (fun v14 S13 => s_X12_nextNumber_b98 j47 h S13 l1 l2 ((some h)) (((10 * v11) + v14) - 48))))))))))))) = some S1 := hh
  refine rw_aload_n E (j0 := 0) rfl rfl dX12_nextNumber_47 ?_
  refine rw_aload_n E (j0 := 0) rfl rfl dX12_nextNumber_48 ?_
  refine rw_getI E hh (C := RX12) (T := TX12) (N := 32) rfl (by decide) i_X12_nextNumber_12 (by decide) rfl (List.mem_of_getElem? (i := 1) (by decide +kernel)) rfl dX12_nextNumber_49 (fun v1 hh => ?_)
  refine rw_cVi E (As := [.int v1]) hh (by decide) rfl (fun _ _ _ hq => c_X12_byteAt l b0 G _ _ _ _ _ hq) (cwV 1 E.2.2.2.2.1 gX12_nextNumber_X12_byteAt rfl rfl rfl (by decide +kernel) ⟨Nat.le_of_ble_eq_true rfl, Nat.le_of_ble_eq_true rfl⟩) rfl rfl (by (try simp only [List.map_cons, List.map_nil, List.sum_cons, List.sum_nil, hrf_cat, cat_i, cat_l, cat_r]) <;> decide) ⟨Nat.le_of_ble_eq_true rfl, Nat.le_of_ble_eq_true rfl⟩ dX12_nextNumber_52 (fun v3 S2 hh => ?_)
  refine rw_cSi E (As := [.int v3]) hh (fun _ _ hq => c_X12_isFigure l b0 G _ _ _ _ hq) (va_cwS 1 E.2.2.2.2.1 gX12_nextNumber_X12_isFigure rfl rfl rfl (by decide +kernel) ⟨Nat.le_of_ble_eq_true rfl, Nat.le_of_ble_eq_true rfl⟩) rfl rfl (by (try simp only [List.map_cons, List.map_nil, List.sum_cons, List.sum_nil, hrf_cat, cat_i, cat_l, cat_r]) <;> decide) ⟨Nat.le_of_ble_eq_true rfl, Nat.le_of_ble_eq_true rfl⟩ dX12_nextNumber_55 (fun v6 S5 hh => ?_)
  refine rw_if_eq E hh (tgt := 114) (by decide) dX12_nextNumber_58 (fun hh => ?_) (fun hh => ?_)
  · refine rw_aload_n E (j0 := 0) rfl rfl dX12_nextNumber_114 ?_
    refine rw_iload_n E (j0 := 1) rfl rfl dX12_nextNumber_115 ?_
    refine rw_if_eq E hh (tgt := 127) (by decide) dX12_nextNumber_116 (fun hh => ?_) (fun hh => ?_)
    · refine rw_aload_n E (j0 := 0) rfl rfl dX12_nextNumber_127 ?_
      refine rw_getI E hh (C := RX12) (T := TX12) (N := 32) rfl (by decide) i_X12_nextNumber_12 (by decide) rfl (List.mem_of_getElem? (i := 2) (by decide +kernel)) rfl dX12_nextNumber_128 (fun v7 hh => ?_)
      refine WH.pick [0, 2] rfl ?_
      exact w_X12_nextNumber_b131 E hrt hlk hh
    · refine rw_aload_n E (j0 := 0) rfl rfl dX12_nextNumber_119 ?_
      refine rw_getI E hh (C := RX12) (T := TX12) (N := 32) rfl (by decide) i_X12_nextNumber_12 (by decide) rfl (List.mem_of_getElem? (i := 2) (by decide +kernel)) rfl dX12_nextNumber_120 (fun v8 hh => ?_)
      refine rw_ineg E dX12_nextNumber_123 ?_
      refine rw_goto E (tgt := 131) (by decide) dX12_nextNumber_124 ?_
      refine WH.pick [0, 2] rfl ?_
      exact w_X12_nextNumber_b131 E hrt hlk hh
  · refine rw_aload_n E (j0 := 0) rfl rfl dX12_nextNumber_61 ?_
    refine rw_aload_n E (j0 := 0) rfl rfl dX12_nextNumber_62 ?_
    refine rw_getI E hh (C := RX12) (T := TX12) (N := 32) rfl (by decide) i_X12_nextNumber_12 (by decide) rfl (List.mem_of_getElem? (i := 1) (by decide +kernel)) rfl dX12_nextNumber_63 (fun v9 hh => ?_)
    refine rw_iload_n E (j0 := 2) rfl rfl dX12_nextNumber_66 ?_
    refine rw_isub E dX12_nextNumber_67 ?_
    refine rw_iconst E (v := 4) (by decide) dX12_nextNumber_68 ?_
    refine rw_icmp_ge E hh (tgt := 94) (by decide) dX12_nextNumber_69 (fun hh => ?_) (fun hh => ?_)
    · refine rw_aload_n E (j0 := 0) rfl rfl dX12_nextNumber_94 ?_
      refine rw_getI E hh (C := RX12) (T := TX12) (N := 32) rfl (by decide) i_X12_nextNumber_12 (by decide) rfl (List.mem_of_getElem? (i := 2) (by decide +kernel)) rfl dX12_nextNumber_95 (fun v10 hh => ?_)
      refine WH.pick [0, 1, 2] rfl ?_
      exact w_X12_nextNumber_b98 E hrt hlk hj47 hh
    · refine rw_bipush E (v := 10) (by decide) dX12_nextNumber_72 ?_
      refine rw_aload_n E (j0 := 0) rfl rfl dX12_nextNumber_74 ?_
      refine rw_getI E hh (C := RX12) (T := TX12) (N := 32) rfl (by decide) i_X12_nextNumber_12 (by decide) rfl (List.mem_of_getElem? (i := 2) (by decide +kernel)) rfl dX12_nextNumber_75 (fun v11 hh => ?_)
      refine rw_imul E dX12_nextNumber_78 ?_
      refine rw_aload_n E (j0 := 0) rfl rfl dX12_nextNumber_79 ?_
      refine rw_aload_n E (j0 := 0) rfl rfl dX12_nextNumber_80 ?_
      refine rw_getI E hh (C := RX12) (T := TX12) (N := 32) rfl (by decide) i_X12_nextNumber_12 (by decide) rfl (List.mem_of_getElem? (i := 1) (by decide +kernel)) rfl dX12_nextNumber_81 (fun v12 hh => ?_)
      refine rw_cVi E (As := [.int v12]) hh (by decide) rfl (fun _ _ _ hq => c_X12_byteAt l b0 G _ _ _ _ _ hq) (cwV 1 E.2.2.2.2.1 gX12_nextNumber_X12_byteAt rfl rfl rfl (by decide +kernel) ⟨Nat.le_of_ble_eq_true rfl, Nat.le_of_ble_eq_true rfl⟩) rfl rfl (by (try simp only [List.map_cons, List.map_nil, List.sum_cons, List.sum_nil, hrf_cat, cat_i, cat_l, cat_r]) <;> decide) ⟨Nat.le_of_ble_eq_true rfl, Nat.le_of_ble_eq_true rfl⟩ dX12_nextNumber_84 (fun v14 S13 hh => ?_)
      refine rw_iadd E dX12_nextNumber_87 ?_
      refine rw_bipush E (v := 48) (by decide) dX12_nextNumber_88 ?_
      refine rw_isub E dX12_nextNumber_90 ?_
      refine rw_goto E (tgt := 98) (by decide) dX12_nextNumber_91 ?_
      refine WH.pick [0, 1, 2] rfl ?_
      exact w_X12_nextNumber_b98 E hrt hlk hj47 hh
def s_X12_nextNumber_L47 (h : Nat) : Nat → HS → Int32 → Int32 → Option (HS)
  | 0 => fun _ _ _ => none
  | n + 1 => s_X12_nextNumber_b47 (s_X12_nextNumber_L47 h n) h
set_option maxHeartbeats 4000000 in
set_option maxRecDepth 100000 in
theorem w_X12_nextNumber_L47 {p : Program} {l : Launch} {e : Env} {s : State} {m : MethodId} {args : Array Value} {below : List Frame} {meth : Method} {c : Code} {b0 : Nat} {G : hG} {S1 : HS} {h : Nat} (E : hE p s m args c b0 G cX12_nextNumber RX12 3 wsX12_nextNumber) (hrt : meth.sig.returnType = none) (hlk : meth.locks = false) : ∀ (n : Nat) (S : HS) (l1 : Int32) (l2 : Int32), s_X12_nextNumber_L47 h n S l1 l2 = some S1 → WH p l e rm_X12_nextNumber s m args below meth c b0 G 3 0 0 (MQ below (hQ b0 G none S1) args s 0 0 (hA b0)) S 47 [(0, hrf b0 ((some h))), (1, .int l1), (2, .int l2)] [] := by
  intro n
  induction n with
  | zero => intro _ _ _ hh; exact absurd hh (by simp [s_X12_nextNumber_L47])
  | succ n ih => intro _ _ _ hh; exact w_X12_nextNumber_b47 E hrt hlk  ih hh
def s_X12_nextNumber_b33 (h : Nat) (S : HS) (l1 : Int32) (k0 : Option Nat) (k1 : Int32) (k2 : Int32) : Option (HS) := kwI S k0 12 12 (k1 + k2) (fun S1 => kI S1 ((some h)) 12 12 (fun v2 => kwI S1 ((some h)) 12 16 0 (fun S3 => s_X12_nextNumber_L47 h 100000 S3 l1 v2)))
set_option maxHeartbeats 4000000 in
set_option maxRecDepth 100000 in
theorem w_X12_nextNumber_b33 {p : Program} {l : Launch} {e : Env} {s : State} {m : MethodId} {args : Array Value} {below : List Frame} {meth : Method} {c : Code} {b0 : Nat} {G : hG} {S1 : HS} {h : Nat} {S : HS} {l1 : Int32} {k0 : Option Nat} {k1 : Int32} {k2 : Int32} (E : hE p s m args c b0 G cX12_nextNumber RX12 3 wsX12_nextNumber) (hrt : meth.sig.returnType = none) (hlk : meth.locks = false) (hh : s_X12_nextNumber_b33 h S l1 k0 k1 k2 = some S1) : WH p l e rm_X12_nextNumber s m args below meth c b0 G 3 0 0 (MQ below (hQ b0 G none S1) args s 0 0 (hA b0)) S 33 [(0, hrf b0 ((some h))), (1, .int l1)] [.int k2, .int k1, hrf b0 k0] := by
  have hh : (kwI S k0 12 12 (k1 + k2) (fun S1 => kI S1 ((some h)) 12 12 (fun v2 => kwI S1 ((some h)) 12 16 0 (fun S3 => s_X12_nextNumber_L47 h 100000 S3 l1 v2)))) = some S1 := hh
  refine rw_iadd E dX12_nextNumber_33 ?_
  refine rw_putI E hh (C := RX12) (T := TX12) (N := 32) (ty0 := tyX12) rfl tyX12_ok nmX12 (by decide) i_X12_nextNumber_12 (by decide) rfl (List.mem_of_getElem? (i := 1) (by decide +kernel)) rfl (Or.inl rfl) rfl dX12_nextNumber_34 (fun S1 hh => ?_)
  refine rw_aload_n E (j0 := 0) rfl rfl dX12_nextNumber_37 ?_
  refine rw_getI E hh (C := RX12) (T := TX12) (N := 32) rfl (by decide) i_X12_nextNumber_12 (by decide) rfl (List.mem_of_getElem? (i := 1) (by decide +kernel)) rfl dX12_nextNumber_38 (fun v2 hh => ?_)
  refine rw_istore_n E (lv2 := [(2, .int v2), (0, hrf b0 ((some h))), (1, .int l1)]) rfl (by decide) rfl dX12_nextNumber_41 ?_
  refine rw_aload_n E (j0 := 1) rfl rfl dX12_nextNumber_42 ?_
  refine rw_iconst E (v := 0) (by decide) dX12_nextNumber_43 ?_
  refine rw_putI E hh (C := RX12) (T := TX12) (N := 32) (ty0 := tyX12) rfl tyX12_ok nmX12 (by decide) i_X12_nextNumber_12 (by decide) rfl (List.mem_of_getElem? (i := 2) (by decide +kernel)) rfl (Or.inl rfl) rfl dX12_nextNumber_44 (fun S3 hh => ?_)
  refine WH.pick [1, 2, 0] rfl ?_
  exact w_X12_nextNumber_L47 E hrt hlk 100000 _ _ _ hh
def s_X12_nextNumber_b18 (h : Nat) (S : HS) (k0 : Int32) : Option (HS) := kI S ((some h)) 12 12 (fun v1 => if k0 = 0 then (s_X12_nextNumber_b33 h S k0 ((some h)) v1 0) else (s_X12_nextNumber_b33 h S k0 ((some h)) v1 1))
set_option maxHeartbeats 4000000 in
set_option maxRecDepth 100000 in
theorem w_X12_nextNumber_b18 {p : Program} {l : Launch} {e : Env} {s : State} {m : MethodId} {args : Array Value} {below : List Frame} {meth : Method} {c : Code} {b0 : Nat} {G : hG} {S1 : HS} {h : Nat} {S : HS} {k0 : Int32} (E : hE p s m args c b0 G cX12_nextNumber RX12 3 wsX12_nextNumber) (hrt : meth.sig.returnType = none) (hlk : meth.locks = false) (hh : s_X12_nextNumber_b18 h S k0 = some S1) : WH p l e rm_X12_nextNumber s m args below meth c b0 G 3 0 0 (MQ below (hQ b0 G none S1) args s 0 0 (hA b0)) S 18 [(0, hrf b0 ((some h)))] [.int k0] := by
  have hh : (kI S ((some h)) 12 12 (fun v1 => if k0 = 0 then (s_X12_nextNumber_b33 h S k0 ((some h)) v1 0) else (s_X12_nextNumber_b33 h S k0 ((some h)) v1 1))) = some S1 := hh
  refine rw_istore_n E (lv2 := [(1, .int k0), (0, hrf b0 ((some h)))]) rfl (by decide) rfl dX12_nextNumber_18 ?_
  refine rw_aload_n E (j0 := 1) rfl rfl dX12_nextNumber_19 ?_
  refine rw_dup E (hrf_cat _ _) dX12_nextNumber_20 ?_
  refine rw_getI E hh (C := RX12) (T := TX12) (N := 32) rfl (by decide) i_X12_nextNumber_12 (by decide) rfl (List.mem_of_getElem? (i := 1) (by decide +kernel)) rfl dX12_nextNumber_21 (fun v1 hh => ?_)
  refine rw_iload_n E (j0 := 0) rfl rfl dX12_nextNumber_24 ?_
  refine rw_if_eq E hh (tgt := 32) (by decide) dX12_nextNumber_25 (fun hh => ?_) (fun hh => ?_)
  · refine rw_iconst E (v := 0) (by decide) dX12_nextNumber_32 ?_
    refine WH.pick [1, 0] rfl ?_
    exact w_X12_nextNumber_b33 E hrt hlk hh
  · refine rw_iconst E (v := 1) (by decide) dX12_nextNumber_28 ?_
    refine rw_goto E (tgt := 33) (by decide) dX12_nextNumber_29 ?_
    refine WH.pick [1, 0] rfl ?_
    exact w_X12_nextNumber_b33 E hrt hlk hh
def s_X12_nextNumber (S : HS) (h : Nat) : Option (HS) := kI S ((some h)) 12 12 (fun v1 => kO S ((some h)) 12 (fun a4 => kc (s_X12_byteAt S a4 v1) (fun v3 S2 => if v3 = 45 then (s_X12_nextNumber_b18 h S2 1) else (s_X12_nextNumber_b18 h S2 0))))
set_option maxHeartbeats 4000000 in
set_option maxRecDepth 100000 in
theorem c_X12_nextNumber (l : Launch) (b0 : Nat) (G : hG) (S S1 : HS) (h : Nat) (hh : s_X12_nextNumber S h  = some S1) : MH l yX12_nextNumber wsX12_nextNumber rm_X12_nextNumber b0 G S [hrf b0 (some h)] none S1 0 0 := by
  refine MH.ofW (cc := cX12_nextNumber) (maxL := 3) (ret := none) (own := RX12) (lv0 := [(0, hrf b0 ((some h)))]) (by decide) rfl rfl (Nat.le_of_ble_eq_true rfl) rfl ?_
  intro p e s m args below meth c E hrt hlk hnm
  have hh : (kI S ((some h)) 12 12 (fun v1 => kO S ((some h)) 12 (fun a4 => kc (s_X12_byteAt S a4 v1) (fun v3 S2 => if v3 = 45 then (s_X12_nextNumber_b18 h S2 1) else (s_X12_nextNumber_b18 h S2 0))))) = some S1 := hh
  refine rw_aload_n E (j0 := 0) rfl rfl dX12_nextNumber_0 ?_
  refine rw_aload_n E (j0 := 0) rfl rfl dX12_nextNumber_1 ?_
  refine rw_getI E hh (C := RX12) (T := TX12) (N := 32) rfl (by decide) i_X12_nextNumber_12 (by decide) rfl (List.mem_of_getElem? (i := 1) (by decide +kernel)) rfl dX12_nextNumber_2 (fun v1 hh => ?_)
  refine rw_cVi E (As := [.int v1]) hh (by decide) rfl (fun _ _ _ hq => c_X12_byteAt l b0 G _ _ _ _ _ hq) (cwV 1 E.2.2.2.2.1 gX12_nextNumber_X12_byteAt rfl rfl rfl (by decide +kernel) ⟨Nat.le_of_ble_eq_true rfl, Nat.le_of_ble_eq_true rfl⟩) rfl rfl (by (try simp only [List.map_cons, List.map_nil, List.sum_cons, List.sum_nil, hrf_cat, cat_i, cat_l, cat_r]) <;> decide) ⟨Nat.le_of_ble_eq_true rfl, Nat.le_of_ble_eq_true rfl⟩ dX12_nextNumber_5 (fun v3 S2 hh => ?_)
  refine rw_bipush E (v := 45) (by decide) dX12_nextNumber_8 ?_
  refine rw_icmp_ne E hh (tgt := 17) (by decide) dX12_nextNumber_10 (fun hh => ?_) (fun hh => ?_)
  · refine rw_iconst E (v := 0) (by decide) dX12_nextNumber_17 ?_
    refine WH.pick [0] rfl ?_
    exact w_X12_nextNumber_b18 E hrt hlk hh
  · refine rw_iconst E (v := 1) (by decide) dX12_nextNumber_13 ?_
    refine rw_goto E (tgt := 18) (by decide) dX12_nextNumber_14 ?_
    refine WH.pick [0] rfl ?_
    exact w_X12_nextNumber_b18 E hrt hlk hh

/-! HummingDiscModel.next()V -/
abbrev rm_X12_next : Room := { frames := 2, cells := 0, slots := 0, locals := 47 }
theorem i_X12_next_12 : ∀ w ∈ wsX120, w ∈ wsX12_next := fun _ h => List.mem_cons_of_mem _ (List.mem_append_right _ (h))
def s_X12_next_b26 (j0 : HS → Option (HS)) (h : Nat) (S : HS) : Option (HS) := kI S ((some h)) 12 12 (fun v1 => kwI S ((some h)) 12 12 (v1 + 1) (fun S2 => j0 S2))
set_option maxHeartbeats 4000000 in
set_option maxRecDepth 100000 in
theorem w_X12_next_b26 {p : Program} {l : Launch} {e : Env} {s : State} {m : MethodId} {args : Array Value} {below : List Frame} {meth : Method} {c : Code} {b0 : Nat} {G : hG} {S1 : HS} {j0 : HS → Option (HS)} {h : Nat} {S : HS} (E : hE p s m args c b0 G cX12_next RX12 2 wsX12_next) (hrt : meth.sig.returnType = none) (hlk : meth.locks = false) (hj0 : ∀ (S : HS), j0 S = some S1 → WH p l e rm_X12_next s m args below meth c b0 G 2 0 0 (MQ below (hQ b0 G none S1) args s 0 0 (hA b0)) S 0 [(0, hrf b0 ((some h)))] []) (hh : s_X12_next_b26 j0 h S = some S1) : WH p l e rm_X12_next s m args below meth c b0 G 2 0 0 (MQ below (hQ b0 G none S1) args s 0 0 (hA b0)) S 26 [(0, hrf b0 ((some h)))] [] := by
  have hh : (kI S ((some h)) 12 12 (fun v1 => kwI S ((some h)) 12 12 (v1 + 1) (fun S2 => j0 S2))) = some S1 := hh
  refine rw_aload_n E (j0 := 0) rfl rfl dX12_next_26 ?_
  refine rw_dup E (hrf_cat _ _) dX12_next_27 ?_
  refine rw_getI E hh (C := RX12) (T := TX12) (N := 32) rfl (by decide) i_X12_next_12 (by decide) rfl (List.mem_of_getElem? (i := 1) (by decide +kernel)) rfl dX12_next_28 (fun v1 hh => ?_)
  refine rw_iconst E (v := 1) (by decide) dX12_next_31 ?_
  refine rw_iadd E dX12_next_32 ?_
  refine rw_putI E hh (C := RX12) (T := TX12) (N := 32) (ty0 := tyX12) rfl tyX12_ok nmX12 (by decide) i_X12_next_12 (by decide) rfl (List.mem_of_getElem? (i := 1) (by decide +kernel)) rfl (Or.inl rfl) rfl dX12_next_33 (fun S2 hh => ?_)
  refine rw_goto E (tgt := 0) (by decide) dX12_next_36 ?_
  refine WH.pick [0] rfl ?_
  exact hj0 _ hh
def s_X12_next_b157 (h : Nat) (S : HS) : Option (HS) := kI S ((some h)) 12 12 (fun v1 => kwI S ((some h)) 12 15 v1 (fun S2 => some S2))
set_option maxHeartbeats 4000000 in
set_option maxRecDepth 100000 in
theorem w_X12_next_b157 {p : Program} {l : Launch} {e : Env} {s : State} {m : MethodId} {args : Array Value} {below : List Frame} {meth : Method} {c : Code} {b0 : Nat} {G : hG} {S1 : HS} {h : Nat} {S : HS} (E : hE p s m args c b0 G cX12_next RX12 2 wsX12_next) (hrt : meth.sig.returnType = none) (hlk : meth.locks = false) (hh : s_X12_next_b157 h S = some S1) : WH p l e rm_X12_next s m args below meth c b0 G 2 0 0 (MQ below (hQ b0 G none S1) args s 0 0 (hA b0)) S 157 [(0, hrf b0 ((some h)))] [] := by
  have hh : (kI S ((some h)) 12 12 (fun v1 => kwI S ((some h)) 12 15 v1 (fun S2 => some S2))) = some S1 := hh
  refine rw_aload_n E (j0 := 0) rfl rfl dX12_next_157 ?_
  refine rw_aload_n E (j0 := 0) rfl rfl dX12_next_158 ?_
  refine rw_getI E hh (C := RX12) (T := TX12) (N := 32) rfl (by decide) i_X12_next_12 (by decide) rfl (List.mem_of_getElem? (i := 1) (by decide +kernel)) rfl dX12_next_159 (fun v1 hh => ?_)
  refine rw_putI E hh (C := RX12) (T := TX12) (N := 32) (ty0 := tyX12) rfl tyX12_ok nmX12 (by decide) i_X12_next_12 (by decide) rfl (List.mem_of_getElem? (i := 5) (by decide +kernel)) rfl (Or.inl rfl) rfl dX12_next_162 (fun S2 hh => ?_)
  exact rw_vret E hrt hlk hh (by decide) (by decide) dX12_next_165
def s_X12_next_b77 (j77 : HS → Option (HS)) (h : Nat) (S : HS) : Option (HS) := kI S ((some h)) 12 12 (fun v1 => kO S ((some h)) 12 (fun a4 => kc (s_X12_byteAt S a4 v1) (fun v3 S2 => kc (s_X12_isLetter S2 v3) (fun v6 S5 => if v6 = 0 then (kwI S5 ((some h)) 12 13 2 (fun S7 => s_X12_next_b157 h S7)) else (kI S5 ((some h)) 12 12 (fun v8 => kwI S5 ((some h)) 12 12 (v8 + 1) (fun S9 => j77 S9)))))))
set_option maxHeartbeats 4000000 in
set_option maxRecDepth 100000 in
theorem w_X12_next_b77 {p : Program} {l : Launch} {e : Env} {s : State} {m : MethodId} {args : Array Value} {below : List Frame} {meth : Method} {c : Code} {b0 : Nat} {G : hG} {S1 : HS} {j77 : HS → Option (HS)} {h : Nat} {S : HS} (E : hE p s m args c b0 G cX12_next RX12 2 wsX12_next) (hrt : meth.sig.returnType = none) (hlk : meth.locks = false) (hj77 : ∀ (S : HS), j77 S = some S1 → WH p l e rm_X12_next s m args below meth c b0 G 2 0 0 (MQ below (hQ b0 G none S1) args s 0 0 (hA b0)) S 77 [(0, hrf b0 ((some h)))] []) (hh : s_X12_next_b77 j77 h S = some S1) : WH p l e rm_X12_next s m args below meth c b0 G 2 0 0 (MQ below (hQ b0 G none S1) args s 0 0 (hA b0)) S 77 [(0, hrf b0 ((some h)))] [] := by
  have hh : (kI S ((some h)) 12 12 (fun v1 => kO S ((some h)) 12 (fun a4 => kc (s_X12_byteAt S a4 v1) (fun v3 S2 => kc (s_X12_isLetter S2 v3) (fun v6 S5 => if v6 = 0 then (kwI S5 ((some h)) 12 13 2 (fun S7 => s_X12_next_b157 h S7)) else (kI S5 ((some h)) 12 12 (fun v8 => kwI S5 ((some h)) 12 12 (v8 + 1) (fun S9 => j77 S9)))))))) = some S1 := hh
  refine rw_aload_n E (j0 := 0) rfl rfl dX12_next_77 ?_
  refine rw_aload_n E (j0 := 0) rfl rfl dX12_next_78 ?_
  refine rw_getI E hh (C := RX12) (T := TX12) (N := 32) rfl (by decide) i_X12_next_12 (by decide) rfl (List.mem_of_getElem? (i := 1) (by decide +kernel)) rfl dX12_next_79 (fun v1 hh => ?_)
  refine rw_cVi E (As := [.int v1]) hh (by decide) rfl (fun _ _ _ hq => c_X12_byteAt l b0 G _ _ _ _ _ hq) (cwV 1 E.2.2.2.2.1 gX12_next_X12_byteAt rfl rfl rfl (by decide +kernel) ⟨Nat.le_of_ble_eq_true rfl, Nat.le_of_ble_eq_true rfl⟩) rfl rfl (by (try simp only [List.map_cons, List.map_nil, List.sum_cons, List.sum_nil, hrf_cat, cat_i, cat_l, cat_r]) <;> decide) ⟨Nat.le_of_ble_eq_true rfl, Nat.le_of_ble_eq_true rfl⟩ dX12_next_82 (fun v3 S2 hh => ?_)
  refine rw_cSi E (As := [.int v3]) hh (fun _ _ hq => c_X12_isLetter l b0 G _ _ _ _ hq) (va_cwS 1 E.2.2.2.2.1 gX12_next_X12_isLetter rfl rfl rfl (by decide +kernel) ⟨Nat.le_of_ble_eq_true rfl, Nat.le_of_ble_eq_true rfl⟩) rfl rfl (by (try simp only [List.map_cons, List.map_nil, List.sum_cons, List.sum_nil, hrf_cat, cat_i, cat_l, cat_r]) <;> decide) ⟨Nat.le_of_ble_eq_true rfl, Nat.le_of_ble_eq_true rfl⟩ dX12_next_85 (fun v6 S5 hh => ?_)
  refine rw_if_eq E hh (tgt := 104) (by decide) dX12_next_88 (fun hh => ?_) (fun hh => ?_)
  · refine rw_aload_n E (j0 := 0) rfl rfl dX12_next_104 ?_
    refine rw_iconst E (v := 2) (by decide) dX12_next_105 ?_
    refine rw_putI E hh (C := RX12) (T := TX12) (N := 32) (ty0 := tyX12) rfl tyX12_ok nmX12 (by decide) i_X12_next_12 (by decide) rfl (List.mem_of_getElem? (i := 4) (by decide +kernel)) rfl (Or.inl rfl) rfl dX12_next_106 (fun S7 hh => ?_)
    refine rw_goto E (tgt := 157) (by decide) dX12_next_109 ?_
    refine WH.pick [0] rfl ?_
    exact w_X12_next_b157 E hrt hlk hh
  · refine rw_aload_n E (j0 := 0) rfl rfl dX12_next_91 ?_
    refine rw_dup E (hrf_cat _ _) dX12_next_92 ?_
    refine rw_getI E hh (C := RX12) (T := TX12) (N := 32) rfl (by decide) i_X12_next_12 (by decide) rfl (List.mem_of_getElem? (i := 1) (by decide +kernel)) rfl dX12_next_93 (fun v8 hh => ?_)
    refine rw_iconst E (v := 1) (by decide) dX12_next_96 ?_
    refine rw_iadd E dX12_next_97 ?_
    refine rw_putI E hh (C := RX12) (T := TX12) (N := 32) (ty0 := tyX12) rfl tyX12_ok nmX12 (by decide) i_X12_next_12 (by decide) rfl (List.mem_of_getElem? (i := 1) (by decide +kernel)) rfl (Or.inl rfl) rfl dX12_next_98 (fun S9 hh => ?_)
    refine rw_goto E (tgt := 77) (by decide) dX12_next_101 ?_
    refine WH.pick [0] rfl ?_
    exact hj77 _ hh
def s_X12_next_L77 (h : Nat) : Nat → HS → Option (HS)
  | 0 => fun _ => none
  | n + 1 => s_X12_next_b77 (s_X12_next_L77 h n) h
set_option maxHeartbeats 4000000 in
set_option maxRecDepth 100000 in
theorem w_X12_next_L77 {p : Program} {l : Launch} {e : Env} {s : State} {m : MethodId} {args : Array Value} {below : List Frame} {meth : Method} {c : Code} {b0 : Nat} {G : hG} {S1 : HS} {h : Nat} (E : hE p s m args c b0 G cX12_next RX12 2 wsX12_next) (hrt : meth.sig.returnType = none) (hlk : meth.locks = false) : ∀ (n : Nat) (S : HS), s_X12_next_L77 h n S = some S1 → WH p l e rm_X12_next s m args below meth c b0 G 2 0 0 (MQ below (hQ b0 G none S1) args s 0 0 (hA b0)) S 77 [(0, hrf b0 ((some h)))] [] := by
  intro n
  induction n with
  | zero => intro _ hh; exact absurd hh (by simp [s_X12_next_L77])
  | succ n ih => intro _ hh; exact w_X12_next_b77 E hrt hlk  ih hh
def s_X12_next_b125 (h : Nat) (S : HS) : Option (HS) := kO S ((some h)) 12 (fun a2 => kcv (s_X12_nextNumber S a2 ) (fun S1 => s_X12_next_b157 h S1))
set_option maxHeartbeats 4000000 in
set_option maxRecDepth 100000 in
theorem w_X12_next_b125 {p : Program} {l : Launch} {e : Env} {s : State} {m : MethodId} {args : Array Value} {below : List Frame} {meth : Method} {c : Code} {b0 : Nat} {G : hG} {S1 : HS} {h : Nat} {S : HS} (E : hE p s m args c b0 G cX12_next RX12 2 wsX12_next) (hrt : meth.sig.returnType = none) (hlk : meth.locks = false) (hh : s_X12_next_b125 h S = some S1) : WH p l e rm_X12_next s m args below meth c b0 G 2 0 0 (MQ below (hQ b0 G none S1) args s 0 0 (hA b0)) S 125 [(0, hrf b0 ((some h)))] [] := by
  have hh : (kO S ((some h)) 12 (fun a2 => kcv (s_X12_nextNumber S a2 ) (fun S1 => s_X12_next_b157 h S1))) = some S1 := hh
  refine rw_aload_n E (j0 := 0) rfl rfl dX12_next_125 ?_
  refine rw_cVv E (As := []) hh (by decide) rfl (fun _ _ hq => c_X12_nextNumber l b0 G _ _ _ hq) (cwV 0 E.2.2.2.2.1 gX12_next_X12_nextNumber rfl rfl rfl (by decide +kernel) ⟨Nat.le_of_ble_eq_true rfl, Nat.le_of_ble_eq_true rfl⟩) rfl rfl (by (try simp only [List.map_cons, List.map_nil, List.sum_cons, List.sum_nil, hrf_cat, cat_i, cat_l, cat_r]) <;> decide) ⟨Nat.le_of_ble_eq_true rfl, Nat.le_of_ble_eq_true rfl⟩ dX12_next_126 (fun S1 hh => ?_)
  refine rw_goto E (tgt := 157) (by decide) dX12_next_129 ?_
  refine WH.pick [0] rfl ?_
  exact w_X12_next_b157 E hrt hlk hh
def s_X12_next_b154 (h : Nat) (S : HS) (k0 : Option Nat) (k1 : Int32) : Option (HS) := kwI S k0 12 13 k1 (fun S1 => s_X12_next_b157 h S1)
set_option maxHeartbeats 4000000 in
set_option maxRecDepth 100000 in
theorem w_X12_next_b154 {p : Program} {l : Launch} {e : Env} {s : State} {m : MethodId} {args : Array Value} {below : List Frame} {meth : Method} {c : Code} {b0 : Nat} {G : hG} {S1 : HS} {h : Nat} {S : HS} {k0 : Option Nat} {k1 : Int32} (E : hE p s m args c b0 G cX12_next RX12 2 wsX12_next) (hrt : meth.sig.returnType = none) (hlk : meth.locks = false) (hh : s_X12_next_b154 h S k0 k1 = some S1) : WH p l e rm_X12_next s m args below meth c b0 G 2 0 0 (MQ below (hQ b0 G none S1) args s 0 0 (hA b0)) S 154 [(0, hrf b0 ((some h)))] [.int k1, hrf b0 k0] := by
  have hh : (kwI S k0 12 13 k1 (fun S1 => s_X12_next_b157 h S1)) = some S1 := hh
  refine rw_putI E hh (C := RX12) (T := TX12) (N := 32) (ty0 := tyX12) rfl tyX12_ok nmX12 (by decide) i_X12_next_12 (by decide) rfl (List.mem_of_getElem? (i := 4) (by decide +kernel)) rfl (Or.inl rfl) rfl dX12_next_154 (fun S1 hh => ?_)
  refine WH.pick [0] rfl ?_
  exact w_X12_next_b157 E hrt hlk hh
def s_X12_next_b0 (j0 : HS → Option (HS)) (h : Nat) (S : HS) : Option (HS) := kI S ((some h)) 12 12 (fun v1 => kO S ((some h)) 12 (fun a4 => kc (s_X12_byteAt S a4 v1) (fun v3 S2 => if v3 = 32 then (s_X12_next_b26 j0 h S2) else (kI S2 ((some h)) 12 12 (fun v5 => kO S2 ((some h)) 12 (fun a8 => kc (s_X12_byteAt S2 a8 v5) (fun v7 S6 => if v7 = 10 then (s_X12_next_b26 j0 h S6) else (kI S6 ((some h)) 12 12 (fun v9 => kwI S6 ((some h)) 12 14 v9 (fun S10 => kI S10 ((some h)) 12 12 (fun v11 => kO S10 ((some h)) 12 (fun a14 => kc (s_X12_byteAt S10 a14 v11) (fun v13 S12 => if v13 = (-1000000) then (kwI S12 ((some h)) 12 13 1 (fun S21 => s_X12_next_b157 h S21)) else (kc (s_X12_isLetter S12 v13) (fun v16 S15 => if v16 = 0 then (kc (s_X12_isFigure S15 v13) (fun v18 S17 => if v18 = 0 then (if v13 = 45 then (s_X12_next_b125 h S17) else (kI S17 ((some h)) 12 12 (fun v19 => kwI S17 ((some h)) 12 12 (v19 + 1) (fun S20 => if v13 = 59 then (s_X12_next_b154 h S20 ((some h)) 4) else (s_X12_next_b154 h S20 ((some h)) 0))))) else (s_X12_next_b125 h S17))) else (s_X12_next_L77 h 100000 S15))))))))))))))))
set_option maxHeartbeats 4000000 in
set_option maxRecDepth 100000 in
theorem w_X12_next_b0 {p : Program} {l : Launch} {e : Env} {s : State} {m : MethodId} {args : Array Value} {below : List Frame} {meth : Method} {c : Code} {b0 : Nat} {G : hG} {S1 : HS} {j0 : HS → Option (HS)} {h : Nat} {S : HS} (E : hE p s m args c b0 G cX12_next RX12 2 wsX12_next) (hrt : meth.sig.returnType = none) (hlk : meth.locks = false) (hj0 : ∀ (S : HS), j0 S = some S1 → WH p l e rm_X12_next s m args below meth c b0 G 2 0 0 (MQ below (hQ b0 G none S1) args s 0 0 (hA b0)) S 0 [(0, hrf b0 ((some h)))] []) (hh : s_X12_next_b0 j0 h S = some S1) : WH p l e rm_X12_next s m args below meth c b0 G 2 0 0 (MQ below (hQ b0 G none S1) args s 0 0 (hA b0)) S 0 [(0, hrf b0 ((some h)))] [] := by
  have hh : (kI S ((some h)) 12 12 (fun v1 => kO S ((some h)) 12 (fun a4 => kc (s_X12_byteAt S a4 v1) (fun v3 S2 => if v3 = 32 then (s_X12_next_b26 j0 h S2) else (kI S2 ((some h)) 12 12 (fun v5 => kO S2 ((some h)) 12 (fun a8 => kc (s_X12_byteAt S2 a8 v5) (fun v7 S6 => if v7 = 10 then (s_X12_next_b26 j0 h S6) else (kI S6 ((some h)) 12 12 (fun v9 => kwI S6 ((some h)) 12 14 v9 (fun S10 => kI S10 ((some h)) 12 12 (fun v11 => kO S10 ((some h)) 12 (fun a14 => kc (s_X12_byteAt S10 a14 v11) (fun v13 S12 => if v13 = (-1000000) then (kwI S12 ((some h)) 12 13 1 (fun S21 => s_X12_next_b157 h S21)) else (kc (s_X12_isLetter S12 v13) (fun v16 S15 => if v16 = 0 then (kc (s_X12_isFigure S15 v13) (fun v18 S17 => if v18 = 0 then (if v13 = 45 then (s_X12_next_b125 h S17) else (kI S17 ((some h)) 12 12 (fun v19 => kwI S17 ((some h)) 12 12 (v19 + 1) (fun S20 => if v13 = 59 then (s_X12_next_b154 h S20 ((some h)) 4) else (s_X12_next_b154 h S20 ((some h)) 0))))) else (s_X12_next_b125 h S17))) else (s_X12_next_L77 h 100000 S15))))))))))))))))) = some S1 := hh
  refine rw_aload_n E (j0 := 0) rfl rfl dX12_next_0 ?_
  refine rw_aload_n E (j0 := 0) rfl rfl dX12_next_1 ?_
  refine rw_getI E hh (C := RX12) (T := TX12) (N := 32) rfl (by decide) i_X12_next_12 (by decide) rfl (List.mem_of_getElem? (i := 1) (by decide +kernel)) rfl dX12_next_2 (fun v1 hh => ?_)
  refine rw_cVi E (As := [.int v1]) hh (by decide) rfl (fun _ _ _ hq => c_X12_byteAt l b0 G _ _ _ _ _ hq) (cwV 1 E.2.2.2.2.1 gX12_next_X12_byteAt rfl rfl rfl (by decide +kernel) ⟨Nat.le_of_ble_eq_true rfl, Nat.le_of_ble_eq_true rfl⟩) rfl rfl (by (try simp only [List.map_cons, List.map_nil, List.sum_cons, List.sum_nil, hrf_cat, cat_i, cat_l, cat_r]) <;> decide) ⟨Nat.le_of_ble_eq_true rfl, Nat.le_of_ble_eq_true rfl⟩ dX12_next_5 (fun v3 S2 hh => ?_)
  refine rw_bipush E (v := 32) (by decide) dX12_next_8 ?_
  refine rw_icmp_eq E hh (tgt := 26) (by decide) dX12_next_10 (fun hh => ?_) (fun hh => ?_)
  · refine WH.pick [0] rfl ?_
    exact w_X12_next_b26 E hrt hlk hj0 hh
  · refine rw_aload_n E (j0 := 0) rfl rfl dX12_next_13 ?_
    refine rw_aload_n E (j0 := 0) rfl rfl dX12_next_14 ?_
    refine rw_getI E hh (C := RX12) (T := TX12) (N := 32) rfl (by decide) i_X12_next_12 (by decide) rfl (List.mem_of_getElem? (i := 1) (by decide +kernel)) rfl dX12_next_15 (fun v5 hh => ?_)
    refine rw_cVi E (As := [.int v5]) hh (by decide) rfl (fun _ _ _ hq => c_X12_byteAt l b0 G _ _ _ _ _ hq) (cwV 1 E.2.2.2.2.1 gX12_next_X12_byteAt rfl rfl rfl (by decide +kernel) ⟨Nat.le_of_ble_eq_true rfl, Nat.le_of_ble_eq_true rfl⟩) rfl rfl (by (try simp only [List.map_cons, List.map_nil, List.sum_cons, List.sum_nil, hrf_cat, cat_i, cat_l, cat_r]) <;> decide) ⟨Nat.le_of_ble_eq_true rfl, Nat.le_of_ble_eq_true rfl⟩ dX12_next_18 (fun v7 S6 hh => ?_)
    refine rw_bipush E (v := 10) (by decide) dX12_next_21 ?_
    refine rw_icmp_ne E hh (tgt := 39) (by decide) dX12_next_23 (fun hh => ?_) (fun hh => ?_)
    · refine rw_aload_n E (j0 := 0) rfl rfl dX12_next_39 ?_
      refine rw_aload_n E (j0 := 0) rfl rfl dX12_next_40 ?_
      refine rw_getI E hh (C := RX12) (T := TX12) (N := 32) rfl (by decide) i_X12_next_12 (by decide) rfl (List.mem_of_getElem? (i := 1) (by decide +kernel)) rfl dX12_next_41 (fun v9 hh => ?_)
      refine rw_putI E hh (C := RX12) (T := TX12) (N := 32) (ty0 := tyX12) rfl tyX12_ok nmX12 (by decide) i_X12_next_12 (by decide) rfl (List.mem_of_getElem? (i := 2) (by decide +kernel)) rfl (Or.inl rfl) rfl dX12_next_44 (fun S10 hh => ?_)
      refine rw_aload_n E (j0 := 0) rfl rfl dX12_next_47 ?_
      refine rw_aload_n E (j0 := 0) rfl rfl dX12_next_48 ?_
      refine rw_getI E hh (C := RX12) (T := TX12) (N := 32) rfl (by decide) i_X12_next_12 (by decide) rfl (List.mem_of_getElem? (i := 1) (by decide +kernel)) rfl dX12_next_49 (fun v11 hh => ?_)
      refine rw_cVi E (As := [.int v11]) hh (by decide) rfl (fun _ _ _ hq => c_X12_byteAt l b0 G _ _ _ _ _ hq) (cwV 1 E.2.2.2.2.1 gX12_next_X12_byteAt rfl rfl rfl (by decide +kernel) ⟨Nat.le_of_ble_eq_true rfl, Nat.le_of_ble_eq_true rfl⟩) rfl rfl (by (try simp only [List.map_cons, List.map_nil, List.sum_cons, List.sum_nil, hrf_cat, cat_i, cat_l, cat_r]) <;> decide) ⟨Nat.le_of_ble_eq_true rfl, Nat.le_of_ble_eq_true rfl⟩ dX12_next_52 (fun v13 S12 hh => ?_)
      refine rw_istore_n E (lv2 := [(1, .int v13), (0, hrf b0 ((some h)))]) rfl (by decide) rfl dX12_next_55 ?_
      refine rw_iload_n E (j0 := 0) rfl rfl dX12_next_56 ?_
      refine rw_ldc E (v := (-1000000)) (List.mem_of_getElem? (i := 3) (by decide +kernel)) dX12_next_57 ?_
      refine rw_icmp_ne E hh (tgt := 70) (by decide) dX12_next_59 (fun hh => ?_) (fun hh => ?_)
      · refine rw_iload_n E (j0 := 0) rfl rfl dX12_next_70 ?_
        refine rw_cSi E (As := [.int v13]) hh (fun _ _ hq => c_X12_isLetter l b0 G _ _ _ _ hq) (va_cwS 1 E.2.2.2.2.1 gX12_next_X12_isLetter rfl rfl rfl (by decide +kernel) ⟨Nat.le_of_ble_eq_true rfl, Nat.le_of_ble_eq_true rfl⟩) rfl rfl (by (try simp only [List.map_cons, List.map_nil, List.sum_cons, List.sum_nil, hrf_cat, cat_i, cat_l, cat_r]) <;> decide) ⟨Nat.le_of_ble_eq_true rfl, Nat.le_of_ble_eq_true rfl⟩ dX12_next_71 (fun v16 S15 hh => ?_)
        refine rw_if_eq E hh (tgt := 112) (by decide) dX12_next_74 (fun hh => ?_) (fun hh => ?_)
        · refine rw_iload_n E (j0 := 0) rfl rfl dX12_next_112 ?_
          refine rw_cSi E (As := [.int v13]) hh (fun _ _ hq => c_X12_isFigure l b0 G _ _ _ _ hq) (va_cwS 1 E.2.2.2.2.1 gX12_next_X12_isFigure rfl rfl rfl (by decide +kernel) ⟨Nat.le_of_ble_eq_true rfl, Nat.le_of_ble_eq_true rfl⟩) rfl rfl (by (try simp only [List.map_cons, List.map_nil, List.sum_cons, List.sum_nil, hrf_cat, cat_i, cat_l, cat_r]) <;> decide) ⟨Nat.le_of_ble_eq_true rfl, Nat.le_of_ble_eq_true rfl⟩ dX12_next_113 (fun v18 S17 hh => ?_)
          refine rw_if_ne E hh (tgt := 125) (by decide) dX12_next_116 (fun hh => ?_) (fun hh => ?_)
          · refine WH.pick [1] rfl ?_
            exact w_X12_next_b125 E hrt hlk hh
          · refine rw_iload_n E (j0 := 0) rfl rfl dX12_next_119 ?_
            refine rw_bipush E (v := 45) (by decide) dX12_next_120 ?_
            refine rw_icmp_ne E hh (tgt := 132) (by decide) dX12_next_122 (fun hh => ?_) (fun hh => ?_)
            · refine rw_aload_n E (j0 := 1) rfl rfl dX12_next_132 ?_
              refine rw_dup E (hrf_cat _ _) dX12_next_133 ?_
              refine rw_getI E hh (C := RX12) (T := TX12) (N := 32) rfl (by decide) i_X12_next_12 (by decide) rfl (List.mem_of_getElem? (i := 1) (by decide +kernel)) rfl dX12_next_134 (fun v19 hh => ?_)
              refine rw_iconst E (v := 1) (by decide) dX12_next_137 ?_
              refine rw_iadd E dX12_next_138 ?_
              refine rw_putI E hh (C := RX12) (T := TX12) (N := 32) (ty0 := tyX12) rfl tyX12_ok nmX12 (by decide) i_X12_next_12 (by decide) rfl (List.mem_of_getElem? (i := 1) (by decide +kernel)) rfl (Or.inl rfl) rfl dX12_next_139 (fun S20 hh => ?_)
              refine rw_aload_n E (j0 := 1) rfl rfl dX12_next_142 ?_
              refine rw_iload_n E (j0 := 0) rfl rfl dX12_next_143 ?_
              refine rw_bipush E (v := 59) (by decide) dX12_next_144 ?_
              refine rw_icmp_ne E hh (tgt := 153) (by decide) dX12_next_146 (fun hh => ?_) (fun hh => ?_)
              · refine rw_iconst E (v := 0) (by decide) dX12_next_153 ?_
                refine WH.pick [1] rfl ?_
                exact w_X12_next_b154 E hrt hlk hh
              · refine rw_iconst E (v := 4) (by decide) dX12_next_149 ?_
                refine rw_goto E (tgt := 154) (by decide) dX12_next_150 ?_
                refine WH.pick [1] rfl ?_
                exact w_X12_next_b154 E hrt hlk hh
            · refine WH.pick [1] rfl ?_
              exact w_X12_next_b125 E hrt hlk hh
        · refine WH.pick [1] rfl ?_
          exact w_X12_next_L77 E hrt hlk 100000 _ hh
      · refine rw_aload_n E (j0 := 1) rfl rfl dX12_next_62 ?_
        refine rw_iconst E (v := 1) (by decide) dX12_next_63 ?_
        refine rw_putI E hh (C := RX12) (T := TX12) (N := 32) (ty0 := tyX12) rfl tyX12_ok nmX12 (by decide) i_X12_next_12 (by decide) rfl (List.mem_of_getElem? (i := 4) (by decide +kernel)) rfl (Or.inl rfl) rfl dX12_next_64 (fun S21 hh => ?_)
        refine rw_goto E (tgt := 157) (by decide) dX12_next_67 ?_
        refine WH.pick [1] rfl ?_
        exact w_X12_next_b157 E hrt hlk hh
    · refine WH.pick [0] rfl ?_
      exact w_X12_next_b26 E hrt hlk hj0 hh
def s_X12_next_L0 (h : Nat) : Nat → HS → Option (HS)
  | 0 => fun _ => none
  | n + 1 => s_X12_next_b0 (s_X12_next_L0 h n) h
set_option maxHeartbeats 4000000 in
set_option maxRecDepth 100000 in
theorem w_X12_next_L0 {p : Program} {l : Launch} {e : Env} {s : State} {m : MethodId} {args : Array Value} {below : List Frame} {meth : Method} {c : Code} {b0 : Nat} {G : hG} {S1 : HS} {h : Nat} (E : hE p s m args c b0 G cX12_next RX12 2 wsX12_next) (hrt : meth.sig.returnType = none) (hlk : meth.locks = false) : ∀ (n : Nat) (S : HS), s_X12_next_L0 h n S = some S1 → WH p l e rm_X12_next s m args below meth c b0 G 2 0 0 (MQ below (hQ b0 G none S1) args s 0 0 (hA b0)) S 0 [(0, hrf b0 ((some h)))] [] := by
  intro n
  induction n with
  | zero => intro _ hh; exact absurd hh (by simp [s_X12_next_L0])
  | succ n ih => intro _ hh; exact w_X12_next_b0 E hrt hlk  ih hh
def s_X12_next (S : HS) (h : Nat) : Option (HS) := s_X12_next_L0 h 100000 S
set_option maxHeartbeats 4000000 in
set_option maxRecDepth 100000 in
theorem c_X12_next (l : Launch) (b0 : Nat) (G : hG) (S S1 : HS) (h : Nat) (hh : s_X12_next S h  = some S1) : MH l yX12_next wsX12_next rm_X12_next b0 G S [hrf b0 (some h)] none S1 0 0 := by
  refine MH.ofW (cc := cX12_next) (maxL := 2) (ret := none) (own := RX12) (lv0 := [(0, hrf b0 ((some h)))]) (by decide) rfl rfl (Nat.le_of_ble_eq_true rfl) rfl ?_
  intro p e s m args below meth c E hrt hlk hnm
  have hh : (s_X12_next_L0 h 100000 S) = some S1 := hh
  refine WH.pick [0] rfl ?_
  exact w_X12_next_L0 E hrt hlk 100000 _ hh

/-! HummingDiscModel.bad(I)V -/
abbrev rm_X12_bad : Room := { frames := 0, cells := 0, slots := 0, locals := 0 }
theorem i_X12_bad_12 : ∀ w ∈ wsX120, w ∈ wsX12_bad := fun _ h => List.mem_cons_of_mem _ (List.mem_append_right _ (h))
def s_X12_bad (S : HS) (h : Nat) (l1 : Int32) : Option (HS) := kI S ((some h)) 12 17 (fun v1 => if v1 = 0 then (kwI S ((some h)) 12 17 l1 (fun S2 => kI S2 ((some h)) 12 14 (fun v3 => kwI S2 ((some h)) 12 18 v3 (fun S4 => some S4)))) else (some S))
set_option maxHeartbeats 4000000 in
set_option maxRecDepth 100000 in
theorem c_X12_bad (l : Launch) (b0 : Nat) (G : hG) (S S1 : HS) (h : Nat) (l1 : Int32) (hh : s_X12_bad S h l1 = some S1) : MH l yX12_bad wsX12_bad rm_X12_bad b0 G S [hrf b0 (some h), .int l1] none S1 0 0 := by
  refine MH.ofW (cc := cX12_bad) (maxL := 2) (ret := none) (own := RX12) (lv0 := [(0, hrf b0 ((some h))), (1, .int l1)]) (by decide) rfl rfl (Nat.le_of_ble_eq_true rfl) rfl ?_
  intro p e s m args below meth c E hrt hlk hnm
  have hh : (kI S ((some h)) 12 17 (fun v1 => if v1 = 0 then (kwI S ((some h)) 12 17 l1 (fun S2 => kI S2 ((some h)) 12 14 (fun v3 => kwI S2 ((some h)) 12 18 v3 (fun S4 => some S4)))) else (some S))) = some S1 := hh
  refine rw_aload_n E (j0 := 0) rfl rfl dX12_bad_0 ?_
  refine rw_getI E hh (C := RX12) (T := TX12) (N := 32) rfl (by decide) i_X12_bad_12 (by decide) rfl (List.mem_of_getElem? (i := 1) (by decide +kernel)) rfl dX12_bad_1 (fun v1 hh => ?_)
  refine rw_if_ne E hh (tgt := 20) (by decide) dX12_bad_4 (fun hh => ?_) (fun hh => ?_)
  · exact rw_vret E hrt hlk hh (by decide) (by decide) dX12_bad_20
  · refine rw_aload_n E (j0 := 0) rfl rfl dX12_bad_7 ?_
    refine rw_iload_n E (j0 := 1) rfl rfl dX12_bad_8 ?_
    refine rw_putI E hh (C := RX12) (T := TX12) (N := 32) (ty0 := tyX12) rfl tyX12_ok nmX12 (by decide) i_X12_bad_12 (by decide) rfl (List.mem_of_getElem? (i := 1) (by decide +kernel)) rfl (Or.inl rfl) rfl dX12_bad_9 (fun S2 hh => ?_)
    refine rw_aload_n E (j0 := 0) rfl rfl dX12_bad_12 ?_
    refine rw_aload_n E (j0 := 0) rfl rfl dX12_bad_13 ?_
    refine rw_getI E hh (C := RX12) (T := TX12) (N := 32) rfl (by decide) i_X12_bad_12 (by decide) rfl (List.mem_of_getElem? (i := 2) (by decide +kernel)) rfl dX12_bad_14 (fun v3 hh => ?_)
    refine rw_putI E hh (C := RX12) (T := TX12) (N := 32) (ty0 := tyX12) rfl tyX12_ok nmX12 (by decide) i_X12_bad_12 (by decide) rfl (List.mem_of_getElem? (i := 3) (by decide +kernel)) rfl (Or.inl rfl) rfl dX12_bad_17 (fun S4 hh => ?_)
    exact rw_vret E hrt hlk hh (by decide) (by decide) dX12_bad_20

/-! HummingDiscModel.must(Z)V -/
abbrev rm_X12_must : Room := { frames := 3, cells := 0, slots := 0, locals := 68 }
theorem i_X12_must_12 : ∀ w ∈ wsX120, w ∈ wsX12_must := fun _ h => List.mem_cons_of_mem _ (List.mem_append_right _ (h))
def s_X12_must_b9 (h : Nat) (S : HS) : Option (HS) := kI S ((some h)) 12 17 (fun v1 => if v1 = 0 then (kO S ((some h)) 12 (fun a3 => kcv (s_X12_next S a3 ) (fun S2 => some S2))) else (some S))
set_option maxHeartbeats 4000000 in
set_option maxRecDepth 100000 in
theorem w_X12_must_b9 {p : Program} {l : Launch} {e : Env} {s : State} {m : MethodId} {args : Array Value} {below : List Frame} {meth : Method} {c : Code} {b0 : Nat} {G : hG} {S1 : HS} {h : Nat} {S : HS} (E : hE p s m args c b0 G cX12_must RX12 2 wsX12_must) (hrt : meth.sig.returnType = none) (hlk : meth.locks = false) (hh : s_X12_must_b9 h S = some S1) : WH p l e rm_X12_must s m args below meth c b0 G 2 0 0 (MQ below (hQ b0 G none S1) args s 0 0 (hA b0)) S 9 [(0, hrf b0 ((some h)))] [] := by
  have hh : (kI S ((some h)) 12 17 (fun v1 => if v1 = 0 then (kO S ((some h)) 12 (fun a3 => kcv (s_X12_next S a3 ) (fun S2 => some S2))) else (some S))) = some S1 := hh
  refine rw_aload_n E (j0 := 0) rfl rfl dX12_must_9 ?_
  refine rw_getI E hh (C := RX12) (T := TX12) (N := 32) rfl (by decide) i_X12_must_12 (by decide) rfl (List.mem_of_getElem? (i := 1) (by decide +kernel)) rfl dX12_must_10 (fun v1 hh => ?_)
  refine rw_if_ne E hh (tgt := 20) (by decide) dX12_must_13 (fun hh => ?_) (fun hh => ?_)
  · exact rw_vret E hrt hlk hh (by decide) (by decide) dX12_must_20
  · refine rw_aload_n E (j0 := 0) rfl rfl dX12_must_16 ?_
    refine rw_cVv E (As := []) hh (by decide) rfl (fun _ _ hq => c_X12_next l b0 G _ _ _ hq) (cwV 0 E.2.2.2.2.1 gX12_must_X12_next rfl rfl rfl (by decide +kernel) ⟨Nat.le_of_ble_eq_true rfl, Nat.le_of_ble_eq_true rfl⟩) rfl rfl (by (try simp only [List.map_cons, List.map_nil, List.sum_cons, List.sum_nil, hrf_cat, cat_i, cat_l, cat_r]) <;> decide) ⟨Nat.le_of_ble_eq_true rfl, Nat.le_of_ble_eq_true rfl⟩ dX12_must_17 (fun S2 hh => ?_)
    exact rw_vret E hrt hlk hh (by decide) (by decide) dX12_must_20
def s_X12_must (S : HS) (h : Nat) (l1 : Int32) : Option (HS) := if l1 = 0 then (kO S ((some h)) 12 (fun a2 => kcv (s_X12_bad S a2 1) (fun S1 => s_X12_must_b9 h S1))) else (s_X12_must_b9 h S)
set_option maxHeartbeats 4000000 in
set_option maxRecDepth 100000 in
theorem c_X12_must (l : Launch) (b0 : Nat) (G : hG) (S S1 : HS) (h : Nat) (l1 : Int32) (hh : s_X12_must S h l1 = some S1) : MH l yX12_must wsX12_must rm_X12_must b0 G S [hrf b0 (some h), .int l1] none S1 0 0 := by
  refine MH.ofW (cc := cX12_must) (maxL := 2) (ret := none) (own := RX12) (lv0 := [(0, hrf b0 ((some h))), (1, .int l1)]) (by decide) rfl rfl (Nat.le_of_ble_eq_true rfl) rfl ?_
  intro p e s m args below meth c E hrt hlk hnm
  have hh : (if l1 = 0 then (kO S ((some h)) 12 (fun a2 => kcv (s_X12_bad S a2 1) (fun S1 => s_X12_must_b9 h S1))) else (s_X12_must_b9 h S)) = some S1 := hh
  refine rw_iload_n E (j0 := 1) rfl rfl dX12_must_0 ?_
  refine rw_if_ne E hh (tgt := 9) (by decide) dX12_must_1 (fun hh => ?_) (fun hh => ?_)
  · refine WH.pick [0] rfl ?_
    exact w_X12_must_b9 E hrt hlk hh
  · refine rw_aload_n E (j0 := 0) rfl rfl dX12_must_4 ?_
    refine rw_iconst E (v := 1) (by decide) dX12_must_5 ?_
    refine rw_cVv E (As := [.int 1]) hh (by decide) rfl (fun _ _ hq => c_X12_bad l b0 G _ _ _ _ hq) (cwV 1 E.2.2.2.2.1 gX12_must_X12_bad rfl rfl rfl (by decide +kernel) ⟨Nat.le_of_ble_eq_true rfl, Nat.le_of_ble_eq_true rfl⟩) rfl rfl (by (try simp only [List.map_cons, List.map_nil, List.sum_cons, List.sum_nil, hrf_cat, cat_i, cat_l, cat_r]) <;> decide) ⟨Nat.le_of_ble_eq_true rfl, Nat.le_of_ble_eq_true rfl⟩ dX12_must_6 (fun S1 hh => ?_)
    refine WH.pick [0] rfl ?_
    exact w_X12_must_b9 E hrt hlk hh

/-! HummingDiscModel.word()J -/
abbrev rm_X12_word : Room := { frames := 0, cells := 0, slots := 0, locals := 0 }
theorem i_X12_word_12 : ∀ w ∈ wsX120, w ∈ wsX12_word := fun _ h => List.mem_cons_of_mem _ (List.mem_append_right _ (h))
def s_X12_word_b56 (h : Nat) (S : HS) (l1 : Int64) : Option (Int64 × HS) := kI S ((some h)) 12 17 (fun v1 => if v1 = 0 then (some (l1, S)) else (some (0, S)))
set_option maxHeartbeats 4000000 in
set_option maxRecDepth 100000 in
theorem w_X12_word_b56 {p : Program} {l : Launch} {e : Env} {s : State} {m : MethodId} {args : Array Value} {below : List Frame} {meth : Method} {c : Code} {b0 : Nat} {G : hG} {S1 : HS} {r : Int64} {h : Nat} {S : HS} {l1 : Int64} (E : hE p s m args c b0 G cX12_word RX12 4 wsX12_word) (hrt : meth.sig.returnType = (some .long)) (hlk : meth.locks = false) (hh : s_X12_word_b56 h S l1 = some (r, S1)) : WH p l e rm_X12_word s m args below meth c b0 G 4 0 0 (MQ below (hQ b0 G (some (.long r)) S1) args s 0 0 (hA b0)) S 56 [(0, hrf b0 ((some h))), (1, .long l1)] [] := by
  have hh : (kI S ((some h)) 12 17 (fun v1 => if v1 = 0 then (some (l1, S)) else (some (0, S)))) = some (r, S1) := hh
  refine rw_aload_n E (j0 := 0) rfl rfl dX12_word_56 ?_
  refine rw_getI E hh (C := RX12) (T := TX12) (N := 32) rfl (by decide) i_X12_word_12 (by decide) rfl (List.mem_of_getElem? (i := 5) (by decide +kernel)) rfl dX12_word_57 (fun v1 hh => ?_)
  refine rw_if_ne E hh (tgt := 67) (by decide) dX12_word_60 (fun hh => ?_) (fun hh => ?_)
  · refine rw_lconst E (v := 0) (by decide) dX12_word_67 ?_
    exact rw_lret E hrt hlk hh (by decide) (by decide) dX12_word_68
  · refine rw_lload_n E (j0 := 1) rfl rfl dX12_word_63 ?_
    refine rw_goto E (tgt := 68) (by decide) dX12_word_64 ?_
    exact rw_lret E hrt hlk hh (by decide) (by decide) dX12_word_68
def s_X12_word_b7 (j7 : HS → Int64 → Int32 → Option (Int64 × HS)) (h : Nat) (S : HS) (l1 : Int64) (l3 : Int32) : Option (Int64 × HS) := kI S ((some h)) 12 15 (fun v1 => if v1 ≤ l3 then (s_X12_word_b56 h S l1) else (kI S ((some h)) 12 13 (fun v2 => if v2 = 2 then (kI S ((some h)) 12 15 (fun v3 => kI S ((some h)) 12 14 (fun v4 => if 8 ≤ v3 - v4 then (s_X12_word_b56 h S l1) else (kP S ((some h)) 12 8 (fun v5 => kA S v5 14 l3 (fun v6 => j7 S ((l1 <<< ((8 : Int32).toInt64 &&& 63)) ||| v6.toInt64) (l3 + 1))))))) else (s_X12_word_b56 h S l1))))
set_option maxHeartbeats 4000000 in
set_option maxRecDepth 100000 in
theorem w_X12_word_b7 {p : Program} {l : Launch} {e : Env} {s : State} {m : MethodId} {args : Array Value} {below : List Frame} {meth : Method} {c : Code} {b0 : Nat} {G : hG} {S1 : HS} {r : Int64} {j7 : HS → Int64 → Int32 → Option (Int64 × HS)} {h : Nat} {S : HS} {l1 : Int64} {l3 : Int32} (E : hE p s m args c b0 G cX12_word RX12 4 wsX12_word) (hrt : meth.sig.returnType = (some .long)) (hlk : meth.locks = false) (hj7 : ∀ (S : HS) (l1 : Int64) (l3 : Int32), j7 S l1 l3 = some (r, S1) → WH p l e rm_X12_word s m args below meth c b0 G 4 0 0 (MQ below (hQ b0 G (some (.long r)) S1) args s 0 0 (hA b0)) S 7 [(0, hrf b0 ((some h))), (1, .long l1), (3, .int l3)] []) (hh : s_X12_word_b7 j7 h S l1 l3 = some (r, S1)) : WH p l e rm_X12_word s m args below meth c b0 G 4 0 0 (MQ below (hQ b0 G (some (.long r)) S1) args s 0 0 (hA b0)) S 7 [(0, hrf b0 ((some h))), (1, .long l1), (3, .int l3)] [] := by
  have hh : (kI S ((some h)) 12 15 (fun v1 => if v1 ≤ l3 then (s_X12_word_b56 h S l1) else (kI S ((some h)) 12 13 (fun v2 => if v2 = 2 then (kI S ((some h)) 12 15 (fun v3 => kI S ((some h)) 12 14 (fun v4 => if 8 ≤ v3 - v4 then (s_X12_word_b56 h S l1) else (kP S ((some h)) 12 8 (fun v5 => kA S v5 14 l3 (fun v6 => j7 S ((l1 <<< ((8 : Int32).toInt64 &&& 63)) ||| v6.toInt64) (l3 + 1))))))) else (s_X12_word_b56 h S l1))))) = some (r, S1) := hh
  refine rw_iload_n E (j0 := 2) rfl rfl dX12_word_7 ?_
  refine rw_aload_n E (j0 := 0) rfl rfl dX12_word_8 ?_
  refine rw_getI E hh (C := RX12) (T := TX12) (N := 32) rfl (by decide) i_X12_word_12 (by decide) rfl (List.mem_of_getElem? (i := 2) (by decide +kernel)) rfl dX12_word_9 (fun v1 hh => ?_)
  refine rw_icmp_ge E hh (tgt := 56) (by decide) dX12_word_12 (fun hh => ?_) (fun hh => ?_)
  · refine WH.pick [0, 1] rfl ?_
    exact w_X12_word_b56 E hrt hlk hh
  · refine rw_aload_n E (j0 := 0) rfl rfl dX12_word_15 ?_
    refine rw_getI E hh (C := RX12) (T := TX12) (N := 32) rfl (by decide) i_X12_word_12 (by decide) rfl (List.mem_of_getElem? (i := 3) (by decide +kernel)) rfl dX12_word_16 (fun v2 hh => ?_)
    refine rw_iconst E (v := 2) (by decide) dX12_word_19 ?_
    refine rw_icmp_ne E hh (tgt := 56) (by decide) dX12_word_20 (fun hh => ?_) (fun hh => ?_)
    · refine WH.pick [0, 1] rfl ?_
      exact w_X12_word_b56 E hrt hlk hh
    · refine rw_aload_n E (j0 := 0) rfl rfl dX12_word_23 ?_
      refine rw_getI E hh (C := RX12) (T := TX12) (N := 32) rfl (by decide) i_X12_word_12 (by decide) rfl (List.mem_of_getElem? (i := 2) (by decide +kernel)) rfl dX12_word_24 (fun v3 hh => ?_)
      refine rw_aload_n E (j0 := 0) rfl rfl dX12_word_27 ?_
      refine rw_getI E hh (C := RX12) (T := TX12) (N := 32) rfl (by decide) i_X12_word_12 (by decide) rfl (List.mem_of_getElem? (i := 1) (by decide +kernel)) rfl dX12_word_28 (fun v4 hh => ?_)
      refine rw_isub E dX12_word_31 ?_
      refine rw_bipush E (v := 8) (by decide) dX12_word_32 ?_
      refine rw_icmp_ge E hh (tgt := 56) (by decide) dX12_word_34 (fun hh => ?_) (fun hh => ?_)
      · refine WH.pick [0, 1] rfl ?_
        exact w_X12_word_b56 E hrt hlk hh
      · refine rw_lload_n E (j0 := 1) rfl rfl dX12_word_37 ?_
        refine rw_bipush E (v := 8) (by decide) dX12_word_38 ?_
        refine rw_lshl E dX12_word_40 ?_
        refine rw_aload_n E (j0 := 0) rfl rfl dX12_word_41 ?_
        refine rw_getP E hh (C := RX12) (T := TX12) (N := 32) rfl (by decide) i_X12_word_12 (by decide) rfl (List.mem_of_getElem? (i := 4) (by decide +kernel)) rfl dX12_word_42 (fun v5 hh => ?_)
        refine rw_iload_n E (j0 := 2) rfl rfl dX12_word_45 ?_
        refine rw_iald E hh dX12_word_46 (fun v6 hh => ?_)
        refine rw_i2l E dX12_word_47 ?_
        refine rw_lor E dX12_word_48 ?_
        refine rw_lstore_n E (lv2 := [(1, .long ((l1 <<< ((8 : Int32).toInt64 &&& 63)) ||| v6.toInt64)), (0, hrf b0 ((some h))), (3, .int l3)]) rfl (by decide) rfl dX12_word_49 ?_
        refine rw_iinc E (v := l3 + 1) (lv2 := [(3, .int (l3 + 1)), (1, .long ((l1 <<< ((8 : Int32).toInt64 &&& 63)) ||| v6.toInt64)), (0, hrf b0 ((some h)))]) (j0 := 2) rfl rfl (by decide) rfl dX12_word_50 ?_
        refine rw_goto E (tgt := 7) (by decide) dX12_word_53 ?_
        refine WH.pick [2, 1, 0] rfl ?_
        exact hj7 _ _ _ hh
def s_X12_word_L7 (h : Nat) : Nat → HS → Int64 → Int32 → Option (Int64 × HS)
  | 0 => fun _ _ _ => none
  | n + 1 => s_X12_word_b7 (s_X12_word_L7 h n) h
set_option maxHeartbeats 4000000 in
set_option maxRecDepth 100000 in
theorem w_X12_word_L7 {p : Program} {l : Launch} {e : Env} {s : State} {m : MethodId} {args : Array Value} {below : List Frame} {meth : Method} {c : Code} {b0 : Nat} {G : hG} {S1 : HS} {r : Int64} {h : Nat} (E : hE p s m args c b0 G cX12_word RX12 4 wsX12_word) (hrt : meth.sig.returnType = (some .long)) (hlk : meth.locks = false) : ∀ (n : Nat) (S : HS) (l1 : Int64) (l3 : Int32), s_X12_word_L7 h n S l1 l3 = some (r, S1) → WH p l e rm_X12_word s m args below meth c b0 G 4 0 0 (MQ below (hQ b0 G (some (.long r)) S1) args s 0 0 (hA b0)) S 7 [(0, hrf b0 ((some h))), (1, .long l1), (3, .int l3)] [] := by
  intro n
  induction n with
  | zero => intro _ _ _ hh; exact absurd hh (by simp [s_X12_word_L7])
  | succ n ih => intro _ _ _ hh; exact w_X12_word_b7 E hrt hlk  ih hh
def s_X12_word (S : HS) (h : Nat) : Option (Int64 × HS) := kI S ((some h)) 12 14 (fun v1 => s_X12_word_L7 h 100000 S 0 v1)
set_option maxHeartbeats 4000000 in
set_option maxRecDepth 100000 in
theorem c_X12_word (l : Launch) (b0 : Nat) (G : hG) (S S1 : HS) (h : Nat) (r : Int64) (hh : s_X12_word S h  = some (r, S1)) : MH l yX12_word wsX12_word rm_X12_word b0 G S [hrf b0 (some h)] (some (.long r)) S1 0 0 := by
  refine MH.ofW (cc := cX12_word) (maxL := 4) (ret := (some .long)) (own := RX12) (lv0 := [(0, hrf b0 ((some h)))]) (by decide) rfl rfl (Nat.le_of_ble_eq_true rfl) rfl ?_
  intro p e s m args below meth c E hrt hlk hnm
  have hh : (kI S ((some h)) 12 14 (fun v1 => s_X12_word_L7 h 100000 S 0 v1)) = some (r, S1) := hh
  refine rw_lconst E (v := 0) (by decide) dX12_word_0 ?_
  refine rw_lstore_n E (lv2 := [(1, .long 0), (0, hrf b0 ((some h)))]) rfl (by decide) rfl dX12_word_1 ?_
  refine rw_aload_n E (j0 := 1) rfl rfl dX12_word_2 ?_
  refine rw_getI E hh (C := RX12) (T := TX12) (N := 32) rfl (by decide) i_X12_word_12 (by decide) rfl (List.mem_of_getElem? (i := 1) (by decide +kernel)) rfl dX12_word_3 (fun v1 hh => ?_)
  refine rw_istore_n E (lv2 := [(3, .int v1), (1, .long 0), (0, hrf b0 ((some h)))]) rfl (by decide) rfl dX12_word_6 ?_
  refine WH.pick [2, 1, 0] rfl ?_
  exact w_X12_word_L7 E hrt hlk 100000 _ _ _ hh

/-! HummingDiscModel.number(II)I -/
abbrev rm_X12_number : Room := { frames := 4, cells := 0, slots := 0, locals := 89 }
theorem i_X12_number_12 : ∀ w ∈ wsX120, w ∈ wsX12_number := fun _ h => List.mem_cons_of_mem _ (List.mem_append_right _ (h))
def s_X12_number_b53 (h : Nat) (S : HS) (l3 : Int32) (k0 : Option Nat) (k1 : Int32) : Option (Int32 × HS) := kO S k0 12 (fun a2 => kcv (s_X12_must S a2 k1) (fun S1 => some (l3, S1)))
set_option maxHeartbeats 4000000 in
set_option maxRecDepth 100000 in
theorem w_X12_number_b53 {p : Program} {l : Launch} {e : Env} {s : State} {m : MethodId} {args : Array Value} {below : List Frame} {meth : Method} {c : Code} {b0 : Nat} {G : hG} {S1 : HS} {r : Int32} {h : Nat} {S : HS} {l3 : Int32} {k0 : Option Nat} {k1 : Int32} (E : hE p s m args c b0 G cX12_number RX12 4 wsX12_number) (hrt : meth.sig.returnType = (some .int)) (hlk : meth.locks = false) (hh : s_X12_number_b53 h S l3 k0 k1 = some (r, S1)) : WH p l e rm_X12_number s m args below meth c b0 G 4 0 0 (MQ below (hQ b0 G (some (.int r)) S1) args s 0 0 (hA b0)) S 53 [(3, .int l3)] [.int k1, hrf b0 k0] := by
  have hh : (kO S k0 12 (fun a2 => kcv (s_X12_must S a2 k1) (fun S1 => some (l3, S1)))) = some (r, S1) := hh
  refine rw_cVv E (As := [.int k1]) hh (by decide) rfl (fun _ _ hq => c_X12_must l b0 G _ _ _ _ hq) (cwV 1 E.2.2.2.2.1 gX12_number_X12_must rfl rfl rfl (by decide +kernel) ⟨Nat.le_of_ble_eq_true rfl, Nat.le_of_ble_eq_true rfl⟩) rfl rfl (by (try simp only [List.map_cons, List.map_nil, List.sum_cons, List.sum_nil, hrf_cat, cat_i, cat_l, cat_r]) <;> decide) ⟨Nat.le_of_ble_eq_true rfl, Nat.le_of_ble_eq_true rfl⟩ dX12_number_53 (fun S1 hh => ?_)
  refine rw_iload_n E (j0 := 0) rfl rfl dX12_number_56 ?_
  exact rw_iret E hrt hlk hh (by decide) (by decide) dX12_number_57
def s_X12_number_b39 (h : Nat) (S : HS) (l3 : Int32) : Option (Int32 × HS) := kI S ((some h)) 12 13 (fun v1 => if v1 = 3 then (s_X12_number_b53 h S l3 ((some h)) 1) else (s_X12_number_b53 h S l3 ((some h)) 0))
set_option maxHeartbeats 4000000 in
set_option maxRecDepth 100000 in
theorem w_X12_number_b39 {p : Program} {l : Launch} {e : Env} {s : State} {m : MethodId} {args : Array Value} {below : List Frame} {meth : Method} {c : Code} {b0 : Nat} {G : hG} {S1 : HS} {r : Int32} {h : Nat} {S : HS} {l3 : Int32} (E : hE p s m args c b0 G cX12_number RX12 4 wsX12_number) (hrt : meth.sig.returnType = (some .int)) (hlk : meth.locks = false) (hh : s_X12_number_b39 h S l3 = some (r, S1)) : WH p l e rm_X12_number s m args below meth c b0 G 4 0 0 (MQ below (hQ b0 G (some (.int r)) S1) args s 0 0 (hA b0)) S 39 [(0, hrf b0 ((some h))), (3, .int l3)] [] := by
  have hh : (kI S ((some h)) 12 13 (fun v1 => if v1 = 3 then (s_X12_number_b53 h S l3 ((some h)) 1) else (s_X12_number_b53 h S l3 ((some h)) 0))) = some (r, S1) := hh
  refine rw_aload_n E (j0 := 0) rfl rfl dX12_number_39 ?_
  refine rw_aload_n E (j0 := 0) rfl rfl dX12_number_40 ?_
  refine rw_getI E hh (C := RX12) (T := TX12) (N := 32) rfl (by decide) i_X12_number_12 (by decide) rfl (List.mem_of_getElem? (i := 3) (by decide +kernel)) rfl dX12_number_41 (fun v1 hh => ?_)
  refine rw_iconst E (v := 3) (by decide) dX12_number_44 ?_
  refine rw_icmp_ne E hh (tgt := 52) (by decide) dX12_number_45 (fun hh => ?_) (fun hh => ?_)
  · refine rw_iconst E (v := 0) (by decide) dX12_number_52 ?_
    refine WH.pick [1] rfl ?_
    exact w_X12_number_b53 E hrt hlk hh
  · refine rw_iconst E (v := 1) (by decide) dX12_number_48 ?_
    refine rw_goto E (tgt := 53) (by decide) dX12_number_49 ?_
    refine WH.pick [1] rfl ?_
    exact w_X12_number_b53 E hrt hlk hh
def s_X12_number (S : HS) (h : Nat) (l1 : Int32) (l2 : Int32) : Option (Int32 × HS) := kI S ((some h)) 12 17 (fun v1 => if v1 ≤ 0 then (kI S ((some h)) 12 16 (fun v2 => kI S ((some h)) 12 13 (fun v3 => if v3 = 3 then (kc (s_X12_in S v2.toInt64 l1.toInt64 l2.toInt64) (fun v5 S4 => if v5 = 0 then (kO S4 ((some h)) 12 (fun a7 => kcv (s_X12_bad S4 a7 2) (fun S6 => s_X12_number_b39 h S6 v2))) else (s_X12_number_b39 h S4 v2))) else (s_X12_number_b39 h S v2)))) else (some (0, S)))
set_option maxHeartbeats 4000000 in
set_option maxRecDepth 100000 in
theorem c_X12_number (l : Launch) (b0 : Nat) (G : hG) (S S1 : HS) (h : Nat) (l1 : Int32) (l2 : Int32) (r : Int32) (hh : s_X12_number S h l1 l2 = some (r, S1)) : MH l yX12_number wsX12_number rm_X12_number b0 G S [hrf b0 (some h), .int l1, .int l2] (some (.int r)) S1 0 0 := by
  refine MH.ofW (cc := cX12_number) (maxL := 4) (ret := (some .int)) (own := RX12) (lv0 := [(0, hrf b0 ((some h))), (1, .int l1), (2, .int l2)]) (by decide) rfl rfl (Nat.le_of_ble_eq_true rfl) rfl ?_
  intro p e s m args below meth c E hrt hlk hnm
  have hh : (kI S ((some h)) 12 17 (fun v1 => if v1 ≤ 0 then (kI S ((some h)) 12 16 (fun v2 => kI S ((some h)) 12 13 (fun v3 => if v3 = 3 then (kc (s_X12_in S v2.toInt64 l1.toInt64 l2.toInt64) (fun v5 S4 => if v5 = 0 then (kO S4 ((some h)) 12 (fun a7 => kcv (s_X12_bad S4 a7 2) (fun S6 => s_X12_number_b39 h S6 v2))) else (s_X12_number_b39 h S4 v2))) else (s_X12_number_b39 h S v2)))) else (some (0, S)))) = some (r, S1) := hh
  refine rw_aload_n E (j0 := 0) rfl rfl dX12_number_0 ?_
  refine rw_getI E hh (C := RX12) (T := TX12) (N := 32) rfl (by decide) i_X12_number_12 (by decide) rfl (List.mem_of_getElem? (i := 1) (by decide +kernel)) rfl dX12_number_1 (fun v1 hh => ?_)
  refine rw_if_le E hh (tgt := 9) (by decide) dX12_number_4 (fun hh => ?_) (fun hh => ?_)
  · refine rw_aload_n E (j0 := 0) rfl rfl dX12_number_9 ?_
    refine rw_getI E hh (C := RX12) (T := TX12) (N := 32) rfl (by decide) i_X12_number_12 (by decide) rfl (List.mem_of_getElem? (i := 2) (by decide +kernel)) rfl dX12_number_10 (fun v2 hh => ?_)
    refine rw_istore_n E (lv2 := [(3, .int v2), (0, hrf b0 ((some h))), (1, .int l1), (2, .int l2)]) rfl (by decide) rfl dX12_number_13 ?_
    refine rw_aload_n E (j0 := 1) rfl rfl dX12_number_14 ?_
    refine rw_getI E hh (C := RX12) (T := TX12) (N := 32) rfl (by decide) i_X12_number_12 (by decide) rfl (List.mem_of_getElem? (i := 3) (by decide +kernel)) rfl dX12_number_15 (fun v3 hh => ?_)
    refine rw_iconst E (v := 3) (by decide) dX12_number_18 ?_
    refine rw_icmp_ne E hh (tgt := 39) (by decide) dX12_number_19 (fun hh => ?_) (fun hh => ?_)
    · refine WH.pick [1, 0] rfl ?_
      exact w_X12_number_b39 E hrt hlk hh
    · refine rw_iload_n E (j0 := 0) rfl rfl dX12_number_22 ?_
      refine rw_i2l E dX12_number_23 ?_
      refine rw_iload_n E (j0 := 2) rfl rfl dX12_number_24 ?_
      refine rw_i2l E dX12_number_25 ?_
      refine rw_iload_n E (j0 := 3) rfl rfl dX12_number_26 ?_
      refine rw_i2l E dX12_number_27 ?_
      refine rw_cSi E (As := [.long v2.toInt64, .long l1.toInt64, .long l2.toInt64]) hh (fun _ _ hq => c_X12_in l b0 G _ _ _ _ _ _ hq) (va_cwS 3 E.2.2.2.2.1 gX12_number_X12_in rfl rfl rfl (by decide +kernel) ⟨Nat.le_of_ble_eq_true rfl, Nat.le_of_ble_eq_true rfl⟩) rfl rfl (by (try simp only [List.map_cons, List.map_nil, List.sum_cons, List.sum_nil, hrf_cat, cat_i, cat_l, cat_r]) <;> decide) ⟨Nat.le_of_ble_eq_true rfl, Nat.le_of_ble_eq_true rfl⟩ dX12_number_28 (fun v5 S4 hh => ?_)
      refine rw_if_ne E hh (tgt := 39) (by decide) dX12_number_31 (fun hh => ?_) (fun hh => ?_)
      · refine WH.pick [1, 0] rfl ?_
        exact w_X12_number_b39 E hrt hlk hh
      · refine rw_aload_n E (j0 := 1) rfl rfl dX12_number_34 ?_
        refine rw_iconst E (v := 2) (by decide) dX12_number_35 ?_
        refine rw_cVv E (As := [.int 2]) hh (by decide) rfl (fun _ _ hq => c_X12_bad l b0 G _ _ _ _ hq) (cwV 1 E.2.2.2.2.1 gX12_number_X12_bad rfl rfl rfl (by decide +kernel) ⟨Nat.le_of_ble_eq_true rfl, Nat.le_of_ble_eq_true rfl⟩) rfl rfl (by (try simp only [List.map_cons, List.map_nil, List.sum_cons, List.sum_nil, hrf_cat, cat_i, cat_l, cat_r]) <;> decide) ⟨Nat.le_of_ble_eq_true rfl, Nat.le_of_ble_eq_true rfl⟩ dX12_number_36 (fun S6 hh => ?_)
        refine WH.pick [1, 0] rfl ?_
        exact w_X12_number_b39 E hrt hlk hh
  · refine rw_iconst E (v := 0) (by decide) dX12_number_7 ?_
    exact rw_iret E hrt hlk hh (by decide) (by decide) dX12_number_8

/-! HummingDiscModel.mustWord(J)V -/
abbrev rm_X12_mustWord : Room := { frames := 4, cells := 0, slots := 0, locals := 89 }
theorem i_X12_mustWord_12 : ∀ w ∈ wsX120, w ∈ wsX12_mustWord := fun _ h => List.mem_cons_of_mem _ (List.mem_append_right _ (h))
def s_X12_mustWord_b22 (h : Nat) (S : HS) (k0 : Option Nat) (k1 : Int32) : Option (HS) := kO S k0 12 (fun a2 => kcv (s_X12_must S a2 k1) (fun S1 => some S1))
set_option maxHeartbeats 4000000 in
set_option maxRecDepth 100000 in
theorem w_X12_mustWord_b22 {p : Program} {l : Launch} {e : Env} {s : State} {m : MethodId} {args : Array Value} {below : List Frame} {meth : Method} {c : Code} {b0 : Nat} {G : hG} {S1 : HS} {h : Nat} {S : HS} {k0 : Option Nat} {k1 : Int32} (E : hE p s m args c b0 G cX12_mustWord RX12 3 wsX12_mustWord) (hrt : meth.sig.returnType = none) (hlk : meth.locks = false) (hh : s_X12_mustWord_b22 h S k0 k1 = some S1) : WH p l e rm_X12_mustWord s m args below meth c b0 G 3 0 0 (MQ below (hQ b0 G none S1) args s 0 0 (hA b0)) S 22 [] [.int k1, hrf b0 k0] := by
  have hh : (kO S k0 12 (fun a2 => kcv (s_X12_must S a2 k1) (fun S1 => some S1))) = some S1 := hh
  refine rw_cVv E (As := [.int k1]) hh (by decide) rfl (fun _ _ hq => c_X12_must l b0 G _ _ _ _ hq) (cwV 1 E.2.2.2.2.1 gX12_mustWord_X12_must rfl rfl rfl (by decide +kernel) ⟨Nat.le_of_ble_eq_true rfl, Nat.le_of_ble_eq_true rfl⟩) rfl rfl (by (try simp only [List.map_cons, List.map_nil, List.sum_cons, List.sum_nil, hrf_cat, cat_i, cat_l, cat_r]) <;> decide) ⟨Nat.le_of_ble_eq_true rfl, Nat.le_of_ble_eq_true rfl⟩ dX12_mustWord_22 (fun S1 hh => ?_)
  exact rw_vret E hrt hlk hh (by decide) (by decide) dX12_mustWord_25
def s_X12_mustWord (S : HS) (h : Nat) (l1 : Int64) : Option (HS) := kI S ((some h)) 12 17 (fun v1 => if v1 = 0 then (kO S ((some h)) 12 (fun a4 => kc (s_X12_word S a4 ) (fun v3 S2 => if v3 = l1 then (s_X12_mustWord_b22 h S2 ((some h)) 1) else (s_X12_mustWord_b22 h S2 ((some h)) 0)))) else (some S))
set_option maxHeartbeats 4000000 in
set_option maxRecDepth 100000 in
theorem c_X12_mustWord (l : Launch) (b0 : Nat) (G : hG) (S S1 : HS) (h : Nat) (l1 : Int64) (hh : s_X12_mustWord S h l1 = some S1) : MH l yX12_mustWord wsX12_mustWord rm_X12_mustWord b0 G S [hrf b0 (some h), .long l1] none S1 0 0 := by
  refine MH.ofW (cc := cX12_mustWord) (maxL := 3) (ret := none) (own := RX12) (lv0 := [(0, hrf b0 ((some h))), (1, .long l1)]) (by decide) rfl rfl (Nat.le_of_ble_eq_true rfl) rfl ?_
  intro p e s m args below meth c E hrt hlk hnm
  have hh : (kI S ((some h)) 12 17 (fun v1 => if v1 = 0 then (kO S ((some h)) 12 (fun a4 => kc (s_X12_word S a4 ) (fun v3 S2 => if v3 = l1 then (s_X12_mustWord_b22 h S2 ((some h)) 1) else (s_X12_mustWord_b22 h S2 ((some h)) 0)))) else (some S))) = some S1 := hh
  refine rw_aload_n E (j0 := 0) rfl rfl dX12_mustWord_0 ?_
  refine rw_getI E hh (C := RX12) (T := TX12) (N := 32) rfl (by decide) i_X12_mustWord_12 (by decide) rfl (List.mem_of_getElem? (i := 1) (by decide +kernel)) rfl dX12_mustWord_1 (fun v1 hh => ?_)
  refine rw_if_ne E hh (tgt := 25) (by decide) dX12_mustWord_4 (fun hh => ?_) (fun hh => ?_)
  · exact rw_vret E hrt hlk hh (by decide) (by decide) dX12_mustWord_25
  · refine rw_aload_n E (j0 := 0) rfl rfl dX12_mustWord_7 ?_
    refine rw_aload_n E (j0 := 0) rfl rfl dX12_mustWord_8 ?_
    refine rw_cVl E (As := []) hh (by decide) rfl (fun _ _ _ hq => c_X12_word l b0 G _ _ _ _ hq) (cwV 0 E.2.2.2.2.1 gX12_mustWord_X12_word rfl rfl rfl (by decide +kernel) ⟨Nat.le_of_ble_eq_true rfl, Nat.le_of_ble_eq_true rfl⟩) rfl rfl (by (try simp only [List.map_cons, List.map_nil, List.sum_cons, List.sum_nil, hrf_cat, cat_i, cat_l, cat_r]) <;> decide) ⟨Nat.le_of_ble_eq_true rfl, Nat.le_of_ble_eq_true rfl⟩ dX12_mustWord_9 (fun v3 S2 hh => ?_)
    refine rw_lload_n E (j0 := 1) rfl rfl dX12_mustWord_12 ?_
    refine rw_lne E hh (tgt := 21) (by decide) dX12_mustWord_13 dX12_mustWord_14 (fun hh => ?_) (fun hh => ?_)
    · refine rw_iconst E (v := 0) (by decide) dX12_mustWord_21 ?_
      refine WH.pick [] rfl ?_
      exact w_X12_mustWord_b22 E hrt hlk hh
    · refine rw_iconst E (v := 1) (by decide) dX12_mustWord_17 ?_
      refine rw_goto E (tgt := 22) (by decide) dX12_mustWord_18 ?_
      refine WH.pick [] rfl ?_
      exact w_X12_mustWord_b22 E hrt hlk hh

/-! HummingDiscModel.mustEnd()V -/
abbrev rm_X12_mustEnd : Room := { frames := 4, cells := 0, slots := 0, locals := 89 }
theorem i_X12_mustEnd_12 : ∀ w ∈ wsX120, w ∈ wsX12_mustEnd := fun _ h => List.mem_cons_of_mem _ (List.mem_append_right _ (h))
def s_X12_mustEnd_b21 (h : Nat) (S : HS) (k0 : Option Nat) (k1 : Int32) : Option (HS) := kO S k0 12 (fun a2 => kcv (s_X12_must S a2 k1) (fun S1 => some S1))
set_option maxHeartbeats 4000000 in
set_option maxRecDepth 100000 in
theorem w_X12_mustEnd_b21 {p : Program} {l : Launch} {e : Env} {s : State} {m : MethodId} {args : Array Value} {below : List Frame} {meth : Method} {c : Code} {b0 : Nat} {G : hG} {S1 : HS} {h : Nat} {S : HS} {k0 : Option Nat} {k1 : Int32} (E : hE p s m args c b0 G cX12_mustEnd RX12 1 wsX12_mustEnd) (hrt : meth.sig.returnType = none) (hlk : meth.locks = false) (hh : s_X12_mustEnd_b21 h S k0 k1 = some S1) : WH p l e rm_X12_mustEnd s m args below meth c b0 G 1 0 0 (MQ below (hQ b0 G none S1) args s 0 0 (hA b0)) S 21 [] [.int k1, hrf b0 k0] := by
  have hh : (kO S k0 12 (fun a2 => kcv (s_X12_must S a2 k1) (fun S1 => some S1))) = some S1 := hh
  refine rw_cVv E (As := [.int k1]) hh (by decide) rfl (fun _ _ hq => c_X12_must l b0 G _ _ _ _ hq) (cwV 1 E.2.2.2.2.1 gX12_mustEnd_X12_must rfl rfl rfl (by decide +kernel) ⟨Nat.le_of_ble_eq_true rfl, Nat.le_of_ble_eq_true rfl⟩) rfl rfl (by (try simp only [List.map_cons, List.map_nil, List.sum_cons, List.sum_nil, hrf_cat, cat_i, cat_l, cat_r]) <;> decide) ⟨Nat.le_of_ble_eq_true rfl, Nat.le_of_ble_eq_true rfl⟩ dX12_mustEnd_21 (fun S1 hh => ?_)
  exact rw_vret E hrt hlk hh (by decide) (by decide) dX12_mustEnd_24
def s_X12_mustEnd (S : HS) (h : Nat) : Option (HS) := kI S ((some h)) 12 17 (fun v1 => if v1 = 0 then (kI S ((some h)) 12 13 (fun v2 => if v2 = 4 then (s_X12_mustEnd_b21 h S ((some h)) 1) else (s_X12_mustEnd_b21 h S ((some h)) 0))) else (some S))
set_option maxHeartbeats 4000000 in
set_option maxRecDepth 100000 in
theorem c_X12_mustEnd (l : Launch) (b0 : Nat) (G : hG) (S S1 : HS) (h : Nat) (hh : s_X12_mustEnd S h  = some S1) : MH l yX12_mustEnd wsX12_mustEnd rm_X12_mustEnd b0 G S [hrf b0 (some h)] none S1 0 0 := by
  refine MH.ofW (cc := cX12_mustEnd) (maxL := 1) (ret := none) (own := RX12) (lv0 := [(0, hrf b0 ((some h)))]) (by decide) rfl rfl (Nat.le_of_ble_eq_true rfl) rfl ?_
  intro p e s m args below meth c E hrt hlk hnm
  have hh : (kI S ((some h)) 12 17 (fun v1 => if v1 = 0 then (kI S ((some h)) 12 13 (fun v2 => if v2 = 4 then (s_X12_mustEnd_b21 h S ((some h)) 1) else (s_X12_mustEnd_b21 h S ((some h)) 0))) else (some S))) = some S1 := hh
  refine rw_aload_n E (j0 := 0) rfl rfl dX12_mustEnd_0 ?_
  refine rw_getI E hh (C := RX12) (T := TX12) (N := 32) rfl (by decide) i_X12_mustEnd_12 (by decide) rfl (List.mem_of_getElem? (i := 1) (by decide +kernel)) rfl dX12_mustEnd_1 (fun v1 hh => ?_)
  refine rw_if_ne E hh (tgt := 24) (by decide) dX12_mustEnd_4 (fun hh => ?_) (fun hh => ?_)
  · exact rw_vret E hrt hlk hh (by decide) (by decide) dX12_mustEnd_24
  · refine rw_aload_n E (j0 := 0) rfl rfl dX12_mustEnd_7 ?_
    refine rw_aload_n E (j0 := 0) rfl rfl dX12_mustEnd_8 ?_
    refine rw_getI E hh (C := RX12) (T := TX12) (N := 32) rfl (by decide) i_X12_mustEnd_12 (by decide) rfl (List.mem_of_getElem? (i := 2) (by decide +kernel)) rfl dX12_mustEnd_9 (fun v2 hh => ?_)
    refine rw_iconst E (v := 4) (by decide) dX12_mustEnd_12 ?_
    refine rw_icmp_ne E hh (tgt := 20) (by decide) dX12_mustEnd_13 (fun hh => ?_) (fun hh => ?_)
    · refine rw_iconst E (v := 0) (by decide) dX12_mustEnd_20 ?_
      refine WH.pick [] rfl ?_
      exact w_X12_mustEnd_b21 E hrt hlk hh
    · refine rw_iconst E (v := 1) (by decide) dX12_mustEnd_16 ?_
      refine rw_goto E (tgt := 21) (by decide) dX12_mustEnd_17 ?_
      refine WH.pick [] rfl ?_
      exact w_X12_mustEnd_b21 E hrt hlk hh

/-! HummingDiscModel.whatOf(J)I -/
abbrev rm_X12_whatOf : Room := { frames := 0, cells := 0, slots := 0, locals := 0 }
def s_X12_whatOf (S : HS) (l0 : Int64) : Option (Int32 × HS) := if l0 = 512971075172 then (some (0, S)) else (if l0 = 1885430629 then (some (1, S)) else (if l0 = 1734964837 then (some (2, S)) else (if l0 = 1953063787 then (some (3, S)) else (some ((-1000000), S)))))
set_option maxHeartbeats 4000000 in
set_option maxRecDepth 100000 in
theorem c_X12_whatOf (l : Launch) (b0 : Nat) (G : hG) (S S1 : HS) (l0 : Int64) (r : Int32) (hh : s_X12_whatOf S l0 = some (r, S1)) : MH l yX12_whatOf wsX12_whatOf rm_X12_whatOf b0 G S [.long l0] (some (.int r)) S1 0 0 := by
  refine MH.ofW (cc := cX12_whatOf) (maxL := 2) (ret := (some .int)) (own := RX12) (lv0 := [(0, .long l0)]) (by decide) rfl rfl (Nat.le_of_ble_eq_true rfl) rfl ?_
  intro p e s m args below meth c E hrt hlk hnm
  have hh : (if l0 = 512971075172 then (some (0, S)) else (if l0 = 1885430629 then (some (1, S)) else (if l0 = 1734964837 then (some (2, S)) else (if l0 = 1953063787 then (some (3, S)) else (some ((-1000000), S)))))) = some (r, S1) := hh
  refine rw_lload_n E (j0 := 0) rfl rfl dX12_whatOf_0 ?_
  refine rw_ldc2 E (v := 512971075172) (List.mem_of_getElem? (i := 1) (by decide +kernel)) dX12_whatOf_1 ?_
  refine rw_lne E hh (tgt := 12) (by decide) dX12_whatOf_4 dX12_whatOf_5 (fun hh => ?_) (fun hh => ?_)
  · refine rw_lload_n E (j0 := 0) rfl rfl dX12_whatOf_12 ?_
    refine rw_ldc2 E (v := 1885430629) (List.mem_of_getElem? (i := 2) (by decide +kernel)) dX12_whatOf_13 ?_
    refine rw_lne E hh (tgt := 24) (by decide) dX12_whatOf_16 dX12_whatOf_17 (fun hh => ?_) (fun hh => ?_)
    · refine rw_lload_n E (j0 := 0) rfl rfl dX12_whatOf_24 ?_
      refine rw_ldc2 E (v := 1734964837) (List.mem_of_getElem? (i := 3) (by decide +kernel)) dX12_whatOf_25 ?_
      refine rw_lne E hh (tgt := 36) (by decide) dX12_whatOf_28 dX12_whatOf_29 (fun hh => ?_) (fun hh => ?_)
      · refine rw_lload_n E (j0 := 0) rfl rfl dX12_whatOf_36 ?_
        refine rw_ldc2 E (v := 1953063787) (List.mem_of_getElem? (i := 4) (by decide +kernel)) dX12_whatOf_37 ?_
        refine rw_lne E hh (tgt := 48) (by decide) dX12_whatOf_40 dX12_whatOf_41 (fun hh => ?_) (fun hh => ?_)
        · refine rw_ldc E (v := (-1000000)) (List.mem_of_getElem? (i := 5) (by decide +kernel)) dX12_whatOf_48 ?_
          exact rw_iret E hrt hlk hh (by decide) (by decide) dX12_whatOf_50
        · refine rw_iconst E (v := 3) (by decide) dX12_whatOf_44 ?_
          refine rw_goto E (tgt := 50) (by decide) dX12_whatOf_45 ?_
          exact rw_iret E hrt hlk hh (by decide) (by decide) dX12_whatOf_50
      · refine rw_iconst E (v := 2) (by decide) dX12_whatOf_32 ?_
        refine rw_goto E (tgt := 50) (by decide) dX12_whatOf_33 ?_
        exact rw_iret E hrt hlk hh (by decide) (by decide) dX12_whatOf_50
    · refine rw_iconst E (v := 1) (by decide) dX12_whatOf_20 ?_
      refine rw_goto E (tgt := 50) (by decide) dX12_whatOf_21 ?_
      exact rw_iret E hrt hlk hh (by decide) (by decide) dX12_whatOf_50
  · refine rw_iconst E (v := 0) (by decide) dX12_whatOf_8 ?_
    refine rw_goto E (tgt := 50) (by decide) dX12_whatOf_9 ?_
    exact rw_iret E hrt hlk hh (by decide) (by decide) dX12_whatOf_50

/-! HummingDiscModel.begins(I)V -/
abbrev rm_X12_begins : Room := { frames := 4, cells := 0, slots := 0, locals := 89 }
theorem i_X12_begins_12 : ∀ w ∈ wsX120, w ∈ wsX12_begins := fun _ h => List.mem_cons_of_mem _ (List.mem_append_right _ (h))
def s_X12_begins_b15 (h : Nat) (S : HS) : Option (HS) := kO S ((some h)) 12 (fun a2 => kcv (s_X12_must S a2 1) (fun S1 => some S1))
set_option maxHeartbeats 4000000 in
set_option maxRecDepth 100000 in
theorem w_X12_begins_b15 {p : Program} {l : Launch} {e : Env} {s : State} {m : MethodId} {args : Array Value} {below : List Frame} {meth : Method} {c : Code} {b0 : Nat} {G : hG} {S1 : HS} {h : Nat} {S : HS} (E : hE p s m args c b0 G cX12_begins RX12 2 wsX12_begins) (hrt : meth.sig.returnType = none) (hlk : meth.locks = false) (hh : s_X12_begins_b15 h S = some S1) : WH p l e rm_X12_begins s m args below meth c b0 G 2 0 0 (MQ below (hQ b0 G none S1) args s 0 0 (hA b0)) S 15 [(0, hrf b0 ((some h)))] [] := by
  have hh : (kO S ((some h)) 12 (fun a2 => kcv (s_X12_must S a2 1) (fun S1 => some S1))) = some S1 := hh
  refine rw_aload_n E (j0 := 0) rfl rfl dX12_begins_15 ?_
  refine rw_iconst E (v := 1) (by decide) dX12_begins_16 ?_
  refine rw_cVv E (As := [.int 1]) hh (by decide) rfl (fun _ _ hq => c_X12_must l b0 G _ _ _ _ hq) (cwV 1 E.2.2.2.2.1 gX12_begins_X12_must rfl rfl rfl (by decide +kernel) ⟨Nat.le_of_ble_eq_true rfl, Nat.le_of_ble_eq_true rfl⟩) rfl rfl (by (try simp only [List.map_cons, List.map_nil, List.sum_cons, List.sum_nil, hrf_cat, cat_i, cat_l, cat_r]) <;> decide) ⟨Nat.le_of_ble_eq_true rfl, Nat.le_of_ble_eq_true rfl⟩ dX12_begins_17 (fun S1 hh => ?_)
  exact rw_vret E hrt hlk hh (by decide) (by decide) dX12_begins_20
def s_X12_begins (S : HS) (h : Nat) (l1 : Int32) : Option (HS) := kP S ((some h)) 12 6 (fun v1 => kA S v1 14 l1 (fun v2 => if v2 = 4 then (kO S ((some h)) 12 (fun a4 => kcv (s_X12_bad S a4 3) (fun S3 => s_X12_begins_b15 h S3))) else (s_X12_begins_b15 h S)))
set_option maxHeartbeats 4000000 in
set_option maxRecDepth 100000 in
theorem c_X12_begins (l : Launch) (b0 : Nat) (G : hG) (S S1 : HS) (h : Nat) (l1 : Int32) (hh : s_X12_begins S h l1 = some S1) : MH l yX12_begins wsX12_begins rm_X12_begins b0 G S [hrf b0 (some h), .int l1] none S1 0 0 := by
  refine MH.ofW (cc := cX12_begins) (maxL := 2) (ret := none) (own := RX12) (lv0 := [(0, hrf b0 ((some h))), (1, .int l1)]) (by decide) rfl rfl (Nat.le_of_ble_eq_true rfl) rfl ?_
  intro p e s m args below meth c E hrt hlk hnm
  have hh : (kP S ((some h)) 12 6 (fun v1 => kA S v1 14 l1 (fun v2 => if v2 = 4 then (kO S ((some h)) 12 (fun a4 => kcv (s_X12_bad S a4 3) (fun S3 => s_X12_begins_b15 h S3))) else (s_X12_begins_b15 h S)))) = some S1 := hh
  refine rw_aload_n E (j0 := 0) rfl rfl dX12_begins_0 ?_
  refine rw_getP E hh (C := RX12) (T := TX12) (N := 32) rfl (by decide) i_X12_begins_12 (by decide) rfl (List.mem_of_getElem? (i := 1) (by decide +kernel)) rfl dX12_begins_1 (fun v1 hh => ?_)
  refine rw_iload_n E (j0 := 1) rfl rfl dX12_begins_4 ?_
  refine rw_iald E hh dX12_begins_5 (fun v2 hh => ?_)
  refine rw_iconst E (v := 4) (by decide) dX12_begins_6 ?_
  refine rw_icmp_ne E hh (tgt := 15) (by decide) dX12_begins_7 (fun hh => ?_) (fun hh => ?_)
  · refine WH.pick [0] rfl ?_
    exact w_X12_begins_b15 E hrt hlk hh
  · refine rw_aload_n E (j0 := 0) rfl rfl dX12_begins_10 ?_
    refine rw_iconst E (v := 3) (by decide) dX12_begins_11 ?_
    refine rw_cVv E (As := [.int 3]) hh (by decide) rfl (fun _ _ hq => c_X12_bad l b0 G _ _ _ _ hq) (cwV 1 E.2.2.2.2.1 gX12_begins_X12_bad rfl rfl rfl (by decide +kernel) ⟨Nat.le_of_ble_eq_true rfl, Nat.le_of_ble_eq_true rfl⟩) rfl rfl (by (try simp only [List.map_cons, List.map_nil, List.sum_cons, List.sum_nil, hrf_cat, cat_i, cat_l, cat_r]) <;> decide) ⟨Nat.le_of_ble_eq_true rfl, Nat.le_of_ble_eq_true rfl⟩ dX12_begins_12 (fun S3 hh => ?_)
    refine WH.pick [0] rfl ?_
    exact w_X12_begins_b15 E hrt hlk hh

/-! HummingDiscModel.readDisc()V -/
abbrev rm_X12_readDisc : Room := { frames := 5, cells := 0, slots := 0, locals := 112 }
theorem i_X12_readDisc_12 : ∀ w ∈ wsX120, w ∈ wsX12_readDisc := fun _ h => List.mem_cons_of_mem _ (List.mem_append_right _ (h))
def s_X12_readDisc (S : HS) (h : Nat) : Option (HS) := kO S ((some h)) 12 (fun a2 => kcv (s_X12_begins S a2 0) (fun S1 => kP S1 ((some h)) 12 6 (fun v3 => kA S1 v3 14 0 (fun v4 => kO S1 ((some h)) 12 (fun a7 => kc (s_X12_number S1 a7 1 999) (fun v6 S5 => kO S5 ((some h)) 12 (fun a10 => kc (s_X12_number S5 a10 0 99) (fun v9 S8 => kO S8 ((some h)) 12 (fun a13 => kc (s_X12_number S8 a13 1 60) (fun v12 S11 => kO S11 ((some h)) 12 (fun a15 => kcv (s_X12_mustEnd S11 a15 ) (fun S14 => kI S14 ((some h)) 12 17 (fun v16 => if v16 = 0 then (kP S14 ((some h)) 12 6 (fun v17 => kwA S14 v17 14 (3 + (3 * v4)) v6 (fun S18 => kP S18 ((some h)) 12 6 (fun v19 => kwA S18 v19 14 ((3 + (3 * v4)) + 1) v9 (fun S20 => kP S20 ((some h)) 12 6 (fun v21 => kwA S20 v21 14 ((3 + (3 * v4)) + 2) v12 (fun S22 => kP S22 ((some h)) 12 6 (fun v23 => kA S22 v23 14 0 (fun v24 => kwA S22 v23 14 0 (v24 + 1) (fun S25 => some S25)))))))))) else (some S14))))))))))))))
set_option maxHeartbeats 4000000 in
set_option maxRecDepth 100000 in
theorem c_X12_readDisc (l : Launch) (b0 : Nat) (G : hG) (S S1 : HS) (h : Nat) (hh : s_X12_readDisc S h  = some S1) : MH l yX12_readDisc wsX12_readDisc rm_X12_readDisc b0 G S [hrf b0 (some h)] none S1 0 0 := by
  refine MH.ofW (cc := cX12_readDisc) (maxL := 5) (ret := none) (own := RX12) (lv0 := [(0, hrf b0 ((some h)))]) (by decide) rfl rfl (Nat.le_of_ble_eq_true rfl) rfl ?_
  intro p e s m args below meth c E hrt hlk hnm
  have hh : (kO S ((some h)) 12 (fun a2 => kcv (s_X12_begins S a2 0) (fun S1 => kP S1 ((some h)) 12 6 (fun v3 => kA S1 v3 14 0 (fun v4 => kO S1 ((some h)) 12 (fun a7 => kc (s_X12_number S1 a7 1 999) (fun v6 S5 => kO S5 ((some h)) 12 (fun a10 => kc (s_X12_number S5 a10 0 99) (fun v9 S8 => kO S8 ((some h)) 12 (fun a13 => kc (s_X12_number S8 a13 1 60) (fun v12 S11 => kO S11 ((some h)) 12 (fun a15 => kcv (s_X12_mustEnd S11 a15 ) (fun S14 => kI S14 ((some h)) 12 17 (fun v16 => if v16 = 0 then (kP S14 ((some h)) 12 6 (fun v17 => kwA S14 v17 14 (3 + (3 * v4)) v6 (fun S18 => kP S18 ((some h)) 12 6 (fun v19 => kwA S18 v19 14 ((3 + (3 * v4)) + 1) v9 (fun S20 => kP S20 ((some h)) 12 6 (fun v21 => kwA S20 v21 14 ((3 + (3 * v4)) + 2) v12 (fun S22 => kP S22 ((some h)) 12 6 (fun v23 => kA S22 v23 14 0 (fun v24 => kwA S22 v23 14 0 (v24 + 1) (fun S25 => some S25)))))))))) else (some S14))))))))))))))) = some S1 := hh
  refine rw_aload_n E (j0 := 0) rfl rfl dX12_readDisc_0 ?_
  refine rw_iconst E (v := 0) (by decide) dX12_readDisc_1 ?_
  refine rw_cVv E (As := [.int 0]) hh (by decide) rfl (fun _ _ hq => c_X12_begins l b0 G _ _ _ _ hq) (cwV 1 E.2.2.2.2.1 gX12_readDisc_X12_begins rfl rfl rfl (by decide +kernel) ⟨Nat.le_of_ble_eq_true rfl, Nat.le_of_ble_eq_true rfl⟩) rfl rfl (by (try simp only [List.map_cons, List.map_nil, List.sum_cons, List.sum_nil, hrf_cat, cat_i, cat_l, cat_r]) <;> decide) ⟨Nat.le_of_ble_eq_true rfl, Nat.le_of_ble_eq_true rfl⟩ dX12_readDisc_2 (fun S1 hh => ?_)
  refine rw_iconst E (v := 3) (by decide) dX12_readDisc_5 ?_
  refine rw_iconst E (v := 3) (by decide) dX12_readDisc_6 ?_
  refine rw_aload_n E (j0 := 0) rfl rfl dX12_readDisc_7 ?_
  refine rw_getP E hh (C := RX12) (T := TX12) (N := 32) rfl (by decide) i_X12_readDisc_12 (by decide) rfl (List.mem_of_getElem? (i := 1) (by decide +kernel)) rfl dX12_readDisc_8 (fun v3 hh => ?_)
  refine rw_iconst E (v := 0) (by decide) dX12_readDisc_11 ?_
  refine rw_iald E hh dX12_readDisc_12 (fun v4 hh => ?_)
  refine rw_imul E dX12_readDisc_13 ?_
  refine rw_iadd E dX12_readDisc_14 ?_
  refine rw_istore_n E (lv2 := [(1, .int (3 + (3 * v4))), (0, hrf b0 ((some h)))]) rfl (by decide) rfl dX12_readDisc_15 ?_
  refine rw_aload_n E (j0 := 1) rfl rfl dX12_readDisc_16 ?_
  refine rw_iconst E (v := 1) (by decide) dX12_readDisc_17 ?_
  refine rw_sipush E (v := 999) (by decide) dX12_readDisc_18 ?_
  refine rw_cVi E (As := [.int 1, .int 999]) hh (by decide) rfl (fun _ _ _ hq => c_X12_number l b0 G _ _ _ _ _ _ hq) (cwV 2 E.2.2.2.2.1 gX12_readDisc_X12_number rfl rfl rfl (by decide +kernel) ⟨Nat.le_of_ble_eq_true rfl, Nat.le_of_ble_eq_true rfl⟩) rfl rfl (by (try simp only [List.map_cons, List.map_nil, List.sum_cons, List.sum_nil, hrf_cat, cat_i, cat_l, cat_r]) <;> decide) ⟨Nat.le_of_ble_eq_true rfl, Nat.le_of_ble_eq_true rfl⟩ dX12_readDisc_21 (fun v6 S5 hh => ?_)
  refine rw_istore_n E (lv2 := [(2, .int v6), (1, .int (3 + (3 * v4))), (0, hrf b0 ((some h)))]) rfl (by decide) rfl dX12_readDisc_24 ?_
  refine rw_aload_n E (j0 := 2) rfl rfl dX12_readDisc_25 ?_
  refine rw_iconst E (v := 0) (by decide) dX12_readDisc_26 ?_
  refine rw_bipush E (v := 99) (by decide) dX12_readDisc_27 ?_
  refine rw_cVi E (As := [.int 0, .int 99]) hh (by decide) rfl (fun _ _ _ hq => c_X12_number l b0 G _ _ _ _ _ _ hq) (cwV 2 E.2.2.2.2.1 gX12_readDisc_X12_number rfl rfl rfl (by decide +kernel) ⟨Nat.le_of_ble_eq_true rfl, Nat.le_of_ble_eq_true rfl⟩) rfl rfl (by (try simp only [List.map_cons, List.map_nil, List.sum_cons, List.sum_nil, hrf_cat, cat_i, cat_l, cat_r]) <;> decide) ⟨Nat.le_of_ble_eq_true rfl, Nat.le_of_ble_eq_true rfl⟩ dX12_readDisc_29 (fun v9 S8 hh => ?_)
  refine rw_istore_n E (lv2 := [(3, .int v9), (2, .int v6), (1, .int (3 + (3 * v4))), (0, hrf b0 ((some h)))]) rfl (by decide) rfl dX12_readDisc_32 ?_
  refine rw_aload_n E (j0 := 3) rfl rfl dX12_readDisc_33 ?_
  refine rw_iconst E (v := 1) (by decide) dX12_readDisc_34 ?_
  refine rw_bipush E (v := 60) (by decide) dX12_readDisc_35 ?_
  refine rw_cVi E (As := [.int 1, .int 60]) hh (by decide) rfl (fun _ _ _ hq => c_X12_number l b0 G _ _ _ _ _ _ hq) (cwV 2 E.2.2.2.2.1 gX12_readDisc_X12_number rfl rfl rfl (by decide +kernel) ⟨Nat.le_of_ble_eq_true rfl, Nat.le_of_ble_eq_true rfl⟩) rfl rfl (by (try simp only [List.map_cons, List.map_nil, List.sum_cons, List.sum_nil, hrf_cat, cat_i, cat_l, cat_r]) <;> decide) ⟨Nat.le_of_ble_eq_true rfl, Nat.le_of_ble_eq_true rfl⟩ dX12_readDisc_37 (fun v12 S11 hh => ?_)
  refine rw_istore E (lv2 := [(4, .int v12), (3, .int v9), (2, .int v6), (1, .int (3 + (3 * v4))), (0, hrf b0 ((some h)))]) (by decide) rfl dX12_readDisc_40 ?_
  refine rw_aload_n E (j0 := 4) rfl rfl dX12_readDisc_42 ?_
  refine rw_cVv E (As := []) hh (by decide) rfl (fun _ _ hq => c_X12_mustEnd l b0 G _ _ _ hq) (cwV 0 E.2.2.2.2.1 gX12_readDisc_X12_mustEnd rfl rfl rfl (by decide +kernel) ⟨Nat.le_of_ble_eq_true rfl, Nat.le_of_ble_eq_true rfl⟩) rfl rfl (by (try simp only [List.map_cons, List.map_nil, List.sum_cons, List.sum_nil, hrf_cat, cat_i, cat_l, cat_r]) <;> decide) ⟨Nat.le_of_ble_eq_true rfl, Nat.le_of_ble_eq_true rfl⟩ dX12_readDisc_43 (fun S14 hh => ?_)
  refine rw_aload_n E (j0 := 4) rfl rfl dX12_readDisc_46 ?_
  refine rw_getI E hh (C := RX12) (T := TX12) (N := 32) rfl (by decide) i_X12_readDisc_12 (by decide) rfl (List.mem_of_getElem? (i := 2) (by decide +kernel)) rfl dX12_readDisc_47 (fun v16 hh => ?_)
  refine rw_if_ne E hh (tgt := 89) (by decide) dX12_readDisc_50 (fun hh => ?_) (fun hh => ?_)
  · exact rw_vret E hrt hlk hh (by decide) (by decide) dX12_readDisc_89
  · refine rw_aload_n E (j0 := 4) rfl rfl dX12_readDisc_53 ?_
    refine rw_getP E hh (C := RX12) (T := TX12) (N := 32) rfl (by decide) i_X12_readDisc_12 (by decide) rfl (List.mem_of_getElem? (i := 1) (by decide +kernel)) rfl dX12_readDisc_54 (fun v17 hh => ?_)
    refine rw_iload_n E (j0 := 3) rfl rfl dX12_readDisc_57 ?_
    refine rw_iload_n E (j0 := 2) rfl rfl dX12_readDisc_58 ?_
    refine rw_iast E hh dX12_readDisc_59 (fun S18 hh => ?_)
    refine rw_aload_n E (j0 := 4) rfl rfl dX12_readDisc_60 ?_
    refine rw_getP E hh (C := RX12) (T := TX12) (N := 32) rfl (by decide) i_X12_readDisc_12 (by decide) rfl (List.mem_of_getElem? (i := 1) (by decide +kernel)) rfl dX12_readDisc_61 (fun v19 hh => ?_)
    refine rw_iload_n E (j0 := 3) rfl rfl dX12_readDisc_64 ?_
    refine rw_iconst E (v := 1) (by decide) dX12_readDisc_65 ?_
    refine rw_iadd E dX12_readDisc_66 ?_
    refine rw_iload_n E (j0 := 1) rfl rfl dX12_readDisc_67 ?_
    refine rw_iast E hh dX12_readDisc_68 (fun S20 hh => ?_)
    refine rw_aload_n E (j0 := 4) rfl rfl dX12_readDisc_69 ?_
    refine rw_getP E hh (C := RX12) (T := TX12) (N := 32) rfl (by decide) i_X12_readDisc_12 (by decide) rfl (List.mem_of_getElem? (i := 1) (by decide +kernel)) rfl dX12_readDisc_70 (fun v21 hh => ?_)
    refine rw_iload_n E (j0 := 3) rfl rfl dX12_readDisc_73 ?_
    refine rw_iconst E (v := 2) (by decide) dX12_readDisc_74 ?_
    refine rw_iadd E dX12_readDisc_75 ?_
    refine rw_iload E (j0 := 0) rfl dX12_readDisc_76 ?_
    refine rw_iast E hh dX12_readDisc_78 (fun S22 hh => ?_)
    refine rw_aload_n E (j0 := 4) rfl rfl dX12_readDisc_79 ?_
    refine rw_getP E hh (C := RX12) (T := TX12) (N := 32) rfl (by decide) i_X12_readDisc_12 (by decide) rfl (List.mem_of_getElem? (i := 1) (by decide +kernel)) rfl dX12_readDisc_80 (fun v23 hh => ?_)
    refine rw_iconst E (v := 0) (by decide) dX12_readDisc_83 ?_
    refine rw_dup2 E rfl (hrf_cat _ _) dX12_readDisc_84 ?_
    refine rw_iald E hh dX12_readDisc_85 (fun v24 hh => ?_)
    refine rw_iconst E (v := 1) (by decide) dX12_readDisc_86 ?_
    refine rw_iadd E dX12_readDisc_87 ?_
    refine rw_iast E hh dX12_readDisc_88 (fun S25 hh => ?_)
    exact rw_vret E hrt hlk hh (by decide) (by decide) dX12_readDisc_89

/-! HummingDiscModel.readThread()V -/
abbrev rm_X12_readThread : Room := { frames := 5, cells := 0, slots := 0, locals := 112 }
theorem i_X12_readThread_12 : ∀ w ∈ wsX120, w ∈ wsX12_readThread := fun _ h => List.mem_cons_of_mem _ (List.mem_append_right _ (h))
def s_X12_readThread (S : HS) (h : Nat) : Option (HS) := kO S ((some h)) 12 (fun a2 => kcv (s_X12_begins S a2 1) (fun S1 => kP S1 ((some h)) 12 6 (fun v3 => kA S1 v3 14 1 (fun v4 => kO S1 ((some h)) 12 (fun a7 => kc (s_X12_number S1 a7 1 99) (fun v6 S5 => kO S5 ((some h)) 12 (fun a10 => kc (s_X12_number S5 a10 1 400) (fun v9 S8 => kO S8 ((some h)) 12 (fun a13 => kc (s_X12_number S8 a13 v9 800) (fun v12 S11 => kO S11 ((some h)) 12 (fun a16 => kc (s_X12_number S11 a16 1 999) (fun v15 S14 => kO S14 ((some h)) 12 (fun a18 => kcv (s_X12_mustEnd S14 a18 ) (fun S17 => kI S17 ((some h)) 12 17 (fun v19 => if v19 = 0 then (kP S17 ((some h)) 12 6 (fun v20 => kwA S17 v20 14 (15 + (4 * v4)) v6 (fun S21 => kP S21 ((some h)) 12 6 (fun v22 => kwA S21 v22 14 ((15 + (4 * v4)) + 1) v9 (fun S23 => kP S23 ((some h)) 12 6 (fun v24 => kwA S23 v24 14 ((15 + (4 * v4)) + 2) v12 (fun S25 => kP S25 ((some h)) 12 6 (fun v26 => kwA S25 v26 14 ((15 + (4 * v4)) + 3) v15 (fun S27 => kP S27 ((some h)) 12 6 (fun v28 => kA S27 v28 14 1 (fun v29 => kwA S27 v28 14 1 (v29 + 1) (fun S30 => some S30)))))))))))) else (some S17))))))))))))))))
set_option maxHeartbeats 4000000 in
set_option maxRecDepth 100000 in
theorem c_X12_readThread (l : Launch) (b0 : Nat) (G : hG) (S S1 : HS) (h : Nat) (hh : s_X12_readThread S h  = some S1) : MH l yX12_readThread wsX12_readThread rm_X12_readThread b0 G S [hrf b0 (some h)] none S1 0 0 := by
  refine MH.ofW (cc := cX12_readThread) (maxL := 6) (ret := none) (own := RX12) (lv0 := [(0, hrf b0 ((some h)))]) (by decide) rfl rfl (Nat.le_of_ble_eq_true rfl) rfl ?_
  intro p e s m args below meth c E hrt hlk hnm
  have hh : (kO S ((some h)) 12 (fun a2 => kcv (s_X12_begins S a2 1) (fun S1 => kP S1 ((some h)) 12 6 (fun v3 => kA S1 v3 14 1 (fun v4 => kO S1 ((some h)) 12 (fun a7 => kc (s_X12_number S1 a7 1 99) (fun v6 S5 => kO S5 ((some h)) 12 (fun a10 => kc (s_X12_number S5 a10 1 400) (fun v9 S8 => kO S8 ((some h)) 12 (fun a13 => kc (s_X12_number S8 a13 v9 800) (fun v12 S11 => kO S11 ((some h)) 12 (fun a16 => kc (s_X12_number S11 a16 1 999) (fun v15 S14 => kO S14 ((some h)) 12 (fun a18 => kcv (s_X12_mustEnd S14 a18 ) (fun S17 => kI S17 ((some h)) 12 17 (fun v19 => if v19 = 0 then (kP S17 ((some h)) 12 6 (fun v20 => kwA S17 v20 14 (15 + (4 * v4)) v6 (fun S21 => kP S21 ((some h)) 12 6 (fun v22 => kwA S21 v22 14 ((15 + (4 * v4)) + 1) v9 (fun S23 => kP S23 ((some h)) 12 6 (fun v24 => kwA S23 v24 14 ((15 + (4 * v4)) + 2) v12 (fun S25 => kP S25 ((some h)) 12 6 (fun v26 => kwA S25 v26 14 ((15 + (4 * v4)) + 3) v15 (fun S27 => kP S27 ((some h)) 12 6 (fun v28 => kA S27 v28 14 1 (fun v29 => kwA S27 v28 14 1 (v29 + 1) (fun S30 => some S30)))))))))))) else (some S17))))))))))))))))) = some S1 := hh
  refine rw_aload_n E (j0 := 0) rfl rfl dX12_readThread_0 ?_
  refine rw_iconst E (v := 1) (by decide) dX12_readThread_1 ?_
  refine rw_cVv E (As := [.int 1]) hh (by decide) rfl (fun _ _ hq => c_X12_begins l b0 G _ _ _ _ hq) (cwV 1 E.2.2.2.2.1 gX12_readThread_X12_begins rfl rfl rfl (by decide +kernel) ⟨Nat.le_of_ble_eq_true rfl, Nat.le_of_ble_eq_true rfl⟩) rfl rfl (by (try simp only [List.map_cons, List.map_nil, List.sum_cons, List.sum_nil, hrf_cat, cat_i, cat_l, cat_r]) <;> decide) ⟨Nat.le_of_ble_eq_true rfl, Nat.le_of_ble_eq_true rfl⟩ dX12_readThread_2 (fun S1 hh => ?_)
  refine rw_bipush E (v := 15) (by decide) dX12_readThread_5 ?_
  refine rw_iconst E (v := 4) (by decide) dX12_readThread_7 ?_
  refine rw_aload_n E (j0 := 0) rfl rfl dX12_readThread_8 ?_
  refine rw_getP E hh (C := RX12) (T := TX12) (N := 32) rfl (by decide) i_X12_readThread_12 (by decide) rfl (List.mem_of_getElem? (i := 1) (by decide +kernel)) rfl dX12_readThread_9 (fun v3 hh => ?_)
  refine rw_iconst E (v := 1) (by decide) dX12_readThread_12 ?_
  refine rw_iald E hh dX12_readThread_13 (fun v4 hh => ?_)
  refine rw_imul E dX12_readThread_14 ?_
  refine rw_iadd E dX12_readThread_15 ?_
  refine rw_istore_n E (lv2 := [(1, .int (15 + (4 * v4))), (0, hrf b0 ((some h)))]) rfl (by decide) rfl dX12_readThread_16 ?_
  refine rw_aload_n E (j0 := 1) rfl rfl dX12_readThread_17 ?_
  refine rw_iconst E (v := 1) (by decide) dX12_readThread_18 ?_
  refine rw_bipush E (v := 99) (by decide) dX12_readThread_19 ?_
  refine rw_cVi E (As := [.int 1, .int 99]) hh (by decide) rfl (fun _ _ _ hq => c_X12_number l b0 G _ _ _ _ _ _ hq) (cwV 2 E.2.2.2.2.1 gX12_readThread_X12_number rfl rfl rfl (by decide +kernel) ⟨Nat.le_of_ble_eq_true rfl, Nat.le_of_ble_eq_true rfl⟩) rfl rfl (by (try simp only [List.map_cons, List.map_nil, List.sum_cons, List.sum_nil, hrf_cat, cat_i, cat_l, cat_r]) <;> decide) ⟨Nat.le_of_ble_eq_true rfl, Nat.le_of_ble_eq_true rfl⟩ dX12_readThread_21 (fun v6 S5 hh => ?_)
  refine rw_istore_n E (lv2 := [(2, .int v6), (1, .int (15 + (4 * v4))), (0, hrf b0 ((some h)))]) rfl (by decide) rfl dX12_readThread_24 ?_
  refine rw_aload_n E (j0 := 2) rfl rfl dX12_readThread_25 ?_
  refine rw_iconst E (v := 1) (by decide) dX12_readThread_26 ?_
  refine rw_sipush E (v := 400) (by decide) dX12_readThread_27 ?_
  refine rw_cVi E (As := [.int 1, .int 400]) hh (by decide) rfl (fun _ _ _ hq => c_X12_number l b0 G _ _ _ _ _ _ hq) (cwV 2 E.2.2.2.2.1 gX12_readThread_X12_number rfl rfl rfl (by decide +kernel) ⟨Nat.le_of_ble_eq_true rfl, Nat.le_of_ble_eq_true rfl⟩) rfl rfl (by (try simp only [List.map_cons, List.map_nil, List.sum_cons, List.sum_nil, hrf_cat, cat_i, cat_l, cat_r]) <;> decide) ⟨Nat.le_of_ble_eq_true rfl, Nat.le_of_ble_eq_true rfl⟩ dX12_readThread_30 (fun v9 S8 hh => ?_)
  refine rw_istore_n E (lv2 := [(3, .int v9), (2, .int v6), (1, .int (15 + (4 * v4))), (0, hrf b0 ((some h)))]) rfl (by decide) rfl dX12_readThread_33 ?_
  refine rw_aload_n E (j0 := 3) rfl rfl dX12_readThread_34 ?_
  refine rw_iload_n E (j0 := 0) rfl rfl dX12_readThread_35 ?_
  refine rw_sipush E (v := 800) (by decide) dX12_readThread_36 ?_
  refine rw_cVi E (As := [.int v9, .int 800]) hh (by decide) rfl (fun _ _ _ hq => c_X12_number l b0 G _ _ _ _ _ _ hq) (cwV 2 E.2.2.2.2.1 gX12_readThread_X12_number rfl rfl rfl (by decide +kernel) ⟨Nat.le_of_ble_eq_true rfl, Nat.le_of_ble_eq_true rfl⟩) rfl rfl (by (try simp only [List.map_cons, List.map_nil, List.sum_cons, List.sum_nil, hrf_cat, cat_i, cat_l, cat_r]) <;> decide) ⟨Nat.le_of_ble_eq_true rfl, Nat.le_of_ble_eq_true rfl⟩ dX12_readThread_39 (fun v12 S11 hh => ?_)
  refine rw_istore E (lv2 := [(4, .int v12), (3, .int v9), (2, .int v6), (1, .int (15 + (4 * v4))), (0, hrf b0 ((some h)))]) (by decide) rfl dX12_readThread_42 ?_
  refine rw_aload_n E (j0 := 4) rfl rfl dX12_readThread_44 ?_
  refine rw_iconst E (v := 1) (by decide) dX12_readThread_45 ?_
  refine rw_sipush E (v := 999) (by decide) dX12_readThread_46 ?_
  refine rw_cVi E (As := [.int 1, .int 999]) hh (by decide) rfl (fun _ _ _ hq => c_X12_number l b0 G _ _ _ _ _ _ hq) (cwV 2 E.2.2.2.2.1 gX12_readThread_X12_number rfl rfl rfl (by decide +kernel) ⟨Nat.le_of_ble_eq_true rfl, Nat.le_of_ble_eq_true rfl⟩) rfl rfl (by (try simp only [List.map_cons, List.map_nil, List.sum_cons, List.sum_nil, hrf_cat, cat_i, cat_l, cat_r]) <;> decide) ⟨Nat.le_of_ble_eq_true rfl, Nat.le_of_ble_eq_true rfl⟩ dX12_readThread_49 (fun v15 S14 hh => ?_)
  refine rw_istore E (lv2 := [(5, .int v15), (4, .int v12), (3, .int v9), (2, .int v6), (1, .int (15 + (4 * v4))), (0, hrf b0 ((some h)))]) (by decide) rfl dX12_readThread_52 ?_
  refine rw_aload_n E (j0 := 5) rfl rfl dX12_readThread_54 ?_
  refine rw_cVv E (As := []) hh (by decide) rfl (fun _ _ hq => c_X12_mustEnd l b0 G _ _ _ hq) (cwV 0 E.2.2.2.2.1 gX12_readThread_X12_mustEnd rfl rfl rfl (by decide +kernel) ⟨Nat.le_of_ble_eq_true rfl, Nat.le_of_ble_eq_true rfl⟩) rfl rfl (by (try simp only [List.map_cons, List.map_nil, List.sum_cons, List.sum_nil, hrf_cat, cat_i, cat_l, cat_r]) <;> decide) ⟨Nat.le_of_ble_eq_true rfl, Nat.le_of_ble_eq_true rfl⟩ dX12_readThread_55 (fun S17 hh => ?_)
  refine rw_aload_n E (j0 := 5) rfl rfl dX12_readThread_58 ?_
  refine rw_getI E hh (C := RX12) (T := TX12) (N := 32) rfl (by decide) i_X12_readThread_12 (by decide) rfl (List.mem_of_getElem? (i := 2) (by decide +kernel)) rfl dX12_readThread_59 (fun v19 hh => ?_)
  refine rw_if_ne E hh (tgt := 111) (by decide) dX12_readThread_62 (fun hh => ?_) (fun hh => ?_)
  · exact rw_vret E hrt hlk hh (by decide) (by decide) dX12_readThread_111
  · refine rw_aload_n E (j0 := 5) rfl rfl dX12_readThread_65 ?_
    refine rw_getP E hh (C := RX12) (T := TX12) (N := 32) rfl (by decide) i_X12_readThread_12 (by decide) rfl (List.mem_of_getElem? (i := 1) (by decide +kernel)) rfl dX12_readThread_66 (fun v20 hh => ?_)
    refine rw_iload_n E (j0 := 4) rfl rfl dX12_readThread_69 ?_
    refine rw_iload_n E (j0 := 3) rfl rfl dX12_readThread_70 ?_
    refine rw_iast E hh dX12_readThread_71 (fun S21 hh => ?_)
    refine rw_aload_n E (j0 := 5) rfl rfl dX12_readThread_72 ?_
    refine rw_getP E hh (C := RX12) (T := TX12) (N := 32) rfl (by decide) i_X12_readThread_12 (by decide) rfl (List.mem_of_getElem? (i := 1) (by decide +kernel)) rfl dX12_readThread_73 (fun v22 hh => ?_)
    refine rw_iload_n E (j0 := 4) rfl rfl dX12_readThread_76 ?_
    refine rw_iconst E (v := 1) (by decide) dX12_readThread_77 ?_
    refine rw_iadd E dX12_readThread_78 ?_
    refine rw_iload_n E (j0 := 2) rfl rfl dX12_readThread_79 ?_
    refine rw_iast E hh dX12_readThread_80 (fun S23 hh => ?_)
    refine rw_aload_n E (j0 := 5) rfl rfl dX12_readThread_81 ?_
    refine rw_getP E hh (C := RX12) (T := TX12) (N := 32) rfl (by decide) i_X12_readThread_12 (by decide) rfl (List.mem_of_getElem? (i := 1) (by decide +kernel)) rfl dX12_readThread_82 (fun v24 hh => ?_)
    refine rw_iload_n E (j0 := 4) rfl rfl dX12_readThread_85 ?_
    refine rw_iconst E (v := 2) (by decide) dX12_readThread_86 ?_
    refine rw_iadd E dX12_readThread_87 ?_
    refine rw_iload E (j0 := 1) rfl dX12_readThread_88 ?_
    refine rw_iast E hh dX12_readThread_90 (fun S25 hh => ?_)
    refine rw_aload_n E (j0 := 5) rfl rfl dX12_readThread_91 ?_
    refine rw_getP E hh (C := RX12) (T := TX12) (N := 32) rfl (by decide) i_X12_readThread_12 (by decide) rfl (List.mem_of_getElem? (i := 1) (by decide +kernel)) rfl dX12_readThread_92 (fun v26 hh => ?_)
    refine rw_iload_n E (j0 := 4) rfl rfl dX12_readThread_95 ?_
    refine rw_iconst E (v := 3) (by decide) dX12_readThread_96 ?_
    refine rw_iadd E dX12_readThread_97 ?_
    refine rw_iload E (j0 := 0) rfl dX12_readThread_98 ?_
    refine rw_iast E hh dX12_readThread_100 (fun S27 hh => ?_)
    refine rw_aload_n E (j0 := 5) rfl rfl dX12_readThread_101 ?_
    refine rw_getP E hh (C := RX12) (T := TX12) (N := 32) rfl (by decide) i_X12_readThread_12 (by decide) rfl (List.mem_of_getElem? (i := 1) (by decide +kernel)) rfl dX12_readThread_102 (fun v28 hh => ?_)
    refine rw_iconst E (v := 1) (by decide) dX12_readThread_105 ?_
    refine rw_dup2 E rfl (hrf_cat _ _) dX12_readThread_106 ?_
    refine rw_iald E hh dX12_readThread_107 (fun v29 hh => ?_)
    refine rw_iconst E (v := 1) (by decide) dX12_readThread_108 ?_
    refine rw_iadd E dX12_readThread_109 ?_
    refine rw_iast E hh dX12_readThread_110 (fun S30 hh => ?_)
    exact rw_vret E hrt hlk hh (by decide) (by decide) dX12_readThread_111

/-! HummingDiscModel.readRule(I)V -/
abbrev rm_X12_readRule : Room := { frames := 5, cells := 0, slots := 0, locals := 112 }
theorem i_X12_readRule_12 : ∀ w ∈ wsX120, w ∈ wsX12_readRule := fun _ h => List.mem_cons_of_mem _ (List.mem_append_right _ (h))
def s_X12_readRule_b170 (h : Nat) (S : HS) (l1 : Int32) (l5 : Int32) (l6 : Int32) (l7 : Int32) (k0 : Option Nat) (k1 : Int32) (k2 : Int32) : Option (HS) := kwA S k0 14 k1 k2 (fun S1 => kP S1 ((some h)) 12 6 (fun v2 => kwA S1 v2 14 (l7 + 2) l5 (fun S3 => kP S3 ((some h)) 12 6 (fun v4 => kwA S3 v4 14 (l7 + 3) l6 (fun S5 => kP S5 ((some h)) 12 6 (fun v6 => kA S5 v6 14 l1 (fun v7 => kwA S5 v6 14 l1 (v7 + 1) (fun S8 => some S8))))))))
set_option maxHeartbeats 4000000 in
set_option maxRecDepth 100000 in
theorem w_X12_readRule_b170 {p : Program} {l : Launch} {e : Env} {s : State} {m : MethodId} {args : Array Value} {below : List Frame} {meth : Method} {c : Code} {b0 : Nat} {G : hG} {S1 : HS} {h : Nat} {S : HS} {l1 : Int32} {l5 : Int32} {l6 : Int32} {l7 : Int32} {k0 : Option Nat} {k1 : Int32} {k2 : Int32} (E : hE p s m args c b0 G cX12_readRule RX12 8 wsX12_readRule) (hrt : meth.sig.returnType = none) (hlk : meth.locks = false) (hh : s_X12_readRule_b170 h S l1 l5 l6 l7 k0 k1 k2 = some S1) : WH p l e rm_X12_readRule s m args below meth c b0 G 8 0 0 (MQ below (hQ b0 G none S1) args s 0 0 (hA b0)) S 170 [(0, hrf b0 ((some h))), (1, .int l1), (5, .int l5), (6, .int l6), (7, .int l7)] [.int k2, .int k1, hrf b0 k0] := by
  have hh : (kwA S k0 14 k1 k2 (fun S1 => kP S1 ((some h)) 12 6 (fun v2 => kwA S1 v2 14 (l7 + 2) l5 (fun S3 => kP S3 ((some h)) 12 6 (fun v4 => kwA S3 v4 14 (l7 + 3) l6 (fun S5 => kP S5 ((some h)) 12 6 (fun v6 => kA S5 v6 14 l1 (fun v7 => kwA S5 v6 14 l1 (v7 + 1) (fun S8 => some S8))))))))) = some S1 := hh
  refine rw_iast E hh dX12_readRule_170 (fun S1 hh => ?_)
  refine rw_aload_n E (j0 := 0) rfl rfl dX12_readRule_171 ?_
  refine rw_getP E hh (C := RX12) (T := TX12) (N := 32) rfl (by decide) i_X12_readRule_12 (by decide) rfl (List.mem_of_getElem? (i := 1) (by decide +kernel)) rfl dX12_readRule_172 (fun v2 hh => ?_)
  refine rw_iload E (j0 := 4) rfl dX12_readRule_175 ?_
  refine rw_iconst E (v := 2) (by decide) dX12_readRule_177 ?_
  refine rw_iadd E dX12_readRule_178 ?_
  refine rw_iload E (j0 := 2) rfl dX12_readRule_179 ?_
  refine rw_iast E hh dX12_readRule_181 (fun S3 hh => ?_)
  refine rw_aload_n E (j0 := 0) rfl rfl dX12_readRule_182 ?_
  refine rw_getP E hh (C := RX12) (T := TX12) (N := 32) rfl (by decide) i_X12_readRule_12 (by decide) rfl (List.mem_of_getElem? (i := 1) (by decide +kernel)) rfl dX12_readRule_183 (fun v4 hh => ?_)
  refine rw_iload E (j0 := 4) rfl dX12_readRule_186 ?_
  refine rw_iconst E (v := 3) (by decide) dX12_readRule_188 ?_
  refine rw_iadd E dX12_readRule_189 ?_
  refine rw_iload E (j0 := 3) rfl dX12_readRule_190 ?_
  refine rw_iast E hh dX12_readRule_192 (fun S5 hh => ?_)
  refine rw_aload_n E (j0 := 0) rfl rfl dX12_readRule_193 ?_
  refine rw_getP E hh (C := RX12) (T := TX12) (N := 32) rfl (by decide) i_X12_readRule_12 (by decide) rfl (List.mem_of_getElem? (i := 1) (by decide +kernel)) rfl dX12_readRule_194 (fun v6 hh => ?_)
  refine rw_iload_n E (j0 := 1) rfl rfl dX12_readRule_197 ?_
  refine rw_dup2 E rfl (hrf_cat _ _) dX12_readRule_198 ?_
  refine rw_iald E hh dX12_readRule_199 (fun v7 hh => ?_)
  refine rw_iconst E (v := 1) (by decide) dX12_readRule_200 ?_
  refine rw_iadd E dX12_readRule_201 ?_
  refine rw_iast E hh dX12_readRule_202 (fun S8 hh => ?_)
  exact rw_vret E hrt hlk hh (by decide) (by decide) dX12_readRule_203
def s_X12_readRule_b88 (h : Nat) (S : HS) (l1 : Int32) (l2 : Int32) (l3 : Int64) : Option (HS) := kO S ((some h)) 12 (fun a3 => kc (s_X12_number S a3 ((-999)) 9999) (fun v2 S1 => kO S1 ((some h)) 12 (fun a5 => kcv (s_X12_mustWord S1 a5 1886743660) (fun S4 => kO S4 ((some h)) 12 (fun a8 => kc (s_X12_number S4 a8 0 99) (fun v7 S6 => kO S6 ((some h)) 12 (fun a10 => kcv (s_X12_mustEnd S6 a10 ) (fun S9 => kI S9 ((some h)) 12 17 (fun v11 => if v11 = 0 then (kP S9 ((some h)) 12 6 (fun v12 => kA S9 v12 14 l1 (fun v13 => kP S9 ((some h)) 12 6 (fun v14 => kwA S9 v14 14 ((l1 + 1) + (4 * v13)) l2 (fun S15 => kP S15 ((some h)) 12 6 (fun v16 => if l3 = 418263299685 then (s_X12_readRule_b170 h S15 l1 v2 v7 ((l1 + 1) + (4 * v13)) v16 (((l1 + 1) + (4 * v13)) + 1) 1) else (s_X12_readRule_b170 h S15 l1 v2 v7 ((l1 + 1) + (4 * v13)) v16 (((l1 + 1) + (4 * v13)) + 1) 0))))))) else (some S9))))))))))
set_option maxHeartbeats 4000000 in
set_option maxRecDepth 100000 in
theorem w_X12_readRule_b88 {p : Program} {l : Launch} {e : Env} {s : State} {m : MethodId} {args : Array Value} {below : List Frame} {meth : Method} {c : Code} {b0 : Nat} {G : hG} {S1 : HS} {h : Nat} {S : HS} {l1 : Int32} {l2 : Int32} {l3 : Int64} (E : hE p s m args c b0 G cX12_readRule RX12 8 wsX12_readRule) (hrt : meth.sig.returnType = none) (hlk : meth.locks = false) (hh : s_X12_readRule_b88 h S l1 l2 l3 = some S1) : WH p l e rm_X12_readRule s m args below meth c b0 G 8 0 0 (MQ below (hQ b0 G none S1) args s 0 0 (hA b0)) S 88 [(0, hrf b0 ((some h))), (1, .int l1), (2, .int l2), (3, .long l3)] [] := by
  have hh : (kO S ((some h)) 12 (fun a3 => kc (s_X12_number S a3 ((-999)) 9999) (fun v2 S1 => kO S1 ((some h)) 12 (fun a5 => kcv (s_X12_mustWord S1 a5 1886743660) (fun S4 => kO S4 ((some h)) 12 (fun a8 => kc (s_X12_number S4 a8 0 99) (fun v7 S6 => kO S6 ((some h)) 12 (fun a10 => kcv (s_X12_mustEnd S6 a10 ) (fun S9 => kI S9 ((some h)) 12 17 (fun v11 => if v11 = 0 then (kP S9 ((some h)) 12 6 (fun v12 => kA S9 v12 14 l1 (fun v13 => kP S9 ((some h)) 12 6 (fun v14 => kwA S9 v14 14 ((l1 + 1) + (4 * v13)) l2 (fun S15 => kP S15 ((some h)) 12 6 (fun v16 => if l3 = 418263299685 then (s_X12_readRule_b170 h S15 l1 v2 v7 ((l1 + 1) + (4 * v13)) v16 (((l1 + 1) + (4 * v13)) + 1) 1) else (s_X12_readRule_b170 h S15 l1 v2 v7 ((l1 + 1) + (4 * v13)) v16 (((l1 + 1) + (4 * v13)) + 1) 0))))))) else (some S9))))))))))) = some S1 := hh
  refine rw_aload_n E (j0 := 0) rfl rfl dX12_readRule_88 ?_
  refine rw_sipush E (v := (-999)) (by decide) dX12_readRule_89 ?_
  refine rw_sipush E (v := 9999) (by decide) dX12_readRule_92 ?_
  refine rw_cVi E (As := [.int ((-999)), .int 9999]) hh (by decide) rfl (fun _ _ _ hq => c_X12_number l b0 G _ _ _ _ _ _ hq) (cwV 2 E.2.2.2.2.1 gX12_readRule_X12_number rfl rfl rfl (by decide +kernel) ⟨Nat.le_of_ble_eq_true rfl, Nat.le_of_ble_eq_true rfl⟩) rfl rfl (by (try simp only [List.map_cons, List.map_nil, List.sum_cons, List.sum_nil, hrf_cat, cat_i, cat_l, cat_r]) <;> decide) ⟨Nat.le_of_ble_eq_true rfl, Nat.le_of_ble_eq_true rfl⟩ dX12_readRule_95 (fun v2 S1 hh => ?_)
  refine rw_istore E (lv2 := [(5, .int v2), (0, hrf b0 ((some h))), (1, .int l1), (2, .int l2), (3, .long l3)]) (by decide) rfl dX12_readRule_98 ?_
  refine rw_aload_n E (j0 := 1) rfl rfl dX12_readRule_100 ?_
  refine rw_ldc2 E (v := 1886743660) (List.mem_of_getElem? (i := 6) (by decide +kernel)) dX12_readRule_101 ?_
  refine rw_cVv E (As := [.long 1886743660]) hh (by decide) rfl (fun _ _ hq => c_X12_mustWord l b0 G _ _ _ _ hq) (cwV 1 E.2.2.2.2.1 gX12_readRule_X12_mustWord rfl rfl rfl (by decide +kernel) ⟨Nat.le_of_ble_eq_true rfl, Nat.le_of_ble_eq_true rfl⟩) rfl rfl (by (try simp only [List.map_cons, List.map_nil, List.sum_cons, List.sum_nil, hrf_cat, cat_i, cat_l, cat_r]) <;> decide) ⟨Nat.le_of_ble_eq_true rfl, Nat.le_of_ble_eq_true rfl⟩ dX12_readRule_104 (fun S4 hh => ?_)
  refine rw_aload_n E (j0 := 1) rfl rfl dX12_readRule_107 ?_
  refine rw_iconst E (v := 0) (by decide) dX12_readRule_108 ?_
  refine rw_bipush E (v := 99) (by decide) dX12_readRule_109 ?_
  refine rw_cVi E (As := [.int 0, .int 99]) hh (by decide) rfl (fun _ _ _ hq => c_X12_number l b0 G _ _ _ _ _ _ hq) (cwV 2 E.2.2.2.2.1 gX12_readRule_X12_number rfl rfl rfl (by decide +kernel) ⟨Nat.le_of_ble_eq_true rfl, Nat.le_of_ble_eq_true rfl⟩) rfl rfl (by (try simp only [List.map_cons, List.map_nil, List.sum_cons, List.sum_nil, hrf_cat, cat_i, cat_l, cat_r]) <;> decide) ⟨Nat.le_of_ble_eq_true rfl, Nat.le_of_ble_eq_true rfl⟩ dX12_readRule_111 (fun v7 S6 hh => ?_)
  refine rw_istore E (lv2 := [(6, .int v7), (5, .int v2), (0, hrf b0 ((some h))), (1, .int l1), (2, .int l2), (3, .long l3)]) (by decide) rfl dX12_readRule_114 ?_
  refine rw_aload_n E (j0 := 2) rfl rfl dX12_readRule_116 ?_
  refine rw_cVv E (As := []) hh (by decide) rfl (fun _ _ hq => c_X12_mustEnd l b0 G _ _ _ hq) (cwV 0 E.2.2.2.2.1 gX12_readRule_X12_mustEnd rfl rfl rfl (by decide +kernel) ⟨Nat.le_of_ble_eq_true rfl, Nat.le_of_ble_eq_true rfl⟩) rfl rfl (by (try simp only [List.map_cons, List.map_nil, List.sum_cons, List.sum_nil, hrf_cat, cat_i, cat_l, cat_r]) <;> decide) ⟨Nat.le_of_ble_eq_true rfl, Nat.le_of_ble_eq_true rfl⟩ dX12_readRule_117 (fun S9 hh => ?_)
  refine rw_aload_n E (j0 := 2) rfl rfl dX12_readRule_120 ?_
  refine rw_getI E hh (C := RX12) (T := TX12) (N := 32) rfl (by decide) i_X12_readRule_12 (by decide) rfl (List.mem_of_getElem? (i := 2) (by decide +kernel)) rfl dX12_readRule_121 (fun v11 hh => ?_)
  refine rw_if_ne E hh (tgt := 203) (by decide) dX12_readRule_124 (fun hh => ?_) (fun hh => ?_)
  · exact rw_vret E hrt hlk hh (by decide) (by decide) dX12_readRule_203
  · refine rw_iload_n E (j0 := 3) rfl rfl dX12_readRule_127 ?_
    refine rw_iconst E (v := 1) (by decide) dX12_readRule_128 ?_
    refine rw_iadd E dX12_readRule_129 ?_
    refine rw_iconst E (v := 4) (by decide) dX12_readRule_130 ?_
    refine rw_aload_n E (j0 := 2) rfl rfl dX12_readRule_131 ?_
    refine rw_getP E hh (C := RX12) (T := TX12) (N := 32) rfl (by decide) i_X12_readRule_12 (by decide) rfl (List.mem_of_getElem? (i := 1) (by decide +kernel)) rfl dX12_readRule_132 (fun v12 hh => ?_)
    refine rw_iload_n E (j0 := 3) rfl rfl dX12_readRule_135 ?_
    refine rw_iald E hh dX12_readRule_136 (fun v13 hh => ?_)
    refine rw_imul E dX12_readRule_137 ?_
    refine rw_iadd E dX12_readRule_138 ?_
    refine rw_istore E (lv2 := [(7, .int ((l1 + 1) + (4 * v13))), (6, .int v7), (5, .int v2), (0, hrf b0 ((some h))), (1, .int l1), (2, .int l2), (3, .long l3)]) (by decide) rfl dX12_readRule_139 ?_
    refine rw_aload_n E (j0 := 3) rfl rfl dX12_readRule_141 ?_
    refine rw_getP E hh (C := RX12) (T := TX12) (N := 32) rfl (by decide) i_X12_readRule_12 (by decide) rfl (List.mem_of_getElem? (i := 1) (by decide +kernel)) rfl dX12_readRule_142 (fun v14 hh => ?_)
    refine rw_iload E (j0 := 0) rfl dX12_readRule_145 ?_
    refine rw_iload_n E (j0 := 5) rfl rfl dX12_readRule_147 ?_
    refine rw_iast E hh dX12_readRule_148 (fun S15 hh => ?_)
    refine rw_aload_n E (j0 := 3) rfl rfl dX12_readRule_149 ?_
    refine rw_getP E hh (C := RX12) (T := TX12) (N := 32) rfl (by decide) i_X12_readRule_12 (by decide) rfl (List.mem_of_getElem? (i := 1) (by decide +kernel)) rfl dX12_readRule_150 (fun v16 hh => ?_)
    refine rw_iload E (j0 := 0) rfl dX12_readRule_153 ?_
    refine rw_iconst E (v := 1) (by decide) dX12_readRule_155 ?_
    refine rw_iadd E dX12_readRule_156 ?_
    refine rw_lload_n E (j0 := 6) rfl rfl dX12_readRule_157 ?_
    refine rw_ldc2 E (v := 418263299685) (List.mem_of_getElem? (i := 5) (by decide +kernel)) dX12_readRule_158 ?_
    refine rw_lne E hh (tgt := 169) (by decide) dX12_readRule_161 dX12_readRule_162 (fun hh => ?_) (fun hh => ?_)
    · refine rw_iconst E (v := 0) (by decide) dX12_readRule_169 ?_
      refine WH.pick [3, 4, 2, 1, 0] rfl ?_
      exact w_X12_readRule_b170 E hrt hlk hh
    · refine rw_iconst E (v := 1) (by decide) dX12_readRule_165 ?_
      refine rw_goto E (tgt := 170) (by decide) dX12_readRule_166 ?_
      refine WH.pick [3, 4, 2, 1, 0] rfl ?_
      exact w_X12_readRule_b170 E hrt hlk hh
def s_X12_readRule_b85 (h : Nat) (S : HS) (l1 : Int32) (l2 : Int32) (l3 : Int64) (k0 : Option Nat) (k1 : Int32) : Option (HS) := kO S k0 12 (fun a2 => kcv (s_X12_must S a2 k1) (fun S1 => s_X12_readRule_b88 h S1 l1 l2 l3))
set_option maxHeartbeats 4000000 in
set_option maxRecDepth 100000 in
theorem w_X12_readRule_b85 {p : Program} {l : Launch} {e : Env} {s : State} {m : MethodId} {args : Array Value} {below : List Frame} {meth : Method} {c : Code} {b0 : Nat} {G : hG} {S1 : HS} {h : Nat} {S : HS} {l1 : Int32} {l2 : Int32} {l3 : Int64} {k0 : Option Nat} {k1 : Int32} (E : hE p s m args c b0 G cX12_readRule RX12 8 wsX12_readRule) (hrt : meth.sig.returnType = none) (hlk : meth.locks = false) (hh : s_X12_readRule_b85 h S l1 l2 l3 k0 k1 = some S1) : WH p l e rm_X12_readRule s m args below meth c b0 G 8 0 0 (MQ below (hQ b0 G none S1) args s 0 0 (hA b0)) S 85 [(0, hrf b0 ((some h))), (1, .int l1), (2, .int l2), (3, .long l3)] [.int k1, hrf b0 k0] := by
  have hh : (kO S k0 12 (fun a2 => kcv (s_X12_must S a2 k1) (fun S1 => s_X12_readRule_b88 h S1 l1 l2 l3))) = some S1 := hh
  refine rw_cVv E (As := [.int k1]) hh (by decide) rfl (fun _ _ hq => c_X12_must l b0 G _ _ _ _ hq) (cwV 1 E.2.2.2.2.1 gX12_readRule_X12_must rfl rfl rfl (by decide +kernel) ⟨Nat.le_of_ble_eq_true rfl, Nat.le_of_ble_eq_true rfl⟩) rfl rfl (by (try simp only [List.map_cons, List.map_nil, List.sum_cons, List.sum_nil, hrf_cat, cat_i, cat_l, cat_r]) <;> decide) ⟨Nat.le_of_ble_eq_true rfl, Nat.le_of_ble_eq_true rfl⟩ dX12_readRule_85 (fun S1 hh => ?_)
  refine WH.pick [0, 1, 2, 3] rfl ?_
  exact w_X12_readRule_b88 E hrt hlk hh
def s_X12_readRule_b80 (h : Nat) (S : HS) (l1 : Int32) (l2 : Int32) (l3 : Int64) (k0 : Option Nat) : Option (HS) := s_X12_readRule_b85 h S l1 l2 l3 k0 1
set_option maxHeartbeats 4000000 in
set_option maxRecDepth 100000 in
theorem w_X12_readRule_b80 {p : Program} {l : Launch} {e : Env} {s : State} {m : MethodId} {args : Array Value} {below : List Frame} {meth : Method} {c : Code} {b0 : Nat} {G : hG} {S1 : HS} {h : Nat} {S : HS} {l1 : Int32} {l2 : Int32} {l3 : Int64} {k0 : Option Nat} (E : hE p s m args c b0 G cX12_readRule RX12 8 wsX12_readRule) (hrt : meth.sig.returnType = none) (hlk : meth.locks = false) (hh : s_X12_readRule_b80 h S l1 l2 l3 k0 = some S1) : WH p l e rm_X12_readRule s m args below meth c b0 G 8 0 0 (MQ below (hQ b0 G none S1) args s 0 0 (hA b0)) S 80 [(0, hrf b0 ((some h))), (1, .int l1), (2, .int l2), (3, .long l3)] [hrf b0 k0] := by
  have hh : (s_X12_readRule_b85 h S l1 l2 l3 k0 1) = some S1 := hh
  refine rw_iconst E (v := 1) (by decide) dX12_readRule_80 ?_
  refine rw_goto E (tgt := 85) (by decide) dX12_readRule_81 ?_
  refine WH.pick [0, 1, 2, 3] rfl ?_
  exact w_X12_readRule_b85 E hrt hlk hh
def s_X12_readRule_b51 (h : Nat) (S : HS) (l1 : Int32) (l2 : Int32) : Option (HS) := kO S ((some h)) 12 (fun a3 => kc (s_X12_word S a3 ) (fun v2 S1 => kI S1 ((some h)) 12 17 (fun v4 => if v4 = 0 then (if v2 = 422608400247 then (s_X12_readRule_b80 h S1 l1 l2 v2 ((some h))) else (if v2 = 418263299685 then (s_X12_readRule_b80 h S1 l1 l2 v2 ((some h))) else (s_X12_readRule_b85 h S1 l1 l2 v2 ((some h)) 0))) else (s_X12_readRule_b88 h S1 l1 l2 v2))))
set_option maxHeartbeats 4000000 in
set_option maxRecDepth 100000 in
theorem w_X12_readRule_b51 {p : Program} {l : Launch} {e : Env} {s : State} {m : MethodId} {args : Array Value} {below : List Frame} {meth : Method} {c : Code} {b0 : Nat} {G : hG} {S1 : HS} {h : Nat} {S : HS} {l1 : Int32} {l2 : Int32} (E : hE p s m args c b0 G cX12_readRule RX12 8 wsX12_readRule) (hrt : meth.sig.returnType = none) (hlk : meth.locks = false) (hh : s_X12_readRule_b51 h S l1 l2 = some S1) : WH p l e rm_X12_readRule s m args below meth c b0 G 8 0 0 (MQ below (hQ b0 G none S1) args s 0 0 (hA b0)) S 51 [(0, hrf b0 ((some h))), (1, .int l1), (2, .int l2)] [] := by
  have hh : (kO S ((some h)) 12 (fun a3 => kc (s_X12_word S a3 ) (fun v2 S1 => kI S1 ((some h)) 12 17 (fun v4 => if v4 = 0 then (if v2 = 422608400247 then (s_X12_readRule_b80 h S1 l1 l2 v2 ((some h))) else (if v2 = 418263299685 then (s_X12_readRule_b80 h S1 l1 l2 v2 ((some h))) else (s_X12_readRule_b85 h S1 l1 l2 v2 ((some h)) 0))) else (s_X12_readRule_b88 h S1 l1 l2 v2))))) = some S1 := hh
  refine rw_aload_n E (j0 := 0) rfl rfl dX12_readRule_51 ?_
  refine rw_cVl E (As := []) hh (by decide) rfl (fun _ _ _ hq => c_X12_word l b0 G _ _ _ _ hq) (cwV 0 E.2.2.2.2.1 gX12_readRule_X12_word rfl rfl rfl (by decide +kernel) ⟨Nat.le_of_ble_eq_true rfl, Nat.le_of_ble_eq_true rfl⟩) rfl rfl (by (try simp only [List.map_cons, List.map_nil, List.sum_cons, List.sum_nil, hrf_cat, cat_i, cat_l, cat_r]) <;> decide) ⟨Nat.le_of_ble_eq_true rfl, Nat.le_of_ble_eq_true rfl⟩ dX12_readRule_52 (fun v2 S1 hh => ?_)
  refine rw_lstore_n E (lv2 := [(3, .long v2), (0, hrf b0 ((some h))), (1, .int l1), (2, .int l2)]) rfl (by decide) rfl dX12_readRule_55 ?_
  refine rw_aload_n E (j0 := 1) rfl rfl dX12_readRule_56 ?_
  refine rw_getI E hh (C := RX12) (T := TX12) (N := 32) rfl (by decide) i_X12_readRule_12 (by decide) rfl (List.mem_of_getElem? (i := 2) (by decide +kernel)) rfl dX12_readRule_57 (fun v4 hh => ?_)
  refine rw_if_ne E hh (tgt := 88) (by decide) dX12_readRule_60 (fun hh => ?_) (fun hh => ?_)
  · refine WH.pick [1, 2, 3, 0] rfl ?_
    exact w_X12_readRule_b88 E hrt hlk hh
  · refine rw_aload_n E (j0 := 1) rfl rfl dX12_readRule_63 ?_
    refine rw_lload_n E (j0 := 0) rfl rfl dX12_readRule_64 ?_
    refine rw_ldc2 E (v := 422608400247) (List.mem_of_getElem? (i := 4) (by decide +kernel)) dX12_readRule_65 ?_
    refine rw_leq E hh (tgt := 80) (by decide) dX12_readRule_68 dX12_readRule_69 (fun hh => ?_) (fun hh => ?_)
    · refine WH.pick [1, 2, 3, 0] rfl ?_
      exact w_X12_readRule_b80 E hrt hlk hh
    · refine rw_lload_n E (j0 := 0) rfl rfl dX12_readRule_72 ?_
      refine rw_ldc2 E (v := 418263299685) (List.mem_of_getElem? (i := 5) (by decide +kernel)) dX12_readRule_73 ?_
      refine rw_lne E hh (tgt := 84) (by decide) dX12_readRule_76 dX12_readRule_77 (fun hh => ?_) (fun hh => ?_)
      · refine rw_iconst E (v := 0) (by decide) dX12_readRule_84 ?_
        refine WH.pick [1, 2, 3, 0] rfl ?_
        exact w_X12_readRule_b85 E hrt hlk hh
      · refine WH.pick [1, 2, 3, 0] rfl ?_
        exact w_X12_readRule_b80 E hrt hlk hh
def s_X12_readRule_b48 (h : Nat) (S : HS) (l1 : Int32) (l2 : Int32) (k0 : Option Nat) (k1 : Int32) : Option (HS) := kO S k0 12 (fun a2 => kcv (s_X12_must S a2 k1) (fun S1 => s_X12_readRule_b51 h S1 l1 l2))
set_option maxHeartbeats 4000000 in
set_option maxRecDepth 100000 in
theorem w_X12_readRule_b48 {p : Program} {l : Launch} {e : Env} {s : State} {m : MethodId} {args : Array Value} {below : List Frame} {meth : Method} {c : Code} {b0 : Nat} {G : hG} {S1 : HS} {h : Nat} {S : HS} {l1 : Int32} {l2 : Int32} {k0 : Option Nat} {k1 : Int32} (E : hE p s m args c b0 G cX12_readRule RX12 8 wsX12_readRule) (hrt : meth.sig.returnType = none) (hlk : meth.locks = false) (hh : s_X12_readRule_b48 h S l1 l2 k0 k1 = some S1) : WH p l e rm_X12_readRule s m args below meth c b0 G 8 0 0 (MQ below (hQ b0 G none S1) args s 0 0 (hA b0)) S 48 [(0, hrf b0 ((some h))), (1, .int l1), (2, .int l2)] [.int k1, hrf b0 k0] := by
  have hh : (kO S k0 12 (fun a2 => kcv (s_X12_must S a2 k1) (fun S1 => s_X12_readRule_b51 h S1 l1 l2))) = some S1 := hh
  refine rw_cVv E (As := [.int k1]) hh (by decide) rfl (fun _ _ hq => c_X12_must l b0 G _ _ _ _ hq) (cwV 1 E.2.2.2.2.1 gX12_readRule_X12_must rfl rfl rfl (by decide +kernel) ⟨Nat.le_of_ble_eq_true rfl, Nat.le_of_ble_eq_true rfl⟩) rfl rfl (by (try simp only [List.map_cons, List.map_nil, List.sum_cons, List.sum_nil, hrf_cat, cat_i, cat_l, cat_r]) <;> decide) ⟨Nat.le_of_ble_eq_true rfl, Nat.le_of_ble_eq_true rfl⟩ dX12_readRule_48 (fun S1 hh => ?_)
  refine WH.pick [0, 1, 2] rfl ?_
  exact w_X12_readRule_b51 E hrt hlk hh
def s_X12_readRule_b16 (h : Nat) (S : HS) (l1 : Int32) : Option (HS) := kO S ((some h)) 12 (fun a2 => kcv (s_X12_must S a2 1) (fun S1 => kO S1 ((some h)) 12 (fun a5 => kc (s_X12_word S1 a5 ) (fun v4 S3 => kc (s_X12_whatOf S3 v4) (fun v7 S6 => kI S6 ((some h)) 12 17 (fun v8 => if v8 = 0 then (if v7 = (-1000000) then (s_X12_readRule_b48 h S6 l1 v7 ((some h)) 0) else (s_X12_readRule_b48 h S6 l1 v7 ((some h)) 1)) else (s_X12_readRule_b51 h S6 l1 v7)))))))
set_option maxHeartbeats 4000000 in
set_option maxRecDepth 100000 in
theorem w_X12_readRule_b16 {p : Program} {l : Launch} {e : Env} {s : State} {m : MethodId} {args : Array Value} {below : List Frame} {meth : Method} {c : Code} {b0 : Nat} {G : hG} {S1 : HS} {h : Nat} {S : HS} {l1 : Int32} (E : hE p s m args c b0 G cX12_readRule RX12 8 wsX12_readRule) (hrt : meth.sig.returnType = none) (hlk : meth.locks = false) (hh : s_X12_readRule_b16 h S l1 = some S1) : WH p l e rm_X12_readRule s m args below meth c b0 G 8 0 0 (MQ below (hQ b0 G none S1) args s 0 0 (hA b0)) S 16 [(0, hrf b0 ((some h))), (1, .int l1)] [] := by
  have hh : (kO S ((some h)) 12 (fun a2 => kcv (s_X12_must S a2 1) (fun S1 => kO S1 ((some h)) 12 (fun a5 => kc (s_X12_word S1 a5 ) (fun v4 S3 => kc (s_X12_whatOf S3 v4) (fun v7 S6 => kI S6 ((some h)) 12 17 (fun v8 => if v8 = 0 then (if v7 = (-1000000) then (s_X12_readRule_b48 h S6 l1 v7 ((some h)) 0) else (s_X12_readRule_b48 h S6 l1 v7 ((some h)) 1)) else (s_X12_readRule_b51 h S6 l1 v7)))))))) = some S1 := hh
  refine rw_aload_n E (j0 := 0) rfl rfl dX12_readRule_16 ?_
  refine rw_iconst E (v := 1) (by decide) dX12_readRule_17 ?_
  refine rw_cVv E (As := [.int 1]) hh (by decide) rfl (fun _ _ hq => c_X12_must l b0 G _ _ _ _ hq) (cwV 1 E.2.2.2.2.1 gX12_readRule_X12_must rfl rfl rfl (by decide +kernel) ⟨Nat.le_of_ble_eq_true rfl, Nat.le_of_ble_eq_true rfl⟩) rfl rfl (by (try simp only [List.map_cons, List.map_nil, List.sum_cons, List.sum_nil, hrf_cat, cat_i, cat_l, cat_r]) <;> decide) ⟨Nat.le_of_ble_eq_true rfl, Nat.le_of_ble_eq_true rfl⟩ dX12_readRule_18 (fun S1 hh => ?_)
  refine rw_aload_n E (j0 := 0) rfl rfl dX12_readRule_21 ?_
  refine rw_cVl E (As := []) hh (by decide) rfl (fun _ _ _ hq => c_X12_word l b0 G _ _ _ _ hq) (cwV 0 E.2.2.2.2.1 gX12_readRule_X12_word rfl rfl rfl (by decide +kernel) ⟨Nat.le_of_ble_eq_true rfl, Nat.le_of_ble_eq_true rfl⟩) rfl rfl (by (try simp only [List.map_cons, List.map_nil, List.sum_cons, List.sum_nil, hrf_cat, cat_i, cat_l, cat_r]) <;> decide) ⟨Nat.le_of_ble_eq_true rfl, Nat.le_of_ble_eq_true rfl⟩ dX12_readRule_22 (fun v4 S3 hh => ?_)
  refine rw_cSi E (As := [.long v4]) hh (fun _ _ hq => c_X12_whatOf l b0 G _ _ _ _ hq) (va_cwS 1 E.2.2.2.2.1 gX12_readRule_X12_whatOf rfl rfl rfl (by decide +kernel) ⟨Nat.le_of_ble_eq_true rfl, Nat.le_of_ble_eq_true rfl⟩) rfl rfl (by (try simp only [List.map_cons, List.map_nil, List.sum_cons, List.sum_nil, hrf_cat, cat_i, cat_l, cat_r]) <;> decide) ⟨Nat.le_of_ble_eq_true rfl, Nat.le_of_ble_eq_true rfl⟩ dX12_readRule_25 (fun v7 S6 hh => ?_)
  refine rw_istore_n E (lv2 := [(2, .int v7), (0, hrf b0 ((some h))), (1, .int l1)]) rfl (by decide) rfl dX12_readRule_28 ?_
  refine rw_aload_n E (j0 := 1) rfl rfl dX12_readRule_29 ?_
  refine rw_getI E hh (C := RX12) (T := TX12) (N := 32) rfl (by decide) i_X12_readRule_12 (by decide) rfl (List.mem_of_getElem? (i := 2) (by decide +kernel)) rfl dX12_readRule_30 (fun v8 hh => ?_)
  refine rw_if_ne E hh (tgt := 51) (by decide) dX12_readRule_33 (fun hh => ?_) (fun hh => ?_)
  · refine WH.pick [1, 2, 0] rfl ?_
    exact w_X12_readRule_b51 E hrt hlk hh
  · refine rw_aload_n E (j0 := 1) rfl rfl dX12_readRule_36 ?_
    refine rw_iload_n E (j0 := 0) rfl rfl dX12_readRule_37 ?_
    refine rw_ldc E (v := (-1000000)) (List.mem_of_getElem? (i := 3) (by decide +kernel)) dX12_readRule_38 ?_
    refine rw_icmp_eq E hh (tgt := 47) (by decide) dX12_readRule_40 (fun hh => ?_) (fun hh => ?_)
    · refine rw_iconst E (v := 0) (by decide) dX12_readRule_47 ?_
      refine WH.pick [1, 2, 0] rfl ?_
      exact w_X12_readRule_b48 E hrt hlk hh
    · refine rw_iconst E (v := 1) (by decide) dX12_readRule_43 ?_
      refine rw_goto E (tgt := 48) (by decide) dX12_readRule_44 ?_
      refine WH.pick [1, 2, 0] rfl ?_
      exact w_X12_readRule_b48 E hrt hlk hh
def s_X12_readRule (S : HS) (h : Nat) (l1 : Int32) : Option (HS) := kP S ((some h)) 12 6 (fun v1 => kA S v1 14 l1 (fun v2 => if v2 = 6 then (kO S ((some h)) 12 (fun a4 => kcv (s_X12_bad S a4 3) (fun S3 => s_X12_readRule_b16 h S3 l1))) else (s_X12_readRule_b16 h S l1)))
set_option maxHeartbeats 4000000 in
set_option maxRecDepth 100000 in
theorem c_X12_readRule (l : Launch) (b0 : Nat) (G : hG) (S S1 : HS) (h : Nat) (l1 : Int32) (hh : s_X12_readRule S h l1 = some S1) : MH l yX12_readRule wsX12_readRule rm_X12_readRule b0 G S [hrf b0 (some h), .int l1] none S1 0 0 := by
  refine MH.ofW (cc := cX12_readRule) (maxL := 8) (ret := none) (own := RX12) (lv0 := [(0, hrf b0 ((some h))), (1, .int l1)]) (by decide) rfl rfl (Nat.le_of_ble_eq_true rfl) rfl ?_
  intro p e s m args below meth c E hrt hlk hnm
  have hh : (kP S ((some h)) 12 6 (fun v1 => kA S v1 14 l1 (fun v2 => if v2 = 6 then (kO S ((some h)) 12 (fun a4 => kcv (s_X12_bad S a4 3) (fun S3 => s_X12_readRule_b16 h S3 l1))) else (s_X12_readRule_b16 h S l1)))) = some S1 := hh
  refine rw_aload_n E (j0 := 0) rfl rfl dX12_readRule_0 ?_
  refine rw_getP E hh (C := RX12) (T := TX12) (N := 32) rfl (by decide) i_X12_readRule_12 (by decide) rfl (List.mem_of_getElem? (i := 1) (by decide +kernel)) rfl dX12_readRule_1 (fun v1 hh => ?_)
  refine rw_iload_n E (j0 := 1) rfl rfl dX12_readRule_4 ?_
  refine rw_iald E hh dX12_readRule_5 (fun v2 hh => ?_)
  refine rw_bipush E (v := 6) (by decide) dX12_readRule_6 ?_
  refine rw_icmp_ne E hh (tgt := 16) (by decide) dX12_readRule_8 (fun hh => ?_) (fun hh => ?_)
  · refine WH.pick [0, 1] rfl ?_
    exact w_X12_readRule_b16 E hrt hlk hh
  · refine rw_aload_n E (j0 := 0) rfl rfl dX12_readRule_11 ?_
    refine rw_iconst E (v := 3) (by decide) dX12_readRule_12 ?_
    refine rw_cVv E (As := [.int 3]) hh (by decide) rfl (fun _ _ hq => c_X12_bad l b0 G _ _ _ _ hq) (cwV 1 E.2.2.2.2.1 gX12_readRule_X12_bad rfl rfl rfl (by decide +kernel) ⟨Nat.le_of_ble_eq_true rfl, Nat.le_of_ble_eq_true rfl⟩) rfl rfl (by (try simp only [List.map_cons, List.map_nil, List.sum_cons, List.sum_nil, hrf_cat, cat_i, cat_l, cat_r]) <;> decide) ⟨Nat.le_of_ble_eq_true rfl, Nat.le_of_ble_eq_true rfl⟩ dX12_readRule_13 (fun S3 hh => ?_)
    refine WH.pick [0, 1] rfl ?_
    exact w_X12_readRule_b16 E hrt hlk hh

/-! HummingDiscModel.readHand()V -/
abbrev rm_X12_readHand : Room := { frames := 6, cells := 0, slots := 0, locals := 139 }
theorem i_X12_readHand_12 : ∀ w ∈ wsX120, w ∈ wsX12_readHand := fun _ h => List.mem_cons_of_mem _ (List.mem_append_right _ (h))
def s_X12_readHand_b22 (j22 : HS → Int32 → Option (HS)) (h : Nat) (S : HS) (l1 : Int32) : Option (HS) := kO S ((some h)) 12 (fun a3 => kc (s_X12_word S a3 ) (fun v2 S1 => if v2 = 2003330414 then (kO S1 ((some h)) 12 (fun a10 => kcv (s_X12_readRule S1 a10 l1) (fun S9 => j22 S9 l1))) else (kP S1 ((some h)) 12 6 (fun v4 => kA S1 v4 14 2 (fun v5 => kI S1 ((some h)) 12 17 (fun v6 => if v6 = 0 then (kwA S1 v4 14 2 (v5 + 1) (fun S8 => some S8)) else (kwA S1 v4 14 2 (v5 + 0) (fun S7 => some S7))))))))
set_option maxHeartbeats 4000000 in
set_option maxRecDepth 100000 in
theorem w_X12_readHand_b22 {p : Program} {l : Launch} {e : Env} {s : State} {m : MethodId} {args : Array Value} {below : List Frame} {meth : Method} {c : Code} {b0 : Nat} {G : hG} {S1 : HS} {j22 : HS → Int32 → Option (HS)} {h : Nat} {S : HS} {l1 : Int32} (E : hE p s m args c b0 G cX12_readHand RX12 2 wsX12_readHand) (hrt : meth.sig.returnType = none) (hlk : meth.locks = false) (hj22 : ∀ (S : HS) (l1 : Int32), j22 S l1 = some S1 → WH p l e rm_X12_readHand s m args below meth c b0 G 2 0 0 (MQ below (hQ b0 G none S1) args s 0 0 (hA b0)) S 22 [(0, hrf b0 ((some h))), (1, .int l1)] []) (hh : s_X12_readHand_b22 j22 h S l1 = some S1) : WH p l e rm_X12_readHand s m args below meth c b0 G 2 0 0 (MQ below (hQ b0 G none S1) args s 0 0 (hA b0)) S 22 [(0, hrf b0 ((some h))), (1, .int l1)] [] := by
  have hh : (kO S ((some h)) 12 (fun a3 => kc (s_X12_word S a3 ) (fun v2 S1 => if v2 = 2003330414 then (kO S1 ((some h)) 12 (fun a10 => kcv (s_X12_readRule S1 a10 l1) (fun S9 => j22 S9 l1))) else (kP S1 ((some h)) 12 6 (fun v4 => kA S1 v4 14 2 (fun v5 => kI S1 ((some h)) 12 17 (fun v6 => if v6 = 0 then (kwA S1 v4 14 2 (v5 + 1) (fun S8 => some S8)) else (kwA S1 v4 14 2 (v5 + 0) (fun S7 => some S7))))))))) = some S1 := hh
  refine rw_aload_n E (j0 := 0) rfl rfl dX12_readHand_22 ?_
  refine rw_cVl E (As := []) hh (by decide) rfl (fun _ _ _ hq => c_X12_word l b0 G _ _ _ _ hq) (cwV 0 E.2.2.2.2.1 gX12_readHand_X12_word rfl rfl rfl (by decide +kernel) ⟨Nat.le_of_ble_eq_true rfl, Nat.le_of_ble_eq_true rfl⟩) rfl rfl (by (try simp only [List.map_cons, List.map_nil, List.sum_cons, List.sum_nil, hrf_cat, cat_i, cat_l, cat_r]) <;> decide) ⟨Nat.le_of_ble_eq_true rfl, Nat.le_of_ble_eq_true rfl⟩ dX12_readHand_23 (fun v2 S1 hh => ?_)
  refine rw_ldc2 E (v := 2003330414) (List.mem_of_getElem? (i := 2) (by decide +kernel)) dX12_readHand_26 ?_
  refine rw_lne E hh (tgt := 41) (by decide) dX12_readHand_29 dX12_readHand_30 (fun hh => ?_) (fun hh => ?_)
  · refine rw_aload_n E (j0 := 0) rfl rfl dX12_readHand_41 ?_
    refine rw_getP E hh (C := RX12) (T := TX12) (N := 32) rfl (by decide) i_X12_readHand_12 (by decide) rfl (List.mem_of_getElem? (i := 1) (by decide +kernel)) rfl dX12_readHand_42 (fun v4 hh => ?_)
    refine rw_iconst E (v := 2) (by decide) dX12_readHand_45 ?_
    refine rw_dup2 E rfl (hrf_cat _ _) dX12_readHand_46 ?_
    refine rw_iald E hh dX12_readHand_47 (fun v5 hh => ?_)
    refine rw_aload_n E (j0 := 0) rfl rfl dX12_readHand_48 ?_
    refine rw_getI E hh (C := RX12) (T := TX12) (N := 32) rfl (by decide) i_X12_readHand_12 (by decide) rfl (List.mem_of_getElem? (i := 3) (by decide +kernel)) rfl dX12_readHand_49 (fun v6 hh => ?_)
    refine rw_if_ne E hh (tgt := 59) (by decide) dX12_readHand_52 (fun hh => ?_) (fun hh => ?_)
    · refine rw_iconst E (v := 0) (by decide) dX12_readHand_59 ?_
      refine rw_iadd E dX12_readHand_60 ?_
      refine rw_iast E hh dX12_readHand_61 (fun S7 hh => ?_)
      exact rw_vret E hrt hlk hh (by decide) (by decide) dX12_readHand_62
    · refine rw_iconst E (v := 1) (by decide) dX12_readHand_55 ?_
      refine rw_goto E (tgt := 60) (by decide) dX12_readHand_56 ?_
      refine rw_iadd E dX12_readHand_60 ?_
      refine rw_iast E hh dX12_readHand_61 (fun S8 hh => ?_)
      exact rw_vret E hrt hlk hh (by decide) (by decide) dX12_readHand_62
  · refine rw_aload_n E (j0 := 0) rfl rfl dX12_readHand_33 ?_
    refine rw_iload_n E (j0 := 1) rfl rfl dX12_readHand_34 ?_
    refine rw_cVv E (As := [.int l1]) hh (by decide) rfl (fun _ _ hq => c_X12_readRule l b0 G _ _ _ _ hq) (cwV 1 E.2.2.2.2.1 gX12_readHand_X12_readRule rfl rfl rfl (by decide +kernel) ⟨Nat.le_of_ble_eq_true rfl, Nat.le_of_ble_eq_true rfl⟩) rfl rfl (by (try simp only [List.map_cons, List.map_nil, List.sum_cons, List.sum_nil, hrf_cat, cat_i, cat_l, cat_r]) <;> decide) ⟨Nat.le_of_ble_eq_true rfl, Nat.le_of_ble_eq_true rfl⟩ dX12_readHand_35 (fun S9 hh => ?_)
    refine rw_goto E (tgt := 22) (by decide) dX12_readHand_38 ?_
    refine WH.pick [0, 1] rfl ?_
    exact hj22 _ _ hh
def s_X12_readHand_L22 (h : Nat) : Nat → HS → Int32 → Option (HS)
  | 0 => fun _ _ => none
  | n + 1 => s_X12_readHand_b22 (s_X12_readHand_L22 h n) h
set_option maxHeartbeats 4000000 in
set_option maxRecDepth 100000 in
theorem w_X12_readHand_L22 {p : Program} {l : Launch} {e : Env} {s : State} {m : MethodId} {args : Array Value} {below : List Frame} {meth : Method} {c : Code} {b0 : Nat} {G : hG} {S1 : HS} {h : Nat} (E : hE p s m args c b0 G cX12_readHand RX12 2 wsX12_readHand) (hrt : meth.sig.returnType = none) (hlk : meth.locks = false) : ∀ (n : Nat) (S : HS) (l1 : Int32), s_X12_readHand_L22 h n S l1 = some S1 → WH p l e rm_X12_readHand s m args below meth c b0 G 2 0 0 (MQ below (hQ b0 G none S1) args s 0 0 (hA b0)) S 22 [(0, hrf b0 ((some h))), (1, .int l1)] [] := by
  intro n
  induction n with
  | zero => intro _ _ hh; exact absurd hh (by simp [s_X12_readHand_L22])
  | succ n ih => intro _ _ hh; exact w_X12_readHand_b22 E hrt hlk  ih hh
def s_X12_readHand (S : HS) (h : Nat) : Option (HS) := kO S ((some h)) 12 (fun a2 => kcv (s_X12_begins S a2 2) (fun S1 => kP S1 ((some h)) 12 6 (fun v3 => kA S1 v3 14 2 (fun v4 => kO S1 ((some h)) 12 (fun a6 => kcv (s_X12_mustEnd S1 a6 ) (fun S5 => s_X12_readHand_L22 h 100000 S5 (31 + (25 * v4))))))))
set_option maxHeartbeats 4000000 in
set_option maxRecDepth 100000 in
theorem c_X12_readHand (l : Launch) (b0 : Nat) (G : hG) (S S1 : HS) (h : Nat) (hh : s_X12_readHand S h  = some S1) : MH l yX12_readHand wsX12_readHand rm_X12_readHand b0 G S [hrf b0 (some h)] none S1 0 0 := by
  refine MH.ofW (cc := cX12_readHand) (maxL := 2) (ret := none) (own := RX12) (lv0 := [(0, hrf b0 ((some h)))]) (by decide) rfl rfl (Nat.le_of_ble_eq_true rfl) rfl ?_
  intro p e s m args below meth c E hrt hlk hnm
  have hh : (kO S ((some h)) 12 (fun a2 => kcv (s_X12_begins S a2 2) (fun S1 => kP S1 ((some h)) 12 6 (fun v3 => kA S1 v3 14 2 (fun v4 => kO S1 ((some h)) 12 (fun a6 => kcv (s_X12_mustEnd S1 a6 ) (fun S5 => s_X12_readHand_L22 h 100000 S5 (31 + (25 * v4))))))))) = some S1 := hh
  refine rw_aload_n E (j0 := 0) rfl rfl dX12_readHand_0 ?_
  refine rw_iconst E (v := 2) (by decide) dX12_readHand_1 ?_
  refine rw_cVv E (As := [.int 2]) hh (by decide) rfl (fun _ _ hq => c_X12_begins l b0 G _ _ _ _ hq) (cwV 1 E.2.2.2.2.1 gX12_readHand_X12_begins rfl rfl rfl (by decide +kernel) ⟨Nat.le_of_ble_eq_true rfl, Nat.le_of_ble_eq_true rfl⟩) rfl rfl (by (try simp only [List.map_cons, List.map_nil, List.sum_cons, List.sum_nil, hrf_cat, cat_i, cat_l, cat_r]) <;> decide) ⟨Nat.le_of_ble_eq_true rfl, Nat.le_of_ble_eq_true rfl⟩ dX12_readHand_2 (fun S1 hh => ?_)
  refine rw_bipush E (v := 31) (by decide) dX12_readHand_5 ?_
  refine rw_bipush E (v := 25) (by decide) dX12_readHand_7 ?_
  refine rw_aload_n E (j0 := 0) rfl rfl dX12_readHand_9 ?_
  refine rw_getP E hh (C := RX12) (T := TX12) (N := 32) rfl (by decide) i_X12_readHand_12 (by decide) rfl (List.mem_of_getElem? (i := 1) (by decide +kernel)) rfl dX12_readHand_10 (fun v3 hh => ?_)
  refine rw_iconst E (v := 2) (by decide) dX12_readHand_13 ?_
  refine rw_iald E hh dX12_readHand_14 (fun v4 hh => ?_)
  refine rw_imul E dX12_readHand_15 ?_
  refine rw_iadd E dX12_readHand_16 ?_
  refine rw_istore_n E (lv2 := [(1, .int (31 + (25 * v4))), (0, hrf b0 ((some h)))]) rfl (by decide) rfl dX12_readHand_17 ?_
  refine rw_aload_n E (j0 := 1) rfl rfl dX12_readHand_18 ?_
  refine rw_cVv E (As := []) hh (by decide) rfl (fun _ _ hq => c_X12_mustEnd l b0 G _ _ _ hq) (cwV 0 E.2.2.2.2.1 gX12_readHand_X12_mustEnd rfl rfl rfl (by decide +kernel) ⟨Nat.le_of_ble_eq_true rfl, Nat.le_of_ble_eq_true rfl⟩) rfl rfl (by (try simp only [List.map_cons, List.map_nil, List.sum_cons, List.sum_nil, hrf_cat, cat_i, cat_l, cat_r]) <;> decide) ⟨Nat.le_of_ble_eq_true rfl, Nat.le_of_ble_eq_true rfl⟩ dX12_readHand_19 (fun S5 hh => ?_)
  refine WH.pick [1, 0] rfl ?_
  exact w_X12_readHand_L22 E hrt hlk 100000 _ _ hh

/-! HummingDiscModel.mustBegin(J)V -/
abbrev rm_X12_mustBegin : Room := { frames := 1, cells := 0, slots := 0, locals := 23 }
def s_X12_mustBegin (S : HS) (h : Nat) (l1 : Int64) : Option (HS) := kO S ((some h)) 12 (fun a3 => kc (s_X12_word S a3 ) (fun v2 S1 => if v2 = l1 then (some S1) else (kO S1 ((some h)) 12 (fun a5 => kcv (s_X12_bad S1 a5 1) (fun S4 => some S4)))))
set_option maxHeartbeats 4000000 in
set_option maxRecDepth 100000 in
theorem c_X12_mustBegin (l : Launch) (b0 : Nat) (G : hG) (S S1 : HS) (h : Nat) (l1 : Int64) (hh : s_X12_mustBegin S h l1 = some S1) : MH l yX12_mustBegin wsX12_mustBegin rm_X12_mustBegin b0 G S [hrf b0 (some h), .long l1] none S1 0 0 := by
  refine MH.ofW (cc := cX12_mustBegin) (maxL := 3) (ret := none) (own := RX12) (lv0 := [(0, hrf b0 ((some h))), (1, .long l1)]) (by decide) rfl rfl (Nat.le_of_ble_eq_true rfl) rfl ?_
  intro p e s m args below meth c E hrt hlk hnm
  have hh : (kO S ((some h)) 12 (fun a3 => kc (s_X12_word S a3 ) (fun v2 S1 => if v2 = l1 then (some S1) else (kO S1 ((some h)) 12 (fun a5 => kcv (s_X12_bad S1 a5 1) (fun S4 => some S4)))))) = some S1 := hh
  refine rw_aload_n E (j0 := 0) rfl rfl dX12_mustBegin_0 ?_
  refine rw_cVl E (As := []) hh (by decide) rfl (fun _ _ _ hq => c_X12_word l b0 G _ _ _ _ hq) (cwV 0 E.2.2.2.2.1 gX12_mustBegin_X12_word rfl rfl rfl (by decide +kernel) ⟨Nat.le_of_ble_eq_true rfl, Nat.le_of_ble_eq_true rfl⟩) rfl rfl (by (try simp only [List.map_cons, List.map_nil, List.sum_cons, List.sum_nil, hrf_cat, cat_i, cat_l, cat_r]) <;> decide) ⟨Nat.le_of_ble_eq_true rfl, Nat.le_of_ble_eq_true rfl⟩ dX12_mustBegin_1 (fun v2 S1 hh => ?_)
  refine rw_lload_n E (j0 := 1) rfl rfl dX12_mustBegin_4 ?_
  refine rw_leq E hh (tgt := 14) (by decide) dX12_mustBegin_5 dX12_mustBegin_6 (fun hh => ?_) (fun hh => ?_)
  · exact rw_vret E hrt hlk hh (by decide) (by decide) dX12_mustBegin_14
  · refine rw_aload_n E (j0 := 0) rfl rfl dX12_mustBegin_9 ?_
    refine rw_iconst E (v := 1) (by decide) dX12_mustBegin_10 ?_
    refine rw_cVv E (As := [.int 1]) hh (by decide) rfl (fun _ _ hq => c_X12_bad l b0 G _ _ _ _ hq) (cwV 1 E.2.2.2.2.1 gX12_mustBegin_X12_bad rfl rfl rfl (by decide +kernel) ⟨Nat.le_of_ble_eq_true rfl, Nat.le_of_ble_eq_true rfl⟩) rfl rfl (by (try simp only [List.map_cons, List.map_nil, List.sum_cons, List.sum_nil, hrf_cat, cat_i, cat_l, cat_r]) <;> decide) ⟨Nat.le_of_ble_eq_true rfl, Nat.le_of_ble_eq_true rfl⟩ dX12_mustBegin_11 (fun S4 hh => ?_)
    exact rw_vret E hrt hlk hh (by decide) (by decide) dX12_mustBegin_14

/-! HummingDiscModel.box()I -/
abbrev rm_X12_box : Room := { frames := 7, cells := 0, slots := 0, locals := 160 }
theorem i_X12_box_12 : ∀ w ∈ wsX120, w ∈ wsX12_box := fun _ h => List.mem_cons_of_mem _ (List.mem_append_right _ (h))
def s_X12_box_b206 (j206 : HS → Int32 → Option (Int32 × HS)) (h : Nat) (S : HS) (l1 : Int32) : Option (Int32 × HS) := if 12 ≤ l1 then (kP S ((some h)) 12 5 (fun v1 => kA S v1 14 0 (fun v2 => some (v2, S)))) else (kP S ((some h)) 12 24 (fun v3 => kwA S v3 14 l1 0 (fun S4 => j206 S4 (l1 + 1))))
set_option maxHeartbeats 4000000 in
set_option maxRecDepth 100000 in
theorem w_X12_box_b206 {p : Program} {l : Launch} {e : Env} {s : State} {m : MethodId} {args : Array Value} {below : List Frame} {meth : Method} {c : Code} {b0 : Nat} {G : hG} {S1 : HS} {r : Int32} {j206 : HS → Int32 → Option (Int32 × HS)} {h : Nat} {S : HS} {l1 : Int32} (E : hE p s m args c b0 G cX12_box RX12 2 wsX12_box) (hrt : meth.sig.returnType = (some .int)) (hlk : meth.locks = false) (hj206 : ∀ (S : HS) (l1 : Int32), j206 S l1 = some (r, S1) → WH p l e rm_X12_box s m args below meth c b0 G 2 0 0 (MQ below (hQ b0 G (some (.int r)) S1) args s 0 0 (hA b0)) S 206 [(0, hrf b0 ((some h))), (1, .int l1)] []) (hh : s_X12_box_b206 j206 h S l1 = some (r, S1)) : WH p l e rm_X12_box s m args below meth c b0 G 2 0 0 (MQ below (hQ b0 G (some (.int r)) S1) args s 0 0 (hA b0)) S 206 [(0, hrf b0 ((some h))), (1, .int l1)] [] := by
  have hh : (if 12 ≤ l1 then (kP S ((some h)) 12 5 (fun v1 => kA S v1 14 0 (fun v2 => some (v2, S)))) else (kP S ((some h)) 12 24 (fun v3 => kwA S v3 14 l1 0 (fun S4 => j206 S4 (l1 + 1))))) = some (r, S1) := hh
  refine rw_iload_n E (j0 := 1) rfl rfl dX12_box_206 ?_
  refine rw_bipush E (v := 12) (by decide) dX12_box_207 ?_
  refine rw_icmp_ge E hh (tgt := 225) (by decide) dX12_box_209 (fun hh => ?_) (fun hh => ?_)
  · refine rw_aload_n E (j0 := 0) rfl rfl dX12_box_225 ?_
    refine rw_getP E hh (C := RX12) (T := TX12) (N := 32) rfl (by decide) i_X12_box_12 (by decide) rfl (List.mem_of_getElem? (i := 15) (by decide +kernel)) rfl dX12_box_226 (fun v1 hh => ?_)
    refine rw_iconst E (v := 0) (by decide) dX12_box_229 ?_
    refine rw_iald E hh dX12_box_230 (fun v2 hh => ?_)
    exact rw_iret E hrt hlk hh (by decide) (by decide) dX12_box_231
  · refine rw_aload_n E (j0 := 0) rfl rfl dX12_box_212 ?_
    refine rw_getP E hh (C := RX12) (T := TX12) (N := 32) rfl (by decide) i_X12_box_12 (by decide) rfl (List.mem_of_getElem? (i := 16) (by decide +kernel)) rfl dX12_box_213 (fun v3 hh => ?_)
    refine rw_iload_n E (j0 := 1) rfl rfl dX12_box_216 ?_
    refine rw_iconst E (v := 0) (by decide) dX12_box_217 ?_
    refine rw_iast E hh dX12_box_218 (fun S4 hh => ?_)
    refine rw_iinc E (v := l1 + 1) (lv2 := [(1, .int (l1 + 1)), (0, hrf b0 ((some h)))]) (j0 := 1) rfl rfl (by decide) rfl dX12_box_219 ?_
    refine rw_goto E (tgt := 206) (by decide) dX12_box_222 ?_
    refine WH.pick [1, 0] rfl ?_
    exact hj206 _ _ hh
def s_X12_box_L206 (h : Nat) : Nat → HS → Int32 → Option (Int32 × HS)
  | 0 => fun _ _ => none
  | n + 1 => s_X12_box_b206 (s_X12_box_L206 h n) h
set_option maxHeartbeats 4000000 in
set_option maxRecDepth 100000 in
theorem w_X12_box_L206 {p : Program} {l : Launch} {e : Env} {s : State} {m : MethodId} {args : Array Value} {below : List Frame} {meth : Method} {c : Code} {b0 : Nat} {G : hG} {S1 : HS} {r : Int32} {h : Nat} (E : hE p s m args c b0 G cX12_box RX12 2 wsX12_box) (hrt : meth.sig.returnType = (some .int)) (hlk : meth.locks = false) : ∀ (n : Nat) (S : HS) (l1 : Int32), s_X12_box_L206 h n S l1 = some (r, S1) → WH p l e rm_X12_box s m args below meth c b0 G 2 0 0 (MQ below (hQ b0 G (some (.int r)) S1) args s 0 0 (hA b0)) S 206 [(0, hrf b0 ((some h))), (1, .int l1)] [] := by
  intro n
  induction n with
  | zero => intro _ _ hh; exact absurd hh (by simp [s_X12_box_L206])
  | succ n ih => intro _ _ hh; exact w_X12_box_b206 E hrt hlk  ih hh
def s_X12_box_b179 (j179 : HS → Int32 → Option (Int32 × HS)) (h : Nat) (S : HS) (l1 : Int32) : Option (Int32 × HS) := if 131 ≤ l1 then (s_X12_box_L206 h 100000 S 0) else (kP S ((some h)) 12 5 (fun v1 => kP S ((some h)) 12 6 (fun v2 => kA S v2 14 l1 (fun v3 => kwA S v1 14 l1 v3 (fun S4 => j179 S4 (l1 + 1))))))
set_option maxHeartbeats 4000000 in
set_option maxRecDepth 100000 in
theorem w_X12_box_b179 {p : Program} {l : Launch} {e : Env} {s : State} {m : MethodId} {args : Array Value} {below : List Frame} {meth : Method} {c : Code} {b0 : Nat} {G : hG} {S1 : HS} {r : Int32} {j179 : HS → Int32 → Option (Int32 × HS)} {h : Nat} {S : HS} {l1 : Int32} (E : hE p s m args c b0 G cX12_box RX12 2 wsX12_box) (hrt : meth.sig.returnType = (some .int)) (hlk : meth.locks = false) (hj179 : ∀ (S : HS) (l1 : Int32), j179 S l1 = some (r, S1) → WH p l e rm_X12_box s m args below meth c b0 G 2 0 0 (MQ below (hQ b0 G (some (.int r)) S1) args s 0 0 (hA b0)) S 179 [(0, hrf b0 ((some h))), (1, .int l1)] []) (hh : s_X12_box_b179 j179 h S l1 = some (r, S1)) : WH p l e rm_X12_box s m args below meth c b0 G 2 0 0 (MQ below (hQ b0 G (some (.int r)) S1) args s 0 0 (hA b0)) S 179 [(0, hrf b0 ((some h))), (1, .int l1)] [] := by
  have hh : (if 131 ≤ l1 then (s_X12_box_L206 h 100000 S 0) else (kP S ((some h)) 12 5 (fun v1 => kP S ((some h)) 12 6 (fun v2 => kA S v2 14 l1 (fun v3 => kwA S v1 14 l1 v3 (fun S4 => j179 S4 (l1 + 1))))))) = some (r, S1) := hh
  refine rw_iload_n E (j0 := 1) rfl rfl dX12_box_179 ?_
  refine rw_sipush E (v := 131) (by decide) dX12_box_180 ?_
  refine rw_icmp_ge E hh (tgt := 204) (by decide) dX12_box_183 (fun hh => ?_) (fun hh => ?_)
  · refine rw_iconst E (v := 0) (by decide) dX12_box_204 ?_
    refine rw_istore_n E (lv2 := [(1, .int 0), (0, hrf b0 ((some h)))]) rfl (by decide) rfl dX12_box_205 ?_
    refine WH.pick [1, 0] rfl ?_
    exact w_X12_box_L206 E hrt hlk 100000 _ _ hh
  · refine rw_aload_n E (j0 := 0) rfl rfl dX12_box_186 ?_
    refine rw_getP E hh (C := RX12) (T := TX12) (N := 32) rfl (by decide) i_X12_box_12 (by decide) rfl (List.mem_of_getElem? (i := 15) (by decide +kernel)) rfl dX12_box_187 (fun v1 hh => ?_)
    refine rw_iload_n E (j0 := 1) rfl rfl dX12_box_190 ?_
    refine rw_aload_n E (j0 := 0) rfl rfl dX12_box_191 ?_
    refine rw_getP E hh (C := RX12) (T := TX12) (N := 32) rfl (by decide) i_X12_box_12 (by decide) rfl (List.mem_of_getElem? (i := 6) (by decide +kernel)) rfl dX12_box_192 (fun v2 hh => ?_)
    refine rw_iload_n E (j0 := 1) rfl rfl dX12_box_195 ?_
    refine rw_iald E hh dX12_box_196 (fun v3 hh => ?_)
    refine rw_iast E hh dX12_box_197 (fun S4 hh => ?_)
    refine rw_iinc E (v := l1 + 1) (lv2 := [(1, .int (l1 + 1)), (0, hrf b0 ((some h)))]) (j0 := 1) rfl rfl (by decide) rfl dX12_box_198 ?_
    refine rw_goto E (tgt := 179) (by decide) dX12_box_201 ?_
    refine WH.pick [1, 0] rfl ?_
    exact hj179 _ _ hh
def s_X12_box_L179 (h : Nat) : Nat → HS → Int32 → Option (Int32 × HS)
  | 0 => fun _ _ => none
  | n + 1 => s_X12_box_b179 (s_X12_box_L179 h n) h
set_option maxHeartbeats 4000000 in
set_option maxRecDepth 100000 in
theorem w_X12_box_L179 {p : Program} {l : Launch} {e : Env} {s : State} {m : MethodId} {args : Array Value} {below : List Frame} {meth : Method} {c : Code} {b0 : Nat} {G : hG} {S1 : HS} {r : Int32} {h : Nat} (E : hE p s m args c b0 G cX12_box RX12 2 wsX12_box) (hrt : meth.sig.returnType = (some .int)) (hlk : meth.locks = false) : ∀ (n : Nat) (S : HS) (l1 : Int32), s_X12_box_L179 h n S l1 = some (r, S1) → WH p l e rm_X12_box s m args below meth c b0 G 2 0 0 (MQ below (hQ b0 G (some (.int r)) S1) args s 0 0 (hA b0)) S 179 [(0, hrf b0 ((some h))), (1, .int l1)] [] := by
  intro n
  induction n with
  | zero => intro _ _ hh; exact absurd hh (by simp [s_X12_box_L179])
  | succ n ih => intro _ _ hh; exact w_X12_box_b179 E hrt hlk  ih hh
def s_X12_box_b149 (h : Nat) (S : HS) : Option (Int32 × HS) := kI S ((some h)) 12 17 (fun v1 => if v1 ≤ 0 then (kwZ S ((some h)) 12 7 1 (fun S2 => s_X12_box_L179 h 100000 S2 0)) else (kI S ((some h)) 12 17 (fun v3 => kwI S ((some h)) 12 10 v3 (fun S4 => kI S4 ((some h)) 12 18 (fun v5 => some (((-1000100)) - v5, S4))))))
set_option maxHeartbeats 4000000 in
set_option maxRecDepth 100000 in
theorem w_X12_box_b149 {p : Program} {l : Launch} {e : Env} {s : State} {m : MethodId} {args : Array Value} {below : List Frame} {meth : Method} {c : Code} {b0 : Nat} {G : hG} {S1 : HS} {r : Int32} {h : Nat} {S : HS} (E : hE p s m args c b0 G cX12_box RX12 2 wsX12_box) (hrt : meth.sig.returnType = (some .int)) (hlk : meth.locks = false) (hh : s_X12_box_b149 h S = some (r, S1)) : WH p l e rm_X12_box s m args below meth c b0 G 2 0 0 (MQ below (hQ b0 G (some (.int r)) S1) args s 0 0 (hA b0)) S 149 [(0, hrf b0 ((some h)))] [] := by
  have hh : (kI S ((some h)) 12 17 (fun v1 => if v1 ≤ 0 then (kwZ S ((some h)) 12 7 1 (fun S2 => s_X12_box_L179 h 100000 S2 0)) else (kI S ((some h)) 12 17 (fun v3 => kwI S ((some h)) 12 10 v3 (fun S4 => kI S4 ((some h)) 12 18 (fun v5 => some (((-1000100)) - v5, S4))))))) = some (r, S1) := hh
  refine rw_aload_n E (j0 := 0) rfl rfl dX12_box_149 ?_
  refine rw_getI E hh (C := RX12) (T := TX12) (N := 32) rfl (by decide) i_X12_box_12 (by decide) rfl (List.mem_of_getElem? (i := 5) (by decide +kernel)) rfl dX12_box_150 (fun v1 hh => ?_)
  refine rw_if_le E hh (tgt := 172) (by decide) dX12_box_153 (fun hh => ?_) (fun hh => ?_)
  · refine rw_aload_n E (j0 := 0) rfl rfl dX12_box_172 ?_
    refine rw_iconst E (v := 1) (by decide) dX12_box_173 ?_
    refine rw_putZ E hh (C := RX12) (T := TX12) (N := 32) (ty0 := tyX12) rfl tyX12_ok nmX12 (by decide) i_X12_box_12 (by decide) rfl (List.mem_of_getElem? (i := 14) (by decide +kernel)) rfl (Or.inl rfl) rfl dX12_box_174 (fun S2 hh => ?_)
    refine rw_iconst E (v := 0) (by decide) dX12_box_177 ?_
    refine rw_istore_n E (lv2 := [(1, .int 0), (0, hrf b0 ((some h)))]) rfl (by decide) rfl dX12_box_178 ?_
    refine WH.pick [1, 0] rfl ?_
    exact w_X12_box_L179 E hrt hlk 100000 _ _ hh
  · refine rw_aload_n E (j0 := 0) rfl rfl dX12_box_156 ?_
    refine rw_aload_n E (j0 := 0) rfl rfl dX12_box_157 ?_
    refine rw_getI E hh (C := RX12) (T := TX12) (N := 32) rfl (by decide) i_X12_box_12 (by decide) rfl (List.mem_of_getElem? (i := 5) (by decide +kernel)) rfl dX12_box_158 (fun v3 hh => ?_)
    refine rw_putI E hh (C := RX12) (T := TX12) (N := 32) (ty0 := tyX12) rfl tyX12_ok nmX12 (by decide) i_X12_box_12 (by decide) rfl (List.mem_of_getElem? (i := 11) (by decide +kernel)) rfl (Or.inl rfl) rfl dX12_box_161 (fun S4 hh => ?_)
    refine rw_ldc E (v := (-1000100)) (List.mem_of_getElem? (i := 12) (by decide +kernel)) dX12_box_164 ?_
    refine rw_aload_n E (j0 := 0) rfl rfl dX12_box_166 ?_
    refine rw_getI E hh (C := RX12) (T := TX12) (N := 32) rfl (by decide) i_X12_box_12 (by decide) rfl (List.mem_of_getElem? (i := 13) (by decide +kernel)) rfl dX12_box_167 (fun v5 hh => ?_)
    refine rw_isub E dX12_box_170 ?_
    exact rw_iret E hrt hlk hh (by decide) (by decide) dX12_box_171
def s_X12_box_b111 (j111 : HS → Option (Int32 × HS)) (h : Nat) (S : HS) : Option (Int32 × HS) := kO S ((some h)) 12 (fun a3 => kc (s_X12_word S a3 ) (fun v2 S1 => if v2 = 1751215716 then (kO S1 ((some h)) 12 (fun a9 => kcv (s_X12_readHand S1 a9 ) (fun S8 => j111 S8))) else (kI S1 ((some h)) 12 17 (fun v4 => if v4 = 0 then (kI S1 ((some h)) 12 13 (fun v5 => if v5 = 1 then (s_X12_box_b149 h S1) else (kO S1 ((some h)) 12 (fun a7 => kcv (s_X12_bad S1 a7 1) (fun S6 => s_X12_box_b149 h S6))))) else (s_X12_box_b149 h S1)))))
set_option maxHeartbeats 4000000 in
set_option maxRecDepth 100000 in
theorem w_X12_box_b111 {p : Program} {l : Launch} {e : Env} {s : State} {m : MethodId} {args : Array Value} {below : List Frame} {meth : Method} {c : Code} {b0 : Nat} {G : hG} {S1 : HS} {r : Int32} {j111 : HS → Option (Int32 × HS)} {h : Nat} {S : HS} (E : hE p s m args c b0 G cX12_box RX12 2 wsX12_box) (hrt : meth.sig.returnType = (some .int)) (hlk : meth.locks = false) (hj111 : ∀ (S : HS), j111 S = some (r, S1) → WH p l e rm_X12_box s m args below meth c b0 G 2 0 0 (MQ below (hQ b0 G (some (.int r)) S1) args s 0 0 (hA b0)) S 111 [(0, hrf b0 ((some h)))] []) (hh : s_X12_box_b111 j111 h S = some (r, S1)) : WH p l e rm_X12_box s m args below meth c b0 G 2 0 0 (MQ below (hQ b0 G (some (.int r)) S1) args s 0 0 (hA b0)) S 111 [(0, hrf b0 ((some h)))] [] := by
  have hh : (kO S ((some h)) 12 (fun a3 => kc (s_X12_word S a3 ) (fun v2 S1 => if v2 = 1751215716 then (kO S1 ((some h)) 12 (fun a9 => kcv (s_X12_readHand S1 a9 ) (fun S8 => j111 S8))) else (kI S1 ((some h)) 12 17 (fun v4 => if v4 = 0 then (kI S1 ((some h)) 12 13 (fun v5 => if v5 = 1 then (s_X12_box_b149 h S1) else (kO S1 ((some h)) 12 (fun a7 => kcv (s_X12_bad S1 a7 1) (fun S6 => s_X12_box_b149 h S6))))) else (s_X12_box_b149 h S1)))))) = some (r, S1) := hh
  refine rw_aload_n E (j0 := 0) rfl rfl dX12_box_111 ?_
  refine rw_cVl E (As := []) hh (by decide) rfl (fun _ _ _ hq => c_X12_word l b0 G _ _ _ _ hq) (cwV 0 E.2.2.2.2.1 gX12_box_X12_word rfl rfl rfl (by decide +kernel) ⟨Nat.le_of_ble_eq_true rfl, Nat.le_of_ble_eq_true rfl⟩) rfl rfl (by (try simp only [List.map_cons, List.map_nil, List.sum_cons, List.sum_nil, hrf_cat, cat_i, cat_l, cat_r]) <;> decide) ⟨Nat.le_of_ble_eq_true rfl, Nat.le_of_ble_eq_true rfl⟩ dX12_box_112 (fun v2 S1 hh => ?_)
  refine rw_ldc2 E (v := 1751215716) (List.mem_of_getElem? (i := 9) (by decide +kernel)) dX12_box_115 ?_
  refine rw_lne E hh (tgt := 129) (by decide) dX12_box_118 dX12_box_119 (fun hh => ?_) (fun hh => ?_)
  · refine rw_aload_n E (j0 := 0) rfl rfl dX12_box_129 ?_
    refine rw_getI E hh (C := RX12) (T := TX12) (N := 32) rfl (by decide) i_X12_box_12 (by decide) rfl (List.mem_of_getElem? (i := 5) (by decide +kernel)) rfl dX12_box_130 (fun v4 hh => ?_)
    refine rw_if_ne E hh (tgt := 149) (by decide) dX12_box_133 (fun hh => ?_) (fun hh => ?_)
    · refine WH.pick [0] rfl ?_
      exact w_X12_box_b149 E hrt hlk hh
    · refine rw_aload_n E (j0 := 0) rfl rfl dX12_box_136 ?_
      refine rw_getI E hh (C := RX12) (T := TX12) (N := 32) rfl (by decide) i_X12_box_12 (by decide) rfl (List.mem_of_getElem? (i := 10) (by decide +kernel)) rfl dX12_box_137 (fun v5 hh => ?_)
      refine rw_iconst E (v := 1) (by decide) dX12_box_140 ?_
      refine rw_icmp_eq E hh (tgt := 149) (by decide) dX12_box_141 (fun hh => ?_) (fun hh => ?_)
      · refine WH.pick [0] rfl ?_
        exact w_X12_box_b149 E hrt hlk hh
      · refine rw_aload_n E (j0 := 0) rfl rfl dX12_box_144 ?_
        refine rw_iconst E (v := 1) (by decide) dX12_box_145 ?_
        refine rw_cVv E (As := [.int 1]) hh (by decide) rfl (fun _ _ hq => c_X12_bad l b0 G _ _ _ _ hq) (cwV 1 E.2.2.2.2.1 gX12_box_X12_bad rfl rfl rfl (by decide +kernel) ⟨Nat.le_of_ble_eq_true rfl, Nat.le_of_ble_eq_true rfl⟩) rfl rfl (by (try simp only [List.map_cons, List.map_nil, List.sum_cons, List.sum_nil, hrf_cat, cat_i, cat_l, cat_r]) <;> decide) ⟨Nat.le_of_ble_eq_true rfl, Nat.le_of_ble_eq_true rfl⟩ dX12_box_146 (fun S6 hh => ?_)
        refine WH.pick [0] rfl ?_
        exact w_X12_box_b149 E hrt hlk hh
  · refine rw_aload_n E (j0 := 0) rfl rfl dX12_box_122 ?_
    refine rw_cVv E (As := []) hh (by decide) rfl (fun _ _ hq => c_X12_readHand l b0 G _ _ _ hq) (cwV 0 E.2.2.2.2.1 gX12_box_X12_readHand rfl rfl rfl (by decide +kernel) ⟨Nat.le_of_ble_eq_true rfl, Nat.le_of_ble_eq_true rfl⟩) rfl rfl (by (try simp only [List.map_cons, List.map_nil, List.sum_cons, List.sum_nil, hrf_cat, cat_i, cat_l, cat_r]) <;> decide) ⟨Nat.le_of_ble_eq_true rfl, Nat.le_of_ble_eq_true rfl⟩ dX12_box_123 (fun S8 hh => ?_)
    refine rw_goto E (tgt := 111) (by decide) dX12_box_126 ?_
    refine WH.pick [0] rfl ?_
    exact hj111 _ hh
def s_X12_box_L111 (h : Nat) : Nat → HS → Option (Int32 × HS)
  | 0 => fun _ => none
  | n + 1 => s_X12_box_b111 (s_X12_box_L111 h n) h
set_option maxHeartbeats 4000000 in
set_option maxRecDepth 100000 in
theorem w_X12_box_L111 {p : Program} {l : Launch} {e : Env} {s : State} {m : MethodId} {args : Array Value} {below : List Frame} {meth : Method} {c : Code} {b0 : Nat} {G : hG} {S1 : HS} {r : Int32} {h : Nat} (E : hE p s m args c b0 G cX12_box RX12 2 wsX12_box) (hrt : meth.sig.returnType = (some .int)) (hlk : meth.locks = false) : ∀ (n : Nat) (S : HS), s_X12_box_L111 h n S = some (r, S1) → WH p l e rm_X12_box s m args below meth c b0 G 2 0 0 (MQ below (hQ b0 G (some (.int r)) S1) args s 0 0 (hA b0)) S 111 [(0, hrf b0 ((some h)))] [] := by
  intro n
  induction n with
  | zero => intro _ hh; exact absurd hh (by simp [s_X12_box_L111])
  | succ n ih => intro _ hh; exact w_X12_box_b111 E hrt hlk  ih hh
def s_X12_box_b86 (j86 : HS → Option (Int32 × HS)) (h : Nat) (S : HS) : Option (Int32 × HS) := kO S ((some h)) 12 (fun a3 => kc (s_X12_word S a3 ) (fun v2 S1 => if v2 = 127991944667492 then (kO S1 ((some h)) 12 (fun a7 => kcv (s_X12_readThread S1 a7 ) (fun S6 => j86 S6))) else (kO S1 ((some h)) 12 (fun a5 => kcv (s_X12_mustBegin S1 a5 1751215716) (fun S4 => s_X12_box_L111 h 100000 S4)))))
set_option maxHeartbeats 4000000 in
set_option maxRecDepth 100000 in
theorem w_X12_box_b86 {p : Program} {l : Launch} {e : Env} {s : State} {m : MethodId} {args : Array Value} {below : List Frame} {meth : Method} {c : Code} {b0 : Nat} {G : hG} {S1 : HS} {r : Int32} {j86 : HS → Option (Int32 × HS)} {h : Nat} {S : HS} (E : hE p s m args c b0 G cX12_box RX12 2 wsX12_box) (hrt : meth.sig.returnType = (some .int)) (hlk : meth.locks = false) (hj86 : ∀ (S : HS), j86 S = some (r, S1) → WH p l e rm_X12_box s m args below meth c b0 G 2 0 0 (MQ below (hQ b0 G (some (.int r)) S1) args s 0 0 (hA b0)) S 86 [(0, hrf b0 ((some h)))] []) (hh : s_X12_box_b86 j86 h S = some (r, S1)) : WH p l e rm_X12_box s m args below meth c b0 G 2 0 0 (MQ below (hQ b0 G (some (.int r)) S1) args s 0 0 (hA b0)) S 86 [(0, hrf b0 ((some h)))] [] := by
  have hh : (kO S ((some h)) 12 (fun a3 => kc (s_X12_word S a3 ) (fun v2 S1 => if v2 = 127991944667492 then (kO S1 ((some h)) 12 (fun a7 => kcv (s_X12_readThread S1 a7 ) (fun S6 => j86 S6))) else (kO S1 ((some h)) 12 (fun a5 => kcv (s_X12_mustBegin S1 a5 1751215716) (fun S4 => s_X12_box_L111 h 100000 S4)))))) = some (r, S1) := hh
  refine rw_aload_n E (j0 := 0) rfl rfl dX12_box_86 ?_
  refine rw_cVl E (As := []) hh (by decide) rfl (fun _ _ _ hq => c_X12_word l b0 G _ _ _ _ hq) (cwV 0 E.2.2.2.2.1 gX12_box_X12_word rfl rfl rfl (by decide +kernel) ⟨Nat.le_of_ble_eq_true rfl, Nat.le_of_ble_eq_true rfl⟩) rfl rfl (by (try simp only [List.map_cons, List.map_nil, List.sum_cons, List.sum_nil, hrf_cat, cat_i, cat_l, cat_r]) <;> decide) ⟨Nat.le_of_ble_eq_true rfl, Nat.le_of_ble_eq_true rfl⟩ dX12_box_87 (fun v2 S1 hh => ?_)
  refine rw_ldc2 E (v := 127991944667492) (List.mem_of_getElem? (i := 8) (by decide +kernel)) dX12_box_90 ?_
  refine rw_lne E hh (tgt := 104) (by decide) dX12_box_93 dX12_box_94 (fun hh => ?_) (fun hh => ?_)
  · refine rw_aload_n E (j0 := 0) rfl rfl dX12_box_104 ?_
    refine rw_ldc2 E (v := 1751215716) (List.mem_of_getElem? (i := 9) (by decide +kernel)) dX12_box_105 ?_
    refine rw_cVv E (As := [.long 1751215716]) hh (by decide) rfl (fun _ _ hq => c_X12_mustBegin l b0 G _ _ _ _ hq) (cwV 1 E.2.2.2.2.1 gX12_box_X12_mustBegin rfl rfl rfl (by decide +kernel) ⟨Nat.le_of_ble_eq_true rfl, Nat.le_of_ble_eq_true rfl⟩) rfl rfl (by (try simp only [List.map_cons, List.map_nil, List.sum_cons, List.sum_nil, hrf_cat, cat_i, cat_l, cat_r]) <;> decide) ⟨Nat.le_of_ble_eq_true rfl, Nat.le_of_ble_eq_true rfl⟩ dX12_box_108 (fun S4 hh => ?_)
    refine WH.pick [0] rfl ?_
    exact w_X12_box_L111 E hrt hlk 100000 _ hh
  · refine rw_aload_n E (j0 := 0) rfl rfl dX12_box_97 ?_
    refine rw_cVv E (As := []) hh (by decide) rfl (fun _ _ hq => c_X12_readThread l b0 G _ _ _ hq) (cwV 0 E.2.2.2.2.1 gX12_box_X12_readThread rfl rfl rfl (by decide +kernel) ⟨Nat.le_of_ble_eq_true rfl, Nat.le_of_ble_eq_true rfl⟩) rfl rfl (by (try simp only [List.map_cons, List.map_nil, List.sum_cons, List.sum_nil, hrf_cat, cat_i, cat_l, cat_r]) <;> decide) ⟨Nat.le_of_ble_eq_true rfl, Nat.le_of_ble_eq_true rfl⟩ dX12_box_98 (fun S6 hh => ?_)
    refine rw_goto E (tgt := 86) (by decide) dX12_box_101 ?_
    refine WH.pick [0] rfl ?_
    exact hj86 _ hh
def s_X12_box_L86 (h : Nat) : Nat → HS → Option (Int32 × HS)
  | 0 => fun _ => none
  | n + 1 => s_X12_box_b86 (s_X12_box_L86 h n) h
set_option maxHeartbeats 4000000 in
set_option maxRecDepth 100000 in
theorem w_X12_box_L86 {p : Program} {l : Launch} {e : Env} {s : State} {m : MethodId} {args : Array Value} {below : List Frame} {meth : Method} {c : Code} {b0 : Nat} {G : hG} {S1 : HS} {r : Int32} {h : Nat} (E : hE p s m args c b0 G cX12_box RX12 2 wsX12_box) (hrt : meth.sig.returnType = (some .int)) (hlk : meth.locks = false) : ∀ (n : Nat) (S : HS), s_X12_box_L86 h n S = some (r, S1) → WH p l e rm_X12_box s m args below meth c b0 G 2 0 0 (MQ below (hQ b0 G (some (.int r)) S1) args s 0 0 (hA b0)) S 86 [(0, hrf b0 ((some h)))] [] := by
  intro n
  induction n with
  | zero => intro _ hh; exact absurd hh (by simp [s_X12_box_L86])
  | succ n ih => intro _ hh; exact w_X12_box_b86 E hrt hlk  ih hh
def s_X12_box_b61 (j61 : HS → Option (Int32 × HS)) (h : Nat) (S : HS) : Option (Int32 × HS) := kO S ((some h)) 12 (fun a3 => kc (s_X12_word S a3 ) (fun v2 S1 => if v2 = 1684632419 then (kO S1 ((some h)) 12 (fun a7 => kcv (s_X12_readDisc S1 a7 ) (fun S6 => j61 S6))) else (kO S1 ((some h)) 12 (fun a5 => kcv (s_X12_mustBegin S1 a5 127991944667492) (fun S4 => s_X12_box_L86 h 100000 S4)))))
set_option maxHeartbeats 4000000 in
set_option maxRecDepth 100000 in
theorem w_X12_box_b61 {p : Program} {l : Launch} {e : Env} {s : State} {m : MethodId} {args : Array Value} {below : List Frame} {meth : Method} {c : Code} {b0 : Nat} {G : hG} {S1 : HS} {r : Int32} {j61 : HS → Option (Int32 × HS)} {h : Nat} {S : HS} (E : hE p s m args c b0 G cX12_box RX12 2 wsX12_box) (hrt : meth.sig.returnType = (some .int)) (hlk : meth.locks = false) (hj61 : ∀ (S : HS), j61 S = some (r, S1) → WH p l e rm_X12_box s m args below meth c b0 G 2 0 0 (MQ below (hQ b0 G (some (.int r)) S1) args s 0 0 (hA b0)) S 61 [(0, hrf b0 ((some h)))] []) (hh : s_X12_box_b61 j61 h S = some (r, S1)) : WH p l e rm_X12_box s m args below meth c b0 G 2 0 0 (MQ below (hQ b0 G (some (.int r)) S1) args s 0 0 (hA b0)) S 61 [(0, hrf b0 ((some h)))] [] := by
  have hh : (kO S ((some h)) 12 (fun a3 => kc (s_X12_word S a3 ) (fun v2 S1 => if v2 = 1684632419 then (kO S1 ((some h)) 12 (fun a7 => kcv (s_X12_readDisc S1 a7 ) (fun S6 => j61 S6))) else (kO S1 ((some h)) 12 (fun a5 => kcv (s_X12_mustBegin S1 a5 127991944667492) (fun S4 => s_X12_box_L86 h 100000 S4)))))) = some (r, S1) := hh
  refine rw_aload_n E (j0 := 0) rfl rfl dX12_box_61 ?_
  refine rw_cVl E (As := []) hh (by decide) rfl (fun _ _ _ hq => c_X12_word l b0 G _ _ _ _ hq) (cwV 0 E.2.2.2.2.1 gX12_box_X12_word rfl rfl rfl (by decide +kernel) ⟨Nat.le_of_ble_eq_true rfl, Nat.le_of_ble_eq_true rfl⟩) rfl rfl (by (try simp only [List.map_cons, List.map_nil, List.sum_cons, List.sum_nil, hrf_cat, cat_i, cat_l, cat_r]) <;> decide) ⟨Nat.le_of_ble_eq_true rfl, Nat.le_of_ble_eq_true rfl⟩ dX12_box_62 (fun v2 S1 hh => ?_)
  refine rw_ldc2 E (v := 1684632419) (List.mem_of_getElem? (i := 7) (by decide +kernel)) dX12_box_65 ?_
  refine rw_lne E hh (tgt := 79) (by decide) dX12_box_68 dX12_box_69 (fun hh => ?_) (fun hh => ?_)
  · refine rw_aload_n E (j0 := 0) rfl rfl dX12_box_79 ?_
    refine rw_ldc2 E (v := 127991944667492) (List.mem_of_getElem? (i := 8) (by decide +kernel)) dX12_box_80 ?_
    refine rw_cVv E (As := [.long 127991944667492]) hh (by decide) rfl (fun _ _ hq => c_X12_mustBegin l b0 G _ _ _ _ hq) (cwV 1 E.2.2.2.2.1 gX12_box_X12_mustBegin rfl rfl rfl (by decide +kernel) ⟨Nat.le_of_ble_eq_true rfl, Nat.le_of_ble_eq_true rfl⟩) rfl rfl (by (try simp only [List.map_cons, List.map_nil, List.sum_cons, List.sum_nil, hrf_cat, cat_i, cat_l, cat_r]) <;> decide) ⟨Nat.le_of_ble_eq_true rfl, Nat.le_of_ble_eq_true rfl⟩ dX12_box_83 (fun S4 hh => ?_)
    refine WH.pick [0] rfl ?_
    exact w_X12_box_L86 E hrt hlk 100000 _ hh
  · refine rw_aload_n E (j0 := 0) rfl rfl dX12_box_72 ?_
    refine rw_cVv E (As := []) hh (by decide) rfl (fun _ _ hq => c_X12_readDisc l b0 G _ _ _ hq) (cwV 0 E.2.2.2.2.1 gX12_box_X12_readDisc rfl rfl rfl (by decide +kernel) ⟨Nat.le_of_ble_eq_true rfl, Nat.le_of_ble_eq_true rfl⟩) rfl rfl (by (try simp only [List.map_cons, List.map_nil, List.sum_cons, List.sum_nil, hrf_cat, cat_i, cat_l, cat_r]) <;> decide) ⟨Nat.le_of_ble_eq_true rfl, Nat.le_of_ble_eq_true rfl⟩ dX12_box_73 (fun S6 hh => ?_)
    refine rw_goto E (tgt := 61) (by decide) dX12_box_76 ?_
    refine WH.pick [0] rfl ?_
    exact hj61 _ hh
def s_X12_box_L61 (h : Nat) : Nat → HS → Option (Int32 × HS)
  | 0 => fun _ => none
  | n + 1 => s_X12_box_b61 (s_X12_box_L61 h n) h
set_option maxHeartbeats 4000000 in
set_option maxRecDepth 100000 in
theorem w_X12_box_L61 {p : Program} {l : Launch} {e : Env} {s : State} {m : MethodId} {args : Array Value} {below : List Frame} {meth : Method} {c : Code} {b0 : Nat} {G : hG} {S1 : HS} {r : Int32} {h : Nat} (E : hE p s m args c b0 G cX12_box RX12 2 wsX12_box) (hrt : meth.sig.returnType = (some .int)) (hlk : meth.locks = false) : ∀ (n : Nat) (S : HS), s_X12_box_L61 h n S = some (r, S1) → WH p l e rm_X12_box s m args below meth c b0 G 2 0 0 (MQ below (hQ b0 G (some (.int r)) S1) args s 0 0 (hA b0)) S 61 [(0, hrf b0 ((some h)))] [] := by
  intro n
  induction n with
  | zero => intro _ hh; exact absurd hh (by simp [s_X12_box_L61])
  | succ n ih => intro _ hh; exact w_X12_box_b61 E hrt hlk  ih hh
def s_X12_box_b30 (j30 : HS → Int32 → Option (Int32 × HS)) (h : Nat) (S : HS) (l1 : Int32) : Option (Int32 × HS) := if 131 ≤ l1 then (kO S ((some h)) 12 (fun a2 => kcv (s_X12_next S a2 ) (fun S1 => kO S1 ((some h)) 12 (fun a4 => kcv (s_X12_mustBegin S1 a4 1684632419) (fun S3 => s_X12_box_L61 h 100000 S3))))) else (kP S ((some h)) 12 6 (fun v5 => kwA S v5 14 l1 0 (fun S6 => j30 S6 (l1 + 1))))
set_option maxHeartbeats 4000000 in
set_option maxRecDepth 100000 in
theorem w_X12_box_b30 {p : Program} {l : Launch} {e : Env} {s : State} {m : MethodId} {args : Array Value} {below : List Frame} {meth : Method} {c : Code} {b0 : Nat} {G : hG} {S1 : HS} {r : Int32} {j30 : HS → Int32 → Option (Int32 × HS)} {h : Nat} {S : HS} {l1 : Int32} (E : hE p s m args c b0 G cX12_box RX12 2 wsX12_box) (hrt : meth.sig.returnType = (some .int)) (hlk : meth.locks = false) (hj30 : ∀ (S : HS) (l1 : Int32), j30 S l1 = some (r, S1) → WH p l e rm_X12_box s m args below meth c b0 G 2 0 0 (MQ below (hQ b0 G (some (.int r)) S1) args s 0 0 (hA b0)) S 30 [(0, hrf b0 ((some h))), (1, .int l1)] []) (hh : s_X12_box_b30 j30 h S l1 = some (r, S1)) : WH p l e rm_X12_box s m args below meth c b0 G 2 0 0 (MQ below (hQ b0 G (some (.int r)) S1) args s 0 0 (hA b0)) S 30 [(0, hrf b0 ((some h))), (1, .int l1)] [] := by
  have hh : (if 131 ≤ l1 then (kO S ((some h)) 12 (fun a2 => kcv (s_X12_next S a2 ) (fun S1 => kO S1 ((some h)) 12 (fun a4 => kcv (s_X12_mustBegin S1 a4 1684632419) (fun S3 => s_X12_box_L61 h 100000 S3))))) else (kP S ((some h)) 12 6 (fun v5 => kwA S v5 14 l1 0 (fun S6 => j30 S6 (l1 + 1))))) = some (r, S1) := hh
  refine rw_iload_n E (j0 := 1) rfl rfl dX12_box_30 ?_
  refine rw_sipush E (v := 131) (by decide) dX12_box_31 ?_
  refine rw_icmp_ge E hh (tgt := 50) (by decide) dX12_box_34 (fun hh => ?_) (fun hh => ?_)
  · refine rw_aload_n E (j0 := 0) rfl rfl dX12_box_50 ?_
    refine rw_cVv E (As := []) hh (by decide) rfl (fun _ _ hq => c_X12_next l b0 G _ _ _ hq) (cwV 0 E.2.2.2.2.1 gX12_box_X12_next rfl rfl rfl (by decide +kernel) ⟨Nat.le_of_ble_eq_true rfl, Nat.le_of_ble_eq_true rfl⟩) rfl rfl (by (try simp only [List.map_cons, List.map_nil, List.sum_cons, List.sum_nil, hrf_cat, cat_i, cat_l, cat_r]) <;> decide) ⟨Nat.le_of_ble_eq_true rfl, Nat.le_of_ble_eq_true rfl⟩ dX12_box_51 (fun S1 hh => ?_)
    refine rw_aload_n E (j0 := 0) rfl rfl dX12_box_54 ?_
    refine rw_ldc2 E (v := 1684632419) (List.mem_of_getElem? (i := 7) (by decide +kernel)) dX12_box_55 ?_
    refine rw_cVv E (As := [.long 1684632419]) hh (by decide) rfl (fun _ _ hq => c_X12_mustBegin l b0 G _ _ _ _ hq) (cwV 1 E.2.2.2.2.1 gX12_box_X12_mustBegin rfl rfl rfl (by decide +kernel) ⟨Nat.le_of_ble_eq_true rfl, Nat.le_of_ble_eq_true rfl⟩) rfl rfl (by (try simp only [List.map_cons, List.map_nil, List.sum_cons, List.sum_nil, hrf_cat, cat_i, cat_l, cat_r]) <;> decide) ⟨Nat.le_of_ble_eq_true rfl, Nat.le_of_ble_eq_true rfl⟩ dX12_box_58 (fun S3 hh => ?_)
    refine WH.pick [0] rfl ?_
    exact w_X12_box_L61 E hrt hlk 100000 _ hh
  · refine rw_aload_n E (j0 := 0) rfl rfl dX12_box_37 ?_
    refine rw_getP E hh (C := RX12) (T := TX12) (N := 32) rfl (by decide) i_X12_box_12 (by decide) rfl (List.mem_of_getElem? (i := 6) (by decide +kernel)) rfl dX12_box_38 (fun v5 hh => ?_)
    refine rw_iload_n E (j0 := 1) rfl rfl dX12_box_41 ?_
    refine rw_iconst E (v := 0) (by decide) dX12_box_42 ?_
    refine rw_iast E hh dX12_box_43 (fun S6 hh => ?_)
    refine rw_iinc E (v := l1 + 1) (lv2 := [(1, .int (l1 + 1)), (0, hrf b0 ((some h)))]) (j0 := 1) rfl rfl (by decide) rfl dX12_box_44 ?_
    refine rw_goto E (tgt := 30) (by decide) dX12_box_47 ?_
    refine WH.pick [1, 0] rfl ?_
    exact hj30 _ _ hh
def s_X12_box_L30 (h : Nat) : Nat → HS → Int32 → Option (Int32 × HS)
  | 0 => fun _ _ => none
  | n + 1 => s_X12_box_b30 (s_X12_box_L30 h n) h
set_option maxHeartbeats 4000000 in
set_option maxRecDepth 100000 in
theorem w_X12_box_L30 {p : Program} {l : Launch} {e : Env} {s : State} {m : MethodId} {args : Array Value} {below : List Frame} {meth : Method} {c : Code} {b0 : Nat} {G : hG} {S1 : HS} {r : Int32} {h : Nat} (E : hE p s m args c b0 G cX12_box RX12 2 wsX12_box) (hrt : meth.sig.returnType = (some .int)) (hlk : meth.locks = false) : ∀ (n : Nat) (S : HS) (l1 : Int32), s_X12_box_L30 h n S l1 = some (r, S1) → WH p l e rm_X12_box s m args below meth c b0 G 2 0 0 (MQ below (hQ b0 G (some (.int r)) S1) args s 0 0 (hA b0)) S 30 [(0, hrf b0 ((some h))), (1, .int l1)] [] := by
  intro n
  induction n with
  | zero => intro _ _ hh; exact absurd hh (by simp [s_X12_box_L30])
  | succ n ih => intro _ _ hh; exact w_X12_box_b30 E hrt hlk  ih hh
def s_X12_box (S : HS) (h : Nat) : Option (Int32 × HS) := kwI S ((some h)) 12 0 0 (fun S1 => kI S1 ((some h)) 12 9 (fun v2 => kwI S1 ((some h)) 12 11 v2 (fun S3 => kwI S3 ((some h)) 12 9 0 (fun S4 => kwI S4 ((some h)) 12 12 0 (fun S5 => kwI S5 ((some h)) 12 17 0 (fun S6 => s_X12_box_L30 h 100000 S6 0))))))
set_option maxHeartbeats 4000000 in
set_option maxRecDepth 100000 in
theorem c_X12_box (l : Launch) (b0 : Nat) (G : hG) (S S1 : HS) (h : Nat) (r : Int32) (hh : s_X12_box S h  = some (r, S1)) : MH l yX12_box wsX12_box rm_X12_box b0 G S [hrf b0 (some h)] (some (.int r)) S1 0 0 := by
  refine MH.ofW (cc := cX12_box) (maxL := 2) (ret := (some .int)) (own := RX12) (lv0 := [(0, hrf b0 ((some h)))]) (by decide) rfl rfl (Nat.le_of_ble_eq_true rfl) rfl ?_
  intro p e s m args below meth c E hrt hlk hnm
  have hh : (kwI S ((some h)) 12 0 0 (fun S1 => kI S1 ((some h)) 12 9 (fun v2 => kwI S1 ((some h)) 12 11 v2 (fun S3 => kwI S3 ((some h)) 12 9 0 (fun S4 => kwI S4 ((some h)) 12 12 0 (fun S5 => kwI S5 ((some h)) 12 17 0 (fun S6 => s_X12_box_L30 h 100000 S6 0))))))) = some (r, S1) := hh
  refine rw_aload_n E (j0 := 0) rfl rfl dX12_box_0 ?_
  refine rw_iconst E (v := 0) (by decide) dX12_box_1 ?_
  refine rw_putI E hh (C := RX12) (T := TX12) (N := 32) (ty0 := tyX12) rfl tyX12_ok nmX12 (by decide) i_X12_box_12 (by decide) rfl (List.mem_of_getElem? (i := 1) (by decide +kernel)) rfl (Or.inl rfl) rfl dX12_box_2 (fun S1 hh => ?_)
  refine rw_aload_n E (j0 := 0) rfl rfl dX12_box_5 ?_
  refine rw_aload_n E (j0 := 0) rfl rfl dX12_box_6 ?_
  refine rw_getI E hh (C := RX12) (T := TX12) (N := 32) rfl (by decide) i_X12_box_12 (by decide) rfl (List.mem_of_getElem? (i := 2) (by decide +kernel)) rfl dX12_box_7 (fun v2 hh => ?_)
  refine rw_putI E hh (C := RX12) (T := TX12) (N := 32) (ty0 := tyX12) rfl tyX12_ok nmX12 (by decide) i_X12_box_12 (by decide) rfl (List.mem_of_getElem? (i := 3) (by decide +kernel)) rfl (Or.inl rfl) rfl dX12_box_10 (fun S3 hh => ?_)
  refine rw_aload_n E (j0 := 0) rfl rfl dX12_box_13 ?_
  refine rw_iconst E (v := 0) (by decide) dX12_box_14 ?_
  refine rw_putI E hh (C := RX12) (T := TX12) (N := 32) (ty0 := tyX12) rfl tyX12_ok nmX12 (by decide) i_X12_box_12 (by decide) rfl (List.mem_of_getElem? (i := 2) (by decide +kernel)) rfl (Or.inl rfl) rfl dX12_box_15 (fun S4 hh => ?_)
  refine rw_aload_n E (j0 := 0) rfl rfl dX12_box_18 ?_
  refine rw_iconst E (v := 0) (by decide) dX12_box_19 ?_
  refine rw_putI E hh (C := RX12) (T := TX12) (N := 32) (ty0 := tyX12) rfl tyX12_ok nmX12 (by decide) i_X12_box_12 (by decide) rfl (List.mem_of_getElem? (i := 4) (by decide +kernel)) rfl (Or.inl rfl) rfl dX12_box_20 (fun S5 hh => ?_)
  refine rw_aload_n E (j0 := 0) rfl rfl dX12_box_23 ?_
  refine rw_iconst E (v := 0) (by decide) dX12_box_24 ?_
  refine rw_putI E hh (C := RX12) (T := TX12) (N := 32) (ty0 := tyX12) rfl tyX12_ok nmX12 (by decide) i_X12_box_12 (by decide) rfl (List.mem_of_getElem? (i := 5) (by decide +kernel)) rfl (Or.inl rfl) rfl dX12_box_25 (fun S6 hh => ?_)
  refine rw_iconst E (v := 0) (by decide) dX12_box_28 ?_
  refine rw_istore_n E (lv2 := [(1, .int 0), (0, hrf b0 ((some h)))]) rfl (by decide) rfl dX12_box_29 ?_
  refine WH.pick [1, 0] rfl ?_
  exact w_X12_box_L30 E hrt hlk 100000 _ _ hh

/-! HummingDiscModel.fault()I -/
abbrev rm_X12_fault : Room := { frames := 0, cells := 0, slots := 0, locals := 0 }
theorem i_X12_fault_12 : ∀ w ∈ wsX120, w ∈ wsX12_fault := fun _ h => List.mem_cons_of_mem _ (List.mem_append_right _ (h))
def s_X12_fault (S : HS) (h : Nat) : Option (Int32 × HS) := kwI S ((some h)) 12 0 0 (fun S1 => kI S1 ((some h)) 12 10 (fun v2 => some (v2, S1)))
set_option maxHeartbeats 4000000 in
set_option maxRecDepth 100000 in
theorem c_X12_fault (l : Launch) (b0 : Nat) (G : hG) (S S1 : HS) (h : Nat) (r : Int32) (hh : s_X12_fault S h  = some (r, S1)) : MH l yX12_fault wsX12_fault rm_X12_fault b0 G S [hrf b0 (some h)] (some (.int r)) S1 0 0 := by
  refine MH.ofW (cc := cX12_fault) (maxL := 1) (ret := (some .int)) (own := RX12) (lv0 := [(0, hrf b0 ((some h)))]) (by decide) rfl rfl (Nat.le_of_ble_eq_true rfl) rfl ?_
  intro p e s m args below meth c E hrt hlk hnm
  have hh : (kwI S ((some h)) 12 0 0 (fun S1 => kI S1 ((some h)) 12 10 (fun v2 => some (v2, S1)))) = some (r, S1) := hh
  refine rw_aload_n E (j0 := 0) rfl rfl dX12_fault_0 ?_
  refine rw_iconst E (v := 0) (by decide) dX12_fault_1 ?_
  refine rw_putI E hh (C := RX12) (T := TX12) (N := 32) (ty0 := tyX12) rfl tyX12_ok nmX12 (by decide) i_X12_fault_12 (by decide) rfl (List.mem_of_getElem? (i := 1) (by decide +kernel)) rfl (Or.inl rfl) rfl dX12_fault_2 (fun S1 hh => ?_)
  refine rw_aload_n E (j0 := 0) rfl rfl dX12_fault_5 ?_
  refine rw_getI E hh (C := RX12) (T := TX12) (N := 32) rfl (by decide) i_X12_fault_12 (by decide) rfl (List.mem_of_getElem? (i := 2) (by decide +kernel)) rfl dX12_fault_6 (fun v2 hh => ?_)
  exact rw_iret E hrt hlk hh (by decide) (by decide) dX12_fault_9

/-! HummingDiscModel.isDisc(I)Z -/
abbrev rm_X12_isDisc : Room := { frames := 1, cells := 0, slots := 0, locals := 25 }
theorem i_X12_isDisc_12 : ∀ w ∈ wsX120, w ∈ wsX12_isDisc := fun _ h => List.mem_cons_of_mem _ (List.mem_append_right _ (h))
def s_X12_isDisc (S : HS) (h : Nat) (l1 : Int32) : Option (Int32 × HS) := kP S ((some h)) 12 5 (fun v1 => kA S v1 14 0 (fun v2 => kc (s_X12_in S l1.toInt64 0 ((v2 - 1 : Int32).toInt64)) (fun v4 S3 => kzr v4 S3)))
set_option maxHeartbeats 4000000 in
set_option maxRecDepth 100000 in
theorem c_X12_isDisc (l : Launch) (b0 : Nat) (G : hG) (S S1 : HS) (h : Nat) (l1 : Int32) (r : Int32) (hh : s_X12_isDisc S h l1 = some (r, S1)) : MH l yX12_isDisc wsX12_isDisc rm_X12_isDisc b0 G S [hrf b0 (some h), .int l1] (some (.int r)) S1 0 0 := by
  refine MH.ofW (cc := cX12_isDisc) (maxL := 2) (ret := (some .boolean)) (own := RX12) (lv0 := [(0, hrf b0 ((some h))), (1, .int l1)]) (by decide) rfl rfl (Nat.le_of_ble_eq_true rfl) rfl ?_
  intro p e s m args below meth c E hrt hlk hnm
  have hh : (kP S ((some h)) 12 5 (fun v1 => kA S v1 14 0 (fun v2 => kc (s_X12_in S l1.toInt64 0 ((v2 - 1 : Int32).toInt64)) (fun v4 S3 => kzr v4 S3)))) = some (r, S1) := hh
  refine rw_iload_n E (j0 := 1) rfl rfl dX12_isDisc_0 ?_
  refine rw_i2l E dX12_isDisc_1 ?_
  refine rw_lconst E (v := 0) (by decide) dX12_isDisc_2 ?_
  refine rw_aload_n E (j0 := 0) rfl rfl dX12_isDisc_3 ?_
  refine rw_getP E hh (C := RX12) (T := TX12) (N := 32) rfl (by decide) i_X12_isDisc_12 (by decide) rfl (List.mem_of_getElem? (i := 1) (by decide +kernel)) rfl dX12_isDisc_4 (fun v1 hh => ?_)
  refine rw_iconst E (v := 0) (by decide) dX12_isDisc_7 ?_
  refine rw_iald E hh dX12_isDisc_8 (fun v2 hh => ?_)
  refine rw_iconst E (v := 1) (by decide) dX12_isDisc_9 ?_
  refine rw_isub E dX12_isDisc_10 ?_
  refine rw_i2l E dX12_isDisc_11 ?_
  refine rw_cSi E (As := [.long l1.toInt64, .long 0, .long ((v2 - 1 : Int32).toInt64)]) hh (fun _ _ hq => c_X12_in l b0 G _ _ _ _ _ _ hq) (va_cwS 3 E.2.2.2.2.1 gX12_isDisc_X12_in rfl rfl rfl (by decide +kernel) ⟨Nat.le_of_ble_eq_true rfl, Nat.le_of_ble_eq_true rfl⟩) rfl rfl (by (try simp only [List.map_cons, List.map_nil, List.sum_cons, List.sum_nil, hrf_cat, cat_i, cat_l, cat_r]) <;> decide) ⟨Nat.le_of_ble_eq_true rfl, Nat.le_of_ble_eq_true rfl⟩ dX12_isDisc_12 (fun v4 S3 hh => ?_)
  exact rw_zret E hrt hlk hh (by decide) (by decide) dX12_isDisc_15

/-! HummingDiscModel.isThread(I)Z -/
abbrev rm_X12_isThread : Room := { frames := 1, cells := 0, slots := 0, locals := 25 }
theorem i_X12_isThread_12 : ∀ w ∈ wsX120, w ∈ wsX12_isThread := fun _ h => List.mem_cons_of_mem _ (List.mem_append_right _ (h))
def s_X12_isThread (S : HS) (h : Nat) (l1 : Int32) : Option (Int32 × HS) := kP S ((some h)) 12 5 (fun v1 => kA S v1 14 1 (fun v2 => kc (s_X12_in S l1.toInt64 0 ((v2 - 1 : Int32).toInt64)) (fun v4 S3 => kzr v4 S3)))
set_option maxHeartbeats 4000000 in
set_option maxRecDepth 100000 in
theorem c_X12_isThread (l : Launch) (b0 : Nat) (G : hG) (S S1 : HS) (h : Nat) (l1 : Int32) (r : Int32) (hh : s_X12_isThread S h l1 = some (r, S1)) : MH l yX12_isThread wsX12_isThread rm_X12_isThread b0 G S [hrf b0 (some h), .int l1] (some (.int r)) S1 0 0 := by
  refine MH.ofW (cc := cX12_isThread) (maxL := 2) (ret := (some .boolean)) (own := RX12) (lv0 := [(0, hrf b0 ((some h))), (1, .int l1)]) (by decide) rfl rfl (Nat.le_of_ble_eq_true rfl) rfl ?_
  intro p e s m args below meth c E hrt hlk hnm
  have hh : (kP S ((some h)) 12 5 (fun v1 => kA S v1 14 1 (fun v2 => kc (s_X12_in S l1.toInt64 0 ((v2 - 1 : Int32).toInt64)) (fun v4 S3 => kzr v4 S3)))) = some (r, S1) := hh
  refine rw_iload_n E (j0 := 1) rfl rfl dX12_isThread_0 ?_
  refine rw_i2l E dX12_isThread_1 ?_
  refine rw_lconst E (v := 0) (by decide) dX12_isThread_2 ?_
  refine rw_aload_n E (j0 := 0) rfl rfl dX12_isThread_3 ?_
  refine rw_getP E hh (C := RX12) (T := TX12) (N := 32) rfl (by decide) i_X12_isThread_12 (by decide) rfl (List.mem_of_getElem? (i := 1) (by decide +kernel)) rfl dX12_isThread_4 (fun v1 hh => ?_)
  refine rw_iconst E (v := 1) (by decide) dX12_isThread_7 ?_
  refine rw_iald E hh dX12_isThread_8 (fun v2 hh => ?_)
  refine rw_iconst E (v := 1) (by decide) dX12_isThread_9 ?_
  refine rw_isub E dX12_isThread_10 ?_
  refine rw_i2l E dX12_isThread_11 ?_
  refine rw_cSi E (As := [.long l1.toInt64, .long 0, .long ((v2 - 1 : Int32).toInt64)]) hh (fun _ _ hq => c_X12_in l b0 G _ _ _ _ _ _ hq) (va_cwS 3 E.2.2.2.2.1 gX12_isThread_X12_in rfl rfl rfl (by decide +kernel) ⟨Nat.le_of_ble_eq_true rfl, Nat.le_of_ble_eq_true rfl⟩) rfl rfl (by (try simp only [List.map_cons, List.map_nil, List.sum_cons, List.sum_nil, hrf_cat, cat_i, cat_l, cat_r]) <;> decide) ⟨Nat.le_of_ble_eq_true rfl, Nat.le_of_ble_eq_true rfl⟩ dX12_isThread_12 (fun v4 S3 hh => ?_)
  exact rw_zret E hrt hlk hh (by decide) (by decide) dX12_isThread_15

/-! HummingDiscModel.discOf(II)I -/
abbrev rm_X12_discOf : Room := { frames := 0, cells := 0, slots := 0, locals := 0 }
theorem i_X12_discOf_12 : ∀ w ∈ wsX120, w ∈ wsX12_discOf := fun _ h => List.mem_cons_of_mem _ (List.mem_append_right _ (h))
def s_X12_discOf (S : HS) (h : Nat) (l1 : Int32) (l2 : Int32) : Option (Int32 × HS) := kP S ((some h)) 12 5 (fun v1 => kA S v1 14 ((3 + (3 * l1)) + l2) (fun v2 => some (v2, S)))
set_option maxHeartbeats 4000000 in
set_option maxRecDepth 100000 in
theorem c_X12_discOf (l : Launch) (b0 : Nat) (G : hG) (S S1 : HS) (h : Nat) (l1 : Int32) (l2 : Int32) (r : Int32) (hh : s_X12_discOf S h l1 l2 = some (r, S1)) : MH l yX12_discOf wsX12_discOf rm_X12_discOf b0 G S [hrf b0 (some h), .int l1, .int l2] (some (.int r)) S1 0 0 := by
  refine MH.ofW (cc := cX12_discOf) (maxL := 3) (ret := (some .int)) (own := RX12) (lv0 := [(0, hrf b0 ((some h))), (1, .int l1), (2, .int l2)]) (by decide) rfl rfl (Nat.le_of_ble_eq_true rfl) rfl ?_
  intro p e s m args below meth c E hrt hlk hnm
  have hh : (kP S ((some h)) 12 5 (fun v1 => kA S v1 14 ((3 + (3 * l1)) + l2) (fun v2 => some (v2, S)))) = some (r, S1) := hh
  refine rw_aload_n E (j0 := 0) rfl rfl dX12_discOf_0 ?_
  refine rw_getP E hh (C := RX12) (T := TX12) (N := 32) rfl (by decide) i_X12_discOf_12 (by decide) rfl (List.mem_of_getElem? (i := 1) (by decide +kernel)) rfl dX12_discOf_1 (fun v1 hh => ?_)
  refine rw_iconst E (v := 3) (by decide) dX12_discOf_4 ?_
  refine rw_iconst E (v := 3) (by decide) dX12_discOf_5 ?_
  refine rw_iload_n E (j0 := 1) rfl rfl dX12_discOf_6 ?_
  refine rw_imul E dX12_discOf_7 ?_
  refine rw_iadd E dX12_discOf_8 ?_
  refine rw_iload_n E (j0 := 2) rfl rfl dX12_discOf_9 ?_
  refine rw_iadd E dX12_discOf_10 ?_
  refine rw_iald E hh dX12_discOf_11 (fun v2 hh => ?_)
  exact rw_iret E hrt hlk hh (by decide) (by decide) dX12_discOf_12

/-! HummingDiscModel.threadOf(II)I -/
abbrev rm_X12_threadOf : Room := { frames := 0, cells := 0, slots := 0, locals := 0 }
theorem i_X12_threadOf_12 : ∀ w ∈ wsX120, w ∈ wsX12_threadOf := fun _ h => List.mem_cons_of_mem _ (List.mem_append_right _ (h))
def s_X12_threadOf (S : HS) (h : Nat) (l1 : Int32) (l2 : Int32) : Option (Int32 × HS) := kP S ((some h)) 12 5 (fun v1 => kA S v1 14 ((15 + (4 * l1)) + l2) (fun v2 => some (v2, S)))
set_option maxHeartbeats 4000000 in
set_option maxRecDepth 100000 in
theorem c_X12_threadOf (l : Launch) (b0 : Nat) (G : hG) (S S1 : HS) (h : Nat) (l1 : Int32) (l2 : Int32) (r : Int32) (hh : s_X12_threadOf S h l1 l2 = some (r, S1)) : MH l yX12_threadOf wsX12_threadOf rm_X12_threadOf b0 G S [hrf b0 (some h), .int l1, .int l2] (some (.int r)) S1 0 0 := by
  refine MH.ofW (cc := cX12_threadOf) (maxL := 3) (ret := (some .int)) (own := RX12) (lv0 := [(0, hrf b0 ((some h))), (1, .int l1), (2, .int l2)]) (by decide) rfl rfl (Nat.le_of_ble_eq_true rfl) rfl ?_
  intro p e s m args below meth c E hrt hlk hnm
  have hh : (kP S ((some h)) 12 5 (fun v1 => kA S v1 14 ((15 + (4 * l1)) + l2) (fun v2 => some (v2, S)))) = some (r, S1) := hh
  refine rw_aload_n E (j0 := 0) rfl rfl dX12_threadOf_0 ?_
  refine rw_getP E hh (C := RX12) (T := TX12) (N := 32) rfl (by decide) i_X12_threadOf_12 (by decide) rfl (List.mem_of_getElem? (i := 1) (by decide +kernel)) rfl dX12_threadOf_1 (fun v1 hh => ?_)
  refine rw_bipush E (v := 15) (by decide) dX12_threadOf_4 ?_
  refine rw_iconst E (v := 4) (by decide) dX12_threadOf_6 ?_
  refine rw_iload_n E (j0 := 1) rfl rfl dX12_threadOf_7 ?_
  refine rw_imul E dX12_threadOf_8 ?_
  refine rw_iadd E dX12_threadOf_9 ?_
  refine rw_iload_n E (j0 := 2) rfl rfl dX12_threadOf_10 ?_
  refine rw_iadd E dX12_threadOf_11 ?_
  refine rw_iald E hh dX12_threadOf_12 (fun v2 hh => ?_)
  exact rw_iret E hrt hlk hh (by decide) (by decide) dX12_threadOf_13

/-! HummingDiscModel.plainShort(II)I -/
abbrev rm_X12_plainShort : Room := { frames := 1, cells := 0, slots := 0, locals := 22 }
def s_X12_plainShort (S : HS) (h : Nat) (l1 : Int32) (l2 : Int32) : Option (Int32 × HS) := kO S ((some h)) 12 (fun a3 => kc (s_X12_threadOf S a3 l1 0) (fun v2 S1 => kdiv ((l2 * l2) * v2) 1000 (fun v4 => some (v4, S1))))
set_option maxHeartbeats 4000000 in
set_option maxRecDepth 100000 in
theorem c_X12_plainShort (l : Launch) (b0 : Nat) (G : hG) (S S1 : HS) (h : Nat) (l1 : Int32) (l2 : Int32) (r : Int32) (hh : s_X12_plainShort S h l1 l2 = some (r, S1)) : MH l yX12_plainShort wsX12_plainShort rm_X12_plainShort b0 G S [hrf b0 (some h), .int l1, .int l2] (some (.int r)) S1 0 0 := by
  refine MH.ofW (cc := cX12_plainShort) (maxL := 3) (ret := (some .int)) (own := RX12) (lv0 := [(0, hrf b0 ((some h))), (1, .int l1), (2, .int l2)]) (by decide) rfl rfl (Nat.le_of_ble_eq_true rfl) rfl ?_
  intro p e s m args below meth c E hrt hlk hnm
  have hh : (kO S ((some h)) 12 (fun a3 => kc (s_X12_threadOf S a3 l1 0) (fun v2 S1 => kdiv ((l2 * l2) * v2) 1000 (fun v4 => some (v4, S1))))) = some (r, S1) := hh
  refine rw_iload_n E (j0 := 2) rfl rfl dX12_plainShort_0 ?_
  refine rw_iload_n E (j0 := 2) rfl rfl dX12_plainShort_1 ?_
  refine rw_imul E dX12_plainShort_2 ?_
  refine rw_aload_n E (j0 := 0) rfl rfl dX12_plainShort_3 ?_
  refine rw_iload_n E (j0 := 1) rfl rfl dX12_plainShort_4 ?_
  refine rw_iconst E (v := 0) (by decide) dX12_plainShort_5 ?_
  refine rw_cVi E (As := [.int l1, .int 0]) hh (by decide) rfl (fun _ _ _ hq => c_X12_threadOf l b0 G _ _ _ _ _ _ hq) (cwV 2 E.2.2.2.2.1 gX12_plainShort_X12_threadOf rfl rfl rfl (by decide +kernel) ⟨Nat.le_of_ble_eq_true rfl, Nat.le_of_ble_eq_true rfl⟩) rfl rfl (by (try simp only [List.map_cons, List.map_nil, List.sum_cons, List.sum_nil, hrf_cat, cat_i, cat_l, cat_r]) <;> decide) ⟨Nat.le_of_ble_eq_true rfl, Nat.le_of_ble_eq_true rfl⟩ dX12_plainShort_6 (fun v2 S1 hh => ?_)
  refine rw_imul E dX12_plainShort_9 ?_
  refine rw_sipush E (v := 1000) (by decide) dX12_plainShort_10 ?_
  refine rw_idiv E hh dX12_plainShort_13 (fun v4 hh => ?_)
  exact rw_iret E hrt hlk hh (by decide) (by decide) dX12_plainShort_14

/-! HummingDiscModel.shortOf(II)I -/
abbrev rm_X12_shortOf : Room := { frames := 2, cells := 0, slots := 0, locals := 44 }
def s_X12_shortOf (S : HS) (h : Nat) (l1 : Int32) (l2 : Int32) : Option (Int32 × HS) := kO S ((some h)) 12 (fun a3 => kc (s_X12_threadOf S a3 l1 1) (fun v2 S1 => if v2 < l2 then (kO S1 ((some h)) 12 (fun a6 => kc (s_X12_plainShort S1 a6 l1 v2) (fun v5 S4 => kO S4 ((some h)) 12 (fun a9 => kc (s_X12_plainShort S4 a9 l1 (v2 - 1)) (fun v8 S7 => kO S7 ((some h)) 12 (fun a12 => kc (s_X12_plainShort S7 a12 l1 v2) (fun v11 S10 => some (v11 + ((l2 - v2) * ((2 * (v5 - v8)) + 1)), S10)))))))) else (kO S1 ((some h)) 12 (fun a15 => kc (s_X12_plainShort S1 a15 l1 l2) (fun v14 S13 => some (v14, S13))))))
set_option maxHeartbeats 4000000 in
set_option maxRecDepth 100000 in
theorem c_X12_shortOf (l : Launch) (b0 : Nat) (G : hG) (S S1 : HS) (h : Nat) (l1 : Int32) (l2 : Int32) (r : Int32) (hh : s_X12_shortOf S h l1 l2 = some (r, S1)) : MH l yX12_shortOf wsX12_shortOf rm_X12_shortOf b0 G S [hrf b0 (some h), .int l1, .int l2] (some (.int r)) S1 0 0 := by
  refine MH.ofW (cc := cX12_shortOf) (maxL := 5) (ret := (some .int)) (own := RX12) (lv0 := [(0, hrf b0 ((some h))), (1, .int l1), (2, .int l2)]) (by decide) rfl rfl (Nat.le_of_ble_eq_true rfl) rfl ?_
  intro p e s m args below meth c E hrt hlk hnm
  have hh : (kO S ((some h)) 12 (fun a3 => kc (s_X12_threadOf S a3 l1 1) (fun v2 S1 => if v2 < l2 then (kO S1 ((some h)) 12 (fun a6 => kc (s_X12_plainShort S1 a6 l1 v2) (fun v5 S4 => kO S4 ((some h)) 12 (fun a9 => kc (s_X12_plainShort S4 a9 l1 (v2 - 1)) (fun v8 S7 => kO S7 ((some h)) 12 (fun a12 => kc (s_X12_plainShort S7 a12 l1 v2) (fun v11 S10 => some (v11 + ((l2 - v2) * ((2 * (v5 - v8)) + 1)), S10)))))))) else (kO S1 ((some h)) 12 (fun a15 => kc (s_X12_plainShort S1 a15 l1 l2) (fun v14 S13 => some (v14, S13))))))) = some (r, S1) := hh
  refine rw_aload_n E (j0 := 0) rfl rfl dX12_shortOf_0 ?_
  refine rw_iload_n E (j0 := 1) rfl rfl dX12_shortOf_1 ?_
  refine rw_iconst E (v := 1) (by decide) dX12_shortOf_2 ?_
  refine rw_cVi E (As := [.int l1, .int 1]) hh (by decide) rfl (fun _ _ _ hq => c_X12_threadOf l b0 G _ _ _ _ _ _ hq) (cwV 2 E.2.2.2.2.1 gX12_shortOf_X12_threadOf rfl rfl rfl (by decide +kernel) ⟨Nat.le_of_ble_eq_true rfl, Nat.le_of_ble_eq_true rfl⟩) rfl rfl (by (try simp only [List.map_cons, List.map_nil, List.sum_cons, List.sum_nil, hrf_cat, cat_i, cat_l, cat_r]) <;> decide) ⟨Nat.le_of_ble_eq_true rfl, Nat.le_of_ble_eq_true rfl⟩ dX12_shortOf_3 (fun v2 S1 hh => ?_)
  refine rw_istore_n E (lv2 := [(3, .int v2), (0, hrf b0 ((some h))), (1, .int l1), (2, .int l2)]) rfl (by decide) rfl dX12_shortOf_6 ?_
  refine rw_iload_n E (j0 := 3) rfl rfl dX12_shortOf_7 ?_
  refine rw_iload_n E (j0 := 0) rfl rfl dX12_shortOf_8 ?_
  refine rw_icmp_gt E hh (tgt := 19) (by decide) dX12_shortOf_9 (fun hh => ?_) (fun hh => ?_)
  · refine rw_aload_n E (j0 := 1) rfl rfl dX12_shortOf_19 ?_
    refine rw_iload_n E (j0 := 2) rfl rfl dX12_shortOf_20 ?_
    refine rw_iload_n E (j0 := 0) rfl rfl dX12_shortOf_21 ?_
    refine rw_cVi E (As := [.int l1, .int v2]) hh (by decide) rfl (fun _ _ _ hq => c_X12_plainShort l b0 G _ _ _ _ _ _ hq) (cwV 2 E.2.2.2.2.1 gX12_shortOf_X12_plainShort rfl rfl rfl (by decide +kernel) ⟨Nat.le_of_ble_eq_true rfl, Nat.le_of_ble_eq_true rfl⟩) rfl rfl (by (try simp only [List.map_cons, List.map_nil, List.sum_cons, List.sum_nil, hrf_cat, cat_i, cat_l, cat_r]) <;> decide) ⟨Nat.le_of_ble_eq_true rfl, Nat.le_of_ble_eq_true rfl⟩ dX12_shortOf_22 (fun v5 S4 hh => ?_)
    refine rw_aload_n E (j0 := 1) rfl rfl dX12_shortOf_25 ?_
    refine rw_iload_n E (j0 := 2) rfl rfl dX12_shortOf_26 ?_
    refine rw_iload_n E (j0 := 0) rfl rfl dX12_shortOf_27 ?_
    refine rw_iconst E (v := 1) (by decide) dX12_shortOf_28 ?_
    refine rw_isub E dX12_shortOf_29 ?_
    refine rw_cVi E (As := [.int l1, .int (v2 - 1)]) hh (by decide) rfl (fun _ _ _ hq => c_X12_plainShort l b0 G _ _ _ _ _ _ hq) (cwV 2 E.2.2.2.2.1 gX12_shortOf_X12_plainShort rfl rfl rfl (by decide +kernel) ⟨Nat.le_of_ble_eq_true rfl, Nat.le_of_ble_eq_true rfl⟩) rfl rfl (by (try simp only [List.map_cons, List.map_nil, List.sum_cons, List.sum_nil, hrf_cat, cat_i, cat_l, cat_r]) <;> decide) ⟨Nat.le_of_ble_eq_true rfl, Nat.le_of_ble_eq_true rfl⟩ dX12_shortOf_30 (fun v8 S7 hh => ?_)
    refine rw_isub E dX12_shortOf_33 ?_
    refine rw_istore E (lv2 := [(4, .int (v5 - v8)), (3, .int v2), (0, hrf b0 ((some h))), (1, .int l1), (2, .int l2)]) (by decide) rfl dX12_shortOf_34 ?_
    refine rw_aload_n E (j0 := 2) rfl rfl dX12_shortOf_36 ?_
    refine rw_iload_n E (j0 := 3) rfl rfl dX12_shortOf_37 ?_
    refine rw_iload_n E (j0 := 1) rfl rfl dX12_shortOf_38 ?_
    refine rw_cVi E (As := [.int l1, .int v2]) hh (by decide) rfl (fun _ _ _ hq => c_X12_plainShort l b0 G _ _ _ _ _ _ hq) (cwV 2 E.2.2.2.2.1 gX12_shortOf_X12_plainShort rfl rfl rfl (by decide +kernel) ⟨Nat.le_of_ble_eq_true rfl, Nat.le_of_ble_eq_true rfl⟩) rfl rfl (by (try simp only [List.map_cons, List.map_nil, List.sum_cons, List.sum_nil, hrf_cat, cat_i, cat_l, cat_r]) <;> decide) ⟨Nat.le_of_ble_eq_true rfl, Nat.le_of_ble_eq_true rfl⟩ dX12_shortOf_39 (fun v11 S10 hh => ?_)
    refine rw_iload_n E (j0 := 4) rfl rfl dX12_shortOf_42 ?_
    refine rw_iload_n E (j0 := 1) rfl rfl dX12_shortOf_43 ?_
    refine rw_isub E dX12_shortOf_44 ?_
    refine rw_iconst E (v := 2) (by decide) dX12_shortOf_45 ?_
    refine rw_iload E (j0 := 0) rfl dX12_shortOf_46 ?_
    refine rw_imul E dX12_shortOf_48 ?_
    refine rw_iconst E (v := 1) (by decide) dX12_shortOf_49 ?_
    refine rw_iadd E dX12_shortOf_50 ?_
    refine rw_imul E dX12_shortOf_51 ?_
    refine rw_iadd E dX12_shortOf_52 ?_
    exact rw_iret E hrt hlk hh (by decide) (by decide) dX12_shortOf_53
  · refine rw_aload_n E (j0 := 1) rfl rfl dX12_shortOf_12 ?_
    refine rw_iload_n E (j0 := 2) rfl rfl dX12_shortOf_13 ?_
    refine rw_iload_n E (j0 := 3) rfl rfl dX12_shortOf_14 ?_
    refine rw_cVi E (As := [.int l1, .int l2]) hh (by decide) rfl (fun _ _ _ hq => c_X12_plainShort l b0 G _ _ _ _ _ _ hq) (cwV 2 E.2.2.2.2.1 gX12_shortOf_X12_plainShort rfl rfl rfl (by decide +kernel) ⟨Nat.le_of_ble_eq_true rfl, Nat.le_of_ble_eq_true rfl⟩) rfl rfl (by (try simp only [List.map_cons, List.map_nil, List.sum_cons, List.sum_nil, hrf_cat, cat_i, cat_l, cat_r]) <;> decide) ⟨Nat.le_of_ble_eq_true rfl, Nat.le_of_ble_eq_true rfl⟩ dX12_shortOf_15 (fun v14 S13 hh => ?_)
    exact rw_iret E hrt hlk hh (by decide) (by decide) dX12_shortOf_18

/-! HummingDiscModel.slopeOf(II)I -/
abbrev rm_X12_slopeOf : Room := { frames := 3, cells := 0, slots := 0, locals := 68 }
def s_X12_slopeOf (S : HS) (h : Nat) (l1 : Int32) (l2 : Int32) : Option (Int32 × HS) := if l2 = 0 then (some (0, S)) else (kO S ((some h)) 12 (fun a3 => kc (s_X12_shortOf S a3 l1 l2) (fun v2 S1 => kO S1 ((some h)) 12 (fun a6 => kc (s_X12_shortOf S1 a6 l1 (l2 - 1)) (fun v5 S4 => some (v2 - v5, S4))))))
set_option maxHeartbeats 4000000 in
set_option maxRecDepth 100000 in
theorem c_X12_slopeOf (l : Launch) (b0 : Nat) (G : hG) (S S1 : HS) (h : Nat) (l1 : Int32) (l2 : Int32) (r : Int32) (hh : s_X12_slopeOf S h l1 l2 = some (r, S1)) : MH l yX12_slopeOf wsX12_slopeOf rm_X12_slopeOf b0 G S [hrf b0 (some h), .int l1, .int l2] (some (.int r)) S1 0 0 := by
  refine MH.ofW (cc := cX12_slopeOf) (maxL := 3) (ret := (some .int)) (own := RX12) (lv0 := [(0, hrf b0 ((some h))), (1, .int l1), (2, .int l2)]) (by decide) rfl rfl (Nat.le_of_ble_eq_true rfl) rfl ?_
  intro p e s m args below meth c E hrt hlk hnm
  have hh : (if l2 = 0 then (some (0, S)) else (kO S ((some h)) 12 (fun a3 => kc (s_X12_shortOf S a3 l1 l2) (fun v2 S1 => kO S1 ((some h)) 12 (fun a6 => kc (s_X12_shortOf S1 a6 l1 (l2 - 1)) (fun v5 S4 => some (v2 - v5, S4))))))) = some (r, S1) := hh
  refine rw_iload_n E (j0 := 2) rfl rfl dX12_slopeOf_0 ?_
  refine rw_if_ne E hh (tgt := 8) (by decide) dX12_slopeOf_1 (fun hh => ?_) (fun hh => ?_)
  · refine rw_aload_n E (j0 := 0) rfl rfl dX12_slopeOf_8 ?_
    refine rw_iload_n E (j0 := 1) rfl rfl dX12_slopeOf_9 ?_
    refine rw_iload_n E (j0 := 2) rfl rfl dX12_slopeOf_10 ?_
    refine rw_cVi E (As := [.int l1, .int l2]) hh (by decide) rfl (fun _ _ _ hq => c_X12_shortOf l b0 G _ _ _ _ _ _ hq) (cwV 2 E.2.2.2.2.1 gX12_slopeOf_X12_shortOf rfl rfl rfl (by decide +kernel) ⟨Nat.le_of_ble_eq_true rfl, Nat.le_of_ble_eq_true rfl⟩) rfl rfl (by (try simp only [List.map_cons, List.map_nil, List.sum_cons, List.sum_nil, hrf_cat, cat_i, cat_l, cat_r]) <;> decide) ⟨Nat.le_of_ble_eq_true rfl, Nat.le_of_ble_eq_true rfl⟩ dX12_slopeOf_11 (fun v2 S1 hh => ?_)
    refine rw_aload_n E (j0 := 0) rfl rfl dX12_slopeOf_14 ?_
    refine rw_iload_n E (j0 := 1) rfl rfl dX12_slopeOf_15 ?_
    refine rw_iload_n E (j0 := 2) rfl rfl dX12_slopeOf_16 ?_
    refine rw_iconst E (v := 1) (by decide) dX12_slopeOf_17 ?_
    refine rw_isub E dX12_slopeOf_18 ?_
    refine rw_cVi E (As := [.int l1, .int (l2 - 1)]) hh (by decide) rfl (fun _ _ _ hq => c_X12_shortOf l b0 G _ _ _ _ _ _ hq) (cwV 2 E.2.2.2.2.1 gX12_slopeOf_X12_shortOf rfl rfl rfl (by decide +kernel) ⟨Nat.le_of_ble_eq_true rfl, Nat.le_of_ble_eq_true rfl⟩) rfl rfl (by (try simp only [List.map_cons, List.map_nil, List.sum_cons, List.sum_nil, hrf_cat, cat_i, cat_l, cat_r]) <;> decide) ⟨Nat.le_of_ble_eq_true rfl, Nat.le_of_ble_eq_true rfl⟩ dX12_slopeOf_19 (fun v5 S4 hh => ?_)
    refine rw_isub E dX12_slopeOf_22 ?_
    exact rw_iret E hrt hlk hh (by decide) (by decide) dX12_slopeOf_23
  · refine rw_iconst E (v := 0) (by decide) dX12_slopeOf_4 ?_
    refine rw_goto E (tgt := 23) (by decide) dX12_slopeOf_5 ?_
    exact rw_iret E hrt hlk hh (by decide) (by decide) dX12_slopeOf_23

/-! HummingDiscModel.shorter(III)I -/
abbrev rm_X12_shorter : Room := { frames := 4, cells := 0, slots := 0, locals := 90 }
theorem i_X12_shorter_12 : ∀ w ∈ wsX120, w ∈ wsX12_shorter := fun _ h => List.mem_cons_of_mem _ (List.mem_append_right _ (h))
def s_X12_shorter (S : HS) (h : Nat) (l1 : Int32) (l2 : Int32) (l3 : Int32) : Option (Int32 × HS) := kwI S ((some h)) 12 0 0 (fun S1 => kO S1 ((some h)) 12 (fun a4 => kc (s_X12_isThread S1 a4 l1) (fun v3 S2 => if v3 = 0 then (some ((-1000001), S2)) else (kc (s_X12_in S2 l2.toInt64 0 800) (fun v6 S5 => if v6 = 0 then (some ((-1000001), S5)) else (kc (s_X12_in S5 l3.toInt64 0 1) (fun v8 S7 => if v8 = 0 then (some ((-1000001), S7)) else (if l3 = 0 then (kO S7 ((some h)) 12 (fun a14 => kc (s_X12_shortOf S7 a14 l1 l2) (fun v13 S12 => some (v13, S12)))) else (kO S7 ((some h)) 12 (fun a11 => kc (s_X12_slopeOf S7 a11 l1 l2) (fun v10 S9 => some (v10, S9))))))))))))
set_option maxHeartbeats 4000000 in
set_option maxRecDepth 100000 in
theorem c_X12_shorter (l : Launch) (b0 : Nat) (G : hG) (S S1 : HS) (h : Nat) (l1 : Int32) (l2 : Int32) (l3 : Int32) (r : Int32) (hh : s_X12_shorter S h l1 l2 l3 = some (r, S1)) : MH l yX12_shorter wsX12_shorter rm_X12_shorter b0 G S [hrf b0 (some h), .int l1, .int l2, .int l3] (some (.int r)) S1 0 0 := by
  refine MH.ofW (cc := cX12_shorter) (maxL := 4) (ret := (some .int)) (own := RX12) (lv0 := [(0, hrf b0 ((some h))), (1, .int l1), (2, .int l2), (3, .int l3)]) (by decide) rfl rfl (Nat.le_of_ble_eq_true rfl) rfl ?_
  intro p e s m args below meth c E hrt hlk hnm
  have hh : (kwI S ((some h)) 12 0 0 (fun S1 => kO S1 ((some h)) 12 (fun a4 => kc (s_X12_isThread S1 a4 l1) (fun v3 S2 => if v3 = 0 then (some ((-1000001), S2)) else (kc (s_X12_in S2 l2.toInt64 0 800) (fun v6 S5 => if v6 = 0 then (some ((-1000001), S5)) else (kc (s_X12_in S5 l3.toInt64 0 1) (fun v8 S7 => if v8 = 0 then (some ((-1000001), S7)) else (if l3 = 0 then (kO S7 ((some h)) 12 (fun a14 => kc (s_X12_shortOf S7 a14 l1 l2) (fun v13 S12 => some (v13, S12)))) else (kO S7 ((some h)) 12 (fun a11 => kc (s_X12_slopeOf S7 a11 l1 l2) (fun v10 S9 => some (v10, S9))))))))))))) = some (r, S1) := hh
  refine rw_aload_n E (j0 := 0) rfl rfl dX12_shorter_0 ?_
  refine rw_iconst E (v := 0) (by decide) dX12_shorter_1 ?_
  refine rw_putI E hh (C := RX12) (T := TX12) (N := 32) (ty0 := tyX12) rfl tyX12_ok nmX12 (by decide) i_X12_shorter_12 (by decide) rfl (List.mem_of_getElem? (i := 1) (by decide +kernel)) rfl (Or.inl rfl) rfl dX12_shorter_2 (fun S1 hh => ?_)
  refine rw_aload_n E (j0 := 0) rfl rfl dX12_shorter_5 ?_
  refine rw_iload_n E (j0 := 1) rfl rfl dX12_shorter_6 ?_
  refine rw_cVi E (As := [.int l1]) hh (by decide) rfl (fun _ _ _ hq => c_X12_isThread l b0 G _ _ _ _ _ hq) (cwV 1 E.2.2.2.2.1 gX12_shorter_X12_isThread rfl rfl rfl (by decide +kernel) ⟨Nat.le_of_ble_eq_true rfl, Nat.le_of_ble_eq_true rfl⟩) rfl rfl (by (try simp only [List.map_cons, List.map_nil, List.sum_cons, List.sum_nil, hrf_cat, cat_i, cat_l, cat_r]) <;> decide) ⟨Nat.le_of_ble_eq_true rfl, Nat.le_of_ble_eq_true rfl⟩ dX12_shorter_7 (fun v3 S2 hh => ?_)
  refine rw_if_eq E hh (tgt := 57) (by decide) dX12_shorter_10 (fun hh => ?_) (fun hh => ?_)
  · refine rw_ldc E (v := (-1000001)) (List.mem_of_getElem? (i := 3) (by decide +kernel)) dX12_shorter_57 ?_
    exact rw_iret E hrt hlk hh (by decide) (by decide) dX12_shorter_59
  · refine rw_iload_n E (j0 := 2) rfl rfl dX12_shorter_13 ?_
    refine rw_i2l E dX12_shorter_14 ?_
    refine rw_lconst E (v := 0) (by decide) dX12_shorter_15 ?_
    refine rw_ldc2 E (v := 800) (List.mem_of_getElem? (i := 2) (by decide +kernel)) dX12_shorter_16 ?_
    refine rw_cSi E (As := [.long l2.toInt64, .long 0, .long 800]) hh (fun _ _ hq => c_X12_in l b0 G _ _ _ _ _ _ hq) (va_cwS 3 E.2.2.2.2.1 gX12_shorter_X12_in rfl rfl rfl (by decide +kernel) ⟨Nat.le_of_ble_eq_true rfl, Nat.le_of_ble_eq_true rfl⟩) rfl rfl (by (try simp only [List.map_cons, List.map_nil, List.sum_cons, List.sum_nil, hrf_cat, cat_i, cat_l, cat_r]) <;> decide) ⟨Nat.le_of_ble_eq_true rfl, Nat.le_of_ble_eq_true rfl⟩ dX12_shorter_19 (fun v6 S5 hh => ?_)
    refine rw_if_eq E hh (tgt := 57) (by decide) dX12_shorter_22 (fun hh => ?_) (fun hh => ?_)
    · refine rw_ldc E (v := (-1000001)) (List.mem_of_getElem? (i := 3) (by decide +kernel)) dX12_shorter_57 ?_
      exact rw_iret E hrt hlk hh (by decide) (by decide) dX12_shorter_59
    · refine rw_iload_n E (j0 := 3) rfl rfl dX12_shorter_25 ?_
      refine rw_i2l E dX12_shorter_26 ?_
      refine rw_lconst E (v := 0) (by decide) dX12_shorter_27 ?_
      refine rw_lconst E (v := 1) (by decide) dX12_shorter_28 ?_
      refine rw_cSi E (As := [.long l3.toInt64, .long 0, .long 1]) hh (fun _ _ hq => c_X12_in l b0 G _ _ _ _ _ _ hq) (va_cwS 3 E.2.2.2.2.1 gX12_shorter_X12_in rfl rfl rfl (by decide +kernel) ⟨Nat.le_of_ble_eq_true rfl, Nat.le_of_ble_eq_true rfl⟩) rfl rfl (by (try simp only [List.map_cons, List.map_nil, List.sum_cons, List.sum_nil, hrf_cat, cat_i, cat_l, cat_r]) <;> decide) ⟨Nat.le_of_ble_eq_true rfl, Nat.le_of_ble_eq_true rfl⟩ dX12_shorter_29 (fun v8 S7 hh => ?_)
      refine rw_if_eq E hh (tgt := 57) (by decide) dX12_shorter_32 (fun hh => ?_) (fun hh => ?_)
      · refine rw_ldc E (v := (-1000001)) (List.mem_of_getElem? (i := 3) (by decide +kernel)) dX12_shorter_57 ?_
        exact rw_iret E hrt hlk hh (by decide) (by decide) dX12_shorter_59
      · refine rw_iload_n E (j0 := 3) rfl rfl dX12_shorter_35 ?_
        refine rw_if_ne E hh (tgt := 48) (by decide) dX12_shorter_36 (fun hh => ?_) (fun hh => ?_)
        · refine rw_aload_n E (j0 := 0) rfl rfl dX12_shorter_48 ?_
          refine rw_iload_n E (j0 := 1) rfl rfl dX12_shorter_49 ?_
          refine rw_iload_n E (j0 := 2) rfl rfl dX12_shorter_50 ?_
          refine rw_cVi E (As := [.int l1, .int l2]) hh (by decide) rfl (fun _ _ _ hq => c_X12_slopeOf l b0 G _ _ _ _ _ _ hq) (cwV 2 E.2.2.2.2.1 gX12_shorter_X12_slopeOf rfl rfl rfl (by decide +kernel) ⟨Nat.le_of_ble_eq_true rfl, Nat.le_of_ble_eq_true rfl⟩) rfl rfl (by (try simp only [List.map_cons, List.map_nil, List.sum_cons, List.sum_nil, hrf_cat, cat_i, cat_l, cat_r]) <;> decide) ⟨Nat.le_of_ble_eq_true rfl, Nat.le_of_ble_eq_true rfl⟩ dX12_shorter_51 (fun v10 S9 hh => ?_)
          refine rw_goto E (tgt := 59) (by decide) dX12_shorter_54 ?_
          exact rw_iret E hrt hlk hh (by decide) (by decide) dX12_shorter_59
        · refine rw_aload_n E (j0 := 0) rfl rfl dX12_shorter_39 ?_
          refine rw_iload_n E (j0 := 1) rfl rfl dX12_shorter_40 ?_
          refine rw_iload_n E (j0 := 2) rfl rfl dX12_shorter_41 ?_
          refine rw_cVi E (As := [.int l1, .int l2]) hh (by decide) rfl (fun _ _ _ hq => c_X12_shortOf l b0 G _ _ _ _ _ _ hq) (cwV 2 E.2.2.2.2.1 gX12_shorter_X12_shortOf rfl rfl rfl (by decide +kernel) ⟨Nat.le_of_ble_eq_true rfl, Nat.le_of_ble_eq_true rfl⟩) rfl rfl (by (try simp only [List.map_cons, List.map_nil, List.sum_cons, List.sum_nil, hrf_cat, cat_i, cat_l, cat_r]) <;> decide) ⟨Nat.le_of_ble_eq_true rfl, Nat.le_of_ble_eq_true rfl⟩ dX12_shorter_42 (fun v13 S12 hh => ?_)
          refine rw_goto E (tgt := 59) (by decide) dX12_shorter_45 ?_
          exact rw_iret E hrt hlk hh (by decide) (by decide) dX12_shorter_59

/-! HummingDiscModel.size(I)I -/
abbrev rm_X12_size : Room := { frames := 0, cells := 0, slots := 0, locals := 0 }
def s_X12_size (S : HS) (l0 : Int32) : Option (Int32 × HS) := if 0 ≤ l0 then (some (l0, S)) else (some (-l0, S))
set_option maxHeartbeats 4000000 in
set_option maxRecDepth 100000 in
theorem c_X12_size (l : Launch) (b0 : Nat) (G : hG) (S S1 : HS) (l0 : Int32) (r : Int32) (hh : s_X12_size S l0 = some (r, S1)) : MH l yX12_size wsX12_size rm_X12_size b0 G S [.int l0] (some (.int r)) S1 0 0 := by
  refine MH.ofW (cc := cX12_size) (maxL := 1) (ret := (some .int)) (own := RX12) (lv0 := [(0, .int l0)]) (by decide) rfl rfl (Nat.le_of_ble_eq_true rfl) rfl ?_
  intro p e s m args below meth c E hrt hlk hnm
  have hh : (if 0 ≤ l0 then (some (l0, S)) else (some (-l0, S))) = some (r, S1) := hh
  refine rw_iload_n E (j0 := 0) rfl rfl dX12_size_0 ?_
  refine rw_if_ge E hh (tgt := 9) (by decide) dX12_size_1 (fun hh => ?_) (fun hh => ?_)
  · refine rw_iload_n E (j0 := 0) rfl rfl dX12_size_9 ?_
    exact rw_iret E hrt hlk hh (by decide) (by decide) dX12_size_10
  · refine rw_iload_n E (j0 := 0) rfl rfl dX12_size_4 ?_
    refine rw_ineg E dX12_size_5 ?_
    refine rw_goto E (tgt := 10) (by decide) dX12_size_6 ?_
    exact rw_iret E hrt hlk hh (by decide) (by decide) dX12_size_10

/-! HummingDiscModel.rest(I)V -/
abbrev rm_X12_rest : Room := { frames := 0, cells := 0, slots := 0, locals := 0 }
theorem i_X12_rest_12 : ∀ w ∈ wsX120, w ∈ wsX12_rest := fun _ h => List.mem_cons_of_mem _ (List.mem_append_right _ (h))
def s_X12_rest (S : HS) (h : Nat) (l1 : Int32) : Option (HS) := kwI S ((some h)) 12 19 l1 (fun S1 => kwI S1 ((some h)) 12 20 0 (fun S2 => kwZ S2 ((some h)) 12 21 0 (fun S3 => some S3)))
set_option maxHeartbeats 4000000 in
set_option maxRecDepth 100000 in
theorem c_X12_rest (l : Launch) (b0 : Nat) (G : hG) (S S1 : HS) (h : Nat) (l1 : Int32) (hh : s_X12_rest S h l1 = some S1) : MH l yX12_rest wsX12_rest rm_X12_rest b0 G S [hrf b0 (some h), .int l1] none S1 0 0 := by
  refine MH.ofW (cc := cX12_rest) (maxL := 2) (ret := none) (own := RX12) (lv0 := [(0, hrf b0 ((some h))), (1, .int l1)]) (by decide) rfl rfl (Nat.le_of_ble_eq_true rfl) rfl ?_
  intro p e s m args below meth c E hrt hlk hnm
  have hh : (kwI S ((some h)) 12 19 l1 (fun S1 => kwI S1 ((some h)) 12 20 0 (fun S2 => kwZ S2 ((some h)) 12 21 0 (fun S3 => some S3)))) = some S1 := hh
  refine rw_aload_n E (j0 := 0) rfl rfl dX12_rest_0 ?_
  refine rw_iload_n E (j0 := 1) rfl rfl dX12_rest_1 ?_
  refine rw_putI E hh (C := RX12) (T := TX12) (N := 32) (ty0 := tyX12) rfl tyX12_ok nmX12 (by decide) i_X12_rest_12 (by decide) rfl (List.mem_of_getElem? (i := 1) (by decide +kernel)) rfl (Or.inl rfl) rfl dX12_rest_2 (fun S1 hh => ?_)
  refine rw_aload_n E (j0 := 0) rfl rfl dX12_rest_5 ?_
  refine rw_iconst E (v := 0) (by decide) dX12_rest_6 ?_
  refine rw_putI E hh (C := RX12) (T := TX12) (N := 32) (ty0 := tyX12) rfl tyX12_ok nmX12 (by decide) i_X12_rest_12 (by decide) rfl (List.mem_of_getElem? (i := 2) (by decide +kernel)) rfl (Or.inl rfl) rfl dX12_rest_7 (fun S2 hh => ?_)
  refine rw_aload_n E (j0 := 0) rfl rfl dX12_rest_10 ?_
  refine rw_iconst E (v := 0) (by decide) dX12_rest_11 ?_
  refine rw_putZ E hh (C := RX12) (T := TX12) (N := 32) (ty0 := tyX12) rfl tyX12_ok nmX12 (by decide) i_X12_rest_12 (by decide) rfl (List.mem_of_getElem? (i := 3) (by decide +kernel)) rfl (Or.inl rfl) rfl dX12_rest_12 (fun S3 hh => ?_)
  exact rw_vret E hrt hlk hh (by decide) (by decide) dX12_rest_15

/-! HummingDiscModel.tick(IIII)V -/
abbrev rm_X12_tick : Room := { frames := 4, cells := 0, slots := 0, locals := 90 }
theorem i_X12_tick_12 : ∀ w ∈ wsX120, w ∈ wsX12_tick := fun _ h => List.mem_cons_of_mem _ (List.mem_append_right _ (h))
def s_X12_tick_b262 (h : Nat) (S : HS) (k0 : Option Nat) (k1 : Int32) : Option (HS) := kwZ S k0 12 23 k1 (fun S1 => some S1)
set_option maxHeartbeats 4000000 in
set_option maxRecDepth 100000 in
theorem w_X12_tick_b262 {p : Program} {l : Launch} {e : Env} {s : State} {m : MethodId} {args : Array Value} {below : List Frame} {meth : Method} {c : Code} {b0 : Nat} {G : hG} {S1 : HS} {h : Nat} {S : HS} {k0 : Option Nat} {k1 : Int32} (E : hE p s m args c b0 G cX12_tick RX12 11 wsX12_tick) (hrt : meth.sig.returnType = none) (hlk : meth.locks = false) (hh : s_X12_tick_b262 h S k0 k1 = some S1) : WH p l e rm_X12_tick s m args below meth c b0 G 11 0 0 (MQ below (hQ b0 G none S1) args s 0 0 (hA b0)) S 262 [] [.int k1, hrf b0 k0] := by
  have hh : (kwZ S k0 12 23 k1 (fun S1 => some S1)) = some S1 := hh
  refine rw_putZ E hh (C := RX12) (T := TX12) (N := 32) (ty0 := tyX12) rfl tyX12_ok nmX12 (by decide) i_X12_tick_12 (by decide) rfl (List.mem_of_getElem? (i := 7) (by decide +kernel)) rfl (Or.inl rfl) rfl dX12_tick_262 (fun S1 hh => ?_)
  exact rw_vret E hrt hlk hh (by decide) (by decide) dX12_tick_265
def s_X12_tick_b257 (h : Nat) (S : HS) (k0 : Option Nat) : Option (HS) := s_X12_tick_b262 h S k0 1
set_option maxHeartbeats 4000000 in
set_option maxRecDepth 100000 in
theorem w_X12_tick_b257 {p : Program} {l : Launch} {e : Env} {s : State} {m : MethodId} {args : Array Value} {below : List Frame} {meth : Method} {c : Code} {b0 : Nat} {G : hG} {S1 : HS} {h : Nat} {S : HS} {k0 : Option Nat} (E : hE p s m args c b0 G cX12_tick RX12 11 wsX12_tick) (hrt : meth.sig.returnType = none) (hlk : meth.locks = false) (hh : s_X12_tick_b257 h S k0 = some S1) : WH p l e rm_X12_tick s m args below meth c b0 G 11 0 0 (MQ below (hQ b0 G none S1) args s 0 0 (hA b0)) S 257 [] [hrf b0 k0] := by
  have hh : (s_X12_tick_b262 h S k0 1) = some S1 := hh
  refine rw_iconst E (v := 1) (by decide) dX12_tick_257 ?_
  refine rw_goto E (tgt := 262) (by decide) dX12_tick_258 ?_
  refine WH.pick [] rfl ?_
  exact w_X12_tick_b262 E hrt hlk hh
def s_X12_tick_b261 (h : Nat) (S : HS) (k0 : Option Nat) : Option (HS) := s_X12_tick_b262 h S k0 0
set_option maxHeartbeats 4000000 in
set_option maxRecDepth 100000 in
theorem w_X12_tick_b261 {p : Program} {l : Launch} {e : Env} {s : State} {m : MethodId} {args : Array Value} {below : List Frame} {meth : Method} {c : Code} {b0 : Nat} {G : hG} {S1 : HS} {h : Nat} {S : HS} {k0 : Option Nat} (E : hE p s m args c b0 G cX12_tick RX12 11 wsX12_tick) (hrt : meth.sig.returnType = none) (hlk : meth.locks = false) (hh : s_X12_tick_b261 h S k0 = some S1) : WH p l e rm_X12_tick s m args below meth c b0 G 11 0 0 (MQ below (hQ b0 G none S1) args s 0 0 (hA b0)) S 261 [] [hrf b0 k0] := by
  have hh : (s_X12_tick_b262 h S k0 0) = some S1 := hh
  refine rw_iconst E (v := 0) (by decide) dX12_tick_261 ?_
  refine WH.pick [] rfl ?_
  exact w_X12_tick_b262 E hrt hlk hh
def s_X12_tick_b245 (h : Nat) (S : HS) (l5 : Int32) (k0 : Option Nat) : Option (HS) := if 0 ≤ l5 then (s_X12_tick_b261 h S k0) else (kI S ((some h)) 12 19 (fun v1 => if v1 < 0 then (s_X12_tick_b261 h S k0) else (s_X12_tick_b257 h S k0)))
set_option maxHeartbeats 4000000 in
set_option maxRecDepth 100000 in
theorem w_X12_tick_b245 {p : Program} {l : Launch} {e : Env} {s : State} {m : MethodId} {args : Array Value} {below : List Frame} {meth : Method} {c : Code} {b0 : Nat} {G : hG} {S1 : HS} {h : Nat} {S : HS} {l5 : Int32} {k0 : Option Nat} (E : hE p s m args c b0 G cX12_tick RX12 11 wsX12_tick) (hrt : meth.sig.returnType = none) (hlk : meth.locks = false) (hh : s_X12_tick_b245 h S l5 k0 = some S1) : WH p l e rm_X12_tick s m args below meth c b0 G 11 0 0 (MQ below (hQ b0 G none S1) args s 0 0 (hA b0)) S 245 [(0, hrf b0 ((some h))), (5, .int l5)] [hrf b0 k0] := by
  have hh : (if 0 ≤ l5 then (s_X12_tick_b261 h S k0) else (kI S ((some h)) 12 19 (fun v1 => if v1 < 0 then (s_X12_tick_b261 h S k0) else (s_X12_tick_b257 h S k0)))) = some S1 := hh
  refine rw_iload E (j0 := 1) rfl dX12_tick_245 ?_
  refine rw_if_ge E hh (tgt := 261) (by decide) dX12_tick_247 (fun hh => ?_) (fun hh => ?_)
  · refine WH.pick [] rfl ?_
    exact w_X12_tick_b261 E hrt hlk hh
  · refine rw_aload_n E (j0 := 0) rfl rfl dX12_tick_250 ?_
    refine rw_getI E hh (C := RX12) (T := TX12) (N := 32) rfl (by decide) i_X12_tick_12 (by decide) rfl (List.mem_of_getElem? (i := 1) (by decide +kernel)) rfl dX12_tick_251 (fun v1 hh => ?_)
    refine rw_if_lt E hh (tgt := 261) (by decide) dX12_tick_254 (fun hh => ?_) (fun hh => ?_)
    · refine WH.pick [] rfl ?_
      exact w_X12_tick_b261 E hrt hlk hh
    · refine WH.pick [] rfl ?_
      exact w_X12_tick_b257 E hrt hlk hh
def s_X12_tick_b232 (h : Nat) (S : HS) (l5 : Int32) : Option (HS) := if l5 ≤ 0 then (s_X12_tick_b245 h S l5 ((some h))) else (kI S ((some h)) 12 19 (fun v1 => if v1 ≤ 0 then (s_X12_tick_b257 h S ((some h))) else (s_X12_tick_b245 h S l5 ((some h)))))
set_option maxHeartbeats 4000000 in
set_option maxRecDepth 100000 in
theorem w_X12_tick_b232 {p : Program} {l : Launch} {e : Env} {s : State} {m : MethodId} {args : Array Value} {below : List Frame} {meth : Method} {c : Code} {b0 : Nat} {G : hG} {S1 : HS} {h : Nat} {S : HS} {l5 : Int32} (E : hE p s m args c b0 G cX12_tick RX12 11 wsX12_tick) (hrt : meth.sig.returnType = none) (hlk : meth.locks = false) (hh : s_X12_tick_b232 h S l5 = some S1) : WH p l e rm_X12_tick s m args below meth c b0 G 11 0 0 (MQ below (hQ b0 G none S1) args s 0 0 (hA b0)) S 232 [(0, hrf b0 ((some h))), (5, .int l5)] [] := by
  have hh : (if l5 ≤ 0 then (s_X12_tick_b245 h S l5 ((some h))) else (kI S ((some h)) 12 19 (fun v1 => if v1 ≤ 0 then (s_X12_tick_b257 h S ((some h))) else (s_X12_tick_b245 h S l5 ((some h)))))) = some S1 := hh
  refine rw_aload_n E (j0 := 0) rfl rfl dX12_tick_232 ?_
  refine rw_iload E (j0 := 1) rfl dX12_tick_233 ?_
  refine rw_if_le E hh (tgt := 245) (by decide) dX12_tick_235 (fun hh => ?_) (fun hh => ?_)
  · refine WH.pick [0, 1] rfl ?_
    exact w_X12_tick_b245 E hrt hlk hh
  · refine rw_aload_n E (j0 := 0) rfl rfl dX12_tick_238 ?_
    refine rw_getI E hh (C := RX12) (T := TX12) (N := 32) rfl (by decide) i_X12_tick_12 (by decide) rfl (List.mem_of_getElem? (i := 1) (by decide +kernel)) rfl dX12_tick_239 (fun v1 hh => ?_)
    refine rw_if_le E hh (tgt := 257) (by decide) dX12_tick_242 (fun hh => ?_) (fun hh => ?_)
    · refine WH.pick [] rfl ?_
      exact w_X12_tick_b257 E hrt hlk hh
    · refine WH.pick [0, 1] rfl ?_
      exact w_X12_tick_b245 E hrt hlk hh
def s_X12_tick_b224 (h : Nat) (S : HS) (l5 : Int32) (k0 : Option Nat) (k1 : Int32) : Option (HS) := kwZ S k0 12 21 k1 (fun S1 => kwI S1 ((some h)) 12 20 0 (fun S2 => s_X12_tick_b232 h S2 l5))
set_option maxHeartbeats 4000000 in
set_option maxRecDepth 100000 in
theorem w_X12_tick_b224 {p : Program} {l : Launch} {e : Env} {s : State} {m : MethodId} {args : Array Value} {below : List Frame} {meth : Method} {c : Code} {b0 : Nat} {G : hG} {S1 : HS} {h : Nat} {S : HS} {l5 : Int32} {k0 : Option Nat} {k1 : Int32} (E : hE p s m args c b0 G cX12_tick RX12 11 wsX12_tick) (hrt : meth.sig.returnType = none) (hlk : meth.locks = false) (hh : s_X12_tick_b224 h S l5 k0 k1 = some S1) : WH p l e rm_X12_tick s m args below meth c b0 G 11 0 0 (MQ below (hQ b0 G none S1) args s 0 0 (hA b0)) S 224 [(0, hrf b0 ((some h))), (5, .int l5)] [.int k1, hrf b0 k0] := by
  have hh : (kwZ S k0 12 21 k1 (fun S1 => kwI S1 ((some h)) 12 20 0 (fun S2 => s_X12_tick_b232 h S2 l5))) = some S1 := hh
  refine rw_putZ E hh (C := RX12) (T := TX12) (N := 32) (ty0 := tyX12) rfl tyX12_ok nmX12 (by decide) i_X12_tick_12 (by decide) rfl (List.mem_of_getElem? (i := 6) (by decide +kernel)) rfl (Or.inl rfl) rfl dX12_tick_224 (fun S1 hh => ?_)
  refine rw_aload_n E (j0 := 0) rfl rfl dX12_tick_227 ?_
  refine rw_iconst E (v := 0) (by decide) dX12_tick_228 ?_
  refine rw_putI E hh (C := RX12) (T := TX12) (N := 32) (ty0 := tyX12) rfl tyX12_ok nmX12 (by decide) i_X12_tick_12 (by decide) rfl (List.mem_of_getElem? (i := 2) (by decide +kernel)) rfl (Or.inl rfl) rfl dX12_tick_229 (fun S2 hh => ?_)
  refine WH.pick [0, 1] rfl ?_
  exact w_X12_tick_b232 E hrt hlk hh
def s_X12_tick_b202 (h : Nat) (S : HS) (l2 : Int32) (l5 : Int32) (l8 : Int64) (k0 : Option Nat) (k1 : Int32) : Option (HS) := kwI S k0 12 19 k1 (fun S1 => kO S1 ((some h)) 12 (fun a4 => kc (s_X12_threadOf S1 a4 l2 3) (fun v3 S2 => if l8 ≤ v3.toInt64 then (s_X12_tick_b224 h S2 l5 ((some h)) 0) else (s_X12_tick_b224 h S2 l5 ((some h)) 1))))
set_option maxHeartbeats 4000000 in
set_option maxRecDepth 100000 in
theorem w_X12_tick_b202 {p : Program} {l : Launch} {e : Env} {s : State} {m : MethodId} {args : Array Value} {below : List Frame} {meth : Method} {c : Code} {b0 : Nat} {G : hG} {S1 : HS} {h : Nat} {S : HS} {l2 : Int32} {l5 : Int32} {l8 : Int64} {k0 : Option Nat} {k1 : Int32} (E : hE p s m args c b0 G cX12_tick RX12 11 wsX12_tick) (hrt : meth.sig.returnType = none) (hlk : meth.locks = false) (hh : s_X12_tick_b202 h S l2 l5 l8 k0 k1 = some S1) : WH p l e rm_X12_tick s m args below meth c b0 G 11 0 0 (MQ below (hQ b0 G none S1) args s 0 0 (hA b0)) S 202 [(0, hrf b0 ((some h))), (2, .int l2), (5, .int l5), (8, .long l8)] [.int k1, hrf b0 k0] := by
  have hh : (kwI S k0 12 19 k1 (fun S1 => kO S1 ((some h)) 12 (fun a4 => kc (s_X12_threadOf S1 a4 l2 3) (fun v3 S2 => if l8 ≤ v3.toInt64 then (s_X12_tick_b224 h S2 l5 ((some h)) 0) else (s_X12_tick_b224 h S2 l5 ((some h)) 1))))) = some S1 := hh
  refine rw_putI E hh (C := RX12) (T := TX12) (N := 32) (ty0 := tyX12) rfl tyX12_ok nmX12 (by decide) i_X12_tick_12 (by decide) rfl (List.mem_of_getElem? (i := 1) (by decide +kernel)) rfl (Or.inl rfl) rfl dX12_tick_202 (fun S1 hh => ?_)
  refine rw_aload_n E (j0 := 0) rfl rfl dX12_tick_205 ?_
  refine rw_lload E (j0 := 3) rfl dX12_tick_206 ?_
  refine rw_aload_n E (j0 := 0) rfl rfl dX12_tick_208 ?_
  refine rw_iload_n E (j0 := 1) rfl rfl dX12_tick_209 ?_
  refine rw_iconst E (v := 3) (by decide) dX12_tick_210 ?_
  refine rw_cVi E (As := [.int l2, .int 3]) hh (by decide) rfl (fun _ _ _ hq => c_X12_threadOf l b0 G _ _ _ _ _ _ hq) (cwV 2 E.2.2.2.2.1 gX12_tick_X12_threadOf rfl rfl rfl (by decide +kernel) ⟨Nat.le_of_ble_eq_true rfl, Nat.le_of_ble_eq_true rfl⟩) rfl rfl (by (try simp only [List.map_cons, List.map_nil, List.sum_cons, List.sum_nil, hrf_cat, cat_i, cat_l, cat_r]) <;> decide) ⟨Nat.le_of_ble_eq_true rfl, Nat.le_of_ble_eq_true rfl⟩ dX12_tick_211 (fun v3 S2 hh => ?_)
  refine rw_i2l E dX12_tick_214 ?_
  refine rw_lle E hh (tgt := 223) (by decide) dX12_tick_215 dX12_tick_216 (fun hh => ?_) (fun hh => ?_)
  · refine rw_iconst E (v := 0) (by decide) dX12_tick_223 ?_
    refine WH.pick [0, 2] rfl ?_
    exact w_X12_tick_b224 E hrt hlk hh
  · refine rw_iconst E (v := 1) (by decide) dX12_tick_219 ?_
    refine rw_goto E (tgt := 224) (by decide) dX12_tick_220 ?_
    refine WH.pick [0, 2] rfl ?_
    exact w_X12_tick_b224 E hrt hlk hh
def s_X12_tick_b143 (h : Nat) (S : HS) (l2 : Int32) (l5 : Int32) (l8 : Int64) (k0 : Option Nat) (k1 : Int32) : Option (HS) := kwI S k0 12 20 k1 (fun S1 => kwI S1 ((some h)) 12 22 l8.toInt32 (fun S2 => kI S2 ((some h)) 12 19 (fun v3 => kI S2 ((some h)) 12 20 (fun v4 => kwI S2 ((some h)) 12 19 (v3 + v4) (fun S5 => kO S5 ((some h)) 12 (fun a8 => kc (s_X12_threadOf S5 a8 l2 2) (fun v7 S6 => kI S6 ((some h)) 12 19 (fun v9 => kc (s_X12_size S6 v9) (fun v11 S10 => if v11 ≤ v7 then (s_X12_tick_b232 h S10 l5) else (kI S10 ((some h)) 12 19 (fun v12 => if 0 ≤ v12 then (s_X12_tick_b202 h S10 l2 l5 l8 ((some h)) v7) else (s_X12_tick_b202 h S10 l2 l5 l8 ((some h)) (-v7)))))))))))))
set_option maxHeartbeats 4000000 in
set_option maxRecDepth 100000 in
theorem w_X12_tick_b143 {p : Program} {l : Launch} {e : Env} {s : State} {m : MethodId} {args : Array Value} {below : List Frame} {meth : Method} {c : Code} {b0 : Nat} {G : hG} {S1 : HS} {h : Nat} {S : HS} {l2 : Int32} {l5 : Int32} {l8 : Int64} {k0 : Option Nat} {k1 : Int32} (E : hE p s m args c b0 G cX12_tick RX12 11 wsX12_tick) (hrt : meth.sig.returnType = none) (hlk : meth.locks = false) (hh : s_X12_tick_b143 h S l2 l5 l8 k0 k1 = some S1) : WH p l e rm_X12_tick s m args below meth c b0 G 11 0 0 (MQ below (hQ b0 G none S1) args s 0 0 (hA b0)) S 143 [(0, hrf b0 ((some h))), (2, .int l2), (5, .int l5), (8, .long l8)] [.int k1, hrf b0 k0] := by
  have hh : (kwI S k0 12 20 k1 (fun S1 => kwI S1 ((some h)) 12 22 l8.toInt32 (fun S2 => kI S2 ((some h)) 12 19 (fun v3 => kI S2 ((some h)) 12 20 (fun v4 => kwI S2 ((some h)) 12 19 (v3 + v4) (fun S5 => kO S5 ((some h)) 12 (fun a8 => kc (s_X12_threadOf S5 a8 l2 2) (fun v7 S6 => kI S6 ((some h)) 12 19 (fun v9 => kc (s_X12_size S6 v9) (fun v11 S10 => if v11 ≤ v7 then (s_X12_tick_b232 h S10 l5) else (kI S10 ((some h)) 12 19 (fun v12 => if 0 ≤ v12 then (s_X12_tick_b202 h S10 l2 l5 l8 ((some h)) v7) else (s_X12_tick_b202 h S10 l2 l5 l8 ((some h)) (-v7)))))))))))))) = some S1 := hh
  refine rw_putI E hh (C := RX12) (T := TX12) (N := 32) (ty0 := tyX12) rfl tyX12_ok nmX12 (by decide) i_X12_tick_12 (by decide) rfl (List.mem_of_getElem? (i := 2) (by decide +kernel)) rfl (Or.inl rfl) rfl dX12_tick_143 (fun S1 hh => ?_)
  refine rw_aload_n E (j0 := 0) rfl rfl dX12_tick_146 ?_
  refine rw_lload E (j0 := 3) rfl dX12_tick_147 ?_
  refine rw_l2i E dX12_tick_149 ?_
  refine rw_putI E hh (C := RX12) (T := TX12) (N := 32) (ty0 := tyX12) rfl tyX12_ok nmX12 (by decide) i_X12_tick_12 (by decide) rfl (List.mem_of_getElem? (i := 5) (by decide +kernel)) rfl (Or.inl rfl) rfl dX12_tick_150 (fun S2 hh => ?_)
  refine rw_aload_n E (j0 := 0) rfl rfl dX12_tick_153 ?_
  refine rw_dup E (hrf_cat _ _) dX12_tick_154 ?_
  refine rw_getI E hh (C := RX12) (T := TX12) (N := 32) rfl (by decide) i_X12_tick_12 (by decide) rfl (List.mem_of_getElem? (i := 1) (by decide +kernel)) rfl dX12_tick_155 (fun v3 hh => ?_)
  refine rw_aload_n E (j0 := 0) rfl rfl dX12_tick_158 ?_
  refine rw_getI E hh (C := RX12) (T := TX12) (N := 32) rfl (by decide) i_X12_tick_12 (by decide) rfl (List.mem_of_getElem? (i := 2) (by decide +kernel)) rfl dX12_tick_159 (fun v4 hh => ?_)
  refine rw_iadd E dX12_tick_162 ?_
  refine rw_putI E hh (C := RX12) (T := TX12) (N := 32) (ty0 := tyX12) rfl tyX12_ok nmX12 (by decide) i_X12_tick_12 (by decide) rfl (List.mem_of_getElem? (i := 1) (by decide +kernel)) rfl (Or.inl rfl) rfl dX12_tick_163 (fun S5 hh => ?_)
  refine rw_aload_n E (j0 := 0) rfl rfl dX12_tick_166 ?_
  refine rw_iload_n E (j0 := 1) rfl rfl dX12_tick_167 ?_
  refine rw_iconst E (v := 2) (by decide) dX12_tick_168 ?_
  refine rw_cVi E (As := [.int l2, .int 2]) hh (by decide) rfl (fun _ _ _ hq => c_X12_threadOf l b0 G _ _ _ _ _ _ hq) (cwV 2 E.2.2.2.2.1 gX12_tick_X12_threadOf rfl rfl rfl (by decide +kernel) ⟨Nat.le_of_ble_eq_true rfl, Nat.le_of_ble_eq_true rfl⟩) rfl rfl (by (try simp only [List.map_cons, List.map_nil, List.sum_cons, List.sum_nil, hrf_cat, cat_i, cat_l, cat_r]) <;> decide) ⟨Nat.le_of_ble_eq_true rfl, Nat.le_of_ble_eq_true rfl⟩ dX12_tick_169 (fun v7 S6 hh => ?_)
  refine rw_istore E (lv2 := [(10, .int v7), (0, hrf b0 ((some h))), (2, .int l2), (5, .int l5), (8, .long l8)]) (by decide) rfl dX12_tick_172 ?_
  refine rw_aload_n E (j0 := 1) rfl rfl dX12_tick_174 ?_
  refine rw_getI E hh (C := RX12) (T := TX12) (N := 32) rfl (by decide) i_X12_tick_12 (by decide) rfl (List.mem_of_getElem? (i := 1) (by decide +kernel)) rfl dX12_tick_175 (fun v9 hh => ?_)
  refine rw_cSi E (As := [.int v9]) hh (fun _ _ hq => c_X12_size l b0 G _ _ _ _ hq) (va_cwS 1 E.2.2.2.2.1 gX12_tick_X12_size rfl rfl rfl (by decide +kernel) ⟨Nat.le_of_ble_eq_true rfl, Nat.le_of_ble_eq_true rfl⟩) rfl rfl (by (try simp only [List.map_cons, List.map_nil, List.sum_cons, List.sum_nil, hrf_cat, cat_i, cat_l, cat_r]) <;> decide) ⟨Nat.le_of_ble_eq_true rfl, Nat.le_of_ble_eq_true rfl⟩ dX12_tick_178 (fun v11 S10 hh => ?_)
  refine rw_iload E (j0 := 0) rfl dX12_tick_181 ?_
  refine rw_icmp_le E hh (tgt := 232) (by decide) dX12_tick_183 (fun hh => ?_) (fun hh => ?_)
  · refine WH.pick [1, 3] rfl ?_
    exact w_X12_tick_b232 E hrt hlk hh
  · refine rw_aload_n E (j0 := 1) rfl rfl dX12_tick_186 ?_
    refine rw_aload_n E (j0 := 1) rfl rfl dX12_tick_187 ?_
    refine rw_getI E hh (C := RX12) (T := TX12) (N := 32) rfl (by decide) i_X12_tick_12 (by decide) rfl (List.mem_of_getElem? (i := 1) (by decide +kernel)) rfl dX12_tick_188 (fun v12 hh => ?_)
    refine rw_if_ge E hh (tgt := 200) (by decide) dX12_tick_191 (fun hh => ?_) (fun hh => ?_)
    · refine rw_iload E (j0 := 0) rfl dX12_tick_200 ?_
      refine WH.pick [1, 2, 3, 4] rfl ?_
      exact w_X12_tick_b202 E hrt hlk hh
    · refine rw_iload E (j0 := 0) rfl dX12_tick_194 ?_
      refine rw_ineg E dX12_tick_196 ?_
      refine rw_goto E (tgt := 202) (by decide) dX12_tick_197 ?_
      refine WH.pick [1, 2, 3, 4] rfl ?_
      exact w_X12_tick_b202 E hrt hlk hh
def s_X12_tick_b125 (h : Nat) (S : HS) (l2 : Int32) (l5 : Int32) (l7 : Int32) (k0 : Int64) : Option (HS) := if 0 ≤ l7 then (s_X12_tick_b143 h S l2 l5 k0 ((some h)) k0.toInt32) else (s_X12_tick_b143 h S l2 l5 k0 ((some h)) ((-k0 : Int64).toInt32))
set_option maxHeartbeats 4000000 in
set_option maxRecDepth 100000 in
theorem w_X12_tick_b125 {p : Program} {l : Launch} {e : Env} {s : State} {m : MethodId} {args : Array Value} {below : List Frame} {meth : Method} {c : Code} {b0 : Nat} {G : hG} {S1 : HS} {h : Nat} {S : HS} {l2 : Int32} {l5 : Int32} {l7 : Int32} {k0 : Int64} (E : hE p s m args c b0 G cX12_tick RX12 11 wsX12_tick) (hrt : meth.sig.returnType = none) (hlk : meth.locks = false) (hh : s_X12_tick_b125 h S l2 l5 l7 k0 = some S1) : WH p l e rm_X12_tick s m args below meth c b0 G 11 0 0 (MQ below (hQ b0 G none S1) args s 0 0 (hA b0)) S 125 [(0, hrf b0 ((some h))), (2, .int l2), (5, .int l5), (7, .int l7)] [.long k0] := by
  have hh : (if 0 ≤ l7 then (s_X12_tick_b143 h S l2 l5 k0 ((some h)) k0.toInt32) else (s_X12_tick_b143 h S l2 l5 k0 ((some h)) ((-k0 : Int64).toInt32))) = some S1 := hh
  refine rw_lstore E (lv2 := [(8, .long k0), (0, hrf b0 ((some h))), (2, .int l2), (5, .int l5), (7, .int l7)]) (by decide) rfl dX12_tick_125 ?_
  refine rw_aload_n E (j0 := 1) rfl rfl dX12_tick_127 ?_
  refine rw_iload E (j0 := 4) rfl dX12_tick_128 ?_
  refine rw_if_ge E hh (tgt := 140) (by decide) dX12_tick_130 (fun hh => ?_) (fun hh => ?_)
  · refine rw_lload E (j0 := 0) rfl dX12_tick_140 ?_
    refine rw_l2i E dX12_tick_142 ?_
    refine WH.pick [1, 2, 3, 0] rfl ?_
    exact w_X12_tick_b143 E hrt hlk hh
  · refine rw_lload E (j0 := 0) rfl dX12_tick_133 ?_
    refine rw_lneg E dX12_tick_135 ?_
    refine rw_l2i E dX12_tick_136 ?_
    refine rw_goto E (tgt := 143) (by decide) dX12_tick_137 ?_
    refine WH.pick [1, 2, 3, 0] rfl ?_
    exact w_X12_tick_b143 E hrt hlk hh
def s_X12_tick_b70 (h : Nat) (S : HS) (l1 : Int32) (l2 : Int32) (l4 : Int32) (l5 : Int32) (k0 : Int32) : Option (HS) := kc (s_X12_size S k0) (fun v2 S1 => kldiv (v2.toInt64 * v2.toInt64) 1000 (fun v3 => kO S1 ((some h)) 12 (fun a6 => kc (s_X12_discOf S1 a6 l1 1) (fun v5 S4 => kldiv (v3 * v5.toInt64) 100 (fun v7 => if l4.toInt64 ≤ v2.toInt64 - v7 then (s_X12_tick_b125 h S4 l2 l5 k0 ((v2.toInt64 - v7) - l4.toInt64)) else (s_X12_tick_b125 h S4 l2 l5 k0 0))))))
set_option maxHeartbeats 4000000 in
set_option maxRecDepth 100000 in
theorem w_X12_tick_b70 {p : Program} {l : Launch} {e : Env} {s : State} {m : MethodId} {args : Array Value} {below : List Frame} {meth : Method} {c : Code} {b0 : Nat} {G : hG} {S1 : HS} {h : Nat} {S : HS} {l1 : Int32} {l2 : Int32} {l4 : Int32} {l5 : Int32} {k0 : Int32} (E : hE p s m args c b0 G cX12_tick RX12 11 wsX12_tick) (hrt : meth.sig.returnType = none) (hlk : meth.locks = false) (hh : s_X12_tick_b70 h S l1 l2 l4 l5 k0 = some S1) : WH p l e rm_X12_tick s m args below meth c b0 G 11 0 0 (MQ below (hQ b0 G none S1) args s 0 0 (hA b0)) S 70 [(0, hrf b0 ((some h))), (1, .int l1), (2, .int l2), (4, .int l4), (5, .int l5)] [.int k0] := by
  have hh : (kc (s_X12_size S k0) (fun v2 S1 => kldiv (v2.toInt64 * v2.toInt64) 1000 (fun v3 => kO S1 ((some h)) 12 (fun a6 => kc (s_X12_discOf S1 a6 l1 1) (fun v5 S4 => kldiv (v3 * v5.toInt64) 100 (fun v7 => if l4.toInt64 ≤ v2.toInt64 - v7 then (s_X12_tick_b125 h S4 l2 l5 k0 ((v2.toInt64 - v7) - l4.toInt64)) else (s_X12_tick_b125 h S4 l2 l5 k0 0))))))) = some S1 := hh
  refine rw_istore E (lv2 := [(7, .int k0), (0, hrf b0 ((some h))), (1, .int l1), (2, .int l2), (4, .int l4), (5, .int l5)]) (by decide) rfl dX12_tick_70 ?_
  refine rw_iload E (j0 := 0) rfl dX12_tick_72 ?_
  refine rw_cSi E (As := [.int k0]) hh (fun _ _ hq => c_X12_size l b0 G _ _ _ _ hq) (va_cwS 1 E.2.2.2.2.1 gX12_tick_X12_size rfl rfl rfl (by decide +kernel) ⟨Nat.le_of_ble_eq_true rfl, Nat.le_of_ble_eq_true rfl⟩) rfl rfl (by (try simp only [List.map_cons, List.map_nil, List.sum_cons, List.sum_nil, hrf_cat, cat_i, cat_l, cat_r]) <;> decide) ⟨Nat.le_of_ble_eq_true rfl, Nat.le_of_ble_eq_true rfl⟩ dX12_tick_74 (fun v2 S1 hh => ?_)
  refine rw_i2l E dX12_tick_77 ?_
  refine rw_lstore E (lv2 := [(8, .long v2.toInt64), (7, .int k0), (0, hrf b0 ((some h))), (1, .int l1), (2, .int l2), (4, .int l4), (5, .int l5)]) (by decide) rfl dX12_tick_78 ?_
  refine rw_lload E (j0 := 0) rfl dX12_tick_80 ?_
  refine rw_lload E (j0 := 0) rfl dX12_tick_82 ?_
  refine rw_lload E (j0 := 0) rfl dX12_tick_84 ?_
  refine rw_lmul E dX12_tick_86 ?_
  refine rw_ldc2 E (v := 1000) (List.mem_of_getElem? (i := 3) (by decide +kernel)) dX12_tick_87 ?_
  refine rw_ldiv E hh dX12_tick_90 (fun v3 hh => ?_)
  refine rw_aload_n E (j0 := 2) rfl rfl dX12_tick_91 ?_
  refine rw_iload_n E (j0 := 3) rfl rfl dX12_tick_92 ?_
  refine rw_iconst E (v := 1) (by decide) dX12_tick_93 ?_
  refine rw_cVi E (As := [.int l1, .int 1]) hh (by decide) rfl (fun _ _ _ hq => c_X12_discOf l b0 G _ _ _ _ _ _ hq) (cwV 2 E.2.2.2.2.1 gX12_tick_X12_discOf rfl rfl rfl (by decide +kernel) ⟨Nat.le_of_ble_eq_true rfl, Nat.le_of_ble_eq_true rfl⟩) rfl rfl (by (try simp only [List.map_cons, List.map_nil, List.sum_cons, List.sum_nil, hrf_cat, cat_i, cat_l, cat_r]) <;> decide) ⟨Nat.le_of_ble_eq_true rfl, Nat.le_of_ble_eq_true rfl⟩ dX12_tick_94 (fun v5 S4 hh => ?_)
  refine rw_i2l E dX12_tick_97 ?_
  refine rw_lmul E dX12_tick_98 ?_
  refine rw_ldc2 E (v := 100) (List.mem_of_getElem? (i := 4) (by decide +kernel)) dX12_tick_99 ?_
  refine rw_ldiv E hh dX12_tick_102 (fun v7 hh => ?_)
  refine rw_lsub E dX12_tick_103 ?_
  refine rw_lstore E (lv2 := [(8, .long (v2.toInt64 - v7)), (7, .int k0), (0, hrf b0 ((some h))), (1, .int l1), (2, .int l2), (4, .int l4), (5, .int l5)]) (by decide) rfl dX12_tick_104 ?_
  refine rw_lload E (j0 := 0) rfl dX12_tick_106 ?_
  refine rw_iload E (j0 := 5) rfl dX12_tick_108 ?_
  refine rw_i2l E dX12_tick_110 ?_
  refine rw_lge E hh (tgt := 119) (by decide) dX12_tick_111 dX12_tick_112 (fun hh => ?_) (fun hh => ?_)
  · refine rw_lload E (j0 := 0) rfl dX12_tick_119 ?_
    refine rw_iload E (j0 := 5) rfl dX12_tick_121 ?_
    refine rw_i2l E dX12_tick_123 ?_
    refine rw_lsub E dX12_tick_124 ?_
    refine WH.pick [2, 4, 6, 1] rfl ?_
    exact w_X12_tick_b125 E hrt hlk hh
  · refine rw_lconst E (v := 0) (by decide) dX12_tick_115 ?_
    refine rw_goto E (tgt := 125) (by decide) dX12_tick_116 ?_
    refine WH.pick [2, 4, 6, 1] rfl ?_
    exact w_X12_tick_b125 E hrt hlk hh
def s_X12_tick (S : HS) (h : Nat) (l1 : Int32) (l2 : Int32) (l3 : Int32) (l4 : Int32) : Option (HS) := kI S ((some h)) 12 19 (fun v1 => kI S ((some h)) 12 19 (fun v2 => kc (s_X12_size S v2) (fun v4 S3 => kO S3 ((some h)) 12 (fun a7 => kc (s_X12_slopeOf S3 a7 l2 v4) (fun v6 S5 => kO S5 ((some h)) 12 (fun a10 => kc (s_X12_discOf S5 a10 l1 0) (fun v9 S8 => kdiv ((l3 * v6) * 10) v9 (fun v11 => kI S8 ((some h)) 12 19 (fun v12 => if v12 ≤ 0 then (kI S8 ((some h)) 12 19 (fun v13 => if 0 ≤ v13 then (kI S8 ((some h)) 12 20 (fun v14 => s_X12_tick_b70 h S8 l1 l2 l4 v1 v14)) else (kI S8 ((some h)) 12 20 (fun v15 => s_X12_tick_b70 h S8 l1 l2 l4 v1 (v15 + v11))))) else (kI S8 ((some h)) 12 20 (fun v16 => s_X12_tick_b70 h S8 l1 l2 l4 v1 (v16 - v11))))))))))))
set_option maxHeartbeats 4000000 in
set_option maxRecDepth 100000 in
theorem c_X12_tick (l : Launch) (b0 : Nat) (G : hG) (S S1 : HS) (h : Nat) (l1 : Int32) (l2 : Int32) (l3 : Int32) (l4 : Int32) (hh : s_X12_tick S h l1 l2 l3 l4 = some S1) : MH l yX12_tick wsX12_tick rm_X12_tick b0 G S [hrf b0 (some h), .int l1, .int l2, .int l3, .int l4] none S1 0 0 := by
  refine MH.ofW (cc := cX12_tick) (maxL := 11) (ret := none) (own := RX12) (lv0 := [(0, hrf b0 ((some h))), (1, .int l1), (2, .int l2), (3, .int l3), (4, .int l4)]) (by decide) rfl rfl (Nat.le_of_ble_eq_true rfl) rfl ?_
  intro p e s m args below meth c E hrt hlk hnm
  have hh : (kI S ((some h)) 12 19 (fun v1 => kI S ((some h)) 12 19 (fun v2 => kc (s_X12_size S v2) (fun v4 S3 => kO S3 ((some h)) 12 (fun a7 => kc (s_X12_slopeOf S3 a7 l2 v4) (fun v6 S5 => kO S5 ((some h)) 12 (fun a10 => kc (s_X12_discOf S5 a10 l1 0) (fun v9 S8 => kdiv ((l3 * v6) * 10) v9 (fun v11 => kI S8 ((some h)) 12 19 (fun v12 => if v12 ≤ 0 then (kI S8 ((some h)) 12 19 (fun v13 => if 0 ≤ v13 then (kI S8 ((some h)) 12 20 (fun v14 => s_X12_tick_b70 h S8 l1 l2 l4 v1 v14)) else (kI S8 ((some h)) 12 20 (fun v15 => s_X12_tick_b70 h S8 l1 l2 l4 v1 (v15 + v11))))) else (kI S8 ((some h)) 12 20 (fun v16 => s_X12_tick_b70 h S8 l1 l2 l4 v1 (v16 - v11))))))))))))) = some S1 := hh
  refine rw_aload_n E (j0 := 0) rfl rfl dX12_tick_0 ?_
  refine rw_getI E hh (C := RX12) (T := TX12) (N := 32) rfl (by decide) i_X12_tick_12 (by decide) rfl (List.mem_of_getElem? (i := 1) (by decide +kernel)) rfl dX12_tick_1 (fun v1 hh => ?_)
  refine rw_istore E (lv2 := [(5, .int v1), (0, hrf b0 ((some h))), (1, .int l1), (2, .int l2), (3, .int l3), (4, .int l4)]) (by decide) rfl dX12_tick_4 ?_
  refine rw_iload_n E (j0 := 4) rfl rfl dX12_tick_6 ?_
  refine rw_aload_n E (j0 := 1) rfl rfl dX12_tick_7 ?_
  refine rw_iload_n E (j0 := 3) rfl rfl dX12_tick_8 ?_
  refine rw_aload_n E (j0 := 1) rfl rfl dX12_tick_9 ?_
  refine rw_getI E hh (C := RX12) (T := TX12) (N := 32) rfl (by decide) i_X12_tick_12 (by decide) rfl (List.mem_of_getElem? (i := 1) (by decide +kernel)) rfl dX12_tick_10 (fun v2 hh => ?_)
  refine rw_cSi E (As := [.int v2]) hh (fun _ _ hq => c_X12_size l b0 G _ _ _ _ hq) (va_cwS 1 E.2.2.2.2.1 gX12_tick_X12_size rfl rfl rfl (by decide +kernel) ⟨Nat.le_of_ble_eq_true rfl, Nat.le_of_ble_eq_true rfl⟩) rfl rfl (by (try simp only [List.map_cons, List.map_nil, List.sum_cons, List.sum_nil, hrf_cat, cat_i, cat_l, cat_r]) <;> decide) ⟨Nat.le_of_ble_eq_true rfl, Nat.le_of_ble_eq_true rfl⟩ dX12_tick_13 (fun v4 S3 hh => ?_)
  refine rw_cVi E (As := [.int l2, .int v4]) hh (by decide) rfl (fun _ _ _ hq => c_X12_slopeOf l b0 G _ _ _ _ _ _ hq) (cwV 2 E.2.2.2.2.1 gX12_tick_X12_slopeOf rfl rfl rfl (by decide +kernel) ⟨Nat.le_of_ble_eq_true rfl, Nat.le_of_ble_eq_true rfl⟩) rfl rfl (by (try simp only [List.map_cons, List.map_nil, List.sum_cons, List.sum_nil, hrf_cat, cat_i, cat_l, cat_r]) <;> decide) ⟨Nat.le_of_ble_eq_true rfl, Nat.le_of_ble_eq_true rfl⟩ dX12_tick_16 (fun v6 S5 hh => ?_)
  refine rw_imul E dX12_tick_19 ?_
  refine rw_bipush E (v := 10) (by decide) dX12_tick_20 ?_
  refine rw_imul E dX12_tick_22 ?_
  refine rw_aload_n E (j0 := 1) rfl rfl dX12_tick_23 ?_
  refine rw_iload_n E (j0 := 2) rfl rfl dX12_tick_24 ?_
  refine rw_iconst E (v := 0) (by decide) dX12_tick_25 ?_
  refine rw_cVi E (As := [.int l1, .int 0]) hh (by decide) rfl (fun _ _ _ hq => c_X12_discOf l b0 G _ _ _ _ _ _ hq) (cwV 2 E.2.2.2.2.1 gX12_tick_X12_discOf rfl rfl rfl (by decide +kernel) ⟨Nat.le_of_ble_eq_true rfl, Nat.le_of_ble_eq_true rfl⟩) rfl rfl (by (try simp only [List.map_cons, List.map_nil, List.sum_cons, List.sum_nil, hrf_cat, cat_i, cat_l, cat_r]) <;> decide) ⟨Nat.le_of_ble_eq_true rfl, Nat.le_of_ble_eq_true rfl⟩ dX12_tick_26 (fun v9 S8 hh => ?_)
  refine rw_idiv E hh dX12_tick_29 (fun v11 hh => ?_)
  refine rw_istore E (lv2 := [(6, .int v11), (5, .int v1), (0, hrf b0 ((some h))), (1, .int l1), (2, .int l2), (3, .int l3), (4, .int l4)]) (by decide) rfl dX12_tick_30 ?_
  refine rw_aload_n E (j0 := 2) rfl rfl dX12_tick_32 ?_
  refine rw_getI E hh (C := RX12) (T := TX12) (N := 32) rfl (by decide) i_X12_tick_12 (by decide) rfl (List.mem_of_getElem? (i := 1) (by decide +kernel)) rfl dX12_tick_33 (fun v12 hh => ?_)
  refine rw_if_le E hh (tgt := 49) (by decide) dX12_tick_36 (fun hh => ?_) (fun hh => ?_)
  · refine rw_aload_n E (j0 := 2) rfl rfl dX12_tick_49 ?_
    refine rw_getI E hh (C := RX12) (T := TX12) (N := 32) rfl (by decide) i_X12_tick_12 (by decide) rfl (List.mem_of_getElem? (i := 1) (by decide +kernel)) rfl dX12_tick_50 (fun v13 hh => ?_)
    refine rw_if_ge E hh (tgt := 66) (by decide) dX12_tick_53 (fun hh => ?_) (fun hh => ?_)
    · refine rw_aload_n E (j0 := 2) rfl rfl dX12_tick_66 ?_
      refine rw_getI E hh (C := RX12) (T := TX12) (N := 32) rfl (by decide) i_X12_tick_12 (by decide) rfl (List.mem_of_getElem? (i := 2) (by decide +kernel)) rfl dX12_tick_67 (fun v14 hh => ?_)
      refine WH.pick [2, 3, 4, 6, 1] rfl ?_
      exact w_X12_tick_b70 E hrt hlk hh
    · refine rw_aload_n E (j0 := 2) rfl rfl dX12_tick_56 ?_
      refine rw_getI E hh (C := RX12) (T := TX12) (N := 32) rfl (by decide) i_X12_tick_12 (by decide) rfl (List.mem_of_getElem? (i := 2) (by decide +kernel)) rfl dX12_tick_57 (fun v15 hh => ?_)
      refine rw_iload E (j0 := 0) rfl dX12_tick_60 ?_
      refine rw_iadd E dX12_tick_62 ?_
      refine rw_goto E (tgt := 70) (by decide) dX12_tick_63 ?_
      refine WH.pick [2, 3, 4, 6, 1] rfl ?_
      exact w_X12_tick_b70 E hrt hlk hh
  · refine rw_aload_n E (j0 := 2) rfl rfl dX12_tick_39 ?_
    refine rw_getI E hh (C := RX12) (T := TX12) (N := 32) rfl (by decide) i_X12_tick_12 (by decide) rfl (List.mem_of_getElem? (i := 2) (by decide +kernel)) rfl dX12_tick_40 (fun v16 hh => ?_)
    refine rw_iload E (j0 := 0) rfl dX12_tick_43 ?_
    refine rw_isub E dX12_tick_45 ?_
    refine rw_goto E (tgt := 70) (by decide) dX12_tick_46 ?_
    refine WH.pick [2, 3, 4, 6, 1] rfl ?_
    exact w_X12_tick_b70 E hrt hlk hh

/-! HummingDiscModel.unwinds()Z -/
abbrev rm_X12_unwinds : Room := { frames := 0, cells := 0, slots := 0, locals := 0 }
theorem i_X12_unwinds_12 : ∀ w ∈ wsX120, w ∈ wsX12_unwinds := fun _ h => List.mem_cons_of_mem _ (List.mem_append_right _ (h))
def s_X12_unwinds_b35 (h : Nat) (S : HS) : Option (Int32 × HS) := kzr 1 S
set_option maxHeartbeats 4000000 in
set_option maxRecDepth 100000 in
theorem w_X12_unwinds_b35 {p : Program} {l : Launch} {e : Env} {s : State} {m : MethodId} {args : Array Value} {below : List Frame} {meth : Method} {c : Code} {b0 : Nat} {G : hG} {S1 : HS} {r : Int32} {h : Nat} {S : HS} (E : hE p s m args c b0 G cX12_unwinds RX12 1 wsX12_unwinds) (hrt : meth.sig.returnType = (some .boolean)) (hlk : meth.locks = false) (hh : s_X12_unwinds_b35 h S = some (r, S1)) : WH p l e rm_X12_unwinds s m args below meth c b0 G 1 0 0 (MQ below (hQ b0 G (some (.int r)) S1) args s 0 0 (hA b0)) S 35 [] [] := by
  have hh : (kzr 1 S) = some (r, S1) := hh
  refine rw_iconst E (v := 1) (by decide) dX12_unwinds_35 ?_
  refine rw_goto E (tgt := 40) (by decide) dX12_unwinds_36 ?_
  exact rw_zret E hrt hlk hh (by decide) (by decide) dX12_unwinds_40
def s_X12_unwinds_b21 (h : Nat) (S : HS) : Option (Int32 × HS) := kI S ((some h)) 12 20 (fun v1 => if v1 ≤ 0 then (kzr 0 S) else (kI S ((some h)) 12 19 (fun v2 => if 0 ≤ v2 then (kzr 0 S) else (s_X12_unwinds_b35 h S))))
set_option maxHeartbeats 4000000 in
set_option maxRecDepth 100000 in
theorem w_X12_unwinds_b21 {p : Program} {l : Launch} {e : Env} {s : State} {m : MethodId} {args : Array Value} {below : List Frame} {meth : Method} {c : Code} {b0 : Nat} {G : hG} {S1 : HS} {r : Int32} {h : Nat} {S : HS} (E : hE p s m args c b0 G cX12_unwinds RX12 1 wsX12_unwinds) (hrt : meth.sig.returnType = (some .boolean)) (hlk : meth.locks = false) (hh : s_X12_unwinds_b21 h S = some (r, S1)) : WH p l e rm_X12_unwinds s m args below meth c b0 G 1 0 0 (MQ below (hQ b0 G (some (.int r)) S1) args s 0 0 (hA b0)) S 21 [(0, hrf b0 ((some h)))] [] := by
  have hh : (kI S ((some h)) 12 20 (fun v1 => if v1 ≤ 0 then (kzr 0 S) else (kI S ((some h)) 12 19 (fun v2 => if 0 ≤ v2 then (kzr 0 S) else (s_X12_unwinds_b35 h S))))) = some (r, S1) := hh
  refine rw_aload_n E (j0 := 0) rfl rfl dX12_unwinds_21 ?_
  refine rw_getI E hh (C := RX12) (T := TX12) (N := 32) rfl (by decide) i_X12_unwinds_12 (by decide) rfl (List.mem_of_getElem? (i := 1) (by decide +kernel)) rfl dX12_unwinds_22 (fun v1 hh => ?_)
  refine rw_if_le E hh (tgt := 39) (by decide) dX12_unwinds_25 (fun hh => ?_) (fun hh => ?_)
  · refine rw_iconst E (v := 0) (by decide) dX12_unwinds_39 ?_
    exact rw_zret E hrt hlk hh (by decide) (by decide) dX12_unwinds_40
  · refine rw_aload_n E (j0 := 0) rfl rfl dX12_unwinds_28 ?_
    refine rw_getI E hh (C := RX12) (T := TX12) (N := 32) rfl (by decide) i_X12_unwinds_12 (by decide) rfl (List.mem_of_getElem? (i := 2) (by decide +kernel)) rfl dX12_unwinds_29 (fun v2 hh => ?_)
    refine rw_if_ge E hh (tgt := 39) (by decide) dX12_unwinds_32 (fun hh => ?_) (fun hh => ?_)
    · refine rw_iconst E (v := 0) (by decide) dX12_unwinds_39 ?_
      exact rw_zret E hrt hlk hh (by decide) (by decide) dX12_unwinds_40
    · refine WH.pick [] rfl ?_
      exact w_X12_unwinds_b35 E hrt hlk hh
def s_X12_unwinds (S : HS) (h : Nat) : Option (Int32 × HS) := kI S ((some h)) 12 20 (fun v1 => if v1 = 0 then (s_X12_unwinds_b35 h S) else (kI S ((some h)) 12 20 (fun v2 => if 0 ≤ v2 then (s_X12_unwinds_b21 h S) else (kI S ((some h)) 12 19 (fun v3 => if 0 < v3 then (s_X12_unwinds_b35 h S) else (s_X12_unwinds_b21 h S))))))
set_option maxHeartbeats 4000000 in
set_option maxRecDepth 100000 in
theorem c_X12_unwinds (l : Launch) (b0 : Nat) (G : hG) (S S1 : HS) (h : Nat) (r : Int32) (hh : s_X12_unwinds S h  = some (r, S1)) : MH l yX12_unwinds wsX12_unwinds rm_X12_unwinds b0 G S [hrf b0 (some h)] (some (.int r)) S1 0 0 := by
  refine MH.ofW (cc := cX12_unwinds) (maxL := 1) (ret := (some .boolean)) (own := RX12) (lv0 := [(0, hrf b0 ((some h)))]) (by decide) rfl rfl (Nat.le_of_ble_eq_true rfl) rfl ?_
  intro p e s m args below meth c E hrt hlk hnm
  have hh : (kI S ((some h)) 12 20 (fun v1 => if v1 = 0 then (s_X12_unwinds_b35 h S) else (kI S ((some h)) 12 20 (fun v2 => if 0 ≤ v2 then (s_X12_unwinds_b21 h S) else (kI S ((some h)) 12 19 (fun v3 => if 0 < v3 then (s_X12_unwinds_b35 h S) else (s_X12_unwinds_b21 h S))))))) = some (r, S1) := hh
  refine rw_aload_n E (j0 := 0) rfl rfl dX12_unwinds_0 ?_
  refine rw_getI E hh (C := RX12) (T := TX12) (N := 32) rfl (by decide) i_X12_unwinds_12 (by decide) rfl (List.mem_of_getElem? (i := 1) (by decide +kernel)) rfl dX12_unwinds_1 (fun v1 hh => ?_)
  refine rw_if_eq E hh (tgt := 35) (by decide) dX12_unwinds_4 (fun hh => ?_) (fun hh => ?_)
  · refine WH.pick [] rfl ?_
    exact w_X12_unwinds_b35 E hrt hlk hh
  · refine rw_aload_n E (j0 := 0) rfl rfl dX12_unwinds_7 ?_
    refine rw_getI E hh (C := RX12) (T := TX12) (N := 32) rfl (by decide) i_X12_unwinds_12 (by decide) rfl (List.mem_of_getElem? (i := 1) (by decide +kernel)) rfl dX12_unwinds_8 (fun v2 hh => ?_)
    refine rw_if_ge E hh (tgt := 21) (by decide) dX12_unwinds_11 (fun hh => ?_) (fun hh => ?_)
    · refine WH.pick [0] rfl ?_
      exact w_X12_unwinds_b21 E hrt hlk hh
    · refine rw_aload_n E (j0 := 0) rfl rfl dX12_unwinds_14 ?_
      refine rw_getI E hh (C := RX12) (T := TX12) (N := 32) rfl (by decide) i_X12_unwinds_12 (by decide) rfl (List.mem_of_getElem? (i := 2) (by decide +kernel)) rfl dX12_unwinds_15 (fun v3 hh => ?_)
      refine rw_if_gt E hh (tgt := 35) (by decide) dX12_unwinds_18 (fun hh => ?_) (fun hh => ?_)
      · refine WH.pick [] rfl ?_
        exact w_X12_unwinds_b35 E hrt hlk hh
      · refine WH.pick [0] rfl ?_
        exact w_X12_unwinds_b21 E hrt hlk hh

/-! HummingDiscModel.begin(IIII)I -/
abbrev rm_X12_begin : Room := { frames := 2, cells := 0, slots := 0, locals := 46 }
theorem i_X12_begin_12 : ∀ w ∈ wsX120, w ∈ wsX12_begin := fun _ h => List.mem_cons_of_mem _ (List.mem_append_right _ (h))
def s_X12_begin_b69 (j69 : HS → Int32 → Int32 → Int32 → Int32 → Int32 → Option (Int32 × HS)) (h : Nat) (S : HS) (l1 : Int32) (l2 : Int32) (l3 : Int32) (l4 : Int32) (l5 : Int32) : Option (Int32 × HS) := if 12 ≤ l5 then (kP S ((some h)) 12 24 (fun v1 => kwA S v1 14 0 1 (fun S2 => kP S2 ((some h)) 12 24 (fun v3 => kwA S2 v3 14 1 l1 (fun S4 => kP S4 ((some h)) 12 24 (fun v5 => kwA S4 v5 14 2 l2 (fun S6 => kP S6 ((some h)) 12 24 (fun v7 => kwA S6 v7 14 3 l3 (fun S8 => kP S8 ((some h)) 12 24 (fun v9 => kwA S8 v9 14 4 l4 (fun S10 => kP S10 ((some h)) 12 24 (fun v11 => kwA S10 v11 14 8 ((-1000000)) (fun S12 => kP S12 ((some h)) 12 24 (fun v13 => kwA S12 v13 14 11 ((-1)) (fun S14 => some (1, S14)))))))))))))))) else (kP S ((some h)) 12 24 (fun v15 => kwA S v15 14 l5 0 (fun S16 => j69 S16 l1 l2 l3 l4 (l5 + 1))))
set_option maxHeartbeats 4000000 in
set_option maxRecDepth 100000 in
theorem w_X12_begin_b69 {p : Program} {l : Launch} {e : Env} {s : State} {m : MethodId} {args : Array Value} {below : List Frame} {meth : Method} {c : Code} {b0 : Nat} {G : hG} {S1 : HS} {r : Int32} {j69 : HS → Int32 → Int32 → Int32 → Int32 → Int32 → Option (Int32 × HS)} {h : Nat} {S : HS} {l1 : Int32} {l2 : Int32} {l3 : Int32} {l4 : Int32} {l5 : Int32} (E : hE p s m args c b0 G cX12_begin RX12 6 wsX12_begin) (hrt : meth.sig.returnType = (some .int)) (hlk : meth.locks = false) (hj69 : ∀ (S : HS) (l1 : Int32) (l2 : Int32) (l3 : Int32) (l4 : Int32) (l5 : Int32), j69 S l1 l2 l3 l4 l5 = some (r, S1) → WH p l e rm_X12_begin s m args below meth c b0 G 6 0 0 (MQ below (hQ b0 G (some (.int r)) S1) args s 0 0 (hA b0)) S 69 [(0, hrf b0 ((some h))), (1, .int l1), (2, .int l2), (3, .int l3), (4, .int l4), (5, .int l5)] []) (hh : s_X12_begin_b69 j69 h S l1 l2 l3 l4 l5 = some (r, S1)) : WH p l e rm_X12_begin s m args below meth c b0 G 6 0 0 (MQ below (hQ b0 G (some (.int r)) S1) args s 0 0 (hA b0)) S 69 [(0, hrf b0 ((some h))), (1, .int l1), (2, .int l2), (3, .int l3), (4, .int l4), (5, .int l5)] [] := by
  have hh : (if 12 ≤ l5 then (kP S ((some h)) 12 24 (fun v1 => kwA S v1 14 0 1 (fun S2 => kP S2 ((some h)) 12 24 (fun v3 => kwA S2 v3 14 1 l1 (fun S4 => kP S4 ((some h)) 12 24 (fun v5 => kwA S4 v5 14 2 l2 (fun S6 => kP S6 ((some h)) 12 24 (fun v7 => kwA S6 v7 14 3 l3 (fun S8 => kP S8 ((some h)) 12 24 (fun v9 => kwA S8 v9 14 4 l4 (fun S10 => kP S10 ((some h)) 12 24 (fun v11 => kwA S10 v11 14 8 ((-1000000)) (fun S12 => kP S12 ((some h)) 12 24 (fun v13 => kwA S12 v13 14 11 ((-1)) (fun S14 => some (1, S14)))))))))))))))) else (kP S ((some h)) 12 24 (fun v15 => kwA S v15 14 l5 0 (fun S16 => j69 S16 l1 l2 l3 l4 (l5 + 1))))) = some (r, S1) := hh
  refine rw_iload E (j0 := 5) rfl dX12_begin_69 ?_
  refine rw_bipush E (v := 12) (by decide) dX12_begin_71 ?_
  refine rw_icmp_ge E hh (tgt := 90) (by decide) dX12_begin_73 (fun hh => ?_) (fun hh => ?_)
  · refine rw_aload_n E (j0 := 0) rfl rfl dX12_begin_90 ?_
    refine rw_getP E hh (C := RX12) (T := TX12) (N := 32) rfl (by decide) i_X12_begin_12 (by decide) rfl (List.mem_of_getElem? (i := 4) (by decide +kernel)) rfl dX12_begin_91 (fun v1 hh => ?_)
    refine rw_iconst E (v := 0) (by decide) dX12_begin_94 ?_
    refine rw_iconst E (v := 1) (by decide) dX12_begin_95 ?_
    refine rw_iast E hh dX12_begin_96 (fun S2 hh => ?_)
    refine rw_aload_n E (j0 := 0) rfl rfl dX12_begin_97 ?_
    refine rw_getP E hh (C := RX12) (T := TX12) (N := 32) rfl (by decide) i_X12_begin_12 (by decide) rfl (List.mem_of_getElem? (i := 4) (by decide +kernel)) rfl dX12_begin_98 (fun v3 hh => ?_)
    refine rw_iconst E (v := 1) (by decide) dX12_begin_101 ?_
    refine rw_iload_n E (j0 := 1) rfl rfl dX12_begin_102 ?_
    refine rw_iast E hh dX12_begin_103 (fun S4 hh => ?_)
    refine rw_aload_n E (j0 := 0) rfl rfl dX12_begin_104 ?_
    refine rw_getP E hh (C := RX12) (T := TX12) (N := 32) rfl (by decide) i_X12_begin_12 (by decide) rfl (List.mem_of_getElem? (i := 4) (by decide +kernel)) rfl dX12_begin_105 (fun v5 hh => ?_)
    refine rw_iconst E (v := 2) (by decide) dX12_begin_108 ?_
    refine rw_iload_n E (j0 := 2) rfl rfl dX12_begin_109 ?_
    refine rw_iast E hh dX12_begin_110 (fun S6 hh => ?_)
    refine rw_aload_n E (j0 := 0) rfl rfl dX12_begin_111 ?_
    refine rw_getP E hh (C := RX12) (T := TX12) (N := 32) rfl (by decide) i_X12_begin_12 (by decide) rfl (List.mem_of_getElem? (i := 4) (by decide +kernel)) rfl dX12_begin_112 (fun v7 hh => ?_)
    refine rw_iconst E (v := 3) (by decide) dX12_begin_115 ?_
    refine rw_iload_n E (j0 := 3) rfl rfl dX12_begin_116 ?_
    refine rw_iast E hh dX12_begin_117 (fun S8 hh => ?_)
    refine rw_aload_n E (j0 := 0) rfl rfl dX12_begin_118 ?_
    refine rw_getP E hh (C := RX12) (T := TX12) (N := 32) rfl (by decide) i_X12_begin_12 (by decide) rfl (List.mem_of_getElem? (i := 4) (by decide +kernel)) rfl dX12_begin_119 (fun v9 hh => ?_)
    refine rw_iconst E (v := 4) (by decide) dX12_begin_122 ?_
    refine rw_iload E (j0 := 4) rfl dX12_begin_123 ?_
    refine rw_iast E hh dX12_begin_125 (fun S10 hh => ?_)
    refine rw_aload_n E (j0 := 0) rfl rfl dX12_begin_126 ?_
    refine rw_getP E hh (C := RX12) (T := TX12) (N := 32) rfl (by decide) i_X12_begin_12 (by decide) rfl (List.mem_of_getElem? (i := 4) (by decide +kernel)) rfl dX12_begin_127 (fun v11 hh => ?_)
    refine rw_bipush E (v := 8) (by decide) dX12_begin_130 ?_
    refine rw_ldc E (v := (-1000000)) (List.mem_of_getElem? (i := 5) (by decide +kernel)) dX12_begin_132 ?_
    refine rw_iast E hh dX12_begin_134 (fun S12 hh => ?_)
    refine rw_aload_n E (j0 := 0) rfl rfl dX12_begin_135 ?_
    refine rw_getP E hh (C := RX12) (T := TX12) (N := 32) rfl (by decide) i_X12_begin_12 (by decide) rfl (List.mem_of_getElem? (i := 4) (by decide +kernel)) rfl dX12_begin_136 (fun v13 hh => ?_)
    refine rw_bipush E (v := 11) (by decide) dX12_begin_139 ?_
    refine rw_iconst E (v := (-1)) (by decide) dX12_begin_141 ?_
    refine rw_iast E hh dX12_begin_142 (fun S14 hh => ?_)
    refine rw_iconst E (v := 1) (by decide) dX12_begin_143 ?_
    exact rw_iret E hrt hlk hh (by decide) (by decide) dX12_begin_144
  · refine rw_aload_n E (j0 := 0) rfl rfl dX12_begin_76 ?_
    refine rw_getP E hh (C := RX12) (T := TX12) (N := 32) rfl (by decide) i_X12_begin_12 (by decide) rfl (List.mem_of_getElem? (i := 4) (by decide +kernel)) rfl dX12_begin_77 (fun v15 hh => ?_)
    refine rw_iload E (j0 := 5) rfl dX12_begin_80 ?_
    refine rw_iconst E (v := 0) (by decide) dX12_begin_82 ?_
    refine rw_iast E hh dX12_begin_83 (fun S16 hh => ?_)
    refine rw_iinc E (v := l5 + 1) (lv2 := [(5, .int (l5 + 1)), (0, hrf b0 ((some h))), (1, .int l1), (2, .int l2), (3, .int l3), (4, .int l4)]) (j0 := 5) rfl rfl (by decide) rfl dX12_begin_84 ?_
    refine rw_goto E (tgt := 69) (by decide) dX12_begin_87 ?_
    refine WH.pick [1, 2, 3, 4, 5, 0] rfl ?_
    exact hj69 _ _ _ _ _ _ hh
def s_X12_begin_L69 (h : Nat) : Nat → HS → Int32 → Int32 → Int32 → Int32 → Int32 → Option (Int32 × HS)
  | 0 => fun _ _ _ _ _ _ => none
  | n + 1 => s_X12_begin_b69 (s_X12_begin_L69 h n) h
set_option maxHeartbeats 4000000 in
set_option maxRecDepth 100000 in
theorem w_X12_begin_L69 {p : Program} {l : Launch} {e : Env} {s : State} {m : MethodId} {args : Array Value} {below : List Frame} {meth : Method} {c : Code} {b0 : Nat} {G : hG} {S1 : HS} {r : Int32} {h : Nat} (E : hE p s m args c b0 G cX12_begin RX12 6 wsX12_begin) (hrt : meth.sig.returnType = (some .int)) (hlk : meth.locks = false) : ∀ (n : Nat) (S : HS) (l1 : Int32) (l2 : Int32) (l3 : Int32) (l4 : Int32) (l5 : Int32), s_X12_begin_L69 h n S l1 l2 l3 l4 l5 = some (r, S1) → WH p l e rm_X12_begin s m args below meth c b0 G 6 0 0 (MQ below (hQ b0 G (some (.int r)) S1) args s 0 0 (hA b0)) S 69 [(0, hrf b0 ((some h))), (1, .int l1), (2, .int l2), (3, .int l3), (4, .int l4), (5, .int l5)] [] := by
  intro n
  induction n with
  | zero => intro _ _ _ _ _ _ hh; exact absurd hh (by simp [s_X12_begin_L69])
  | succ n ih => intro _ _ _ _ _ _ hh; exact w_X12_begin_b69 E hrt hlk  ih hh
def s_X12_begin (S : HS) (h : Nat) (l1 : Int32) (l2 : Int32) (l3 : Int32) (l4 : Int32) : Option (Int32 × HS) := kwI S ((some h)) 12 0 0 (fun S1 => kO S1 ((some h)) 12 (fun a4 => kc (s_X12_isDisc S1 a4 l1) (fun v3 S2 => if v3 = 0 then (some ((-1000001), S2)) else (kO S2 ((some h)) 12 (fun a7 => kc (s_X12_isThread S2 a7 l2) (fun v6 S5 => if v6 = 0 then (some ((-1000001), S5)) else (kP S5 ((some h)) 12 5 (fun v8 => kA S5 v8 14 2 (fun v9 => kc (s_X12_in S5 l3.toInt64 0 ((v9 - 1 : Int32).toInt64)) (fun v11 S10 => if v11 = 0 then (some ((-1000001), S10)) else (kO S10 ((some h)) 12 (fun a14 => kc (s_X12_threadOf S10 a14 l2 2) (fun v13 S12 => kO S12 ((some h)) 12 (fun a17 => kc (s_X12_threadOf S12 a17 l2 2) (fun v16 S15 => kc (s_X12_in S15 l4.toInt64 ((-v13 : Int32).toInt64) v16.toInt64) (fun v19 S18 => if v19 = 0 then (some ((-1000001), S18)) else (s_X12_begin_L69 h 100000 S18 l1 l2 l3 l4 0)))))))))))))))))
set_option maxHeartbeats 4000000 in
set_option maxRecDepth 100000 in
theorem c_X12_begin (l : Launch) (b0 : Nat) (G : hG) (S S1 : HS) (h : Nat) (l1 : Int32) (l2 : Int32) (l3 : Int32) (l4 : Int32) (r : Int32) (hh : s_X12_begin S h l1 l2 l3 l4 = some (r, S1)) : MH l yX12_begin wsX12_begin rm_X12_begin b0 G S [hrf b0 (some h), .int l1, .int l2, .int l3, .int l4] (some (.int r)) S1 0 0 := by
  refine MH.ofW (cc := cX12_begin) (maxL := 6) (ret := (some .int)) (own := RX12) (lv0 := [(0, hrf b0 ((some h))), (1, .int l1), (2, .int l2), (3, .int l3), (4, .int l4)]) (by decide) rfl rfl (Nat.le_of_ble_eq_true rfl) rfl ?_
  intro p e s m args below meth c E hrt hlk hnm
  have hh : (kwI S ((some h)) 12 0 0 (fun S1 => kO S1 ((some h)) 12 (fun a4 => kc (s_X12_isDisc S1 a4 l1) (fun v3 S2 => if v3 = 0 then (some ((-1000001), S2)) else (kO S2 ((some h)) 12 (fun a7 => kc (s_X12_isThread S2 a7 l2) (fun v6 S5 => if v6 = 0 then (some ((-1000001), S5)) else (kP S5 ((some h)) 12 5 (fun v8 => kA S5 v8 14 2 (fun v9 => kc (s_X12_in S5 l3.toInt64 0 ((v9 - 1 : Int32).toInt64)) (fun v11 S10 => if v11 = 0 then (some ((-1000001), S10)) else (kO S10 ((some h)) 12 (fun a14 => kc (s_X12_threadOf S10 a14 l2 2) (fun v13 S12 => kO S12 ((some h)) 12 (fun a17 => kc (s_X12_threadOf S12 a17 l2 2) (fun v16 S15 => kc (s_X12_in S15 l4.toInt64 ((-v13 : Int32).toInt64) v16.toInt64) (fun v19 S18 => if v19 = 0 then (some ((-1000001), S18)) else (s_X12_begin_L69 h 100000 S18 l1 l2 l3 l4 0)))))))))))))))))) = some (r, S1) := hh
  refine rw_aload_n E (j0 := 0) rfl rfl dX12_begin_0 ?_
  refine rw_iconst E (v := 0) (by decide) dX12_begin_1 ?_
  refine rw_putI E hh (C := RX12) (T := TX12) (N := 32) (ty0 := tyX12) rfl tyX12_ok nmX12 (by decide) i_X12_begin_12 (by decide) rfl (List.mem_of_getElem? (i := 1) (by decide +kernel)) rfl (Or.inl rfl) rfl dX12_begin_2 (fun S1 hh => ?_)
  refine rw_aload_n E (j0 := 0) rfl rfl dX12_begin_5 ?_
  refine rw_iload_n E (j0 := 1) rfl rfl dX12_begin_6 ?_
  refine rw_cVi E (As := [.int l1]) hh (by decide) rfl (fun _ _ _ hq => c_X12_isDisc l b0 G _ _ _ _ _ hq) (cwV 1 E.2.2.2.2.1 gX12_begin_X12_isDisc rfl rfl rfl (by decide +kernel) ⟨Nat.le_of_ble_eq_true rfl, Nat.le_of_ble_eq_true rfl⟩) rfl rfl (by (try simp only [List.map_cons, List.map_nil, List.sum_cons, List.sum_nil, hrf_cat, cat_i, cat_l, cat_r]) <;> decide) ⟨Nat.le_of_ble_eq_true rfl, Nat.le_of_ble_eq_true rfl⟩ dX12_begin_7 (fun v3 S2 hh => ?_)
  refine rw_if_eq E hh (tgt := 63) (by decide) dX12_begin_10 (fun hh => ?_) (fun hh => ?_)
  · refine rw_ldc E (v := (-1000001)) (List.mem_of_getElem? (i := 3) (by decide +kernel)) dX12_begin_63 ?_
    exact rw_iret E hrt hlk hh (by decide) (by decide) dX12_begin_65
  · refine rw_aload_n E (j0 := 0) rfl rfl dX12_begin_13 ?_
    refine rw_iload_n E (j0 := 2) rfl rfl dX12_begin_14 ?_
    refine rw_cVi E (As := [.int l2]) hh (by decide) rfl (fun _ _ _ hq => c_X12_isThread l b0 G _ _ _ _ _ hq) (cwV 1 E.2.2.2.2.1 gX12_begin_X12_isThread rfl rfl rfl (by decide +kernel) ⟨Nat.le_of_ble_eq_true rfl, Nat.le_of_ble_eq_true rfl⟩) rfl rfl (by (try simp only [List.map_cons, List.map_nil, List.sum_cons, List.sum_nil, hrf_cat, cat_i, cat_l, cat_r]) <;> decide) ⟨Nat.le_of_ble_eq_true rfl, Nat.le_of_ble_eq_true rfl⟩ dX12_begin_15 (fun v6 S5 hh => ?_)
    refine rw_if_eq E hh (tgt := 63) (by decide) dX12_begin_18 (fun hh => ?_) (fun hh => ?_)
    · refine rw_ldc E (v := (-1000001)) (List.mem_of_getElem? (i := 3) (by decide +kernel)) dX12_begin_63 ?_
      exact rw_iret E hrt hlk hh (by decide) (by decide) dX12_begin_65
    · refine rw_iload_n E (j0 := 3) rfl rfl dX12_begin_21 ?_
      refine rw_i2l E dX12_begin_22 ?_
      refine rw_lconst E (v := 0) (by decide) dX12_begin_23 ?_
      refine rw_aload_n E (j0 := 0) rfl rfl dX12_begin_24 ?_
      refine rw_getP E hh (C := RX12) (T := TX12) (N := 32) rfl (by decide) i_X12_begin_12 (by decide) rfl (List.mem_of_getElem? (i := 2) (by decide +kernel)) rfl dX12_begin_25 (fun v8 hh => ?_)
      refine rw_iconst E (v := 2) (by decide) dX12_begin_28 ?_
      refine rw_iald E hh dX12_begin_29 (fun v9 hh => ?_)
      refine rw_iconst E (v := 1) (by decide) dX12_begin_30 ?_
      refine rw_isub E dX12_begin_31 ?_
      refine rw_i2l E dX12_begin_32 ?_
      refine rw_cSi E (As := [.long l3.toInt64, .long 0, .long ((v9 - 1 : Int32).toInt64)]) hh (fun _ _ hq => c_X12_in l b0 G _ _ _ _ _ _ hq) (va_cwS 3 E.2.2.2.2.1 gX12_begin_X12_in rfl rfl rfl (by decide +kernel) ⟨Nat.le_of_ble_eq_true rfl, Nat.le_of_ble_eq_true rfl⟩) rfl rfl (by (try simp only [List.map_cons, List.map_nil, List.sum_cons, List.sum_nil, hrf_cat, cat_i, cat_l, cat_r]) <;> decide) ⟨Nat.le_of_ble_eq_true rfl, Nat.le_of_ble_eq_true rfl⟩ dX12_begin_33 (fun v11 S10 hh => ?_)
      refine rw_if_eq E hh (tgt := 63) (by decide) dX12_begin_36 (fun hh => ?_) (fun hh => ?_)
      · refine rw_ldc E (v := (-1000001)) (List.mem_of_getElem? (i := 3) (by decide +kernel)) dX12_begin_63 ?_
        exact rw_iret E hrt hlk hh (by decide) (by decide) dX12_begin_65
      · refine rw_iload E (j0 := 4) rfl dX12_begin_39 ?_
        refine rw_i2l E dX12_begin_41 ?_
        refine rw_aload_n E (j0 := 0) rfl rfl dX12_begin_42 ?_
        refine rw_iload_n E (j0 := 2) rfl rfl dX12_begin_43 ?_
        refine rw_iconst E (v := 2) (by decide) dX12_begin_44 ?_
        refine rw_cVi E (As := [.int l2, .int 2]) hh (by decide) rfl (fun _ _ _ hq => c_X12_threadOf l b0 G _ _ _ _ _ _ hq) (cwV 2 E.2.2.2.2.1 gX12_begin_X12_threadOf rfl rfl rfl (by decide +kernel) ⟨Nat.le_of_ble_eq_true rfl, Nat.le_of_ble_eq_true rfl⟩) rfl rfl (by (try simp only [List.map_cons, List.map_nil, List.sum_cons, List.sum_nil, hrf_cat, cat_i, cat_l, cat_r]) <;> decide) ⟨Nat.le_of_ble_eq_true rfl, Nat.le_of_ble_eq_true rfl⟩ dX12_begin_45 (fun v13 S12 hh => ?_)
        refine rw_ineg E dX12_begin_48 ?_
        refine rw_i2l E dX12_begin_49 ?_
        refine rw_aload_n E (j0 := 0) rfl rfl dX12_begin_50 ?_
        refine rw_iload_n E (j0 := 2) rfl rfl dX12_begin_51 ?_
        refine rw_iconst E (v := 2) (by decide) dX12_begin_52 ?_
        refine rw_cVi E (As := [.int l2, .int 2]) hh (by decide) rfl (fun _ _ _ hq => c_X12_threadOf l b0 G _ _ _ _ _ _ hq) (cwV 2 E.2.2.2.2.1 gX12_begin_X12_threadOf rfl rfl rfl (by decide +kernel) ⟨Nat.le_of_ble_eq_true rfl, Nat.le_of_ble_eq_true rfl⟩) rfl rfl (by (try simp only [List.map_cons, List.map_nil, List.sum_cons, List.sum_nil, hrf_cat, cat_i, cat_l, cat_r]) <;> decide) ⟨Nat.le_of_ble_eq_true rfl, Nat.le_of_ble_eq_true rfl⟩ dX12_begin_53 (fun v16 S15 hh => ?_)
        refine rw_i2l E dX12_begin_56 ?_
        refine rw_cSi E (As := [.long l4.toInt64, .long ((-v13 : Int32).toInt64), .long v16.toInt64]) hh (fun _ _ hq => c_X12_in l b0 G _ _ _ _ _ _ hq) (va_cwS 3 E.2.2.2.2.1 gX12_begin_X12_in rfl rfl rfl (by decide +kernel) ⟨Nat.le_of_ble_eq_true rfl, Nat.le_of_ble_eq_true rfl⟩) rfl rfl (by (try simp only [List.map_cons, List.map_nil, List.sum_cons, List.sum_nil, hrf_cat, cat_i, cat_l, cat_r]) <;> decide) ⟨Nat.le_of_ble_eq_true rfl, Nat.le_of_ble_eq_true rfl⟩ dX12_begin_57 (fun v19 S18 hh => ?_)
        refine rw_if_ne E hh (tgt := 66) (by decide) dX12_begin_60 (fun hh => ?_) (fun hh => ?_)
        · refine rw_iconst E (v := 0) (by decide) dX12_begin_66 ?_
          refine rw_istore E (lv2 := [(5, .int 0), (0, hrf b0 ((some h))), (1, .int l1), (2, .int l2), (3, .int l3), (4, .int l4)]) (by decide) rfl dX12_begin_67 ?_
          refine WH.pick [1, 2, 3, 4, 5, 0] rfl ?_
          exact w_X12_begin_L69 E hrt hlk 100000 _ _ _ _ _ _ hh
        · refine rw_ldc E (v := (-1000001)) (List.mem_of_getElem? (i := 3) (by decide +kernel)) dX12_begin_63 ?_
          exact rw_iret E hrt hlk hh (by decide) (by decide) dX12_begin_65

/-! HummingDiscModel.shortNow()I -/
abbrev rm_X12_shortNow : Room := { frames := 3, cells := 0, slots := 0, locals := 68 }
theorem i_X12_shortNow_12 : ∀ w ∈ wsX120, w ∈ wsX12_shortNow := fun _ h => List.mem_cons_of_mem _ (List.mem_append_right _ (h))
def s_X12_shortNow (S : HS) (h : Nat) : Option (Int32 × HS) := kP S ((some h)) 12 24 (fun v1 => kA S v1 14 2 (fun v2 => kP S ((some h)) 12 24 (fun v3 => kA S v3 14 4 (fun v4 => kc (s_X12_size S v4) (fun v6 S5 => kO S5 ((some h)) 12 (fun a9 => kc (s_X12_shortOf S5 a9 v2 v6) (fun v8 S7 => some (v8, S7))))))))
set_option maxHeartbeats 4000000 in
set_option maxRecDepth 100000 in
theorem c_X12_shortNow (l : Launch) (b0 : Nat) (G : hG) (S S1 : HS) (h : Nat) (r : Int32) (hh : s_X12_shortNow S h  = some (r, S1)) : MH l yX12_shortNow wsX12_shortNow rm_X12_shortNow b0 G S [hrf b0 (some h)] (some (.int r)) S1 0 0 := by
  refine MH.ofW (cc := cX12_shortNow) (maxL := 1) (ret := (some .int)) (own := RX12) (lv0 := [(0, hrf b0 ((some h)))]) (by decide) rfl rfl (Nat.le_of_ble_eq_true rfl) rfl ?_
  intro p e s m args below meth c E hrt hlk hnm
  have hh : (kP S ((some h)) 12 24 (fun v1 => kA S v1 14 2 (fun v2 => kP S ((some h)) 12 24 (fun v3 => kA S v3 14 4 (fun v4 => kc (s_X12_size S v4) (fun v6 S5 => kO S5 ((some h)) 12 (fun a9 => kc (s_X12_shortOf S5 a9 v2 v6) (fun v8 S7 => some (v8, S7))))))))) = some (r, S1) := hh
  refine rw_aload_n E (j0 := 0) rfl rfl dX12_shortNow_0 ?_
  refine rw_aload_n E (j0 := 0) rfl rfl dX12_shortNow_1 ?_
  refine rw_getP E hh (C := RX12) (T := TX12) (N := 32) rfl (by decide) i_X12_shortNow_12 (by decide) rfl (List.mem_of_getElem? (i := 1) (by decide +kernel)) rfl dX12_shortNow_2 (fun v1 hh => ?_)
  refine rw_iconst E (v := 2) (by decide) dX12_shortNow_5 ?_
  refine rw_iald E hh dX12_shortNow_6 (fun v2 hh => ?_)
  refine rw_aload_n E (j0 := 0) rfl rfl dX12_shortNow_7 ?_
  refine rw_getP E hh (C := RX12) (T := TX12) (N := 32) rfl (by decide) i_X12_shortNow_12 (by decide) rfl (List.mem_of_getElem? (i := 1) (by decide +kernel)) rfl dX12_shortNow_8 (fun v3 hh => ?_)
  refine rw_iconst E (v := 4) (by decide) dX12_shortNow_11 ?_
  refine rw_iald E hh dX12_shortNow_12 (fun v4 hh => ?_)
  refine rw_cSi E (As := [.int v4]) hh (fun _ _ hq => c_X12_size l b0 G _ _ _ _ hq) (va_cwS 1 E.2.2.2.2.1 gX12_shortNow_X12_size rfl rfl rfl (by decide +kernel) ⟨Nat.le_of_ble_eq_true rfl, Nat.le_of_ble_eq_true rfl⟩) rfl rfl (by (try simp only [List.map_cons, List.map_nil, List.sum_cons, List.sum_nil, hrf_cat, cat_i, cat_l, cat_r]) <;> decide) ⟨Nat.le_of_ble_eq_true rfl, Nat.le_of_ble_eq_true rfl⟩ dX12_shortNow_13 (fun v6 S5 hh => ?_)
  refine rw_cVi E (As := [.int v2, .int v6]) hh (by decide) rfl (fun _ _ _ hq => c_X12_shortOf l b0 G _ _ _ _ _ _ hq) (cwV 2 E.2.2.2.2.1 gX12_shortNow_X12_shortOf rfl rfl rfl (by decide +kernel) ⟨Nat.le_of_ble_eq_true rfl, Nat.le_of_ble_eq_true rfl⟩) rfl rfl (by (try simp only [List.map_cons, List.map_nil, List.sum_cons, List.sum_nil, hrf_cat, cat_i, cat_l, cat_r]) <;> decide) ⟨Nat.le_of_ble_eq_true rfl, Nat.le_of_ble_eq_true rfl⟩ dX12_shortNow_16 (fun v8 S7 hh => ?_)
  exact rw_iret E hrt hlk hh (by decide) (by decide) dX12_shortNow_19

/-! HummingDiscModel.ruled()I -/
abbrev rm_X12_ruled : Room := { frames := 4, cells := 0, slots := 0, locals := 88 }
theorem i_X12_ruled_12 : ∀ w ∈ wsX120, w ∈ wsX12_ruled := fun _ h => List.mem_cons_of_mem _ (List.mem_append_right _ (h))
def s_X12_ruled_b168 (h : Nat) (S : HS) (l3 : Int32) : Option (Int32 × HS) := kP S ((some h)) 12 5 (fun v1 => kA S v1 14 (l3 + 3) (fun v2 => some (v2, S)))
set_option maxHeartbeats 4000000 in
set_option maxRecDepth 100000 in
theorem w_X12_ruled_b168 {p : Program} {l : Launch} {e : Env} {s : State} {m : MethodId} {args : Array Value} {below : List Frame} {meth : Method} {c : Code} {b0 : Nat} {G : hG} {S1 : HS} {r : Int32} {h : Nat} {S : HS} {l3 : Int32} (E : hE p s m args c b0 G cX12_ruled RX12 6 wsX12_ruled) (hrt : meth.sig.returnType = (some .int)) (hlk : meth.locks = false) (hh : s_X12_ruled_b168 h S l3 = some (r, S1)) : WH p l e rm_X12_ruled s m args below meth c b0 G 6 0 0 (MQ below (hQ b0 G (some (.int r)) S1) args s 0 0 (hA b0)) S 168 [(0, hrf b0 ((some h))), (3, .int l3)] [] := by
  have hh : (kP S ((some h)) 12 5 (fun v1 => kA S v1 14 (l3 + 3) (fun v2 => some (v2, S)))) = some (r, S1) := hh
  refine rw_aload_n E (j0 := 0) rfl rfl dX12_ruled_168 ?_
  refine rw_getP E hh (C := RX12) (T := TX12) (N := 32) rfl (by decide) i_X12_ruled_12 (by decide) rfl (List.mem_of_getElem? (i := 2) (by decide +kernel)) rfl dX12_ruled_169 (fun v1 hh => ?_)
  refine rw_iload_n E (j0 := 1) rfl rfl dX12_ruled_172 ?_
  refine rw_iconst E (v := 3) (by decide) dX12_ruled_173 ?_
  refine rw_iadd E dX12_ruled_174 ?_
  refine rw_iald E hh dX12_ruled_175 (fun v2 hh => ?_)
  exact rw_iret E hrt hlk hh (by decide) (by decide) dX12_ruled_176
def s_X12_ruled_b177 (j15 : HS → Int32 → Int32 → Option (Int32 × HS)) (h : Nat) (S : HS) (l1 : Int32) (l2 : Int32) : Option (Int32 × HS) := j15 S l1 (l2 + 1)
set_option maxHeartbeats 4000000 in
set_option maxRecDepth 100000 in
theorem w_X12_ruled_b177 {p : Program} {l : Launch} {e : Env} {s : State} {m : MethodId} {args : Array Value} {below : List Frame} {meth : Method} {c : Code} {b0 : Nat} {G : hG} {S1 : HS} {r : Int32} {j15 : HS → Int32 → Int32 → Option (Int32 × HS)} {h : Nat} {S : HS} {l1 : Int32} {l2 : Int32} (E : hE p s m args c b0 G cX12_ruled RX12 6 wsX12_ruled) (hrt : meth.sig.returnType = (some .int)) (hlk : meth.locks = false) (hj15 : ∀ (S : HS) (l1 : Int32) (l2 : Int32), j15 S l1 l2 = some (r, S1) → WH p l e rm_X12_ruled s m args below meth c b0 G 6 0 0 (MQ below (hQ b0 G (some (.int r)) S1) args s 0 0 (hA b0)) S 15 [(0, hrf b0 ((some h))), (1, .int l1), (2, .int l2)] []) (hh : s_X12_ruled_b177 j15 h S l1 l2 = some (r, S1)) : WH p l e rm_X12_ruled s m args below meth c b0 G 6 0 0 (MQ below (hQ b0 G (some (.int r)) S1) args s 0 0 (hA b0)) S 177 [(0, hrf b0 ((some h))), (1, .int l1), (2, .int l2)] [] := by
  have hh : (j15 S l1 (l2 + 1)) = some (r, S1) := hh
  refine rw_iinc E (v := l2 + 1) (lv2 := [(2, .int (l2 + 1)), (0, hrf b0 ((some h))), (1, .int l1)]) (j0 := 2) rfl rfl (by decide) rfl dX12_ruled_177 ?_
  refine rw_goto E (tgt := 15) (by decide) dX12_ruled_180 ?_
  refine WH.pick [1, 2, 0] rfl ?_
  exact hj15 _ _ _ hh
def s_X12_ruled_b126 (j15 : HS → Int32 → Int32 → Option (Int32 × HS)) (h : Nat) (S : HS) (l1 : Int32) (l2 : Int32) (l3 : Int32) (k0 : Int32) : Option (Int32 × HS) := kP S ((some h)) 12 5 (fun v1 => kA S v1 14 (l3 + 1) (fun v2 => if v2 = 0 then (kP S ((some h)) 12 5 (fun v5 => kA S v5 14 (l3 + 2) (fun v6 => if v6 ≤ k0 then (s_X12_ruled_b177 j15 h S l1 l2) else (s_X12_ruled_b168 h S l3)))) else (kP S ((some h)) 12 5 (fun v3 => kA S v3 14 (l3 + 2) (fun v4 => if k0 ≤ v4 then (s_X12_ruled_b177 j15 h S l1 l2) else (s_X12_ruled_b168 h S l3))))))
set_option maxHeartbeats 4000000 in
set_option maxRecDepth 100000 in
theorem w_X12_ruled_b126 {p : Program} {l : Launch} {e : Env} {s : State} {m : MethodId} {args : Array Value} {below : List Frame} {meth : Method} {c : Code} {b0 : Nat} {G : hG} {S1 : HS} {r : Int32} {j15 : HS → Int32 → Int32 → Option (Int32 × HS)} {h : Nat} {S : HS} {l1 : Int32} {l2 : Int32} {l3 : Int32} {k0 : Int32} (E : hE p s m args c b0 G cX12_ruled RX12 6 wsX12_ruled) (hrt : meth.sig.returnType = (some .int)) (hlk : meth.locks = false) (hj15 : ∀ (S : HS) (l1 : Int32) (l2 : Int32), j15 S l1 l2 = some (r, S1) → WH p l e rm_X12_ruled s m args below meth c b0 G 6 0 0 (MQ below (hQ b0 G (some (.int r)) S1) args s 0 0 (hA b0)) S 15 [(0, hrf b0 ((some h))), (1, .int l1), (2, .int l2)] []) (hh : s_X12_ruled_b126 j15 h S l1 l2 l3 k0 = some (r, S1)) : WH p l e rm_X12_ruled s m args below meth c b0 G 6 0 0 (MQ below (hQ b0 G (some (.int r)) S1) args s 0 0 (hA b0)) S 126 [(0, hrf b0 ((some h))), (1, .int l1), (2, .int l2), (3, .int l3)] [.int k0] := by
  have hh : (kP S ((some h)) 12 5 (fun v1 => kA S v1 14 (l3 + 1) (fun v2 => if v2 = 0 then (kP S ((some h)) 12 5 (fun v5 => kA S v5 14 (l3 + 2) (fun v6 => if v6 ≤ k0 then (s_X12_ruled_b177 j15 h S l1 l2) else (s_X12_ruled_b168 h S l3)))) else (kP S ((some h)) 12 5 (fun v3 => kA S v3 14 (l3 + 2) (fun v4 => if k0 ≤ v4 then (s_X12_ruled_b177 j15 h S l1 l2) else (s_X12_ruled_b168 h S l3))))))) = some (r, S1) := hh
  refine rw_istore E (lv2 := [(5, .int k0), (0, hrf b0 ((some h))), (1, .int l1), (2, .int l2), (3, .int l3)]) (by decide) rfl dX12_ruled_126 ?_
  refine rw_aload_n E (j0 := 1) rfl rfl dX12_ruled_128 ?_
  refine rw_getP E hh (C := RX12) (T := TX12) (N := 32) rfl (by decide) i_X12_ruled_12 (by decide) rfl (List.mem_of_getElem? (i := 2) (by decide +kernel)) rfl dX12_ruled_129 (fun v1 hh => ?_)
  refine rw_iload_n E (j0 := 4) rfl rfl dX12_ruled_132 ?_
  refine rw_iconst E (v := 1) (by decide) dX12_ruled_133 ?_
  refine rw_iadd E dX12_ruled_134 ?_
  refine rw_iald E hh dX12_ruled_135 (fun v2 hh => ?_)
  refine rw_if_ne E hh (tgt := 155) (by decide) dX12_ruled_136 (fun hh => ?_) (fun hh => ?_)
  · refine rw_iload E (j0 := 0) rfl dX12_ruled_155 ?_
    refine rw_aload_n E (j0 := 1) rfl rfl dX12_ruled_157 ?_
    refine rw_getP E hh (C := RX12) (T := TX12) (N := 32) rfl (by decide) i_X12_ruled_12 (by decide) rfl (List.mem_of_getElem? (i := 2) (by decide +kernel)) rfl dX12_ruled_158 (fun v3 hh => ?_)
    refine rw_iload_n E (j0 := 4) rfl rfl dX12_ruled_161 ?_
    refine rw_iconst E (v := 2) (by decide) dX12_ruled_162 ?_
    refine rw_iadd E dX12_ruled_163 ?_
    refine rw_iald E hh dX12_ruled_164 (fun v4 hh => ?_)
    refine rw_icmp_le E hh (tgt := 177) (by decide) dX12_ruled_165 (fun hh => ?_) (fun hh => ?_)
    · refine WH.pick [1, 2, 3] rfl ?_
      exact w_X12_ruled_b177 E hrt hlk hj15 hh
    · refine WH.pick [1, 4] rfl ?_
      exact w_X12_ruled_b168 E hrt hlk hh
  · refine rw_iload E (j0 := 0) rfl dX12_ruled_139 ?_
    refine rw_aload_n E (j0 := 1) rfl rfl dX12_ruled_141 ?_
    refine rw_getP E hh (C := RX12) (T := TX12) (N := 32) rfl (by decide) i_X12_ruled_12 (by decide) rfl (List.mem_of_getElem? (i := 2) (by decide +kernel)) rfl dX12_ruled_142 (fun v5 hh => ?_)
    refine rw_iload_n E (j0 := 4) rfl rfl dX12_ruled_145 ?_
    refine rw_iconst E (v := 2) (by decide) dX12_ruled_146 ?_
    refine rw_iadd E dX12_ruled_147 ?_
    refine rw_iald E hh dX12_ruled_148 (fun v6 hh => ?_)
    refine rw_icmp_ge E hh (tgt := 177) (by decide) dX12_ruled_149 (fun hh => ?_) (fun hh => ?_)
    · refine WH.pick [1, 2, 3] rfl ?_
      exact w_X12_ruled_b177 E hrt hlk hj15 hh
    · refine rw_goto E (tgt := 168) (by decide) dX12_ruled_152 ?_
      refine WH.pick [1, 4] rfl ?_
      exact w_X12_ruled_b168 E hrt hlk hh
def s_X12_ruled_b59 (j15 : HS → Int32 → Int32 → Option (Int32 × HS)) (h : Nat) (S : HS) (l1 : Int32) (l2 : Int32) (l3 : Int32) (k0 : Int32) : Option (Int32 × HS) := kP S ((some h)) 12 5 (fun v1 => kA S v1 14 l3 (fun v2 => if v2 = 0 then (kP S ((some h)) 12 24 (fun v13 => kA S v13 14 4 (fun v14 => kc (s_X12_size S v14) (fun v16 S15 => s_X12_ruled_b126 j15 h S15 l1 l2 l3 v16)))) else (kP S ((some h)) 12 5 (fun v3 => kA S v3 14 l3 (fun v4 => if v4 = 1 then (kP S ((some h)) 12 24 (fun v9 => kA S v9 14 5 (fun v10 => kc (s_X12_size S v10) (fun v12 S11 => s_X12_ruled_b126 j15 h S11 l1 l2 l3 v12)))) else (kP S ((some h)) 12 5 (fun v5 => kA S v5 14 l3 (fun v6 => if v6 = 2 then (s_X12_ruled_b126 j15 h S l1 l2 l3 k0) else (kP S ((some h)) 12 24 (fun v7 => kA S v7 14 6 (fun v8 => s_X12_ruled_b126 j15 h S l1 l2 l3 v8)))))))))))
set_option maxHeartbeats 4000000 in
set_option maxRecDepth 100000 in
theorem w_X12_ruled_b59 {p : Program} {l : Launch} {e : Env} {s : State} {m : MethodId} {args : Array Value} {below : List Frame} {meth : Method} {c : Code} {b0 : Nat} {G : hG} {S1 : HS} {r : Int32} {j15 : HS → Int32 → Int32 → Option (Int32 × HS)} {h : Nat} {S : HS} {l1 : Int32} {l2 : Int32} {l3 : Int32} {k0 : Int32} (E : hE p s m args c b0 G cX12_ruled RX12 6 wsX12_ruled) (hrt : meth.sig.returnType = (some .int)) (hlk : meth.locks = false) (hj15 : ∀ (S : HS) (l1 : Int32) (l2 : Int32), j15 S l1 l2 = some (r, S1) → WH p l e rm_X12_ruled s m args below meth c b0 G 6 0 0 (MQ below (hQ b0 G (some (.int r)) S1) args s 0 0 (hA b0)) S 15 [(0, hrf b0 ((some h))), (1, .int l1), (2, .int l2)] []) (hh : s_X12_ruled_b59 j15 h S l1 l2 l3 k0 = some (r, S1)) : WH p l e rm_X12_ruled s m args below meth c b0 G 6 0 0 (MQ below (hQ b0 G (some (.int r)) S1) args s 0 0 (hA b0)) S 59 [(0, hrf b0 ((some h))), (1, .int l1), (2, .int l2), (3, .int l3)] [.int k0] := by
  have hh : (kP S ((some h)) 12 5 (fun v1 => kA S v1 14 l3 (fun v2 => if v2 = 0 then (kP S ((some h)) 12 24 (fun v13 => kA S v13 14 4 (fun v14 => kc (s_X12_size S v14) (fun v16 S15 => s_X12_ruled_b126 j15 h S15 l1 l2 l3 v16)))) else (kP S ((some h)) 12 5 (fun v3 => kA S v3 14 l3 (fun v4 => if v4 = 1 then (kP S ((some h)) 12 24 (fun v9 => kA S v9 14 5 (fun v10 => kc (s_X12_size S v10) (fun v12 S11 => s_X12_ruled_b126 j15 h S11 l1 l2 l3 v12)))) else (kP S ((some h)) 12 5 (fun v5 => kA S v5 14 l3 (fun v6 => if v6 = 2 then (s_X12_ruled_b126 j15 h S l1 l2 l3 k0) else (kP S ((some h)) 12 24 (fun v7 => kA S v7 14 6 (fun v8 => s_X12_ruled_b126 j15 h S l1 l2 l3 v8)))))))))))) = some (r, S1) := hh
  refine rw_istore E (lv2 := [(4, .int k0), (0, hrf b0 ((some h))), (1, .int l1), (2, .int l2), (3, .int l3)]) (by decide) rfl dX12_ruled_59 ?_
  refine rw_aload_n E (j0 := 1) rfl rfl dX12_ruled_61 ?_
  refine rw_getP E hh (C := RX12) (T := TX12) (N := 32) rfl (by decide) i_X12_ruled_12 (by decide) rfl (List.mem_of_getElem? (i := 2) (by decide +kernel)) rfl dX12_ruled_62 (fun v1 hh => ?_)
  refine rw_iload_n E (j0 := 4) rfl rfl dX12_ruled_65 ?_
  refine rw_iald E hh dX12_ruled_66 (fun v2 hh => ?_)
  refine rw_if_ne E hh (tgt := 82) (by decide) dX12_ruled_67 (fun hh => ?_) (fun hh => ?_)
  · refine rw_aload_n E (j0 := 1) rfl rfl dX12_ruled_82 ?_
    refine rw_getP E hh (C := RX12) (T := TX12) (N := 32) rfl (by decide) i_X12_ruled_12 (by decide) rfl (List.mem_of_getElem? (i := 2) (by decide +kernel)) rfl dX12_ruled_83 (fun v3 hh => ?_)
    refine rw_iload_n E (j0 := 4) rfl rfl dX12_ruled_86 ?_
    refine rw_iald E hh dX12_ruled_87 (fun v4 hh => ?_)
    refine rw_iconst E (v := 1) (by decide) dX12_ruled_88 ?_
    refine rw_icmp_ne E hh (tgt := 104) (by decide) dX12_ruled_89 (fun hh => ?_) (fun hh => ?_)
    · refine rw_aload_n E (j0 := 1) rfl rfl dX12_ruled_104 ?_
      refine rw_getP E hh (C := RX12) (T := TX12) (N := 32) rfl (by decide) i_X12_ruled_12 (by decide) rfl (List.mem_of_getElem? (i := 2) (by decide +kernel)) rfl dX12_ruled_105 (fun v5 hh => ?_)
      refine rw_iload_n E (j0 := 4) rfl rfl dX12_ruled_108 ?_
      refine rw_iald E hh dX12_ruled_109 (fun v6 hh => ?_)
      refine rw_iconst E (v := 2) (by decide) dX12_ruled_110 ?_
      refine rw_icmp_ne E hh (tgt := 119) (by decide) dX12_ruled_111 (fun hh => ?_) (fun hh => ?_)
      · refine rw_aload_n E (j0 := 1) rfl rfl dX12_ruled_119 ?_
        refine rw_getP E hh (C := RX12) (T := TX12) (N := 32) rfl (by decide) i_X12_ruled_12 (by decide) rfl (List.mem_of_getElem? (i := 1) (by decide +kernel)) rfl dX12_ruled_120 (fun v7 hh => ?_)
        refine rw_bipush E (v := 6) (by decide) dX12_ruled_123 ?_
        refine rw_iald E hh dX12_ruled_125 (fun v8 hh => ?_)
        refine WH.pick [1, 2, 3, 4] rfl ?_
        exact w_X12_ruled_b126 E hrt hlk hj15 hh
      · refine rw_iload E (j0 := 0) rfl dX12_ruled_114 ?_
        refine rw_goto E (tgt := 126) (by decide) dX12_ruled_116 ?_
        refine WH.pick [1, 2, 3, 4] rfl ?_
        exact w_X12_ruled_b126 E hrt hlk hj15 hh
    · refine rw_aload_n E (j0 := 1) rfl rfl dX12_ruled_92 ?_
      refine rw_getP E hh (C := RX12) (T := TX12) (N := 32) rfl (by decide) i_X12_ruled_12 (by decide) rfl (List.mem_of_getElem? (i := 1) (by decide +kernel)) rfl dX12_ruled_93 (fun v9 hh => ?_)
      refine rw_iconst E (v := 5) (by decide) dX12_ruled_96 ?_
      refine rw_iald E hh dX12_ruled_97 (fun v10 hh => ?_)
      refine rw_cSi E (As := [.int v10]) hh (fun _ _ hq => c_X12_size l b0 G _ _ _ _ hq) (va_cwS 1 E.2.2.2.2.1 gX12_ruled_X12_size rfl rfl rfl (by decide +kernel) ⟨Nat.le_of_ble_eq_true rfl, Nat.le_of_ble_eq_true rfl⟩) rfl rfl (by (try simp only [List.map_cons, List.map_nil, List.sum_cons, List.sum_nil, hrf_cat, cat_i, cat_l, cat_r]) <;> decide) ⟨Nat.le_of_ble_eq_true rfl, Nat.le_of_ble_eq_true rfl⟩ dX12_ruled_98 (fun v12 S11 hh => ?_)
      refine rw_goto E (tgt := 126) (by decide) dX12_ruled_101 ?_
      refine WH.pick [1, 2, 3, 4] rfl ?_
      exact w_X12_ruled_b126 E hrt hlk hj15 hh
  · refine rw_aload_n E (j0 := 1) rfl rfl dX12_ruled_70 ?_
    refine rw_getP E hh (C := RX12) (T := TX12) (N := 32) rfl (by decide) i_X12_ruled_12 (by decide) rfl (List.mem_of_getElem? (i := 1) (by decide +kernel)) rfl dX12_ruled_71 (fun v13 hh => ?_)
    refine rw_iconst E (v := 4) (by decide) dX12_ruled_74 ?_
    refine rw_iald E hh dX12_ruled_75 (fun v14 hh => ?_)
    refine rw_cSi E (As := [.int v14]) hh (fun _ _ hq => c_X12_size l b0 G _ _ _ _ hq) (va_cwS 1 E.2.2.2.2.1 gX12_ruled_X12_size rfl rfl rfl (by decide +kernel) ⟨Nat.le_of_ble_eq_true rfl, Nat.le_of_ble_eq_true rfl⟩) rfl rfl (by (try simp only [List.map_cons, List.map_nil, List.sum_cons, List.sum_nil, hrf_cat, cat_i, cat_l, cat_r]) <;> decide) ⟨Nat.le_of_ble_eq_true rfl, Nat.le_of_ble_eq_true rfl⟩ dX12_ruled_76 (fun v16 S15 hh => ?_)
    refine rw_goto E (tgt := 126) (by decide) dX12_ruled_79 ?_
    refine WH.pick [1, 2, 3, 4] rfl ?_
    exact w_X12_ruled_b126 E hrt hlk hj15 hh
def s_X12_ruled_b15 (j15 : HS → Int32 → Int32 → Option (Int32 × HS)) (h : Nat) (S : HS) (l1 : Int32) (l2 : Int32) : Option (Int32 × HS) := kP S ((some h)) 12 5 (fun v1 => kA S v1 14 l1 (fun v2 => if v2 ≤ l2 then (some (0, S)) else (kP S ((some h)) 12 24 (fun v3 => kA S v3 14 11 (fun v4 => if 0 ≤ v4 then (kO S ((some h)) 12 (fun a7 => kc (s_X12_shortNow S a7 ) (fun v6 S5 => kP S5 ((some h)) 12 24 (fun v8 => kA S5 v8 14 11 (fun v9 => s_X12_ruled_b59 j15 h S5 l1 l2 ((l1 + 1) + (4 * l2)) (v6 - v9)))))) else (s_X12_ruled_b59 j15 h S l1 l2 ((l1 + 1) + (4 * l2)) 0))))))
set_option maxHeartbeats 4000000 in
set_option maxRecDepth 100000 in
theorem w_X12_ruled_b15 {p : Program} {l : Launch} {e : Env} {s : State} {m : MethodId} {args : Array Value} {below : List Frame} {meth : Method} {c : Code} {b0 : Nat} {G : hG} {S1 : HS} {r : Int32} {j15 : HS → Int32 → Int32 → Option (Int32 × HS)} {h : Nat} {S : HS} {l1 : Int32} {l2 : Int32} (E : hE p s m args c b0 G cX12_ruled RX12 6 wsX12_ruled) (hrt : meth.sig.returnType = (some .int)) (hlk : meth.locks = false) (hj15 : ∀ (S : HS) (l1 : Int32) (l2 : Int32), j15 S l1 l2 = some (r, S1) → WH p l e rm_X12_ruled s m args below meth c b0 G 6 0 0 (MQ below (hQ b0 G (some (.int r)) S1) args s 0 0 (hA b0)) S 15 [(0, hrf b0 ((some h))), (1, .int l1), (2, .int l2)] []) (hh : s_X12_ruled_b15 j15 h S l1 l2 = some (r, S1)) : WH p l e rm_X12_ruled s m args below meth c b0 G 6 0 0 (MQ below (hQ b0 G (some (.int r)) S1) args s 0 0 (hA b0)) S 15 [(0, hrf b0 ((some h))), (1, .int l1), (2, .int l2)] [] := by
  have hh : (kP S ((some h)) 12 5 (fun v1 => kA S v1 14 l1 (fun v2 => if v2 ≤ l2 then (some (0, S)) else (kP S ((some h)) 12 24 (fun v3 => kA S v3 14 11 (fun v4 => if 0 ≤ v4 then (kO S ((some h)) 12 (fun a7 => kc (s_X12_shortNow S a7 ) (fun v6 S5 => kP S5 ((some h)) 12 24 (fun v8 => kA S5 v8 14 11 (fun v9 => s_X12_ruled_b59 j15 h S5 l1 l2 ((l1 + 1) + (4 * l2)) (v6 - v9)))))) else (s_X12_ruled_b59 j15 h S l1 l2 ((l1 + 1) + (4 * l2)) 0))))))) = some (r, S1) := hh
  refine rw_iload_n E (j0 := 2) rfl rfl dX12_ruled_15 ?_
  refine rw_aload_n E (j0 := 0) rfl rfl dX12_ruled_16 ?_
  refine rw_getP E hh (C := RX12) (T := TX12) (N := 32) rfl (by decide) i_X12_ruled_12 (by decide) rfl (List.mem_of_getElem? (i := 2) (by decide +kernel)) rfl dX12_ruled_17 (fun v1 hh => ?_)
  refine rw_iload_n E (j0 := 1) rfl rfl dX12_ruled_20 ?_
  refine rw_iald E hh dX12_ruled_21 (fun v2 hh => ?_)
  refine rw_icmp_ge E hh (tgt := 183) (by decide) dX12_ruled_22 (fun hh => ?_) (fun hh => ?_)
  · refine rw_iconst E (v := 0) (by decide) dX12_ruled_183 ?_
    exact rw_iret E hrt hlk hh (by decide) (by decide) dX12_ruled_184
  · refine rw_iload_n E (j0 := 1) rfl rfl dX12_ruled_25 ?_
    refine rw_iconst E (v := 1) (by decide) dX12_ruled_26 ?_
    refine rw_iadd E dX12_ruled_27 ?_
    refine rw_iconst E (v := 4) (by decide) dX12_ruled_28 ?_
    refine rw_iload_n E (j0 := 2) rfl rfl dX12_ruled_29 ?_
    refine rw_imul E dX12_ruled_30 ?_
    refine rw_iadd E dX12_ruled_31 ?_
    refine rw_istore_n E (lv2 := [(3, .int ((l1 + 1) + (4 * l2))), (0, hrf b0 ((some h))), (1, .int l1), (2, .int l2)]) rfl (by decide) rfl dX12_ruled_32 ?_
    refine rw_aload_n E (j0 := 1) rfl rfl dX12_ruled_33 ?_
    refine rw_getP E hh (C := RX12) (T := TX12) (N := 32) rfl (by decide) i_X12_ruled_12 (by decide) rfl (List.mem_of_getElem? (i := 1) (by decide +kernel)) rfl dX12_ruled_34 (fun v3 hh => ?_)
    refine rw_bipush E (v := 11) (by decide) dX12_ruled_37 ?_
    refine rw_iald E hh dX12_ruled_39 (fun v4 hh => ?_)
    refine rw_if_ge E hh (tgt := 47) (by decide) dX12_ruled_40 (fun hh => ?_) (fun hh => ?_)
    · refine rw_aload_n E (j0 := 1) rfl rfl dX12_ruled_47 ?_
      refine rw_cVi E (As := []) hh (by decide) rfl (fun _ _ _ hq => c_X12_shortNow l b0 G _ _ _ _ hq) (cwV 0 E.2.2.2.2.1 gX12_ruled_X12_shortNow rfl rfl rfl (by decide +kernel) ⟨Nat.le_of_ble_eq_true rfl, Nat.le_of_ble_eq_true rfl⟩) rfl rfl (by (try simp only [List.map_cons, List.map_nil, List.sum_cons, List.sum_nil, hrf_cat, cat_i, cat_l, cat_r]) <;> decide) ⟨Nat.le_of_ble_eq_true rfl, Nat.le_of_ble_eq_true rfl⟩ dX12_ruled_48 (fun v6 S5 hh => ?_)
      refine rw_aload_n E (j0 := 1) rfl rfl dX12_ruled_51 ?_
      refine rw_getP E hh (C := RX12) (T := TX12) (N := 32) rfl (by decide) i_X12_ruled_12 (by decide) rfl (List.mem_of_getElem? (i := 1) (by decide +kernel)) rfl dX12_ruled_52 (fun v8 hh => ?_)
      refine rw_bipush E (v := 11) (by decide) dX12_ruled_55 ?_
      refine rw_iald E hh dX12_ruled_57 (fun v9 hh => ?_)
      refine rw_isub E dX12_ruled_58 ?_
      refine WH.pick [1, 2, 3, 0] rfl ?_
      exact w_X12_ruled_b59 E hrt hlk hj15 hh
    · refine rw_iconst E (v := 0) (by decide) dX12_ruled_43 ?_
      refine rw_goto E (tgt := 59) (by decide) dX12_ruled_44 ?_
      refine WH.pick [1, 2, 3, 0] rfl ?_
      exact w_X12_ruled_b59 E hrt hlk hj15 hh
def s_X12_ruled_L15 (h : Nat) : Nat → HS → Int32 → Int32 → Option (Int32 × HS)
  | 0 => fun _ _ _ => none
  | n + 1 => s_X12_ruled_b15 (s_X12_ruled_L15 h n) h
set_option maxHeartbeats 4000000 in
set_option maxRecDepth 100000 in
theorem w_X12_ruled_L15 {p : Program} {l : Launch} {e : Env} {s : State} {m : MethodId} {args : Array Value} {below : List Frame} {meth : Method} {c : Code} {b0 : Nat} {G : hG} {S1 : HS} {r : Int32} {h : Nat} (E : hE p s m args c b0 G cX12_ruled RX12 6 wsX12_ruled) (hrt : meth.sig.returnType = (some .int)) (hlk : meth.locks = false) : ∀ (n : Nat) (S : HS) (l1 : Int32) (l2 : Int32), s_X12_ruled_L15 h n S l1 l2 = some (r, S1) → WH p l e rm_X12_ruled s m args below meth c b0 G 6 0 0 (MQ below (hQ b0 G (some (.int r)) S1) args s 0 0 (hA b0)) S 15 [(0, hrf b0 ((some h))), (1, .int l1), (2, .int l2)] [] := by
  intro n
  induction n with
  | zero => intro _ _ _ hh; exact absurd hh (by simp [s_X12_ruled_L15])
  | succ n ih => intro _ _ _ hh; exact w_X12_ruled_b15 E hrt hlk  ih hh
def s_X12_ruled (S : HS) (h : Nat) : Option (Int32 × HS) := kP S ((some h)) 12 24 (fun v1 => kA S v1 14 3 (fun v2 => s_X12_ruled_L15 h 100000 S (31 + (25 * v2)) 0))
set_option maxHeartbeats 4000000 in
set_option maxRecDepth 100000 in
theorem c_X12_ruled (l : Launch) (b0 : Nat) (G : hG) (S S1 : HS) (h : Nat) (r : Int32) (hh : s_X12_ruled S h  = some (r, S1)) : MH l yX12_ruled wsX12_ruled rm_X12_ruled b0 G S [hrf b0 (some h)] (some (.int r)) S1 0 0 := by
  refine MH.ofW (cc := cX12_ruled) (maxL := 6) (ret := (some .int)) (own := RX12) (lv0 := [(0, hrf b0 ((some h)))]) (by decide) rfl rfl (Nat.le_of_ble_eq_true rfl) rfl ?_
  intro p e s m args below meth c E hrt hlk hnm
  have hh : (kP S ((some h)) 12 24 (fun v1 => kA S v1 14 3 (fun v2 => s_X12_ruled_L15 h 100000 S (31 + (25 * v2)) 0))) = some (r, S1) := hh
  refine rw_bipush E (v := 31) (by decide) dX12_ruled_0 ?_
  refine rw_bipush E (v := 25) (by decide) dX12_ruled_2 ?_
  refine rw_aload_n E (j0 := 0) rfl rfl dX12_ruled_4 ?_
  refine rw_getP E hh (C := RX12) (T := TX12) (N := 32) rfl (by decide) i_X12_ruled_12 (by decide) rfl (List.mem_of_getElem? (i := 1) (by decide +kernel)) rfl dX12_ruled_5 (fun v1 hh => ?_)
  refine rw_iconst E (v := 3) (by decide) dX12_ruled_8 ?_
  refine rw_iald E hh dX12_ruled_9 (fun v2 hh => ?_)
  refine rw_imul E dX12_ruled_10 ?_
  refine rw_iadd E dX12_ruled_11 ?_
  refine rw_istore_n E (lv2 := [(1, .int (31 + (25 * v2))), (0, hrf b0 ((some h)))]) rfl (by decide) rfl dX12_ruled_12 ?_
  refine rw_iconst E (v := 0) (by decide) dX12_ruled_13 ?_
  refine rw_istore_n E (lv2 := [(2, .int 0), (1, .int (31 + (25 * v2))), (0, hrf b0 ((some h)))]) rfl (by decide) rfl dX12_ruled_14 ?_
  refine WH.pick [2, 1, 0] rfl ?_
  exact w_X12_ruled_L15 E hrt hlk 100000 _ _ _ hh

/-! HummingDiscModel.runTick(I)V -/
abbrev rm_X12_runTick : Room := { frames := 5, cells := 0, slots := 0, locals := 120 }
theorem i_X12_runTick_12 : ∀ w ∈ wsX120, w ∈ wsX12_runTick := fun _ h => List.mem_cons_of_mem _ (List.mem_append_right _ (h))
def s_X12_runTick_b161 (h : Nat) (S : HS) (l2 : Int32) (k0 : Option Nat) (k1 : Int32) (k2 : Int32) (k3 : Int32) : Option (HS) := kwA S k0 14 k1 (k2 + k3) (fun S1 => kP S1 ((some h)) 12 24 (fun v2 => kwA S1 v2 14 11 l2 (fun S3 => some S3)))
set_option maxHeartbeats 4000000 in
set_option maxRecDepth 100000 in
theorem w_X12_runTick_b161 {p : Program} {l : Launch} {e : Env} {s : State} {m : MethodId} {args : Array Value} {below : List Frame} {meth : Method} {c : Code} {b0 : Nat} {G : hG} {S1 : HS} {h : Nat} {S : HS} {l2 : Int32} {k0 : Option Nat} {k1 : Int32} {k2 : Int32} {k3 : Int32} (E : hE p s m args c b0 G cX12_runTick RX12 3 wsX12_runTick) (hrt : meth.sig.returnType = none) (hlk : meth.locks = false) (hh : s_X12_runTick_b161 h S l2 k0 k1 k2 k3 = some S1) : WH p l e rm_X12_runTick s m args below meth c b0 G 3 0 0 (MQ below (hQ b0 G none S1) args s 0 0 (hA b0)) S 161 [(0, hrf b0 ((some h))), (2, .int l2)] [.int k3, .int k2, .int k1, hrf b0 k0] := by
  have hh : (kwA S k0 14 k1 (k2 + k3) (fun S1 => kP S1 ((some h)) 12 24 (fun v2 => kwA S1 v2 14 11 l2 (fun S3 => some S3)))) = some S1 := hh
  refine rw_iadd E dX12_runTick_161 ?_
  refine rw_iast E hh dX12_runTick_162 (fun S1 hh => ?_)
  refine rw_aload_n E (j0 := 0) rfl rfl dX12_runTick_163 ?_
  refine rw_getP E hh (C := RX12) (T := TX12) (N := 32) rfl (by decide) i_X12_runTick_12 (by decide) rfl (List.mem_of_getElem? (i := 1) (by decide +kernel)) rfl dX12_runTick_164 (fun v2 hh => ?_)
  refine rw_bipush E (v := 11) (by decide) dX12_runTick_167 ?_
  refine rw_iload_n E (j0 := 1) rfl rfl dX12_runTick_169 ?_
  refine rw_iast E hh dX12_runTick_170 (fun S3 hh => ?_)
  exact rw_vret E hrt hlk hh (by decide) (by decide) dX12_runTick_171
def s_X12_runTick_b140 (h : Nat) (S : HS) (l2 : Int32) (k0 : Option Nat) (k1 : Int32) (k2 : Int32) : Option (HS) := kwA S k0 14 k1 k2 (fun S1 => kP S1 ((some h)) 12 24 (fun v2 => kA S1 v2 14 10 (fun v3 => kI S1 ((some h)) 12 23 (fun v4 => if v4 = 0 then (s_X12_runTick_b161 h S1 l2 v2 10 v3 0) else (s_X12_runTick_b161 h S1 l2 v2 10 v3 1)))))
set_option maxHeartbeats 4000000 in
set_option maxRecDepth 100000 in
theorem w_X12_runTick_b140 {p : Program} {l : Launch} {e : Env} {s : State} {m : MethodId} {args : Array Value} {below : List Frame} {meth : Method} {c : Code} {b0 : Nat} {G : hG} {S1 : HS} {h : Nat} {S : HS} {l2 : Int32} {k0 : Option Nat} {k1 : Int32} {k2 : Int32} (E : hE p s m args c b0 G cX12_runTick RX12 3 wsX12_runTick) (hrt : meth.sig.returnType = none) (hlk : meth.locks = false) (hh : s_X12_runTick_b140 h S l2 k0 k1 k2 = some S1) : WH p l e rm_X12_runTick s m args below meth c b0 G 3 0 0 (MQ below (hQ b0 G none S1) args s 0 0 (hA b0)) S 140 [(0, hrf b0 ((some h))), (2, .int l2)] [.int k2, .int k1, hrf b0 k0] := by
  have hh : (kwA S k0 14 k1 k2 (fun S1 => kP S1 ((some h)) 12 24 (fun v2 => kA S1 v2 14 10 (fun v3 => kI S1 ((some h)) 12 23 (fun v4 => if v4 = 0 then (s_X12_runTick_b161 h S1 l2 v2 10 v3 0) else (s_X12_runTick_b161 h S1 l2 v2 10 v3 1)))))) = some S1 := hh
  refine rw_iast E hh dX12_runTick_140 (fun S1 hh => ?_)
  refine rw_aload_n E (j0 := 0) rfl rfl dX12_runTick_141 ?_
  refine rw_getP E hh (C := RX12) (T := TX12) (N := 32) rfl (by decide) i_X12_runTick_12 (by decide) rfl (List.mem_of_getElem? (i := 1) (by decide +kernel)) rfl dX12_runTick_142 (fun v2 hh => ?_)
  refine rw_bipush E (v := 10) (by decide) dX12_runTick_145 ?_
  refine rw_dup2 E rfl (hrf_cat _ _) dX12_runTick_147 ?_
  refine rw_iald E hh dX12_runTick_148 (fun v3 hh => ?_)
  refine rw_aload_n E (j0 := 0) rfl rfl dX12_runTick_149 ?_
  refine rw_getI E hh (C := RX12) (T := TX12) (N := 32) rfl (by decide) i_X12_runTick_12 (by decide) rfl (List.mem_of_getElem? (i := 6) (by decide +kernel)) rfl dX12_runTick_150 (fun v4 hh => ?_)
  refine rw_if_eq E hh (tgt := 160) (by decide) dX12_runTick_153 (fun hh => ?_) (fun hh => ?_)
  · refine rw_iconst E (v := 0) (by decide) dX12_runTick_160 ?_
    refine WH.pick [0, 1] rfl ?_
    exact w_X12_runTick_b161 E hrt hlk hh
  · refine rw_iconst E (v := 1) (by decide) dX12_runTick_156 ?_
    refine rw_goto E (tgt := 161) (by decide) dX12_runTick_157 ?_
    refine WH.pick [0, 1] rfl ?_
    exact w_X12_runTick_b161 E hrt hlk hh
def s_X12_runTick_b97 (h : Nat) (S : HS) (l1 : Int32) (l2 : Int32) (k0 : Option Nat) (k1 : Int32) (k2 : Int32) : Option (HS) := kwA S k0 14 k1 k2 (fun S1 => kP S1 ((some h)) 12 24 (fun v2 => kwA S1 v2 14 8 l1 (fun S3 => kP S3 ((some h)) 12 24 (fun v4 => kI S3 ((some h)) 12 22 (fun v5 => kP S3 ((some h)) 12 24 (fun v6 => kA S3 v6 14 9 (fun v7 => if v5 ≤ v7 then (kP S3 ((some h)) 12 24 (fun v8 => kA S3 v8 14 9 (fun v9 => s_X12_runTick_b140 h S3 l2 v4 9 v9))) else (kI S3 ((some h)) 12 22 (fun v10 => s_X12_runTick_b140 h S3 l2 v4 9 v10)))))))))
set_option maxHeartbeats 4000000 in
set_option maxRecDepth 100000 in
theorem w_X12_runTick_b97 {p : Program} {l : Launch} {e : Env} {s : State} {m : MethodId} {args : Array Value} {below : List Frame} {meth : Method} {c : Code} {b0 : Nat} {G : hG} {S1 : HS} {h : Nat} {S : HS} {l1 : Int32} {l2 : Int32} {k0 : Option Nat} {k1 : Int32} {k2 : Int32} (E : hE p s m args c b0 G cX12_runTick RX12 3 wsX12_runTick) (hrt : meth.sig.returnType = none) (hlk : meth.locks = false) (hh : s_X12_runTick_b97 h S l1 l2 k0 k1 k2 = some S1) : WH p l e rm_X12_runTick s m args below meth c b0 G 3 0 0 (MQ below (hQ b0 G none S1) args s 0 0 (hA b0)) S 97 [(0, hrf b0 ((some h))), (1, .int l1), (2, .int l2)] [.int k2, .int k1, hrf b0 k0] := by
  have hh : (kwA S k0 14 k1 k2 (fun S1 => kP S1 ((some h)) 12 24 (fun v2 => kwA S1 v2 14 8 l1 (fun S3 => kP S3 ((some h)) 12 24 (fun v4 => kI S3 ((some h)) 12 22 (fun v5 => kP S3 ((some h)) 12 24 (fun v6 => kA S3 v6 14 9 (fun v7 => if v5 ≤ v7 then (kP S3 ((some h)) 12 24 (fun v8 => kA S3 v8 14 9 (fun v9 => s_X12_runTick_b140 h S3 l2 v4 9 v9))) else (kI S3 ((some h)) 12 22 (fun v10 => s_X12_runTick_b140 h S3 l2 v4 9 v10)))))))))) = some S1 := hh
  refine rw_iast E hh dX12_runTick_97 (fun S1 hh => ?_)
  refine rw_aload_n E (j0 := 0) rfl rfl dX12_runTick_98 ?_
  refine rw_getP E hh (C := RX12) (T := TX12) (N := 32) rfl (by decide) i_X12_runTick_12 (by decide) rfl (List.mem_of_getElem? (i := 1) (by decide +kernel)) rfl dX12_runTick_99 (fun v2 hh => ?_)
  refine rw_bipush E (v := 8) (by decide) dX12_runTick_102 ?_
  refine rw_iload_n E (j0 := 1) rfl rfl dX12_runTick_104 ?_
  refine rw_iast E hh dX12_runTick_105 (fun S3 hh => ?_)
  refine rw_aload_n E (j0 := 0) rfl rfl dX12_runTick_106 ?_
  refine rw_getP E hh (C := RX12) (T := TX12) (N := 32) rfl (by decide) i_X12_runTick_12 (by decide) rfl (List.mem_of_getElem? (i := 1) (by decide +kernel)) rfl dX12_runTick_107 (fun v4 hh => ?_)
  refine rw_bipush E (v := 9) (by decide) dX12_runTick_110 ?_
  refine rw_aload_n E (j0 := 0) rfl rfl dX12_runTick_112 ?_
  refine rw_getI E hh (C := RX12) (T := TX12) (N := 32) rfl (by decide) i_X12_runTick_12 (by decide) rfl (List.mem_of_getElem? (i := 5) (by decide +kernel)) rfl dX12_runTick_113 (fun v5 hh => ?_)
  refine rw_aload_n E (j0 := 0) rfl rfl dX12_runTick_116 ?_
  refine rw_getP E hh (C := RX12) (T := TX12) (N := 32) rfl (by decide) i_X12_runTick_12 (by decide) rfl (List.mem_of_getElem? (i := 1) (by decide +kernel)) rfl dX12_runTick_117 (fun v6 hh => ?_)
  refine rw_bipush E (v := 9) (by decide) dX12_runTick_120 ?_
  refine rw_iald E hh dX12_runTick_122 (fun v7 hh => ?_)
  refine rw_icmp_le E hh (tgt := 133) (by decide) dX12_runTick_123 (fun hh => ?_) (fun hh => ?_)
  · refine rw_aload_n E (j0 := 0) rfl rfl dX12_runTick_133 ?_
    refine rw_getP E hh (C := RX12) (T := TX12) (N := 32) rfl (by decide) i_X12_runTick_12 (by decide) rfl (List.mem_of_getElem? (i := 1) (by decide +kernel)) rfl dX12_runTick_134 (fun v8 hh => ?_)
    refine rw_bipush E (v := 9) (by decide) dX12_runTick_137 ?_
    refine rw_iald E hh dX12_runTick_139 (fun v9 hh => ?_)
    refine WH.pick [0, 2] rfl ?_
    exact w_X12_runTick_b140 E hrt hlk hh
  · refine rw_aload_n E (j0 := 0) rfl rfl dX12_runTick_126 ?_
    refine rw_getI E hh (C := RX12) (T := TX12) (N := 32) rfl (by decide) i_X12_runTick_12 (by decide) rfl (List.mem_of_getElem? (i := 5) (by decide +kernel)) rfl dX12_runTick_127 (fun v10 hh => ?_)
    refine rw_goto E (tgt := 140) (by decide) dX12_runTick_130 ?_
    refine WH.pick [0, 2] rfl ?_
    exact w_X12_runTick_b140 E hrt hlk hh
def s_X12_runTick (S : HS) (h : Nat) (l1 : Int32) : Option (HS) := kO S ((some h)) 12 (fun a3 => kc (s_X12_shortNow S a3 ) (fun v2 S1 => kP S1 ((some h)) 12 24 (fun v4 => kA S1 v4 14 4 (fun v5 => kwI S1 ((some h)) 12 19 v5 (fun S6 => kP S6 ((some h)) 12 24 (fun v7 => kA S6 v7 14 5 (fun v8 => kwI S6 ((some h)) 12 20 v8 (fun S9 => kwZ S9 ((some h)) 12 21 0 (fun S10 => kP S10 ((some h)) 12 24 (fun v11 => kA S10 v11 14 1 (fun v12 => kP S10 ((some h)) 12 24 (fun v13 => kA S10 v13 14 2 (fun v14 => kO S10 ((some h)) 12 (fun a16 => kcv (s_X12_tick S10 a16 v12 v14 l1 0) (fun S15 => kP S15 ((some h)) 12 24 (fun v17 => kI S15 ((some h)) 12 19 (fun v18 => kwA S15 v17 14 4 v18 (fun S19 => kP S19 ((some h)) 12 24 (fun v20 => kI S19 ((some h)) 12 20 (fun v21 => kwA S19 v20 14 5 v21 (fun S22 => kP S22 ((some h)) 12 24 (fun v23 => kA S22 v23 14 6 (fun v24 => kwA S22 v23 14 6 (v24 + 1) (fun S25 => kP S25 ((some h)) 12 24 (fun v26 => kI S25 ((some h)) 12 21 (fun v27 => if v27 = 0 then (s_X12_runTick_b97 h S25 l1 v2 v26 7 0) else (s_X12_runTick_b97 h S25 l1 v2 v26 7 1)))))))))))))))))))))))))))
set_option maxHeartbeats 4000000 in
set_option maxRecDepth 100000 in
theorem c_X12_runTick (l : Launch) (b0 : Nat) (G : hG) (S S1 : HS) (h : Nat) (l1 : Int32) (hh : s_X12_runTick S h l1 = some S1) : MH l yX12_runTick wsX12_runTick rm_X12_runTick b0 G S [hrf b0 (some h), .int l1] none S1 0 0 := by
  refine MH.ofW (cc := cX12_runTick) (maxL := 3) (ret := none) (own := RX12) (lv0 := [(0, hrf b0 ((some h))), (1, .int l1)]) (by decide) rfl rfl (Nat.le_of_ble_eq_true rfl) rfl ?_
  intro p e s m args below meth c E hrt hlk hnm
  have hh : (kO S ((some h)) 12 (fun a3 => kc (s_X12_shortNow S a3 ) (fun v2 S1 => kP S1 ((some h)) 12 24 (fun v4 => kA S1 v4 14 4 (fun v5 => kwI S1 ((some h)) 12 19 v5 (fun S6 => kP S6 ((some h)) 12 24 (fun v7 => kA S6 v7 14 5 (fun v8 => kwI S6 ((some h)) 12 20 v8 (fun S9 => kwZ S9 ((some h)) 12 21 0 (fun S10 => kP S10 ((some h)) 12 24 (fun v11 => kA S10 v11 14 1 (fun v12 => kP S10 ((some h)) 12 24 (fun v13 => kA S10 v13 14 2 (fun v14 => kO S10 ((some h)) 12 (fun a16 => kcv (s_X12_tick S10 a16 v12 v14 l1 0) (fun S15 => kP S15 ((some h)) 12 24 (fun v17 => kI S15 ((some h)) 12 19 (fun v18 => kwA S15 v17 14 4 v18 (fun S19 => kP S19 ((some h)) 12 24 (fun v20 => kI S19 ((some h)) 12 20 (fun v21 => kwA S19 v20 14 5 v21 (fun S22 => kP S22 ((some h)) 12 24 (fun v23 => kA S22 v23 14 6 (fun v24 => kwA S22 v23 14 6 (v24 + 1) (fun S25 => kP S25 ((some h)) 12 24 (fun v26 => kI S25 ((some h)) 12 21 (fun v27 => if v27 = 0 then (s_X12_runTick_b97 h S25 l1 v2 v26 7 0) else (s_X12_runTick_b97 h S25 l1 v2 v26 7 1)))))))))))))))))))))))))))) = some S1 := hh
  refine rw_aload_n E (j0 := 0) rfl rfl dX12_runTick_0 ?_
  refine rw_cVi E (As := []) hh (by decide) rfl (fun _ _ _ hq => c_X12_shortNow l b0 G _ _ _ _ hq) (cwV 0 E.2.2.2.2.1 gX12_runTick_X12_shortNow rfl rfl rfl (by decide +kernel) ⟨Nat.le_of_ble_eq_true rfl, Nat.le_of_ble_eq_true rfl⟩) rfl rfl (by (try simp only [List.map_cons, List.map_nil, List.sum_cons, List.sum_nil, hrf_cat, cat_i, cat_l, cat_r]) <;> decide) ⟨Nat.le_of_ble_eq_true rfl, Nat.le_of_ble_eq_true rfl⟩ dX12_runTick_1 (fun v2 S1 hh => ?_)
  refine rw_istore_n E (lv2 := [(2, .int v2), (0, hrf b0 ((some h))), (1, .int l1)]) rfl (by decide) rfl dX12_runTick_4 ?_
  refine rw_aload_n E (j0 := 1) rfl rfl dX12_runTick_5 ?_
  refine rw_aload_n E (j0 := 1) rfl rfl dX12_runTick_6 ?_
  refine rw_getP E hh (C := RX12) (T := TX12) (N := 32) rfl (by decide) i_X12_runTick_12 (by decide) rfl (List.mem_of_getElem? (i := 1) (by decide +kernel)) rfl dX12_runTick_7 (fun v4 hh => ?_)
  refine rw_iconst E (v := 4) (by decide) dX12_runTick_10 ?_
  refine rw_iald E hh dX12_runTick_11 (fun v5 hh => ?_)
  refine rw_putI E hh (C := RX12) (T := TX12) (N := 32) (ty0 := tyX12) rfl tyX12_ok nmX12 (by decide) i_X12_runTick_12 (by decide) rfl (List.mem_of_getElem? (i := 2) (by decide +kernel)) rfl (Or.inl rfl) rfl dX12_runTick_12 (fun S6 hh => ?_)
  refine rw_aload_n E (j0 := 1) rfl rfl dX12_runTick_15 ?_
  refine rw_aload_n E (j0 := 1) rfl rfl dX12_runTick_16 ?_
  refine rw_getP E hh (C := RX12) (T := TX12) (N := 32) rfl (by decide) i_X12_runTick_12 (by decide) rfl (List.mem_of_getElem? (i := 1) (by decide +kernel)) rfl dX12_runTick_17 (fun v7 hh => ?_)
  refine rw_iconst E (v := 5) (by decide) dX12_runTick_20 ?_
  refine rw_iald E hh dX12_runTick_21 (fun v8 hh => ?_)
  refine rw_putI E hh (C := RX12) (T := TX12) (N := 32) (ty0 := tyX12) rfl tyX12_ok nmX12 (by decide) i_X12_runTick_12 (by decide) rfl (List.mem_of_getElem? (i := 3) (by decide +kernel)) rfl (Or.inl rfl) rfl dX12_runTick_22 (fun S9 hh => ?_)
  refine rw_aload_n E (j0 := 1) rfl rfl dX12_runTick_25 ?_
  refine rw_iconst E (v := 0) (by decide) dX12_runTick_26 ?_
  refine rw_putZ E hh (C := RX12) (T := TX12) (N := 32) (ty0 := tyX12) rfl tyX12_ok nmX12 (by decide) i_X12_runTick_12 (by decide) rfl (List.mem_of_getElem? (i := 4) (by decide +kernel)) rfl (Or.inl rfl) rfl dX12_runTick_27 (fun S10 hh => ?_)
  refine rw_aload_n E (j0 := 1) rfl rfl dX12_runTick_30 ?_
  refine rw_aload_n E (j0 := 1) rfl rfl dX12_runTick_31 ?_
  refine rw_getP E hh (C := RX12) (T := TX12) (N := 32) rfl (by decide) i_X12_runTick_12 (by decide) rfl (List.mem_of_getElem? (i := 1) (by decide +kernel)) rfl dX12_runTick_32 (fun v11 hh => ?_)
  refine rw_iconst E (v := 1) (by decide) dX12_runTick_35 ?_
  refine rw_iald E hh dX12_runTick_36 (fun v12 hh => ?_)
  refine rw_aload_n E (j0 := 1) rfl rfl dX12_runTick_37 ?_
  refine rw_getP E hh (C := RX12) (T := TX12) (N := 32) rfl (by decide) i_X12_runTick_12 (by decide) rfl (List.mem_of_getElem? (i := 1) (by decide +kernel)) rfl dX12_runTick_38 (fun v13 hh => ?_)
  refine rw_iconst E (v := 2) (by decide) dX12_runTick_41 ?_
  refine rw_iald E hh dX12_runTick_42 (fun v14 hh => ?_)
  refine rw_iload_n E (j0 := 2) rfl rfl dX12_runTick_43 ?_
  refine rw_iconst E (v := 0) (by decide) dX12_runTick_44 ?_
  refine rw_cVv E (As := [.int v12, .int v14, .int l1, .int 0]) hh (by decide) rfl (fun _ _ hq => c_X12_tick l b0 G _ _ _ _ _ _ _ hq) (cwV 4 E.2.2.2.2.1 gX12_runTick_X12_tick rfl rfl rfl (by decide +kernel) ⟨Nat.le_of_ble_eq_true rfl, Nat.le_of_ble_eq_true rfl⟩) rfl rfl (by (try simp only [List.map_cons, List.map_nil, List.sum_cons, List.sum_nil, hrf_cat, cat_i, cat_l, cat_r]) <;> decide) ⟨Nat.le_of_ble_eq_true rfl, Nat.le_of_ble_eq_true rfl⟩ dX12_runTick_45 (fun S15 hh => ?_)
  refine rw_aload_n E (j0 := 1) rfl rfl dX12_runTick_48 ?_
  refine rw_getP E hh (C := RX12) (T := TX12) (N := 32) rfl (by decide) i_X12_runTick_12 (by decide) rfl (List.mem_of_getElem? (i := 1) (by decide +kernel)) rfl dX12_runTick_49 (fun v17 hh => ?_)
  refine rw_iconst E (v := 4) (by decide) dX12_runTick_52 ?_
  refine rw_aload_n E (j0 := 1) rfl rfl dX12_runTick_53 ?_
  refine rw_getI E hh (C := RX12) (T := TX12) (N := 32) rfl (by decide) i_X12_runTick_12 (by decide) rfl (List.mem_of_getElem? (i := 2) (by decide +kernel)) rfl dX12_runTick_54 (fun v18 hh => ?_)
  refine rw_iast E hh dX12_runTick_57 (fun S19 hh => ?_)
  refine rw_aload_n E (j0 := 1) rfl rfl dX12_runTick_58 ?_
  refine rw_getP E hh (C := RX12) (T := TX12) (N := 32) rfl (by decide) i_X12_runTick_12 (by decide) rfl (List.mem_of_getElem? (i := 1) (by decide +kernel)) rfl dX12_runTick_59 (fun v20 hh => ?_)
  refine rw_iconst E (v := 5) (by decide) dX12_runTick_62 ?_
  refine rw_aload_n E (j0 := 1) rfl rfl dX12_runTick_63 ?_
  refine rw_getI E hh (C := RX12) (T := TX12) (N := 32) rfl (by decide) i_X12_runTick_12 (by decide) rfl (List.mem_of_getElem? (i := 3) (by decide +kernel)) rfl dX12_runTick_64 (fun v21 hh => ?_)
  refine rw_iast E hh dX12_runTick_67 (fun S22 hh => ?_)
  refine rw_aload_n E (j0 := 1) rfl rfl dX12_runTick_68 ?_
  refine rw_getP E hh (C := RX12) (T := TX12) (N := 32) rfl (by decide) i_X12_runTick_12 (by decide) rfl (List.mem_of_getElem? (i := 1) (by decide +kernel)) rfl dX12_runTick_69 (fun v23 hh => ?_)
  refine rw_bipush E (v := 6) (by decide) dX12_runTick_72 ?_
  refine rw_dup2 E rfl (hrf_cat _ _) dX12_runTick_74 ?_
  refine rw_iald E hh dX12_runTick_75 (fun v24 hh => ?_)
  refine rw_iconst E (v := 1) (by decide) dX12_runTick_76 ?_
  refine rw_iadd E dX12_runTick_77 ?_
  refine rw_iast E hh dX12_runTick_78 (fun S25 hh => ?_)
  refine rw_aload_n E (j0 := 1) rfl rfl dX12_runTick_79 ?_
  refine rw_getP E hh (C := RX12) (T := TX12) (N := 32) rfl (by decide) i_X12_runTick_12 (by decide) rfl (List.mem_of_getElem? (i := 1) (by decide +kernel)) rfl dX12_runTick_80 (fun v26 hh => ?_)
  refine rw_bipush E (v := 7) (by decide) dX12_runTick_83 ?_
  refine rw_aload_n E (j0 := 1) rfl rfl dX12_runTick_85 ?_
  refine rw_getI E hh (C := RX12) (T := TX12) (N := 32) rfl (by decide) i_X12_runTick_12 (by decide) rfl (List.mem_of_getElem? (i := 4) (by decide +kernel)) rfl dX12_runTick_86 (fun v27 hh => ?_)
  refine rw_if_eq E hh (tgt := 96) (by decide) dX12_runTick_89 (fun hh => ?_) (fun hh => ?_)
  · refine rw_iconst E (v := 0) (by decide) dX12_runTick_96 ?_
    refine WH.pick [1, 2, 0] rfl ?_
    exact w_X12_runTick_b97 E hrt hlk hh
  · refine rw_iconst E (v := 1) (by decide) dX12_runTick_92 ?_
    refine rw_goto E (tgt := 97) (by decide) dX12_runTick_93 ?_
    refine WH.pick [1, 2, 0] rfl ?_
    exact w_X12_runTick_b97 E hrt hlk hh

/-! HummingDiscModel.go(I)I -/
abbrev rm_X12_go : Room := { frames := 6, cells := 0, slots := 0, locals := 142 }
theorem i_X12_go_12 : ∀ w ∈ wsX120, w ∈ wsX12_go := fun _ h => List.mem_cons_of_mem _ (List.mem_append_right _ (h))
def s_X12_go_b34 (j34 : HS → Int32 → Int32 → Option (Int32 × HS)) (h : Nat) (S : HS) (l1 : Int32) (l2 : Int32) : Option (Int32 × HS) := if l1 ≤ l2 then (some (l2, S)) else (kP S ((some h)) 12 24 (fun v1 => kA S v1 14 7 (fun v2 => if v2 = 0 then (kO S ((some h)) 12 (fun a5 => kc (s_X12_ruled S a5 ) (fun v4 S3 => kO S3 ((some h)) 12 (fun a7 => kcv (s_X12_runTick S3 a7 v4) (fun S6 => j34 S6 l1 (l2 + 1)))))) else (some (l2, S)))))
set_option maxHeartbeats 4000000 in
set_option maxRecDepth 100000 in
theorem w_X12_go_b34 {p : Program} {l : Launch} {e : Env} {s : State} {m : MethodId} {args : Array Value} {below : List Frame} {meth : Method} {c : Code} {b0 : Nat} {G : hG} {S1 : HS} {r : Int32} {j34 : HS → Int32 → Int32 → Option (Int32 × HS)} {h : Nat} {S : HS} {l1 : Int32} {l2 : Int32} (E : hE p s m args c b0 G cX12_go RX12 3 wsX12_go) (hrt : meth.sig.returnType = (some .int)) (hlk : meth.locks = false) (hj34 : ∀ (S : HS) (l1 : Int32) (l2 : Int32), j34 S l1 l2 = some (r, S1) → WH p l e rm_X12_go s m args below meth c b0 G 3 0 0 (MQ below (hQ b0 G (some (.int r)) S1) args s 0 0 (hA b0)) S 34 [(0, hrf b0 ((some h))), (1, .int l1), (2, .int l2)] []) (hh : s_X12_go_b34 j34 h S l1 l2 = some (r, S1)) : WH p l e rm_X12_go s m args below meth c b0 G 3 0 0 (MQ below (hQ b0 G (some (.int r)) S1) args s 0 0 (hA b0)) S 34 [(0, hrf b0 ((some h))), (1, .int l1), (2, .int l2)] [] := by
  have hh : (if l1 ≤ l2 then (some (l2, S)) else (kP S ((some h)) 12 24 (fun v1 => kA S v1 14 7 (fun v2 => if v2 = 0 then (kO S ((some h)) 12 (fun a5 => kc (s_X12_ruled S a5 ) (fun v4 S3 => kO S3 ((some h)) 12 (fun a7 => kcv (s_X12_runTick S3 a7 v4) (fun S6 => j34 S6 l1 (l2 + 1)))))) else (some (l2, S)))))) = some (r, S1) := hh
  refine rw_iload_n E (j0 := 2) rfl rfl dX12_go_34 ?_
  refine rw_iload_n E (j0 := 1) rfl rfl dX12_go_35 ?_
  refine rw_icmp_ge E hh (tgt := 63) (by decide) dX12_go_36 (fun hh => ?_) (fun hh => ?_)
  · refine rw_iload_n E (j0 := 2) rfl rfl dX12_go_63 ?_
    exact rw_iret E hrt hlk hh (by decide) (by decide) dX12_go_64
  · refine rw_aload_n E (j0 := 0) rfl rfl dX12_go_39 ?_
    refine rw_getP E hh (C := RX12) (T := TX12) (N := 32) rfl (by decide) i_X12_go_12 (by decide) rfl (List.mem_of_getElem? (i := 4) (by decide +kernel)) rfl dX12_go_40 (fun v1 hh => ?_)
    refine rw_bipush E (v := 7) (by decide) dX12_go_43 ?_
    refine rw_iald E hh dX12_go_45 (fun v2 hh => ?_)
    refine rw_if_ne E hh (tgt := 63) (by decide) dX12_go_46 (fun hh => ?_) (fun hh => ?_)
    · refine rw_iload_n E (j0 := 2) rfl rfl dX12_go_63 ?_
      exact rw_iret E hrt hlk hh (by decide) (by decide) dX12_go_64
    · refine rw_aload_n E (j0 := 0) rfl rfl dX12_go_49 ?_
      refine rw_aload_n E (j0 := 0) rfl rfl dX12_go_50 ?_
      refine rw_cVi E (As := []) hh (by decide) rfl (fun _ _ _ hq => c_X12_ruled l b0 G _ _ _ _ hq) (cwV 0 E.2.2.2.2.1 gX12_go_X12_ruled rfl rfl rfl (by decide +kernel) ⟨Nat.le_of_ble_eq_true rfl, Nat.le_of_ble_eq_true rfl⟩) rfl rfl (by (try simp only [List.map_cons, List.map_nil, List.sum_cons, List.sum_nil, hrf_cat, cat_i, cat_l, cat_r]) <;> decide) ⟨Nat.le_of_ble_eq_true rfl, Nat.le_of_ble_eq_true rfl⟩ dX12_go_51 (fun v4 S3 hh => ?_)
      refine rw_cVv E (As := [.int v4]) hh (by decide) rfl (fun _ _ hq => c_X12_runTick l b0 G _ _ _ _ hq) (cwV 1 E.2.2.2.2.1 gX12_go_X12_runTick rfl rfl rfl (by decide +kernel) ⟨Nat.le_of_ble_eq_true rfl, Nat.le_of_ble_eq_true rfl⟩) rfl rfl (by (try simp only [List.map_cons, List.map_nil, List.sum_cons, List.sum_nil, hrf_cat, cat_i, cat_l, cat_r]) <;> decide) ⟨Nat.le_of_ble_eq_true rfl, Nat.le_of_ble_eq_true rfl⟩ dX12_go_54 (fun S6 hh => ?_)
      refine rw_iinc E (v := l2 + 1) (lv2 := [(2, .int (l2 + 1)), (0, hrf b0 ((some h))), (1, .int l1)]) (j0 := 2) rfl rfl (by decide) rfl dX12_go_57 ?_
      refine rw_goto E (tgt := 34) (by decide) dX12_go_60 ?_
      refine WH.pick [1, 2, 0] rfl ?_
      exact hj34 _ _ _ hh
def s_X12_go_L34 (h : Nat) : Nat → HS → Int32 → Int32 → Option (Int32 × HS)
  | 0 => fun _ _ _ => none
  | n + 1 => s_X12_go_b34 (s_X12_go_L34 h n) h
set_option maxHeartbeats 4000000 in
set_option maxRecDepth 100000 in
theorem w_X12_go_L34 {p : Program} {l : Launch} {e : Env} {s : State} {m : MethodId} {args : Array Value} {below : List Frame} {meth : Method} {c : Code} {b0 : Nat} {G : hG} {S1 : HS} {r : Int32} {h : Nat} (E : hE p s m args c b0 G cX12_go RX12 3 wsX12_go) (hrt : meth.sig.returnType = (some .int)) (hlk : meth.locks = false) : ∀ (n : Nat) (S : HS) (l1 : Int32) (l2 : Int32), s_X12_go_L34 h n S l1 l2 = some (r, S1) → WH p l e rm_X12_go s m args below meth c b0 G 3 0 0 (MQ below (hQ b0 G (some (.int r)) S1) args s 0 0 (hA b0)) S 34 [(0, hrf b0 ((some h))), (1, .int l1), (2, .int l2)] [] := by
  intro n
  induction n with
  | zero => intro _ _ _ hh; exact absurd hh (by simp [s_X12_go_L34])
  | succ n ih => intro _ _ _ hh; exact w_X12_go_b34 E hrt hlk  ih hh
def s_X12_go (S : HS) (h : Nat) (l1 : Int32) : Option (Int32 × HS) := kwI S ((some h)) 12 0 0 (fun S1 => kc (s_X12_in S1 l1.toInt64 1 200) (fun v3 S2 => if v3 = 0 then (some ((-1000001), S2)) else (kP S2 ((some h)) 12 24 (fun v4 => kA S2 v4 14 0 (fun v5 => if v5 = 0 then (some ((-1000002), S2)) else (s_X12_go_L34 h 100000 S2 l1 0))))))
set_option maxHeartbeats 4000000 in
set_option maxRecDepth 100000 in
theorem c_X12_go (l : Launch) (b0 : Nat) (G : hG) (S S1 : HS) (h : Nat) (l1 : Int32) (r : Int32) (hh : s_X12_go S h l1 = some (r, S1)) : MH l yX12_go wsX12_go rm_X12_go b0 G S [hrf b0 (some h), .int l1] (some (.int r)) S1 0 0 := by
  refine MH.ofW (cc := cX12_go) (maxL := 3) (ret := (some .int)) (own := RX12) (lv0 := [(0, hrf b0 ((some h))), (1, .int l1)]) (by decide) rfl rfl (Nat.le_of_ble_eq_true rfl) rfl ?_
  intro p e s m args below meth c E hrt hlk hnm
  have hh : (kwI S ((some h)) 12 0 0 (fun S1 => kc (s_X12_in S1 l1.toInt64 1 200) (fun v3 S2 => if v3 = 0 then (some ((-1000001), S2)) else (kP S2 ((some h)) 12 24 (fun v4 => kA S2 v4 14 0 (fun v5 => if v5 = 0 then (some ((-1000002), S2)) else (s_X12_go_L34 h 100000 S2 l1 0))))))) = some (r, S1) := hh
  refine rw_aload_n E (j0 := 0) rfl rfl dX12_go_0 ?_
  refine rw_iconst E (v := 0) (by decide) dX12_go_1 ?_
  refine rw_putI E hh (C := RX12) (T := TX12) (N := 32) (ty0 := tyX12) rfl tyX12_ok nmX12 (by decide) i_X12_go_12 (by decide) rfl (List.mem_of_getElem? (i := 1) (by decide +kernel)) rfl (Or.inl rfl) rfl dX12_go_2 (fun S1 hh => ?_)
  refine rw_iload_n E (j0 := 1) rfl rfl dX12_go_5 ?_
  refine rw_i2l E dX12_go_6 ?_
  refine rw_lconst E (v := 1) (by decide) dX12_go_7 ?_
  refine rw_ldc2 E (v := 200) (List.mem_of_getElem? (i := 2) (by decide +kernel)) dX12_go_8 ?_
  refine rw_cSi E (As := [.long l1.toInt64, .long 1, .long 200]) hh (fun _ _ hq => c_X12_in l b0 G _ _ _ _ _ _ hq) (va_cwS 3 E.2.2.2.2.1 gX12_go_X12_in rfl rfl rfl (by decide +kernel) ⟨Nat.le_of_ble_eq_true rfl, Nat.le_of_ble_eq_true rfl⟩) rfl rfl (by (try simp only [List.map_cons, List.map_nil, List.sum_cons, List.sum_nil, hrf_cat, cat_i, cat_l, cat_r]) <;> decide) ⟨Nat.le_of_ble_eq_true rfl, Nat.le_of_ble_eq_true rfl⟩ dX12_go_11 (fun v3 S2 hh => ?_)
  refine rw_if_ne E hh (tgt := 20) (by decide) dX12_go_14 (fun hh => ?_) (fun hh => ?_)
  · refine rw_aload_n E (j0 := 0) rfl rfl dX12_go_20 ?_
    refine rw_getP E hh (C := RX12) (T := TX12) (N := 32) rfl (by decide) i_X12_go_12 (by decide) rfl (List.mem_of_getElem? (i := 4) (by decide +kernel)) rfl dX12_go_21 (fun v4 hh => ?_)
    refine rw_iconst E (v := 0) (by decide) dX12_go_24 ?_
    refine rw_iald E hh dX12_go_25 (fun v5 hh => ?_)
    refine rw_if_ne E hh (tgt := 32) (by decide) dX12_go_26 (fun hh => ?_) (fun hh => ?_)
    · refine rw_iconst E (v := 0) (by decide) dX12_go_32 ?_
      refine rw_istore_n E (lv2 := [(2, .int 0), (0, hrf b0 ((some h))), (1, .int l1)]) rfl (by decide) rfl dX12_go_33 ?_
      refine WH.pick [1, 2, 0] rfl ?_
      exact w_X12_go_L34 E hrt hlk 100000 _ _ _ hh
    · refine rw_ldc E (v := (-1000002)) (List.mem_of_getElem? (i := 5) (by decide +kernel)) dX12_go_29 ?_
      exact rw_iret E hrt hlk hh (by decide) (by decide) dX12_go_31
  · refine rw_ldc E (v := (-1000001)) (List.mem_of_getElem? (i := 3) (by decide +kernel)) dX12_go_17 ?_
    exact rw_iret E hrt hlk hh (by decide) (by decide) dX12_go_19

/-! HummingDiscModel.pulls(III)I -/
abbrev rm_X12_pulls : Room := { frames := 6, cells := 0, slots := 0, locals := 142 }
theorem i_X12_pulls_12 : ∀ w ∈ wsX120, w ∈ wsX12_pulls := fun _ h => List.mem_cons_of_mem _ (List.mem_append_right _ (h))
def s_X12_pulls_b74 (h : Nat) (S : HS) : Option (Int32 × HS) := kO S ((some h)) 12 (fun a3 => kc (s_X12_finding S a3 2) (fun v2 S1 => some (v2, S1)))
set_option maxHeartbeats 4000000 in
set_option maxRecDepth 100000 in
theorem w_X12_pulls_b74 {p : Program} {l : Launch} {e : Env} {s : State} {m : MethodId} {args : Array Value} {below : List Frame} {meth : Method} {c : Code} {b0 : Nat} {G : hG} {S1 : HS} {r : Int32} {h : Nat} {S : HS} (E : hE p s m args c b0 G cX12_pulls RX12 5 wsX12_pulls) (hrt : meth.sig.returnType = (some .int)) (hlk : meth.locks = false) (hh : s_X12_pulls_b74 h S = some (r, S1)) : WH p l e rm_X12_pulls s m args below meth c b0 G 5 0 0 (MQ below (hQ b0 G (some (.int r)) S1) args s 0 0 (hA b0)) S 74 [(0, hrf b0 ((some h)))] [] := by
  have hh : (kO S ((some h)) 12 (fun a3 => kc (s_X12_finding S a3 2) (fun v2 S1 => some (v2, S1)))) = some (r, S1) := hh
  refine rw_aload_n E (j0 := 0) rfl rfl dX12_pulls_74 ?_
  refine rw_iconst E (v := 2) (by decide) dX12_pulls_75 ?_
  refine rw_cVi E (As := [.int 2]) hh (by decide) rfl (fun _ _ _ hq => c_X12_finding l b0 G _ _ _ _ _ hq) (cwV 1 E.2.2.2.2.1 gX12_pulls_X12_finding rfl rfl rfl (by decide +kernel) ⟨Nat.le_of_ble_eq_true rfl, Nat.le_of_ble_eq_true rfl⟩) rfl rfl (by (try simp only [List.map_cons, List.map_nil, List.sum_cons, List.sum_nil, hrf_cat, cat_i, cat_l, cat_r]) <;> decide) ⟨Nat.le_of_ble_eq_true rfl, Nat.le_of_ble_eq_true rfl⟩ dX12_pulls_76 (fun v2 S1 hh => ?_)
  exact rw_iret E hrt hlk hh (by decide) (by decide) dX12_pulls_79
def s_X12_pulls_b131 (j131 : HS → Int32 → Int32 → Int32 → Int32 → Option (Int32 × HS)) (h : Nat) (S : HS) (l1 : Int32) (l2 : Int32) (l3 : Int32) (l4 : Int32) : Option (Int32 × HS) := if l3 ≤ l4 then (some (l4, S)) else (kP S ((some h)) 12 24 (fun v1 => kA S v1 14 7 (fun v2 => if v2 = 0 then (kP S ((some h)) 12 4 (fun v3 => kA S v3 14 (((40 * l1) + l2) + l4) (fun v4 => kO S ((some h)) 12 (fun a6 => kcv (s_X12_runTick S a6 v4) (fun S5 => j131 S5 l1 l2 l3 (l4 + 1)))))) else (some (l4, S)))))
set_option maxHeartbeats 4000000 in
set_option maxRecDepth 100000 in
theorem w_X12_pulls_b131 {p : Program} {l : Launch} {e : Env} {s : State} {m : MethodId} {args : Array Value} {below : List Frame} {meth : Method} {c : Code} {b0 : Nat} {G : hG} {S1 : HS} {r : Int32} {j131 : HS → Int32 → Int32 → Int32 → Int32 → Option (Int32 × HS)} {h : Nat} {S : HS} {l1 : Int32} {l2 : Int32} {l3 : Int32} {l4 : Int32} (E : hE p s m args c b0 G cX12_pulls RX12 5 wsX12_pulls) (hrt : meth.sig.returnType = (some .int)) (hlk : meth.locks = false) (hj131 : ∀ (S : HS) (l1 : Int32) (l2 : Int32) (l3 : Int32) (l4 : Int32), j131 S l1 l2 l3 l4 = some (r, S1) → WH p l e rm_X12_pulls s m args below meth c b0 G 5 0 0 (MQ below (hQ b0 G (some (.int r)) S1) args s 0 0 (hA b0)) S 131 [(0, hrf b0 ((some h))), (1, .int l1), (2, .int l2), (3, .int l3), (4, .int l4)] []) (hh : s_X12_pulls_b131 j131 h S l1 l2 l3 l4 = some (r, S1)) : WH p l e rm_X12_pulls s m args below meth c b0 G 5 0 0 (MQ below (hQ b0 G (some (.int r)) S1) args s 0 0 (hA b0)) S 131 [(0, hrf b0 ((some h))), (1, .int l1), (2, .int l2), (3, .int l3), (4, .int l4)] [] := by
  have hh : (if l3 ≤ l4 then (some (l4, S)) else (kP S ((some h)) 12 24 (fun v1 => kA S v1 14 7 (fun v2 => if v2 = 0 then (kP S ((some h)) 12 4 (fun v3 => kA S v3 14 (((40 * l1) + l2) + l4) (fun v4 => kO S ((some h)) 12 (fun a6 => kcv (s_X12_runTick S a6 v4) (fun S5 => j131 S5 l1 l2 l3 (l4 + 1)))))) else (some (l4, S)))))) = some (r, S1) := hh
  refine rw_iload E (j0 := 4) rfl dX12_pulls_131 ?_
  refine rw_iload_n E (j0 := 3) rfl rfl dX12_pulls_133 ?_
  refine rw_icmp_ge E hh (tgt := 171) (by decide) dX12_pulls_134 (fun hh => ?_) (fun hh => ?_)
  · refine rw_iload E (j0 := 4) rfl dX12_pulls_171 ?_
    exact rw_iret E hrt hlk hh (by decide) (by decide) dX12_pulls_173
  · refine rw_aload_n E (j0 := 0) rfl rfl dX12_pulls_137 ?_
    refine rw_getP E hh (C := RX12) (T := TX12) (N := 32) rfl (by decide) i_X12_pulls_12 (by decide) rfl (List.mem_of_getElem? (i := 4) (by decide +kernel)) rfl dX12_pulls_138 (fun v1 hh => ?_)
    refine rw_bipush E (v := 7) (by decide) dX12_pulls_141 ?_
    refine rw_iald E hh dX12_pulls_143 (fun v2 hh => ?_)
    refine rw_if_ne E hh (tgt := 171) (by decide) dX12_pulls_144 (fun hh => ?_) (fun hh => ?_)
    · refine rw_iload E (j0 := 4) rfl dX12_pulls_171 ?_
      exact rw_iret E hrt hlk hh (by decide) (by decide) dX12_pulls_173
    · refine rw_aload_n E (j0 := 0) rfl rfl dX12_pulls_147 ?_
      refine rw_aload_n E (j0 := 0) rfl rfl dX12_pulls_148 ?_
      refine rw_getP E hh (C := RX12) (T := TX12) (N := 32) rfl (by decide) i_X12_pulls_12 (by decide) rfl (List.mem_of_getElem? (i := 8) (by decide +kernel)) rfl dX12_pulls_149 (fun v3 hh => ?_)
      refine rw_bipush E (v := 40) (by decide) dX12_pulls_152 ?_
      refine rw_iload_n E (j0 := 1) rfl rfl dX12_pulls_154 ?_
      refine rw_imul E dX12_pulls_155 ?_
      refine rw_iload_n E (j0 := 2) rfl rfl dX12_pulls_156 ?_
      refine rw_iadd E dX12_pulls_157 ?_
      refine rw_iload E (j0 := 4) rfl dX12_pulls_158 ?_
      refine rw_iadd E dX12_pulls_160 ?_
      refine rw_iald E hh dX12_pulls_161 (fun v4 hh => ?_)
      refine rw_cVv E (As := [.int v4]) hh (by decide) rfl (fun _ _ hq => c_X12_runTick l b0 G _ _ _ _ hq) (cwV 1 E.2.2.2.2.1 gX12_pulls_X12_runTick rfl rfl rfl (by decide +kernel) ⟨Nat.le_of_ble_eq_true rfl, Nat.le_of_ble_eq_true rfl⟩) rfl rfl (by (try simp only [List.map_cons, List.map_nil, List.sum_cons, List.sum_nil, hrf_cat, cat_i, cat_l, cat_r]) <;> decide) ⟨Nat.le_of_ble_eq_true rfl, Nat.le_of_ble_eq_true rfl⟩ dX12_pulls_162 (fun S5 hh => ?_)
      refine rw_iinc E (v := l4 + 1) (lv2 := [(4, .int (l4 + 1)), (0, hrf b0 ((some h))), (1, .int l1), (2, .int l2), (3, .int l3)]) (j0 := 4) rfl rfl (by decide) rfl dX12_pulls_165 ?_
      refine rw_goto E (tgt := 131) (by decide) dX12_pulls_168 ?_
      refine WH.pick [1, 2, 3, 4, 0] rfl ?_
      exact hj131 _ _ _ _ _ hh
def s_X12_pulls_L131 (h : Nat) : Nat → HS → Int32 → Int32 → Int32 → Int32 → Option (Int32 × HS)
  | 0 => fun _ _ _ _ _ => none
  | n + 1 => s_X12_pulls_b131 (s_X12_pulls_L131 h n) h
set_option maxHeartbeats 4000000 in
set_option maxRecDepth 100000 in
theorem w_X12_pulls_L131 {p : Program} {l : Launch} {e : Env} {s : State} {m : MethodId} {args : Array Value} {below : List Frame} {meth : Method} {c : Code} {b0 : Nat} {G : hG} {S1 : HS} {r : Int32} {h : Nat} (E : hE p s m args c b0 G cX12_pulls RX12 5 wsX12_pulls) (hrt : meth.sig.returnType = (some .int)) (hlk : meth.locks = false) : ∀ (n : Nat) (S : HS) (l1 : Int32) (l2 : Int32) (l3 : Int32) (l4 : Int32), s_X12_pulls_L131 h n S l1 l2 l3 l4 = some (r, S1) → WH p l e rm_X12_pulls s m args below meth c b0 G 5 0 0 (MQ below (hQ b0 G (some (.int r)) S1) args s 0 0 (hA b0)) S 131 [(0, hrf b0 ((some h))), (1, .int l1), (2, .int l2), (3, .int l3), (4, .int l4)] [] := by
  intro n
  induction n with
  | zero => intro _ _ _ _ _ hh; exact absurd hh (by simp [s_X12_pulls_L131])
  | succ n ih => intro _ _ _ _ _ hh; exact w_X12_pulls_b131 E hrt hlk  ih hh
def s_X12_pulls_b83 (j83 : HS → Int32 → Int32 → Int32 → Int32 → Option (Int32 × HS)) (h : Nat) (S : HS) (l1 : Int32) (l2 : Int32) (l3 : Int32) (l4 : Int32) : Option (Int32 × HS) := if l3 ≤ l4 then (kwI S ((some h)) 12 1 0 (fun S1 => s_X12_pulls_L131 h 100000 S1 l1 l2 l3 0)) else (kP S ((some h)) 12 4 (fun v2 => kA S v2 14 (((40 * l1) + l2) + l4) (fun v3 => kc (s_X12_in S v3.toInt64 0 99) (fun v5 S4 => if v5 = 0 then (some ((-1000001), S4)) else (j83 S4 l1 l2 l3 (l4 + 1))))))
set_option maxHeartbeats 4000000 in
set_option maxRecDepth 100000 in
theorem w_X12_pulls_b83 {p : Program} {l : Launch} {e : Env} {s : State} {m : MethodId} {args : Array Value} {below : List Frame} {meth : Method} {c : Code} {b0 : Nat} {G : hG} {S1 : HS} {r : Int32} {j83 : HS → Int32 → Int32 → Int32 → Int32 → Option (Int32 × HS)} {h : Nat} {S : HS} {l1 : Int32} {l2 : Int32} {l3 : Int32} {l4 : Int32} (E : hE p s m args c b0 G cX12_pulls RX12 5 wsX12_pulls) (hrt : meth.sig.returnType = (some .int)) (hlk : meth.locks = false) (hj83 : ∀ (S : HS) (l1 : Int32) (l2 : Int32) (l3 : Int32) (l4 : Int32), j83 S l1 l2 l3 l4 = some (r, S1) → WH p l e rm_X12_pulls s m args below meth c b0 G 5 0 0 (MQ below (hQ b0 G (some (.int r)) S1) args s 0 0 (hA b0)) S 83 [(0, hrf b0 ((some h))), (1, .int l1), (2, .int l2), (3, .int l3), (4, .int l4)] []) (hh : s_X12_pulls_b83 j83 h S l1 l2 l3 l4 = some (r, S1)) : WH p l e rm_X12_pulls s m args below meth c b0 G 5 0 0 (MQ below (hQ b0 G (some (.int r)) S1) args s 0 0 (hA b0)) S 83 [(0, hrf b0 ((some h))), (1, .int l1), (2, .int l2), (3, .int l3), (4, .int l4)] [] := by
  have hh : (if l3 ≤ l4 then (kwI S ((some h)) 12 1 0 (fun S1 => s_X12_pulls_L131 h 100000 S1 l1 l2 l3 0)) else (kP S ((some h)) 12 4 (fun v2 => kA S v2 14 (((40 * l1) + l2) + l4) (fun v3 => kc (s_X12_in S v3.toInt64 0 99) (fun v5 S4 => if v5 = 0 then (some ((-1000001), S4)) else (j83 S4 l1 l2 l3 (l4 + 1))))))) = some (r, S1) := hh
  refine rw_iload E (j0 := 4) rfl dX12_pulls_83 ?_
  refine rw_iload_n E (j0 := 3) rfl rfl dX12_pulls_85 ?_
  refine rw_icmp_ge E hh (tgt := 123) (by decide) dX12_pulls_86 (fun hh => ?_) (fun hh => ?_)
  · refine rw_aload_n E (j0 := 0) rfl rfl dX12_pulls_123 ?_
    refine rw_iconst E (v := 0) (by decide) dX12_pulls_124 ?_
    refine rw_putI E hh (C := RX12) (T := TX12) (N := 32) (ty0 := tyX12) rfl tyX12_ok nmX12 (by decide) i_X12_pulls_12 (by decide) rfl (List.mem_of_getElem? (i := 10) (by decide +kernel)) rfl (Or.inl rfl) rfl dX12_pulls_125 (fun S1 hh => ?_)
    refine rw_iconst E (v := 0) (by decide) dX12_pulls_128 ?_
    refine rw_istore E (lv2 := [(4, .int 0), (0, hrf b0 ((some h))), (1, .int l1), (2, .int l2), (3, .int l3)]) (by decide) rfl dX12_pulls_129 ?_
    refine WH.pick [1, 2, 3, 4, 0] rfl ?_
    exact w_X12_pulls_L131 E hrt hlk 100000 _ _ _ _ _ hh
  · refine rw_aload_n E (j0 := 0) rfl rfl dX12_pulls_89 ?_
    refine rw_getP E hh (C := RX12) (T := TX12) (N := 32) rfl (by decide) i_X12_pulls_12 (by decide) rfl (List.mem_of_getElem? (i := 8) (by decide +kernel)) rfl dX12_pulls_90 (fun v2 hh => ?_)
    refine rw_bipush E (v := 40) (by decide) dX12_pulls_93 ?_
    refine rw_iload_n E (j0 := 1) rfl rfl dX12_pulls_95 ?_
    refine rw_imul E dX12_pulls_96 ?_
    refine rw_iload_n E (j0 := 2) rfl rfl dX12_pulls_97 ?_
    refine rw_iadd E dX12_pulls_98 ?_
    refine rw_iload E (j0 := 4) rfl dX12_pulls_99 ?_
    refine rw_iadd E dX12_pulls_101 ?_
    refine rw_iald E hh dX12_pulls_102 (fun v3 hh => ?_)
    refine rw_i2l E dX12_pulls_103 ?_
    refine rw_lconst E (v := 0) (by decide) dX12_pulls_104 ?_
    refine rw_ldc2 E (v := 99) (List.mem_of_getElem? (i := 9) (by decide +kernel)) dX12_pulls_105 ?_
    refine rw_cSi E (As := [.long v3.toInt64, .long 0, .long 99]) hh (fun _ _ hq => c_X12_in l b0 G _ _ _ _ _ _ hq) (va_cwS 3 E.2.2.2.2.1 gX12_pulls_X12_in rfl rfl rfl (by decide +kernel) ⟨Nat.le_of_ble_eq_true rfl, Nat.le_of_ble_eq_true rfl⟩) rfl rfl (by (try simp only [List.map_cons, List.map_nil, List.sum_cons, List.sum_nil, hrf_cat, cat_i, cat_l, cat_r]) <;> decide) ⟨Nat.le_of_ble_eq_true rfl, Nat.le_of_ble_eq_true rfl⟩ dX12_pulls_108 (fun v5 S4 hh => ?_)
    refine rw_if_ne E hh (tgt := 117) (by decide) dX12_pulls_111 (fun hh => ?_) (fun hh => ?_)
    · refine rw_iinc E (v := l4 + 1) (lv2 := [(4, .int (l4 + 1)), (0, hrf b0 ((some h))), (1, .int l1), (2, .int l2), (3, .int l3)]) (j0 := 4) rfl rfl (by decide) rfl dX12_pulls_117 ?_
      refine rw_goto E (tgt := 83) (by decide) dX12_pulls_120 ?_
      refine WH.pick [1, 2, 3, 4, 0] rfl ?_
      exact hj83 _ _ _ _ _ hh
    · refine rw_ldc E (v := (-1000001)) (List.mem_of_getElem? (i := 3) (by decide +kernel)) dX12_pulls_114 ?_
      exact rw_iret E hrt hlk hh (by decide) (by decide) dX12_pulls_116
def s_X12_pulls_L83 (h : Nat) : Nat → HS → Int32 → Int32 → Int32 → Int32 → Option (Int32 × HS)
  | 0 => fun _ _ _ _ _ => none
  | n + 1 => s_X12_pulls_b83 (s_X12_pulls_L83 h n) h
set_option maxHeartbeats 4000000 in
set_option maxRecDepth 100000 in
theorem w_X12_pulls_L83 {p : Program} {l : Launch} {e : Env} {s : State} {m : MethodId} {args : Array Value} {below : List Frame} {meth : Method} {c : Code} {b0 : Nat} {G : hG} {S1 : HS} {r : Int32} {h : Nat} (E : hE p s m args c b0 G cX12_pulls RX12 5 wsX12_pulls) (hrt : meth.sig.returnType = (some .int)) (hlk : meth.locks = false) : ∀ (n : Nat) (S : HS) (l1 : Int32) (l2 : Int32) (l3 : Int32) (l4 : Int32), s_X12_pulls_L83 h n S l1 l2 l3 l4 = some (r, S1) → WH p l e rm_X12_pulls s m args below meth c b0 G 5 0 0 (MQ below (hQ b0 G (some (.int r)) S1) args s 0 0 (hA b0)) S 83 [(0, hrf b0 ((some h))), (1, .int l1), (2, .int l2), (3, .int l3), (4, .int l4)] [] := by
  intro n
  induction n with
  | zero => intro _ _ _ _ _ hh; exact absurd hh (by simp [s_X12_pulls_L83])
  | succ n ih => intro _ _ _ _ _ hh; exact w_X12_pulls_b83 E hrt hlk  ih hh
def s_X12_pulls (S : HS) (h : Nat) (l1 : Int32) (l2 : Int32) (l3 : Int32) : Option (Int32 × HS) := kwI S ((some h)) 12 0 0 (fun S1 => kc (s_X12_isRow S1 l1) (fun v3 S2 => if v3 = 0 then (some ((-1000001), S2)) else (kc (s_X12_in S2 l3.toInt64 1 40) (fun v5 S4 => if v5 = 0 then (some ((-1000001), S4)) else (kP S4 ((some h)) 12 24 (fun v6 => kA S4 v6 14 0 (fun v7 => if v7 = 0 then (some ((-1000002), S4)) else (kP S4 ((some h)) 12 2 (fun v8 => kA S4 v8 14 l1 (fun v9 => if 0 ≤ v9 then (if l2 < 0 then (s_X12_pulls_b74 h S4) else (kP S4 ((some h)) 12 3 (fun v10 => kA S4 v10 14 l1 (fun v11 => if l2.toInt64 + l3.toInt64 ≤ v11.toInt64 then (s_X12_pulls_L83 h 100000 S4 l1 l2 l3 0) else (s_X12_pulls_b74 h S4))))) else (kO S4 ((some h)) 12 (fun a14 => kc (s_X12_finding S4 a14 1) (fun v13 S12 => some (v13, S12))))))))))))))
set_option maxHeartbeats 4000000 in
set_option maxRecDepth 100000 in
theorem c_X12_pulls (l : Launch) (b0 : Nat) (G : hG) (S S1 : HS) (h : Nat) (l1 : Int32) (l2 : Int32) (l3 : Int32) (r : Int32) (hh : s_X12_pulls S h l1 l2 l3 = some (r, S1)) : MH l yX12_pulls wsX12_pulls rm_X12_pulls b0 G S [hrf b0 (some h), .int l1, .int l2, .int l3] (some (.int r)) S1 0 0 := by
  refine MH.ofW (cc := cX12_pulls) (maxL := 5) (ret := (some .int)) (own := RX12) (lv0 := [(0, hrf b0 ((some h))), (1, .int l1), (2, .int l2), (3, .int l3)]) (by decide) rfl rfl (Nat.le_of_ble_eq_true rfl) rfl ?_
  intro p e s m args below meth c E hrt hlk hnm
  have hh : (kwI S ((some h)) 12 0 0 (fun S1 => kc (s_X12_isRow S1 l1) (fun v3 S2 => if v3 = 0 then (some ((-1000001), S2)) else (kc (s_X12_in S2 l3.toInt64 1 40) (fun v5 S4 => if v5 = 0 then (some ((-1000001), S4)) else (kP S4 ((some h)) 12 24 (fun v6 => kA S4 v6 14 0 (fun v7 => if v7 = 0 then (some ((-1000002), S4)) else (kP S4 ((some h)) 12 2 (fun v8 => kA S4 v8 14 l1 (fun v9 => if 0 ≤ v9 then (if l2 < 0 then (s_X12_pulls_b74 h S4) else (kP S4 ((some h)) 12 3 (fun v10 => kA S4 v10 14 l1 (fun v11 => if l2.toInt64 + l3.toInt64 ≤ v11.toInt64 then (s_X12_pulls_L83 h 100000 S4 l1 l2 l3 0) else (s_X12_pulls_b74 h S4))))) else (kO S4 ((some h)) 12 (fun a14 => kc (s_X12_finding S4 a14 1) (fun v13 S12 => some (v13, S12))))))))))))))) = some (r, S1) := hh
  refine rw_aload_n E (j0 := 0) rfl rfl dX12_pulls_0 ?_
  refine rw_iconst E (v := 0) (by decide) dX12_pulls_1 ?_
  refine rw_putI E hh (C := RX12) (T := TX12) (N := 32) (ty0 := tyX12) rfl tyX12_ok nmX12 (by decide) i_X12_pulls_12 (by decide) rfl (List.mem_of_getElem? (i := 1) (by decide +kernel)) rfl (Or.inl rfl) rfl dX12_pulls_2 (fun S1 hh => ?_)
  refine rw_iload_n E (j0 := 1) rfl rfl dX12_pulls_5 ?_
  refine rw_cSi E (As := [.int l1]) hh (fun _ _ hq => c_X12_isRow l b0 G _ _ _ _ hq) (va_cwS 1 E.2.2.2.2.1 gX12_pulls_X12_isRow rfl rfl rfl (by decide +kernel) ⟨Nat.le_of_ble_eq_true rfl, Nat.le_of_ble_eq_true rfl⟩) rfl rfl (by (try simp only [List.map_cons, List.map_nil, List.sum_cons, List.sum_nil, hrf_cat, cat_i, cat_l, cat_r]) <;> decide) ⟨Nat.le_of_ble_eq_true rfl, Nat.le_of_ble_eq_true rfl⟩ dX12_pulls_6 (fun v3 S2 hh => ?_)
  refine rw_if_eq E hh (tgt := 24) (by decide) dX12_pulls_9 (fun hh => ?_) (fun hh => ?_)
  · refine rw_ldc E (v := (-1000001)) (List.mem_of_getElem? (i := 3) (by decide +kernel)) dX12_pulls_24 ?_
    exact rw_iret E hrt hlk hh (by decide) (by decide) dX12_pulls_26
  · refine rw_iload_n E (j0 := 3) rfl rfl dX12_pulls_12 ?_
    refine rw_i2l E dX12_pulls_13 ?_
    refine rw_lconst E (v := 1) (by decide) dX12_pulls_14 ?_
    refine rw_ldc2 E (v := 40) (List.mem_of_getElem? (i := 2) (by decide +kernel)) dX12_pulls_15 ?_
    refine rw_cSi E (As := [.long l3.toInt64, .long 1, .long 40]) hh (fun _ _ hq => c_X12_in l b0 G _ _ _ _ _ _ hq) (va_cwS 3 E.2.2.2.2.1 gX12_pulls_X12_in rfl rfl rfl (by decide +kernel) ⟨Nat.le_of_ble_eq_true rfl, Nat.le_of_ble_eq_true rfl⟩) rfl rfl (by (try simp only [List.map_cons, List.map_nil, List.sum_cons, List.sum_nil, hrf_cat, cat_i, cat_l, cat_r]) <;> decide) ⟨Nat.le_of_ble_eq_true rfl, Nat.le_of_ble_eq_true rfl⟩ dX12_pulls_18 (fun v5 S4 hh => ?_)
    refine rw_if_ne E hh (tgt := 27) (by decide) dX12_pulls_21 (fun hh => ?_) (fun hh => ?_)
    · refine rw_aload_n E (j0 := 0) rfl rfl dX12_pulls_27 ?_
      refine rw_getP E hh (C := RX12) (T := TX12) (N := 32) rfl (by decide) i_X12_pulls_12 (by decide) rfl (List.mem_of_getElem? (i := 4) (by decide +kernel)) rfl dX12_pulls_28 (fun v6 hh => ?_)
      refine rw_iconst E (v := 0) (by decide) dX12_pulls_31 ?_
      refine rw_iald E hh dX12_pulls_32 (fun v7 hh => ?_)
      refine rw_if_ne E hh (tgt := 39) (by decide) dX12_pulls_33 (fun hh => ?_) (fun hh => ?_)
      · refine rw_aload_n E (j0 := 0) rfl rfl dX12_pulls_39 ?_
        refine rw_getP E hh (C := RX12) (T := TX12) (N := 32) rfl (by decide) i_X12_pulls_12 (by decide) rfl (List.mem_of_getElem? (i := 6) (by decide +kernel)) rfl dX12_pulls_40 (fun v8 hh => ?_)
        refine rw_iload_n E (j0 := 1) rfl rfl dX12_pulls_43 ?_
        refine rw_iald E hh dX12_pulls_44 (fun v9 hh => ?_)
        refine rw_if_ge E hh (tgt := 54) (by decide) dX12_pulls_45 (fun hh => ?_) (fun hh => ?_)
        · refine rw_iload_n E (j0 := 2) rfl rfl dX12_pulls_54 ?_
          refine rw_if_lt E hh (tgt := 74) (by decide) dX12_pulls_55 (fun hh => ?_) (fun hh => ?_)
          · refine WH.pick [0] rfl ?_
            exact w_X12_pulls_b74 E hrt hlk hh
          · refine rw_iload_n E (j0 := 2) rfl rfl dX12_pulls_58 ?_
            refine rw_i2l E dX12_pulls_59 ?_
            refine rw_iload_n E (j0 := 3) rfl rfl dX12_pulls_60 ?_
            refine rw_i2l E dX12_pulls_61 ?_
            refine rw_ladd E dX12_pulls_62 ?_
            refine rw_aload_n E (j0 := 0) rfl rfl dX12_pulls_63 ?_
            refine rw_getP E hh (C := RX12) (T := TX12) (N := 32) rfl (by decide) i_X12_pulls_12 (by decide) rfl (List.mem_of_getElem? (i := 7) (by decide +kernel)) rfl dX12_pulls_64 (fun v10 hh => ?_)
            refine rw_iload_n E (j0 := 1) rfl rfl dX12_pulls_67 ?_
            refine rw_iald E hh dX12_pulls_68 (fun v11 hh => ?_)
            refine rw_i2l E dX12_pulls_69 ?_
            refine rw_lle E hh (tgt := 80) (by decide) dX12_pulls_70 dX12_pulls_71 (fun hh => ?_) (fun hh => ?_)
            · refine rw_iconst E (v := 0) (by decide) dX12_pulls_80 ?_
              refine rw_istore E (lv2 := [(4, .int 0), (0, hrf b0 ((some h))), (1, .int l1), (2, .int l2), (3, .int l3)]) (by decide) rfl dX12_pulls_81 ?_
              refine WH.pick [1, 2, 3, 4, 0] rfl ?_
              exact w_X12_pulls_L83 E hrt hlk 100000 _ _ _ _ _ hh
            · refine WH.pick [0] rfl ?_
              exact w_X12_pulls_b74 E hrt hlk hh
        · refine rw_aload_n E (j0 := 0) rfl rfl dX12_pulls_48 ?_
          refine rw_iconst E (v := 1) (by decide) dX12_pulls_49 ?_
          refine rw_cVi E (As := [.int 1]) hh (by decide) rfl (fun _ _ _ hq => c_X12_finding l b0 G _ _ _ _ _ hq) (cwV 1 E.2.2.2.2.1 gX12_pulls_X12_finding rfl rfl rfl (by decide +kernel) ⟨Nat.le_of_ble_eq_true rfl, Nat.le_of_ble_eq_true rfl⟩) rfl rfl (by (try simp only [List.map_cons, List.map_nil, List.sum_cons, List.sum_nil, hrf_cat, cat_i, cat_l, cat_r]) <;> decide) ⟨Nat.le_of_ble_eq_true rfl, Nat.le_of_ble_eq_true rfl⟩ dX12_pulls_50 (fun v13 S12 hh => ?_)
          exact rw_iret E hrt hlk hh (by decide) (by decide) dX12_pulls_53
      · refine rw_ldc E (v := (-1000002)) (List.mem_of_getElem? (i := 5) (by decide +kernel)) dX12_pulls_36 ?_
        exact rw_iret E hrt hlk hh (by decide) (by decide) dX12_pulls_38
    · refine rw_ldc E (v := (-1000001)) (List.mem_of_getElem? (i := 3) (by decide +kernel)) dX12_pulls_24 ?_
      exact rw_iret E hrt hlk hh (by decide) (by decide) dX12_pulls_26

/-! HummingDiscModel.now(I)I -/
abbrev rm_X12_now : Room := { frames := 4, cells := 0, slots := 0, locals := 88 }
theorem i_X12_now_12 : ∀ w ∈ wsX120, w ∈ wsX12_now := fun _ h => List.mem_cons_of_mem _ (List.mem_append_right _ (h))
def s_X12_now (S : HS) (h : Nat) (l1 : Int32) : Option (Int32 × HS) := kwI S ((some h)) 12 0 0 (fun S1 => kc (s_X12_in S1 l1.toInt64 0 8) (fun v3 S2 => if v3 = 0 then (some ((-1000001), S2)) else (kP S2 ((some h)) 12 24 (fun v4 => kA S2 v4 14 0 (fun v5 => if v5 = 0 then (some ((-1000002), S2)) else (if l1 = 0 then (kP S2 ((some h)) 12 24 (fun v6 => kA S2 v6 14 4 (fun v7 => some (v7, S2)))) else (if l1 = 1 then (kP S2 ((some h)) 12 24 (fun v8 => kA S2 v8 14 5 (fun v9 => some (v9, S2)))) else (if l1 = 2 then (kP S2 ((some h)) 12 24 (fun v10 => kA S2 v10 14 6 (fun v11 => some (v11, S2)))) else (if l1 = 3 then (kP S2 ((some h)) 12 24 (fun v12 => kA S2 v12 14 7 (fun v13 => some (v13, S2)))) else (if l1 = 4 then (kO S2 ((some h)) 12 (fun a16 => kc (s_X12_shortNow S2 a16 ) (fun v15 S14 => some (v15, S14)))) else (if l1 = 5 then (kP S2 ((some h)) 12 24 (fun v17 => kA S2 v17 14 8 (fun v18 => some (v18, S2)))) else (if l1 = 6 then (kP S2 ((some h)) 12 24 (fun v19 => kA S2 v19 14 9 (fun v20 => some (v20, S2)))) else (if l1 = 7 then (kP S2 ((some h)) 12 24 (fun v21 => kA S2 v21 14 5 (fun v22 => kc (s_X12_size S2 v22) (fun v24 S23 => kP S23 ((some h)) 12 24 (fun v25 => kA S23 v25 14 1 (fun v26 => kO S23 ((some h)) 12 (fun a29 => kc (s_X12_discOf S23 a29 v26 2) (fun v28 S27 => some (v24 * v28, S27))))))))) else (kP S2 ((some h)) 12 24 (fun v30 => kA S2 v30 14 10 (fun v31 => some (v31, S2)))))))))))))))))
set_option maxHeartbeats 4000000 in
set_option maxRecDepth 100000 in
theorem c_X12_now (l : Launch) (b0 : Nat) (G : hG) (S S1 : HS) (h : Nat) (l1 : Int32) (r : Int32) (hh : s_X12_now S h l1 = some (r, S1)) : MH l yX12_now wsX12_now rm_X12_now b0 G S [hrf b0 (some h), .int l1] (some (.int r)) S1 0 0 := by
  refine MH.ofW (cc := cX12_now) (maxL := 2) (ret := (some .int)) (own := RX12) (lv0 := [(0, hrf b0 ((some h))), (1, .int l1)]) (by decide) rfl rfl (Nat.le_of_ble_eq_true rfl) rfl ?_
  intro p e s m args below meth c E hrt hlk hnm
  have hh : (kwI S ((some h)) 12 0 0 (fun S1 => kc (s_X12_in S1 l1.toInt64 0 8) (fun v3 S2 => if v3 = 0 then (some ((-1000001), S2)) else (kP S2 ((some h)) 12 24 (fun v4 => kA S2 v4 14 0 (fun v5 => if v5 = 0 then (some ((-1000002), S2)) else (if l1 = 0 then (kP S2 ((some h)) 12 24 (fun v6 => kA S2 v6 14 4 (fun v7 => some (v7, S2)))) else (if l1 = 1 then (kP S2 ((some h)) 12 24 (fun v8 => kA S2 v8 14 5 (fun v9 => some (v9, S2)))) else (if l1 = 2 then (kP S2 ((some h)) 12 24 (fun v10 => kA S2 v10 14 6 (fun v11 => some (v11, S2)))) else (if l1 = 3 then (kP S2 ((some h)) 12 24 (fun v12 => kA S2 v12 14 7 (fun v13 => some (v13, S2)))) else (if l1 = 4 then (kO S2 ((some h)) 12 (fun a16 => kc (s_X12_shortNow S2 a16 ) (fun v15 S14 => some (v15, S14)))) else (if l1 = 5 then (kP S2 ((some h)) 12 24 (fun v17 => kA S2 v17 14 8 (fun v18 => some (v18, S2)))) else (if l1 = 6 then (kP S2 ((some h)) 12 24 (fun v19 => kA S2 v19 14 9 (fun v20 => some (v20, S2)))) else (if l1 = 7 then (kP S2 ((some h)) 12 24 (fun v21 => kA S2 v21 14 5 (fun v22 => kc (s_X12_size S2 v22) (fun v24 S23 => kP S23 ((some h)) 12 24 (fun v25 => kA S23 v25 14 1 (fun v26 => kO S23 ((some h)) 12 (fun a29 => kc (s_X12_discOf S23 a29 v26 2) (fun v28 S27 => some (v24 * v28, S27))))))))) else (kP S2 ((some h)) 12 24 (fun v30 => kA S2 v30 14 10 (fun v31 => some (v31, S2)))))))))))))))))) = some (r, S1) := hh
  refine rw_aload_n E (j0 := 0) rfl rfl dX12_now_0 ?_
  refine rw_iconst E (v := 0) (by decide) dX12_now_1 ?_
  refine rw_putI E hh (C := RX12) (T := TX12) (N := 32) (ty0 := tyX12) rfl tyX12_ok nmX12 (by decide) i_X12_now_12 (by decide) rfl (List.mem_of_getElem? (i := 1) (by decide +kernel)) rfl (Or.inl rfl) rfl dX12_now_2 (fun S1 hh => ?_)
  refine rw_iload_n E (j0 := 1) rfl rfl dX12_now_5 ?_
  refine rw_i2l E dX12_now_6 ?_
  refine rw_lconst E (v := 0) (by decide) dX12_now_7 ?_
  refine rw_ldc2 E (v := 8) (List.mem_of_getElem? (i := 2) (by decide +kernel)) dX12_now_8 ?_
  refine rw_cSi E (As := [.long l1.toInt64, .long 0, .long 8]) hh (fun _ _ hq => c_X12_in l b0 G _ _ _ _ _ _ hq) (va_cwS 3 E.2.2.2.2.1 gX12_now_X12_in rfl rfl rfl (by decide +kernel) ⟨Nat.le_of_ble_eq_true rfl, Nat.le_of_ble_eq_true rfl⟩) rfl rfl (by (try simp only [List.map_cons, List.map_nil, List.sum_cons, List.sum_nil, hrf_cat, cat_i, cat_l, cat_r]) <;> decide) ⟨Nat.le_of_ble_eq_true rfl, Nat.le_of_ble_eq_true rfl⟩ dX12_now_11 (fun v3 S2 hh => ?_)
  refine rw_if_ne E hh (tgt := 20) (by decide) dX12_now_14 (fun hh => ?_) (fun hh => ?_)
  · refine rw_aload_n E (j0 := 0) rfl rfl dX12_now_20 ?_
    refine rw_getP E hh (C := RX12) (T := TX12) (N := 32) rfl (by decide) i_X12_now_12 (by decide) rfl (List.mem_of_getElem? (i := 4) (by decide +kernel)) rfl dX12_now_21 (fun v4 hh => ?_)
    refine rw_iconst E (v := 0) (by decide) dX12_now_24 ?_
    refine rw_iald E hh dX12_now_25 (fun v5 hh => ?_)
    refine rw_if_ne E hh (tgt := 32) (by decide) dX12_now_26 (fun hh => ?_) (fun hh => ?_)
    · refine rw_iload_n E (j0 := 1) rfl rfl dX12_now_32 ?_
      by_cases c33_0 : l1 = 0
      · rw [if_pos c33_0] at hh
        refine rw_swin E (v := 0) (tgt := 80) dX12_now_33 c33_0 (by decide) (by decide) rfl (by decide) ?_
        refine rw_aload_n E (j0 := 0) rfl rfl dX12_now_80 ?_
        refine rw_getP E hh (C := RX12) (T := TX12) (N := 32) rfl (by decide) i_X12_now_12 (by decide) rfl (List.mem_of_getElem? (i := 4) (by decide +kernel)) rfl dX12_now_81 (fun v6 hh => ?_)
        refine rw_iconst E (v := 4) (by decide) dX12_now_84 ?_
        refine rw_iald E hh dX12_now_85 (fun v7 hh => ?_)
        exact rw_iret E hrt hlk hh (by decide) (by decide) dX12_now_86
      · rw [if_neg c33_0] at hh
        by_cases c33_1 : l1 = 1
        · rw [if_pos c33_1] at hh
          refine rw_swin E (v := 1) (tgt := 87) dX12_now_33 c33_1 (by decide) (by decide) rfl (by decide) ?_
          refine rw_aload_n E (j0 := 0) rfl rfl dX12_now_87 ?_
          refine rw_getP E hh (C := RX12) (T := TX12) (N := 32) rfl (by decide) i_X12_now_12 (by decide) rfl (List.mem_of_getElem? (i := 4) (by decide +kernel)) rfl dX12_now_88 (fun v8 hh => ?_)
          refine rw_iconst E (v := 5) (by decide) dX12_now_91 ?_
          refine rw_iald E hh dX12_now_92 (fun v9 hh => ?_)
          exact rw_iret E hrt hlk hh (by decide) (by decide) dX12_now_93
        · rw [if_neg c33_1] at hh
          by_cases c33_2 : l1 = 2
          · rw [if_pos c33_2] at hh
            refine rw_swin E (v := 2) (tgt := 94) dX12_now_33 c33_2 (by decide) (by decide) rfl (by decide) ?_
            refine rw_aload_n E (j0 := 0) rfl rfl dX12_now_94 ?_
            refine rw_getP E hh (C := RX12) (T := TX12) (N := 32) rfl (by decide) i_X12_now_12 (by decide) rfl (List.mem_of_getElem? (i := 4) (by decide +kernel)) rfl dX12_now_95 (fun v10 hh => ?_)
            refine rw_bipush E (v := 6) (by decide) dX12_now_98 ?_
            refine rw_iald E hh dX12_now_100 (fun v11 hh => ?_)
            exact rw_iret E hrt hlk hh (by decide) (by decide) dX12_now_101
          · rw [if_neg c33_2] at hh
            by_cases c33_3 : l1 = 3
            · rw [if_pos c33_3] at hh
              refine rw_swin E (v := 3) (tgt := 102) dX12_now_33 c33_3 (by decide) (by decide) rfl (by decide) ?_
              refine rw_aload_n E (j0 := 0) rfl rfl dX12_now_102 ?_
              refine rw_getP E hh (C := RX12) (T := TX12) (N := 32) rfl (by decide) i_X12_now_12 (by decide) rfl (List.mem_of_getElem? (i := 4) (by decide +kernel)) rfl dX12_now_103 (fun v12 hh => ?_)
              refine rw_bipush E (v := 7) (by decide) dX12_now_106 ?_
              refine rw_iald E hh dX12_now_108 (fun v13 hh => ?_)
              exact rw_iret E hrt hlk hh (by decide) (by decide) dX12_now_109
            · rw [if_neg c33_3] at hh
              by_cases c33_4 : l1 = 4
              · rw [if_pos c33_4] at hh
                refine rw_swin E (v := 4) (tgt := 110) dX12_now_33 c33_4 (by decide) (by decide) rfl (by decide) ?_
                refine rw_aload_n E (j0 := 0) rfl rfl dX12_now_110 ?_
                refine rw_cVi E (As := []) hh (by decide) rfl (fun _ _ _ hq => c_X12_shortNow l b0 G _ _ _ _ hq) (cwV 0 E.2.2.2.2.1 gX12_now_X12_shortNow rfl rfl rfl (by decide +kernel) ⟨Nat.le_of_ble_eq_true rfl, Nat.le_of_ble_eq_true rfl⟩) rfl rfl (by (try simp only [List.map_cons, List.map_nil, List.sum_cons, List.sum_nil, hrf_cat, cat_i, cat_l, cat_r]) <;> decide) ⟨Nat.le_of_ble_eq_true rfl, Nat.le_of_ble_eq_true rfl⟩ dX12_now_111 (fun v15 S14 hh => ?_)
                exact rw_iret E hrt hlk hh (by decide) (by decide) dX12_now_114
              · rw [if_neg c33_4] at hh
                by_cases c33_5 : l1 = 5
                · rw [if_pos c33_5] at hh
                  refine rw_swin E (v := 5) (tgt := 115) dX12_now_33 c33_5 (by decide) (by decide) rfl (by decide) ?_
                  refine rw_aload_n E (j0 := 0) rfl rfl dX12_now_115 ?_
                  refine rw_getP E hh (C := RX12) (T := TX12) (N := 32) rfl (by decide) i_X12_now_12 (by decide) rfl (List.mem_of_getElem? (i := 4) (by decide +kernel)) rfl dX12_now_116 (fun v17 hh => ?_)
                  refine rw_bipush E (v := 8) (by decide) dX12_now_119 ?_
                  refine rw_iald E hh dX12_now_121 (fun v18 hh => ?_)
                  exact rw_iret E hrt hlk hh (by decide) (by decide) dX12_now_122
                · rw [if_neg c33_5] at hh
                  by_cases c33_6 : l1 = 6
                  · rw [if_pos c33_6] at hh
                    refine rw_swin E (v := 6) (tgt := 123) dX12_now_33 c33_6 (by decide) (by decide) rfl (by decide) ?_
                    refine rw_aload_n E (j0 := 0) rfl rfl dX12_now_123 ?_
                    refine rw_getP E hh (C := RX12) (T := TX12) (N := 32) rfl (by decide) i_X12_now_12 (by decide) rfl (List.mem_of_getElem? (i := 4) (by decide +kernel)) rfl dX12_now_124 (fun v19 hh => ?_)
                    refine rw_bipush E (v := 9) (by decide) dX12_now_127 ?_
                    refine rw_iald E hh dX12_now_129 (fun v20 hh => ?_)
                    exact rw_iret E hrt hlk hh (by decide) (by decide) dX12_now_130
                  · rw [if_neg c33_6] at hh
                    by_cases c33_7 : l1 = 7
                    · rw [if_pos c33_7] at hh
                      refine rw_swin E (v := 7) (tgt := 131) dX12_now_33 c33_7 (by decide) (by decide) rfl (by decide) ?_
                      refine rw_aload_n E (j0 := 0) rfl rfl dX12_now_131 ?_
                      refine rw_getP E hh (C := RX12) (T := TX12) (N := 32) rfl (by decide) i_X12_now_12 (by decide) rfl (List.mem_of_getElem? (i := 4) (by decide +kernel)) rfl dX12_now_132 (fun v21 hh => ?_)
                      refine rw_iconst E (v := 5) (by decide) dX12_now_135 ?_
                      refine rw_iald E hh dX12_now_136 (fun v22 hh => ?_)
                      refine rw_cSi E (As := [.int v22]) hh (fun _ _ hq => c_X12_size l b0 G _ _ _ _ hq) (va_cwS 1 E.2.2.2.2.1 gX12_now_X12_size rfl rfl rfl (by decide +kernel) ⟨Nat.le_of_ble_eq_true rfl, Nat.le_of_ble_eq_true rfl⟩) rfl rfl (by (try simp only [List.map_cons, List.map_nil, List.sum_cons, List.sum_nil, hrf_cat, cat_i, cat_l, cat_r]) <;> decide) ⟨Nat.le_of_ble_eq_true rfl, Nat.le_of_ble_eq_true rfl⟩ dX12_now_137 (fun v24 S23 hh => ?_)
                      refine rw_aload_n E (j0 := 0) rfl rfl dX12_now_140 ?_
                      refine rw_aload_n E (j0 := 0) rfl rfl dX12_now_141 ?_
                      refine rw_getP E hh (C := RX12) (T := TX12) (N := 32) rfl (by decide) i_X12_now_12 (by decide) rfl (List.mem_of_getElem? (i := 4) (by decide +kernel)) rfl dX12_now_142 (fun v25 hh => ?_)
                      refine rw_iconst E (v := 1) (by decide) dX12_now_145 ?_
                      refine rw_iald E hh dX12_now_146 (fun v26 hh => ?_)
                      refine rw_iconst E (v := 2) (by decide) dX12_now_147 ?_
                      refine rw_cVi E (As := [.int v26, .int 2]) hh (by decide) rfl (fun _ _ _ hq => c_X12_discOf l b0 G _ _ _ _ _ _ hq) (cwV 2 E.2.2.2.2.1 gX12_now_X12_discOf rfl rfl rfl (by decide +kernel) ⟨Nat.le_of_ble_eq_true rfl, Nat.le_of_ble_eq_true rfl⟩) rfl rfl (by (try simp only [List.map_cons, List.map_nil, List.sum_cons, List.sum_nil, hrf_cat, cat_i, cat_l, cat_r]) <;> decide) ⟨Nat.le_of_ble_eq_true rfl, Nat.le_of_ble_eq_true rfl⟩ dX12_now_148 (fun v28 S27 hh => ?_)
                      refine rw_imul E dX12_now_151 ?_
                      exact rw_iret E hrt hlk hh (by decide) (by decide) dX12_now_152
                    · rw [if_neg c33_7] at hh
                      have n0 := lv_neT c33_0 (a := 0) rfl
                      have n1 := lv_neT c33_1 (a := 1) rfl
                      have n2 := lv_neT c33_2 (a := 2) rfl
                      have n3 := lv_neT c33_3 (a := 3) rfl
                      have n4 := lv_neT c33_4 (a := 4) rfl
                      have n5 := lv_neT c33_5 (a := 5) rfl
                      have n6 := lv_neT c33_6 (a := 6) rfl
                      have n7 := lv_neT c33_7 (a := 7) rfl
                      refine rw_swout E (tgt := 153) dX12_now_33 (by omega) (by decide) ?_
                      refine rw_aload_n E (j0 := 0) rfl rfl dX12_now_153 ?_
                      refine rw_getP E hh (C := RX12) (T := TX12) (N := 32) rfl (by decide) i_X12_now_12 (by decide) rfl (List.mem_of_getElem? (i := 4) (by decide +kernel)) rfl dX12_now_154 (fun v30 hh => ?_)
                      refine rw_bipush E (v := 10) (by decide) dX12_now_157 ?_
                      refine rw_iald E hh dX12_now_159 (fun v31 hh => ?_)
                      exact rw_iret E hrt hlk hh (by decide) (by decide) dX12_now_160
    · refine rw_ldc E (v := (-1000002)) (List.mem_of_getElem? (i := 5) (by decide +kernel)) dX12_now_29 ?_
      exact rw_iret E hrt hlk hh (by decide) (by decide) dX12_now_31
  · refine rw_ldc E (v := (-1000001)) (List.mem_of_getElem? (i := 3) (by decide +kernel)) dX12_now_17 ?_
    exact rw_iret E hrt hlk hh (by decide) (by decide) dX12_now_19

/-! HummingDiscModel.isAsked(IIIII)Z -/
abbrev rm_X12_isAsked : Room := { frames := 2, cells := 0, slots := 0, locals := 46 }
def s_X12_isAsked (S : HS) (h : Nat) (l1 : Int32) (l2 : Int32) (l3 : Int32) (l4 : Int32) (l5 : Int32) : Option (Int32 × HS) := kO S ((some h)) 12 (fun a3 => kc (s_X12_isDisc S a3 l1) (fun v2 S1 => if v2 = 0 then (kzr 0 S1) else (kO S1 ((some h)) 12 (fun a6 => kc (s_X12_isThread S1 a6 l2) (fun v5 S4 => if v5 = 0 then (kzr 0 S4) else (kO S4 ((some h)) 12 (fun a9 => kc (s_X12_threadOf S4 a9 l2 2) (fun v8 S7 => kc (s_X12_in S7 l3.toInt64 1 v8.toInt64) (fun v11 S10 => if v11 = 0 then (kzr 0 S10) else (kc (s_X12_in S10 l4.toInt64 0 99) (fun v13 S12 => if v13 = 0 then (kzr 0 S12) else (kc (s_X12_in S12 l5.toInt64 1 300) (fun v15 S14 => if v15 = 0 then (kzr 0 S14) else (kzr 1 S14))))))))))))))
set_option maxHeartbeats 4000000 in
set_option maxRecDepth 100000 in
theorem c_X12_isAsked (l : Launch) (b0 : Nat) (G : hG) (S S1 : HS) (h : Nat) (l1 : Int32) (l2 : Int32) (l3 : Int32) (l4 : Int32) (l5 : Int32) (r : Int32) (hh : s_X12_isAsked S h l1 l2 l3 l4 l5 = some (r, S1)) : MH l yX12_isAsked wsX12_isAsked rm_X12_isAsked b0 G S [hrf b0 (some h), .int l1, .int l2, .int l3, .int l4, .int l5] (some (.int r)) S1 0 0 := by
  refine MH.ofW (cc := cX12_isAsked) (maxL := 6) (ret := (some .boolean)) (own := RX12) (lv0 := [(0, hrf b0 ((some h))), (1, .int l1), (2, .int l2), (3, .int l3), (4, .int l4), (5, .int l5)]) (by decide) rfl rfl (Nat.le_of_ble_eq_true rfl) rfl ?_
  intro p e s m args below meth c E hrt hlk hnm
  have hh : (kO S ((some h)) 12 (fun a3 => kc (s_X12_isDisc S a3 l1) (fun v2 S1 => if v2 = 0 then (kzr 0 S1) else (kO S1 ((some h)) 12 (fun a6 => kc (s_X12_isThread S1 a6 l2) (fun v5 S4 => if v5 = 0 then (kzr 0 S4) else (kO S4 ((some h)) 12 (fun a9 => kc (s_X12_threadOf S4 a9 l2 2) (fun v8 S7 => kc (s_X12_in S7 l3.toInt64 1 v8.toInt64) (fun v11 S10 => if v11 = 0 then (kzr 0 S10) else (kc (s_X12_in S10 l4.toInt64 0 99) (fun v13 S12 => if v13 = 0 then (kzr 0 S12) else (kc (s_X12_in S12 l5.toInt64 1 300) (fun v15 S14 => if v15 = 0 then (kzr 0 S14) else (kzr 1 S14))))))))))))))) = some (r, S1) := hh
  refine rw_aload_n E (j0 := 0) rfl rfl dX12_isAsked_0 ?_
  refine rw_iload_n E (j0 := 1) rfl rfl dX12_isAsked_1 ?_
  refine rw_cVi E (As := [.int l1]) hh (by decide) rfl (fun _ _ _ hq => c_X12_isDisc l b0 G _ _ _ _ _ hq) (cwV 1 E.2.2.2.2.1 gX12_isAsked_X12_isDisc rfl rfl rfl (by decide +kernel) ⟨Nat.le_of_ble_eq_true rfl, Nat.le_of_ble_eq_true rfl⟩) rfl rfl (by (try simp only [List.map_cons, List.map_nil, List.sum_cons, List.sum_nil, hrf_cat, cat_i, cat_l, cat_r]) <;> decide) ⟨Nat.le_of_ble_eq_true rfl, Nat.le_of_ble_eq_true rfl⟩ dX12_isAsked_2 (fun v2 S1 hh => ?_)
  refine rw_if_eq E hh (tgt := 62) (by decide) dX12_isAsked_5 (fun hh => ?_) (fun hh => ?_)
  · refine rw_iconst E (v := 0) (by decide) dX12_isAsked_62 ?_
    exact rw_zret E hrt hlk hh (by decide) (by decide) dX12_isAsked_63
  · refine rw_aload_n E (j0 := 0) rfl rfl dX12_isAsked_8 ?_
    refine rw_iload_n E (j0 := 2) rfl rfl dX12_isAsked_9 ?_
    refine rw_cVi E (As := [.int l2]) hh (by decide) rfl (fun _ _ _ hq => c_X12_isThread l b0 G _ _ _ _ _ hq) (cwV 1 E.2.2.2.2.1 gX12_isAsked_X12_isThread rfl rfl rfl (by decide +kernel) ⟨Nat.le_of_ble_eq_true rfl, Nat.le_of_ble_eq_true rfl⟩) rfl rfl (by (try simp only [List.map_cons, List.map_nil, List.sum_cons, List.sum_nil, hrf_cat, cat_i, cat_l, cat_r]) <;> decide) ⟨Nat.le_of_ble_eq_true rfl, Nat.le_of_ble_eq_true rfl⟩ dX12_isAsked_10 (fun v5 S4 hh => ?_)
    refine rw_if_eq E hh (tgt := 62) (by decide) dX12_isAsked_13 (fun hh => ?_) (fun hh => ?_)
    · refine rw_iconst E (v := 0) (by decide) dX12_isAsked_62 ?_
      exact rw_zret E hrt hlk hh (by decide) (by decide) dX12_isAsked_63
    · refine rw_iload_n E (j0 := 3) rfl rfl dX12_isAsked_16 ?_
      refine rw_i2l E dX12_isAsked_17 ?_
      refine rw_lconst E (v := 1) (by decide) dX12_isAsked_18 ?_
      refine rw_aload_n E (j0 := 0) rfl rfl dX12_isAsked_19 ?_
      refine rw_iload_n E (j0 := 2) rfl rfl dX12_isAsked_20 ?_
      refine rw_iconst E (v := 2) (by decide) dX12_isAsked_21 ?_
      refine rw_cVi E (As := [.int l2, .int 2]) hh (by decide) rfl (fun _ _ _ hq => c_X12_threadOf l b0 G _ _ _ _ _ _ hq) (cwV 2 E.2.2.2.2.1 gX12_isAsked_X12_threadOf rfl rfl rfl (by decide +kernel) ⟨Nat.le_of_ble_eq_true rfl, Nat.le_of_ble_eq_true rfl⟩) rfl rfl (by (try simp only [List.map_cons, List.map_nil, List.sum_cons, List.sum_nil, hrf_cat, cat_i, cat_l, cat_r]) <;> decide) ⟨Nat.le_of_ble_eq_true rfl, Nat.le_of_ble_eq_true rfl⟩ dX12_isAsked_22 (fun v8 S7 hh => ?_)
      refine rw_i2l E dX12_isAsked_25 ?_
      refine rw_cSi E (As := [.long l3.toInt64, .long 1, .long v8.toInt64]) hh (fun _ _ hq => c_X12_in l b0 G _ _ _ _ _ _ hq) (va_cwS 3 E.2.2.2.2.1 gX12_isAsked_X12_in rfl rfl rfl (by decide +kernel) ⟨Nat.le_of_ble_eq_true rfl, Nat.le_of_ble_eq_true rfl⟩) rfl rfl (by (try simp only [List.map_cons, List.map_nil, List.sum_cons, List.sum_nil, hrf_cat, cat_i, cat_l, cat_r]) <;> decide) ⟨Nat.le_of_ble_eq_true rfl, Nat.le_of_ble_eq_true rfl⟩ dX12_isAsked_26 (fun v11 S10 hh => ?_)
      refine rw_if_eq E hh (tgt := 62) (by decide) dX12_isAsked_29 (fun hh => ?_) (fun hh => ?_)
      · refine rw_iconst E (v := 0) (by decide) dX12_isAsked_62 ?_
        exact rw_zret E hrt hlk hh (by decide) (by decide) dX12_isAsked_63
      · refine rw_iload E (j0 := 4) rfl dX12_isAsked_32 ?_
        refine rw_i2l E dX12_isAsked_34 ?_
        refine rw_lconst E (v := 0) (by decide) dX12_isAsked_35 ?_
        refine rw_ldc2 E (v := 99) (List.mem_of_getElem? (i := 1) (by decide +kernel)) dX12_isAsked_36 ?_
        refine rw_cSi E (As := [.long l4.toInt64, .long 0, .long 99]) hh (fun _ _ hq => c_X12_in l b0 G _ _ _ _ _ _ hq) (va_cwS 3 E.2.2.2.2.1 gX12_isAsked_X12_in rfl rfl rfl (by decide +kernel) ⟨Nat.le_of_ble_eq_true rfl, Nat.le_of_ble_eq_true rfl⟩) rfl rfl (by (try simp only [List.map_cons, List.map_nil, List.sum_cons, List.sum_nil, hrf_cat, cat_i, cat_l, cat_r]) <;> decide) ⟨Nat.le_of_ble_eq_true rfl, Nat.le_of_ble_eq_true rfl⟩ dX12_isAsked_39 (fun v13 S12 hh => ?_)
        refine rw_if_eq E hh (tgt := 62) (by decide) dX12_isAsked_42 (fun hh => ?_) (fun hh => ?_)
        · refine rw_iconst E (v := 0) (by decide) dX12_isAsked_62 ?_
          exact rw_zret E hrt hlk hh (by decide) (by decide) dX12_isAsked_63
        · refine rw_iload E (j0 := 5) rfl dX12_isAsked_45 ?_
          refine rw_i2l E dX12_isAsked_47 ?_
          refine rw_lconst E (v := 1) (by decide) dX12_isAsked_48 ?_
          refine rw_ldc2 E (v := 300) (List.mem_of_getElem? (i := 2) (by decide +kernel)) dX12_isAsked_49 ?_
          refine rw_cSi E (As := [.long l5.toInt64, .long 1, .long 300]) hh (fun _ _ hq => c_X12_in l b0 G _ _ _ _ _ _ hq) (va_cwS 3 E.2.2.2.2.1 gX12_isAsked_X12_in rfl rfl rfl (by decide +kernel) ⟨Nat.le_of_ble_eq_true rfl, Nat.le_of_ble_eq_true rfl⟩) rfl rfl (by (try simp only [List.map_cons, List.map_nil, List.sum_cons, List.sum_nil, hrf_cat, cat_i, cat_l, cat_r]) <;> decide) ⟨Nat.le_of_ble_eq_true rfl, Nat.le_of_ble_eq_true rfl⟩ dX12_isAsked_52 (fun v15 S14 hh => ?_)
          refine rw_if_eq E hh (tgt := 62) (by decide) dX12_isAsked_55 (fun hh => ?_) (fun hh => ?_)
          · refine rw_iconst E (v := 0) (by decide) dX12_isAsked_62 ?_
            exact rw_zret E hrt hlk hh (by decide) (by decide) dX12_isAsked_63
          · refine rw_iconst E (v := 1) (by decide) dX12_isAsked_58 ?_
            refine rw_goto E (tgt := 63) (by decide) dX12_isAsked_59 ?_
            exact rw_zret E hrt hlk hh (by decide) (by decide) dX12_isAsked_63

/-! HummingDiscModel.runGreatest(IIIIII)I -/
abbrev rm_X12_runGreatest : Room := { frames := 5, cells := 0, slots := 0, locals := 120 }
theorem i_X12_runGreatest_12 : ∀ w ∈ wsX120, w ∈ wsX12_runGreatest := fun _ h => List.mem_cons_of_mem _ (List.mem_append_right _ (h))
def s_X12_runGreatest_b75 (j11 : HS → Int32 → Int32 → Int32 → Int32 → Int32 → Int32 → Int32 → Option (Int32 × HS)) (h : Nat) (S : HS) (l1 : Int32) (l2 : Int32) (l4 : Int32) (l5 : Int32) (l6 : Int32) (l8 : Int32) (k0 : Int32) : Option (Int32 × HS) := j11 S l1 l2 l4 l5 l6 k0 (l8 + 1)
set_option maxHeartbeats 4000000 in
set_option maxRecDepth 100000 in
theorem w_X12_runGreatest_b75 {p : Program} {l : Launch} {e : Env} {s : State} {m : MethodId} {args : Array Value} {below : List Frame} {meth : Method} {c : Code} {b0 : Nat} {G : hG} {S1 : HS} {r : Int32} {j11 : HS → Int32 → Int32 → Int32 → Int32 → Int32 → Int32 → Int32 → Option (Int32 × HS)} {h : Nat} {S : HS} {l1 : Int32} {l2 : Int32} {l4 : Int32} {l5 : Int32} {l6 : Int32} {l8 : Int32} {k0 : Int32} (E : hE p s m args c b0 G cX12_runGreatest RX12 9 wsX12_runGreatest) (hrt : meth.sig.returnType = (some .int)) (hlk : meth.locks = false) (hj11 : ∀ (S : HS) (l1 : Int32) (l2 : Int32) (l4 : Int32) (l5 : Int32) (l6 : Int32) (l7 : Int32) (l8 : Int32), j11 S l1 l2 l4 l5 l6 l7 l8 = some (r, S1) → WH p l e rm_X12_runGreatest s m args below meth c b0 G 9 0 0 (MQ below (hQ b0 G (some (.int r)) S1) args s 0 0 (hA b0)) S 11 [(0, hrf b0 ((some h))), (1, .int l1), (2, .int l2), (4, .int l4), (5, .int l5), (6, .int l6), (7, .int l7), (8, .int l8)] []) (hh : s_X12_runGreatest_b75 j11 h S l1 l2 l4 l5 l6 l8 k0 = some (r, S1)) : WH p l e rm_X12_runGreatest s m args below meth c b0 G 9 0 0 (MQ below (hQ b0 G (some (.int r)) S1) args s 0 0 (hA b0)) S 75 [(0, hrf b0 ((some h))), (1, .int l1), (2, .int l2), (4, .int l4), (5, .int l5), (6, .int l6), (8, .int l8)] [.int k0] := by
  have hh : (j11 S l1 l2 l4 l5 l6 k0 (l8 + 1)) = some (r, S1) := hh
  refine rw_istore E (lv2 := [(7, .int k0), (0, hrf b0 ((some h))), (1, .int l1), (2, .int l2), (4, .int l4), (5, .int l5), (6, .int l6), (8, .int l8)]) (by decide) rfl dX12_runGreatest_75 ?_
  refine rw_iinc E (v := l8 + 1) (lv2 := [(8, .int (l8 + 1)), (7, .int k0), (0, hrf b0 ((some h))), (1, .int l1), (2, .int l2), (4, .int l4), (5, .int l5), (6, .int l6)]) (j0 := 7) rfl rfl (by decide) rfl dX12_runGreatest_77 ?_
  refine rw_goto E (tgt := 11) (by decide) dX12_runGreatest_80 ?_
  refine WH.pick [2, 3, 4, 5, 6, 7, 1, 0] rfl ?_
  exact hj11 _ _ _ _ _ _ _ _ hh
def s_X12_runGreatest_b53 (j11 : HS → Int32 → Int32 → Int32 → Int32 → Int32 → Int32 → Int32 → Option (Int32 × HS)) (h : Nat) (S : HS) (l1 : Int32) (l2 : Int32) (l4 : Int32) (l5 : Int32) (l6 : Int32) (l7 : Int32) (l8 : Int32) (k0 : Option Nat) (k1 : Int32) (k2 : Int32) (k3 : Int32) : Option (Int32 × HS) := kO S k0 12 (fun a2 => kcv (s_X12_tick S a2 k1 k2 k3 0) (fun S1 => kI S1 ((some h)) 12 22 (fun v3 => if v3 ≤ l7 then (s_X12_runGreatest_b75 j11 h S1 l1 l2 l4 l5 l6 l8 l7) else (kI S1 ((some h)) 12 22 (fun v4 => s_X12_runGreatest_b75 j11 h S1 l1 l2 l4 l5 l6 l8 v4)))))
set_option maxHeartbeats 4000000 in
set_option maxRecDepth 100000 in
theorem w_X12_runGreatest_b53 {p : Program} {l : Launch} {e : Env} {s : State} {m : MethodId} {args : Array Value} {below : List Frame} {meth : Method} {c : Code} {b0 : Nat} {G : hG} {S1 : HS} {r : Int32} {j11 : HS → Int32 → Int32 → Int32 → Int32 → Int32 → Int32 → Int32 → Option (Int32 × HS)} {h : Nat} {S : HS} {l1 : Int32} {l2 : Int32} {l4 : Int32} {l5 : Int32} {l6 : Int32} {l7 : Int32} {l8 : Int32} {k0 : Option Nat} {k1 : Int32} {k2 : Int32} {k3 : Int32} (E : hE p s m args c b0 G cX12_runGreatest RX12 9 wsX12_runGreatest) (hrt : meth.sig.returnType = (some .int)) (hlk : meth.locks = false) (hj11 : ∀ (S : HS) (l1 : Int32) (l2 : Int32) (l4 : Int32) (l5 : Int32) (l6 : Int32) (l7 : Int32) (l8 : Int32), j11 S l1 l2 l4 l5 l6 l7 l8 = some (r, S1) → WH p l e rm_X12_runGreatest s m args below meth c b0 G 9 0 0 (MQ below (hQ b0 G (some (.int r)) S1) args s 0 0 (hA b0)) S 11 [(0, hrf b0 ((some h))), (1, .int l1), (2, .int l2), (4, .int l4), (5, .int l5), (6, .int l6), (7, .int l7), (8, .int l8)] []) (hh : s_X12_runGreatest_b53 j11 h S l1 l2 l4 l5 l6 l7 l8 k0 k1 k2 k3 = some (r, S1)) : WH p l e rm_X12_runGreatest s m args below meth c b0 G 9 0 0 (MQ below (hQ b0 G (some (.int r)) S1) args s 0 0 (hA b0)) S 53 [(0, hrf b0 ((some h))), (1, .int l1), (2, .int l2), (4, .int l4), (5, .int l5), (6, .int l6), (7, .int l7), (8, .int l8)] [.int k3, .int k2, .int k1, hrf b0 k0] := by
  have hh : (kO S k0 12 (fun a2 => kcv (s_X12_tick S a2 k1 k2 k3 0) (fun S1 => kI S1 ((some h)) 12 22 (fun v3 => if v3 ≤ l7 then (s_X12_runGreatest_b75 j11 h S1 l1 l2 l4 l5 l6 l8 l7) else (kI S1 ((some h)) 12 22 (fun v4 => s_X12_runGreatest_b75 j11 h S1 l1 l2 l4 l5 l6 l8 v4)))))) = some (r, S1) := hh
  refine rw_iconst E (v := 0) (by decide) dX12_runGreatest_53 ?_
  refine rw_cVv E (As := [.int k1, .int k2, .int k3, .int 0]) hh (by decide) rfl (fun _ _ hq => c_X12_tick l b0 G _ _ _ _ _ _ _ hq) (cwV 4 E.2.2.2.2.1 gX12_runGreatest_X12_tick rfl rfl rfl (by decide +kernel) ⟨Nat.le_of_ble_eq_true rfl, Nat.le_of_ble_eq_true rfl⟩) rfl rfl (by (try simp only [List.map_cons, List.map_nil, List.sum_cons, List.sum_nil, hrf_cat, cat_i, cat_l, cat_r]) <;> decide) ⟨Nat.le_of_ble_eq_true rfl, Nat.le_of_ble_eq_true rfl⟩ dX12_runGreatest_54 (fun S1 hh => ?_)
  refine rw_aload_n E (j0 := 0) rfl rfl dX12_runGreatest_57 ?_
  refine rw_getI E hh (C := RX12) (T := TX12) (N := 32) rfl (by decide) i_X12_runGreatest_12 (by decide) rfl (List.mem_of_getElem? (i := 3) (by decide +kernel)) rfl dX12_runGreatest_58 (fun v3 hh => ?_)
  refine rw_iload E (j0 := 6) rfl dX12_runGreatest_61 ?_
  refine rw_icmp_le E hh (tgt := 73) (by decide) dX12_runGreatest_63 (fun hh => ?_) (fun hh => ?_)
  · refine rw_iload E (j0 := 6) rfl dX12_runGreatest_73 ?_
    refine WH.pick [0, 1, 2, 3, 4, 5, 7] rfl ?_
    exact w_X12_runGreatest_b75 E hrt hlk hj11 hh
  · refine rw_aload_n E (j0 := 0) rfl rfl dX12_runGreatest_66 ?_
    refine rw_getI E hh (C := RX12) (T := TX12) (N := 32) rfl (by decide) i_X12_runGreatest_12 (by decide) rfl (List.mem_of_getElem? (i := 3) (by decide +kernel)) rfl dX12_runGreatest_67 (fun v4 hh => ?_)
    refine rw_goto E (tgt := 75) (by decide) dX12_runGreatest_70 ?_
    refine WH.pick [0, 1, 2, 3, 4, 5, 7] rfl ?_
    exact w_X12_runGreatest_b75 E hrt hlk hj11 hh
def s_X12_runGreatest_b52 (j11 : HS → Int32 → Int32 → Int32 → Int32 → Int32 → Int32 → Int32 → Option (Int32 × HS)) (h : Nat) (S : HS) (l1 : Int32) (l2 : Int32) (l4 : Int32) (l5 : Int32) (l6 : Int32) (l7 : Int32) (l8 : Int32) (k0 : Option Nat) (k1 : Int32) (k2 : Int32) : Option (Int32 × HS) := s_X12_runGreatest_b53 j11 h S l1 l2 l4 l5 l6 l7 l8 k0 k1 k2 0
set_option maxHeartbeats 4000000 in
set_option maxRecDepth 100000 in
theorem w_X12_runGreatest_b52 {p : Program} {l : Launch} {e : Env} {s : State} {m : MethodId} {args : Array Value} {below : List Frame} {meth : Method} {c : Code} {b0 : Nat} {G : hG} {S1 : HS} {r : Int32} {j11 : HS → Int32 → Int32 → Int32 → Int32 → Int32 → Int32 → Int32 → Option (Int32 × HS)} {h : Nat} {S : HS} {l1 : Int32} {l2 : Int32} {l4 : Int32} {l5 : Int32} {l6 : Int32} {l7 : Int32} {l8 : Int32} {k0 : Option Nat} {k1 : Int32} {k2 : Int32} (E : hE p s m args c b0 G cX12_runGreatest RX12 9 wsX12_runGreatest) (hrt : meth.sig.returnType = (some .int)) (hlk : meth.locks = false) (hj11 : ∀ (S : HS) (l1 : Int32) (l2 : Int32) (l4 : Int32) (l5 : Int32) (l6 : Int32) (l7 : Int32) (l8 : Int32), j11 S l1 l2 l4 l5 l6 l7 l8 = some (r, S1) → WH p l e rm_X12_runGreatest s m args below meth c b0 G 9 0 0 (MQ below (hQ b0 G (some (.int r)) S1) args s 0 0 (hA b0)) S 11 [(0, hrf b0 ((some h))), (1, .int l1), (2, .int l2), (4, .int l4), (5, .int l5), (6, .int l6), (7, .int l7), (8, .int l8)] []) (hh : s_X12_runGreatest_b52 j11 h S l1 l2 l4 l5 l6 l7 l8 k0 k1 k2 = some (r, S1)) : WH p l e rm_X12_runGreatest s m args below meth c b0 G 9 0 0 (MQ below (hQ b0 G (some (.int r)) S1) args s 0 0 (hA b0)) S 52 [(0, hrf b0 ((some h))), (1, .int l1), (2, .int l2), (4, .int l4), (5, .int l5), (6, .int l6), (7, .int l7), (8, .int l8)] [.int k2, .int k1, hrf b0 k0] := by
  have hh : (s_X12_runGreatest_b53 j11 h S l1 l2 l4 l5 l6 l7 l8 k0 k1 k2 0) = some (r, S1) := hh
  refine rw_iconst E (v := 0) (by decide) dX12_runGreatest_52 ?_
  refine WH.pick [0, 1, 2, 3, 4, 5, 6, 7] rfl ?_
  exact w_X12_runGreatest_b53 E hrt hlk hj11 hh
def s_X12_runGreatest_b11 (j11 : HS → Int32 → Int32 → Int32 → Int32 → Int32 → Int32 → Int32 → Option (Int32 × HS)) (h : Nat) (S : HS) (l1 : Int32) (l2 : Int32) (l4 : Int32) (l5 : Int32) (l6 : Int32) (l7 : Int32) (l8 : Int32) : Option (Int32 × HS) := if l5 ≤ l8 then (some (l7, S)) else (kI S ((some h)) 12 21 (fun v1 => if v1 = 0 then (kO S ((some h)) 12 (fun a4 => kc (s_X12_unwinds S a4 ) (fun v3 S2 => if v3 = 0 then (s_X12_runGreatest_b52 j11 h S2 l1 l2 l4 l5 l6 l7 l8 ((some h)) l1 l2) else (kI S2 ((some h)) 12 19 (fun v5 => kc (s_X12_size S2 v5) (fun v7 S6 => if v7 < l6 then (s_X12_runGreatest_b52 j11 h S6 l1 l2 l4 l5 l6 l7 l8 ((some h)) l1 l2) else (s_X12_runGreatest_b53 j11 h S6 l1 l2 l4 l5 l6 l7 l8 ((some h)) l1 l2 l4))))))) else (some (l7, S))))
set_option maxHeartbeats 4000000 in
set_option maxRecDepth 100000 in
theorem w_X12_runGreatest_b11 {p : Program} {l : Launch} {e : Env} {s : State} {m : MethodId} {args : Array Value} {below : List Frame} {meth : Method} {c : Code} {b0 : Nat} {G : hG} {S1 : HS} {r : Int32} {j11 : HS → Int32 → Int32 → Int32 → Int32 → Int32 → Int32 → Int32 → Option (Int32 × HS)} {h : Nat} {S : HS} {l1 : Int32} {l2 : Int32} {l4 : Int32} {l5 : Int32} {l6 : Int32} {l7 : Int32} {l8 : Int32} (E : hE p s m args c b0 G cX12_runGreatest RX12 9 wsX12_runGreatest) (hrt : meth.sig.returnType = (some .int)) (hlk : meth.locks = false) (hj11 : ∀ (S : HS) (l1 : Int32) (l2 : Int32) (l4 : Int32) (l5 : Int32) (l6 : Int32) (l7 : Int32) (l8 : Int32), j11 S l1 l2 l4 l5 l6 l7 l8 = some (r, S1) → WH p l e rm_X12_runGreatest s m args below meth c b0 G 9 0 0 (MQ below (hQ b0 G (some (.int r)) S1) args s 0 0 (hA b0)) S 11 [(0, hrf b0 ((some h))), (1, .int l1), (2, .int l2), (4, .int l4), (5, .int l5), (6, .int l6), (7, .int l7), (8, .int l8)] []) (hh : s_X12_runGreatest_b11 j11 h S l1 l2 l4 l5 l6 l7 l8 = some (r, S1)) : WH p l e rm_X12_runGreatest s m args below meth c b0 G 9 0 0 (MQ below (hQ b0 G (some (.int r)) S1) args s 0 0 (hA b0)) S 11 [(0, hrf b0 ((some h))), (1, .int l1), (2, .int l2), (4, .int l4), (5, .int l5), (6, .int l6), (7, .int l7), (8, .int l8)] [] := by
  have hh : (if l5 ≤ l8 then (some (l7, S)) else (kI S ((some h)) 12 21 (fun v1 => if v1 = 0 then (kO S ((some h)) 12 (fun a4 => kc (s_X12_unwinds S a4 ) (fun v3 S2 => if v3 = 0 then (s_X12_runGreatest_b52 j11 h S2 l1 l2 l4 l5 l6 l7 l8 ((some h)) l1 l2) else (kI S2 ((some h)) 12 19 (fun v5 => kc (s_X12_size S2 v5) (fun v7 S6 => if v7 < l6 then (s_X12_runGreatest_b52 j11 h S6 l1 l2 l4 l5 l6 l7 l8 ((some h)) l1 l2) else (s_X12_runGreatest_b53 j11 h S6 l1 l2 l4 l5 l6 l7 l8 ((some h)) l1 l2 l4))))))) else (some (l7, S))))) = some (r, S1) := hh
  refine rw_iload E (j0 := 7) rfl dX12_runGreatest_11 ?_
  refine rw_iload E (j0 := 4) rfl dX12_runGreatest_13 ?_
  refine rw_icmp_ge E hh (tgt := 83) (by decide) dX12_runGreatest_15 (fun hh => ?_) (fun hh => ?_)
  · refine rw_iload E (j0 := 6) rfl dX12_runGreatest_83 ?_
    exact rw_iret E hrt hlk hh (by decide) (by decide) dX12_runGreatest_85
  · refine rw_aload_n E (j0 := 0) rfl rfl dX12_runGreatest_18 ?_
    refine rw_getI E hh (C := RX12) (T := TX12) (N := 32) rfl (by decide) i_X12_runGreatest_12 (by decide) rfl (List.mem_of_getElem? (i := 1) (by decide +kernel)) rfl dX12_runGreatest_19 (fun v1 hh => ?_)
    refine rw_if_ne E hh (tgt := 83) (by decide) dX12_runGreatest_22 (fun hh => ?_) (fun hh => ?_)
    · refine rw_iload E (j0 := 6) rfl dX12_runGreatest_83 ?_
      exact rw_iret E hrt hlk hh (by decide) (by decide) dX12_runGreatest_85
    · refine rw_aload_n E (j0 := 0) rfl rfl dX12_runGreatest_25 ?_
      refine rw_iload_n E (j0 := 1) rfl rfl dX12_runGreatest_26 ?_
      refine rw_iload_n E (j0 := 2) rfl rfl dX12_runGreatest_27 ?_
      refine rw_aload_n E (j0 := 0) rfl rfl dX12_runGreatest_28 ?_
      refine rw_cVi E (As := []) hh (by decide) rfl (fun _ _ _ hq => c_X12_unwinds l b0 G _ _ _ _ hq) (cwV 0 E.2.2.2.2.1 gX12_runGreatest_X12_unwinds rfl rfl rfl (by decide +kernel) ⟨Nat.le_of_ble_eq_true rfl, Nat.le_of_ble_eq_true rfl⟩) rfl rfl (by (try simp only [List.map_cons, List.map_nil, List.sum_cons, List.sum_nil, hrf_cat, cat_i, cat_l, cat_r]) <;> decide) ⟨Nat.le_of_ble_eq_true rfl, Nat.le_of_ble_eq_true rfl⟩ dX12_runGreatest_29 (fun v3 S2 hh => ?_)
      refine rw_if_eq E hh (tgt := 52) (by decide) dX12_runGreatest_32 (fun hh => ?_) (fun hh => ?_)
      · refine WH.pick [0, 1, 2, 3, 4, 5, 6, 7] rfl ?_
        exact w_X12_runGreatest_b52 E hrt hlk hj11 hh
      · refine rw_aload_n E (j0 := 0) rfl rfl dX12_runGreatest_35 ?_
        refine rw_getI E hh (C := RX12) (T := TX12) (N := 32) rfl (by decide) i_X12_runGreatest_12 (by decide) rfl (List.mem_of_getElem? (i := 2) (by decide +kernel)) rfl dX12_runGreatest_36 (fun v5 hh => ?_)
        refine rw_cSi E (As := [.int v5]) hh (fun _ _ hq => c_X12_size l b0 G _ _ _ _ hq) (va_cwS 1 E.2.2.2.2.1 gX12_runGreatest_X12_size rfl rfl rfl (by decide +kernel) ⟨Nat.le_of_ble_eq_true rfl, Nat.le_of_ble_eq_true rfl⟩) rfl rfl (by (try simp only [List.map_cons, List.map_nil, List.sum_cons, List.sum_nil, hrf_cat, cat_i, cat_l, cat_r]) <;> decide) ⟨Nat.le_of_ble_eq_true rfl, Nat.le_of_ble_eq_true rfl⟩ dX12_runGreatest_39 (fun v7 S6 hh => ?_)
        refine rw_iload E (j0 := 5) rfl dX12_runGreatest_42 ?_
        refine rw_icmp_lt E hh (tgt := 52) (by decide) dX12_runGreatest_44 (fun hh => ?_) (fun hh => ?_)
        · refine WH.pick [0, 1, 2, 3, 4, 5, 6, 7] rfl ?_
          exact w_X12_runGreatest_b52 E hrt hlk hj11 hh
        · refine rw_iload E (j0 := 3) rfl dX12_runGreatest_47 ?_
          refine rw_goto E (tgt := 53) (by decide) dX12_runGreatest_49 ?_
          refine WH.pick [0, 1, 2, 3, 4, 5, 6, 7] rfl ?_
          exact w_X12_runGreatest_b53 E hrt hlk hj11 hh
def s_X12_runGreatest_L11 (h : Nat) : Nat → HS → Int32 → Int32 → Int32 → Int32 → Int32 → Int32 → Int32 → Option (Int32 × HS)
  | 0 => fun _ _ _ _ _ _ _ _ => none
  | n + 1 => s_X12_runGreatest_b11 (s_X12_runGreatest_L11 h n) h
set_option maxHeartbeats 4000000 in
set_option maxRecDepth 100000 in
theorem w_X12_runGreatest_L11 {p : Program} {l : Launch} {e : Env} {s : State} {m : MethodId} {args : Array Value} {below : List Frame} {meth : Method} {c : Code} {b0 : Nat} {G : hG} {S1 : HS} {r : Int32} {h : Nat} (E : hE p s m args c b0 G cX12_runGreatest RX12 9 wsX12_runGreatest) (hrt : meth.sig.returnType = (some .int)) (hlk : meth.locks = false) : ∀ (n : Nat) (S : HS) (l1 : Int32) (l2 : Int32) (l4 : Int32) (l5 : Int32) (l6 : Int32) (l7 : Int32) (l8 : Int32), s_X12_runGreatest_L11 h n S l1 l2 l4 l5 l6 l7 l8 = some (r, S1) → WH p l e rm_X12_runGreatest s m args below meth c b0 G 9 0 0 (MQ below (hQ b0 G (some (.int r)) S1) args s 0 0 (hA b0)) S 11 [(0, hrf b0 ((some h))), (1, .int l1), (2, .int l2), (4, .int l4), (5, .int l5), (6, .int l6), (7, .int l7), (8, .int l8)] [] := by
  intro n
  induction n with
  | zero => intro _ _ _ _ _ _ _ _ hh; exact absurd hh (by simp [s_X12_runGreatest_L11])
  | succ n ih => intro _ _ _ _ _ _ _ _ hh; exact w_X12_runGreatest_b11 E hrt hlk  ih hh
def s_X12_runGreatest (S : HS) (h : Nat) (l1 : Int32) (l2 : Int32) (l3 : Int32) (l4 : Int32) (l5 : Int32) (l6 : Int32) : Option (Int32 × HS) := kO S ((some h)) 12 (fun a2 => kcv (s_X12_rest S a2 l3) (fun S1 => s_X12_runGreatest_L11 h 100000 S1 l1 l2 l4 l5 l6 0 0))
set_option maxHeartbeats 4000000 in
set_option maxRecDepth 100000 in
theorem c_X12_runGreatest (l : Launch) (b0 : Nat) (G : hG) (S S1 : HS) (h : Nat) (l1 : Int32) (l2 : Int32) (l3 : Int32) (l4 : Int32) (l5 : Int32) (l6 : Int32) (r : Int32) (hh : s_X12_runGreatest S h l1 l2 l3 l4 l5 l6 = some (r, S1)) : MH l yX12_runGreatest wsX12_runGreatest rm_X12_runGreatest b0 G S [hrf b0 (some h), .int l1, .int l2, .int l3, .int l4, .int l5, .int l6] (some (.int r)) S1 0 0 := by
  refine MH.ofW (cc := cX12_runGreatest) (maxL := 9) (ret := (some .int)) (own := RX12) (lv0 := [(0, hrf b0 ((some h))), (1, .int l1), (2, .int l2), (3, .int l3), (4, .int l4), (5, .int l5), (6, .int l6)]) (by decide) rfl rfl (Nat.le_of_ble_eq_true rfl) rfl ?_
  intro p e s m args below meth c E hrt hlk hnm
  have hh : (kO S ((some h)) 12 (fun a2 => kcv (s_X12_rest S a2 l3) (fun S1 => s_X12_runGreatest_L11 h 100000 S1 l1 l2 l4 l5 l6 0 0))) = some (r, S1) := hh
  refine rw_aload_n E (j0 := 0) rfl rfl dX12_runGreatest_0 ?_
  refine rw_iload_n E (j0 := 3) rfl rfl dX12_runGreatest_1 ?_
  refine rw_cVv E (As := [.int l3]) hh (by decide) rfl (fun _ _ hq => c_X12_rest l b0 G _ _ _ _ hq) (cwV 1 E.2.2.2.2.1 gX12_runGreatest_X12_rest rfl rfl rfl (by decide +kernel) ⟨Nat.le_of_ble_eq_true rfl, Nat.le_of_ble_eq_true rfl⟩) rfl rfl (by (try simp only [List.map_cons, List.map_nil, List.sum_cons, List.sum_nil, hrf_cat, cat_i, cat_l, cat_r]) <;> decide) ⟨Nat.le_of_ble_eq_true rfl, Nat.le_of_ble_eq_true rfl⟩ dX12_runGreatest_2 (fun S1 hh => ?_)
  refine rw_iconst E (v := 0) (by decide) dX12_runGreatest_5 ?_
  refine rw_istore E (lv2 := [(7, .int 0), (0, hrf b0 ((some h))), (1, .int l1), (2, .int l2), (3, .int l3), (4, .int l4), (5, .int l5), (6, .int l6)]) (by decide) rfl dX12_runGreatest_6 ?_
  refine rw_iconst E (v := 0) (by decide) dX12_runGreatest_8 ?_
  refine rw_istore E (lv2 := [(8, .int 0), (7, .int 0), (0, hrf b0 ((some h))), (1, .int l1), (2, .int l2), (3, .int l3), (4, .int l4), (5, .int l5), (6, .int l6)]) (by decide) rfl dX12_runGreatest_9 ?_
  refine WH.pick [2, 3, 4, 6, 7, 8, 1, 0] rfl ?_
  exact w_X12_runGreatest_L11 E hrt hlk 100000 _ _ _ _ _ _ _ _ hh

/-! HummingDiscModel.greatest(IIIIII)I -/
abbrev rm_X12_greatest : Room := { frames := 6, cells := 0, slots := 0, locals := 148 }
theorem i_X12_greatest_12 : ∀ w ∈ wsX120, w ∈ wsX12_greatest := fun _ h => List.mem_cons_of_mem _ (List.mem_append_right _ (h))
def s_X12_greatest (S : HS) (h : Nat) (l1 : Int32) (l2 : Int32) (l3 : Int32) (l4 : Int32) (l5 : Int32) (l6 : Int32) : Option (Int32 × HS) := kwI S ((some h)) 12 0 0 (fun S1 => kO S1 ((some h)) 12 (fun a4 => kc (s_X12_isAsked S1 a4 l1 l2 l3 l4 l5) (fun v3 S2 => if v3 = 0 then (some ((-1000001), S2)) else (kc (s_X12_in S2 l6.toInt64 0 1) (fun v6 S5 => if v6 = 0 then (some ((-1000001), S5)) else (kO S5 ((some h)) 12 (fun a9 => kc (s_X12_runGreatest S5 a9 l1 l2 l3 l4 l5 0) (fun v8 S7 => if l6 = 0 then (some (v8, S7)) else (kI S7 ((some h)) 12 21 (fun v10 => if v10 = 0 then (some (0, S7)) else (some (1, S7))))))))))))
set_option maxHeartbeats 4000000 in
set_option maxRecDepth 100000 in
theorem c_X12_greatest (l : Launch) (b0 : Nat) (G : hG) (S S1 : HS) (h : Nat) (l1 : Int32) (l2 : Int32) (l3 : Int32) (l4 : Int32) (l5 : Int32) (l6 : Int32) (r : Int32) (hh : s_X12_greatest S h l1 l2 l3 l4 l5 l6 = some (r, S1)) : MH l yX12_greatest wsX12_greatest rm_X12_greatest b0 G S [hrf b0 (some h), .int l1, .int l2, .int l3, .int l4, .int l5, .int l6] (some (.int r)) S1 0 0 := by
  refine MH.ofW (cc := cX12_greatest) (maxL := 8) (ret := (some .int)) (own := RX12) (lv0 := [(0, hrf b0 ((some h))), (1, .int l1), (2, .int l2), (3, .int l3), (4, .int l4), (5, .int l5), (6, .int l6)]) (by decide) rfl rfl (Nat.le_of_ble_eq_true rfl) rfl ?_
  intro p e s m args below meth c E hrt hlk hnm
  have hh : (kwI S ((some h)) 12 0 0 (fun S1 => kO S1 ((some h)) 12 (fun a4 => kc (s_X12_isAsked S1 a4 l1 l2 l3 l4 l5) (fun v3 S2 => if v3 = 0 then (some ((-1000001), S2)) else (kc (s_X12_in S2 l6.toInt64 0 1) (fun v6 S5 => if v6 = 0 then (some ((-1000001), S5)) else (kO S5 ((some h)) 12 (fun a9 => kc (s_X12_runGreatest S5 a9 l1 l2 l3 l4 l5 0) (fun v8 S7 => if l6 = 0 then (some (v8, S7)) else (kI S7 ((some h)) 12 21 (fun v10 => if v10 = 0 then (some (0, S7)) else (some (1, S7))))))))))))) = some (r, S1) := hh
  refine rw_aload_n E (j0 := 0) rfl rfl dX12_greatest_0 ?_
  refine rw_iconst E (v := 0) (by decide) dX12_greatest_1 ?_
  refine rw_putI E hh (C := RX12) (T := TX12) (N := 32) (ty0 := tyX12) rfl tyX12_ok nmX12 (by decide) i_X12_greatest_12 (by decide) rfl (List.mem_of_getElem? (i := 1) (by decide +kernel)) rfl (Or.inl rfl) rfl dX12_greatest_2 (fun S1 hh => ?_)
  refine rw_aload_n E (j0 := 0) rfl rfl dX12_greatest_5 ?_
  refine rw_iload_n E (j0 := 1) rfl rfl dX12_greatest_6 ?_
  refine rw_iload_n E (j0 := 2) rfl rfl dX12_greatest_7 ?_
  refine rw_iload_n E (j0 := 3) rfl rfl dX12_greatest_8 ?_
  refine rw_iload E (j0 := 4) rfl dX12_greatest_9 ?_
  refine rw_iload E (j0 := 5) rfl dX12_greatest_11 ?_
  refine rw_cVi E (As := [.int l1, .int l2, .int l3, .int l4, .int l5]) hh (by decide) rfl (fun _ _ _ hq => c_X12_isAsked l b0 G _ _ _ _ _ _ _ _ _ hq) (cwV 5 E.2.2.2.2.1 gX12_greatest_X12_isAsked rfl rfl rfl (by decide +kernel) ⟨Nat.le_of_ble_eq_true rfl, Nat.le_of_ble_eq_true rfl⟩) rfl rfl (by (try simp only [List.map_cons, List.map_nil, List.sum_cons, List.sum_nil, hrf_cat, cat_i, cat_l, cat_r]) <;> decide) ⟨Nat.le_of_ble_eq_true rfl, Nat.le_of_ble_eq_true rfl⟩ dX12_greatest_13 (fun v3 S2 hh => ?_)
  refine rw_if_eq E hh (tgt := 30) (by decide) dX12_greatest_16 (fun hh => ?_) (fun hh => ?_)
  · refine rw_ldc E (v := (-1000001)) (List.mem_of_getElem? (i := 2) (by decide +kernel)) dX12_greatest_30 ?_
    exact rw_iret E hrt hlk hh (by decide) (by decide) dX12_greatest_32
  · refine rw_iload E (j0 := 6) rfl dX12_greatest_19 ?_
    refine rw_i2l E dX12_greatest_21 ?_
    refine rw_lconst E (v := 0) (by decide) dX12_greatest_22 ?_
    refine rw_lconst E (v := 1) (by decide) dX12_greatest_23 ?_
    refine rw_cSi E (As := [.long l6.toInt64, .long 0, .long 1]) hh (fun _ _ hq => c_X12_in l b0 G _ _ _ _ _ _ hq) (va_cwS 3 E.2.2.2.2.1 gX12_greatest_X12_in rfl rfl rfl (by decide +kernel) ⟨Nat.le_of_ble_eq_true rfl, Nat.le_of_ble_eq_true rfl⟩) rfl rfl (by (try simp only [List.map_cons, List.map_nil, List.sum_cons, List.sum_nil, hrf_cat, cat_i, cat_l, cat_r]) <;> decide) ⟨Nat.le_of_ble_eq_true rfl, Nat.le_of_ble_eq_true rfl⟩ dX12_greatest_24 (fun v6 S5 hh => ?_)
    refine rw_if_ne E hh (tgt := 33) (by decide) dX12_greatest_27 (fun hh => ?_) (fun hh => ?_)
    · refine rw_aload_n E (j0 := 0) rfl rfl dX12_greatest_33 ?_
      refine rw_iload_n E (j0 := 1) rfl rfl dX12_greatest_34 ?_
      refine rw_iload_n E (j0 := 2) rfl rfl dX12_greatest_35 ?_
      refine rw_iload_n E (j0 := 3) rfl rfl dX12_greatest_36 ?_
      refine rw_iload E (j0 := 4) rfl dX12_greatest_37 ?_
      refine rw_iload E (j0 := 5) rfl dX12_greatest_39 ?_
      refine rw_iconst E (v := 0) (by decide) dX12_greatest_41 ?_
      refine rw_cVi E (As := [.int l1, .int l2, .int l3, .int l4, .int l5, .int 0]) hh (by decide) rfl (fun _ _ _ hq => c_X12_runGreatest l b0 G _ _ _ _ _ _ _ _ _ _ hq) (cwV 6 E.2.2.2.2.1 gX12_greatest_X12_runGreatest rfl rfl rfl (by decide +kernel) ⟨Nat.le_of_ble_eq_true rfl, Nat.le_of_ble_eq_true rfl⟩) rfl rfl (by (try simp only [List.map_cons, List.map_nil, List.sum_cons, List.sum_nil, hrf_cat, cat_i, cat_l, cat_r]) <;> decide) ⟨Nat.le_of_ble_eq_true rfl, Nat.le_of_ble_eq_true rfl⟩ dX12_greatest_42 (fun v8 S7 hh => ?_)
      refine rw_istore E (lv2 := [(7, .int v8), (0, hrf b0 ((some h))), (1, .int l1), (2, .int l2), (3, .int l3), (4, .int l4), (5, .int l5), (6, .int l6)]) (by decide) rfl dX12_greatest_45 ?_
      refine rw_iload E (j0 := 7) rfl dX12_greatest_47 ?_
      refine rw_if_ne E hh (tgt := 57) (by decide) dX12_greatest_49 (fun hh => ?_) (fun hh => ?_)
      · refine rw_aload_n E (j0 := 1) rfl rfl dX12_greatest_57 ?_
        refine rw_getI E hh (C := RX12) (T := TX12) (N := 32) rfl (by decide) i_X12_greatest_12 (by decide) rfl (List.mem_of_getElem? (i := 3) (by decide +kernel)) rfl dX12_greatest_58 (fun v10 hh => ?_)
        refine rw_if_eq E hh (tgt := 68) (by decide) dX12_greatest_61 (fun hh => ?_) (fun hh => ?_)
        · refine rw_iconst E (v := 0) (by decide) dX12_greatest_68 ?_
          exact rw_iret E hrt hlk hh (by decide) (by decide) dX12_greatest_69
        · refine rw_iconst E (v := 1) (by decide) dX12_greatest_64 ?_
          refine rw_goto E (tgt := 69) (by decide) dX12_greatest_65 ?_
          exact rw_iret E hrt hlk hh (by decide) (by decide) dX12_greatest_69
      · refine rw_iload E (j0 := 0) rfl dX12_greatest_52 ?_
        refine rw_goto E (tgt := 69) (by decide) dX12_greatest_54 ?_
        exact rw_iret E hrt hlk hh (by decide) (by decide) dX12_greatest_69
    · refine rw_ldc E (v := (-1000001)) (List.mem_of_getElem? (i := 2) (by decide +kernel)) dX12_greatest_30 ?_
      exact rw_iret E hrt hlk hh (by decide) (by decide) dX12_greatest_32

/-! HummingDiscModel.best(III)I -/
abbrev rm_X12_best : Room := { frames := 6, cells := 0, slots := 0, locals := 148 }
theorem i_X12_best_12 : ∀ w ∈ wsX120, w ∈ wsX12_best := fun _ h => List.mem_cons_of_mem _ (List.mem_append_right _ (h))
def s_X12_best_b152 (j64 : HS → Int32 → Int32 → Int32 → Int32 → Int32 → Int32 → Option (Int32 × HS)) (j78 : HS → Int32 → Int32 → Int32 → Int32 → Int32 → Int32 → Int32 → Option (Int32 × HS)) (h : Nat) (S : HS) (l1 : Int32) (l2 : Int32) (l3 : Int32) (l4 : Int32) (l5 : Int32) (l6 : Int32) (l7 : Int32) : Option (Int32 × HS) := j78 S l1 l2 l3 l4 l5 l6 (l7 + 1)
set_option maxHeartbeats 4000000 in
set_option maxRecDepth 100000 in
theorem w_X12_best_b152 {p : Program} {l : Launch} {e : Env} {s : State} {m : MethodId} {args : Array Value} {below : List Frame} {meth : Method} {c : Code} {b0 : Nat} {G : hG} {S1 : HS} {r : Int32} {j64 : HS → Int32 → Int32 → Int32 → Int32 → Int32 → Int32 → Option (Int32 × HS)} {j78 : HS → Int32 → Int32 → Int32 → Int32 → Int32 → Int32 → Int32 → Option (Int32 × HS)} {h : Nat} {S : HS} {l1 : Int32} {l2 : Int32} {l3 : Int32} {l4 : Int32} {l5 : Int32} {l6 : Int32} {l7 : Int32} (E : hE p s m args c b0 G cX12_best RX12 9 wsX12_best) (hrt : meth.sig.returnType = (some .int)) (hlk : meth.locks = false) (hj64 : ∀ (S : HS) (l1 : Int32) (l2 : Int32) (l3 : Int32) (l4 : Int32) (l5 : Int32) (l6 : Int32), j64 S l1 l2 l3 l4 l5 l6 = some (r, S1) → WH p l e rm_X12_best s m args below meth c b0 G 9 0 0 (MQ below (hQ b0 G (some (.int r)) S1) args s 0 0 (hA b0)) S 64 [(0, hrf b0 ((some h))), (1, .int l1), (2, .int l2), (3, .int l3), (4, .int l4), (5, .int l5), (6, .int l6)] []) (hj78 : ∀ (S : HS) (l1 : Int32) (l2 : Int32) (l3 : Int32) (l4 : Int32) (l5 : Int32) (l6 : Int32) (l7 : Int32), j78 S l1 l2 l3 l4 l5 l6 l7 = some (r, S1) → WH p l e rm_X12_best s m args below meth c b0 G 9 0 0 (MQ below (hQ b0 G (some (.int r)) S1) args s 0 0 (hA b0)) S 78 [(0, hrf b0 ((some h))), (1, .int l1), (2, .int l2), (3, .int l3), (4, .int l4), (5, .int l5), (6, .int l6), (7, .int l7)] []) (hh : s_X12_best_b152 j64 j78 h S l1 l2 l3 l4 l5 l6 l7 = some (r, S1)) : WH p l e rm_X12_best s m args below meth c b0 G 9 0 0 (MQ below (hQ b0 G (some (.int r)) S1) args s 0 0 (hA b0)) S 152 [(0, hrf b0 ((some h))), (1, .int l1), (2, .int l2), (3, .int l3), (4, .int l4), (5, .int l5), (6, .int l6), (7, .int l7)] [] := by
  have hh : (j78 S l1 l2 l3 l4 l5 l6 (l7 + 1)) = some (r, S1) := hh
  refine rw_iinc E (v := l7 + 1) (lv2 := [(7, .int (l7 + 1)), (0, hrf b0 ((some h))), (1, .int l1), (2, .int l2), (3, .int l3), (4, .int l4), (5, .int l5), (6, .int l6)]) (j0 := 7) rfl rfl (by decide) rfl dX12_best_152 ?_
  refine rw_goto E (tgt := 78) (by decide) dX12_best_155 ?_
  refine WH.pick [1, 2, 3, 4, 5, 6, 7, 0] rfl ?_
  exact hj78 _ _ _ _ _ _ _ _ hh
def s_X12_best_b116 (j64 : HS → Int32 → Int32 → Int32 → Int32 → Int32 → Int32 → Option (Int32 × HS)) (j78 : HS → Int32 → Int32 → Int32 → Int32 → Int32 → Int32 → Int32 → Option (Int32 × HS)) (h : Nat) (S : HS) (l1 : Int32) (l2 : Int32) (l3 : Int32) (l4 : Int32) (l5 : Int32) (l6 : Int32) (l7 : Int32) (k0 : Option Nat) (k1 : Int32) (k2 : Int32) (k3 : Int32) : Option (Int32 × HS) := kO S k0 12 (fun a3 => kc (s_X12_runGreatest S a3 k1 k2 k3 l2 l3 0) (fun v2 S1 => kI S1 ((some h)) 12 21 (fun v4 => if v4 = 0 then (if v2 ≤ l5 then (s_X12_best_b152 j64 j78 h S1 l1 l2 l3 l4 l5 l6 l7) else (s_X12_best_b152 j64 j78 h S1 l1 l2 l3 ((8 * l6) + l7) v2 l6 l7)) else (s_X12_best_b152 j64 j78 h S1 l1 l2 l3 l4 l5 l6 l7))))
set_option maxHeartbeats 4000000 in
set_option maxRecDepth 100000 in
theorem w_X12_best_b116 {p : Program} {l : Launch} {e : Env} {s : State} {m : MethodId} {args : Array Value} {below : List Frame} {meth : Method} {c : Code} {b0 : Nat} {G : hG} {S1 : HS} {r : Int32} {j64 : HS → Int32 → Int32 → Int32 → Int32 → Int32 → Int32 → Option (Int32 × HS)} {j78 : HS → Int32 → Int32 → Int32 → Int32 → Int32 → Int32 → Int32 → Option (Int32 × HS)} {h : Nat} {S : HS} {l1 : Int32} {l2 : Int32} {l3 : Int32} {l4 : Int32} {l5 : Int32} {l6 : Int32} {l7 : Int32} {k0 : Option Nat} {k1 : Int32} {k2 : Int32} {k3 : Int32} (E : hE p s m args c b0 G cX12_best RX12 9 wsX12_best) (hrt : meth.sig.returnType = (some .int)) (hlk : meth.locks = false) (hj64 : ∀ (S : HS) (l1 : Int32) (l2 : Int32) (l3 : Int32) (l4 : Int32) (l5 : Int32) (l6 : Int32), j64 S l1 l2 l3 l4 l5 l6 = some (r, S1) → WH p l e rm_X12_best s m args below meth c b0 G 9 0 0 (MQ below (hQ b0 G (some (.int r)) S1) args s 0 0 (hA b0)) S 64 [(0, hrf b0 ((some h))), (1, .int l1), (2, .int l2), (3, .int l3), (4, .int l4), (5, .int l5), (6, .int l6)] []) (hj78 : ∀ (S : HS) (l1 : Int32) (l2 : Int32) (l3 : Int32) (l4 : Int32) (l5 : Int32) (l6 : Int32) (l7 : Int32), j78 S l1 l2 l3 l4 l5 l6 l7 = some (r, S1) → WH p l e rm_X12_best s m args below meth c b0 G 9 0 0 (MQ below (hQ b0 G (some (.int r)) S1) args s 0 0 (hA b0)) S 78 [(0, hrf b0 ((some h))), (1, .int l1), (2, .int l2), (3, .int l3), (4, .int l4), (5, .int l5), (6, .int l6), (7, .int l7)] []) (hh : s_X12_best_b116 j64 j78 h S l1 l2 l3 l4 l5 l6 l7 k0 k1 k2 k3 = some (r, S1)) : WH p l e rm_X12_best s m args below meth c b0 G 9 0 0 (MQ below (hQ b0 G (some (.int r)) S1) args s 0 0 (hA b0)) S 116 [(0, hrf b0 ((some h))), (1, .int l1), (2, .int l2), (3, .int l3), (4, .int l4), (5, .int l5), (6, .int l6), (7, .int l7)] [.int k3, .int k2, .int k1, hrf b0 k0] := by
  have hh : (kO S k0 12 (fun a3 => kc (s_X12_runGreatest S a3 k1 k2 k3 l2 l3 0) (fun v2 S1 => kI S1 ((some h)) 12 21 (fun v4 => if v4 = 0 then (if v2 ≤ l5 then (s_X12_best_b152 j64 j78 h S1 l1 l2 l3 l4 l5 l6 l7) else (s_X12_best_b152 j64 j78 h S1 l1 l2 l3 ((8 * l6) + l7) v2 l6 l7)) else (s_X12_best_b152 j64 j78 h S1 l1 l2 l3 l4 l5 l6 l7))))) = some (r, S1) := hh
  refine rw_iload_n E (j0 := 2) rfl rfl dX12_best_116 ?_
  refine rw_iload_n E (j0 := 3) rfl rfl dX12_best_117 ?_
  refine rw_iconst E (v := 0) (by decide) dX12_best_118 ?_
  refine rw_cVi E (As := [.int k1, .int k2, .int k3, .int l2, .int l3, .int 0]) hh (by decide) rfl (fun _ _ _ hq => c_X12_runGreatest l b0 G _ _ _ _ _ _ _ _ _ _ hq) (cwV 6 E.2.2.2.2.1 gX12_best_X12_runGreatest rfl rfl rfl (by decide +kernel) ⟨Nat.le_of_ble_eq_true rfl, Nat.le_of_ble_eq_true rfl⟩) rfl rfl (by (try simp only [List.map_cons, List.map_nil, List.sum_cons, List.sum_nil, hrf_cat, cat_i, cat_l, cat_r]) <;> decide) ⟨Nat.le_of_ble_eq_true rfl, Nat.le_of_ble_eq_true rfl⟩ dX12_best_119 (fun v2 S1 hh => ?_)
  refine rw_istore E (lv2 := [(8, .int v2), (0, hrf b0 ((some h))), (1, .int l1), (2, .int l2), (3, .int l3), (4, .int l4), (5, .int l5), (6, .int l6), (7, .int l7)]) (by decide) rfl dX12_best_122 ?_
  refine rw_aload_n E (j0 := 1) rfl rfl dX12_best_124 ?_
  refine rw_getI E hh (C := RX12) (T := TX12) (N := 32) rfl (by decide) i_X12_best_12 (by decide) rfl (List.mem_of_getElem? (i := 10) (by decide +kernel)) rfl dX12_best_125 (fun v4 hh => ?_)
  refine rw_if_ne E hh (tgt := 152) (by decide) dX12_best_128 (fun hh => ?_) (fun hh => ?_)
  · refine WH.pick [1, 2, 3, 4, 5, 6, 7, 8] rfl ?_
    exact w_X12_best_b152 E hrt hlk hj64 hj78 hh
  · refine rw_iload E (j0 := 0) rfl dX12_best_131 ?_
    refine rw_iload E (j0 := 6) rfl dX12_best_133 ?_
    refine rw_icmp_le E hh (tgt := 152) (by decide) dX12_best_135 (fun hh => ?_) (fun hh => ?_)
    · refine WH.pick [1, 2, 3, 4, 5, 6, 7, 8] rfl ?_
      exact w_X12_best_b152 E hrt hlk hj64 hj78 hh
    · refine rw_bipush E (v := 8) (by decide) dX12_best_138 ?_
      refine rw_iload E (j0 := 7) rfl dX12_best_140 ?_
      refine rw_imul E dX12_best_142 ?_
      refine rw_iload E (j0 := 8) rfl dX12_best_143 ?_
      refine rw_iadd E dX12_best_145 ?_
      refine rw_istore E (lv2 := [(4, .int ((8 * l6) + l7)), (8, .int v2), (0, hrf b0 ((some h))), (1, .int l1), (2, .int l2), (3, .int l3), (5, .int l5), (6, .int l6), (7, .int l7)]) (by decide) rfl dX12_best_146 ?_
      refine rw_iload E (j0 := 1) rfl dX12_best_148 ?_
      refine rw_istore E (lv2 := [(5, .int v2), (4, .int ((8 * l6) + l7)), (8, .int v2), (0, hrf b0 ((some h))), (1, .int l1), (2, .int l2), (3, .int l3), (6, .int l6), (7, .int l7)]) (by decide) rfl dX12_best_150 ?_
      refine WH.pick [3, 4, 5, 6, 1, 0, 7, 8] rfl ?_
      exact w_X12_best_b152 E hrt hlk hj64 hj78 hh
def s_X12_best_b78 (j64 : HS → Int32 → Int32 → Int32 → Int32 → Int32 → Int32 → Option (Int32 × HS)) (j78 : HS → Int32 → Int32 → Int32 → Int32 → Int32 → Int32 → Int32 → Option (Int32 × HS)) (h : Nat) (S : HS) (l1 : Int32) (l2 : Int32) (l3 : Int32) (l4 : Int32) (l5 : Int32) (l6 : Int32) (l7 : Int32) : Option (Int32 × HS) := kP S ((some h)) 12 5 (fun v1 => kA S v1 14 1 (fun v2 => if v2 ≤ l7 then (j64 S l1 l2 l3 l4 l5 (l6 + 1)) else (kO S ((some h)) 12 (fun a5 => kc (s_X12_threadOf S a5 l7 2) (fun v4 S3 => if v4 ≤ l1 then (kO S3 ((some h)) 12 (fun a8 => kc (s_X12_threadOf S3 a8 l7 2) (fun v7 S6 => s_X12_best_b116 j64 j78 h S6 l1 l2 l3 l4 l5 l6 l7 ((some h)) l6 l7 v7))) else (s_X12_best_b116 j64 j78 h S3 l1 l2 l3 l4 l5 l6 l7 ((some h)) l6 l7 l1))))))
set_option maxHeartbeats 4000000 in
set_option maxRecDepth 100000 in
theorem w_X12_best_b78 {p : Program} {l : Launch} {e : Env} {s : State} {m : MethodId} {args : Array Value} {below : List Frame} {meth : Method} {c : Code} {b0 : Nat} {G : hG} {S1 : HS} {r : Int32} {j64 : HS → Int32 → Int32 → Int32 → Int32 → Int32 → Int32 → Option (Int32 × HS)} {j78 : HS → Int32 → Int32 → Int32 → Int32 → Int32 → Int32 → Int32 → Option (Int32 × HS)} {h : Nat} {S : HS} {l1 : Int32} {l2 : Int32} {l3 : Int32} {l4 : Int32} {l5 : Int32} {l6 : Int32} {l7 : Int32} (E : hE p s m args c b0 G cX12_best RX12 9 wsX12_best) (hrt : meth.sig.returnType = (some .int)) (hlk : meth.locks = false) (hj64 : ∀ (S : HS) (l1 : Int32) (l2 : Int32) (l3 : Int32) (l4 : Int32) (l5 : Int32) (l6 : Int32), j64 S l1 l2 l3 l4 l5 l6 = some (r, S1) → WH p l e rm_X12_best s m args below meth c b0 G 9 0 0 (MQ below (hQ b0 G (some (.int r)) S1) args s 0 0 (hA b0)) S 64 [(0, hrf b0 ((some h))), (1, .int l1), (2, .int l2), (3, .int l3), (4, .int l4), (5, .int l5), (6, .int l6)] []) (hj78 : ∀ (S : HS) (l1 : Int32) (l2 : Int32) (l3 : Int32) (l4 : Int32) (l5 : Int32) (l6 : Int32) (l7 : Int32), j78 S l1 l2 l3 l4 l5 l6 l7 = some (r, S1) → WH p l e rm_X12_best s m args below meth c b0 G 9 0 0 (MQ below (hQ b0 G (some (.int r)) S1) args s 0 0 (hA b0)) S 78 [(0, hrf b0 ((some h))), (1, .int l1), (2, .int l2), (3, .int l3), (4, .int l4), (5, .int l5), (6, .int l6), (7, .int l7)] []) (hh : s_X12_best_b78 j64 j78 h S l1 l2 l3 l4 l5 l6 l7 = some (r, S1)) : WH p l e rm_X12_best s m args below meth c b0 G 9 0 0 (MQ below (hQ b0 G (some (.int r)) S1) args s 0 0 (hA b0)) S 78 [(0, hrf b0 ((some h))), (1, .int l1), (2, .int l2), (3, .int l3), (4, .int l4), (5, .int l5), (6, .int l6), (7, .int l7)] [] := by
  have hh : (kP S ((some h)) 12 5 (fun v1 => kA S v1 14 1 (fun v2 => if v2 ≤ l7 then (j64 S l1 l2 l3 l4 l5 (l6 + 1)) else (kO S ((some h)) 12 (fun a5 => kc (s_X12_threadOf S a5 l7 2) (fun v4 S3 => if v4 ≤ l1 then (kO S3 ((some h)) 12 (fun a8 => kc (s_X12_threadOf S3 a8 l7 2) (fun v7 S6 => s_X12_best_b116 j64 j78 h S6 l1 l2 l3 l4 l5 l6 l7 ((some h)) l6 l7 v7))) else (s_X12_best_b116 j64 j78 h S3 l1 l2 l3 l4 l5 l6 l7 ((some h)) l6 l7 l1))))))) = some (r, S1) := hh
  refine rw_iload E (j0 := 7) rfl dX12_best_78 ?_
  refine rw_aload_n E (j0 := 0) rfl rfl dX12_best_80 ?_
  refine rw_getP E hh (C := RX12) (T := TX12) (N := 32) rfl (by decide) i_X12_best_12 (by decide) rfl (List.mem_of_getElem? (i := 9) (by decide +kernel)) rfl dX12_best_81 (fun v1 hh => ?_)
  refine rw_iconst E (v := 1) (by decide) dX12_best_84 ?_
  refine rw_iald E hh dX12_best_85 (fun v2 hh => ?_)
  refine rw_icmp_ge E hh (tgt := 158) (by decide) dX12_best_86 (fun hh => ?_) (fun hh => ?_)
  · refine rw_iinc E (v := l6 + 1) (lv2 := [(6, .int (l6 + 1)), (0, hrf b0 ((some h))), (1, .int l1), (2, .int l2), (3, .int l3), (4, .int l4), (5, .int l5), (7, .int l7)]) (j0 := 6) rfl rfl (by decide) rfl dX12_best_158 ?_
    refine rw_goto E (tgt := 64) (by decide) dX12_best_161 ?_
    refine WH.pick [1, 2, 3, 4, 5, 6, 0] rfl ?_
    exact hj64 _ _ _ _ _ _ _ hh
  · refine rw_aload_n E (j0 := 0) rfl rfl dX12_best_89 ?_
    refine rw_iload E (j0 := 6) rfl dX12_best_90 ?_
    refine rw_iload E (j0 := 7) rfl dX12_best_92 ?_
    refine rw_iload_n E (j0 := 1) rfl rfl dX12_best_94 ?_
    refine rw_aload_n E (j0 := 0) rfl rfl dX12_best_95 ?_
    refine rw_iload E (j0 := 7) rfl dX12_best_96 ?_
    refine rw_iconst E (v := 2) (by decide) dX12_best_98 ?_
    refine rw_cVi E (As := [.int l7, .int 2]) hh (by decide) rfl (fun _ _ _ hq => c_X12_threadOf l b0 G _ _ _ _ _ _ hq) (cwV 2 E.2.2.2.2.1 gX12_best_X12_threadOf rfl rfl rfl (by decide +kernel) ⟨Nat.le_of_ble_eq_true rfl, Nat.le_of_ble_eq_true rfl⟩) rfl rfl (by (try simp only [List.map_cons, List.map_nil, List.sum_cons, List.sum_nil, hrf_cat, cat_i, cat_l, cat_r]) <;> decide) ⟨Nat.le_of_ble_eq_true rfl, Nat.le_of_ble_eq_true rfl⟩ dX12_best_99 (fun v4 S3 hh => ?_)
    refine rw_icmp_ge E hh (tgt := 109) (by decide) dX12_best_102 (fun hh => ?_) (fun hh => ?_)
    · refine rw_aload_n E (j0 := 0) rfl rfl dX12_best_109 ?_
      refine rw_iload E (j0 := 7) rfl dX12_best_110 ?_
      refine rw_iconst E (v := 2) (by decide) dX12_best_112 ?_
      refine rw_cVi E (As := [.int l7, .int 2]) hh (by decide) rfl (fun _ _ _ hq => c_X12_threadOf l b0 G _ _ _ _ _ _ hq) (cwV 2 E.2.2.2.2.1 gX12_best_X12_threadOf rfl rfl rfl (by decide +kernel) ⟨Nat.le_of_ble_eq_true rfl, Nat.le_of_ble_eq_true rfl⟩) rfl rfl (by (try simp only [List.map_cons, List.map_nil, List.sum_cons, List.sum_nil, hrf_cat, cat_i, cat_l, cat_r]) <;> decide) ⟨Nat.le_of_ble_eq_true rfl, Nat.le_of_ble_eq_true rfl⟩ dX12_best_113 (fun v7 S6 hh => ?_)
      refine WH.pick [0, 1, 2, 3, 4, 5, 6, 7] rfl ?_
      exact w_X12_best_b116 E hrt hlk hj64 hj78 hh
    · refine rw_iload_n E (j0 := 1) rfl rfl dX12_best_105 ?_
      refine rw_goto E (tgt := 116) (by decide) dX12_best_106 ?_
      refine WH.pick [0, 1, 2, 3, 4, 5, 6, 7] rfl ?_
      exact w_X12_best_b116 E hrt hlk hj64 hj78 hh
def s_X12_best_L78 (j64 : HS → Int32 → Int32 → Int32 → Int32 → Int32 → Int32 → Option (Int32 × HS)) (h : Nat) : Nat → HS → Int32 → Int32 → Int32 → Int32 → Int32 → Int32 → Int32 → Option (Int32 × HS)
  | 0 => fun _ _ _ _ _ _ _ _ => none
  | n + 1 => s_X12_best_b78 j64 (s_X12_best_L78 j64 h n) h
set_option maxHeartbeats 4000000 in
set_option maxRecDepth 100000 in
theorem w_X12_best_L78 {p : Program} {l : Launch} {e : Env} {s : State} {m : MethodId} {args : Array Value} {below : List Frame} {meth : Method} {c : Code} {b0 : Nat} {G : hG} {S1 : HS} {r : Int32} {j64 : HS → Int32 → Int32 → Int32 → Int32 → Int32 → Int32 → Option (Int32 × HS)} {h : Nat} (E : hE p s m args c b0 G cX12_best RX12 9 wsX12_best) (hrt : meth.sig.returnType = (some .int)) (hlk : meth.locks = false) (hj64 : ∀ (S : HS) (l1 : Int32) (l2 : Int32) (l3 : Int32) (l4 : Int32) (l5 : Int32) (l6 : Int32), j64 S l1 l2 l3 l4 l5 l6 = some (r, S1) → WH p l e rm_X12_best s m args below meth c b0 G 9 0 0 (MQ below (hQ b0 G (some (.int r)) S1) args s 0 0 (hA b0)) S 64 [(0, hrf b0 ((some h))), (1, .int l1), (2, .int l2), (3, .int l3), (4, .int l4), (5, .int l5), (6, .int l6)] []) : ∀ (n : Nat) (S : HS) (l1 : Int32) (l2 : Int32) (l3 : Int32) (l4 : Int32) (l5 : Int32) (l6 : Int32) (l7 : Int32), s_X12_best_L78 j64 h n S l1 l2 l3 l4 l5 l6 l7 = some (r, S1) → WH p l e rm_X12_best s m args below meth c b0 G 9 0 0 (MQ below (hQ b0 G (some (.int r)) S1) args s 0 0 (hA b0)) S 78 [(0, hrf b0 ((some h))), (1, .int l1), (2, .int l2), (3, .int l3), (4, .int l4), (5, .int l5), (6, .int l6), (7, .int l7)] [] := by
  intro n
  induction n with
  | zero => intro _ _ _ _ _ _ _ _ hh; exact absurd hh (by simp [s_X12_best_L78])
  | succ n ih => intro _ _ _ _ _ _ _ _ hh; exact w_X12_best_b78 E hrt hlk hj64 ih hh
def s_X12_best_b64 (j64 : HS → Int32 → Int32 → Int32 → Int32 → Int32 → Int32 → Option (Int32 × HS)) (h : Nat) (S : HS) (l1 : Int32) (l2 : Int32) (l3 : Int32) (l4 : Int32) (l5 : Int32) (l6 : Int32) : Option (Int32 × HS) := kP S ((some h)) 12 5 (fun v1 => kA S v1 14 0 (fun v2 => if v2 ≤ l6 then (some (l4, S)) else (s_X12_best_L78 j64 h 100000 S l1 l2 l3 l4 l5 l6 0)))
set_option maxHeartbeats 4000000 in
set_option maxRecDepth 100000 in
theorem w_X12_best_b64 {p : Program} {l : Launch} {e : Env} {s : State} {m : MethodId} {args : Array Value} {below : List Frame} {meth : Method} {c : Code} {b0 : Nat} {G : hG} {S1 : HS} {r : Int32} {j64 : HS → Int32 → Int32 → Int32 → Int32 → Int32 → Int32 → Option (Int32 × HS)} {h : Nat} {S : HS} {l1 : Int32} {l2 : Int32} {l3 : Int32} {l4 : Int32} {l5 : Int32} {l6 : Int32} (E : hE p s m args c b0 G cX12_best RX12 9 wsX12_best) (hrt : meth.sig.returnType = (some .int)) (hlk : meth.locks = false) (hj64 : ∀ (S : HS) (l1 : Int32) (l2 : Int32) (l3 : Int32) (l4 : Int32) (l5 : Int32) (l6 : Int32), j64 S l1 l2 l3 l4 l5 l6 = some (r, S1) → WH p l e rm_X12_best s m args below meth c b0 G 9 0 0 (MQ below (hQ b0 G (some (.int r)) S1) args s 0 0 (hA b0)) S 64 [(0, hrf b0 ((some h))), (1, .int l1), (2, .int l2), (3, .int l3), (4, .int l4), (5, .int l5), (6, .int l6)] []) (hh : s_X12_best_b64 j64 h S l1 l2 l3 l4 l5 l6 = some (r, S1)) : WH p l e rm_X12_best s m args below meth c b0 G 9 0 0 (MQ below (hQ b0 G (some (.int r)) S1) args s 0 0 (hA b0)) S 64 [(0, hrf b0 ((some h))), (1, .int l1), (2, .int l2), (3, .int l3), (4, .int l4), (5, .int l5), (6, .int l6)] [] := by
  have hh : (kP S ((some h)) 12 5 (fun v1 => kA S v1 14 0 (fun v2 => if v2 ≤ l6 then (some (l4, S)) else (s_X12_best_L78 j64 h 100000 S l1 l2 l3 l4 l5 l6 0)))) = some (r, S1) := hh
  refine rw_iload E (j0 := 6) rfl dX12_best_64 ?_
  refine rw_aload_n E (j0 := 0) rfl rfl dX12_best_66 ?_
  refine rw_getP E hh (C := RX12) (T := TX12) (N := 32) rfl (by decide) i_X12_best_12 (by decide) rfl (List.mem_of_getElem? (i := 9) (by decide +kernel)) rfl dX12_best_67 (fun v1 hh => ?_)
  refine rw_iconst E (v := 0) (by decide) dX12_best_70 ?_
  refine rw_iald E hh dX12_best_71 (fun v2 hh => ?_)
  refine rw_icmp_ge E hh (tgt := 164) (by decide) dX12_best_72 (fun hh => ?_) (fun hh => ?_)
  · refine rw_iload E (j0 := 4) rfl dX12_best_164 ?_
    exact rw_iret E hrt hlk hh (by decide) (by decide) dX12_best_166
  · refine rw_iconst E (v := 0) (by decide) dX12_best_75 ?_
    refine rw_istore E (lv2 := [(7, .int 0), (0, hrf b0 ((some h))), (1, .int l1), (2, .int l2), (3, .int l3), (4, .int l4), (5, .int l5), (6, .int l6)]) (by decide) rfl dX12_best_76 ?_
    refine WH.pick [1, 2, 3, 4, 5, 6, 7, 0] rfl ?_
    exact w_X12_best_L78 E hrt hlk hj64 100000 _ _ _ _ _ _ _ _ hh
def s_X12_best_L64 (h : Nat) : Nat → HS → Int32 → Int32 → Int32 → Int32 → Int32 → Int32 → Option (Int32 × HS)
  | 0 => fun _ _ _ _ _ _ _ => none
  | n + 1 => s_X12_best_b64 (s_X12_best_L64 h n) h
set_option maxHeartbeats 4000000 in
set_option maxRecDepth 100000 in
theorem w_X12_best_L64 {p : Program} {l : Launch} {e : Env} {s : State} {m : MethodId} {args : Array Value} {below : List Frame} {meth : Method} {c : Code} {b0 : Nat} {G : hG} {S1 : HS} {r : Int32} {h : Nat} (E : hE p s m args c b0 G cX12_best RX12 9 wsX12_best) (hrt : meth.sig.returnType = (some .int)) (hlk : meth.locks = false) : ∀ (n : Nat) (S : HS) (l1 : Int32) (l2 : Int32) (l3 : Int32) (l4 : Int32) (l5 : Int32) (l6 : Int32), s_X12_best_L64 h n S l1 l2 l3 l4 l5 l6 = some (r, S1) → WH p l e rm_X12_best s m args below meth c b0 G 9 0 0 (MQ below (hQ b0 G (some (.int r)) S1) args s 0 0 (hA b0)) S 64 [(0, hrf b0 ((some h))), (1, .int l1), (2, .int l2), (3, .int l3), (4, .int l4), (5, .int l5), (6, .int l6)] [] := by
  intro n
  induction n with
  | zero => intro _ _ _ _ _ _ _ hh; exact absurd hh (by simp [s_X12_best_L64])
  | succ n ih => intro _ _ _ _ _ _ _ hh; exact w_X12_best_b64 E hrt hlk  ih hh
def s_X12_best (S : HS) (h : Nat) (l1 : Int32) (l2 : Int32) (l3 : Int32) : Option (Int32 × HS) := kwI S ((some h)) 12 0 0 (fun S1 => kI S1 ((some h)) 12 7 (fun v2 => if v2 = 0 then (some ((-1000002), S1)) else (kc (s_X12_in S1 l1.toInt64 1 800) (fun v4 S3 => if v4 = 0 then (some ((-1000001), S3)) else (kc (s_X12_in S3 l2.toInt64 0 99) (fun v6 S5 => if v6 = 0 then (some ((-1000001), S5)) else (kc (s_X12_in S5 l3.toInt64 1 300) (fun v8 S7 => if v8 = 0 then (some ((-1000001), S7)) else (s_X12_best_L64 h 100000 S7 l1 l2 l3 ((-1000000)) ((-1)) 0)))))))))
set_option maxHeartbeats 4000000 in
set_option maxRecDepth 100000 in
theorem c_X12_best (l : Launch) (b0 : Nat) (G : hG) (S S1 : HS) (h : Nat) (l1 : Int32) (l2 : Int32) (l3 : Int32) (r : Int32) (hh : s_X12_best S h l1 l2 l3 = some (r, S1)) : MH l yX12_best wsX12_best rm_X12_best b0 G S [hrf b0 (some h), .int l1, .int l2, .int l3] (some (.int r)) S1 0 0 := by
  refine MH.ofW (cc := cX12_best) (maxL := 9) (ret := (some .int)) (own := RX12) (lv0 := [(0, hrf b0 ((some h))), (1, .int l1), (2, .int l2), (3, .int l3)]) (by decide) rfl rfl (Nat.le_of_ble_eq_true rfl) rfl ?_
  intro p e s m args below meth c E hrt hlk hnm
  have hh : (kwI S ((some h)) 12 0 0 (fun S1 => kI S1 ((some h)) 12 7 (fun v2 => if v2 = 0 then (some ((-1000002), S1)) else (kc (s_X12_in S1 l1.toInt64 1 800) (fun v4 S3 => if v4 = 0 then (some ((-1000001), S3)) else (kc (s_X12_in S3 l2.toInt64 0 99) (fun v6 S5 => if v6 = 0 then (some ((-1000001), S5)) else (kc (s_X12_in S5 l3.toInt64 1 300) (fun v8 S7 => if v8 = 0 then (some ((-1000001), S7)) else (s_X12_best_L64 h 100000 S7 l1 l2 l3 ((-1000000)) ((-1)) 0)))))))))) = some (r, S1) := hh
  refine rw_aload_n E (j0 := 0) rfl rfl dX12_best_0 ?_
  refine rw_iconst E (v := 0) (by decide) dX12_best_1 ?_
  refine rw_putI E hh (C := RX12) (T := TX12) (N := 32) (ty0 := tyX12) rfl tyX12_ok nmX12 (by decide) i_X12_best_12 (by decide) rfl (List.mem_of_getElem? (i := 1) (by decide +kernel)) rfl (Or.inl rfl) rfl dX12_best_2 (fun S1 hh => ?_)
  refine rw_aload_n E (j0 := 0) rfl rfl dX12_best_5 ?_
  refine rw_getI E hh (C := RX12) (T := TX12) (N := 32) rfl (by decide) i_X12_best_12 (by decide) rfl (List.mem_of_getElem? (i := 2) (by decide +kernel)) rfl dX12_best_6 (fun v2 hh => ?_)
  refine rw_if_ne E hh (tgt := 15) (by decide) dX12_best_9 (fun hh => ?_) (fun hh => ?_)
  · refine rw_iload_n E (j0 := 1) rfl rfl dX12_best_15 ?_
    refine rw_i2l E dX12_best_16 ?_
    refine rw_lconst E (v := 1) (by decide) dX12_best_17 ?_
    refine rw_ldc2 E (v := 800) (List.mem_of_getElem? (i := 4) (by decide +kernel)) dX12_best_18 ?_
    refine rw_cSi E (As := [.long l1.toInt64, .long 1, .long 800]) hh (fun _ _ hq => c_X12_in l b0 G _ _ _ _ _ _ hq) (va_cwS 3 E.2.2.2.2.1 gX12_best_X12_in rfl rfl rfl (by decide +kernel) ⟨Nat.le_of_ble_eq_true rfl, Nat.le_of_ble_eq_true rfl⟩) rfl rfl (by (try simp only [List.map_cons, List.map_nil, List.sum_cons, List.sum_nil, hrf_cat, cat_i, cat_l, cat_r]) <;> decide) ⟨Nat.le_of_ble_eq_true rfl, Nat.le_of_ble_eq_true rfl⟩ dX12_best_21 (fun v4 S3 hh => ?_)
    refine rw_if_eq E hh (tgt := 51) (by decide) dX12_best_24 (fun hh => ?_) (fun hh => ?_)
    · refine rw_ldc E (v := (-1000001)) (List.mem_of_getElem? (i := 7) (by decide +kernel)) dX12_best_51 ?_
      exact rw_iret E hrt hlk hh (by decide) (by decide) dX12_best_53
    · refine rw_iload_n E (j0 := 2) rfl rfl dX12_best_27 ?_
      refine rw_i2l E dX12_best_28 ?_
      refine rw_lconst E (v := 0) (by decide) dX12_best_29 ?_
      refine rw_ldc2 E (v := 99) (List.mem_of_getElem? (i := 5) (by decide +kernel)) dX12_best_30 ?_
      refine rw_cSi E (As := [.long l2.toInt64, .long 0, .long 99]) hh (fun _ _ hq => c_X12_in l b0 G _ _ _ _ _ _ hq) (va_cwS 3 E.2.2.2.2.1 gX12_best_X12_in rfl rfl rfl (by decide +kernel) ⟨Nat.le_of_ble_eq_true rfl, Nat.le_of_ble_eq_true rfl⟩) rfl rfl (by (try simp only [List.map_cons, List.map_nil, List.sum_cons, List.sum_nil, hrf_cat, cat_i, cat_l, cat_r]) <;> decide) ⟨Nat.le_of_ble_eq_true rfl, Nat.le_of_ble_eq_true rfl⟩ dX12_best_33 (fun v6 S5 hh => ?_)
      refine rw_if_eq E hh (tgt := 51) (by decide) dX12_best_36 (fun hh => ?_) (fun hh => ?_)
      · refine rw_ldc E (v := (-1000001)) (List.mem_of_getElem? (i := 7) (by decide +kernel)) dX12_best_51 ?_
        exact rw_iret E hrt hlk hh (by decide) (by decide) dX12_best_53
      · refine rw_iload_n E (j0 := 3) rfl rfl dX12_best_39 ?_
        refine rw_i2l E dX12_best_40 ?_
        refine rw_lconst E (v := 1) (by decide) dX12_best_41 ?_
        refine rw_ldc2 E (v := 300) (List.mem_of_getElem? (i := 6) (by decide +kernel)) dX12_best_42 ?_
        refine rw_cSi E (As := [.long l3.toInt64, .long 1, .long 300]) hh (fun _ _ hq => c_X12_in l b0 G _ _ _ _ _ _ hq) (va_cwS 3 E.2.2.2.2.1 gX12_best_X12_in rfl rfl rfl (by decide +kernel) ⟨Nat.le_of_ble_eq_true rfl, Nat.le_of_ble_eq_true rfl⟩) rfl rfl (by (try simp only [List.map_cons, List.map_nil, List.sum_cons, List.sum_nil, hrf_cat, cat_i, cat_l, cat_r]) <;> decide) ⟨Nat.le_of_ble_eq_true rfl, Nat.le_of_ble_eq_true rfl⟩ dX12_best_45 (fun v8 S7 hh => ?_)
        refine rw_if_ne E hh (tgt := 54) (by decide) dX12_best_48 (fun hh => ?_) (fun hh => ?_)
        · refine rw_ldc E (v := (-1000000)) (List.mem_of_getElem? (i := 8) (by decide +kernel)) dX12_best_54 ?_
          refine rw_istore E (lv2 := [(4, .int ((-1000000))), (0, hrf b0 ((some h))), (1, .int l1), (2, .int l2), (3, .int l3)]) (by decide) rfl dX12_best_56 ?_
          refine rw_iconst E (v := (-1)) (by decide) dX12_best_58 ?_
          refine rw_istore E (lv2 := [(5, .int ((-1))), (4, .int ((-1000000))), (0, hrf b0 ((some h))), (1, .int l1), (2, .int l2), (3, .int l3)]) (by decide) rfl dX12_best_59 ?_
          refine rw_iconst E (v := 0) (by decide) dX12_best_61 ?_
          refine rw_istore E (lv2 := [(6, .int 0), (5, .int ((-1))), (4, .int ((-1000000))), (0, hrf b0 ((some h))), (1, .int l1), (2, .int l2), (3, .int l3)]) (by decide) rfl dX12_best_62 ?_
          refine WH.pick [3, 4, 5, 6, 2, 1, 0] rfl ?_
          exact w_X12_best_L64 E hrt hlk 100000 _ _ _ _ _ _ _ hh
        · refine rw_ldc E (v := (-1000001)) (List.mem_of_getElem? (i := 7) (by decide +kernel)) dX12_best_51 ?_
          exact rw_iret E hrt hlk hh (by decide) (by decide) dX12_best_53
  · refine rw_ldc E (v := (-1000002)) (List.mem_of_getElem? (i := 3) (by decide +kernel)) dX12_best_12 ?_
    exact rw_iret E hrt hlk hh (by decide) (by decide) dX12_best_14

/-! HummingDiscModel.from(IIIII)I -/
abbrev rm_X12_from : Room := { frames := 6, cells := 0, slots := 0, locals := 148 }
theorem i_X12_from_12 : ∀ w ∈ wsX120, w ∈ wsX12_from := fun _ h => List.mem_cons_of_mem _ (List.mem_append_right _ (h))
def s_X12_from_b74 (j32 : HS → Int32 → Int32 → Int32 → Int32 → Int32 → Int32 → Int32 → Int32 → Option (Int32 × HS)) (h : Nat) (S : HS) (l1 : Int32) (l2 : Int32) (l3 : Int32) (l4 : Int32) (l5 : Int32) (l6 : Int32) (l7 : Int32) (l8 : Int32) : Option (Int32 × HS) := j32 S l1 l2 l3 l4 l5 l6 l7 (l8 + (-1))
set_option maxHeartbeats 4000000 in
set_option maxRecDepth 100000 in
theorem w_X12_from_b74 {p : Program} {l : Launch} {e : Env} {s : State} {m : MethodId} {args : Array Value} {below : List Frame} {meth : Method} {c : Code} {b0 : Nat} {G : hG} {S1 : HS} {r : Int32} {j32 : HS → Int32 → Int32 → Int32 → Int32 → Int32 → Int32 → Int32 → Int32 → Option (Int32 × HS)} {h : Nat} {S : HS} {l1 : Int32} {l2 : Int32} {l3 : Int32} {l4 : Int32} {l5 : Int32} {l6 : Int32} {l7 : Int32} {l8 : Int32} (E : hE p s m args c b0 G cX12_from RX12 10 wsX12_from) (hrt : meth.sig.returnType = (some .int)) (hlk : meth.locks = false) (hj32 : ∀ (S : HS) (l1 : Int32) (l2 : Int32) (l3 : Int32) (l4 : Int32) (l5 : Int32) (l6 : Int32) (l7 : Int32) (l8 : Int32), j32 S l1 l2 l3 l4 l5 l6 l7 l8 = some (r, S1) → WH p l e rm_X12_from s m args below meth c b0 G 10 0 0 (MQ below (hQ b0 G (some (.int r)) S1) args s 0 0 (hA b0)) S 32 [(0, hrf b0 ((some h))), (1, .int l1), (2, .int l2), (3, .int l3), (4, .int l4), (5, .int l5), (6, .int l6), (7, .int l7), (8, .int l8)] []) (hh : s_X12_from_b74 j32 h S l1 l2 l3 l4 l5 l6 l7 l8 = some (r, S1)) : WH p l e rm_X12_from s m args below meth c b0 G 10 0 0 (MQ below (hQ b0 G (some (.int r)) S1) args s 0 0 (hA b0)) S 74 [(0, hrf b0 ((some h))), (1, .int l1), (2, .int l2), (3, .int l3), (4, .int l4), (5, .int l5), (6, .int l6), (7, .int l7), (8, .int l8)] [] := by
  have hh : (j32 S l1 l2 l3 l4 l5 l6 l7 (l8 + (-1))) = some (r, S1) := hh
  refine rw_iinc E (v := l8 + (-1)) (lv2 := [(8, .int (l8 + (-1))), (0, hrf b0 ((some h))), (1, .int l1), (2, .int l2), (3, .int l3), (4, .int l4), (5, .int l5), (6, .int l6), (7, .int l7)]) (j0 := 8) rfl (congrArg (fun z => l8 + z) (show Int32.ofInt (-1) = (-1) by decide)) (by decide) rfl dX12_from_74 ?_
  refine rw_goto E (tgt := 32) (by decide) dX12_from_77 ?_
  refine WH.pick [1, 2, 3, 4, 5, 6, 7, 8, 0] rfl ?_
  exact hj32 _ _ _ _ _ _ _ _ _ hh
def s_X12_from_b32 (j32 : HS → Int32 → Int32 → Int32 → Int32 → Int32 → Int32 → Int32 → Int32 → Option (Int32 × HS)) (h : Nat) (S : HS) (l1 : Int32) (l2 : Int32) (l3 : Int32) (l4 : Int32) (l5 : Int32) (l6 : Int32) (l7 : Int32) (l8 : Int32) : Option (Int32 × HS) := if l8 < 0 then (some (l6, S)) else (kO S ((some h)) 12 (fun a3 => kc (s_X12_runGreatest S a3 l1 l2 l3 l4 l5 l8) (fun v2 S1 => kI S1 ((some h)) 12 21 (fun v4 => if v4 = 0 then (if v2 ≤ l7 then (s_X12_from_b74 j32 h S1 l1 l2 l3 l4 l5 l6 l7 l8) else (s_X12_from_b74 j32 h S1 l1 l2 l3 l4 l5 l8 v2 l8)) else (s_X12_from_b74 j32 h S1 l1 l2 l3 l4 l5 l6 l7 l8)))))
set_option maxHeartbeats 4000000 in
set_option maxRecDepth 100000 in
theorem w_X12_from_b32 {p : Program} {l : Launch} {e : Env} {s : State} {m : MethodId} {args : Array Value} {below : List Frame} {meth : Method} {c : Code} {b0 : Nat} {G : hG} {S1 : HS} {r : Int32} {j32 : HS → Int32 → Int32 → Int32 → Int32 → Int32 → Int32 → Int32 → Int32 → Option (Int32 × HS)} {h : Nat} {S : HS} {l1 : Int32} {l2 : Int32} {l3 : Int32} {l4 : Int32} {l5 : Int32} {l6 : Int32} {l7 : Int32} {l8 : Int32} (E : hE p s m args c b0 G cX12_from RX12 10 wsX12_from) (hrt : meth.sig.returnType = (some .int)) (hlk : meth.locks = false) (hj32 : ∀ (S : HS) (l1 : Int32) (l2 : Int32) (l3 : Int32) (l4 : Int32) (l5 : Int32) (l6 : Int32) (l7 : Int32) (l8 : Int32), j32 S l1 l2 l3 l4 l5 l6 l7 l8 = some (r, S1) → WH p l e rm_X12_from s m args below meth c b0 G 10 0 0 (MQ below (hQ b0 G (some (.int r)) S1) args s 0 0 (hA b0)) S 32 [(0, hrf b0 ((some h))), (1, .int l1), (2, .int l2), (3, .int l3), (4, .int l4), (5, .int l5), (6, .int l6), (7, .int l7), (8, .int l8)] []) (hh : s_X12_from_b32 j32 h S l1 l2 l3 l4 l5 l6 l7 l8 = some (r, S1)) : WH p l e rm_X12_from s m args below meth c b0 G 10 0 0 (MQ below (hQ b0 G (some (.int r)) S1) args s 0 0 (hA b0)) S 32 [(0, hrf b0 ((some h))), (1, .int l1), (2, .int l2), (3, .int l3), (4, .int l4), (5, .int l5), (6, .int l6), (7, .int l7), (8, .int l8)] [] := by
  have hh : (if l8 < 0 then (some (l6, S)) else (kO S ((some h)) 12 (fun a3 => kc (s_X12_runGreatest S a3 l1 l2 l3 l4 l5 l8) (fun v2 S1 => kI S1 ((some h)) 12 21 (fun v4 => if v4 = 0 then (if v2 ≤ l7 then (s_X12_from_b74 j32 h S1 l1 l2 l3 l4 l5 l6 l7 l8) else (s_X12_from_b74 j32 h S1 l1 l2 l3 l4 l5 l8 v2 l8)) else (s_X12_from_b74 j32 h S1 l1 l2 l3 l4 l5 l6 l7 l8)))))) = some (r, S1) := hh
  refine rw_iload E (j0 := 8) rfl dX12_from_32 ?_
  refine rw_if_lt E hh (tgt := 80) (by decide) dX12_from_34 (fun hh => ?_) (fun hh => ?_)
  · refine rw_iload E (j0 := 6) rfl dX12_from_80 ?_
    exact rw_iret E hrt hlk hh (by decide) (by decide) dX12_from_82
  · refine rw_aload_n E (j0 := 0) rfl rfl dX12_from_37 ?_
    refine rw_iload_n E (j0 := 1) rfl rfl dX12_from_38 ?_
    refine rw_iload_n E (j0 := 2) rfl rfl dX12_from_39 ?_
    refine rw_iload_n E (j0 := 3) rfl rfl dX12_from_40 ?_
    refine rw_iload E (j0 := 4) rfl dX12_from_41 ?_
    refine rw_iload E (j0 := 5) rfl dX12_from_43 ?_
    refine rw_iload E (j0 := 8) rfl dX12_from_45 ?_
    refine rw_cVi E (As := [.int l1, .int l2, .int l3, .int l4, .int l5, .int l8]) hh (by decide) rfl (fun _ _ _ hq => c_X12_runGreatest l b0 G _ _ _ _ _ _ _ _ _ _ hq) (cwV 6 E.2.2.2.2.1 gX12_from_X12_runGreatest rfl rfl rfl (by decide +kernel) ⟨Nat.le_of_ble_eq_true rfl, Nat.le_of_ble_eq_true rfl⟩) rfl rfl (by (try simp only [List.map_cons, List.map_nil, List.sum_cons, List.sum_nil, hrf_cat, cat_i, cat_l, cat_r]) <;> decide) ⟨Nat.le_of_ble_eq_true rfl, Nat.le_of_ble_eq_true rfl⟩ dX12_from_47 (fun v2 S1 hh => ?_)
    refine rw_istore E (lv2 := [(9, .int v2), (0, hrf b0 ((some h))), (1, .int l1), (2, .int l2), (3, .int l3), (4, .int l4), (5, .int l5), (6, .int l6), (7, .int l7), (8, .int l8)]) (by decide) rfl dX12_from_50 ?_
    refine rw_aload_n E (j0 := 1) rfl rfl dX12_from_52 ?_
    refine rw_getI E hh (C := RX12) (T := TX12) (N := 32) rfl (by decide) i_X12_from_12 (by decide) rfl (List.mem_of_getElem? (i := 4) (by decide +kernel)) rfl dX12_from_53 (fun v4 hh => ?_)
    refine rw_if_ne E hh (tgt := 74) (by decide) dX12_from_56 (fun hh => ?_) (fun hh => ?_)
    · refine WH.pick [1, 2, 3, 4, 5, 6, 7, 8, 9] rfl ?_
      exact w_X12_from_b74 E hrt hlk hj32 hh
    · refine rw_iload E (j0 := 0) rfl dX12_from_59 ?_
      refine rw_iload E (j0 := 8) rfl dX12_from_61 ?_
      refine rw_icmp_le E hh (tgt := 74) (by decide) dX12_from_63 (fun hh => ?_) (fun hh => ?_)
      · refine WH.pick [1, 2, 3, 4, 5, 6, 7, 8, 9] rfl ?_
        exact w_X12_from_b74 E hrt hlk hj32 hh
      · refine rw_iload E (j0 := 9) rfl dX12_from_66 ?_
        refine rw_istore E (lv2 := [(6, .int l8), (9, .int v2), (0, hrf b0 ((some h))), (1, .int l1), (2, .int l2), (3, .int l3), (4, .int l4), (5, .int l5), (7, .int l7), (8, .int l8)]) (by decide) rfl dX12_from_68 ?_
        refine rw_iload E (j0 := 1) rfl dX12_from_70 ?_
        refine rw_istore E (lv2 := [(7, .int v2), (6, .int l8), (9, .int v2), (0, hrf b0 ((some h))), (1, .int l1), (2, .int l2), (3, .int l3), (4, .int l4), (5, .int l5), (8, .int l8)]) (by decide) rfl dX12_from_72 ?_
        refine WH.pick [3, 4, 5, 6, 7, 8, 1, 0, 9] rfl ?_
        exact w_X12_from_b74 E hrt hlk hj32 hh
def s_X12_from_L32 (h : Nat) : Nat → HS → Int32 → Int32 → Int32 → Int32 → Int32 → Int32 → Int32 → Int32 → Option (Int32 × HS)
  | 0 => fun _ _ _ _ _ _ _ _ _ => none
  | n + 1 => s_X12_from_b32 (s_X12_from_L32 h n) h
set_option maxHeartbeats 4000000 in
set_option maxRecDepth 100000 in
theorem w_X12_from_L32 {p : Program} {l : Launch} {e : Env} {s : State} {m : MethodId} {args : Array Value} {below : List Frame} {meth : Method} {c : Code} {b0 : Nat} {G : hG} {S1 : HS} {r : Int32} {h : Nat} (E : hE p s m args c b0 G cX12_from RX12 10 wsX12_from) (hrt : meth.sig.returnType = (some .int)) (hlk : meth.locks = false) : ∀ (n : Nat) (S : HS) (l1 : Int32) (l2 : Int32) (l3 : Int32) (l4 : Int32) (l5 : Int32) (l6 : Int32) (l7 : Int32) (l8 : Int32), s_X12_from_L32 h n S l1 l2 l3 l4 l5 l6 l7 l8 = some (r, S1) → WH p l e rm_X12_from s m args below meth c b0 G 10 0 0 (MQ below (hQ b0 G (some (.int r)) S1) args s 0 0 (hA b0)) S 32 [(0, hrf b0 ((some h))), (1, .int l1), (2, .int l2), (3, .int l3), (4, .int l4), (5, .int l5), (6, .int l6), (7, .int l7), (8, .int l8)] [] := by
  intro n
  induction n with
  | zero => intro _ _ _ _ _ _ _ _ _ hh; exact absurd hh (by simp [s_X12_from_L32])
  | succ n ih => intro _ _ _ _ _ _ _ _ _ hh; exact w_X12_from_b32 E hrt hlk  ih hh
def s_X12_from (S : HS) (h : Nat) (l1 : Int32) (l2 : Int32) (l3 : Int32) (l4 : Int32) (l5 : Int32) : Option (Int32 × HS) := kwI S ((some h)) 12 0 0 (fun S1 => kO S1 ((some h)) 12 (fun a4 => kc (s_X12_isAsked S1 a4 l1 l2 l3 l4 l5) (fun v3 S2 => if v3 = 0 then (some ((-1000001), S2)) else (s_X12_from_L32 h 100000 S2 l1 l2 l3 l4 l5 ((-1000000)) ((-1)) l3))))
set_option maxHeartbeats 4000000 in
set_option maxRecDepth 100000 in
theorem c_X12_from (l : Launch) (b0 : Nat) (G : hG) (S S1 : HS) (h : Nat) (l1 : Int32) (l2 : Int32) (l3 : Int32) (l4 : Int32) (l5 : Int32) (r : Int32) (hh : s_X12_from S h l1 l2 l3 l4 l5 = some (r, S1)) : MH l yX12_from wsX12_from rm_X12_from b0 G S [hrf b0 (some h), .int l1, .int l2, .int l3, .int l4, .int l5] (some (.int r)) S1 0 0 := by
  refine MH.ofW (cc := cX12_from) (maxL := 10) (ret := (some .int)) (own := RX12) (lv0 := [(0, hrf b0 ((some h))), (1, .int l1), (2, .int l2), (3, .int l3), (4, .int l4), (5, .int l5)]) (by decide) rfl rfl (Nat.le_of_ble_eq_true rfl) rfl ?_
  intro p e s m args below meth c E hrt hlk hnm
  have hh : (kwI S ((some h)) 12 0 0 (fun S1 => kO S1 ((some h)) 12 (fun a4 => kc (s_X12_isAsked S1 a4 l1 l2 l3 l4 l5) (fun v3 S2 => if v3 = 0 then (some ((-1000001), S2)) else (s_X12_from_L32 h 100000 S2 l1 l2 l3 l4 l5 ((-1000000)) ((-1)) l3))))) = some (r, S1) := hh
  refine rw_aload_n E (j0 := 0) rfl rfl dX12_from_0 ?_
  refine rw_iconst E (v := 0) (by decide) dX12_from_1 ?_
  refine rw_putI E hh (C := RX12) (T := TX12) (N := 32) (ty0 := tyX12) rfl tyX12_ok nmX12 (by decide) i_X12_from_12 (by decide) rfl (List.mem_of_getElem? (i := 1) (by decide +kernel)) rfl (Or.inl rfl) rfl dX12_from_2 (fun S1 hh => ?_)
  refine rw_aload_n E (j0 := 0) rfl rfl dX12_from_5 ?_
  refine rw_iload_n E (j0 := 1) rfl rfl dX12_from_6 ?_
  refine rw_iload_n E (j0 := 2) rfl rfl dX12_from_7 ?_
  refine rw_iload_n E (j0 := 3) rfl rfl dX12_from_8 ?_
  refine rw_iload E (j0 := 4) rfl dX12_from_9 ?_
  refine rw_iload E (j0 := 5) rfl dX12_from_11 ?_
  refine rw_cVi E (As := [.int l1, .int l2, .int l3, .int l4, .int l5]) hh (by decide) rfl (fun _ _ _ hq => c_X12_isAsked l b0 G _ _ _ _ _ _ _ _ _ hq) (cwV 5 E.2.2.2.2.1 gX12_from_X12_isAsked rfl rfl rfl (by decide +kernel) ⟨Nat.le_of_ble_eq_true rfl, Nat.le_of_ble_eq_true rfl⟩) rfl rfl (by (try simp only [List.map_cons, List.map_nil, List.sum_cons, List.sum_nil, hrf_cat, cat_i, cat_l, cat_r]) <;> decide) ⟨Nat.le_of_ble_eq_true rfl, Nat.le_of_ble_eq_true rfl⟩ dX12_from_13 (fun v3 S2 hh => ?_)
  refine rw_if_ne E hh (tgt := 22) (by decide) dX12_from_16 (fun hh => ?_) (fun hh => ?_)
  · refine rw_ldc E (v := (-1000000)) (List.mem_of_getElem? (i := 3) (by decide +kernel)) dX12_from_22 ?_
    refine rw_istore E (lv2 := [(6, .int ((-1000000))), (0, hrf b0 ((some h))), (1, .int l1), (2, .int l2), (3, .int l3), (4, .int l4), (5, .int l5)]) (by decide) rfl dX12_from_24 ?_
    refine rw_iconst E (v := (-1)) (by decide) dX12_from_26 ?_
    refine rw_istore E (lv2 := [(7, .int ((-1))), (6, .int ((-1000000))), (0, hrf b0 ((some h))), (1, .int l1), (2, .int l2), (3, .int l3), (4, .int l4), (5, .int l5)]) (by decide) rfl dX12_from_27 ?_
    refine rw_iload_n E (j0 := 5) rfl rfl dX12_from_29 ?_
    refine rw_istore E (lv2 := [(8, .int l3), (7, .int ((-1))), (6, .int ((-1000000))), (0, hrf b0 ((some h))), (1, .int l1), (2, .int l2), (3, .int l3), (4, .int l4), (5, .int l5)]) (by decide) rfl dX12_from_30 ?_
    refine WH.pick [3, 4, 5, 6, 7, 8, 2, 1, 0] rfl ?_
    exact w_X12_from_L32 E hrt hlk 100000 _ _ _ _ _ _ _ _ _ hh
  · refine rw_ldc E (v := (-1000001)) (List.mem_of_getElem? (i := 2) (by decide +kernel)) dX12_from_19 ?_
    exact rw_iret E hrt hlk hh (by decide) (by decide) dX12_from_21

/-! HummingDiscModel.grows(IIIIII)Z -/
abbrev rm_X12_grows : Room := { frames := 5, cells := 0, slots := 0, locals := 120 }
theorem i_X12_grows_12 : ∀ w ∈ wsX120, w ∈ wsX12_grows := fun _ h => List.mem_cons_of_mem _ (List.mem_append_right _ (h))
def s_X12_grows_b120 (j11 : HS → Int32 → Int32 → Int32 → Int32 → Int32 → Int32 → Int32 → Int32 → Option (Int32 × HS)) (h : Nat) (S : HS) (l1 : Int32) (l2 : Int32) (l3 : Int32) (l4 : Int32) (l5 : Int32) (l6 : Int32) (l7 : Int32) (l8 : Int32) : Option (Int32 × HS) := j11 S l1 l2 l3 l4 l5 l6 l7 (l8 + 1)
set_option maxHeartbeats 4000000 in
set_option maxRecDepth 100000 in
theorem w_X12_grows_b120 {p : Program} {l : Launch} {e : Env} {s : State} {m : MethodId} {args : Array Value} {below : List Frame} {meth : Method} {c : Code} {b0 : Nat} {G : hG} {S1 : HS} {r : Int32} {j11 : HS → Int32 → Int32 → Int32 → Int32 → Int32 → Int32 → Int32 → Int32 → Option (Int32 × HS)} {h : Nat} {S : HS} {l1 : Int32} {l2 : Int32} {l3 : Int32} {l4 : Int32} {l5 : Int32} {l6 : Int32} {l7 : Int32} {l8 : Int32} (E : hE p s m args c b0 G cX12_grows RX12 11 wsX12_grows) (hrt : meth.sig.returnType = (some .boolean)) (hlk : meth.locks = false) (hj11 : ∀ (S : HS) (l1 : Int32) (l2 : Int32) (l3 : Int32) (l4 : Int32) (l5 : Int32) (l6 : Int32) (l7 : Int32) (l8 : Int32), j11 S l1 l2 l3 l4 l5 l6 l7 l8 = some (r, S1) → WH p l e rm_X12_grows s m args below meth c b0 G 11 0 0 (MQ below (hQ b0 G (some (.int r)) S1) args s 0 0 (hA b0)) S 11 [(0, hrf b0 ((some h))), (1, .int l1), (2, .int l2), (3, .int l3), (4, .int l4), (5, .int l5), (6, .int l6), (7, .int l7), (8, .int l8)] []) (hh : s_X12_grows_b120 j11 h S l1 l2 l3 l4 l5 l6 l7 l8 = some (r, S1)) : WH p l e rm_X12_grows s m args below meth c b0 G 11 0 0 (MQ below (hQ b0 G (some (.int r)) S1) args s 0 0 (hA b0)) S 120 [(0, hrf b0 ((some h))), (1, .int l1), (2, .int l2), (3, .int l3), (4, .int l4), (5, .int l5), (6, .int l6), (7, .int l7), (8, .int l8)] [] := by
  have hh : (j11 S l1 l2 l3 l4 l5 l6 l7 (l8 + 1)) = some (r, S1) := hh
  refine rw_iinc E (v := l8 + 1) (lv2 := [(8, .int (l8 + 1)), (0, hrf b0 ((some h))), (1, .int l1), (2, .int l2), (3, .int l3), (4, .int l4), (5, .int l5), (6, .int l6), (7, .int l7)]) (j0 := 8) rfl rfl (by decide) rfl dX12_grows_120 ?_
  refine rw_goto E (tgt := 11) (by decide) dX12_grows_123 ?_
  refine WH.pick [1, 2, 3, 4, 5, 6, 7, 8, 0] rfl ?_
  exact hj11 _ _ _ _ _ _ _ _ _ hh
def s_X12_grows_b76 (j11 : HS → Int32 → Int32 → Int32 → Int32 → Int32 → Int32 → Int32 → Int32 → Option (Int32 × HS)) (h : Nat) (S : HS) (l1 : Int32) (l2 : Int32) (l3 : Int32) (l4 : Int32) (l5 : Int32) (l6 : Int32) (l7 : Int32) (l8 : Int32) (l9 : Int32) (k0 : Option Nat) (k1 : Int32) (k2 : Int32) (k3 : Int32) : Option (Int32 × HS) := kO S k0 12 (fun a2 => kcv (s_X12_tick S a2 k1 k2 k3 0) (fun S1 => kI S1 ((some h)) 12 19 (fun v3 => kc (s_X12_size S1 v3) (fun v5 S4 => if l3 < v5 then (kzr 1 S4) else (kI S4 ((some h)) 12 19 (fun v6 => kc (s_X12_size S4 v6) (fun v8 S7 => kO S7 ((some h)) 12 (fun a11 => kc (s_X12_threadOf S7 a11 l2 2) (fun v10 S9 => if v8 = v10 then (kO S9 ((some h)) 12 (fun a14 => kc (s_X12_threadOf S9 a14 l2 2) (fun v13 S12 => if v13 ≤ l9 then (s_X12_grows_b120 j11 h S12 l1 l2 l3 l4 l5 l6 l7 l8) else (kzr 1 S12)))) else (s_X12_grows_b120 j11 h S9 l1 l2 l3 l4 l5 l6 l7 l8))))))))))
set_option maxHeartbeats 4000000 in
set_option maxRecDepth 100000 in
theorem w_X12_grows_b76 {p : Program} {l : Launch} {e : Env} {s : State} {m : MethodId} {args : Array Value} {below : List Frame} {meth : Method} {c : Code} {b0 : Nat} {G : hG} {S1 : HS} {r : Int32} {j11 : HS → Int32 → Int32 → Int32 → Int32 → Int32 → Int32 → Int32 → Int32 → Option (Int32 × HS)} {h : Nat} {S : HS} {l1 : Int32} {l2 : Int32} {l3 : Int32} {l4 : Int32} {l5 : Int32} {l6 : Int32} {l7 : Int32} {l8 : Int32} {l9 : Int32} {k0 : Option Nat} {k1 : Int32} {k2 : Int32} {k3 : Int32} (E : hE p s m args c b0 G cX12_grows RX12 11 wsX12_grows) (hrt : meth.sig.returnType = (some .boolean)) (hlk : meth.locks = false) (hj11 : ∀ (S : HS) (l1 : Int32) (l2 : Int32) (l3 : Int32) (l4 : Int32) (l5 : Int32) (l6 : Int32) (l7 : Int32) (l8 : Int32), j11 S l1 l2 l3 l4 l5 l6 l7 l8 = some (r, S1) → WH p l e rm_X12_grows s m args below meth c b0 G 11 0 0 (MQ below (hQ b0 G (some (.int r)) S1) args s 0 0 (hA b0)) S 11 [(0, hrf b0 ((some h))), (1, .int l1), (2, .int l2), (3, .int l3), (4, .int l4), (5, .int l5), (6, .int l6), (7, .int l7), (8, .int l8)] []) (hh : s_X12_grows_b76 j11 h S l1 l2 l3 l4 l5 l6 l7 l8 l9 k0 k1 k2 k3 = some (r, S1)) : WH p l e rm_X12_grows s m args below meth c b0 G 11 0 0 (MQ below (hQ b0 G (some (.int r)) S1) args s 0 0 (hA b0)) S 76 [(0, hrf b0 ((some h))), (1, .int l1), (2, .int l2), (3, .int l3), (4, .int l4), (5, .int l5), (6, .int l6), (7, .int l7), (8, .int l8), (9, .int l9)] [.int k3, .int k2, .int k1, hrf b0 k0] := by
  have hh : (kO S k0 12 (fun a2 => kcv (s_X12_tick S a2 k1 k2 k3 0) (fun S1 => kI S1 ((some h)) 12 19 (fun v3 => kc (s_X12_size S1 v3) (fun v5 S4 => if l3 < v5 then (kzr 1 S4) else (kI S4 ((some h)) 12 19 (fun v6 => kc (s_X12_size S4 v6) (fun v8 S7 => kO S7 ((some h)) 12 (fun a11 => kc (s_X12_threadOf S7 a11 l2 2) (fun v10 S9 => if v8 = v10 then (kO S9 ((some h)) 12 (fun a14 => kc (s_X12_threadOf S9 a14 l2 2) (fun v13 S12 => if v13 ≤ l9 then (s_X12_grows_b120 j11 h S12 l1 l2 l3 l4 l5 l6 l7 l8) else (kzr 1 S12)))) else (s_X12_grows_b120 j11 h S9 l1 l2 l3 l4 l5 l6 l7 l8))))))))))) = some (r, S1) := hh
  refine rw_iconst E (v := 0) (by decide) dX12_grows_76 ?_
  refine rw_cVv E (As := [.int k1, .int k2, .int k3, .int 0]) hh (by decide) rfl (fun _ _ hq => c_X12_tick l b0 G _ _ _ _ _ _ _ hq) (cwV 4 E.2.2.2.2.1 gX12_grows_X12_tick rfl rfl rfl (by decide +kernel) ⟨Nat.le_of_ble_eq_true rfl, Nat.le_of_ble_eq_true rfl⟩) rfl rfl (by (try simp only [List.map_cons, List.map_nil, List.sum_cons, List.sum_nil, hrf_cat, cat_i, cat_l, cat_r]) <;> decide) ⟨Nat.le_of_ble_eq_true rfl, Nat.le_of_ble_eq_true rfl⟩ dX12_grows_77 (fun S1 hh => ?_)
  refine rw_aload_n E (j0 := 0) rfl rfl dX12_grows_80 ?_
  refine rw_getI E hh (C := RX12) (T := TX12) (N := 32) rfl (by decide) i_X12_grows_12 (by decide) rfl (List.mem_of_getElem? (i := 2) (by decide +kernel)) rfl dX12_grows_81 (fun v3 hh => ?_)
  refine rw_cSi E (As := [.int v3]) hh (fun _ _ hq => c_X12_size l b0 G _ _ _ _ hq) (va_cwS 1 E.2.2.2.2.1 gX12_grows_X12_size rfl rfl rfl (by decide +kernel) ⟨Nat.le_of_ble_eq_true rfl, Nat.le_of_ble_eq_true rfl⟩) rfl rfl (by (try simp only [List.map_cons, List.map_nil, List.sum_cons, List.sum_nil, hrf_cat, cat_i, cat_l, cat_r]) <;> decide) ⟨Nat.le_of_ble_eq_true rfl, Nat.le_of_ble_eq_true rfl⟩ dX12_grows_84 (fun v5 S4 hh => ?_)
  refine rw_iload_n E (j0 := 3) rfl rfl dX12_grows_87 ?_
  refine rw_icmp_gt E hh (tgt := 118) (by decide) dX12_grows_88 (fun hh => ?_) (fun hh => ?_)
  · refine rw_iconst E (v := 1) (by decide) dX12_grows_118 ?_
    exact rw_zret E hrt hlk hh (by decide) (by decide) dX12_grows_119
  · refine rw_aload_n E (j0 := 0) rfl rfl dX12_grows_91 ?_
    refine rw_getI E hh (C := RX12) (T := TX12) (N := 32) rfl (by decide) i_X12_grows_12 (by decide) rfl (List.mem_of_getElem? (i := 2) (by decide +kernel)) rfl dX12_grows_92 (fun v6 hh => ?_)
    refine rw_cSi E (As := [.int v6]) hh (fun _ _ hq => c_X12_size l b0 G _ _ _ _ hq) (va_cwS 1 E.2.2.2.2.1 gX12_grows_X12_size rfl rfl rfl (by decide +kernel) ⟨Nat.le_of_ble_eq_true rfl, Nat.le_of_ble_eq_true rfl⟩) rfl rfl (by (try simp only [List.map_cons, List.map_nil, List.sum_cons, List.sum_nil, hrf_cat, cat_i, cat_l, cat_r]) <;> decide) ⟨Nat.le_of_ble_eq_true rfl, Nat.le_of_ble_eq_true rfl⟩ dX12_grows_95 (fun v8 S7 hh => ?_)
    refine rw_aload_n E (j0 := 0) rfl rfl dX12_grows_98 ?_
    refine rw_iload_n E (j0 := 2) rfl rfl dX12_grows_99 ?_
    refine rw_iconst E (v := 2) (by decide) dX12_grows_100 ?_
    refine rw_cVi E (As := [.int l2, .int 2]) hh (by decide) rfl (fun _ _ _ hq => c_X12_threadOf l b0 G _ _ _ _ _ _ hq) (cwV 2 E.2.2.2.2.1 gX12_grows_X12_threadOf rfl rfl rfl (by decide +kernel) ⟨Nat.le_of_ble_eq_true rfl, Nat.le_of_ble_eq_true rfl⟩) rfl rfl (by (try simp only [List.map_cons, List.map_nil, List.sum_cons, List.sum_nil, hrf_cat, cat_i, cat_l, cat_r]) <;> decide) ⟨Nat.le_of_ble_eq_true rfl, Nat.le_of_ble_eq_true rfl⟩ dX12_grows_101 (fun v10 S9 hh => ?_)
    refine rw_icmp_ne E hh (tgt := 120) (by decide) dX12_grows_104 (fun hh => ?_) (fun hh => ?_)
    · refine WH.pick [0, 1, 2, 3, 4, 5, 6, 7, 8] rfl ?_
      exact w_X12_grows_b120 E hrt hlk hj11 hh
    · refine rw_iload E (j0 := 9) rfl dX12_grows_107 ?_
      refine rw_aload_n E (j0 := 0) rfl rfl dX12_grows_109 ?_
      refine rw_iload_n E (j0 := 2) rfl rfl dX12_grows_110 ?_
      refine rw_iconst E (v := 2) (by decide) dX12_grows_111 ?_
      refine rw_cVi E (As := [.int l2, .int 2]) hh (by decide) rfl (fun _ _ _ hq => c_X12_threadOf l b0 G _ _ _ _ _ _ hq) (cwV 2 E.2.2.2.2.1 gX12_grows_X12_threadOf rfl rfl rfl (by decide +kernel) ⟨Nat.le_of_ble_eq_true rfl, Nat.le_of_ble_eq_true rfl⟩) rfl rfl (by (try simp only [List.map_cons, List.map_nil, List.sum_cons, List.sum_nil, hrf_cat, cat_i, cat_l, cat_r]) <;> decide) ⟨Nat.le_of_ble_eq_true rfl, Nat.le_of_ble_eq_true rfl⟩ dX12_grows_112 (fun v13 S12 hh => ?_)
      refine rw_icmp_ge E hh (tgt := 120) (by decide) dX12_grows_115 (fun hh => ?_) (fun hh => ?_)
      · refine WH.pick [0, 1, 2, 3, 4, 5, 6, 7, 8] rfl ?_
        exact w_X12_grows_b120 E hrt hlk hj11 hh
      · refine rw_iconst E (v := 1) (by decide) dX12_grows_118 ?_
        exact rw_zret E hrt hlk hh (by decide) (by decide) dX12_grows_119
def s_X12_grows_b75 (j11 : HS → Int32 → Int32 → Int32 → Int32 → Int32 → Int32 → Int32 → Int32 → Option (Int32 × HS)) (h : Nat) (S : HS) (l1 : Int32) (l2 : Int32) (l3 : Int32) (l4 : Int32) (l5 : Int32) (l6 : Int32) (l7 : Int32) (l8 : Int32) (l9 : Int32) (k0 : Option Nat) (k1 : Int32) (k2 : Int32) : Option (Int32 × HS) := s_X12_grows_b76 j11 h S l1 l2 l3 l4 l5 l6 l7 l8 l9 k0 k1 k2 0
set_option maxHeartbeats 4000000 in
set_option maxRecDepth 100000 in
theorem w_X12_grows_b75 {p : Program} {l : Launch} {e : Env} {s : State} {m : MethodId} {args : Array Value} {below : List Frame} {meth : Method} {c : Code} {b0 : Nat} {G : hG} {S1 : HS} {r : Int32} {j11 : HS → Int32 → Int32 → Int32 → Int32 → Int32 → Int32 → Int32 → Int32 → Option (Int32 × HS)} {h : Nat} {S : HS} {l1 : Int32} {l2 : Int32} {l3 : Int32} {l4 : Int32} {l5 : Int32} {l6 : Int32} {l7 : Int32} {l8 : Int32} {l9 : Int32} {k0 : Option Nat} {k1 : Int32} {k2 : Int32} (E : hE p s m args c b0 G cX12_grows RX12 11 wsX12_grows) (hrt : meth.sig.returnType = (some .boolean)) (hlk : meth.locks = false) (hj11 : ∀ (S : HS) (l1 : Int32) (l2 : Int32) (l3 : Int32) (l4 : Int32) (l5 : Int32) (l6 : Int32) (l7 : Int32) (l8 : Int32), j11 S l1 l2 l3 l4 l5 l6 l7 l8 = some (r, S1) → WH p l e rm_X12_grows s m args below meth c b0 G 11 0 0 (MQ below (hQ b0 G (some (.int r)) S1) args s 0 0 (hA b0)) S 11 [(0, hrf b0 ((some h))), (1, .int l1), (2, .int l2), (3, .int l3), (4, .int l4), (5, .int l5), (6, .int l6), (7, .int l7), (8, .int l8)] []) (hh : s_X12_grows_b75 j11 h S l1 l2 l3 l4 l5 l6 l7 l8 l9 k0 k1 k2 = some (r, S1)) : WH p l e rm_X12_grows s m args below meth c b0 G 11 0 0 (MQ below (hQ b0 G (some (.int r)) S1) args s 0 0 (hA b0)) S 75 [(0, hrf b0 ((some h))), (1, .int l1), (2, .int l2), (3, .int l3), (4, .int l4), (5, .int l5), (6, .int l6), (7, .int l7), (8, .int l8), (9, .int l9)] [.int k2, .int k1, hrf b0 k0] := by
  have hh : (s_X12_grows_b76 j11 h S l1 l2 l3 l4 l5 l6 l7 l8 l9 k0 k1 k2 0) = some (r, S1) := hh
  refine rw_iconst E (v := 0) (by decide) dX12_grows_75 ?_
  refine WH.pick [0, 1, 2, 3, 4, 5, 6, 7, 8, 9] rfl ?_
  exact w_X12_grows_b76 E hrt hlk hj11 hh
def s_X12_grows_b53 (j11 : HS → Int32 → Int32 → Int32 → Int32 → Int32 → Int32 → Int32 → Int32 → Option (Int32 × HS)) (h : Nat) (S : HS) (l1 : Int32) (l2 : Int32) (l3 : Int32) (l4 : Int32) (l5 : Int32) (l6 : Int32) (l8 : Int32) (l9 : Int32) (l10 : Int32) (k0 : Int32) : Option (Int32 × HS) := if l10 = 0 then (s_X12_grows_b75 j11 h S l1 l2 l3 l4 l5 l6 k0 l8 l9 ((some h)) l1 l2) else (if k0 ≤ l6 then (s_X12_grows_b75 j11 h S l1 l2 l3 l4 l5 l6 k0 l8 l9 ((some h)) l1 l2) else (s_X12_grows_b76 j11 h S l1 l2 l3 l4 l5 l6 k0 l8 l9 ((some h)) l1 l2 l4))
set_option maxHeartbeats 4000000 in
set_option maxRecDepth 100000 in
theorem w_X12_grows_b53 {p : Program} {l : Launch} {e : Env} {s : State} {m : MethodId} {args : Array Value} {below : List Frame} {meth : Method} {c : Code} {b0 : Nat} {G : hG} {S1 : HS} {r : Int32} {j11 : HS → Int32 → Int32 → Int32 → Int32 → Int32 → Int32 → Int32 → Int32 → Option (Int32 × HS)} {h : Nat} {S : HS} {l1 : Int32} {l2 : Int32} {l3 : Int32} {l4 : Int32} {l5 : Int32} {l6 : Int32} {l8 : Int32} {l9 : Int32} {l10 : Int32} {k0 : Int32} (E : hE p s m args c b0 G cX12_grows RX12 11 wsX12_grows) (hrt : meth.sig.returnType = (some .boolean)) (hlk : meth.locks = false) (hj11 : ∀ (S : HS) (l1 : Int32) (l2 : Int32) (l3 : Int32) (l4 : Int32) (l5 : Int32) (l6 : Int32) (l7 : Int32) (l8 : Int32), j11 S l1 l2 l3 l4 l5 l6 l7 l8 = some (r, S1) → WH p l e rm_X12_grows s m args below meth c b0 G 11 0 0 (MQ below (hQ b0 G (some (.int r)) S1) args s 0 0 (hA b0)) S 11 [(0, hrf b0 ((some h))), (1, .int l1), (2, .int l2), (3, .int l3), (4, .int l4), (5, .int l5), (6, .int l6), (7, .int l7), (8, .int l8)] []) (hh : s_X12_grows_b53 j11 h S l1 l2 l3 l4 l5 l6 l8 l9 l10 k0 = some (r, S1)) : WH p l e rm_X12_grows s m args below meth c b0 G 11 0 0 (MQ below (hQ b0 G (some (.int r)) S1) args s 0 0 (hA b0)) S 53 [(0, hrf b0 ((some h))), (1, .int l1), (2, .int l2), (3, .int l3), (4, .int l4), (5, .int l5), (6, .int l6), (8, .int l8), (9, .int l9), (10, .int l10)] [.int k0] := by
  have hh : (if l10 = 0 then (s_X12_grows_b75 j11 h S l1 l2 l3 l4 l5 l6 k0 l8 l9 ((some h)) l1 l2) else (if k0 ≤ l6 then (s_X12_grows_b75 j11 h S l1 l2 l3 l4 l5 l6 k0 l8 l9 ((some h)) l1 l2) else (s_X12_grows_b76 j11 h S l1 l2 l3 l4 l5 l6 k0 l8 l9 ((some h)) l1 l2 l4))) = some (r, S1) := hh
  refine rw_istore E (lv2 := [(7, .int k0), (0, hrf b0 ((some h))), (1, .int l1), (2, .int l2), (3, .int l3), (4, .int l4), (5, .int l5), (6, .int l6), (8, .int l8), (9, .int l9), (10, .int l10)]) (by decide) rfl dX12_grows_53 ?_
  refine rw_aload_n E (j0 := 1) rfl rfl dX12_grows_55 ?_
  refine rw_iload_n E (j0 := 2) rfl rfl dX12_grows_56 ?_
  refine rw_iload_n E (j0 := 3) rfl rfl dX12_grows_57 ?_
  refine rw_iload E (j0 := 10) rfl dX12_grows_58 ?_
  refine rw_if_eq E hh (tgt := 75) (by decide) dX12_grows_60 (fun hh => ?_) (fun hh => ?_)
  · refine WH.pick [1, 2, 3, 4, 5, 6, 7, 0, 8, 9] rfl ?_
    exact w_X12_grows_b75 E hrt hlk hj11 hh
  · refine rw_iload E (j0 := 0) rfl dX12_grows_63 ?_
    refine rw_iload E (j0 := 7) rfl dX12_grows_65 ?_
    refine rw_icmp_le E hh (tgt := 75) (by decide) dX12_grows_67 (fun hh => ?_) (fun hh => ?_)
    · refine WH.pick [1, 2, 3, 4, 5, 6, 7, 0, 8, 9] rfl ?_
      exact w_X12_grows_b75 E hrt hlk hj11 hh
    · refine rw_iload E (j0 := 5) rfl dX12_grows_70 ?_
      refine rw_goto E (tgt := 76) (by decide) dX12_grows_72 ?_
      refine WH.pick [1, 2, 3, 4, 5, 6, 7, 0, 8, 9] rfl ?_
      exact w_X12_grows_b76 E hrt hlk hj11 hh
def s_X12_grows_b11 (j11 : HS → Int32 → Int32 → Int32 → Int32 → Int32 → Int32 → Int32 → Int32 → Option (Int32 × HS)) (h : Nat) (S : HS) (l1 : Int32) (l2 : Int32) (l3 : Int32) (l4 : Int32) (l5 : Int32) (l6 : Int32) (l7 : Int32) (l8 : Int32) : Option (Int32 × HS) := if l5 ≤ l8 then (kzr 0 S) else (kI S ((some h)) 12 21 (fun v1 => if v1 = 0 then (kI S ((some h)) 12 19 (fun v2 => kc (s_X12_size S v2) (fun v4 S3 => kO S3 ((some h)) 12 (fun a7 => kc (s_X12_unwinds S3 a7 ) (fun v6 S5 => if v6 = 0 then (s_X12_grows_b53 j11 h S5 l1 l2 l3 l4 l5 l6 l8 v4 v6 0) else (s_X12_grows_b53 j11 h S5 l1 l2 l3 l4 l5 l6 l8 v4 v6 (l7 + 1))))))) else (kzr 0 S)))
set_option maxHeartbeats 4000000 in
set_option maxRecDepth 100000 in
theorem w_X12_grows_b11 {p : Program} {l : Launch} {e : Env} {s : State} {m : MethodId} {args : Array Value} {below : List Frame} {meth : Method} {c : Code} {b0 : Nat} {G : hG} {S1 : HS} {r : Int32} {j11 : HS → Int32 → Int32 → Int32 → Int32 → Int32 → Int32 → Int32 → Int32 → Option (Int32 × HS)} {h : Nat} {S : HS} {l1 : Int32} {l2 : Int32} {l3 : Int32} {l4 : Int32} {l5 : Int32} {l6 : Int32} {l7 : Int32} {l8 : Int32} (E : hE p s m args c b0 G cX12_grows RX12 11 wsX12_grows) (hrt : meth.sig.returnType = (some .boolean)) (hlk : meth.locks = false) (hj11 : ∀ (S : HS) (l1 : Int32) (l2 : Int32) (l3 : Int32) (l4 : Int32) (l5 : Int32) (l6 : Int32) (l7 : Int32) (l8 : Int32), j11 S l1 l2 l3 l4 l5 l6 l7 l8 = some (r, S1) → WH p l e rm_X12_grows s m args below meth c b0 G 11 0 0 (MQ below (hQ b0 G (some (.int r)) S1) args s 0 0 (hA b0)) S 11 [(0, hrf b0 ((some h))), (1, .int l1), (2, .int l2), (3, .int l3), (4, .int l4), (5, .int l5), (6, .int l6), (7, .int l7), (8, .int l8)] []) (hh : s_X12_grows_b11 j11 h S l1 l2 l3 l4 l5 l6 l7 l8 = some (r, S1)) : WH p l e rm_X12_grows s m args below meth c b0 G 11 0 0 (MQ below (hQ b0 G (some (.int r)) S1) args s 0 0 (hA b0)) S 11 [(0, hrf b0 ((some h))), (1, .int l1), (2, .int l2), (3, .int l3), (4, .int l4), (5, .int l5), (6, .int l6), (7, .int l7), (8, .int l8)] [] := by
  have hh : (if l5 ≤ l8 then (kzr 0 S) else (kI S ((some h)) 12 21 (fun v1 => if v1 = 0 then (kI S ((some h)) 12 19 (fun v2 => kc (s_X12_size S v2) (fun v4 S3 => kO S3 ((some h)) 12 (fun a7 => kc (s_X12_unwinds S3 a7 ) (fun v6 S5 => if v6 = 0 then (s_X12_grows_b53 j11 h S5 l1 l2 l3 l4 l5 l6 l8 v4 v6 0) else (s_X12_grows_b53 j11 h S5 l1 l2 l3 l4 l5 l6 l8 v4 v6 (l7 + 1))))))) else (kzr 0 S)))) = some (r, S1) := hh
  refine rw_iload E (j0 := 8) rfl dX12_grows_11 ?_
  refine rw_iload E (j0 := 5) rfl dX12_grows_13 ?_
  refine rw_icmp_ge E hh (tgt := 126) (by decide) dX12_grows_15 (fun hh => ?_) (fun hh => ?_)
  · refine rw_iconst E (v := 0) (by decide) dX12_grows_126 ?_
    exact rw_zret E hrt hlk hh (by decide) (by decide) dX12_grows_127
  · refine rw_aload_n E (j0 := 0) rfl rfl dX12_grows_18 ?_
    refine rw_getI E hh (C := RX12) (T := TX12) (N := 32) rfl (by decide) i_X12_grows_12 (by decide) rfl (List.mem_of_getElem? (i := 1) (by decide +kernel)) rfl dX12_grows_19 (fun v1 hh => ?_)
    refine rw_if_ne E hh (tgt := 126) (by decide) dX12_grows_22 (fun hh => ?_) (fun hh => ?_)
    · refine rw_iconst E (v := 0) (by decide) dX12_grows_126 ?_
      exact rw_zret E hrt hlk hh (by decide) (by decide) dX12_grows_127
    · refine rw_aload_n E (j0 := 0) rfl rfl dX12_grows_25 ?_
      refine rw_getI E hh (C := RX12) (T := TX12) (N := 32) rfl (by decide) i_X12_grows_12 (by decide) rfl (List.mem_of_getElem? (i := 2) (by decide +kernel)) rfl dX12_grows_26 (fun v2 hh => ?_)
      refine rw_cSi E (As := [.int v2]) hh (fun _ _ hq => c_X12_size l b0 G _ _ _ _ hq) (va_cwS 1 E.2.2.2.2.1 gX12_grows_X12_size rfl rfl rfl (by decide +kernel) ⟨Nat.le_of_ble_eq_true rfl, Nat.le_of_ble_eq_true rfl⟩) rfl rfl (by (try simp only [List.map_cons, List.map_nil, List.sum_cons, List.sum_nil, hrf_cat, cat_i, cat_l, cat_r]) <;> decide) ⟨Nat.le_of_ble_eq_true rfl, Nat.le_of_ble_eq_true rfl⟩ dX12_grows_29 (fun v4 S3 hh => ?_)
      refine rw_istore E (lv2 := [(9, .int v4), (0, hrf b0 ((some h))), (1, .int l1), (2, .int l2), (3, .int l3), (4, .int l4), (5, .int l5), (6, .int l6), (7, .int l7), (8, .int l8)]) (by decide) rfl dX12_grows_32 ?_
      refine rw_aload_n E (j0 := 1) rfl rfl dX12_grows_34 ?_
      refine rw_cVi E (As := []) hh (by decide) rfl (fun _ _ _ hq => c_X12_unwinds l b0 G _ _ _ _ hq) (cwV 0 E.2.2.2.2.1 gX12_grows_X12_unwinds rfl rfl rfl (by decide +kernel) ⟨Nat.le_of_ble_eq_true rfl, Nat.le_of_ble_eq_true rfl⟩) rfl rfl (by (try simp only [List.map_cons, List.map_nil, List.sum_cons, List.sum_nil, hrf_cat, cat_i, cat_l, cat_r]) <;> decide) ⟨Nat.le_of_ble_eq_true rfl, Nat.le_of_ble_eq_true rfl⟩ dX12_grows_35 (fun v6 S5 hh => ?_)
      refine rw_istore E (lv2 := [(10, .int v6), (9, .int v4), (0, hrf b0 ((some h))), (1, .int l1), (2, .int l2), (3, .int l3), (4, .int l4), (5, .int l5), (6, .int l6), (7, .int l7), (8, .int l8)]) (by decide) rfl dX12_grows_38 ?_
      refine rw_iload E (j0 := 0) rfl dX12_grows_40 ?_
      refine rw_if_eq E hh (tgt := 52) (by decide) dX12_grows_42 (fun hh => ?_) (fun hh => ?_)
      · refine rw_iconst E (v := 0) (by decide) dX12_grows_52 ?_
        refine WH.pick [2, 3, 4, 5, 6, 7, 8, 10, 1, 0] rfl ?_
        exact w_X12_grows_b53 E hrt hlk hj11 hh
      · refine rw_iload E (j0 := 9) rfl dX12_grows_45 ?_
        refine rw_iconst E (v := 1) (by decide) dX12_grows_47 ?_
        refine rw_iadd E dX12_grows_48 ?_
        refine rw_goto E (tgt := 53) (by decide) dX12_grows_49 ?_
        refine WH.pick [2, 3, 4, 5, 6, 7, 8, 10, 1, 0] rfl ?_
        exact w_X12_grows_b53 E hrt hlk hj11 hh
def s_X12_grows_L11 (h : Nat) : Nat → HS → Int32 → Int32 → Int32 → Int32 → Int32 → Int32 → Int32 → Int32 → Option (Int32 × HS)
  | 0 => fun _ _ _ _ _ _ _ _ _ => none
  | n + 1 => s_X12_grows_b11 (s_X12_grows_L11 h n) h
set_option maxHeartbeats 4000000 in
set_option maxRecDepth 100000 in
theorem w_X12_grows_L11 {p : Program} {l : Launch} {e : Env} {s : State} {m : MethodId} {args : Array Value} {below : List Frame} {meth : Method} {c : Code} {b0 : Nat} {G : hG} {S1 : HS} {r : Int32} {h : Nat} (E : hE p s m args c b0 G cX12_grows RX12 11 wsX12_grows) (hrt : meth.sig.returnType = (some .boolean)) (hlk : meth.locks = false) : ∀ (n : Nat) (S : HS) (l1 : Int32) (l2 : Int32) (l3 : Int32) (l4 : Int32) (l5 : Int32) (l6 : Int32) (l7 : Int32) (l8 : Int32), s_X12_grows_L11 h n S l1 l2 l3 l4 l5 l6 l7 l8 = some (r, S1) → WH p l e rm_X12_grows s m args below meth c b0 G 11 0 0 (MQ below (hQ b0 G (some (.int r)) S1) args s 0 0 (hA b0)) S 11 [(0, hrf b0 ((some h))), (1, .int l1), (2, .int l2), (3, .int l3), (4, .int l4), (5, .int l5), (6, .int l6), (7, .int l7), (8, .int l8)] [] := by
  intro n
  induction n with
  | zero => intro _ _ _ _ _ _ _ _ _ hh; exact absurd hh (by simp [s_X12_grows_L11])
  | succ n ih => intro _ _ _ _ _ _ _ _ _ hh; exact w_X12_grows_b11 E hrt hlk  ih hh
def s_X12_grows (S : HS) (h : Nat) (l1 : Int32) (l2 : Int32) (l3 : Int32) (l4 : Int32) (l5 : Int32) (l6 : Int32) : Option (Int32 × HS) := kO S ((some h)) 12 (fun a2 => kcv (s_X12_rest S a2 l3) (fun S1 => s_X12_grows_L11 h 100000 S1 l1 l2 l3 l4 l5 l6 0 0))
set_option maxHeartbeats 4000000 in
set_option maxRecDepth 100000 in
theorem c_X12_grows (l : Launch) (b0 : Nat) (G : hG) (S S1 : HS) (h : Nat) (l1 : Int32) (l2 : Int32) (l3 : Int32) (l4 : Int32) (l5 : Int32) (l6 : Int32) (r : Int32) (hh : s_X12_grows S h l1 l2 l3 l4 l5 l6 = some (r, S1)) : MH l yX12_grows wsX12_grows rm_X12_grows b0 G S [hrf b0 (some h), .int l1, .int l2, .int l3, .int l4, .int l5, .int l6] (some (.int r)) S1 0 0 := by
  refine MH.ofW (cc := cX12_grows) (maxL := 11) (ret := (some .boolean)) (own := RX12) (lv0 := [(0, hrf b0 ((some h))), (1, .int l1), (2, .int l2), (3, .int l3), (4, .int l4), (5, .int l5), (6, .int l6)]) (by decide) rfl rfl (Nat.le_of_ble_eq_true rfl) rfl ?_
  intro p e s m args below meth c E hrt hlk hnm
  have hh : (kO S ((some h)) 12 (fun a2 => kcv (s_X12_rest S a2 l3) (fun S1 => s_X12_grows_L11 h 100000 S1 l1 l2 l3 l4 l5 l6 0 0))) = some (r, S1) := hh
  refine rw_aload_n E (j0 := 0) rfl rfl dX12_grows_0 ?_
  refine rw_iload_n E (j0 := 3) rfl rfl dX12_grows_1 ?_
  refine rw_cVv E (As := [.int l3]) hh (by decide) rfl (fun _ _ hq => c_X12_rest l b0 G _ _ _ _ hq) (cwV 1 E.2.2.2.2.1 gX12_grows_X12_rest rfl rfl rfl (by decide +kernel) ⟨Nat.le_of_ble_eq_true rfl, Nat.le_of_ble_eq_true rfl⟩) rfl rfl (by (try simp only [List.map_cons, List.map_nil, List.sum_cons, List.sum_nil, hrf_cat, cat_i, cat_l, cat_r]) <;> decide) ⟨Nat.le_of_ble_eq_true rfl, Nat.le_of_ble_eq_true rfl⟩ dX12_grows_2 (fun S1 hh => ?_)
  refine rw_iconst E (v := 0) (by decide) dX12_grows_5 ?_
  refine rw_istore E (lv2 := [(7, .int 0), (0, hrf b0 ((some h))), (1, .int l1), (2, .int l2), (3, .int l3), (4, .int l4), (5, .int l5), (6, .int l6)]) (by decide) rfl dX12_grows_6 ?_
  refine rw_iconst E (v := 0) (by decide) dX12_grows_8 ?_
  refine rw_istore E (lv2 := [(8, .int 0), (7, .int 0), (0, hrf b0 ((some h))), (1, .int l1), (2, .int l2), (3, .int l3), (4, .int l4), (5, .int l5), (6, .int l6)]) (by decide) rfl dX12_grows_9 ?_
  refine WH.pick [2, 3, 4, 5, 6, 7, 8, 1, 0] rfl ?_
  exact w_X12_grows_L11 E hrt hlk 100000 _ _ _ _ _ _ _ _ _ hh

/-! HummingDiscModel.late(IIIII)I -/
abbrev rm_X12_late : Room := { frames := 6, cells := 0, slots := 0, locals := 150 }
theorem i_X12_late_12 : ∀ w ∈ wsX120, w ∈ wsX12_late := fun _ h => List.mem_cons_of_mem _ (List.mem_append_right _ (h))
def s_X12_late_b54 (h : Nat) (S : HS) (l6 : Int32) : Option (Int32 × HS) := if l6 = 0 then (some ((-1000000), S)) else (some (l6 - 1, S))
set_option maxHeartbeats 4000000 in
set_option maxRecDepth 100000 in
theorem w_X12_late_b54 {p : Program} {l : Launch} {e : Env} {s : State} {m : MethodId} {args : Array Value} {below : List Frame} {meth : Method} {c : Code} {b0 : Nat} {G : hG} {S1 : HS} {r : Int32} {h : Nat} {S : HS} {l6 : Int32} (E : hE p s m args c b0 G cX12_late RX12 7 wsX12_late) (hrt : meth.sig.returnType = (some .int)) (hlk : meth.locks = false) (hh : s_X12_late_b54 h S l6 = some (r, S1)) : WH p l e rm_X12_late s m args below meth c b0 G 7 0 0 (MQ below (hQ b0 G (some (.int r)) S1) args s 0 0 (hA b0)) S 54 [(6, .int l6)] [] := by
  have hh : (if l6 = 0 then (some ((-1000000), S)) else (some (l6 - 1, S))) = some (r, S1) := hh
  refine rw_iload E (j0 := 0) rfl dX12_late_54 ?_
  refine rw_if_ne E hh (tgt := 64) (by decide) dX12_late_56 (fun hh => ?_) (fun hh => ?_)
  · refine rw_iload E (j0 := 0) rfl dX12_late_64 ?_
    refine rw_iconst E (v := 1) (by decide) dX12_late_66 ?_
    refine rw_isub E dX12_late_67 ?_
    exact rw_iret E hrt hlk hh (by decide) (by decide) dX12_late_68
  · refine rw_ldc E (v := (-1000000)) (List.mem_of_getElem? (i := 3) (by decide +kernel)) dX12_late_59 ?_
    refine rw_goto E (tgt := 68) (by decide) dX12_late_61 ?_
    exact rw_iret E hrt hlk hh (by decide) (by decide) dX12_late_68
def s_X12_late_b25 (j25 : HS → Int32 → Int32 → Int32 → Int32 → Int32 → Int32 → Option (Int32 × HS)) (h : Nat) (S : HS) (l1 : Int32) (l2 : Int32) (l3 : Int32) (l4 : Int32) (l5 : Int32) (l6 : Int32) : Option (Int32 × HS) := if 30 < l6 then (s_X12_late_b54 h S l6) else (kO S ((some h)) 12 (fun a3 => kc (s_X12_grows S a3 l1 l2 l3 l4 l5 l6) (fun v2 S1 => if v2 = 0 then (s_X12_late_b54 h S1 l6) else (j25 S1 l1 l2 l3 l4 l5 (l6 + 1)))))
set_option maxHeartbeats 4000000 in
set_option maxRecDepth 100000 in
theorem w_X12_late_b25 {p : Program} {l : Launch} {e : Env} {s : State} {m : MethodId} {args : Array Value} {below : List Frame} {meth : Method} {c : Code} {b0 : Nat} {G : hG} {S1 : HS} {r : Int32} {j25 : HS → Int32 → Int32 → Int32 → Int32 → Int32 → Int32 → Option (Int32 × HS)} {h : Nat} {S : HS} {l1 : Int32} {l2 : Int32} {l3 : Int32} {l4 : Int32} {l5 : Int32} {l6 : Int32} (E : hE p s m args c b0 G cX12_late RX12 7 wsX12_late) (hrt : meth.sig.returnType = (some .int)) (hlk : meth.locks = false) (hj25 : ∀ (S : HS) (l1 : Int32) (l2 : Int32) (l3 : Int32) (l4 : Int32) (l5 : Int32) (l6 : Int32), j25 S l1 l2 l3 l4 l5 l6 = some (r, S1) → WH p l e rm_X12_late s m args below meth c b0 G 7 0 0 (MQ below (hQ b0 G (some (.int r)) S1) args s 0 0 (hA b0)) S 25 [(0, hrf b0 ((some h))), (1, .int l1), (2, .int l2), (3, .int l3), (4, .int l4), (5, .int l5), (6, .int l6)] []) (hh : s_X12_late_b25 j25 h S l1 l2 l3 l4 l5 l6 = some (r, S1)) : WH p l e rm_X12_late s m args below meth c b0 G 7 0 0 (MQ below (hQ b0 G (some (.int r)) S1) args s 0 0 (hA b0)) S 25 [(0, hrf b0 ((some h))), (1, .int l1), (2, .int l2), (3, .int l3), (4, .int l4), (5, .int l5), (6, .int l6)] [] := by
  have hh : (if 30 < l6 then (s_X12_late_b54 h S l6) else (kO S ((some h)) 12 (fun a3 => kc (s_X12_grows S a3 l1 l2 l3 l4 l5 l6) (fun v2 S1 => if v2 = 0 then (s_X12_late_b54 h S1 l6) else (j25 S1 l1 l2 l3 l4 l5 (l6 + 1)))))) = some (r, S1) := hh
  refine rw_iload E (j0 := 6) rfl dX12_late_25 ?_
  refine rw_bipush E (v := 30) (by decide) dX12_late_27 ?_
  refine rw_icmp_gt E hh (tgt := 54) (by decide) dX12_late_29 (fun hh => ?_) (fun hh => ?_)
  · refine WH.pick [6] rfl ?_
    exact w_X12_late_b54 E hrt hlk hh
  · refine rw_aload_n E (j0 := 0) rfl rfl dX12_late_32 ?_
    refine rw_iload_n E (j0 := 1) rfl rfl dX12_late_33 ?_
    refine rw_iload_n E (j0 := 2) rfl rfl dX12_late_34 ?_
    refine rw_iload_n E (j0 := 3) rfl rfl dX12_late_35 ?_
    refine rw_iload E (j0 := 4) rfl dX12_late_36 ?_
    refine rw_iload E (j0 := 5) rfl dX12_late_38 ?_
    refine rw_iload E (j0 := 6) rfl dX12_late_40 ?_
    refine rw_cVi E (As := [.int l1, .int l2, .int l3, .int l4, .int l5, .int l6]) hh (by decide) rfl (fun _ _ _ hq => c_X12_grows l b0 G _ _ _ _ _ _ _ _ _ _ hq) (cwV 6 E.2.2.2.2.1 gX12_late_X12_grows rfl rfl rfl (by decide +kernel) ⟨Nat.le_of_ble_eq_true rfl, Nat.le_of_ble_eq_true rfl⟩) rfl rfl (by (try simp only [List.map_cons, List.map_nil, List.sum_cons, List.sum_nil, hrf_cat, cat_i, cat_l, cat_r]) <;> decide) ⟨Nat.le_of_ble_eq_true rfl, Nat.le_of_ble_eq_true rfl⟩ dX12_late_42 (fun v2 S1 hh => ?_)
    refine rw_if_eq E hh (tgt := 54) (by decide) dX12_late_45 (fun hh => ?_) (fun hh => ?_)
    · refine WH.pick [6] rfl ?_
      exact w_X12_late_b54 E hrt hlk hh
    · refine rw_iinc E (v := l6 + 1) (lv2 := [(6, .int (l6 + 1)), (0, hrf b0 ((some h))), (1, .int l1), (2, .int l2), (3, .int l3), (4, .int l4), (5, .int l5)]) (j0 := 6) rfl rfl (by decide) rfl dX12_late_48 ?_
      refine rw_goto E (tgt := 25) (by decide) dX12_late_51 ?_
      refine WH.pick [1, 2, 3, 4, 5, 6, 0] rfl ?_
      exact hj25 _ _ _ _ _ _ _ hh
def s_X12_late_L25 (h : Nat) : Nat → HS → Int32 → Int32 → Int32 → Int32 → Int32 → Int32 → Option (Int32 × HS)
  | 0 => fun _ _ _ _ _ _ _ => none
  | n + 1 => s_X12_late_b25 (s_X12_late_L25 h n) h
set_option maxHeartbeats 4000000 in
set_option maxRecDepth 100000 in
theorem w_X12_late_L25 {p : Program} {l : Launch} {e : Env} {s : State} {m : MethodId} {args : Array Value} {below : List Frame} {meth : Method} {c : Code} {b0 : Nat} {G : hG} {S1 : HS} {r : Int32} {h : Nat} (E : hE p s m args c b0 G cX12_late RX12 7 wsX12_late) (hrt : meth.sig.returnType = (some .int)) (hlk : meth.locks = false) : ∀ (n : Nat) (S : HS) (l1 : Int32) (l2 : Int32) (l3 : Int32) (l4 : Int32) (l5 : Int32) (l6 : Int32), s_X12_late_L25 h n S l1 l2 l3 l4 l5 l6 = some (r, S1) → WH p l e rm_X12_late s m args below meth c b0 G 7 0 0 (MQ below (hQ b0 G (some (.int r)) S1) args s 0 0 (hA b0)) S 25 [(0, hrf b0 ((some h))), (1, .int l1), (2, .int l2), (3, .int l3), (4, .int l4), (5, .int l5), (6, .int l6)] [] := by
  intro n
  induction n with
  | zero => intro _ _ _ _ _ _ _ hh; exact absurd hh (by simp [s_X12_late_L25])
  | succ n ih => intro _ _ _ _ _ _ _ hh; exact w_X12_late_b25 E hrt hlk  ih hh
def s_X12_late (S : HS) (h : Nat) (l1 : Int32) (l2 : Int32) (l3 : Int32) (l4 : Int32) (l5 : Int32) : Option (Int32 × HS) := kwI S ((some h)) 12 0 0 (fun S1 => kO S1 ((some h)) 12 (fun a4 => kc (s_X12_isAsked S1 a4 l1 l2 l3 l4 l5) (fun v3 S2 => if v3 = 0 then (some ((-1000001), S2)) else (s_X12_late_L25 h 100000 S2 l1 l2 l3 l4 l5 0))))
set_option maxHeartbeats 4000000 in
set_option maxRecDepth 100000 in
theorem c_X12_late (l : Launch) (b0 : Nat) (G : hG) (S S1 : HS) (h : Nat) (l1 : Int32) (l2 : Int32) (l3 : Int32) (l4 : Int32) (l5 : Int32) (r : Int32) (hh : s_X12_late S h l1 l2 l3 l4 l5 = some (r, S1)) : MH l yX12_late wsX12_late rm_X12_late b0 G S [hrf b0 (some h), .int l1, .int l2, .int l3, .int l4, .int l5] (some (.int r)) S1 0 0 := by
  refine MH.ofW (cc := cX12_late) (maxL := 7) (ret := (some .int)) (own := RX12) (lv0 := [(0, hrf b0 ((some h))), (1, .int l1), (2, .int l2), (3, .int l3), (4, .int l4), (5, .int l5)]) (by decide) rfl rfl (Nat.le_of_ble_eq_true rfl) rfl ?_
  intro p e s m args below meth c E hrt hlk hnm
  have hh : (kwI S ((some h)) 12 0 0 (fun S1 => kO S1 ((some h)) 12 (fun a4 => kc (s_X12_isAsked S1 a4 l1 l2 l3 l4 l5) (fun v3 S2 => if v3 = 0 then (some ((-1000001), S2)) else (s_X12_late_L25 h 100000 S2 l1 l2 l3 l4 l5 0))))) = some (r, S1) := hh
  refine rw_aload_n E (j0 := 0) rfl rfl dX12_late_0 ?_
  refine rw_iconst E (v := 0) (by decide) dX12_late_1 ?_
  refine rw_putI E hh (C := RX12) (T := TX12) (N := 32) (ty0 := tyX12) rfl tyX12_ok nmX12 (by decide) i_X12_late_12 (by decide) rfl (List.mem_of_getElem? (i := 1) (by decide +kernel)) rfl (Or.inl rfl) rfl dX12_late_2 (fun S1 hh => ?_)
  refine rw_aload_n E (j0 := 0) rfl rfl dX12_late_5 ?_
  refine rw_iload_n E (j0 := 1) rfl rfl dX12_late_6 ?_
  refine rw_iload_n E (j0 := 2) rfl rfl dX12_late_7 ?_
  refine rw_iload_n E (j0 := 3) rfl rfl dX12_late_8 ?_
  refine rw_iload E (j0 := 4) rfl dX12_late_9 ?_
  refine rw_iload E (j0 := 5) rfl dX12_late_11 ?_
  refine rw_cVi E (As := [.int l1, .int l2, .int l3, .int l4, .int l5]) hh (by decide) rfl (fun _ _ _ hq => c_X12_isAsked l b0 G _ _ _ _ _ _ _ _ _ hq) (cwV 5 E.2.2.2.2.1 gX12_late_X12_isAsked rfl rfl rfl (by decide +kernel) ⟨Nat.le_of_ble_eq_true rfl, Nat.le_of_ble_eq_true rfl⟩) rfl rfl (by (try simp only [List.map_cons, List.map_nil, List.sum_cons, List.sum_nil, hrf_cat, cat_i, cat_l, cat_r]) <;> decide) ⟨Nat.le_of_ble_eq_true rfl, Nat.le_of_ble_eq_true rfl⟩ dX12_late_13 (fun v3 S2 hh => ?_)
  refine rw_if_ne E hh (tgt := 22) (by decide) dX12_late_16 (fun hh => ?_) (fun hh => ?_)
  · refine rw_iconst E (v := 0) (by decide) dX12_late_22 ?_
    refine rw_istore E (lv2 := [(6, .int 0), (0, hrf b0 ((some h))), (1, .int l1), (2, .int l2), (3, .int l3), (4, .int l4), (5, .int l5)]) (by decide) rfl dX12_late_23 ?_
    refine WH.pick [1, 2, 3, 4, 5, 6, 0] rfl ?_
    exact w_X12_late_L25 E hrt hlk 100000 _ _ _ _ _ _ _ hh
  · refine rw_ldc E (v := (-1000001)) (List.mem_of_getElem? (i := 2) (by decide +kernel)) dX12_late_19 ?_
    exact rw_iret E hrt hlk hh (by decide) (by decide) dX12_late_21

/-! HummingDiscModel.parts(IIIII)I -/
abbrev rm_X12_parts : Room := { frames := 5, cells := 0, slots := 0, locals := 120 }
theorem i_X12_parts_12 : ∀ w ∈ wsX120, w ∈ wsX12_parts := fun _ h => List.mem_cons_of_mem _ (List.mem_append_right _ (h))
def s_X12_parts_b76 (j45 : HS → Int32 → Int32 → Int32 → Int32 → Int64 → Int32 → Option (Int32 × HS)) (h : Nat) (S : HS) (l1 : Int32) (l2 : Int32) (l4 : Int32) (l5 : Int32) (l6 : Int64) (l8 : Int32) (k0 : Option Nat) (k1 : Int32) (k2 : Int32) (k3 : Int32) : Option (Int32 × HS) := kO S k0 12 (fun a2 => kcv (s_X12_tick S a2 k1 k2 k3 0) (fun S1 => kI S1 ((some h)) 12 22 (fun v3 => kI S1 ((some h)) 12 22 (fun v4 => if l6 + (v3.toInt64 * v4.toInt64) < 10 * l5.toInt64 then (j45 S1 l1 l2 l4 l5 (l6 + (v3.toInt64 * v4.toInt64)) (l8 + 1)) else (some (l8, S1))))))
set_option maxHeartbeats 4000000 in
set_option maxRecDepth 100000 in
theorem w_X12_parts_b76 {p : Program} {l : Launch} {e : Env} {s : State} {m : MethodId} {args : Array Value} {below : List Frame} {meth : Method} {c : Code} {b0 : Nat} {G : hG} {S1 : HS} {r : Int32} {j45 : HS → Int32 → Int32 → Int32 → Int32 → Int64 → Int32 → Option (Int32 × HS)} {h : Nat} {S : HS} {l1 : Int32} {l2 : Int32} {l4 : Int32} {l5 : Int32} {l6 : Int64} {l8 : Int32} {k0 : Option Nat} {k1 : Int32} {k2 : Int32} {k3 : Int32} (E : hE p s m args c b0 G cX12_parts RX12 9 wsX12_parts) (hrt : meth.sig.returnType = (some .int)) (hlk : meth.locks = false) (hj45 : ∀ (S : HS) (l1 : Int32) (l2 : Int32) (l4 : Int32) (l5 : Int32) (l6 : Int64) (l8 : Int32), j45 S l1 l2 l4 l5 l6 l8 = some (r, S1) → WH p l e rm_X12_parts s m args below meth c b0 G 9 0 0 (MQ below (hQ b0 G (some (.int r)) S1) args s 0 0 (hA b0)) S 45 [(0, hrf b0 ((some h))), (1, .int l1), (2, .int l2), (4, .int l4), (5, .int l5), (6, .long l6), (8, .int l8)] []) (hh : s_X12_parts_b76 j45 h S l1 l2 l4 l5 l6 l8 k0 k1 k2 k3 = some (r, S1)) : WH p l e rm_X12_parts s m args below meth c b0 G 9 0 0 (MQ below (hQ b0 G (some (.int r)) S1) args s 0 0 (hA b0)) S 76 [(0, hrf b0 ((some h))), (1, .int l1), (2, .int l2), (4, .int l4), (5, .int l5), (6, .long l6), (8, .int l8)] [.int k3, .int k2, .int k1, hrf b0 k0] := by
  have hh : (kO S k0 12 (fun a2 => kcv (s_X12_tick S a2 k1 k2 k3 0) (fun S1 => kI S1 ((some h)) 12 22 (fun v3 => kI S1 ((some h)) 12 22 (fun v4 => if l6 + (v3.toInt64 * v4.toInt64) < 10 * l5.toInt64 then (j45 S1 l1 l2 l4 l5 (l6 + (v3.toInt64 * v4.toInt64)) (l8 + 1)) else (some (l8, S1))))))) = some (r, S1) := hh
  refine rw_iconst E (v := 0) (by decide) dX12_parts_76 ?_
  refine rw_cVv E (As := [.int k1, .int k2, .int k3, .int 0]) hh (by decide) rfl (fun _ _ hq => c_X12_tick l b0 G _ _ _ _ _ _ _ hq) (cwV 4 E.2.2.2.2.1 gX12_parts_X12_tick rfl rfl rfl (by decide +kernel) ⟨Nat.le_of_ble_eq_true rfl, Nat.le_of_ble_eq_true rfl⟩) rfl rfl (by (try simp only [List.map_cons, List.map_nil, List.sum_cons, List.sum_nil, hrf_cat, cat_i, cat_l, cat_r]) <;> decide) ⟨Nat.le_of_ble_eq_true rfl, Nat.le_of_ble_eq_true rfl⟩ dX12_parts_77 (fun S1 hh => ?_)
  refine rw_lload E (j0 := 5) rfl dX12_parts_80 ?_
  refine rw_aload_n E (j0 := 0) rfl rfl dX12_parts_82 ?_
  refine rw_getI E hh (C := RX12) (T := TX12) (N := 32) rfl (by decide) i_X12_parts_12 (by decide) rfl (List.mem_of_getElem? (i := 5) (by decide +kernel)) rfl dX12_parts_83 (fun v3 hh => ?_)
  refine rw_i2l E dX12_parts_86 ?_
  refine rw_aload_n E (j0 := 0) rfl rfl dX12_parts_87 ?_
  refine rw_getI E hh (C := RX12) (T := TX12) (N := 32) rfl (by decide) i_X12_parts_12 (by decide) rfl (List.mem_of_getElem? (i := 5) (by decide +kernel)) rfl dX12_parts_88 (fun v4 hh => ?_)
  refine rw_i2l E dX12_parts_91 ?_
  refine rw_lmul E dX12_parts_92 ?_
  refine rw_ladd E dX12_parts_93 ?_
  refine rw_lstore E (lv2 := [(6, .long (l6 + (v3.toInt64 * v4.toInt64))), (0, hrf b0 ((some h))), (1, .int l1), (2, .int l2), (4, .int l4), (5, .int l5), (8, .int l8)]) (by decide) rfl dX12_parts_94 ?_
  refine rw_lload E (j0 := 0) rfl dX12_parts_96 ?_
  refine rw_ldc2 E (v := 10) (List.mem_of_getElem? (i := 6) (by decide +kernel)) dX12_parts_98 ?_
  refine rw_iload E (j0 := 5) rfl dX12_parts_101 ?_
  refine rw_i2l E dX12_parts_103 ?_
  refine rw_lmul E dX12_parts_104 ?_
  refine rw_llt E hh (tgt := 112) (by decide) dX12_parts_105 dX12_parts_106 (fun hh => ?_) (fun hh => ?_)
  · refine rw_iinc E (v := l8 + 1) (lv2 := [(8, .int (l8 + 1)), (6, .long (l6 + (v3.toInt64 * v4.toInt64))), (0, hrf b0 ((some h))), (1, .int l1), (2, .int l2), (4, .int l4), (5, .int l5)]) (j0 := 6) rfl rfl (by decide) rfl dX12_parts_112 ?_
    refine rw_goto E (tgt := 45) (by decide) dX12_parts_115 ?_
    refine WH.pick [2, 3, 4, 5, 6, 1, 0] rfl ?_
    exact hj45 _ _ _ _ _ _ _ hh
  · refine rw_iload E (j0 := 6) rfl dX12_parts_109 ?_
    exact rw_iret E hrt hlk hh (by decide) (by decide) dX12_parts_111
def s_X12_parts_b45 (j45 : HS → Int32 → Int32 → Int32 → Int32 → Int64 → Int32 → Option (Int32 × HS)) (h : Nat) (S : HS) (l1 : Int32) (l2 : Int32) (l4 : Int32) (l5 : Int32) (l6 : Int64) (l8 : Int32) : Option (Int32 × HS) := if 500 < l8 then (some ((-1000000), S)) else (kI S ((some h)) 12 21 (fun v1 => if v1 = 0 then (kO S ((some h)) 12 (fun a4 => kc (s_X12_unwinds S a4 ) (fun v3 S2 => if v3 = 0 then (s_X12_parts_b76 j45 h S2 l1 l2 l4 l5 l6 l8 ((some h)) l1 l2 0) else (s_X12_parts_b76 j45 h S2 l1 l2 l4 l5 l6 l8 ((some h)) l1 l2 l4)))) else (some ((-1000000), S))))
set_option maxHeartbeats 4000000 in
set_option maxRecDepth 100000 in
theorem w_X12_parts_b45 {p : Program} {l : Launch} {e : Env} {s : State} {m : MethodId} {args : Array Value} {below : List Frame} {meth : Method} {c : Code} {b0 : Nat} {G : hG} {S1 : HS} {r : Int32} {j45 : HS → Int32 → Int32 → Int32 → Int32 → Int64 → Int32 → Option (Int32 × HS)} {h : Nat} {S : HS} {l1 : Int32} {l2 : Int32} {l4 : Int32} {l5 : Int32} {l6 : Int64} {l8 : Int32} (E : hE p s m args c b0 G cX12_parts RX12 9 wsX12_parts) (hrt : meth.sig.returnType = (some .int)) (hlk : meth.locks = false) (hj45 : ∀ (S : HS) (l1 : Int32) (l2 : Int32) (l4 : Int32) (l5 : Int32) (l6 : Int64) (l8 : Int32), j45 S l1 l2 l4 l5 l6 l8 = some (r, S1) → WH p l e rm_X12_parts s m args below meth c b0 G 9 0 0 (MQ below (hQ b0 G (some (.int r)) S1) args s 0 0 (hA b0)) S 45 [(0, hrf b0 ((some h))), (1, .int l1), (2, .int l2), (4, .int l4), (5, .int l5), (6, .long l6), (8, .int l8)] []) (hh : s_X12_parts_b45 j45 h S l1 l2 l4 l5 l6 l8 = some (r, S1)) : WH p l e rm_X12_parts s m args below meth c b0 G 9 0 0 (MQ below (hQ b0 G (some (.int r)) S1) args s 0 0 (hA b0)) S 45 [(0, hrf b0 ((some h))), (1, .int l1), (2, .int l2), (4, .int l4), (5, .int l5), (6, .long l6), (8, .int l8)] [] := by
  have hh : (if 500 < l8 then (some ((-1000000), S)) else (kI S ((some h)) 12 21 (fun v1 => if v1 = 0 then (kO S ((some h)) 12 (fun a4 => kc (s_X12_unwinds S a4 ) (fun v3 S2 => if v3 = 0 then (s_X12_parts_b76 j45 h S2 l1 l2 l4 l5 l6 l8 ((some h)) l1 l2 0) else (s_X12_parts_b76 j45 h S2 l1 l2 l4 l5 l6 l8 ((some h)) l1 l2 l4)))) else (some ((-1000000), S))))) = some (r, S1) := hh
  refine rw_iload E (j0 := 6) rfl dX12_parts_45 ?_
  refine rw_sipush E (v := 500) (by decide) dX12_parts_47 ?_
  refine rw_icmp_gt E hh (tgt := 118) (by decide) dX12_parts_50 (fun hh => ?_) (fun hh => ?_)
  · refine rw_ldc E (v := (-1000000)) (List.mem_of_getElem? (i := 7) (by decide +kernel)) dX12_parts_118 ?_
    exact rw_iret E hrt hlk hh (by decide) (by decide) dX12_parts_120
  · refine rw_aload_n E (j0 := 0) rfl rfl dX12_parts_53 ?_
    refine rw_getI E hh (C := RX12) (T := TX12) (N := 32) rfl (by decide) i_X12_parts_12 (by decide) rfl (List.mem_of_getElem? (i := 4) (by decide +kernel)) rfl dX12_parts_54 (fun v1 hh => ?_)
    refine rw_if_ne E hh (tgt := 118) (by decide) dX12_parts_57 (fun hh => ?_) (fun hh => ?_)
    · refine rw_ldc E (v := (-1000000)) (List.mem_of_getElem? (i := 7) (by decide +kernel)) dX12_parts_118 ?_
      exact rw_iret E hrt hlk hh (by decide) (by decide) dX12_parts_120
    · refine rw_aload_n E (j0 := 0) rfl rfl dX12_parts_60 ?_
      refine rw_iload_n E (j0 := 1) rfl rfl dX12_parts_61 ?_
      refine rw_iload_n E (j0 := 2) rfl rfl dX12_parts_62 ?_
      refine rw_aload_n E (j0 := 0) rfl rfl dX12_parts_63 ?_
      refine rw_cVi E (As := []) hh (by decide) rfl (fun _ _ _ hq => c_X12_unwinds l b0 G _ _ _ _ hq) (cwV 0 E.2.2.2.2.1 gX12_parts_X12_unwinds rfl rfl rfl (by decide +kernel) ⟨Nat.le_of_ble_eq_true rfl, Nat.le_of_ble_eq_true rfl⟩) rfl rfl (by (try simp only [List.map_cons, List.map_nil, List.sum_cons, List.sum_nil, hrf_cat, cat_i, cat_l, cat_r]) <;> decide) ⟨Nat.le_of_ble_eq_true rfl, Nat.le_of_ble_eq_true rfl⟩ dX12_parts_64 (fun v3 S2 hh => ?_)
      refine rw_if_eq E hh (tgt := 75) (by decide) dX12_parts_67 (fun hh => ?_) (fun hh => ?_)
      · refine rw_iconst E (v := 0) (by decide) dX12_parts_75 ?_
        refine WH.pick [0, 1, 2, 3, 4, 5, 6] rfl ?_
        exact w_X12_parts_b76 E hrt hlk hj45 hh
      · refine rw_iload E (j0 := 3) rfl dX12_parts_70 ?_
        refine rw_goto E (tgt := 76) (by decide) dX12_parts_72 ?_
        refine WH.pick [0, 1, 2, 3, 4, 5, 6] rfl ?_
        exact w_X12_parts_b76 E hrt hlk hj45 hh
def s_X12_parts_L45 (h : Nat) : Nat → HS → Int32 → Int32 → Int32 → Int32 → Int64 → Int32 → Option (Int32 × HS)
  | 0 => fun _ _ _ _ _ _ _ => none
  | n + 1 => s_X12_parts_b45 (s_X12_parts_L45 h n) h
set_option maxHeartbeats 4000000 in
set_option maxRecDepth 100000 in
theorem w_X12_parts_L45 {p : Program} {l : Launch} {e : Env} {s : State} {m : MethodId} {args : Array Value} {below : List Frame} {meth : Method} {c : Code} {b0 : Nat} {G : hG} {S1 : HS} {r : Int32} {h : Nat} (E : hE p s m args c b0 G cX12_parts RX12 9 wsX12_parts) (hrt : meth.sig.returnType = (some .int)) (hlk : meth.locks = false) : ∀ (n : Nat) (S : HS) (l1 : Int32) (l2 : Int32) (l4 : Int32) (l5 : Int32) (l6 : Int64) (l8 : Int32), s_X12_parts_L45 h n S l1 l2 l4 l5 l6 l8 = some (r, S1) → WH p l e rm_X12_parts s m args below meth c b0 G 9 0 0 (MQ below (hQ b0 G (some (.int r)) S1) args s 0 0 (hA b0)) S 45 [(0, hrf b0 ((some h))), (1, .int l1), (2, .int l2), (4, .int l4), (5, .int l5), (6, .long l6), (8, .int l8)] [] := by
  intro n
  induction n with
  | zero => intro _ _ _ _ _ _ _ hh; exact absurd hh (by simp [s_X12_parts_L45])
  | succ n ih => intro _ _ _ _ _ _ _ hh; exact w_X12_parts_b45 E hrt hlk  ih hh
def s_X12_parts (S : HS) (h : Nat) (l1 : Int32) (l2 : Int32) (l3 : Int32) (l4 : Int32) (l5 : Int32) : Option (Int32 × HS) := kwI S ((some h)) 12 0 0 (fun S1 => kO S1 ((some h)) 12 (fun a4 => kc (s_X12_isAsked S1 a4 l1 l2 l3 l4 1) (fun v3 S2 => if v3 = 0 then (some ((-1000001), S2)) else (kc (s_X12_in S2 l5.toInt64 1 999999) (fun v6 S5 => if v6 = 0 then (some ((-1000001), S5)) else (kO S5 ((some h)) 12 (fun a8 => kcv (s_X12_rest S5 a8 l3) (fun S7 => s_X12_parts_L45 h 100000 S7 l1 l2 l4 l5 0 1))))))))
set_option maxHeartbeats 4000000 in
set_option maxRecDepth 100000 in
theorem c_X12_parts (l : Launch) (b0 : Nat) (G : hG) (S S1 : HS) (h : Nat) (l1 : Int32) (l2 : Int32) (l3 : Int32) (l4 : Int32) (l5 : Int32) (r : Int32) (hh : s_X12_parts S h l1 l2 l3 l4 l5 = some (r, S1)) : MH l yX12_parts wsX12_parts rm_X12_parts b0 G S [hrf b0 (some h), .int l1, .int l2, .int l3, .int l4, .int l5] (some (.int r)) S1 0 0 := by
  refine MH.ofW (cc := cX12_parts) (maxL := 9) (ret := (some .int)) (own := RX12) (lv0 := [(0, hrf b0 ((some h))), (1, .int l1), (2, .int l2), (3, .int l3), (4, .int l4), (5, .int l5)]) (by decide) rfl rfl (Nat.le_of_ble_eq_true rfl) rfl ?_
  intro p e s m args below meth c E hrt hlk hnm
  have hh : (kwI S ((some h)) 12 0 0 (fun S1 => kO S1 ((some h)) 12 (fun a4 => kc (s_X12_isAsked S1 a4 l1 l2 l3 l4 1) (fun v3 S2 => if v3 = 0 then (some ((-1000001), S2)) else (kc (s_X12_in S2 l5.toInt64 1 999999) (fun v6 S5 => if v6 = 0 then (some ((-1000001), S5)) else (kO S5 ((some h)) 12 (fun a8 => kcv (s_X12_rest S5 a8 l3) (fun S7 => s_X12_parts_L45 h 100000 S7 l1 l2 l4 l5 0 1))))))))) = some (r, S1) := hh
  refine rw_aload_n E (j0 := 0) rfl rfl dX12_parts_0 ?_
  refine rw_iconst E (v := 0) (by decide) dX12_parts_1 ?_
  refine rw_putI E hh (C := RX12) (T := TX12) (N := 32) (ty0 := tyX12) rfl tyX12_ok nmX12 (by decide) i_X12_parts_12 (by decide) rfl (List.mem_of_getElem? (i := 1) (by decide +kernel)) rfl (Or.inl rfl) rfl dX12_parts_2 (fun S1 hh => ?_)
  refine rw_aload_n E (j0 := 0) rfl rfl dX12_parts_5 ?_
  refine rw_iload_n E (j0 := 1) rfl rfl dX12_parts_6 ?_
  refine rw_iload_n E (j0 := 2) rfl rfl dX12_parts_7 ?_
  refine rw_iload_n E (j0 := 3) rfl rfl dX12_parts_8 ?_
  refine rw_iload E (j0 := 4) rfl dX12_parts_9 ?_
  refine rw_iconst E (v := 1) (by decide) dX12_parts_11 ?_
  refine rw_cVi E (As := [.int l1, .int l2, .int l3, .int l4, .int 1]) hh (by decide) rfl (fun _ _ _ hq => c_X12_isAsked l b0 G _ _ _ _ _ _ _ _ _ hq) (cwV 5 E.2.2.2.2.1 gX12_parts_X12_isAsked rfl rfl rfl (by decide +kernel) ⟨Nat.le_of_ble_eq_true rfl, Nat.le_of_ble_eq_true rfl⟩) rfl rfl (by (try simp only [List.map_cons, List.map_nil, List.sum_cons, List.sum_nil, hrf_cat, cat_i, cat_l, cat_r]) <;> decide) ⟨Nat.le_of_ble_eq_true rfl, Nat.le_of_ble_eq_true rfl⟩ dX12_parts_12 (fun v3 S2 hh => ?_)
  refine rw_if_eq E hh (tgt := 31) (by decide) dX12_parts_15 (fun hh => ?_) (fun hh => ?_)
  · refine rw_ldc E (v := (-1000001)) (List.mem_of_getElem? (i := 3) (by decide +kernel)) dX12_parts_31 ?_
    exact rw_iret E hrt hlk hh (by decide) (by decide) dX12_parts_33
  · refine rw_iload E (j0 := 5) rfl dX12_parts_18 ?_
    refine rw_i2l E dX12_parts_20 ?_
    refine rw_lconst E (v := 1) (by decide) dX12_parts_21 ?_
    refine rw_ldc2 E (v := 999999) (List.mem_of_getElem? (i := 2) (by decide +kernel)) dX12_parts_22 ?_
    refine rw_cSi E (As := [.long l5.toInt64, .long 1, .long 999999]) hh (fun _ _ hq => c_X12_in l b0 G _ _ _ _ _ _ hq) (va_cwS 3 E.2.2.2.2.1 gX12_parts_X12_in rfl rfl rfl (by decide +kernel) ⟨Nat.le_of_ble_eq_true rfl, Nat.le_of_ble_eq_true rfl⟩) rfl rfl (by (try simp only [List.map_cons, List.map_nil, List.sum_cons, List.sum_nil, hrf_cat, cat_i, cat_l, cat_r]) <;> decide) ⟨Nat.le_of_ble_eq_true rfl, Nat.le_of_ble_eq_true rfl⟩ dX12_parts_25 (fun v6 S5 hh => ?_)
    refine rw_if_ne E hh (tgt := 34) (by decide) dX12_parts_28 (fun hh => ?_) (fun hh => ?_)
    · refine rw_aload_n E (j0 := 0) rfl rfl dX12_parts_34 ?_
      refine rw_iload_n E (j0 := 3) rfl rfl dX12_parts_35 ?_
      refine rw_cVv E (As := [.int l3]) hh (by decide) rfl (fun _ _ hq => c_X12_rest l b0 G _ _ _ _ hq) (cwV 1 E.2.2.2.2.1 gX12_parts_X12_rest rfl rfl rfl (by decide +kernel) ⟨Nat.le_of_ble_eq_true rfl, Nat.le_of_ble_eq_true rfl⟩) rfl rfl (by (try simp only [List.map_cons, List.map_nil, List.sum_cons, List.sum_nil, hrf_cat, cat_i, cat_l, cat_r]) <;> decide) ⟨Nat.le_of_ble_eq_true rfl, Nat.le_of_ble_eq_true rfl⟩ dX12_parts_36 (fun S7 hh => ?_)
      refine rw_lconst E (v := 0) (by decide) dX12_parts_39 ?_
      refine rw_lstore E (lv2 := [(6, .long 0), (0, hrf b0 ((some h))), (1, .int l1), (2, .int l2), (3, .int l3), (4, .int l4), (5, .int l5)]) (by decide) rfl dX12_parts_40 ?_
      refine rw_iconst E (v := 1) (by decide) dX12_parts_42 ?_
      refine rw_istore E (lv2 := [(8, .int 1), (6, .long 0), (0, hrf b0 ((some h))), (1, .int l1), (2, .int l2), (3, .int l3), (4, .int l4), (5, .int l5)]) (by decide) rfl dX12_parts_43 ?_
      refine WH.pick [2, 3, 4, 6, 7, 1, 0] rfl ?_
      exact w_X12_parts_L45 E hrt hlk 100000 _ _ _ _ _ _ _ hh
    · refine rw_ldc E (v := (-1000001)) (List.mem_of_getElem? (i := 3) (by decide +kernel)) dX12_parts_31 ?_
      exact rw_iret E hrt hlk hh (by decide) (by decide) dX12_parts_33

/-! HummingDiscModel.shines(IIIIII)Z -/
abbrev rm_X12_shines : Room := { frames := 5, cells := 0, slots := 0, locals := 120 }
theorem i_X12_shines_12 : ∀ w ∈ wsX120, w ∈ wsX12_shines := fun _ h => List.mem_cons_of_mem _ (List.mem_append_right _ (h))
def s_X12_shines_b60 (j11 : HS → Int32 → Int32 → Int32 → Int32 → Int32 → Int32 → Int32 → Option (Int32 × HS)) (h : Nat) (S : HS) (l1 : Int32) (l2 : Int32) (l4 : Int32) (l5 : Int32) (l6 : Int32) (l8 : Int32) (k0 : Int32) (k1 : Int32) : Option (Int32 × HS) := j11 S l1 l2 l4 l5 l6 (k0 + k1) (l8 + 1)
set_option maxHeartbeats 4000000 in
set_option maxRecDepth 100000 in
theorem w_X12_shines_b60 {p : Program} {l : Launch} {e : Env} {s : State} {m : MethodId} {args : Array Value} {below : List Frame} {meth : Method} {c : Code} {b0 : Nat} {G : hG} {S1 : HS} {r : Int32} {j11 : HS → Int32 → Int32 → Int32 → Int32 → Int32 → Int32 → Int32 → Option (Int32 × HS)} {h : Nat} {S : HS} {l1 : Int32} {l2 : Int32} {l4 : Int32} {l5 : Int32} {l6 : Int32} {l8 : Int32} {k0 : Int32} {k1 : Int32} (E : hE p s m args c b0 G cX12_shines RX12 9 wsX12_shines) (hrt : meth.sig.returnType = (some .boolean)) (hlk : meth.locks = false) (hj11 : ∀ (S : HS) (l1 : Int32) (l2 : Int32) (l4 : Int32) (l5 : Int32) (l6 : Int32) (l7 : Int32) (l8 : Int32), j11 S l1 l2 l4 l5 l6 l7 l8 = some (r, S1) → WH p l e rm_X12_shines s m args below meth c b0 G 9 0 0 (MQ below (hQ b0 G (some (.int r)) S1) args s 0 0 (hA b0)) S 11 [(0, hrf b0 ((some h))), (1, .int l1), (2, .int l2), (4, .int l4), (5, .int l5), (6, .int l6), (7, .int l7), (8, .int l8)] []) (hh : s_X12_shines_b60 j11 h S l1 l2 l4 l5 l6 l8 k0 k1 = some (r, S1)) : WH p l e rm_X12_shines s m args below meth c b0 G 9 0 0 (MQ below (hQ b0 G (some (.int r)) S1) args s 0 0 (hA b0)) S 60 [(0, hrf b0 ((some h))), (1, .int l1), (2, .int l2), (4, .int l4), (5, .int l5), (6, .int l6), (8, .int l8)] [.int k1, .int k0] := by
  have hh : (j11 S l1 l2 l4 l5 l6 (k0 + k1) (l8 + 1)) = some (r, S1) := hh
  refine rw_iadd E dX12_shines_60 ?_
  refine rw_istore E (lv2 := [(7, .int (k0 + k1)), (0, hrf b0 ((some h))), (1, .int l1), (2, .int l2), (4, .int l4), (5, .int l5), (6, .int l6), (8, .int l8)]) (by decide) rfl dX12_shines_61 ?_
  refine rw_iinc E (v := l8 + 1) (lv2 := [(8, .int (l8 + 1)), (7, .int (k0 + k1)), (0, hrf b0 ((some h))), (1, .int l1), (2, .int l2), (4, .int l4), (5, .int l5), (6, .int l6)]) (j0 := 7) rfl rfl (by decide) rfl dX12_shines_63 ?_
  refine rw_goto E (tgt := 11) (by decide) dX12_shines_66 ?_
  refine WH.pick [2, 3, 4, 5, 6, 7, 1, 0] rfl ?_
  exact hj11 _ _ _ _ _ _ _ _ hh
def s_X12_shines_b41 (j11 : HS → Int32 → Int32 → Int32 → Int32 → Int32 → Int32 → Int32 → Option (Int32 × HS)) (h : Nat) (S : HS) (l1 : Int32) (l2 : Int32) (l4 : Int32) (l5 : Int32) (l6 : Int32) (l7 : Int32) (l8 : Int32) (k0 : Option Nat) (k1 : Int32) (k2 : Int32) (k3 : Int32) : Option (Int32 × HS) := kO S k0 12 (fun a2 => kcv (s_X12_tick S a2 k1 k2 k3 l6) (fun S1 => kI S1 ((some h)) 12 23 (fun v3 => if v3 = 0 then (s_X12_shines_b60 j11 h S1 l1 l2 l4 l5 l6 l8 l7 0) else (s_X12_shines_b60 j11 h S1 l1 l2 l4 l5 l6 l8 l7 1))))
set_option maxHeartbeats 4000000 in
set_option maxRecDepth 100000 in
theorem w_X12_shines_b41 {p : Program} {l : Launch} {e : Env} {s : State} {m : MethodId} {args : Array Value} {below : List Frame} {meth : Method} {c : Code} {b0 : Nat} {G : hG} {S1 : HS} {r : Int32} {j11 : HS → Int32 → Int32 → Int32 → Int32 → Int32 → Int32 → Int32 → Option (Int32 × HS)} {h : Nat} {S : HS} {l1 : Int32} {l2 : Int32} {l4 : Int32} {l5 : Int32} {l6 : Int32} {l7 : Int32} {l8 : Int32} {k0 : Option Nat} {k1 : Int32} {k2 : Int32} {k3 : Int32} (E : hE p s m args c b0 G cX12_shines RX12 9 wsX12_shines) (hrt : meth.sig.returnType = (some .boolean)) (hlk : meth.locks = false) (hj11 : ∀ (S : HS) (l1 : Int32) (l2 : Int32) (l4 : Int32) (l5 : Int32) (l6 : Int32) (l7 : Int32) (l8 : Int32), j11 S l1 l2 l4 l5 l6 l7 l8 = some (r, S1) → WH p l e rm_X12_shines s m args below meth c b0 G 9 0 0 (MQ below (hQ b0 G (some (.int r)) S1) args s 0 0 (hA b0)) S 11 [(0, hrf b0 ((some h))), (1, .int l1), (2, .int l2), (4, .int l4), (5, .int l5), (6, .int l6), (7, .int l7), (8, .int l8)] []) (hh : s_X12_shines_b41 j11 h S l1 l2 l4 l5 l6 l7 l8 k0 k1 k2 k3 = some (r, S1)) : WH p l e rm_X12_shines s m args below meth c b0 G 9 0 0 (MQ below (hQ b0 G (some (.int r)) S1) args s 0 0 (hA b0)) S 41 [(0, hrf b0 ((some h))), (1, .int l1), (2, .int l2), (4, .int l4), (5, .int l5), (6, .int l6), (7, .int l7), (8, .int l8)] [.int k3, .int k2, .int k1, hrf b0 k0] := by
  have hh : (kO S k0 12 (fun a2 => kcv (s_X12_tick S a2 k1 k2 k3 l6) (fun S1 => kI S1 ((some h)) 12 23 (fun v3 => if v3 = 0 then (s_X12_shines_b60 j11 h S1 l1 l2 l4 l5 l6 l8 l7 0) else (s_X12_shines_b60 j11 h S1 l1 l2 l4 l5 l6 l8 l7 1))))) = some (r, S1) := hh
  refine rw_iload E (j0 := 5) rfl dX12_shines_41 ?_
  refine rw_cVv E (As := [.int k1, .int k2, .int k3, .int l6]) hh (by decide) rfl (fun _ _ hq => c_X12_tick l b0 G _ _ _ _ _ _ _ hq) (cwV 4 E.2.2.2.2.1 gX12_shines_X12_tick rfl rfl rfl (by decide +kernel) ⟨Nat.le_of_ble_eq_true rfl, Nat.le_of_ble_eq_true rfl⟩) rfl rfl (by (try simp only [List.map_cons, List.map_nil, List.sum_cons, List.sum_nil, hrf_cat, cat_i, cat_l, cat_r]) <;> decide) ⟨Nat.le_of_ble_eq_true rfl, Nat.le_of_ble_eq_true rfl⟩ dX12_shines_43 (fun S1 hh => ?_)
  refine rw_iload E (j0 := 6) rfl dX12_shines_46 ?_
  refine rw_aload_n E (j0 := 0) rfl rfl dX12_shines_48 ?_
  refine rw_getI E hh (C := RX12) (T := TX12) (N := 32) rfl (by decide) i_X12_shines_12 (by decide) rfl (List.mem_of_getElem? (i := 2) (by decide +kernel)) rfl dX12_shines_49 (fun v3 hh => ?_)
  refine rw_if_eq E hh (tgt := 59) (by decide) dX12_shines_52 (fun hh => ?_) (fun hh => ?_)
  · refine rw_iconst E (v := 0) (by decide) dX12_shines_59 ?_
    refine WH.pick [0, 1, 2, 3, 4, 5, 7] rfl ?_
    exact w_X12_shines_b60 E hrt hlk hj11 hh
  · refine rw_iconst E (v := 1) (by decide) dX12_shines_55 ?_
    refine rw_goto E (tgt := 60) (by decide) dX12_shines_56 ?_
    refine WH.pick [0, 1, 2, 3, 4, 5, 7] rfl ?_
    exact w_X12_shines_b60 E hrt hlk hj11 hh
def s_X12_shines_b69 (h : Nat) (S : HS) (l7 : Int32) : Option (Int32 × HS) := if l7 ≤ 2 then (kzr 0 S) else (kzr 1 S)
set_option maxHeartbeats 4000000 in
set_option maxRecDepth 100000 in
theorem w_X12_shines_b69 {p : Program} {l : Launch} {e : Env} {s : State} {m : MethodId} {args : Array Value} {below : List Frame} {meth : Method} {c : Code} {b0 : Nat} {G : hG} {S1 : HS} {r : Int32} {h : Nat} {S : HS} {l7 : Int32} (E : hE p s m args c b0 G cX12_shines RX12 9 wsX12_shines) (hrt : meth.sig.returnType = (some .boolean)) (hlk : meth.locks = false) (hh : s_X12_shines_b69 h S l7 = some (r, S1)) : WH p l e rm_X12_shines s m args below meth c b0 G 9 0 0 (MQ below (hQ b0 G (some (.int r)) S1) args s 0 0 (hA b0)) S 69 [(7, .int l7)] [] := by
  have hh : (if l7 ≤ 2 then (kzr 0 S) else (kzr 1 S)) = some (r, S1) := hh
  refine rw_iload E (j0 := 0) rfl dX12_shines_69 ?_
  refine rw_iconst E (v := 2) (by decide) dX12_shines_71 ?_
  refine rw_icmp_le E hh (tgt := 79) (by decide) dX12_shines_72 (fun hh => ?_) (fun hh => ?_)
  · refine rw_iconst E (v := 0) (by decide) dX12_shines_79 ?_
    exact rw_zret E hrt hlk hh (by decide) (by decide) dX12_shines_80
  · refine rw_iconst E (v := 1) (by decide) dX12_shines_75 ?_
    refine rw_goto E (tgt := 80) (by decide) dX12_shines_76 ?_
    exact rw_zret E hrt hlk hh (by decide) (by decide) dX12_shines_80
def s_X12_shines_b11 (j11 : HS → Int32 → Int32 → Int32 → Int32 → Int32 → Int32 → Int32 → Option (Int32 × HS)) (h : Nat) (S : HS) (l1 : Int32) (l2 : Int32) (l4 : Int32) (l5 : Int32) (l6 : Int32) (l7 : Int32) (l8 : Int32) : Option (Int32 × HS) := if l5 ≤ l8 then (s_X12_shines_b69 h S l7) else (kI S ((some h)) 12 21 (fun v1 => if v1 = 0 then (kO S ((some h)) 12 (fun a4 => kc (s_X12_unwinds S a4 ) (fun v3 S2 => if v3 = 0 then (s_X12_shines_b41 j11 h S2 l1 l2 l4 l5 l6 l7 l8 ((some h)) l1 l2 0) else (s_X12_shines_b41 j11 h S2 l1 l2 l4 l5 l6 l7 l8 ((some h)) l1 l2 l4)))) else (s_X12_shines_b69 h S l7)))
set_option maxHeartbeats 4000000 in
set_option maxRecDepth 100000 in
theorem w_X12_shines_b11 {p : Program} {l : Launch} {e : Env} {s : State} {m : MethodId} {args : Array Value} {below : List Frame} {meth : Method} {c : Code} {b0 : Nat} {G : hG} {S1 : HS} {r : Int32} {j11 : HS → Int32 → Int32 → Int32 → Int32 → Int32 → Int32 → Int32 → Option (Int32 × HS)} {h : Nat} {S : HS} {l1 : Int32} {l2 : Int32} {l4 : Int32} {l5 : Int32} {l6 : Int32} {l7 : Int32} {l8 : Int32} (E : hE p s m args c b0 G cX12_shines RX12 9 wsX12_shines) (hrt : meth.sig.returnType = (some .boolean)) (hlk : meth.locks = false) (hj11 : ∀ (S : HS) (l1 : Int32) (l2 : Int32) (l4 : Int32) (l5 : Int32) (l6 : Int32) (l7 : Int32) (l8 : Int32), j11 S l1 l2 l4 l5 l6 l7 l8 = some (r, S1) → WH p l e rm_X12_shines s m args below meth c b0 G 9 0 0 (MQ below (hQ b0 G (some (.int r)) S1) args s 0 0 (hA b0)) S 11 [(0, hrf b0 ((some h))), (1, .int l1), (2, .int l2), (4, .int l4), (5, .int l5), (6, .int l6), (7, .int l7), (8, .int l8)] []) (hh : s_X12_shines_b11 j11 h S l1 l2 l4 l5 l6 l7 l8 = some (r, S1)) : WH p l e rm_X12_shines s m args below meth c b0 G 9 0 0 (MQ below (hQ b0 G (some (.int r)) S1) args s 0 0 (hA b0)) S 11 [(0, hrf b0 ((some h))), (1, .int l1), (2, .int l2), (4, .int l4), (5, .int l5), (6, .int l6), (7, .int l7), (8, .int l8)] [] := by
  have hh : (if l5 ≤ l8 then (s_X12_shines_b69 h S l7) else (kI S ((some h)) 12 21 (fun v1 => if v1 = 0 then (kO S ((some h)) 12 (fun a4 => kc (s_X12_unwinds S a4 ) (fun v3 S2 => if v3 = 0 then (s_X12_shines_b41 j11 h S2 l1 l2 l4 l5 l6 l7 l8 ((some h)) l1 l2 0) else (s_X12_shines_b41 j11 h S2 l1 l2 l4 l5 l6 l7 l8 ((some h)) l1 l2 l4)))) else (s_X12_shines_b69 h S l7)))) = some (r, S1) := hh
  refine rw_iload E (j0 := 7) rfl dX12_shines_11 ?_
  refine rw_iload E (j0 := 4) rfl dX12_shines_13 ?_
  refine rw_icmp_ge E hh (tgt := 69) (by decide) dX12_shines_15 (fun hh => ?_) (fun hh => ?_)
  · refine WH.pick [6] rfl ?_
    exact w_X12_shines_b69 E hrt hlk hh
  · refine rw_aload_n E (j0 := 0) rfl rfl dX12_shines_18 ?_
    refine rw_getI E hh (C := RX12) (T := TX12) (N := 32) rfl (by decide) i_X12_shines_12 (by decide) rfl (List.mem_of_getElem? (i := 1) (by decide +kernel)) rfl dX12_shines_19 (fun v1 hh => ?_)
    refine rw_if_ne E hh (tgt := 69) (by decide) dX12_shines_22 (fun hh => ?_) (fun hh => ?_)
    · refine WH.pick [6] rfl ?_
      exact w_X12_shines_b69 E hrt hlk hh
    · refine rw_aload_n E (j0 := 0) rfl rfl dX12_shines_25 ?_
      refine rw_iload_n E (j0 := 1) rfl rfl dX12_shines_26 ?_
      refine rw_iload_n E (j0 := 2) rfl rfl dX12_shines_27 ?_
      refine rw_aload_n E (j0 := 0) rfl rfl dX12_shines_28 ?_
      refine rw_cVi E (As := []) hh (by decide) rfl (fun _ _ _ hq => c_X12_unwinds l b0 G _ _ _ _ hq) (cwV 0 E.2.2.2.2.1 gX12_shines_X12_unwinds rfl rfl rfl (by decide +kernel) ⟨Nat.le_of_ble_eq_true rfl, Nat.le_of_ble_eq_true rfl⟩) rfl rfl (by (try simp only [List.map_cons, List.map_nil, List.sum_cons, List.sum_nil, hrf_cat, cat_i, cat_l, cat_r]) <;> decide) ⟨Nat.le_of_ble_eq_true rfl, Nat.le_of_ble_eq_true rfl⟩ dX12_shines_29 (fun v3 S2 hh => ?_)
      refine rw_if_eq E hh (tgt := 40) (by decide) dX12_shines_32 (fun hh => ?_) (fun hh => ?_)
      · refine rw_iconst E (v := 0) (by decide) dX12_shines_40 ?_
        refine WH.pick [0, 1, 2, 3, 4, 5, 6, 7] rfl ?_
        exact w_X12_shines_b41 E hrt hlk hj11 hh
      · refine rw_iload E (j0 := 3) rfl dX12_shines_35 ?_
        refine rw_goto E (tgt := 41) (by decide) dX12_shines_37 ?_
        refine WH.pick [0, 1, 2, 3, 4, 5, 6, 7] rfl ?_
        exact w_X12_shines_b41 E hrt hlk hj11 hh
def s_X12_shines_L11 (h : Nat) : Nat → HS → Int32 → Int32 → Int32 → Int32 → Int32 → Int32 → Int32 → Option (Int32 × HS)
  | 0 => fun _ _ _ _ _ _ _ _ => none
  | n + 1 => s_X12_shines_b11 (s_X12_shines_L11 h n) h
set_option maxHeartbeats 4000000 in
set_option maxRecDepth 100000 in
theorem w_X12_shines_L11 {p : Program} {l : Launch} {e : Env} {s : State} {m : MethodId} {args : Array Value} {below : List Frame} {meth : Method} {c : Code} {b0 : Nat} {G : hG} {S1 : HS} {r : Int32} {h : Nat} (E : hE p s m args c b0 G cX12_shines RX12 9 wsX12_shines) (hrt : meth.sig.returnType = (some .boolean)) (hlk : meth.locks = false) : ∀ (n : Nat) (S : HS) (l1 : Int32) (l2 : Int32) (l4 : Int32) (l5 : Int32) (l6 : Int32) (l7 : Int32) (l8 : Int32), s_X12_shines_L11 h n S l1 l2 l4 l5 l6 l7 l8 = some (r, S1) → WH p l e rm_X12_shines s m args below meth c b0 G 9 0 0 (MQ below (hQ b0 G (some (.int r)) S1) args s 0 0 (hA b0)) S 11 [(0, hrf b0 ((some h))), (1, .int l1), (2, .int l2), (4, .int l4), (5, .int l5), (6, .int l6), (7, .int l7), (8, .int l8)] [] := by
  intro n
  induction n with
  | zero => intro _ _ _ _ _ _ _ _ hh; exact absurd hh (by simp [s_X12_shines_L11])
  | succ n ih => intro _ _ _ _ _ _ _ _ hh; exact w_X12_shines_b11 E hrt hlk  ih hh
def s_X12_shines (S : HS) (h : Nat) (l1 : Int32) (l2 : Int32) (l3 : Int32) (l4 : Int32) (l5 : Int32) (l6 : Int32) : Option (Int32 × HS) := kO S ((some h)) 12 (fun a2 => kcv (s_X12_rest S a2 l3) (fun S1 => s_X12_shines_L11 h 100000 S1 l1 l2 l4 l5 l6 0 0))
set_option maxHeartbeats 4000000 in
set_option maxRecDepth 100000 in
theorem c_X12_shines (l : Launch) (b0 : Nat) (G : hG) (S S1 : HS) (h : Nat) (l1 : Int32) (l2 : Int32) (l3 : Int32) (l4 : Int32) (l5 : Int32) (l6 : Int32) (r : Int32) (hh : s_X12_shines S h l1 l2 l3 l4 l5 l6 = some (r, S1)) : MH l yX12_shines wsX12_shines rm_X12_shines b0 G S [hrf b0 (some h), .int l1, .int l2, .int l3, .int l4, .int l5, .int l6] (some (.int r)) S1 0 0 := by
  refine MH.ofW (cc := cX12_shines) (maxL := 9) (ret := (some .boolean)) (own := RX12) (lv0 := [(0, hrf b0 ((some h))), (1, .int l1), (2, .int l2), (3, .int l3), (4, .int l4), (5, .int l5), (6, .int l6)]) (by decide) rfl rfl (Nat.le_of_ble_eq_true rfl) rfl ?_
  intro p e s m args below meth c E hrt hlk hnm
  have hh : (kO S ((some h)) 12 (fun a2 => kcv (s_X12_rest S a2 l3) (fun S1 => s_X12_shines_L11 h 100000 S1 l1 l2 l4 l5 l6 0 0))) = some (r, S1) := hh
  refine rw_aload_n E (j0 := 0) rfl rfl dX12_shines_0 ?_
  refine rw_iload_n E (j0 := 3) rfl rfl dX12_shines_1 ?_
  refine rw_cVv E (As := [.int l3]) hh (by decide) rfl (fun _ _ hq => c_X12_rest l b0 G _ _ _ _ hq) (cwV 1 E.2.2.2.2.1 gX12_shines_X12_rest rfl rfl rfl (by decide +kernel) ⟨Nat.le_of_ble_eq_true rfl, Nat.le_of_ble_eq_true rfl⟩) rfl rfl (by (try simp only [List.map_cons, List.map_nil, List.sum_cons, List.sum_nil, hrf_cat, cat_i, cat_l, cat_r]) <;> decide) ⟨Nat.le_of_ble_eq_true rfl, Nat.le_of_ble_eq_true rfl⟩ dX12_shines_2 (fun S1 hh => ?_)
  refine rw_iconst E (v := 0) (by decide) dX12_shines_5 ?_
  refine rw_istore E (lv2 := [(7, .int 0), (0, hrf b0 ((some h))), (1, .int l1), (2, .int l2), (3, .int l3), (4, .int l4), (5, .int l5), (6, .int l6)]) (by decide) rfl dX12_shines_6 ?_
  refine rw_iconst E (v := 0) (by decide) dX12_shines_8 ?_
  refine rw_istore E (lv2 := [(8, .int 0), (7, .int 0), (0, hrf b0 ((some h))), (1, .int l1), (2, .int l2), (3, .int l3), (4, .int l4), (5, .int l5), (6, .int l6)]) (by decide) rfl dX12_shines_9 ?_
  refine WH.pick [2, 3, 4, 6, 7, 8, 1, 0] rfl ?_
  exact w_X12_shines_L11 E hrt hlk 100000 _ _ _ _ _ _ _ _ hh

/-! HummingDiscModel.lamp(IIIII)I -/
abbrev rm_X12_lamp : Room := { frames := 6, cells := 0, slots := 0, locals := 148 }
theorem i_X12_lamp_12 : ∀ w ∈ wsX120, w ∈ wsX12_lamp := fun _ h => List.mem_cons_of_mem _ (List.mem_append_right _ (h))
def s_X12_lamp_b53 (h : Nat) (S : HS) (l6 : Int32) : Option (Int32 × HS) := if 0 ≤ l6 then (some (l6, S)) else (some ((-1000000), S))
set_option maxHeartbeats 4000000 in
set_option maxRecDepth 100000 in
theorem w_X12_lamp_b53 {p : Program} {l : Launch} {e : Env} {s : State} {m : MethodId} {args : Array Value} {below : List Frame} {meth : Method} {c : Code} {b0 : Nat} {G : hG} {S1 : HS} {r : Int32} {h : Nat} {S : HS} {l6 : Int32} (E : hE p s m args c b0 G cX12_lamp RX12 7 wsX12_lamp) (hrt : meth.sig.returnType = (some .int)) (hlk : meth.locks = false) (hh : s_X12_lamp_b53 h S l6 = some (r, S1)) : WH p l e rm_X12_lamp s m args below meth c b0 G 7 0 0 (MQ below (hQ b0 G (some (.int r)) S1) args s 0 0 (hA b0)) S 53 [(6, .int l6)] [] := by
  have hh : (if 0 ≤ l6 then (some (l6, S)) else (some ((-1000000), S))) = some (r, S1) := hh
  refine rw_iload E (j0 := 0) rfl dX12_lamp_53 ?_
  refine rw_if_ge E hh (tgt := 63) (by decide) dX12_lamp_55 (fun hh => ?_) (fun hh => ?_)
  · refine rw_iload E (j0 := 0) rfl dX12_lamp_63 ?_
    exact rw_iret E hrt hlk hh (by decide) (by decide) dX12_lamp_65
  · refine rw_ldc E (v := (-1000000)) (List.mem_of_getElem? (i := 3) (by decide +kernel)) dX12_lamp_58 ?_
    refine rw_goto E (tgt := 65) (by decide) dX12_lamp_60 ?_
    exact rw_iret E hrt hlk hh (by decide) (by decide) dX12_lamp_65
def s_X12_lamp_b26 (j26 : HS → Int32 → Int32 → Int32 → Int32 → Int32 → Int32 → Option (Int32 × HS)) (h : Nat) (S : HS) (l1 : Int32) (l2 : Int32) (l3 : Int32) (l4 : Int32) (l5 : Int32) (l6 : Int32) : Option (Int32 × HS) := if l6 < 0 then (s_X12_lamp_b53 h S l6) else (kO S ((some h)) 12 (fun a3 => kc (s_X12_shines S a3 l1 l2 l3 l4 l5 l6) (fun v2 S1 => if v2 = 0 then (j26 S1 l1 l2 l3 l4 l5 (l6 + (-1))) else (s_X12_lamp_b53 h S1 l6))))
set_option maxHeartbeats 4000000 in
set_option maxRecDepth 100000 in
theorem w_X12_lamp_b26 {p : Program} {l : Launch} {e : Env} {s : State} {m : MethodId} {args : Array Value} {below : List Frame} {meth : Method} {c : Code} {b0 : Nat} {G : hG} {S1 : HS} {r : Int32} {j26 : HS → Int32 → Int32 → Int32 → Int32 → Int32 → Int32 → Option (Int32 × HS)} {h : Nat} {S : HS} {l1 : Int32} {l2 : Int32} {l3 : Int32} {l4 : Int32} {l5 : Int32} {l6 : Int32} (E : hE p s m args c b0 G cX12_lamp RX12 7 wsX12_lamp) (hrt : meth.sig.returnType = (some .int)) (hlk : meth.locks = false) (hj26 : ∀ (S : HS) (l1 : Int32) (l2 : Int32) (l3 : Int32) (l4 : Int32) (l5 : Int32) (l6 : Int32), j26 S l1 l2 l3 l4 l5 l6 = some (r, S1) → WH p l e rm_X12_lamp s m args below meth c b0 G 7 0 0 (MQ below (hQ b0 G (some (.int r)) S1) args s 0 0 (hA b0)) S 26 [(0, hrf b0 ((some h))), (1, .int l1), (2, .int l2), (3, .int l3), (4, .int l4), (5, .int l5), (6, .int l6)] []) (hh : s_X12_lamp_b26 j26 h S l1 l2 l3 l4 l5 l6 = some (r, S1)) : WH p l e rm_X12_lamp s m args below meth c b0 G 7 0 0 (MQ below (hQ b0 G (some (.int r)) S1) args s 0 0 (hA b0)) S 26 [(0, hrf b0 ((some h))), (1, .int l1), (2, .int l2), (3, .int l3), (4, .int l4), (5, .int l5), (6, .int l6)] [] := by
  have hh : (if l6 < 0 then (s_X12_lamp_b53 h S l6) else (kO S ((some h)) 12 (fun a3 => kc (s_X12_shines S a3 l1 l2 l3 l4 l5 l6) (fun v2 S1 => if v2 = 0 then (j26 S1 l1 l2 l3 l4 l5 (l6 + (-1))) else (s_X12_lamp_b53 h S1 l6))))) = some (r, S1) := hh
  refine rw_iload E (j0 := 6) rfl dX12_lamp_26 ?_
  refine rw_if_lt E hh (tgt := 53) (by decide) dX12_lamp_28 (fun hh => ?_) (fun hh => ?_)
  · refine WH.pick [6] rfl ?_
    exact w_X12_lamp_b53 E hrt hlk hh
  · refine rw_aload_n E (j0 := 0) rfl rfl dX12_lamp_31 ?_
    refine rw_iload_n E (j0 := 1) rfl rfl dX12_lamp_32 ?_
    refine rw_iload_n E (j0 := 2) rfl rfl dX12_lamp_33 ?_
    refine rw_iload_n E (j0 := 3) rfl rfl dX12_lamp_34 ?_
    refine rw_iload E (j0 := 4) rfl dX12_lamp_35 ?_
    refine rw_iload E (j0 := 5) rfl dX12_lamp_37 ?_
    refine rw_iload E (j0 := 6) rfl dX12_lamp_39 ?_
    refine rw_cVi E (As := [.int l1, .int l2, .int l3, .int l4, .int l5, .int l6]) hh (by decide) rfl (fun _ _ _ hq => c_X12_shines l b0 G _ _ _ _ _ _ _ _ _ _ hq) (cwV 6 E.2.2.2.2.1 gX12_lamp_X12_shines rfl rfl rfl (by decide +kernel) ⟨Nat.le_of_ble_eq_true rfl, Nat.le_of_ble_eq_true rfl⟩) rfl rfl (by (try simp only [List.map_cons, List.map_nil, List.sum_cons, List.sum_nil, hrf_cat, cat_i, cat_l, cat_r]) <;> decide) ⟨Nat.le_of_ble_eq_true rfl, Nat.le_of_ble_eq_true rfl⟩ dX12_lamp_41 (fun v2 S1 hh => ?_)
    refine rw_if_ne E hh (tgt := 53) (by decide) dX12_lamp_44 (fun hh => ?_) (fun hh => ?_)
    · refine WH.pick [6] rfl ?_
      exact w_X12_lamp_b53 E hrt hlk hh
    · refine rw_iinc E (v := l6 + (-1)) (lv2 := [(6, .int (l6 + (-1))), (0, hrf b0 ((some h))), (1, .int l1), (2, .int l2), (3, .int l3), (4, .int l4), (5, .int l5)]) (j0 := 6) rfl (congrArg (fun z => l6 + z) (show Int32.ofInt (-1) = (-1) by decide)) (by decide) rfl dX12_lamp_47 ?_
      refine rw_goto E (tgt := 26) (by decide) dX12_lamp_50 ?_
      refine WH.pick [1, 2, 3, 4, 5, 6, 0] rfl ?_
      exact hj26 _ _ _ _ _ _ _ hh
def s_X12_lamp_L26 (h : Nat) : Nat → HS → Int32 → Int32 → Int32 → Int32 → Int32 → Int32 → Option (Int32 × HS)
  | 0 => fun _ _ _ _ _ _ _ => none
  | n + 1 => s_X12_lamp_b26 (s_X12_lamp_L26 h n) h
set_option maxHeartbeats 4000000 in
set_option maxRecDepth 100000 in
theorem w_X12_lamp_L26 {p : Program} {l : Launch} {e : Env} {s : State} {m : MethodId} {args : Array Value} {below : List Frame} {meth : Method} {c : Code} {b0 : Nat} {G : hG} {S1 : HS} {r : Int32} {h : Nat} (E : hE p s m args c b0 G cX12_lamp RX12 7 wsX12_lamp) (hrt : meth.sig.returnType = (some .int)) (hlk : meth.locks = false) : ∀ (n : Nat) (S : HS) (l1 : Int32) (l2 : Int32) (l3 : Int32) (l4 : Int32) (l5 : Int32) (l6 : Int32), s_X12_lamp_L26 h n S l1 l2 l3 l4 l5 l6 = some (r, S1) → WH p l e rm_X12_lamp s m args below meth c b0 G 7 0 0 (MQ below (hQ b0 G (some (.int r)) S1) args s 0 0 (hA b0)) S 26 [(0, hrf b0 ((some h))), (1, .int l1), (2, .int l2), (3, .int l3), (4, .int l4), (5, .int l5), (6, .int l6)] [] := by
  intro n
  induction n with
  | zero => intro _ _ _ _ _ _ _ hh; exact absurd hh (by simp [s_X12_lamp_L26])
  | succ n ih => intro _ _ _ _ _ _ _ hh; exact w_X12_lamp_b26 E hrt hlk  ih hh
def s_X12_lamp (S : HS) (h : Nat) (l1 : Int32) (l2 : Int32) (l3 : Int32) (l4 : Int32) (l5 : Int32) : Option (Int32 × HS) := kwI S ((some h)) 12 0 0 (fun S1 => kO S1 ((some h)) 12 (fun a4 => kc (s_X12_isAsked S1 a4 l1 l2 l3 l4 l5) (fun v3 S2 => if v3 = 0 then (some ((-1000001), S2)) else (s_X12_lamp_L26 h 100000 S2 l1 l2 l3 l4 l5 50))))
set_option maxHeartbeats 4000000 in
set_option maxRecDepth 100000 in
theorem c_X12_lamp (l : Launch) (b0 : Nat) (G : hG) (S S1 : HS) (h : Nat) (l1 : Int32) (l2 : Int32) (l3 : Int32) (l4 : Int32) (l5 : Int32) (r : Int32) (hh : s_X12_lamp S h l1 l2 l3 l4 l5 = some (r, S1)) : MH l yX12_lamp wsX12_lamp rm_X12_lamp b0 G S [hrf b0 (some h), .int l1, .int l2, .int l3, .int l4, .int l5] (some (.int r)) S1 0 0 := by
  refine MH.ofW (cc := cX12_lamp) (maxL := 7) (ret := (some .int)) (own := RX12) (lv0 := [(0, hrf b0 ((some h))), (1, .int l1), (2, .int l2), (3, .int l3), (4, .int l4), (5, .int l5)]) (by decide) rfl rfl (Nat.le_of_ble_eq_true rfl) rfl ?_
  intro p e s m args below meth c E hrt hlk hnm
  have hh : (kwI S ((some h)) 12 0 0 (fun S1 => kO S1 ((some h)) 12 (fun a4 => kc (s_X12_isAsked S1 a4 l1 l2 l3 l4 l5) (fun v3 S2 => if v3 = 0 then (some ((-1000001), S2)) else (s_X12_lamp_L26 h 100000 S2 l1 l2 l3 l4 l5 50))))) = some (r, S1) := hh
  refine rw_aload_n E (j0 := 0) rfl rfl dX12_lamp_0 ?_
  refine rw_iconst E (v := 0) (by decide) dX12_lamp_1 ?_
  refine rw_putI E hh (C := RX12) (T := TX12) (N := 32) (ty0 := tyX12) rfl tyX12_ok nmX12 (by decide) i_X12_lamp_12 (by decide) rfl (List.mem_of_getElem? (i := 1) (by decide +kernel)) rfl (Or.inl rfl) rfl dX12_lamp_2 (fun S1 hh => ?_)
  refine rw_aload_n E (j0 := 0) rfl rfl dX12_lamp_5 ?_
  refine rw_iload_n E (j0 := 1) rfl rfl dX12_lamp_6 ?_
  refine rw_iload_n E (j0 := 2) rfl rfl dX12_lamp_7 ?_
  refine rw_iload_n E (j0 := 3) rfl rfl dX12_lamp_8 ?_
  refine rw_iload E (j0 := 4) rfl dX12_lamp_9 ?_
  refine rw_iload E (j0 := 5) rfl dX12_lamp_11 ?_
  refine rw_cVi E (As := [.int l1, .int l2, .int l3, .int l4, .int l5]) hh (by decide) rfl (fun _ _ _ hq => c_X12_isAsked l b0 G _ _ _ _ _ _ _ _ _ hq) (cwV 5 E.2.2.2.2.1 gX12_lamp_X12_isAsked rfl rfl rfl (by decide +kernel) ⟨Nat.le_of_ble_eq_true rfl, Nat.le_of_ble_eq_true rfl⟩) rfl rfl (by (try simp only [List.map_cons, List.map_nil, List.sum_cons, List.sum_nil, hrf_cat, cat_i, cat_l, cat_r]) <;> decide) ⟨Nat.le_of_ble_eq_true rfl, Nat.le_of_ble_eq_true rfl⟩ dX12_lamp_13 (fun v3 S2 hh => ?_)
  refine rw_if_ne E hh (tgt := 22) (by decide) dX12_lamp_16 (fun hh => ?_) (fun hh => ?_)
  · refine rw_bipush E (v := 50) (by decide) dX12_lamp_22 ?_
    refine rw_istore E (lv2 := [(6, .int 50), (0, hrf b0 ((some h))), (1, .int l1), (2, .int l2), (3, .int l3), (4, .int l4), (5, .int l5)]) (by decide) rfl dX12_lamp_24 ?_
    refine WH.pick [1, 2, 3, 4, 5, 6, 0] rfl ?_
    exact w_X12_lamp_L26 E hrt hlk 100000 _ _ _ _ _ _ _ hh
  · refine rw_ldc E (v := (-1000001)) (List.mem_of_getElem? (i := 2) (by decide +kernel)) dX12_lamp_19 ?_
    exact rw_iret E hrt hlk hh (by decide) (by decide) dX12_lamp_21

/-! HummingDiscModel.wobble(II)I -/
abbrev rm_X12_wobble : Room := { frames := 2, cells := 0, slots := 0, locals := 46 }
theorem i_X12_wobble_12 : ∀ w ∈ wsX120, w ∈ wsX12_wobble := fun _ h => List.mem_cons_of_mem _ (List.mem_append_right _ (h))
def s_X12_wobble_b30 (j30 : HS → Int32 → Int32 → Int32 → Option (Int32 × HS)) (h : Nat) (S : HS) (l1 : Int32) (l2 : Int32) (l3 : Int32) : Option (Int32 × HS) := kdiv ((l2 * (l3 + 1)) * (l3 + 1)) 100 (fun v1 => kO S ((some h)) 12 (fun a4 => kc (s_X12_discOf S a4 l1 0) (fun v3 S2 => if v3 < v1 then (some (l3, S2)) else (j30 S2 l1 l2 (l3 + 1)))))
set_option maxHeartbeats 4000000 in
set_option maxRecDepth 100000 in
theorem w_X12_wobble_b30 {p : Program} {l : Launch} {e : Env} {s : State} {m : MethodId} {args : Array Value} {below : List Frame} {meth : Method} {c : Code} {b0 : Nat} {G : hG} {S1 : HS} {r : Int32} {j30 : HS → Int32 → Int32 → Int32 → Option (Int32 × HS)} {h : Nat} {S : HS} {l1 : Int32} {l2 : Int32} {l3 : Int32} (E : hE p s m args c b0 G cX12_wobble RX12 4 wsX12_wobble) (hrt : meth.sig.returnType = (some .int)) (hlk : meth.locks = false) (hj30 : ∀ (S : HS) (l1 : Int32) (l2 : Int32) (l3 : Int32), j30 S l1 l2 l3 = some (r, S1) → WH p l e rm_X12_wobble s m args below meth c b0 G 4 0 0 (MQ below (hQ b0 G (some (.int r)) S1) args s 0 0 (hA b0)) S 30 [(0, hrf b0 ((some h))), (1, .int l1), (2, .int l2), (3, .int l3)] []) (hh : s_X12_wobble_b30 j30 h S l1 l2 l3 = some (r, S1)) : WH p l e rm_X12_wobble s m args below meth c b0 G 4 0 0 (MQ below (hQ b0 G (some (.int r)) S1) args s 0 0 (hA b0)) S 30 [(0, hrf b0 ((some h))), (1, .int l1), (2, .int l2), (3, .int l3)] [] := by
  have hh : (kdiv ((l2 * (l3 + 1)) * (l3 + 1)) 100 (fun v1 => kO S ((some h)) 12 (fun a4 => kc (s_X12_discOf S a4 l1 0) (fun v3 S2 => if v3 < v1 then (some (l3, S2)) else (j30 S2 l1 l2 (l3 + 1)))))) = some (r, S1) := hh
  refine rw_iload_n E (j0 := 2) rfl rfl dX12_wobble_30 ?_
  refine rw_iload_n E (j0 := 3) rfl rfl dX12_wobble_31 ?_
  refine rw_iconst E (v := 1) (by decide) dX12_wobble_32 ?_
  refine rw_iadd E dX12_wobble_33 ?_
  refine rw_imul E dX12_wobble_34 ?_
  refine rw_iload_n E (j0 := 3) rfl rfl dX12_wobble_35 ?_
  refine rw_iconst E (v := 1) (by decide) dX12_wobble_36 ?_
  refine rw_iadd E dX12_wobble_37 ?_
  refine rw_imul E dX12_wobble_38 ?_
  refine rw_bipush E (v := 100) (by decide) dX12_wobble_39 ?_
  refine rw_idiv E hh dX12_wobble_41 (fun v1 hh => ?_)
  refine rw_aload_n E (j0 := 0) rfl rfl dX12_wobble_42 ?_
  refine rw_iload_n E (j0 := 1) rfl rfl dX12_wobble_43 ?_
  refine rw_iconst E (v := 0) (by decide) dX12_wobble_44 ?_
  refine rw_cVi E (As := [.int l1, .int 0]) hh (by decide) rfl (fun _ _ _ hq => c_X12_discOf l b0 G _ _ _ _ _ _ hq) (cwV 2 E.2.2.2.2.1 gX12_wobble_X12_discOf rfl rfl rfl (by decide +kernel) ⟨Nat.le_of_ble_eq_true rfl, Nat.le_of_ble_eq_true rfl⟩) rfl rfl (by (try simp only [List.map_cons, List.map_nil, List.sum_cons, List.sum_nil, hrf_cat, cat_i, cat_l, cat_r]) <;> decide) ⟨Nat.le_of_ble_eq_true rfl, Nat.le_of_ble_eq_true rfl⟩ dX12_wobble_45 (fun v3 S2 hh => ?_)
  refine rw_icmp_gt E hh (tgt := 57) (by decide) dX12_wobble_48 (fun hh => ?_) (fun hh => ?_)
  · refine rw_iload_n E (j0 := 3) rfl rfl dX12_wobble_57 ?_
    exact rw_iret E hrt hlk hh (by decide) (by decide) dX12_wobble_58
  · refine rw_iinc E (v := l3 + 1) (lv2 := [(3, .int (l3 + 1)), (0, hrf b0 ((some h))), (1, .int l1), (2, .int l2)]) (j0 := 3) rfl rfl (by decide) rfl dX12_wobble_51 ?_
    refine rw_goto E (tgt := 30) (by decide) dX12_wobble_54 ?_
    refine WH.pick [1, 2, 3, 0] rfl ?_
    exact hj30 _ _ _ _ hh
def s_X12_wobble_L30 (h : Nat) : Nat → HS → Int32 → Int32 → Int32 → Option (Int32 × HS)
  | 0 => fun _ _ _ _ => none
  | n + 1 => s_X12_wobble_b30 (s_X12_wobble_L30 h n) h
set_option maxHeartbeats 4000000 in
set_option maxRecDepth 100000 in
theorem w_X12_wobble_L30 {p : Program} {l : Launch} {e : Env} {s : State} {m : MethodId} {args : Array Value} {below : List Frame} {meth : Method} {c : Code} {b0 : Nat} {G : hG} {S1 : HS} {r : Int32} {h : Nat} (E : hE p s m args c b0 G cX12_wobble RX12 4 wsX12_wobble) (hrt : meth.sig.returnType = (some .int)) (hlk : meth.locks = false) : ∀ (n : Nat) (S : HS) (l1 : Int32) (l2 : Int32) (l3 : Int32), s_X12_wobble_L30 h n S l1 l2 l3 = some (r, S1) → WH p l e rm_X12_wobble s m args below meth c b0 G 4 0 0 (MQ below (hQ b0 G (some (.int r)) S1) args s 0 0 (hA b0)) S 30 [(0, hrf b0 ((some h))), (1, .int l1), (2, .int l2), (3, .int l3)] [] := by
  intro n
  induction n with
  | zero => intro _ _ _ _ hh; exact absurd hh (by simp [s_X12_wobble_L30])
  | succ n ih => intro _ _ _ _ hh; exact w_X12_wobble_b30 E hrt hlk  ih hh
def s_X12_wobble (S : HS) (h : Nat) (l1 : Int32) (l2 : Int32) : Option (Int32 × HS) := kwI S ((some h)) 12 0 0 (fun S1 => kO S1 ((some h)) 12 (fun a4 => kc (s_X12_isDisc S1 a4 l1) (fun v3 S2 => if v3 = 0 then (some ((-1000001), S2)) else (kc (s_X12_in S2 l2.toInt64 1 50) (fun v6 S5 => if v6 = 0 then (some ((-1000001), S5)) else (s_X12_wobble_L30 h 100000 S5 l1 l2 0))))))
set_option maxHeartbeats 4000000 in
set_option maxRecDepth 100000 in
theorem c_X12_wobble (l : Launch) (b0 : Nat) (G : hG) (S S1 : HS) (h : Nat) (l1 : Int32) (l2 : Int32) (r : Int32) (hh : s_X12_wobble S h l1 l2 = some (r, S1)) : MH l yX12_wobble wsX12_wobble rm_X12_wobble b0 G S [hrf b0 (some h), .int l1, .int l2] (some (.int r)) S1 0 0 := by
  refine MH.ofW (cc := cX12_wobble) (maxL := 4) (ret := (some .int)) (own := RX12) (lv0 := [(0, hrf b0 ((some h))), (1, .int l1), (2, .int l2)]) (by decide) rfl rfl (Nat.le_of_ble_eq_true rfl) rfl ?_
  intro p e s m args below meth c E hrt hlk hnm
  have hh : (kwI S ((some h)) 12 0 0 (fun S1 => kO S1 ((some h)) 12 (fun a4 => kc (s_X12_isDisc S1 a4 l1) (fun v3 S2 => if v3 = 0 then (some ((-1000001), S2)) else (kc (s_X12_in S2 l2.toInt64 1 50) (fun v6 S5 => if v6 = 0 then (some ((-1000001), S5)) else (s_X12_wobble_L30 h 100000 S5 l1 l2 0))))))) = some (r, S1) := hh
  refine rw_aload_n E (j0 := 0) rfl rfl dX12_wobble_0 ?_
  refine rw_iconst E (v := 0) (by decide) dX12_wobble_1 ?_
  refine rw_putI E hh (C := RX12) (T := TX12) (N := 32) (ty0 := tyX12) rfl tyX12_ok nmX12 (by decide) i_X12_wobble_12 (by decide) rfl (List.mem_of_getElem? (i := 1) (by decide +kernel)) rfl (Or.inl rfl) rfl dX12_wobble_2 (fun S1 hh => ?_)
  refine rw_aload_n E (j0 := 0) rfl rfl dX12_wobble_5 ?_
  refine rw_iload_n E (j0 := 1) rfl rfl dX12_wobble_6 ?_
  refine rw_cVi E (As := [.int l1]) hh (by decide) rfl (fun _ _ _ hq => c_X12_isDisc l b0 G _ _ _ _ _ hq) (cwV 1 E.2.2.2.2.1 gX12_wobble_X12_isDisc rfl rfl rfl (by decide +kernel) ⟨Nat.le_of_ble_eq_true rfl, Nat.le_of_ble_eq_true rfl⟩) rfl rfl (by (try simp only [List.map_cons, List.map_nil, List.sum_cons, List.sum_nil, hrf_cat, cat_i, cat_l, cat_r]) <;> decide) ⟨Nat.le_of_ble_eq_true rfl, Nat.le_of_ble_eq_true rfl⟩ dX12_wobble_7 (fun v3 S2 hh => ?_)
  refine rw_if_eq E hh (tgt := 25) (by decide) dX12_wobble_10 (fun hh => ?_) (fun hh => ?_)
  · refine rw_ldc E (v := (-1000001)) (List.mem_of_getElem? (i := 3) (by decide +kernel)) dX12_wobble_25 ?_
    exact rw_iret E hrt hlk hh (by decide) (by decide) dX12_wobble_27
  · refine rw_iload_n E (j0 := 2) rfl rfl dX12_wobble_13 ?_
    refine rw_i2l E dX12_wobble_14 ?_
    refine rw_lconst E (v := 1) (by decide) dX12_wobble_15 ?_
    refine rw_ldc2 E (v := 50) (List.mem_of_getElem? (i := 2) (by decide +kernel)) dX12_wobble_16 ?_
    refine rw_cSi E (As := [.long l2.toInt64, .long 1, .long 50]) hh (fun _ _ hq => c_X12_in l b0 G _ _ _ _ _ _ hq) (va_cwS 3 E.2.2.2.2.1 gX12_wobble_X12_in rfl rfl rfl (by decide +kernel) ⟨Nat.le_of_ble_eq_true rfl, Nat.le_of_ble_eq_true rfl⟩) rfl rfl (by (try simp only [List.map_cons, List.map_nil, List.sum_cons, List.sum_nil, hrf_cat, cat_i, cat_l, cat_r]) <;> decide) ⟨Nat.le_of_ble_eq_true rfl, Nat.le_of_ble_eq_true rfl⟩ dX12_wobble_19 (fun v6 S5 hh => ?_)
    refine rw_if_ne E hh (tgt := 28) (by decide) dX12_wobble_22 (fun hh => ?_) (fun hh => ?_)
    · refine rw_iconst E (v := 0) (by decide) dX12_wobble_28 ?_
      refine rw_istore_n E (lv2 := [(3, .int 0), (0, hrf b0 ((some h))), (1, .int l1), (2, .int l2)]) rfl (by decide) rfl dX12_wobble_29 ?_
      refine WH.pick [1, 2, 3, 0] rfl ?_
      exact w_X12_wobble_L30 E hrt hlk 100000 _ _ _ _ hh
    · refine rw_ldc E (v := (-1000001)) (List.mem_of_getElem? (i := 3) (by decide +kernel)) dX12_wobble_25 ?_
      exact rw_iret E hrt hlk hh (by decide) (by decide) dX12_wobble_27

/-! HummingDiscModel.noTones(III)I -/
abbrev rm_X12_noTones : Room := { frames := 1, cells := 0, slots := 0, locals := 25 }
theorem i_X12_noTones_12 : ∀ w ∈ wsX120, w ∈ wsX12_noTones := fun _ h => List.mem_cons_of_mem _ (List.mem_append_right _ (h))
def s_X12_noTones_b80 (j39 : HS → Int32 → Int32 → Int32 → Int32 → Int32 → Option (Int32 × HS)) (h : Nat) (S : HS) (l1 : Int32) (l2 : Int32) (l3 : Int32) (l5 : Int32) (k0 : Int32) : Option (Int32 × HS) := j39 S l1 l2 l3 k0 (l5 + 1)
set_option maxHeartbeats 4000000 in
set_option maxRecDepth 100000 in
theorem w_X12_noTones_b80 {p : Program} {l : Launch} {e : Env} {s : State} {m : MethodId} {args : Array Value} {below : List Frame} {meth : Method} {c : Code} {b0 : Nat} {G : hG} {S1 : HS} {r : Int32} {j39 : HS → Int32 → Int32 → Int32 → Int32 → Int32 → Option (Int32 × HS)} {h : Nat} {S : HS} {l1 : Int32} {l2 : Int32} {l3 : Int32} {l5 : Int32} {k0 : Int32} (E : hE p s m args c b0 G cX12_noTones RX12 6 wsX12_noTones) (hrt : meth.sig.returnType = (some .int)) (hlk : meth.locks = false) (hj39 : ∀ (S : HS) (l1 : Int32) (l2 : Int32) (l3 : Int32) (l4 : Int32) (l5 : Int32), j39 S l1 l2 l3 l4 l5 = some (r, S1) → WH p l e rm_X12_noTones s m args below meth c b0 G 6 0 0 (MQ below (hQ b0 G (some (.int r)) S1) args s 0 0 (hA b0)) S 39 [(0, hrf b0 ((some h))), (1, .int l1), (2, .int l2), (3, .int l3), (4, .int l4), (5, .int l5)] []) (hh : s_X12_noTones_b80 j39 h S l1 l2 l3 l5 k0 = some (r, S1)) : WH p l e rm_X12_noTones s m args below meth c b0 G 6 0 0 (MQ below (hQ b0 G (some (.int r)) S1) args s 0 0 (hA b0)) S 80 [(0, hrf b0 ((some h))), (1, .int l1), (2, .int l2), (3, .int l3), (5, .int l5)] [.int k0] := by
  have hh : (j39 S l1 l2 l3 k0 (l5 + 1)) = some (r, S1) := hh
  refine rw_istore E (lv2 := [(4, .int k0), (0, hrf b0 ((some h))), (1, .int l1), (2, .int l2), (3, .int l3), (5, .int l5)]) (by decide) rfl dX12_noTones_80 ?_
  refine rw_iinc E (v := l5 + 1) (lv2 := [(5, .int (l5 + 1)), (4, .int k0), (0, hrf b0 ((some h))), (1, .int l1), (2, .int l2), (3, .int l3)]) (j0 := 5) rfl rfl (by decide) rfl dX12_noTones_82 ?_
  refine rw_goto E (tgt := 39) (by decide) dX12_noTones_85 ?_
  refine WH.pick [2, 3, 4, 5, 1, 0] rfl ?_
  exact hj39 _ _ _ _ _ _ hh
def s_X12_noTones_b79 (j39 : HS → Int32 → Int32 → Int32 → Int32 → Int32 → Option (Int32 × HS)) (h : Nat) (S : HS) (l1 : Int32) (l2 : Int32) (l3 : Int32) (l5 : Int32) : Option (Int32 × HS) := s_X12_noTones_b80 j39 h S l1 l2 l3 l5 0
set_option maxHeartbeats 4000000 in
set_option maxRecDepth 100000 in
theorem w_X12_noTones_b79 {p : Program} {l : Launch} {e : Env} {s : State} {m : MethodId} {args : Array Value} {below : List Frame} {meth : Method} {c : Code} {b0 : Nat} {G : hG} {S1 : HS} {r : Int32} {j39 : HS → Int32 → Int32 → Int32 → Int32 → Int32 → Option (Int32 × HS)} {h : Nat} {S : HS} {l1 : Int32} {l2 : Int32} {l3 : Int32} {l5 : Int32} (E : hE p s m args c b0 G cX12_noTones RX12 6 wsX12_noTones) (hrt : meth.sig.returnType = (some .int)) (hlk : meth.locks = false) (hj39 : ∀ (S : HS) (l1 : Int32) (l2 : Int32) (l3 : Int32) (l4 : Int32) (l5 : Int32), j39 S l1 l2 l3 l4 l5 = some (r, S1) → WH p l e rm_X12_noTones s m args below meth c b0 G 6 0 0 (MQ below (hQ b0 G (some (.int r)) S1) args s 0 0 (hA b0)) S 39 [(0, hrf b0 ((some h))), (1, .int l1), (2, .int l2), (3, .int l3), (4, .int l4), (5, .int l5)] []) (hh : s_X12_noTones_b79 j39 h S l1 l2 l3 l5 = some (r, S1)) : WH p l e rm_X12_noTones s m args below meth c b0 G 6 0 0 (MQ below (hQ b0 G (some (.int r)) S1) args s 0 0 (hA b0)) S 79 [(0, hrf b0 ((some h))), (1, .int l1), (2, .int l2), (3, .int l3), (5, .int l5)] [] := by
  have hh : (s_X12_noTones_b80 j39 h S l1 l2 l3 l5 0) = some (r, S1) := hh
  refine rw_iconst E (v := 0) (by decide) dX12_noTones_79 ?_
  refine WH.pick [0, 1, 2, 3, 4] rfl ?_
  exact w_X12_noTones_b80 E hrt hlk hj39 hh
def s_X12_noTones_b39 (j39 : HS → Int32 → Int32 → Int32 → Int32 → Int32 → Option (Int32 × HS)) (h : Nat) (S : HS) (l1 : Int32) (l2 : Int32) (l3 : Int32) (l4 : Int32) (l5 : Int32) : Option (Int32 × HS) := if l3 ≤ l5 then (if l4 = 0 then (some ((-1), S)) else (some (0, S))) else (if l4 = 0 then (s_X12_noTones_b79 j39 h S l1 l2 l3 l5) else (kP S ((some h)) 12 4 (fun v1 => kA S v1 14 (((40 * l1) + l2) + l5) (fun v2 => kc (s_X12_in S v2.toInt64 0 32767) (fun v4 S3 => if v4 = 0 then (s_X12_noTones_b79 j39 h S3 l1 l2 l3 l5) else (s_X12_noTones_b80 j39 h S3 l1 l2 l3 l5 1))))))
set_option maxHeartbeats 4000000 in
set_option maxRecDepth 100000 in
theorem w_X12_noTones_b39 {p : Program} {l : Launch} {e : Env} {s : State} {m : MethodId} {args : Array Value} {below : List Frame} {meth : Method} {c : Code} {b0 : Nat} {G : hG} {S1 : HS} {r : Int32} {j39 : HS → Int32 → Int32 → Int32 → Int32 → Int32 → Option (Int32 × HS)} {h : Nat} {S : HS} {l1 : Int32} {l2 : Int32} {l3 : Int32} {l4 : Int32} {l5 : Int32} (E : hE p s m args c b0 G cX12_noTones RX12 6 wsX12_noTones) (hrt : meth.sig.returnType = (some .int)) (hlk : meth.locks = false) (hj39 : ∀ (S : HS) (l1 : Int32) (l2 : Int32) (l3 : Int32) (l4 : Int32) (l5 : Int32), j39 S l1 l2 l3 l4 l5 = some (r, S1) → WH p l e rm_X12_noTones s m args below meth c b0 G 6 0 0 (MQ below (hQ b0 G (some (.int r)) S1) args s 0 0 (hA b0)) S 39 [(0, hrf b0 ((some h))), (1, .int l1), (2, .int l2), (3, .int l3), (4, .int l4), (5, .int l5)] []) (hh : s_X12_noTones_b39 j39 h S l1 l2 l3 l4 l5 = some (r, S1)) : WH p l e rm_X12_noTones s m args below meth c b0 G 6 0 0 (MQ below (hQ b0 G (some (.int r)) S1) args s 0 0 (hA b0)) S 39 [(0, hrf b0 ((some h))), (1, .int l1), (2, .int l2), (3, .int l3), (4, .int l4), (5, .int l5)] [] := by
  have hh : (if l3 ≤ l5 then (if l4 = 0 then (some ((-1), S)) else (some (0, S))) else (if l4 = 0 then (s_X12_noTones_b79 j39 h S l1 l2 l3 l5) else (kP S ((some h)) 12 4 (fun v1 => kA S v1 14 (((40 * l1) + l2) + l5) (fun v2 => kc (s_X12_in S v2.toInt64 0 32767) (fun v4 S3 => if v4 = 0 then (s_X12_noTones_b79 j39 h S3 l1 l2 l3 l5) else (s_X12_noTones_b80 j39 h S3 l1 l2 l3 l5 1))))))) = some (r, S1) := hh
  refine rw_iload E (j0 := 5) rfl dX12_noTones_39 ?_
  refine rw_iload_n E (j0 := 3) rfl rfl dX12_noTones_41 ?_
  refine rw_icmp_ge E hh (tgt := 88) (by decide) dX12_noTones_42 (fun hh => ?_) (fun hh => ?_)
  · refine rw_iload E (j0 := 4) rfl dX12_noTones_88 ?_
    refine rw_if_eq E hh (tgt := 97) (by decide) dX12_noTones_90 (fun hh => ?_) (fun hh => ?_)
    · refine rw_iconst E (v := (-1)) (by decide) dX12_noTones_97 ?_
      exact rw_iret E hrt hlk hh (by decide) (by decide) dX12_noTones_98
    · refine rw_iconst E (v := 0) (by decide) dX12_noTones_93 ?_
      refine rw_goto E (tgt := 98) (by decide) dX12_noTones_94 ?_
      exact rw_iret E hrt hlk hh (by decide) (by decide) dX12_noTones_98
  · refine rw_iload E (j0 := 4) rfl dX12_noTones_45 ?_
    refine rw_if_eq E hh (tgt := 79) (by decide) dX12_noTones_47 (fun hh => ?_) (fun hh => ?_)
    · refine WH.pick [0, 1, 2, 3, 5] rfl ?_
      exact w_X12_noTones_b79 E hrt hlk hj39 hh
    · refine rw_aload_n E (j0 := 0) rfl rfl dX12_noTones_50 ?_
      refine rw_getP E hh (C := RX12) (T := TX12) (N := 32) rfl (by decide) i_X12_noTones_12 (by decide) rfl (List.mem_of_getElem? (i := 3) (by decide +kernel)) rfl dX12_noTones_51 (fun v1 hh => ?_)
      refine rw_bipush E (v := 40) (by decide) dX12_noTones_54 ?_
      refine rw_iload_n E (j0 := 1) rfl rfl dX12_noTones_56 ?_
      refine rw_imul E dX12_noTones_57 ?_
      refine rw_iload_n E (j0 := 2) rfl rfl dX12_noTones_58 ?_
      refine rw_iadd E dX12_noTones_59 ?_
      refine rw_iload E (j0 := 5) rfl dX12_noTones_60 ?_
      refine rw_iadd E dX12_noTones_62 ?_
      refine rw_iald E hh dX12_noTones_63 (fun v2 hh => ?_)
      refine rw_i2l E dX12_noTones_64 ?_
      refine rw_lconst E (v := 0) (by decide) dX12_noTones_65 ?_
      refine rw_ldc2 E (v := 32767) (List.mem_of_getElem? (i := 4) (by decide +kernel)) dX12_noTones_66 ?_
      refine rw_cSi E (As := [.long v2.toInt64, .long 0, .long 32767]) hh (fun _ _ hq => c_X12_in l b0 G _ _ _ _ _ _ hq) (va_cwS 3 E.2.2.2.2.1 gX12_noTones_X12_in rfl rfl rfl (by decide +kernel) ⟨Nat.le_of_ble_eq_true rfl, Nat.le_of_ble_eq_true rfl⟩) rfl rfl (by (try simp only [List.map_cons, List.map_nil, List.sum_cons, List.sum_nil, hrf_cat, cat_i, cat_l, cat_r]) <;> decide) ⟨Nat.le_of_ble_eq_true rfl, Nat.le_of_ble_eq_true rfl⟩ dX12_noTones_69 (fun v4 S3 hh => ?_)
      refine rw_if_eq E hh (tgt := 79) (by decide) dX12_noTones_72 (fun hh => ?_) (fun hh => ?_)
      · refine WH.pick [0, 1, 2, 3, 5] rfl ?_
        exact w_X12_noTones_b79 E hrt hlk hj39 hh
      · refine rw_iconst E (v := 1) (by decide) dX12_noTones_75 ?_
        refine rw_goto E (tgt := 80) (by decide) dX12_noTones_76 ?_
        refine WH.pick [0, 1, 2, 3, 5] rfl ?_
        exact w_X12_noTones_b80 E hrt hlk hj39 hh
def s_X12_noTones_L39 (h : Nat) : Nat → HS → Int32 → Int32 → Int32 → Int32 → Int32 → Option (Int32 × HS)
  | 0 => fun _ _ _ _ _ _ => none
  | n + 1 => s_X12_noTones_b39 (s_X12_noTones_L39 h n) h
set_option maxHeartbeats 4000000 in
set_option maxRecDepth 100000 in
theorem w_X12_noTones_L39 {p : Program} {l : Launch} {e : Env} {s : State} {m : MethodId} {args : Array Value} {below : List Frame} {meth : Method} {c : Code} {b0 : Nat} {G : hG} {S1 : HS} {r : Int32} {h : Nat} (E : hE p s m args c b0 G cX12_noTones RX12 6 wsX12_noTones) (hrt : meth.sig.returnType = (some .int)) (hlk : meth.locks = false) : ∀ (n : Nat) (S : HS) (l1 : Int32) (l2 : Int32) (l3 : Int32) (l4 : Int32) (l5 : Int32), s_X12_noTones_L39 h n S l1 l2 l3 l4 l5 = some (r, S1) → WH p l e rm_X12_noTones s m args below meth c b0 G 6 0 0 (MQ below (hQ b0 G (some (.int r)) S1) args s 0 0 (hA b0)) S 39 [(0, hrf b0 ((some h))), (1, .int l1), (2, .int l2), (3, .int l3), (4, .int l4), (5, .int l5)] [] := by
  intro n
  induction n with
  | zero => intro _ _ _ _ _ _ hh; exact absurd hh (by simp [s_X12_noTones_L39])
  | succ n ih => intro _ _ _ _ _ _ hh; exact w_X12_noTones_b39 E hrt hlk  ih hh
def s_X12_noTones (S : HS) (h : Nat) (l1 : Int32) (l2 : Int32) (l3 : Int32) : Option (Int32 × HS) := kP S ((some h)) 12 2 (fun v1 => kA S v1 14 l1 (fun v2 => if 0 ≤ v2 then (if l2 < 0 then (some (2, S)) else (kP S ((some h)) 12 3 (fun v3 => kA S v3 14 l1 (fun v4 => if l2.toInt64 + l3.toInt64 ≤ v4.toInt64 then (s_X12_noTones_L39 h 100000 S l1 l2 l3 1 0) else (some (2, S)))))) else (some (1, S))))
set_option maxHeartbeats 4000000 in
set_option maxRecDepth 100000 in
theorem c_X12_noTones (l : Launch) (b0 : Nat) (G : hG) (S S1 : HS) (h : Nat) (l1 : Int32) (l2 : Int32) (l3 : Int32) (r : Int32) (hh : s_X12_noTones S h l1 l2 l3 = some (r, S1)) : MH l yX12_noTones wsX12_noTones rm_X12_noTones b0 G S [hrf b0 (some h), .int l1, .int l2, .int l3] (some (.int r)) S1 0 0 := by
  refine MH.ofW (cc := cX12_noTones) (maxL := 6) (ret := (some .int)) (own := RX12) (lv0 := [(0, hrf b0 ((some h))), (1, .int l1), (2, .int l2), (3, .int l3)]) (by decide) rfl rfl (Nat.le_of_ble_eq_true rfl) rfl ?_
  intro p e s m args below meth c E hrt hlk hnm
  have hh : (kP S ((some h)) 12 2 (fun v1 => kA S v1 14 l1 (fun v2 => if 0 ≤ v2 then (if l2 < 0 then (some (2, S)) else (kP S ((some h)) 12 3 (fun v3 => kA S v3 14 l1 (fun v4 => if l2.toInt64 + l3.toInt64 ≤ v4.toInt64 then (s_X12_noTones_L39 h 100000 S l1 l2 l3 1 0) else (some (2, S)))))) else (some (1, S))))) = some (r, S1) := hh
  refine rw_aload_n E (j0 := 0) rfl rfl dX12_noTones_0 ?_
  refine rw_getP E hh (C := RX12) (T := TX12) (N := 32) rfl (by decide) i_X12_noTones_12 (by decide) rfl (List.mem_of_getElem? (i := 1) (by decide +kernel)) rfl dX12_noTones_1 (fun v1 hh => ?_)
  refine rw_iload_n E (j0 := 1) rfl rfl dX12_noTones_4 ?_
  refine rw_iald E hh dX12_noTones_5 (fun v2 hh => ?_)
  refine rw_if_ge E hh (tgt := 11) (by decide) dX12_noTones_6 (fun hh => ?_) (fun hh => ?_)
  · refine rw_iload_n E (j0 := 2) rfl rfl dX12_noTones_11 ?_
    refine rw_if_lt E hh (tgt := 31) (by decide) dX12_noTones_12 (fun hh => ?_) (fun hh => ?_)
    · refine rw_iconst E (v := 2) (by decide) dX12_noTones_31 ?_
      exact rw_iret E hrt hlk hh (by decide) (by decide) dX12_noTones_32
    · refine rw_iload_n E (j0 := 2) rfl rfl dX12_noTones_15 ?_
      refine rw_i2l E dX12_noTones_16 ?_
      refine rw_iload_n E (j0 := 3) rfl rfl dX12_noTones_17 ?_
      refine rw_i2l E dX12_noTones_18 ?_
      refine rw_ladd E dX12_noTones_19 ?_
      refine rw_aload_n E (j0 := 0) rfl rfl dX12_noTones_20 ?_
      refine rw_getP E hh (C := RX12) (T := TX12) (N := 32) rfl (by decide) i_X12_noTones_12 (by decide) rfl (List.mem_of_getElem? (i := 2) (by decide +kernel)) rfl dX12_noTones_21 (fun v3 hh => ?_)
      refine rw_iload_n E (j0 := 1) rfl rfl dX12_noTones_24 ?_
      refine rw_iald E hh dX12_noTones_25 (fun v4 hh => ?_)
      refine rw_i2l E dX12_noTones_26 ?_
      refine rw_lle E hh (tgt := 33) (by decide) dX12_noTones_27 dX12_noTones_28 (fun hh => ?_) (fun hh => ?_)
      · refine rw_iconst E (v := 1) (by decide) dX12_noTones_33 ?_
        refine rw_istore E (lv2 := [(4, .int 1), (0, hrf b0 ((some h))), (1, .int l1), (2, .int l2), (3, .int l3)]) (by decide) rfl dX12_noTones_34 ?_
        refine rw_iconst E (v := 0) (by decide) dX12_noTones_36 ?_
        refine rw_istore E (lv2 := [(5, .int 0), (4, .int 1), (0, hrf b0 ((some h))), (1, .int l1), (2, .int l2), (3, .int l3)]) (by decide) rfl dX12_noTones_37 ?_
        refine WH.pick [2, 3, 4, 5, 1, 0] rfl ?_
        exact w_X12_noTones_L39 E hrt hlk 100000 _ _ _ _ _ _ hh
      · refine rw_iconst E (v := 2) (by decide) dX12_noTones_31 ?_
        exact rw_iret E hrt hlk hh (by decide) (by decide) dX12_noTones_32
  · refine rw_iconst E (v := 1) (by decide) dX12_noTones_9 ?_
    exact rw_iret E hrt hlk hh (by decide) (by decide) dX12_noTones_10

/-! HummingDiscModel.sound(IIIII)I -/
abbrev rm_X12_sound : Room := { frames := 2, cells := 0, slots := 0, locals := 50 }
theorem i_X12_sound_12 : ∀ w ∈ wsX120, w ∈ wsX12_sound := fun _ h => List.mem_cons_of_mem _ (List.mem_append_right _ (h))
def s_X12_sound_b203 (j101 : HS → Int32 → Int32 → Int32 → Int32 → Int32 → Int32 → Int32 → Int32 → Int32 → Int32 → Option (Int32 × HS)) (h : Nat) (S : HS) (l1 : Int32) (l2 : Int32) (l3 : Int32) (l4 : Int32) (l5 : Int32) (l7 : Int32) (l10 : Int32) (l11 : Int32) (l12 : Int32) (k0 : Int32) : Option (Int32 × HS) := j101 S l1 l2 l3 l4 l5 l7 k0 l12 l10 (l11 + 1)
set_option maxHeartbeats 4000000 in
set_option maxRecDepth 100000 in
theorem w_X12_sound_b203 {p : Program} {l : Launch} {e : Env} {s : State} {m : MethodId} {args : Array Value} {below : List Frame} {meth : Method} {c : Code} {b0 : Nat} {G : hG} {S1 : HS} {r : Int32} {j101 : HS → Int32 → Int32 → Int32 → Int32 → Int32 → Int32 → Int32 → Int32 → Int32 → Int32 → Option (Int32 × HS)} {h : Nat} {S : HS} {l1 : Int32} {l2 : Int32} {l3 : Int32} {l4 : Int32} {l5 : Int32} {l7 : Int32} {l10 : Int32} {l11 : Int32} {l12 : Int32} {k0 : Int32} (E : hE p s m args c b0 G cX12_sound RX12 13 wsX12_sound) (hrt : meth.sig.returnType = (some .int)) (hlk : meth.locks = false) (hj101 : ∀ (S : HS) (l1 : Int32) (l2 : Int32) (l3 : Int32) (l4 : Int32) (l5 : Int32) (l7 : Int32) (l8 : Int32) (l9 : Int32) (l10 : Int32) (l11 : Int32), j101 S l1 l2 l3 l4 l5 l7 l8 l9 l10 l11 = some (r, S1) → WH p l e rm_X12_sound s m args below meth c b0 G 13 0 0 (MQ below (hQ b0 G (some (.int r)) S1) args s 0 0 (hA b0)) S 101 [(0, hrf b0 ((some h))), (1, .int l1), (2, .int l2), (3, .int l3), (4, .int l4), (5, .int l5), (7, .int l7), (8, .int l8), (9, .int l9), (10, .int l10), (11, .int l11)] []) (hh : s_X12_sound_b203 j101 h S l1 l2 l3 l4 l5 l7 l10 l11 l12 k0 = some (r, S1)) : WH p l e rm_X12_sound s m args below meth c b0 G 13 0 0 (MQ below (hQ b0 G (some (.int r)) S1) args s 0 0 (hA b0)) S 203 [(0, hrf b0 ((some h))), (1, .int l1), (2, .int l2), (3, .int l3), (4, .int l4), (5, .int l5), (7, .int l7), (10, .int l10), (11, .int l11), (12, .int l12)] [.int k0] := by
  have hh : (j101 S l1 l2 l3 l4 l5 l7 k0 l12 l10 (l11 + 1)) = some (r, S1) := hh
  refine rw_istore E (lv2 := [(8, .int k0), (0, hrf b0 ((some h))), (1, .int l1), (2, .int l2), (3, .int l3), (4, .int l4), (5, .int l5), (7, .int l7), (10, .int l10), (11, .int l11), (12, .int l12)]) (by decide) rfl dX12_sound_203 ?_
  refine rw_iload E (j0 := 10) rfl dX12_sound_205 ?_
  refine rw_istore E (lv2 := [(9, .int l12), (8, .int k0), (0, hrf b0 ((some h))), (1, .int l1), (2, .int l2), (3, .int l3), (4, .int l4), (5, .int l5), (7, .int l7), (10, .int l10), (11, .int l11), (12, .int l12)]) (by decide) rfl dX12_sound_207 ?_
  refine rw_iinc E (v := l11 + 1) (lv2 := [(11, .int (l11 + 1)), (9, .int l12), (8, .int k0), (0, hrf b0 ((some h))), (1, .int l1), (2, .int l2), (3, .int l3), (4, .int l4), (5, .int l5), (7, .int l7), (10, .int l10), (12, .int l12)]) (j0 := 10) rfl rfl (by decide) rfl dX12_sound_209 ?_
  refine rw_goto E (tgt := 101) (by decide) dX12_sound_212 ?_
  refine WH.pick [3, 4, 5, 6, 7, 8, 9, 2, 1, 10, 0] rfl ?_
  exact hj101 _ _ _ _ _ _ _ _ _ _ _ hh
def s_X12_sound_b187 (j101 : HS → Int32 → Int32 → Int32 → Int32 → Int32 → Int32 → Int32 → Int32 → Int32 → Int32 → Option (Int32 × HS)) (h : Nat) (S : HS) (l1 : Int32) (l2 : Int32) (l3 : Int32) (l4 : Int32) (l5 : Int32) (l7 : Int32) (l8 : Int32) (l11 : Int32) (l12 : Int32) (k0 : Int32) : Option (Int32 × HS) := if l12 ≤ l8 then (s_X12_sound_b203 j101 h S l1 l2 l3 l4 l5 l7 k0 l11 l12 l8) else (s_X12_sound_b203 j101 h S l1 l2 l3 l4 l5 l7 k0 l11 l12 l12)
set_option maxHeartbeats 4000000 in
set_option maxRecDepth 100000 in
theorem w_X12_sound_b187 {p : Program} {l : Launch} {e : Env} {s : State} {m : MethodId} {args : Array Value} {below : List Frame} {meth : Method} {c : Code} {b0 : Nat} {G : hG} {S1 : HS} {r : Int32} {j101 : HS → Int32 → Int32 → Int32 → Int32 → Int32 → Int32 → Int32 → Int32 → Int32 → Int32 → Option (Int32 × HS)} {h : Nat} {S : HS} {l1 : Int32} {l2 : Int32} {l3 : Int32} {l4 : Int32} {l5 : Int32} {l7 : Int32} {l8 : Int32} {l11 : Int32} {l12 : Int32} {k0 : Int32} (E : hE p s m args c b0 G cX12_sound RX12 13 wsX12_sound) (hrt : meth.sig.returnType = (some .int)) (hlk : meth.locks = false) (hj101 : ∀ (S : HS) (l1 : Int32) (l2 : Int32) (l3 : Int32) (l4 : Int32) (l5 : Int32) (l7 : Int32) (l8 : Int32) (l9 : Int32) (l10 : Int32) (l11 : Int32), j101 S l1 l2 l3 l4 l5 l7 l8 l9 l10 l11 = some (r, S1) → WH p l e rm_X12_sound s m args below meth c b0 G 13 0 0 (MQ below (hQ b0 G (some (.int r)) S1) args s 0 0 (hA b0)) S 101 [(0, hrf b0 ((some h))), (1, .int l1), (2, .int l2), (3, .int l3), (4, .int l4), (5, .int l5), (7, .int l7), (8, .int l8), (9, .int l9), (10, .int l10), (11, .int l11)] []) (hh : s_X12_sound_b187 j101 h S l1 l2 l3 l4 l5 l7 l8 l11 l12 k0 = some (r, S1)) : WH p l e rm_X12_sound s m args below meth c b0 G 13 0 0 (MQ below (hQ b0 G (some (.int r)) S1) args s 0 0 (hA b0)) S 187 [(0, hrf b0 ((some h))), (1, .int l1), (2, .int l2), (3, .int l3), (4, .int l4), (5, .int l5), (7, .int l7), (8, .int l8), (11, .int l11), (12, .int l12)] [.int k0] := by
  have hh : (if l12 ≤ l8 then (s_X12_sound_b203 j101 h S l1 l2 l3 l4 l5 l7 k0 l11 l12 l8) else (s_X12_sound_b203 j101 h S l1 l2 l3 l4 l5 l7 k0 l11 l12 l12)) = some (r, S1) := hh
  refine rw_istore E (lv2 := [(10, .int k0), (0, hrf b0 ((some h))), (1, .int l1), (2, .int l2), (3, .int l3), (4, .int l4), (5, .int l5), (7, .int l7), (8, .int l8), (11, .int l11), (12, .int l12)]) (by decide) rfl dX12_sound_187 ?_
  refine rw_iload E (j0 := 10) rfl dX12_sound_189 ?_
  refine rw_iload E (j0 := 8) rfl dX12_sound_191 ?_
  refine rw_icmp_le E hh (tgt := 201) (by decide) dX12_sound_193 (fun hh => ?_) (fun hh => ?_)
  · refine rw_iload E (j0 := 8) rfl dX12_sound_201 ?_
    refine WH.pick [1, 2, 3, 4, 5, 6, 7, 0, 9, 10] rfl ?_
    exact w_X12_sound_b203 E hrt hlk hj101 hh
  · refine rw_iload E (j0 := 10) rfl dX12_sound_196 ?_
    refine rw_goto E (tgt := 203) (by decide) dX12_sound_198 ?_
    refine WH.pick [1, 2, 3, 4, 5, 6, 7, 0, 9, 10] rfl ?_
    exact w_X12_sound_b203 E hrt hlk hj101 hh
def s_X12_sound_b182 (j101 : HS → Int32 → Int32 → Int32 → Int32 → Int32 → Int32 → Int32 → Int32 → Int32 → Int32 → Option (Int32 × HS)) (h : Nat) (S : HS) (l1 : Int32) (l2 : Int32) (l3 : Int32) (l4 : Int32) (l5 : Int32) (l7 : Int32) (l8 : Int32) (l11 : Int32) (l12 : Int32) : Option (Int32 × HS) := s_X12_sound_b187 j101 h S l1 l2 l3 l4 l5 l7 l8 l11 l12 1
set_option maxHeartbeats 4000000 in
set_option maxRecDepth 100000 in
theorem w_X12_sound_b182 {p : Program} {l : Launch} {e : Env} {s : State} {m : MethodId} {args : Array Value} {below : List Frame} {meth : Method} {c : Code} {b0 : Nat} {G : hG} {S1 : HS} {r : Int32} {j101 : HS → Int32 → Int32 → Int32 → Int32 → Int32 → Int32 → Int32 → Int32 → Int32 → Int32 → Option (Int32 × HS)} {h : Nat} {S : HS} {l1 : Int32} {l2 : Int32} {l3 : Int32} {l4 : Int32} {l5 : Int32} {l7 : Int32} {l8 : Int32} {l11 : Int32} {l12 : Int32} (E : hE p s m args c b0 G cX12_sound RX12 13 wsX12_sound) (hrt : meth.sig.returnType = (some .int)) (hlk : meth.locks = false) (hj101 : ∀ (S : HS) (l1 : Int32) (l2 : Int32) (l3 : Int32) (l4 : Int32) (l5 : Int32) (l7 : Int32) (l8 : Int32) (l9 : Int32) (l10 : Int32) (l11 : Int32), j101 S l1 l2 l3 l4 l5 l7 l8 l9 l10 l11 = some (r, S1) → WH p l e rm_X12_sound s m args below meth c b0 G 13 0 0 (MQ below (hQ b0 G (some (.int r)) S1) args s 0 0 (hA b0)) S 101 [(0, hrf b0 ((some h))), (1, .int l1), (2, .int l2), (3, .int l3), (4, .int l4), (5, .int l5), (7, .int l7), (8, .int l8), (9, .int l9), (10, .int l10), (11, .int l11)] []) (hh : s_X12_sound_b182 j101 h S l1 l2 l3 l4 l5 l7 l8 l11 l12 = some (r, S1)) : WH p l e rm_X12_sound s m args below meth c b0 G 13 0 0 (MQ below (hQ b0 G (some (.int r)) S1) args s 0 0 (hA b0)) S 182 [(0, hrf b0 ((some h))), (1, .int l1), (2, .int l2), (3, .int l3), (4, .int l4), (5, .int l5), (7, .int l7), (8, .int l8), (11, .int l11), (12, .int l12)] [] := by
  have hh : (s_X12_sound_b187 j101 h S l1 l2 l3 l4 l5 l7 l8 l11 l12 1) = some (r, S1) := hh
  refine rw_iconst E (v := 1) (by decide) dX12_sound_182 ?_
  refine rw_goto E (tgt := 187) (by decide) dX12_sound_183 ?_
  refine WH.pick [0, 1, 2, 3, 4, 5, 6, 7, 8, 9] rfl ?_
  exact w_X12_sound_b187 E hrt hlk hj101 hh
def s_X12_sound_b186 (j101 : HS → Int32 → Int32 → Int32 → Int32 → Int32 → Int32 → Int32 → Int32 → Int32 → Int32 → Option (Int32 × HS)) (h : Nat) (S : HS) (l1 : Int32) (l2 : Int32) (l3 : Int32) (l4 : Int32) (l5 : Int32) (l7 : Int32) (l8 : Int32) (l11 : Int32) (l12 : Int32) : Option (Int32 × HS) := s_X12_sound_b187 j101 h S l1 l2 l3 l4 l5 l7 l8 l11 l12 0
set_option maxHeartbeats 4000000 in
set_option maxRecDepth 100000 in
theorem w_X12_sound_b186 {p : Program} {l : Launch} {e : Env} {s : State} {m : MethodId} {args : Array Value} {below : List Frame} {meth : Method} {c : Code} {b0 : Nat} {G : hG} {S1 : HS} {r : Int32} {j101 : HS → Int32 → Int32 → Int32 → Int32 → Int32 → Int32 → Int32 → Int32 → Int32 → Int32 → Option (Int32 × HS)} {h : Nat} {S : HS} {l1 : Int32} {l2 : Int32} {l3 : Int32} {l4 : Int32} {l5 : Int32} {l7 : Int32} {l8 : Int32} {l11 : Int32} {l12 : Int32} (E : hE p s m args c b0 G cX12_sound RX12 13 wsX12_sound) (hrt : meth.sig.returnType = (some .int)) (hlk : meth.locks = false) (hj101 : ∀ (S : HS) (l1 : Int32) (l2 : Int32) (l3 : Int32) (l4 : Int32) (l5 : Int32) (l7 : Int32) (l8 : Int32) (l9 : Int32) (l10 : Int32) (l11 : Int32), j101 S l1 l2 l3 l4 l5 l7 l8 l9 l10 l11 = some (r, S1) → WH p l e rm_X12_sound s m args below meth c b0 G 13 0 0 (MQ below (hQ b0 G (some (.int r)) S1) args s 0 0 (hA b0)) S 101 [(0, hrf b0 ((some h))), (1, .int l1), (2, .int l2), (3, .int l3), (4, .int l4), (5, .int l5), (7, .int l7), (8, .int l8), (9, .int l9), (10, .int l10), (11, .int l11)] []) (hh : s_X12_sound_b186 j101 h S l1 l2 l3 l4 l5 l7 l8 l11 l12 = some (r, S1)) : WH p l e rm_X12_sound s m args below meth c b0 G 13 0 0 (MQ below (hQ b0 G (some (.int r)) S1) args s 0 0 (hA b0)) S 186 [(0, hrf b0 ((some h))), (1, .int l1), (2, .int l2), (3, .int l3), (4, .int l4), (5, .int l5), (7, .int l7), (8, .int l8), (11, .int l11), (12, .int l12)] [] := by
  have hh : (s_X12_sound_b187 j101 h S l1 l2 l3 l4 l5 l7 l8 l11 l12 0) = some (r, S1) := hh
  refine rw_iconst E (v := 0) (by decide) dX12_sound_186 ?_
  refine WH.pick [0, 1, 2, 3, 4, 5, 6, 7, 8, 9] rfl ?_
  exact w_X12_sound_b187 E hrt hlk hj101 hh
def s_X12_sound_b155 (j101 : HS → Int32 → Int32 → Int32 → Int32 → Int32 → Int32 → Int32 → Int32 → Int32 → Int32 → Option (Int32 × HS)) (h : Nat) (S : HS) (l1 : Int32) (l2 : Int32) (l3 : Int32) (l4 : Int32) (l5 : Int32) (l8 : Int32) (l9 : Int32) (l10 : Int32) (l11 : Int32) (l12 : Int32) (k0 : Int32) (k1 : Int32) : Option (Int32 × HS) := if l11 ≤ 0 then (s_X12_sound_b186 j101 h S l1 l2 l3 l4 l5 (k0 + k1) l8 l11 l12) else (if l12 < l9 then (s_X12_sound_b182 j101 h S l1 l2 l3 l4 l5 (k0 + k1) l8 l11 l12) else (if l12 = l9 then (if l10 = 0 then (s_X12_sound_b186 j101 h S l1 l2 l3 l4 l5 (k0 + k1) l8 l11 l12) else (s_X12_sound_b182 j101 h S l1 l2 l3 l4 l5 (k0 + k1) l8 l11 l12)) else (s_X12_sound_b186 j101 h S l1 l2 l3 l4 l5 (k0 + k1) l8 l11 l12)))
set_option maxHeartbeats 4000000 in
set_option maxRecDepth 100000 in
theorem w_X12_sound_b155 {p : Program} {l : Launch} {e : Env} {s : State} {m : MethodId} {args : Array Value} {below : List Frame} {meth : Method} {c : Code} {b0 : Nat} {G : hG} {S1 : HS} {r : Int32} {j101 : HS → Int32 → Int32 → Int32 → Int32 → Int32 → Int32 → Int32 → Int32 → Int32 → Int32 → Option (Int32 × HS)} {h : Nat} {S : HS} {l1 : Int32} {l2 : Int32} {l3 : Int32} {l4 : Int32} {l5 : Int32} {l8 : Int32} {l9 : Int32} {l10 : Int32} {l11 : Int32} {l12 : Int32} {k0 : Int32} {k1 : Int32} (E : hE p s m args c b0 G cX12_sound RX12 13 wsX12_sound) (hrt : meth.sig.returnType = (some .int)) (hlk : meth.locks = false) (hj101 : ∀ (S : HS) (l1 : Int32) (l2 : Int32) (l3 : Int32) (l4 : Int32) (l5 : Int32) (l7 : Int32) (l8 : Int32) (l9 : Int32) (l10 : Int32) (l11 : Int32), j101 S l1 l2 l3 l4 l5 l7 l8 l9 l10 l11 = some (r, S1) → WH p l e rm_X12_sound s m args below meth c b0 G 13 0 0 (MQ below (hQ b0 G (some (.int r)) S1) args s 0 0 (hA b0)) S 101 [(0, hrf b0 ((some h))), (1, .int l1), (2, .int l2), (3, .int l3), (4, .int l4), (5, .int l5), (7, .int l7), (8, .int l8), (9, .int l9), (10, .int l10), (11, .int l11)] []) (hh : s_X12_sound_b155 j101 h S l1 l2 l3 l4 l5 l8 l9 l10 l11 l12 k0 k1 = some (r, S1)) : WH p l e rm_X12_sound s m args below meth c b0 G 13 0 0 (MQ below (hQ b0 G (some (.int r)) S1) args s 0 0 (hA b0)) S 155 [(0, hrf b0 ((some h))), (1, .int l1), (2, .int l2), (3, .int l3), (4, .int l4), (5, .int l5), (8, .int l8), (9, .int l9), (10, .int l10), (11, .int l11), (12, .int l12)] [.int k1, .int k0] := by
  have hh : (if l11 ≤ 0 then (s_X12_sound_b186 j101 h S l1 l2 l3 l4 l5 (k0 + k1) l8 l11 l12) else (if l12 < l9 then (s_X12_sound_b182 j101 h S l1 l2 l3 l4 l5 (k0 + k1) l8 l11 l12) else (if l12 = l9 then (if l10 = 0 then (s_X12_sound_b186 j101 h S l1 l2 l3 l4 l5 (k0 + k1) l8 l11 l12) else (s_X12_sound_b182 j101 h S l1 l2 l3 l4 l5 (k0 + k1) l8 l11 l12)) else (s_X12_sound_b186 j101 h S l1 l2 l3 l4 l5 (k0 + k1) l8 l11 l12)))) = some (r, S1) := hh
  refine rw_iadd E dX12_sound_155 ?_
  refine rw_istore E (lv2 := [(7, .int (k0 + k1)), (0, hrf b0 ((some h))), (1, .int l1), (2, .int l2), (3, .int l3), (4, .int l4), (5, .int l5), (8, .int l8), (9, .int l9), (10, .int l10), (11, .int l11), (12, .int l12)]) (by decide) rfl dX12_sound_156 ?_
  refine rw_iload E (j0 := 10) rfl dX12_sound_158 ?_
  refine rw_if_le E hh (tgt := 186) (by decide) dX12_sound_160 (fun hh => ?_) (fun hh => ?_)
  · refine WH.pick [1, 2, 3, 4, 5, 6, 0, 7, 10, 11] rfl ?_
    exact w_X12_sound_b186 E hrt hlk hj101 hh
  · refine rw_iload E (j0 := 11) rfl dX12_sound_163 ?_
    refine rw_iload E (j0 := 8) rfl dX12_sound_165 ?_
    refine rw_icmp_lt E hh (tgt := 182) (by decide) dX12_sound_167 (fun hh => ?_) (fun hh => ?_)
    · refine WH.pick [1, 2, 3, 4, 5, 6, 0, 7, 10, 11] rfl ?_
      exact w_X12_sound_b182 E hrt hlk hj101 hh
    · refine rw_iload E (j0 := 11) rfl dX12_sound_170 ?_
      refine rw_iload E (j0 := 8) rfl dX12_sound_172 ?_
      refine rw_icmp_ne E hh (tgt := 186) (by decide) dX12_sound_174 (fun hh => ?_) (fun hh => ?_)
      · refine WH.pick [1, 2, 3, 4, 5, 6, 0, 7, 10, 11] rfl ?_
        exact w_X12_sound_b186 E hrt hlk hj101 hh
      · refine rw_iload E (j0 := 9) rfl dX12_sound_177 ?_
        refine rw_if_eq E hh (tgt := 186) (by decide) dX12_sound_179 (fun hh => ?_) (fun hh => ?_)
        · refine WH.pick [1, 2, 3, 4, 5, 6, 0, 7, 10, 11] rfl ?_
          exact w_X12_sound_b186 E hrt hlk hj101 hh
        · refine WH.pick [1, 2, 3, 4, 5, 6, 0, 7, 10, 11] rfl ?_
          exact w_X12_sound_b182 E hrt hlk hj101 hh
def s_X12_sound_b154 (j101 : HS → Int32 → Int32 → Int32 → Int32 → Int32 → Int32 → Int32 → Int32 → Int32 → Int32 → Option (Int32 × HS)) (h : Nat) (S : HS) (l1 : Int32) (l2 : Int32) (l3 : Int32) (l4 : Int32) (l5 : Int32) (l8 : Int32) (l9 : Int32) (l10 : Int32) (l11 : Int32) (l12 : Int32) (k0 : Int32) : Option (Int32 × HS) := s_X12_sound_b155 j101 h S l1 l2 l3 l4 l5 l8 l9 l10 l11 l12 k0 0
set_option maxHeartbeats 4000000 in
set_option maxRecDepth 100000 in
theorem w_X12_sound_b154 {p : Program} {l : Launch} {e : Env} {s : State} {m : MethodId} {args : Array Value} {below : List Frame} {meth : Method} {c : Code} {b0 : Nat} {G : hG} {S1 : HS} {r : Int32} {j101 : HS → Int32 → Int32 → Int32 → Int32 → Int32 → Int32 → Int32 → Int32 → Int32 → Int32 → Option (Int32 × HS)} {h : Nat} {S : HS} {l1 : Int32} {l2 : Int32} {l3 : Int32} {l4 : Int32} {l5 : Int32} {l8 : Int32} {l9 : Int32} {l10 : Int32} {l11 : Int32} {l12 : Int32} {k0 : Int32} (E : hE p s m args c b0 G cX12_sound RX12 13 wsX12_sound) (hrt : meth.sig.returnType = (some .int)) (hlk : meth.locks = false) (hj101 : ∀ (S : HS) (l1 : Int32) (l2 : Int32) (l3 : Int32) (l4 : Int32) (l5 : Int32) (l7 : Int32) (l8 : Int32) (l9 : Int32) (l10 : Int32) (l11 : Int32), j101 S l1 l2 l3 l4 l5 l7 l8 l9 l10 l11 = some (r, S1) → WH p l e rm_X12_sound s m args below meth c b0 G 13 0 0 (MQ below (hQ b0 G (some (.int r)) S1) args s 0 0 (hA b0)) S 101 [(0, hrf b0 ((some h))), (1, .int l1), (2, .int l2), (3, .int l3), (4, .int l4), (5, .int l5), (7, .int l7), (8, .int l8), (9, .int l9), (10, .int l10), (11, .int l11)] []) (hh : s_X12_sound_b154 j101 h S l1 l2 l3 l4 l5 l8 l9 l10 l11 l12 k0 = some (r, S1)) : WH p l e rm_X12_sound s m args below meth c b0 G 13 0 0 (MQ below (hQ b0 G (some (.int r)) S1) args s 0 0 (hA b0)) S 154 [(0, hrf b0 ((some h))), (1, .int l1), (2, .int l2), (3, .int l3), (4, .int l4), (5, .int l5), (8, .int l8), (9, .int l9), (10, .int l10), (11, .int l11), (12, .int l12)] [.int k0] := by
  have hh : (s_X12_sound_b155 j101 h S l1 l2 l3 l4 l5 l8 l9 l10 l11 l12 k0 0) = some (r, S1) := hh
  refine rw_iconst E (v := 0) (by decide) dX12_sound_154 ?_
  refine WH.pick [0, 1, 2, 3, 4, 5, 6, 7, 8, 9, 10] rfl ?_
  exact w_X12_sound_b155 E hrt hlk hj101 hh
def s_X12_sound_b101 (j101 : HS → Int32 → Int32 → Int32 → Int32 → Int32 → Int32 → Int32 → Int32 → Int32 → Int32 → Option (Int32 × HS)) (h : Nat) (S : HS) (l1 : Int32) (l2 : Int32) (l3 : Int32) (l4 : Int32) (l5 : Int32) (l7 : Int32) (l8 : Int32) (l9 : Int32) (l10 : Int32) (l11 : Int32) : Option (Int32 × HS) := if l4 ≤ l11 then (if l5 = 0 then (some (l7, S)) else (some (l8, S))) else (kP S ((some h)) 12 4 (fun v1 => kA S v1 14 (((40 * l2) + l3) + l11) (fun v2 => kO S ((some h)) 12 (fun a5 => kc (s_X12_discOf S a5 l1 2) (fun v4 S3 => kdiv v2 v4 (fun v6 => if l11 ≤ 0 then (s_X12_sound_b154 j101 h S3 l1 l2 l3 l4 l5 l8 l9 l10 l11 v6 l7) else (if v6 ≤ l9 then (s_X12_sound_b154 j101 h S3 l1 l2 l3 l4 l5 l8 l9 l10 l11 v6 l7) else (if l10 = 0 then (s_X12_sound_b154 j101 h S3 l1 l2 l3 l4 l5 l8 l9 l10 l11 v6 l7) else (s_X12_sound_b155 j101 h S3 l1 l2 l3 l4 l5 l8 l9 l10 l11 v6 l7 1)))))))))
set_option maxHeartbeats 4000000 in
set_option maxRecDepth 100000 in
theorem w_X12_sound_b101 {p : Program} {l : Launch} {e : Env} {s : State} {m : MethodId} {args : Array Value} {below : List Frame} {meth : Method} {c : Code} {b0 : Nat} {G : hG} {S1 : HS} {r : Int32} {j101 : HS → Int32 → Int32 → Int32 → Int32 → Int32 → Int32 → Int32 → Int32 → Int32 → Int32 → Option (Int32 × HS)} {h : Nat} {S : HS} {l1 : Int32} {l2 : Int32} {l3 : Int32} {l4 : Int32} {l5 : Int32} {l7 : Int32} {l8 : Int32} {l9 : Int32} {l10 : Int32} {l11 : Int32} (E : hE p s m args c b0 G cX12_sound RX12 13 wsX12_sound) (hrt : meth.sig.returnType = (some .int)) (hlk : meth.locks = false) (hj101 : ∀ (S : HS) (l1 : Int32) (l2 : Int32) (l3 : Int32) (l4 : Int32) (l5 : Int32) (l7 : Int32) (l8 : Int32) (l9 : Int32) (l10 : Int32) (l11 : Int32), j101 S l1 l2 l3 l4 l5 l7 l8 l9 l10 l11 = some (r, S1) → WH p l e rm_X12_sound s m args below meth c b0 G 13 0 0 (MQ below (hQ b0 G (some (.int r)) S1) args s 0 0 (hA b0)) S 101 [(0, hrf b0 ((some h))), (1, .int l1), (2, .int l2), (3, .int l3), (4, .int l4), (5, .int l5), (7, .int l7), (8, .int l8), (9, .int l9), (10, .int l10), (11, .int l11)] []) (hh : s_X12_sound_b101 j101 h S l1 l2 l3 l4 l5 l7 l8 l9 l10 l11 = some (r, S1)) : WH p l e rm_X12_sound s m args below meth c b0 G 13 0 0 (MQ below (hQ b0 G (some (.int r)) S1) args s 0 0 (hA b0)) S 101 [(0, hrf b0 ((some h))), (1, .int l1), (2, .int l2), (3, .int l3), (4, .int l4), (5, .int l5), (7, .int l7), (8, .int l8), (9, .int l9), (10, .int l10), (11, .int l11)] [] := by
  have hh : (if l4 ≤ l11 then (if l5 = 0 then (some (l7, S)) else (some (l8, S))) else (kP S ((some h)) 12 4 (fun v1 => kA S v1 14 (((40 * l2) + l3) + l11) (fun v2 => kO S ((some h)) 12 (fun a5 => kc (s_X12_discOf S a5 l1 2) (fun v4 S3 => kdiv v2 v4 (fun v6 => if l11 ≤ 0 then (s_X12_sound_b154 j101 h S3 l1 l2 l3 l4 l5 l8 l9 l10 l11 v6 l7) else (if v6 ≤ l9 then (s_X12_sound_b154 j101 h S3 l1 l2 l3 l4 l5 l8 l9 l10 l11 v6 l7) else (if l10 = 0 then (s_X12_sound_b154 j101 h S3 l1 l2 l3 l4 l5 l8 l9 l10 l11 v6 l7) else (s_X12_sound_b155 j101 h S3 l1 l2 l3 l4 l5 l8 l9 l10 l11 v6 l7 1)))))))))) = some (r, S1) := hh
  refine rw_iload E (j0 := 10) rfl dX12_sound_101 ?_
  refine rw_iload E (j0 := 4) rfl dX12_sound_103 ?_
  refine rw_icmp_ge E hh (tgt := 215) (by decide) dX12_sound_105 (fun hh => ?_) (fun hh => ?_)
  · refine rw_iload E (j0 := 5) rfl dX12_sound_215 ?_
    refine rw_if_ne E hh (tgt := 225) (by decide) dX12_sound_217 (fun hh => ?_) (fun hh => ?_)
    · refine rw_iload E (j0 := 7) rfl dX12_sound_225 ?_
      exact rw_iret E hrt hlk hh (by decide) (by decide) dX12_sound_227
    · refine rw_iload E (j0 := 6) rfl dX12_sound_220 ?_
      refine rw_goto E (tgt := 227) (by decide) dX12_sound_222 ?_
      exact rw_iret E hrt hlk hh (by decide) (by decide) dX12_sound_227
  · refine rw_aload_n E (j0 := 0) rfl rfl dX12_sound_108 ?_
    refine rw_getP E hh (C := RX12) (T := TX12) (N := 32) rfl (by decide) i_X12_sound_12 (by decide) rfl (List.mem_of_getElem? (i := 6) (by decide +kernel)) rfl dX12_sound_109 (fun v1 hh => ?_)
    refine rw_bipush E (v := 40) (by decide) dX12_sound_112 ?_
    refine rw_iload_n E (j0 := 2) rfl rfl dX12_sound_114 ?_
    refine rw_imul E dX12_sound_115 ?_
    refine rw_iload_n E (j0 := 3) rfl rfl dX12_sound_116 ?_
    refine rw_iadd E dX12_sound_117 ?_
    refine rw_iload E (j0 := 10) rfl dX12_sound_118 ?_
    refine rw_iadd E dX12_sound_120 ?_
    refine rw_iald E hh dX12_sound_121 (fun v2 hh => ?_)
    refine rw_aload_n E (j0 := 0) rfl rfl dX12_sound_122 ?_
    refine rw_iload_n E (j0 := 1) rfl rfl dX12_sound_123 ?_
    refine rw_iconst E (v := 2) (by decide) dX12_sound_124 ?_
    refine rw_cVi E (As := [.int l1, .int 2]) hh (by decide) rfl (fun _ _ _ hq => c_X12_discOf l b0 G _ _ _ _ _ _ hq) (cwV 2 E.2.2.2.2.1 gX12_sound_X12_discOf rfl rfl rfl (by decide +kernel) ⟨Nat.le_of_ble_eq_true rfl, Nat.le_of_ble_eq_true rfl⟩) rfl rfl (by (try simp only [List.map_cons, List.map_nil, List.sum_cons, List.sum_nil, hrf_cat, cat_i, cat_l, cat_r]) <;> decide) ⟨Nat.le_of_ble_eq_true rfl, Nat.le_of_ble_eq_true rfl⟩ dX12_sound_125 (fun v4 S3 hh => ?_)
    refine rw_idiv E hh dX12_sound_128 (fun v6 hh => ?_)
    refine rw_istore E (lv2 := [(12, .int v6), (0, hrf b0 ((some h))), (1, .int l1), (2, .int l2), (3, .int l3), (4, .int l4), (5, .int l5), (7, .int l7), (8, .int l8), (9, .int l9), (10, .int l10), (11, .int l11)]) (by decide) rfl dX12_sound_129 ?_
    refine rw_iload E (j0 := 7) rfl dX12_sound_131 ?_
    refine rw_iload E (j0 := 11) rfl dX12_sound_133 ?_
    refine rw_if_le E hh (tgt := 154) (by decide) dX12_sound_135 (fun hh => ?_) (fun hh => ?_)
    · refine WH.pick [1, 2, 3, 4, 5, 6, 8, 9, 10, 11, 0] rfl ?_
      exact w_X12_sound_b154 E hrt hlk hj101 hh
    · refine rw_iload E (j0 := 0) rfl dX12_sound_138 ?_
      refine rw_iload E (j0 := 9) rfl dX12_sound_140 ?_
      refine rw_icmp_le E hh (tgt := 154) (by decide) dX12_sound_142 (fun hh => ?_) (fun hh => ?_)
      · refine WH.pick [1, 2, 3, 4, 5, 6, 8, 9, 10, 11, 0] rfl ?_
        exact w_X12_sound_b154 E hrt hlk hj101 hh
      · refine rw_iload E (j0 := 10) rfl dX12_sound_145 ?_
        refine rw_if_eq E hh (tgt := 154) (by decide) dX12_sound_147 (fun hh => ?_) (fun hh => ?_)
        · refine WH.pick [1, 2, 3, 4, 5, 6, 8, 9, 10, 11, 0] rfl ?_
          exact w_X12_sound_b154 E hrt hlk hj101 hh
        · refine rw_iconst E (v := 1) (by decide) dX12_sound_150 ?_
          refine rw_goto E (tgt := 155) (by decide) dX12_sound_151 ?_
          refine WH.pick [1, 2, 3, 4, 5, 6, 8, 9, 10, 11, 0] rfl ?_
          exact w_X12_sound_b155 E hrt hlk hj101 hh
def s_X12_sound_L101 (h : Nat) : Nat → HS → Int32 → Int32 → Int32 → Int32 → Int32 → Int32 → Int32 → Int32 → Int32 → Int32 → Option (Int32 × HS)
  | 0 => fun _ _ _ _ _ _ _ _ _ _ _ => none
  | n + 1 => s_X12_sound_b101 (s_X12_sound_L101 h n) h
set_option maxHeartbeats 4000000 in
set_option maxRecDepth 100000 in
theorem w_X12_sound_L101 {p : Program} {l : Launch} {e : Env} {s : State} {m : MethodId} {args : Array Value} {below : List Frame} {meth : Method} {c : Code} {b0 : Nat} {G : hG} {S1 : HS} {r : Int32} {h : Nat} (E : hE p s m args c b0 G cX12_sound RX12 13 wsX12_sound) (hrt : meth.sig.returnType = (some .int)) (hlk : meth.locks = false) : ∀ (n : Nat) (S : HS) (l1 : Int32) (l2 : Int32) (l3 : Int32) (l4 : Int32) (l5 : Int32) (l7 : Int32) (l8 : Int32) (l9 : Int32) (l10 : Int32) (l11 : Int32), s_X12_sound_L101 h n S l1 l2 l3 l4 l5 l7 l8 l9 l10 l11 = some (r, S1) → WH p l e rm_X12_sound s m args below meth c b0 G 13 0 0 (MQ below (hQ b0 G (some (.int r)) S1) args s 0 0 (hA b0)) S 101 [(0, hrf b0 ((some h))), (1, .int l1), (2, .int l2), (3, .int l3), (4, .int l4), (5, .int l5), (7, .int l7), (8, .int l8), (9, .int l9), (10, .int l10), (11, .int l11)] [] := by
  intro n
  induction n with
  | zero => intro _ _ _ _ _ _ _ _ _ _ _ hh; exact absurd hh (by simp [s_X12_sound_L101])
  | succ n ih => intro _ _ _ _ _ _ _ _ _ _ _ hh; exact w_X12_sound_b101 E hrt hlk  ih hh
def s_X12_sound (S : HS) (h : Nat) (l1 : Int32) (l2 : Int32) (l3 : Int32) (l4 : Int32) (l5 : Int32) : Option (Int32 × HS) := kwI S ((some h)) 12 0 0 (fun S1 => kO S1 ((some h)) 12 (fun a4 => kc (s_X12_isDisc S1 a4 l1) (fun v3 S2 => if v3 = 0 then (some ((-1000001), S2)) else (kc (s_X12_isRow S2 l2) (fun v6 S5 => if v6 = 0 then (some ((-1000001), S5)) else (kc (s_X12_in S5 l4.toInt64 2 40) (fun v8 S7 => if v8 = 0 then (some ((-1000001), S7)) else (kc (s_X12_in S7 l5.toInt64 0 1) (fun v10 S9 => if v10 = 0 then (some ((-1000001), S9)) else (kO S9 ((some h)) 12 (fun a13 => kc (s_X12_noTones S9 a13 l2 l3 l4) (fun v12 S11 => if v12 = 0 then (kwI S11 ((some h)) 12 1 0 (fun S14 => s_X12_sound_L101 h 100000 S14 l1 l2 l3 l4 l5 0 0 0 0 0)) else (if 0 ≤ v12 then (kO S11 ((some h)) 12 (fun a17 => kc (s_X12_finding S11 a17 v12) (fun v16 S15 => some (v16, S15)))) else (some ((-1000001), S11)))))))))))))))
set_option maxHeartbeats 4000000 in
set_option maxRecDepth 100000 in
theorem c_X12_sound (l : Launch) (b0 : Nat) (G : hG) (S S1 : HS) (h : Nat) (l1 : Int32) (l2 : Int32) (l3 : Int32) (l4 : Int32) (l5 : Int32) (r : Int32) (hh : s_X12_sound S h l1 l2 l3 l4 l5 = some (r, S1)) : MH l yX12_sound wsX12_sound rm_X12_sound b0 G S [hrf b0 (some h), .int l1, .int l2, .int l3, .int l4, .int l5] (some (.int r)) S1 0 0 := by
  refine MH.ofW (cc := cX12_sound) (maxL := 13) (ret := (some .int)) (own := RX12) (lv0 := [(0, hrf b0 ((some h))), (1, .int l1), (2, .int l2), (3, .int l3), (4, .int l4), (5, .int l5)]) (by decide) rfl rfl (Nat.le_of_ble_eq_true rfl) rfl ?_
  intro p e s m args below meth c E hrt hlk hnm
  have hh : (kwI S ((some h)) 12 0 0 (fun S1 => kO S1 ((some h)) 12 (fun a4 => kc (s_X12_isDisc S1 a4 l1) (fun v3 S2 => if v3 = 0 then (some ((-1000001), S2)) else (kc (s_X12_isRow S2 l2) (fun v6 S5 => if v6 = 0 then (some ((-1000001), S5)) else (kc (s_X12_in S5 l4.toInt64 2 40) (fun v8 S7 => if v8 = 0 then (some ((-1000001), S7)) else (kc (s_X12_in S7 l5.toInt64 0 1) (fun v10 S9 => if v10 = 0 then (some ((-1000001), S9)) else (kO S9 ((some h)) 12 (fun a13 => kc (s_X12_noTones S9 a13 l2 l3 l4) (fun v12 S11 => if v12 = 0 then (kwI S11 ((some h)) 12 1 0 (fun S14 => s_X12_sound_L101 h 100000 S14 l1 l2 l3 l4 l5 0 0 0 0 0)) else (if 0 ≤ v12 then (kO S11 ((some h)) 12 (fun a17 => kc (s_X12_finding S11 a17 v12) (fun v16 S15 => some (v16, S15)))) else (some ((-1000001), S11)))))))))))))))) = some (r, S1) := hh
  refine rw_aload_n E (j0 := 0) rfl rfl dX12_sound_0 ?_
  refine rw_iconst E (v := 0) (by decide) dX12_sound_1 ?_
  refine rw_putI E hh (C := RX12) (T := TX12) (N := 32) (ty0 := tyX12) rfl tyX12_ok nmX12 (by decide) i_X12_sound_12 (by decide) rfl (List.mem_of_getElem? (i := 1) (by decide +kernel)) rfl (Or.inl rfl) rfl dX12_sound_2 (fun S1 hh => ?_)
  refine rw_aload_n E (j0 := 0) rfl rfl dX12_sound_5 ?_
  refine rw_iload_n E (j0 := 1) rfl rfl dX12_sound_6 ?_
  refine rw_cVi E (As := [.int l1]) hh (by decide) rfl (fun _ _ _ hq => c_X12_isDisc l b0 G _ _ _ _ _ hq) (cwV 1 E.2.2.2.2.1 gX12_sound_X12_isDisc rfl rfl rfl (by decide +kernel) ⟨Nat.le_of_ble_eq_true rfl, Nat.le_of_ble_eq_true rfl⟩) rfl rfl (by (try simp only [List.map_cons, List.map_nil, List.sum_cons, List.sum_nil, hrf_cat, cat_i, cat_l, cat_r]) <;> decide) ⟨Nat.le_of_ble_eq_true rfl, Nat.le_of_ble_eq_true rfl⟩ dX12_sound_7 (fun v3 S2 hh => ?_)
  refine rw_if_eq E hh (tgt := 46) (by decide) dX12_sound_10 (fun hh => ?_) (fun hh => ?_)
  · refine rw_ldc E (v := (-1000001)) (List.mem_of_getElem? (i := 4) (by decide +kernel)) dX12_sound_46 ?_
    exact rw_iret E hrt hlk hh (by decide) (by decide) dX12_sound_48
  · refine rw_iload_n E (j0 := 2) rfl rfl dX12_sound_13 ?_
    refine rw_cSi E (As := [.int l2]) hh (fun _ _ hq => c_X12_isRow l b0 G _ _ _ _ hq) (va_cwS 1 E.2.2.2.2.1 gX12_sound_X12_isRow rfl rfl rfl (by decide +kernel) ⟨Nat.le_of_ble_eq_true rfl, Nat.le_of_ble_eq_true rfl⟩) rfl rfl (by (try simp only [List.map_cons, List.map_nil, List.sum_cons, List.sum_nil, hrf_cat, cat_i, cat_l, cat_r]) <;> decide) ⟨Nat.le_of_ble_eq_true rfl, Nat.le_of_ble_eq_true rfl⟩ dX12_sound_14 (fun v6 S5 hh => ?_)
    refine rw_if_eq E hh (tgt := 46) (by decide) dX12_sound_17 (fun hh => ?_) (fun hh => ?_)
    · refine rw_ldc E (v := (-1000001)) (List.mem_of_getElem? (i := 4) (by decide +kernel)) dX12_sound_46 ?_
      exact rw_iret E hrt hlk hh (by decide) (by decide) dX12_sound_48
    · refine rw_iload E (j0 := 4) rfl dX12_sound_20 ?_
      refine rw_i2l E dX12_sound_22 ?_
      refine rw_ldc2 E (v := 2) (List.mem_of_getElem? (i := 2) (by decide +kernel)) dX12_sound_23 ?_
      refine rw_ldc2 E (v := 40) (List.mem_of_getElem? (i := 3) (by decide +kernel)) dX12_sound_26 ?_
      refine rw_cSi E (As := [.long l4.toInt64, .long 2, .long 40]) hh (fun _ _ hq => c_X12_in l b0 G _ _ _ _ _ _ hq) (va_cwS 3 E.2.2.2.2.1 gX12_sound_X12_in rfl rfl rfl (by decide +kernel) ⟨Nat.le_of_ble_eq_true rfl, Nat.le_of_ble_eq_true rfl⟩) rfl rfl (by (try simp only [List.map_cons, List.map_nil, List.sum_cons, List.sum_nil, hrf_cat, cat_i, cat_l, cat_r]) <;> decide) ⟨Nat.le_of_ble_eq_true rfl, Nat.le_of_ble_eq_true rfl⟩ dX12_sound_29 (fun v8 S7 hh => ?_)
      refine rw_if_eq E hh (tgt := 46) (by decide) dX12_sound_32 (fun hh => ?_) (fun hh => ?_)
      · refine rw_ldc E (v := (-1000001)) (List.mem_of_getElem? (i := 4) (by decide +kernel)) dX12_sound_46 ?_
        exact rw_iret E hrt hlk hh (by decide) (by decide) dX12_sound_48
      · refine rw_iload E (j0 := 5) rfl dX12_sound_35 ?_
        refine rw_i2l E dX12_sound_37 ?_
        refine rw_lconst E (v := 0) (by decide) dX12_sound_38 ?_
        refine rw_lconst E (v := 1) (by decide) dX12_sound_39 ?_
        refine rw_cSi E (As := [.long l5.toInt64, .long 0, .long 1]) hh (fun _ _ hq => c_X12_in l b0 G _ _ _ _ _ _ hq) (va_cwS 3 E.2.2.2.2.1 gX12_sound_X12_in rfl rfl rfl (by decide +kernel) ⟨Nat.le_of_ble_eq_true rfl, Nat.le_of_ble_eq_true rfl⟩) rfl rfl (by (try simp only [List.map_cons, List.map_nil, List.sum_cons, List.sum_nil, hrf_cat, cat_i, cat_l, cat_r]) <;> decide) ⟨Nat.le_of_ble_eq_true rfl, Nat.le_of_ble_eq_true rfl⟩ dX12_sound_40 (fun v10 S9 hh => ?_)
        refine rw_if_ne E hh (tgt := 49) (by decide) dX12_sound_43 (fun hh => ?_) (fun hh => ?_)
        · refine rw_aload_n E (j0 := 0) rfl rfl dX12_sound_49 ?_
          refine rw_iload_n E (j0 := 2) rfl rfl dX12_sound_50 ?_
          refine rw_iload_n E (j0 := 3) rfl rfl dX12_sound_51 ?_
          refine rw_iload E (j0 := 4) rfl dX12_sound_52 ?_
          refine rw_cVi E (As := [.int l2, .int l3, .int l4]) hh (by decide) rfl (fun _ _ _ hq => c_X12_noTones l b0 G _ _ _ _ _ _ _ hq) (cwV 3 E.2.2.2.2.1 gX12_sound_X12_noTones rfl rfl rfl (by decide +kernel) ⟨Nat.le_of_ble_eq_true rfl, Nat.le_of_ble_eq_true rfl⟩) rfl rfl (by (try simp only [List.map_cons, List.map_nil, List.sum_cons, List.sum_nil, hrf_cat, cat_i, cat_l, cat_r]) <;> decide) ⟨Nat.le_of_ble_eq_true rfl, Nat.le_of_ble_eq_true rfl⟩ dX12_sound_54 (fun v12 S11 hh => ?_)
          refine rw_istore E (lv2 := [(6, .int v12), (0, hrf b0 ((some h))), (1, .int l1), (2, .int l2), (3, .int l3), (4, .int l4), (5, .int l5)]) (by decide) rfl dX12_sound_57 ?_
          refine rw_iload E (j0 := 0) rfl dX12_sound_59 ?_
          refine rw_if_eq E hh (tgt := 81) (by decide) dX12_sound_61 (fun hh => ?_) (fun hh => ?_)
          · refine rw_aload_n E (j0 := 1) rfl rfl dX12_sound_81 ?_
            refine rw_iconst E (v := 0) (by decide) dX12_sound_82 ?_
            refine rw_putI E hh (C := RX12) (T := TX12) (N := 32) (ty0 := tyX12) rfl tyX12_ok nmX12 (by decide) i_X12_sound_12 (by decide) rfl (List.mem_of_getElem? (i := 5) (by decide +kernel)) rfl (Or.inl rfl) rfl dX12_sound_83 (fun S14 hh => ?_)
            refine rw_iconst E (v := 0) (by decide) dX12_sound_86 ?_
            refine rw_istore E (lv2 := [(7, .int 0), (6, .int v12), (0, hrf b0 ((some h))), (1, .int l1), (2, .int l2), (3, .int l3), (4, .int l4), (5, .int l5)]) (by decide) rfl dX12_sound_87 ?_
            refine rw_iconst E (v := 0) (by decide) dX12_sound_89 ?_
            refine rw_istore E (lv2 := [(8, .int 0), (7, .int 0), (6, .int v12), (0, hrf b0 ((some h))), (1, .int l1), (2, .int l2), (3, .int l3), (4, .int l4), (5, .int l5)]) (by decide) rfl dX12_sound_90 ?_
            refine rw_iconst E (v := 0) (by decide) dX12_sound_92 ?_
            refine rw_istore E (lv2 := [(9, .int 0), (8, .int 0), (7, .int 0), (6, .int v12), (0, hrf b0 ((some h))), (1, .int l1), (2, .int l2), (3, .int l3), (4, .int l4), (5, .int l5)]) (by decide) rfl dX12_sound_93 ?_
            refine rw_iconst E (v := 0) (by decide) dX12_sound_95 ?_
            refine rw_istore E (lv2 := [(10, .int 0), (9, .int 0), (8, .int 0), (7, .int 0), (6, .int v12), (0, hrf b0 ((some h))), (1, .int l1), (2, .int l2), (3, .int l3), (4, .int l4), (5, .int l5)]) (by decide) rfl dX12_sound_96 ?_
            refine rw_iconst E (v := 0) (by decide) dX12_sound_98 ?_
            refine rw_istore E (lv2 := [(11, .int 0), (10, .int 0), (9, .int 0), (8, .int 0), (7, .int 0), (6, .int v12), (0, hrf b0 ((some h))), (1, .int l1), (2, .int l2), (3, .int l3), (4, .int l4), (5, .int l5)]) (by decide) rfl dX12_sound_99 ?_
            refine WH.pick [6, 7, 8, 9, 10, 11, 4, 3, 2, 1, 0] rfl ?_
            exact w_X12_sound_L101 E hrt hlk 100000 _ _ _ _ _ _ _ _ _ _ _ hh
          · refine rw_iload E (j0 := 0) rfl dX12_sound_64 ?_
            refine rw_if_ge E hh (tgt := 74) (by decide) dX12_sound_66 (fun hh => ?_) (fun hh => ?_)
            · refine rw_aload_n E (j0 := 1) rfl rfl dX12_sound_74 ?_
              refine rw_iload E (j0 := 0) rfl dX12_sound_75 ?_
              refine rw_cVi E (As := [.int v12]) hh (by decide) rfl (fun _ _ _ hq => c_X12_finding l b0 G _ _ _ _ _ hq) (cwV 1 E.2.2.2.2.1 gX12_sound_X12_finding rfl rfl rfl (by decide +kernel) ⟨Nat.le_of_ble_eq_true rfl, Nat.le_of_ble_eq_true rfl⟩) rfl rfl (by (try simp only [List.map_cons, List.map_nil, List.sum_cons, List.sum_nil, hrf_cat, cat_i, cat_l, cat_r]) <;> decide) ⟨Nat.le_of_ble_eq_true rfl, Nat.le_of_ble_eq_true rfl⟩ dX12_sound_77 (fun v16 S15 hh => ?_)
              exact rw_iret E hrt hlk hh (by decide) (by decide) dX12_sound_80
            · refine rw_ldc E (v := (-1000001)) (List.mem_of_getElem? (i := 4) (by decide +kernel)) dX12_sound_69 ?_
              refine rw_goto E (tgt := 80) (by decide) dX12_sound_71 ?_
              exact rw_iret E hrt hlk hh (by decide) (by decide) dX12_sound_80
        · refine rw_ldc E (v := (-1000001)) (List.mem_of_getElem? (i := 4) (by decide +kernel)) dX12_sound_46 ?_
          exact rw_iret E hrt hlk hh (by decide) (by decide) dX12_sound_48

/-! HummingDiscModel.playTune(IIIII)V -/
abbrev rm_X12_playTune : Room := { frames := 5, cells := 0, slots := 0, locals := 120 }
theorem i_X12_playTune_12 : ∀ w ∈ wsX120, w ∈ wsX12_playTune := fun _ h => List.mem_cons_of_mem _ (List.mem_append_right _ (h))
def s_X12_playTune_b182 (j34 : HS → Int32 → Int32 → Int32 → Int32 → Int32 → Int32 → Option (HS)) (h : Nat) (S : HS) (l1 : Int32) (l2 : Int32) (l4 : Int32) (l5 : Int32) (l7 : Int32) (k0 : Int32) (k1 : Int32) : Option (HS) := j34 S l1 l2 l4 l5 (k0 + k1) (l7 + 1)
set_option maxHeartbeats 4000000 in
set_option maxRecDepth 100000 in
theorem w_X12_playTune_b182 {p : Program} {l : Launch} {e : Env} {s : State} {m : MethodId} {args : Array Value} {below : List Frame} {meth : Method} {c : Code} {b0 : Nat} {G : hG} {S1 : HS} {j34 : HS → Int32 → Int32 → Int32 → Int32 → Int32 → Int32 → Option (HS)} {h : Nat} {S : HS} {l1 : Int32} {l2 : Int32} {l4 : Int32} {l5 : Int32} {l7 : Int32} {k0 : Int32} {k1 : Int32} (E : hE p s m args c b0 G cX12_playTune RX12 11 wsX12_playTune) (hrt : meth.sig.returnType = none) (hlk : meth.locks = false) (hj34 : ∀ (S : HS) (l1 : Int32) (l2 : Int32) (l4 : Int32) (l5 : Int32) (l6 : Int32) (l7 : Int32), j34 S l1 l2 l4 l5 l6 l7 = some S1 → WH p l e rm_X12_playTune s m args below meth c b0 G 11 0 0 (MQ below (hQ b0 G none S1) args s 0 0 (hA b0)) S 34 [(0, hrf b0 ((some h))), (1, .int l1), (2, .int l2), (4, .int l4), (5, .int l5), (6, .int l6), (7, .int l7)] []) (hh : s_X12_playTune_b182 j34 h S l1 l2 l4 l5 l7 k0 k1 = some S1) : WH p l e rm_X12_playTune s m args below meth c b0 G 11 0 0 (MQ below (hQ b0 G none S1) args s 0 0 (hA b0)) S 182 [(0, hrf b0 ((some h))), (1, .int l1), (2, .int l2), (4, .int l4), (5, .int l5), (7, .int l7)] [.int k1, .int k0] := by
  have hh : (j34 S l1 l2 l4 l5 (k0 + k1) (l7 + 1)) = some S1 := hh
  refine rw_iadd E dX12_playTune_182 ?_
  refine rw_istore E (lv2 := [(6, .int (k0 + k1)), (0, hrf b0 ((some h))), (1, .int l1), (2, .int l2), (4, .int l4), (5, .int l5), (7, .int l7)]) (by decide) rfl dX12_playTune_183 ?_
  refine rw_iinc E (v := l7 + 1) (lv2 := [(7, .int (l7 + 1)), (6, .int (k0 + k1)), (0, hrf b0 ((some h))), (1, .int l1), (2, .int l2), (4, .int l4), (5, .int l5)]) (j0 := 6) rfl rfl (by decide) rfl dX12_playTune_185 ?_
  refine rw_goto E (tgt := 34) (by decide) dX12_playTune_188 ?_
  refine WH.pick [2, 3, 4, 5, 6, 1, 0] rfl ?_
  exact hj34 _ _ _ _ _ _ _ hh
def s_X12_playTune_b168 (j34 : HS → Int32 → Int32 → Int32 → Int32 → Int32 → Int32 → Option (HS)) (h : Nat) (S : HS) (l1 : Int32) (l2 : Int32) (l4 : Int32) (l5 : Int32) (l6 : Int32) (l7 : Int32) : Option (HS) := kI S ((some h)) 12 23 (fun v1 => if v1 = 0 then (s_X12_playTune_b182 j34 h S l1 l2 l4 l5 l7 l6 0) else (s_X12_playTune_b182 j34 h S l1 l2 l4 l5 l7 l6 1))
set_option maxHeartbeats 4000000 in
set_option maxRecDepth 100000 in
theorem w_X12_playTune_b168 {p : Program} {l : Launch} {e : Env} {s : State} {m : MethodId} {args : Array Value} {below : List Frame} {meth : Method} {c : Code} {b0 : Nat} {G : hG} {S1 : HS} {j34 : HS → Int32 → Int32 → Int32 → Int32 → Int32 → Int32 → Option (HS)} {h : Nat} {S : HS} {l1 : Int32} {l2 : Int32} {l4 : Int32} {l5 : Int32} {l6 : Int32} {l7 : Int32} (E : hE p s m args c b0 G cX12_playTune RX12 11 wsX12_playTune) (hrt : meth.sig.returnType = none) (hlk : meth.locks = false) (hj34 : ∀ (S : HS) (l1 : Int32) (l2 : Int32) (l4 : Int32) (l5 : Int32) (l6 : Int32) (l7 : Int32), j34 S l1 l2 l4 l5 l6 l7 = some S1 → WH p l e rm_X12_playTune s m args below meth c b0 G 11 0 0 (MQ below (hQ b0 G none S1) args s 0 0 (hA b0)) S 34 [(0, hrf b0 ((some h))), (1, .int l1), (2, .int l2), (4, .int l4), (5, .int l5), (6, .int l6), (7, .int l7)] []) (hh : s_X12_playTune_b168 j34 h S l1 l2 l4 l5 l6 l7 = some S1) : WH p l e rm_X12_playTune s m args below meth c b0 G 11 0 0 (MQ below (hQ b0 G none S1) args s 0 0 (hA b0)) S 168 [(0, hrf b0 ((some h))), (1, .int l1), (2, .int l2), (4, .int l4), (5, .int l5), (6, .int l6), (7, .int l7)] [] := by
  have hh : (kI S ((some h)) 12 23 (fun v1 => if v1 = 0 then (s_X12_playTune_b182 j34 h S l1 l2 l4 l5 l7 l6 0) else (s_X12_playTune_b182 j34 h S l1 l2 l4 l5 l7 l6 1))) = some S1 := hh
  refine rw_iload E (j0 := 5) rfl dX12_playTune_168 ?_
  refine rw_aload_n E (j0 := 0) rfl rfl dX12_playTune_170 ?_
  refine rw_getI E hh (C := RX12) (T := TX12) (N := 32) rfl (by decide) i_X12_playTune_12 (by decide) rfl (List.mem_of_getElem? (i := 4) (by decide +kernel)) rfl dX12_playTune_171 (fun v1 hh => ?_)
  refine rw_if_eq E hh (tgt := 181) (by decide) dX12_playTune_174 (fun hh => ?_) (fun hh => ?_)
  · refine rw_iconst E (v := 0) (by decide) dX12_playTune_181 ?_
    refine WH.pick [0, 1, 2, 3, 4, 6] rfl ?_
    exact w_X12_playTune_b182 E hrt hlk hj34 hh
  · refine rw_iconst E (v := 1) (by decide) dX12_playTune_177 ?_
    refine rw_goto E (tgt := 182) (by decide) dX12_playTune_178 ?_
    refine WH.pick [0, 1, 2, 3, 4, 6] rfl ?_
    exact w_X12_playTune_b182 E hrt hlk hj34 hh
def s_X12_playTune_b134 (j34 : HS → Int32 → Int32 → Int32 → Int32 → Int32 → Int32 → Option (HS)) (h : Nat) (S : HS) (l1 : Int32) (l2 : Int32) (l4 : Int32) (l5 : Int32) (l6 : Int32) (l7 : Int32) (l8 : Int32) (l9 : Int32) (k0 : Option Nat) (k1 : Int32) (k2 : Int32) (k3 : Int32) : Option (HS) := kO S k0 12 (fun a2 => kcv (s_X12_tick S a2 k1 k2 k3 0) (fun S1 => if l8 = 0 then (s_X12_playTune_b168 j34 h S1 l1 l2 l4 l5 l6 l7) else (kI S1 ((some h)) 12 22 (fun v3 => kP S1 ((some h)) 12 26 (fun v4 => kA S1 v4 14 l9 (fun v5 => if v3 ≤ v5 then (s_X12_playTune_b168 j34 h S1 l1 l2 l4 l5 l6 l7) else (kP S1 ((some h)) 12 26 (fun v6 => kI S1 ((some h)) 12 22 (fun v7 => kwA S1 v6 14 l9 v7 (fun S8 => s_X12_playTune_b168 j34 h S8 l1 l2 l4 l5 l6 l7))))))))))
set_option maxHeartbeats 4000000 in
set_option maxRecDepth 100000 in
theorem w_X12_playTune_b134 {p : Program} {l : Launch} {e : Env} {s : State} {m : MethodId} {args : Array Value} {below : List Frame} {meth : Method} {c : Code} {b0 : Nat} {G : hG} {S1 : HS} {j34 : HS → Int32 → Int32 → Int32 → Int32 → Int32 → Int32 → Option (HS)} {h : Nat} {S : HS} {l1 : Int32} {l2 : Int32} {l4 : Int32} {l5 : Int32} {l6 : Int32} {l7 : Int32} {l8 : Int32} {l9 : Int32} {k0 : Option Nat} {k1 : Int32} {k2 : Int32} {k3 : Int32} (E : hE p s m args c b0 G cX12_playTune RX12 11 wsX12_playTune) (hrt : meth.sig.returnType = none) (hlk : meth.locks = false) (hj34 : ∀ (S : HS) (l1 : Int32) (l2 : Int32) (l4 : Int32) (l5 : Int32) (l6 : Int32) (l7 : Int32), j34 S l1 l2 l4 l5 l6 l7 = some S1 → WH p l e rm_X12_playTune s m args below meth c b0 G 11 0 0 (MQ below (hQ b0 G none S1) args s 0 0 (hA b0)) S 34 [(0, hrf b0 ((some h))), (1, .int l1), (2, .int l2), (4, .int l4), (5, .int l5), (6, .int l6), (7, .int l7)] []) (hh : s_X12_playTune_b134 j34 h S l1 l2 l4 l5 l6 l7 l8 l9 k0 k1 k2 k3 = some S1) : WH p l e rm_X12_playTune s m args below meth c b0 G 11 0 0 (MQ below (hQ b0 G none S1) args s 0 0 (hA b0)) S 134 [(0, hrf b0 ((some h))), (1, .int l1), (2, .int l2), (4, .int l4), (5, .int l5), (6, .int l6), (7, .int l7), (8, .int l8), (9, .int l9)] [.int k3, .int k2, .int k1, hrf b0 k0] := by
  have hh : (kO S k0 12 (fun a2 => kcv (s_X12_tick S a2 k1 k2 k3 0) (fun S1 => if l8 = 0 then (s_X12_playTune_b168 j34 h S1 l1 l2 l4 l5 l6 l7) else (kI S1 ((some h)) 12 22 (fun v3 => kP S1 ((some h)) 12 26 (fun v4 => kA S1 v4 14 l9 (fun v5 => if v3 ≤ v5 then (s_X12_playTune_b168 j34 h S1 l1 l2 l4 l5 l6 l7) else (kP S1 ((some h)) 12 26 (fun v6 => kI S1 ((some h)) 12 22 (fun v7 => kwA S1 v6 14 l9 v7 (fun S8 => s_X12_playTune_b168 j34 h S8 l1 l2 l4 l5 l6 l7))))))))))) = some S1 := hh
  refine rw_iconst E (v := 0) (by decide) dX12_playTune_134 ?_
  refine rw_cVv E (As := [.int k1, .int k2, .int k3, .int 0]) hh (by decide) rfl (fun _ _ hq => c_X12_tick l b0 G _ _ _ _ _ _ _ hq) (cwV 4 E.2.2.2.2.1 gX12_playTune_X12_tick rfl rfl rfl (by decide +kernel) ⟨Nat.le_of_ble_eq_true rfl, Nat.le_of_ble_eq_true rfl⟩) rfl rfl (by (try simp only [List.map_cons, List.map_nil, List.sum_cons, List.sum_nil, hrf_cat, cat_i, cat_l, cat_r]) <;> decide) ⟨Nat.le_of_ble_eq_true rfl, Nat.le_of_ble_eq_true rfl⟩ dX12_playTune_135 (fun S1 hh => ?_)
  refine rw_iload E (j0 := 7) rfl dX12_playTune_138 ?_
  refine rw_if_eq E hh (tgt := 168) (by decide) dX12_playTune_140 (fun hh => ?_) (fun hh => ?_)
  · refine WH.pick [0, 1, 2, 3, 4, 5, 6] rfl ?_
    exact w_X12_playTune_b168 E hrt hlk hj34 hh
  · refine rw_aload_n E (j0 := 0) rfl rfl dX12_playTune_143 ?_
    refine rw_getI E hh (C := RX12) (T := TX12) (N := 32) rfl (by decide) i_X12_playTune_12 (by decide) rfl (List.mem_of_getElem? (i := 3) (by decide +kernel)) rfl dX12_playTune_144 (fun v3 hh => ?_)
    refine rw_aload_n E (j0 := 0) rfl rfl dX12_playTune_147 ?_
    refine rw_getP E hh (C := RX12) (T := TX12) (N := 32) rfl (by decide) i_X12_playTune_12 (by decide) rfl (List.mem_of_getElem? (i := 1) (by decide +kernel)) rfl dX12_playTune_148 (fun v4 hh => ?_)
    refine rw_iload E (j0 := 8) rfl dX12_playTune_151 ?_
    refine rw_iald E hh dX12_playTune_153 (fun v5 hh => ?_)
    refine rw_icmp_le E hh (tgt := 168) (by decide) dX12_playTune_154 (fun hh => ?_) (fun hh => ?_)
    · refine WH.pick [0, 1, 2, 3, 4, 5, 6] rfl ?_
      exact w_X12_playTune_b168 E hrt hlk hj34 hh
    · refine rw_aload_n E (j0 := 0) rfl rfl dX12_playTune_157 ?_
      refine rw_getP E hh (C := RX12) (T := TX12) (N := 32) rfl (by decide) i_X12_playTune_12 (by decide) rfl (List.mem_of_getElem? (i := 1) (by decide +kernel)) rfl dX12_playTune_158 (fun v6 hh => ?_)
      refine rw_iload E (j0 := 8) rfl dX12_playTune_161 ?_
      refine rw_aload_n E (j0 := 0) rfl rfl dX12_playTune_163 ?_
      refine rw_getI E hh (C := RX12) (T := TX12) (N := 32) rfl (by decide) i_X12_playTune_12 (by decide) rfl (List.mem_of_getElem? (i := 3) (by decide +kernel)) rfl dX12_playTune_164 (fun v7 hh => ?_)
      refine rw_iast E hh dX12_playTune_167 (fun S8 hh => ?_)
      refine WH.pick [0, 1, 2, 3, 4, 5, 6] rfl ?_
      exact w_X12_playTune_b168 E hrt hlk hj34 hh
def s_X12_playTune_b115 (j34 : HS → Int32 → Int32 → Int32 → Int32 → Int32 → Int32 → Option (HS)) (h : Nat) (S : HS) (l1 : Int32) (l2 : Int32) (l4 : Int32) (l5 : Int32) (l6 : Int32) (l7 : Int32) (l8 : Int32) (l9 : Int32) (k0 : Int32) : Option (HS) := if l8 = 0 then (s_X12_playTune_b134 j34 h S l1 l2 l4 l5 l6 l7 l8 l9 ((some h)) l1 l2 0) else (s_X12_playTune_b134 j34 h S l1 l2 l4 l5 l6 l7 l8 l9 ((some h)) l1 l2 (10 * k0))
set_option maxHeartbeats 4000000 in
set_option maxRecDepth 100000 in
theorem w_X12_playTune_b115 {p : Program} {l : Launch} {e : Env} {s : State} {m : MethodId} {args : Array Value} {below : List Frame} {meth : Method} {c : Code} {b0 : Nat} {G : hG} {S1 : HS} {j34 : HS → Int32 → Int32 → Int32 → Int32 → Int32 → Int32 → Option (HS)} {h : Nat} {S : HS} {l1 : Int32} {l2 : Int32} {l4 : Int32} {l5 : Int32} {l6 : Int32} {l7 : Int32} {l8 : Int32} {l9 : Int32} {k0 : Int32} (E : hE p s m args c b0 G cX12_playTune RX12 11 wsX12_playTune) (hrt : meth.sig.returnType = none) (hlk : meth.locks = false) (hj34 : ∀ (S : HS) (l1 : Int32) (l2 : Int32) (l4 : Int32) (l5 : Int32) (l6 : Int32) (l7 : Int32), j34 S l1 l2 l4 l5 l6 l7 = some S1 → WH p l e rm_X12_playTune s m args below meth c b0 G 11 0 0 (MQ below (hQ b0 G none S1) args s 0 0 (hA b0)) S 34 [(0, hrf b0 ((some h))), (1, .int l1), (2, .int l2), (4, .int l4), (5, .int l5), (6, .int l6), (7, .int l7)] []) (hh : s_X12_playTune_b115 j34 h S l1 l2 l4 l5 l6 l7 l8 l9 k0 = some S1) : WH p l e rm_X12_playTune s m args below meth c b0 G 11 0 0 (MQ below (hQ b0 G none S1) args s 0 0 (hA b0)) S 115 [(0, hrf b0 ((some h))), (1, .int l1), (2, .int l2), (4, .int l4), (5, .int l5), (6, .int l6), (7, .int l7), (8, .int l8), (9, .int l9)] [.int k0] := by
  have hh : (if l8 = 0 then (s_X12_playTune_b134 j34 h S l1 l2 l4 l5 l6 l7 l8 l9 ((some h)) l1 l2 0) else (s_X12_playTune_b134 j34 h S l1 l2 l4 l5 l6 l7 l8 l9 ((some h)) l1 l2 (10 * k0))) = some S1 := hh
  refine rw_istore E (lv2 := [(10, .int k0), (0, hrf b0 ((some h))), (1, .int l1), (2, .int l2), (4, .int l4), (5, .int l5), (6, .int l6), (7, .int l7), (8, .int l8), (9, .int l9)]) (by decide) rfl dX12_playTune_115 ?_
  refine rw_aload_n E (j0 := 1) rfl rfl dX12_playTune_117 ?_
  refine rw_iload_n E (j0 := 2) rfl rfl dX12_playTune_118 ?_
  refine rw_iload_n E (j0 := 3) rfl rfl dX12_playTune_119 ?_
  refine rw_iload E (j0 := 8) rfl dX12_playTune_120 ?_
  refine rw_if_eq E hh (tgt := 133) (by decide) dX12_playTune_122 (fun hh => ?_) (fun hh => ?_)
  · refine rw_iconst E (v := 0) (by decide) dX12_playTune_133 ?_
    refine WH.pick [1, 2, 3, 4, 5, 6, 7, 8, 9] rfl ?_
    exact w_X12_playTune_b134 E hrt hlk hj34 hh
  · refine rw_bipush E (v := 10) (by decide) dX12_playTune_125 ?_
    refine rw_iload E (j0 := 0) rfl dX12_playTune_127 ?_
    refine rw_imul E dX12_playTune_129 ?_
    refine rw_goto E (tgt := 134) (by decide) dX12_playTune_130 ?_
    refine WH.pick [1, 2, 3, 4, 5, 6, 7, 8, 9] rfl ?_
    exact w_X12_playTune_b134 E hrt hlk hj34 hh
def s_X12_playTune_b67 (j34 : HS → Int32 → Int32 → Int32 → Int32 → Int32 → Int32 → Option (HS)) (h : Nat) (S : HS) (l1 : Int32) (l2 : Int32) (l4 : Int32) (l5 : Int32) (l6 : Int32) (l7 : Int32) (k0 : Int32) : Option (HS) := if l6 = l5 - 1 then (krem l4 10 (fun v4 => s_X12_playTune_b115 j34 h S l1 l2 l4 l5 l6 l7 k0 l6 v4)) else (if l6 = l5 - 2 then (kdiv l4 10 (fun v2 => krem v2 10 (fun v3 => s_X12_playTune_b115 j34 h S l1 l2 l4 l5 l6 l7 k0 l6 v3))) else (kdiv l4 100 (fun v1 => s_X12_playTune_b115 j34 h S l1 l2 l4 l5 l6 l7 k0 l6 v1)))
set_option maxHeartbeats 4000000 in
set_option maxRecDepth 100000 in
theorem w_X12_playTune_b67 {p : Program} {l : Launch} {e : Env} {s : State} {m : MethodId} {args : Array Value} {below : List Frame} {meth : Method} {c : Code} {b0 : Nat} {G : hG} {S1 : HS} {j34 : HS → Int32 → Int32 → Int32 → Int32 → Int32 → Int32 → Option (HS)} {h : Nat} {S : HS} {l1 : Int32} {l2 : Int32} {l4 : Int32} {l5 : Int32} {l6 : Int32} {l7 : Int32} {k0 : Int32} (E : hE p s m args c b0 G cX12_playTune RX12 11 wsX12_playTune) (hrt : meth.sig.returnType = none) (hlk : meth.locks = false) (hj34 : ∀ (S : HS) (l1 : Int32) (l2 : Int32) (l4 : Int32) (l5 : Int32) (l6 : Int32) (l7 : Int32), j34 S l1 l2 l4 l5 l6 l7 = some S1 → WH p l e rm_X12_playTune s m args below meth c b0 G 11 0 0 (MQ below (hQ b0 G none S1) args s 0 0 (hA b0)) S 34 [(0, hrf b0 ((some h))), (1, .int l1), (2, .int l2), (4, .int l4), (5, .int l5), (6, .int l6), (7, .int l7)] []) (hh : s_X12_playTune_b67 j34 h S l1 l2 l4 l5 l6 l7 k0 = some S1) : WH p l e rm_X12_playTune s m args below meth c b0 G 11 0 0 (MQ below (hQ b0 G none S1) args s 0 0 (hA b0)) S 67 [(0, hrf b0 ((some h))), (1, .int l1), (2, .int l2), (4, .int l4), (5, .int l5), (6, .int l6), (7, .int l7)] [.int k0] := by
  have hh : (if l6 = l5 - 1 then (krem l4 10 (fun v4 => s_X12_playTune_b115 j34 h S l1 l2 l4 l5 l6 l7 k0 l6 v4)) else (if l6 = l5 - 2 then (kdiv l4 10 (fun v2 => krem v2 10 (fun v3 => s_X12_playTune_b115 j34 h S l1 l2 l4 l5 l6 l7 k0 l6 v3))) else (kdiv l4 100 (fun v1 => s_X12_playTune_b115 j34 h S l1 l2 l4 l5 l6 l7 k0 l6 v1)))) = some S1 := hh
  refine rw_istore E (lv2 := [(8, .int k0), (0, hrf b0 ((some h))), (1, .int l1), (2, .int l2), (4, .int l4), (5, .int l5), (6, .int l6), (7, .int l7)]) (by decide) rfl dX12_playTune_67 ?_
  refine rw_iload E (j0 := 6) rfl dX12_playTune_69 ?_
  refine rw_istore E (lv2 := [(9, .int l6), (8, .int k0), (0, hrf b0 ((some h))), (1, .int l1), (2, .int l2), (4, .int l4), (5, .int l5), (6, .int l6), (7, .int l7)]) (by decide) rfl dX12_playTune_71 ?_
  refine rw_iload E (j0 := 0) rfl dX12_playTune_73 ?_
  refine rw_iload E (j0 := 6) rfl dX12_playTune_75 ?_
  refine rw_iconst E (v := 1) (by decide) dX12_playTune_77 ?_
  refine rw_isub E dX12_playTune_78 ?_
  refine rw_icmp_ne E hh (tgt := 90) (by decide) dX12_playTune_79 (fun hh => ?_) (fun hh => ?_)
  · refine rw_iload E (j0 := 0) rfl dX12_playTune_90 ?_
    refine rw_iload E (j0 := 6) rfl dX12_playTune_92 ?_
    refine rw_iconst E (v := 2) (by decide) dX12_playTune_94 ?_
    refine rw_isub E dX12_playTune_95 ?_
    refine rw_icmp_ne E hh (tgt := 110) (by decide) dX12_playTune_96 (fun hh => ?_) (fun hh => ?_)
    · refine rw_iload E (j0 := 5) rfl dX12_playTune_110 ?_
      refine rw_bipush E (v := 100) (by decide) dX12_playTune_112 ?_
      refine rw_idiv E hh dX12_playTune_114 (fun v1 hh => ?_)
      refine WH.pick [2, 3, 4, 5, 6, 7, 8, 1, 0] rfl ?_
      exact w_X12_playTune_b115 E hrt hlk hj34 hh
    · refine rw_iload E (j0 := 5) rfl dX12_playTune_99 ?_
      refine rw_bipush E (v := 10) (by decide) dX12_playTune_101 ?_
      refine rw_idiv E hh dX12_playTune_103 (fun v2 hh => ?_)
      refine rw_bipush E (v := 10) (by decide) dX12_playTune_104 ?_
      refine rw_irem E hh dX12_playTune_106 (fun v3 hh => ?_)
      refine rw_goto E (tgt := 115) (by decide) dX12_playTune_107 ?_
      refine WH.pick [2, 3, 4, 5, 6, 7, 8, 1, 0] rfl ?_
      exact w_X12_playTune_b115 E hrt hlk hj34 hh
  · refine rw_iload E (j0 := 5) rfl dX12_playTune_82 ?_
    refine rw_bipush E (v := 10) (by decide) dX12_playTune_84 ?_
    refine rw_irem E hh dX12_playTune_86 (fun v4 hh => ?_)
    refine rw_goto E (tgt := 115) (by decide) dX12_playTune_87 ?_
    refine WH.pick [2, 3, 4, 5, 6, 7, 8, 1, 0] rfl ?_
    exact w_X12_playTune_b115 E hrt hlk hj34 hh
def s_X12_playTune_b66 (j34 : HS → Int32 → Int32 → Int32 → Int32 → Int32 → Int32 → Option (HS)) (h : Nat) (S : HS) (l1 : Int32) (l2 : Int32) (l4 : Int32) (l5 : Int32) (l6 : Int32) (l7 : Int32) : Option (HS) := s_X12_playTune_b67 j34 h S l1 l2 l4 l5 l6 l7 0
set_option maxHeartbeats 4000000 in
set_option maxRecDepth 100000 in
theorem w_X12_playTune_b66 {p : Program} {l : Launch} {e : Env} {s : State} {m : MethodId} {args : Array Value} {below : List Frame} {meth : Method} {c : Code} {b0 : Nat} {G : hG} {S1 : HS} {j34 : HS → Int32 → Int32 → Int32 → Int32 → Int32 → Int32 → Option (HS)} {h : Nat} {S : HS} {l1 : Int32} {l2 : Int32} {l4 : Int32} {l5 : Int32} {l6 : Int32} {l7 : Int32} (E : hE p s m args c b0 G cX12_playTune RX12 11 wsX12_playTune) (hrt : meth.sig.returnType = none) (hlk : meth.locks = false) (hj34 : ∀ (S : HS) (l1 : Int32) (l2 : Int32) (l4 : Int32) (l5 : Int32) (l6 : Int32) (l7 : Int32), j34 S l1 l2 l4 l5 l6 l7 = some S1 → WH p l e rm_X12_playTune s m args below meth c b0 G 11 0 0 (MQ below (hQ b0 G none S1) args s 0 0 (hA b0)) S 34 [(0, hrf b0 ((some h))), (1, .int l1), (2, .int l2), (4, .int l4), (5, .int l5), (6, .int l6), (7, .int l7)] []) (hh : s_X12_playTune_b66 j34 h S l1 l2 l4 l5 l6 l7 = some S1) : WH p l e rm_X12_playTune s m args below meth c b0 G 11 0 0 (MQ below (hQ b0 G none S1) args s 0 0 (hA b0)) S 66 [(0, hrf b0 ((some h))), (1, .int l1), (2, .int l2), (4, .int l4), (5, .int l5), (6, .int l6), (7, .int l7)] [] := by
  have hh : (s_X12_playTune_b67 j34 h S l1 l2 l4 l5 l6 l7 0) = some S1 := hh
  refine rw_iconst E (v := 0) (by decide) dX12_playTune_66 ?_
  refine WH.pick [0, 1, 2, 3, 4, 5, 6] rfl ?_
  exact w_X12_playTune_b67 E hrt hlk hj34 hh
def s_X12_playTune_b34 (j34 : HS → Int32 → Int32 → Int32 → Int32 → Int32 → Int32 → Option (HS)) (h : Nat) (S : HS) (l1 : Int32) (l2 : Int32) (l4 : Int32) (l5 : Int32) (l6 : Int32) (l7 : Int32) : Option (HS) := if 120 ≤ l7 then (some S) else (kI S ((some h)) 12 21 (fun v1 => if v1 = 0 then (kO S ((some h)) 12 (fun a4 => kc (s_X12_unwinds S a4 ) (fun v3 S2 => if v3 = 0 then (s_X12_playTune_b66 j34 h S2 l1 l2 l4 l5 l6 l7) else (if l5 ≤ l6 then (s_X12_playTune_b66 j34 h S2 l1 l2 l4 l5 l6 l7) else (s_X12_playTune_b67 j34 h S2 l1 l2 l4 l5 l6 l7 1))))) else (some S)))
set_option maxHeartbeats 4000000 in
set_option maxRecDepth 100000 in
theorem w_X12_playTune_b34 {p : Program} {l : Launch} {e : Env} {s : State} {m : MethodId} {args : Array Value} {below : List Frame} {meth : Method} {c : Code} {b0 : Nat} {G : hG} {S1 : HS} {j34 : HS → Int32 → Int32 → Int32 → Int32 → Int32 → Int32 → Option (HS)} {h : Nat} {S : HS} {l1 : Int32} {l2 : Int32} {l4 : Int32} {l5 : Int32} {l6 : Int32} {l7 : Int32} (E : hE p s m args c b0 G cX12_playTune RX12 11 wsX12_playTune) (hrt : meth.sig.returnType = none) (hlk : meth.locks = false) (hj34 : ∀ (S : HS) (l1 : Int32) (l2 : Int32) (l4 : Int32) (l5 : Int32) (l6 : Int32) (l7 : Int32), j34 S l1 l2 l4 l5 l6 l7 = some S1 → WH p l e rm_X12_playTune s m args below meth c b0 G 11 0 0 (MQ below (hQ b0 G none S1) args s 0 0 (hA b0)) S 34 [(0, hrf b0 ((some h))), (1, .int l1), (2, .int l2), (4, .int l4), (5, .int l5), (6, .int l6), (7, .int l7)] []) (hh : s_X12_playTune_b34 j34 h S l1 l2 l4 l5 l6 l7 = some S1) : WH p l e rm_X12_playTune s m args below meth c b0 G 11 0 0 (MQ below (hQ b0 G none S1) args s 0 0 (hA b0)) S 34 [(0, hrf b0 ((some h))), (1, .int l1), (2, .int l2), (4, .int l4), (5, .int l5), (6, .int l6), (7, .int l7)] [] := by
  have hh : (if 120 ≤ l7 then (some S) else (kI S ((some h)) 12 21 (fun v1 => if v1 = 0 then (kO S ((some h)) 12 (fun a4 => kc (s_X12_unwinds S a4 ) (fun v3 S2 => if v3 = 0 then (s_X12_playTune_b66 j34 h S2 l1 l2 l4 l5 l6 l7) else (if l5 ≤ l6 then (s_X12_playTune_b66 j34 h S2 l1 l2 l4 l5 l6 l7) else (s_X12_playTune_b67 j34 h S2 l1 l2 l4 l5 l6 l7 1))))) else (some S)))) = some S1 := hh
  refine rw_iload E (j0 := 6) rfl dX12_playTune_34 ?_
  refine rw_bipush E (v := 120) (by decide) dX12_playTune_36 ?_
  refine rw_icmp_ge E hh (tgt := 191) (by decide) dX12_playTune_38 (fun hh => ?_) (fun hh => ?_)
  · exact rw_vret E hrt hlk hh (by decide) (by decide) dX12_playTune_191
  · refine rw_aload_n E (j0 := 0) rfl rfl dX12_playTune_41 ?_
    refine rw_getI E hh (C := RX12) (T := TX12) (N := 32) rfl (by decide) i_X12_playTune_12 (by decide) rfl (List.mem_of_getElem? (i := 2) (by decide +kernel)) rfl dX12_playTune_42 (fun v1 hh => ?_)
    refine rw_if_ne E hh (tgt := 191) (by decide) dX12_playTune_45 (fun hh => ?_) (fun hh => ?_)
    · exact rw_vret E hrt hlk hh (by decide) (by decide) dX12_playTune_191
    · refine rw_aload_n E (j0 := 0) rfl rfl dX12_playTune_48 ?_
      refine rw_cVi E (As := []) hh (by decide) rfl (fun _ _ _ hq => c_X12_unwinds l b0 G _ _ _ _ hq) (cwV 0 E.2.2.2.2.1 gX12_playTune_X12_unwinds rfl rfl rfl (by decide +kernel) ⟨Nat.le_of_ble_eq_true rfl, Nat.le_of_ble_eq_true rfl⟩) rfl rfl (by (try simp only [List.map_cons, List.map_nil, List.sum_cons, List.sum_nil, hrf_cat, cat_i, cat_l, cat_r]) <;> decide) ⟨Nat.le_of_ble_eq_true rfl, Nat.le_of_ble_eq_true rfl⟩ dX12_playTune_49 (fun v3 S2 hh => ?_)
      refine rw_if_eq E hh (tgt := 66) (by decide) dX12_playTune_52 (fun hh => ?_) (fun hh => ?_)
      · refine WH.pick [0, 1, 2, 3, 4, 5, 6] rfl ?_
        exact w_X12_playTune_b66 E hrt hlk hj34 hh
      · refine rw_iload E (j0 := 5) rfl dX12_playTune_55 ?_
        refine rw_iload E (j0 := 4) rfl dX12_playTune_57 ?_
        refine rw_icmp_ge E hh (tgt := 66) (by decide) dX12_playTune_59 (fun hh => ?_) (fun hh => ?_)
        · refine WH.pick [0, 1, 2, 3, 4, 5, 6] rfl ?_
          exact w_X12_playTune_b66 E hrt hlk hj34 hh
        · refine rw_iconst E (v := 1) (by decide) dX12_playTune_62 ?_
          refine rw_goto E (tgt := 67) (by decide) dX12_playTune_63 ?_
          refine WH.pick [0, 1, 2, 3, 4, 5, 6] rfl ?_
          exact w_X12_playTune_b67 E hrt hlk hj34 hh
def s_X12_playTune_L34 (h : Nat) : Nat → HS → Int32 → Int32 → Int32 → Int32 → Int32 → Int32 → Option (HS)
  | 0 => fun _ _ _ _ _ _ _ => none
  | n + 1 => s_X12_playTune_b34 (s_X12_playTune_L34 h n) h
set_option maxHeartbeats 4000000 in
set_option maxRecDepth 100000 in
theorem w_X12_playTune_L34 {p : Program} {l : Launch} {e : Env} {s : State} {m : MethodId} {args : Array Value} {below : List Frame} {meth : Method} {c : Code} {b0 : Nat} {G : hG} {S1 : HS} {h : Nat} (E : hE p s m args c b0 G cX12_playTune RX12 11 wsX12_playTune) (hrt : meth.sig.returnType = none) (hlk : meth.locks = false) : ∀ (n : Nat) (S : HS) (l1 : Int32) (l2 : Int32) (l4 : Int32) (l5 : Int32) (l6 : Int32) (l7 : Int32), s_X12_playTune_L34 h n S l1 l2 l4 l5 l6 l7 = some S1 → WH p l e rm_X12_playTune s m args below meth c b0 G 11 0 0 (MQ below (hQ b0 G none S1) args s 0 0 (hA b0)) S 34 [(0, hrf b0 ((some h))), (1, .int l1), (2, .int l2), (4, .int l4), (5, .int l5), (6, .int l6), (7, .int l7)] [] := by
  intro n
  induction n with
  | zero => intro _ _ _ _ _ _ _ hh; exact absurd hh (by simp [s_X12_playTune_L34])
  | succ n ih => intro _ _ _ _ _ _ _ hh; exact w_X12_playTune_b34 E hrt hlk  ih hh
def s_X12_playTune_b3 (j3 : HS → Int32 → Int32 → Int32 → Int32 → Int32 → Int32 → Option (HS)) (h : Nat) (S : HS) (l1 : Int32) (l2 : Int32) (l3 : Int32) (l4 : Int32) (l5 : Int32) (l6 : Int32) : Option (HS) := if 3 ≤ l6 then (kO S ((some h)) 12 (fun a2 => kcv (s_X12_rest S a2 l3) (fun S1 => s_X12_playTune_L34 h 100000 S1 l1 l2 l4 l5 0 0))) else (kP S ((some h)) 12 26 (fun v3 => kwA S v3 14 l6 0 (fun S4 => j3 S4 l1 l2 l3 l4 l5 (l6 + 1))))
set_option maxHeartbeats 4000000 in
set_option maxRecDepth 100000 in
theorem w_X12_playTune_b3 {p : Program} {l : Launch} {e : Env} {s : State} {m : MethodId} {args : Array Value} {below : List Frame} {meth : Method} {c : Code} {b0 : Nat} {G : hG} {S1 : HS} {j3 : HS → Int32 → Int32 → Int32 → Int32 → Int32 → Int32 → Option (HS)} {h : Nat} {S : HS} {l1 : Int32} {l2 : Int32} {l3 : Int32} {l4 : Int32} {l5 : Int32} {l6 : Int32} (E : hE p s m args c b0 G cX12_playTune RX12 11 wsX12_playTune) (hrt : meth.sig.returnType = none) (hlk : meth.locks = false) (hj3 : ∀ (S : HS) (l1 : Int32) (l2 : Int32) (l3 : Int32) (l4 : Int32) (l5 : Int32) (l6 : Int32), j3 S l1 l2 l3 l4 l5 l6 = some S1 → WH p l e rm_X12_playTune s m args below meth c b0 G 11 0 0 (MQ below (hQ b0 G none S1) args s 0 0 (hA b0)) S 3 [(0, hrf b0 ((some h))), (1, .int l1), (2, .int l2), (3, .int l3), (4, .int l4), (5, .int l5), (6, .int l6)] []) (hh : s_X12_playTune_b3 j3 h S l1 l2 l3 l4 l5 l6 = some S1) : WH p l e rm_X12_playTune s m args below meth c b0 G 11 0 0 (MQ below (hQ b0 G none S1) args s 0 0 (hA b0)) S 3 [(0, hrf b0 ((some h))), (1, .int l1), (2, .int l2), (3, .int l3), (4, .int l4), (5, .int l5), (6, .int l6)] [] := by
  have hh : (if 3 ≤ l6 then (kO S ((some h)) 12 (fun a2 => kcv (s_X12_rest S a2 l3) (fun S1 => s_X12_playTune_L34 h 100000 S1 l1 l2 l4 l5 0 0))) else (kP S ((some h)) 12 26 (fun v3 => kwA S v3 14 l6 0 (fun S4 => j3 S4 l1 l2 l3 l4 l5 (l6 + 1))))) = some S1 := hh
  refine rw_iload E (j0 := 6) rfl dX12_playTune_3 ?_
  refine rw_iconst E (v := 3) (by decide) dX12_playTune_5 ?_
  refine rw_icmp_ge E hh (tgt := 23) (by decide) dX12_playTune_6 (fun hh => ?_) (fun hh => ?_)
  · refine rw_aload_n E (j0 := 0) rfl rfl dX12_playTune_23 ?_
    refine rw_iload_n E (j0 := 3) rfl rfl dX12_playTune_24 ?_
    refine rw_cVv E (As := [.int l3]) hh (by decide) rfl (fun _ _ hq => c_X12_rest l b0 G _ _ _ _ hq) (cwV 1 E.2.2.2.2.1 gX12_playTune_X12_rest rfl rfl rfl (by decide +kernel) ⟨Nat.le_of_ble_eq_true rfl, Nat.le_of_ble_eq_true rfl⟩) rfl rfl (by (try simp only [List.map_cons, List.map_nil, List.sum_cons, List.sum_nil, hrf_cat, cat_i, cat_l, cat_r]) <;> decide) ⟨Nat.le_of_ble_eq_true rfl, Nat.le_of_ble_eq_true rfl⟩ dX12_playTune_25 (fun S1 hh => ?_)
    refine rw_iconst E (v := 0) (by decide) dX12_playTune_28 ?_
    refine rw_istore E (lv2 := [(6, .int 0), (0, hrf b0 ((some h))), (1, .int l1), (2, .int l2), (3, .int l3), (4, .int l4), (5, .int l5)]) (by decide) rfl dX12_playTune_29 ?_
    refine rw_iconst E (v := 0) (by decide) dX12_playTune_31 ?_
    refine rw_istore E (lv2 := [(7, .int 0), (6, .int 0), (0, hrf b0 ((some h))), (1, .int l1), (2, .int l2), (3, .int l3), (4, .int l4), (5, .int l5)]) (by decide) rfl dX12_playTune_32 ?_
    refine WH.pick [2, 3, 4, 6, 7, 1, 0] rfl ?_
    exact w_X12_playTune_L34 E hrt hlk 100000 _ _ _ _ _ _ _ hh
  · refine rw_aload_n E (j0 := 0) rfl rfl dX12_playTune_9 ?_
    refine rw_getP E hh (C := RX12) (T := TX12) (N := 32) rfl (by decide) i_X12_playTune_12 (by decide) rfl (List.mem_of_getElem? (i := 1) (by decide +kernel)) rfl dX12_playTune_10 (fun v3 hh => ?_)
    refine rw_iload E (j0 := 6) rfl dX12_playTune_13 ?_
    refine rw_iconst E (v := 0) (by decide) dX12_playTune_15 ?_
    refine rw_iast E hh dX12_playTune_16 (fun S4 hh => ?_)
    refine rw_iinc E (v := l6 + 1) (lv2 := [(6, .int (l6 + 1)), (0, hrf b0 ((some h))), (1, .int l1), (2, .int l2), (3, .int l3), (4, .int l4), (5, .int l5)]) (j0 := 6) rfl rfl (by decide) rfl dX12_playTune_17 ?_
    refine rw_goto E (tgt := 3) (by decide) dX12_playTune_20 ?_
    refine WH.pick [1, 2, 3, 4, 5, 6, 0] rfl ?_
    exact hj3 _ _ _ _ _ _ _ hh
def s_X12_playTune_L3 (h : Nat) : Nat → HS → Int32 → Int32 → Int32 → Int32 → Int32 → Int32 → Option (HS)
  | 0 => fun _ _ _ _ _ _ _ => none
  | n + 1 => s_X12_playTune_b3 (s_X12_playTune_L3 h n) h
set_option maxHeartbeats 4000000 in
set_option maxRecDepth 100000 in
theorem w_X12_playTune_L3 {p : Program} {l : Launch} {e : Env} {s : State} {m : MethodId} {args : Array Value} {below : List Frame} {meth : Method} {c : Code} {b0 : Nat} {G : hG} {S1 : HS} {h : Nat} (E : hE p s m args c b0 G cX12_playTune RX12 11 wsX12_playTune) (hrt : meth.sig.returnType = none) (hlk : meth.locks = false) : ∀ (n : Nat) (S : HS) (l1 : Int32) (l2 : Int32) (l3 : Int32) (l4 : Int32) (l5 : Int32) (l6 : Int32), s_X12_playTune_L3 h n S l1 l2 l3 l4 l5 l6 = some S1 → WH p l e rm_X12_playTune s m args below meth c b0 G 11 0 0 (MQ below (hQ b0 G none S1) args s 0 0 (hA b0)) S 3 [(0, hrf b0 ((some h))), (1, .int l1), (2, .int l2), (3, .int l3), (4, .int l4), (5, .int l5), (6, .int l6)] [] := by
  intro n
  induction n with
  | zero => intro _ _ _ _ _ _ _ hh; exact absurd hh (by simp [s_X12_playTune_L3])
  | succ n ih => intro _ _ _ _ _ _ _ hh; exact w_X12_playTune_b3 E hrt hlk  ih hh
def s_X12_playTune (S : HS) (h : Nat) (l1 : Int32) (l2 : Int32) (l3 : Int32) (l4 : Int32) (l5 : Int32) : Option (HS) := s_X12_playTune_L3 h 100000 S l1 l2 l3 l4 l5 0
set_option maxHeartbeats 4000000 in
set_option maxRecDepth 100000 in
theorem c_X12_playTune (l : Launch) (b0 : Nat) (G : hG) (S S1 : HS) (h : Nat) (l1 : Int32) (l2 : Int32) (l3 : Int32) (l4 : Int32) (l5 : Int32) (hh : s_X12_playTune S h l1 l2 l3 l4 l5 = some S1) : MH l yX12_playTune wsX12_playTune rm_X12_playTune b0 G S [hrf b0 (some h), .int l1, .int l2, .int l3, .int l4, .int l5] none S1 0 0 := by
  refine MH.ofW (cc := cX12_playTune) (maxL := 11) (ret := none) (own := RX12) (lv0 := [(0, hrf b0 ((some h))), (1, .int l1), (2, .int l2), (3, .int l3), (4, .int l4), (5, .int l5)]) (by decide) rfl rfl (Nat.le_of_ble_eq_true rfl) rfl ?_
  intro p e s m args below meth c E hrt hlk hnm
  have hh : (s_X12_playTune_L3 h 100000 S l1 l2 l3 l4 l5 0) = some S1 := hh
  refine rw_iconst E (v := 0) (by decide) dX12_playTune_0 ?_
  refine rw_istore E (lv2 := [(6, .int 0), (0, hrf b0 ((some h))), (1, .int l1), (2, .int l2), (3, .int l3), (4, .int l4), (5, .int l5)]) (by decide) rfl dX12_playTune_1 ?_
  refine WH.pick [1, 2, 3, 4, 5, 6, 0] rfl ?_
  exact w_X12_playTune_L3 E hrt hlk 100000 _ _ _ _ _ _ _ hh

/-! HummingDiscModel.tune(IIIIII)I -/
abbrev rm_X12_tune : Room := { frames := 6, cells := 0, slots := 0, locals := 150 }
theorem i_X12_tune_12 : ∀ w ∈ wsX120, w ∈ wsX12_tune := fun _ h => List.mem_cons_of_mem _ (List.mem_append_right _ (h))
def s_X12_tune_b219 (j135 : HS → Int32 → Int32 → Int32 → Int32 → Int32 → Int32 → Int64 → Int32 → Int32 → Option (Int32 × HS)) (j159 : HS → Int32 → Int32 → Int32 → Int32 → Int32 → Int32 → Int64 → Int32 → Int32 → Int64 → Int32 → Option (Int32 × HS)) (h : Nat) (S : HS) (l1 : Int32) (l2 : Int32) (l3 : Int32) (l4 : Int32) (l5 : Int32) (l6 : Int32) (l8 : Int64) (l10 : Int32) (l11 : Int32) (l14 : Int32) (k0 : Int64) (k1 : Int64) : Option (Int32 × HS) := j159 S l1 l2 l3 l4 l5 l6 l8 l10 l11 (k0 + k1) (l14 + 1)
set_option maxHeartbeats 4000000 in
set_option maxRecDepth 100000 in
theorem w_X12_tune_b219 {p : Program} {l : Launch} {e : Env} {s : State} {m : MethodId} {args : Array Value} {below : List Frame} {meth : Method} {c : Code} {b0 : Nat} {G : hG} {S1 : HS} {r : Int32} {j135 : HS → Int32 → Int32 → Int32 → Int32 → Int32 → Int32 → Int64 → Int32 → Int32 → Option (Int32 × HS)} {j159 : HS → Int32 → Int32 → Int32 → Int32 → Int32 → Int32 → Int64 → Int32 → Int32 → Int64 → Int32 → Option (Int32 × HS)} {h : Nat} {S : HS} {l1 : Int32} {l2 : Int32} {l3 : Int32} {l4 : Int32} {l5 : Int32} {l6 : Int32} {l8 : Int64} {l10 : Int32} {l11 : Int32} {l14 : Int32} {k0 : Int64} {k1 : Int64} (E : hE p s m args c b0 G cX12_tune RX12 17 wsX12_tune) (hrt : meth.sig.returnType = (some .int)) (hlk : meth.locks = false) (hj135 : ∀ (S : HS) (l1 : Int32) (l2 : Int32) (l3 : Int32) (l4 : Int32) (l5 : Int32) (l6 : Int32) (l8 : Int64) (l10 : Int32) (l11 : Int32), j135 S l1 l2 l3 l4 l5 l6 l8 l10 l11 = some (r, S1) → WH p l e rm_X12_tune s m args below meth c b0 G 17 0 0 (MQ below (hQ b0 G (some (.int r)) S1) args s 0 0 (hA b0)) S 135 [(0, hrf b0 ((some h))), (1, .int l1), (2, .int l2), (3, .int l3), (4, .int l4), (5, .int l5), (6, .int l6), (8, .long l8), (10, .int l10), (11, .int l11)] []) (hj159 : ∀ (S : HS) (l1 : Int32) (l2 : Int32) (l3 : Int32) (l4 : Int32) (l5 : Int32) (l6 : Int32) (l8 : Int64) (l10 : Int32) (l11 : Int32) (l12 : Int64) (l14 : Int32), j159 S l1 l2 l3 l4 l5 l6 l8 l10 l11 l12 l14 = some (r, S1) → WH p l e rm_X12_tune s m args below meth c b0 G 17 0 0 (MQ below (hQ b0 G (some (.int r)) S1) args s 0 0 (hA b0)) S 159 [(0, hrf b0 ((some h))), (1, .int l1), (2, .int l2), (3, .int l3), (4, .int l4), (5, .int l5), (6, .int l6), (8, .long l8), (10, .int l10), (11, .int l11), (12, .long l12), (14, .int l14)] []) (hh : s_X12_tune_b219 j135 j159 h S l1 l2 l3 l4 l5 l6 l8 l10 l11 l14 k0 k1 = some (r, S1)) : WH p l e rm_X12_tune s m args below meth c b0 G 17 0 0 (MQ below (hQ b0 G (some (.int r)) S1) args s 0 0 (hA b0)) S 219 [(0, hrf b0 ((some h))), (1, .int l1), (2, .int l2), (3, .int l3), (4, .int l4), (5, .int l5), (6, .int l6), (8, .long l8), (10, .int l10), (11, .int l11), (14, .int l14)] [.long k1, .long k0] := by
  have hh : (j159 S l1 l2 l3 l4 l5 l6 l8 l10 l11 (k0 + k1) (l14 + 1)) = some (r, S1) := hh
  refine rw_ladd E dX12_tune_219 ?_
  refine rw_lstore E (lv2 := [(12, .long (k0 + k1)), (0, hrf b0 ((some h))), (1, .int l1), (2, .int l2), (3, .int l3), (4, .int l4), (5, .int l5), (6, .int l6), (8, .long l8), (10, .int l10), (11, .int l11), (14, .int l14)]) (by decide) rfl dX12_tune_220 ?_
  refine rw_iinc E (v := l14 + 1) (lv2 := [(14, .int (l14 + 1)), (12, .long (k0 + k1)), (0, hrf b0 ((some h))), (1, .int l1), (2, .int l2), (3, .int l3), (4, .int l4), (5, .int l5), (6, .int l6), (8, .long l8), (10, .int l10), (11, .int l11)]) (j0 := 11) rfl rfl (by decide) rfl dX12_tune_222 ?_
  refine rw_goto E (tgt := 159) (by decide) dX12_tune_225 ?_
  refine WH.pick [2, 3, 4, 5, 6, 7, 8, 9, 10, 11, 1, 0] rfl ?_
  exact hj159 _ _ _ _ _ _ _ _ _ _ _ _ hh
def s_X12_tune_b253 (j135 : HS → Int32 → Int32 → Int32 → Int32 → Int32 → Int32 → Int64 → Int32 → Int32 → Option (Int32 × HS)) (h : Nat) (S : HS) (l1 : Int32) (l2 : Int32) (l3 : Int32) (l4 : Int32) (l5 : Int32) (l6 : Int32) (l8 : Int64) (l10 : Int32) (l11 : Int32) : Option (Int32 × HS) := j135 S l1 l2 l3 l4 l5 l6 l8 l10 (l11 + 1)
set_option maxHeartbeats 4000000 in
set_option maxRecDepth 100000 in
theorem w_X12_tune_b253 {p : Program} {l : Launch} {e : Env} {s : State} {m : MethodId} {args : Array Value} {below : List Frame} {meth : Method} {c : Code} {b0 : Nat} {G : hG} {S1 : HS} {r : Int32} {j135 : HS → Int32 → Int32 → Int32 → Int32 → Int32 → Int32 → Int64 → Int32 → Int32 → Option (Int32 × HS)} {h : Nat} {S : HS} {l1 : Int32} {l2 : Int32} {l3 : Int32} {l4 : Int32} {l5 : Int32} {l6 : Int32} {l8 : Int64} {l10 : Int32} {l11 : Int32} (E : hE p s m args c b0 G cX12_tune RX12 17 wsX12_tune) (hrt : meth.sig.returnType = (some .int)) (hlk : meth.locks = false) (hj135 : ∀ (S : HS) (l1 : Int32) (l2 : Int32) (l3 : Int32) (l4 : Int32) (l5 : Int32) (l6 : Int32) (l8 : Int64) (l10 : Int32) (l11 : Int32), j135 S l1 l2 l3 l4 l5 l6 l8 l10 l11 = some (r, S1) → WH p l e rm_X12_tune s m args below meth c b0 G 17 0 0 (MQ below (hQ b0 G (some (.int r)) S1) args s 0 0 (hA b0)) S 135 [(0, hrf b0 ((some h))), (1, .int l1), (2, .int l2), (3, .int l3), (4, .int l4), (5, .int l5), (6, .int l6), (8, .long l8), (10, .int l10), (11, .int l11)] []) (hh : s_X12_tune_b253 j135 h S l1 l2 l3 l4 l5 l6 l8 l10 l11 = some (r, S1)) : WH p l e rm_X12_tune s m args below meth c b0 G 17 0 0 (MQ below (hQ b0 G (some (.int r)) S1) args s 0 0 (hA b0)) S 253 [(0, hrf b0 ((some h))), (1, .int l1), (2, .int l2), (3, .int l3), (4, .int l4), (5, .int l5), (6, .int l6), (8, .long l8), (10, .int l10), (11, .int l11)] [] := by
  have hh : (j135 S l1 l2 l3 l4 l5 l6 l8 l10 (l11 + 1)) = some (r, S1) := hh
  refine rw_iinc E (v := l11 + 1) (lv2 := [(11, .int (l11 + 1)), (0, hrf b0 ((some h))), (1, .int l1), (2, .int l2), (3, .int l3), (4, .int l4), (5, .int l5), (6, .int l6), (8, .long l8), (10, .int l10)]) (j0 := 9) rfl rfl (by decide) rfl dX12_tune_253 ?_
  refine rw_goto E (tgt := 135) (by decide) dX12_tune_256 ?_
  refine WH.pick [1, 2, 3, 4, 5, 6, 7, 8, 9, 0] rfl ?_
  exact hj135 _ _ _ _ _ _ _ _ _ _ hh
def s_X12_tune_b243 (j135 : HS → Int32 → Int32 → Int32 → Int32 → Int32 → Int32 → Int64 → Int32 → Int32 → Option (Int32 × HS)) (h : Nat) (S : HS) (l1 : Int32) (l2 : Int32) (l3 : Int32) (l4 : Int32) (l5 : Int32) (l6 : Int32) (l10 : Int32) (l11 : Int32) (l12 : Int64) : Option (Int32 × HS) := kwI S ((some h)) 12 25 l11 (fun S1 => s_X12_tune_b253 j135 h S1 l1 l2 l3 l4 l5 l6 l12 l10 l11)
set_option maxHeartbeats 4000000 in
set_option maxRecDepth 100000 in
theorem w_X12_tune_b243 {p : Program} {l : Launch} {e : Env} {s : State} {m : MethodId} {args : Array Value} {below : List Frame} {meth : Method} {c : Code} {b0 : Nat} {G : hG} {S1 : HS} {r : Int32} {j135 : HS → Int32 → Int32 → Int32 → Int32 → Int32 → Int32 → Int64 → Int32 → Int32 → Option (Int32 × HS)} {h : Nat} {S : HS} {l1 : Int32} {l2 : Int32} {l3 : Int32} {l4 : Int32} {l5 : Int32} {l6 : Int32} {l10 : Int32} {l11 : Int32} {l12 : Int64} (E : hE p s m args c b0 G cX12_tune RX12 17 wsX12_tune) (hrt : meth.sig.returnType = (some .int)) (hlk : meth.locks = false) (hj135 : ∀ (S : HS) (l1 : Int32) (l2 : Int32) (l3 : Int32) (l4 : Int32) (l5 : Int32) (l6 : Int32) (l8 : Int64) (l10 : Int32) (l11 : Int32), j135 S l1 l2 l3 l4 l5 l6 l8 l10 l11 = some (r, S1) → WH p l e rm_X12_tune s m args below meth c b0 G 17 0 0 (MQ below (hQ b0 G (some (.int r)) S1) args s 0 0 (hA b0)) S 135 [(0, hrf b0 ((some h))), (1, .int l1), (2, .int l2), (3, .int l3), (4, .int l4), (5, .int l5), (6, .int l6), (8, .long l8), (10, .int l10), (11, .int l11)] []) (hh : s_X12_tune_b243 j135 h S l1 l2 l3 l4 l5 l6 l10 l11 l12 = some (r, S1)) : WH p l e rm_X12_tune s m args below meth c b0 G 17 0 0 (MQ below (hQ b0 G (some (.int r)) S1) args s 0 0 (hA b0)) S 243 [(0, hrf b0 ((some h))), (1, .int l1), (2, .int l2), (3, .int l3), (4, .int l4), (5, .int l5), (6, .int l6), (10, .int l10), (11, .int l11), (12, .long l12)] [] := by
  have hh : (kwI S ((some h)) 12 25 l11 (fun S1 => s_X12_tune_b253 j135 h S1 l1 l2 l3 l4 l5 l6 l12 l10 l11)) = some (r, S1) := hh
  refine rw_lload E (j0 := 9) rfl dX12_tune_243 ?_
  refine rw_lstore E (lv2 := [(8, .long l12), (0, hrf b0 ((some h))), (1, .int l1), (2, .int l2), (3, .int l3), (4, .int l4), (5, .int l5), (6, .int l6), (10, .int l10), (11, .int l11), (12, .long l12)]) (by decide) rfl dX12_tune_245 ?_
  refine rw_aload_n E (j0 := 1) rfl rfl dX12_tune_247 ?_
  refine rw_iload E (j0 := 9) rfl dX12_tune_248 ?_
  refine rw_putI E hh (C := RX12) (T := TX12) (N := 32) (ty0 := tyX12) rfl tyX12_ok nmX12 (by decide) i_X12_tune_12 (by decide) rfl (List.mem_of_getElem? (i := 8) (by decide +kernel)) rfl (Or.inl rfl) rfl dX12_tune_250 (fun S1 hh => ?_)
  refine WH.pick [1, 2, 3, 4, 5, 6, 7, 0, 8, 9] rfl ?_
  exact w_X12_tune_b253 E hrt hlk hj135 hh
def s_X12_tune_b159 (j135 : HS → Int32 → Int32 → Int32 → Int32 → Int32 → Int32 → Int64 → Int32 → Int32 → Option (Int32 × HS)) (j159 : HS → Int32 → Int32 → Int32 → Int32 → Int32 → Int32 → Int64 → Int32 → Int32 → Int64 → Int32 → Option (Int32 × HS)) (h : Nat) (S : HS) (l1 : Int32) (l2 : Int32) (l3 : Int32) (l4 : Int32) (l5 : Int32) (l6 : Int32) (l8 : Int64) (l10 : Int32) (l11 : Int32) (l12 : Int64) (l14 : Int32) : Option (Int32 × HS) := if l6 ≤ l14 then (if l8 < 0 then (s_X12_tune_b243 j135 h S l1 l2 l3 l4 l5 l6 l10 l11 l12) else (if l8 ≤ l12 then (s_X12_tune_b253 j135 h S l1 l2 l3 l4 l5 l6 l8 l10 l11) else (s_X12_tune_b243 j135 h S l1 l2 l3 l4 l5 l6 l10 l11 l12))) else (kP S ((some h)) 12 26 (fun v1 => kA S v1 14 l14 (fun v2 => kO S ((some h)) 12 (fun a5 => kc (s_X12_discOf S a5 l1 2) (fun v4 S3 => kP S3 ((some h)) 12 4 (fun v6 => kA S3 v6 14 (((40 * l4) + l5) + l14) (fun v7 => if 0 ≤ (v2.toInt64 * v4.toInt64) - v7.toInt64 then (s_X12_tune_b219 j135 j159 h S3 l1 l2 l3 l4 l5 l6 l8 l10 l11 l14 l12 ((v2.toInt64 * v4.toInt64) - v7.toInt64)) else (s_X12_tune_b219 j135 j159 h S3 l1 l2 l3 l4 l5 l6 l8 l10 l11 l14 l12 (-((v2.toInt64 * v4.toInt64) - v7.toInt64))))))))))
set_option maxHeartbeats 4000000 in
set_option maxRecDepth 100000 in
theorem w_X12_tune_b159 {p : Program} {l : Launch} {e : Env} {s : State} {m : MethodId} {args : Array Value} {below : List Frame} {meth : Method} {c : Code} {b0 : Nat} {G : hG} {S1 : HS} {r : Int32} {j135 : HS → Int32 → Int32 → Int32 → Int32 → Int32 → Int32 → Int64 → Int32 → Int32 → Option (Int32 × HS)} {j159 : HS → Int32 → Int32 → Int32 → Int32 → Int32 → Int32 → Int64 → Int32 → Int32 → Int64 → Int32 → Option (Int32 × HS)} {h : Nat} {S : HS} {l1 : Int32} {l2 : Int32} {l3 : Int32} {l4 : Int32} {l5 : Int32} {l6 : Int32} {l8 : Int64} {l10 : Int32} {l11 : Int32} {l12 : Int64} {l14 : Int32} (E : hE p s m args c b0 G cX12_tune RX12 17 wsX12_tune) (hrt : meth.sig.returnType = (some .int)) (hlk : meth.locks = false) (hj135 : ∀ (S : HS) (l1 : Int32) (l2 : Int32) (l3 : Int32) (l4 : Int32) (l5 : Int32) (l6 : Int32) (l8 : Int64) (l10 : Int32) (l11 : Int32), j135 S l1 l2 l3 l4 l5 l6 l8 l10 l11 = some (r, S1) → WH p l e rm_X12_tune s m args below meth c b0 G 17 0 0 (MQ below (hQ b0 G (some (.int r)) S1) args s 0 0 (hA b0)) S 135 [(0, hrf b0 ((some h))), (1, .int l1), (2, .int l2), (3, .int l3), (4, .int l4), (5, .int l5), (6, .int l6), (8, .long l8), (10, .int l10), (11, .int l11)] []) (hj159 : ∀ (S : HS) (l1 : Int32) (l2 : Int32) (l3 : Int32) (l4 : Int32) (l5 : Int32) (l6 : Int32) (l8 : Int64) (l10 : Int32) (l11 : Int32) (l12 : Int64) (l14 : Int32), j159 S l1 l2 l3 l4 l5 l6 l8 l10 l11 l12 l14 = some (r, S1) → WH p l e rm_X12_tune s m args below meth c b0 G 17 0 0 (MQ below (hQ b0 G (some (.int r)) S1) args s 0 0 (hA b0)) S 159 [(0, hrf b0 ((some h))), (1, .int l1), (2, .int l2), (3, .int l3), (4, .int l4), (5, .int l5), (6, .int l6), (8, .long l8), (10, .int l10), (11, .int l11), (12, .long l12), (14, .int l14)] []) (hh : s_X12_tune_b159 j135 j159 h S l1 l2 l3 l4 l5 l6 l8 l10 l11 l12 l14 = some (r, S1)) : WH p l e rm_X12_tune s m args below meth c b0 G 17 0 0 (MQ below (hQ b0 G (some (.int r)) S1) args s 0 0 (hA b0)) S 159 [(0, hrf b0 ((some h))), (1, .int l1), (2, .int l2), (3, .int l3), (4, .int l4), (5, .int l5), (6, .int l6), (8, .long l8), (10, .int l10), (11, .int l11), (12, .long l12), (14, .int l14)] [] := by
  have hh : (if l6 ≤ l14 then (if l8 < 0 then (s_X12_tune_b243 j135 h S l1 l2 l3 l4 l5 l6 l10 l11 l12) else (if l8 ≤ l12 then (s_X12_tune_b253 j135 h S l1 l2 l3 l4 l5 l6 l8 l10 l11) else (s_X12_tune_b243 j135 h S l1 l2 l3 l4 l5 l6 l10 l11 l12))) else (kP S ((some h)) 12 26 (fun v1 => kA S v1 14 l14 (fun v2 => kO S ((some h)) 12 (fun a5 => kc (s_X12_discOf S a5 l1 2) (fun v4 S3 => kP S3 ((some h)) 12 4 (fun v6 => kA S3 v6 14 (((40 * l4) + l5) + l14) (fun v7 => if 0 ≤ (v2.toInt64 * v4.toInt64) - v7.toInt64 then (s_X12_tune_b219 j135 j159 h S3 l1 l2 l3 l4 l5 l6 l8 l10 l11 l14 l12 ((v2.toInt64 * v4.toInt64) - v7.toInt64)) else (s_X12_tune_b219 j135 j159 h S3 l1 l2 l3 l4 l5 l6 l8 l10 l11 l14 l12 (-((v2.toInt64 * v4.toInt64) - v7.toInt64))))))))))) = some (r, S1) := hh
  refine rw_iload E (j0 := 11) rfl dX12_tune_159 ?_
  refine rw_iload E (j0 := 6) rfl dX12_tune_161 ?_
  refine rw_icmp_ge E hh (tgt := 228) (by decide) dX12_tune_163 (fun hh => ?_) (fun hh => ?_)
  · refine rw_lload E (j0 := 7) rfl dX12_tune_228 ?_
    refine rw_lconst E (v := 0) (by decide) dX12_tune_230 ?_
    refine rw_llt E hh (tgt := 243) (by decide) dX12_tune_231 dX12_tune_232 (fun hh => ?_) (fun hh => ?_)
    · refine WH.pick [0, 1, 2, 3, 4, 5, 6, 8, 9, 10] rfl ?_
      exact w_X12_tune_b243 E hrt hlk hj135 hh
    · refine rw_lload E (j0 := 10) rfl dX12_tune_235 ?_
      refine rw_lload E (j0 := 7) rfl dX12_tune_237 ?_
      refine rw_lge E hh (tgt := 253) (by decide) dX12_tune_239 dX12_tune_240 (fun hh => ?_) (fun hh => ?_)
      · refine WH.pick [0, 1, 2, 3, 4, 5, 6, 7, 8, 9] rfl ?_
        exact w_X12_tune_b253 E hrt hlk hj135 hh
      · refine WH.pick [0, 1, 2, 3, 4, 5, 6, 8, 9, 10] rfl ?_
        exact w_X12_tune_b243 E hrt hlk hj135 hh
  · refine rw_aload_n E (j0 := 0) rfl rfl dX12_tune_166 ?_
    refine rw_getP E hh (C := RX12) (T := TX12) (N := 32) rfl (by decide) i_X12_tune_12 (by decide) rfl (List.mem_of_getElem? (i := 6) (by decide +kernel)) rfl dX12_tune_167 (fun v1 hh => ?_)
    refine rw_iload E (j0 := 11) rfl dX12_tune_170 ?_
    refine rw_iald E hh dX12_tune_172 (fun v2 hh => ?_)
    refine rw_i2l E dX12_tune_173 ?_
    refine rw_aload_n E (j0 := 0) rfl rfl dX12_tune_174 ?_
    refine rw_iload_n E (j0 := 1) rfl rfl dX12_tune_175 ?_
    refine rw_iconst E (v := 2) (by decide) dX12_tune_176 ?_
    refine rw_cVi E (As := [.int l1, .int 2]) hh (by decide) rfl (fun _ _ _ hq => c_X12_discOf l b0 G _ _ _ _ _ _ hq) (cwV 2 E.2.2.2.2.1 gX12_tune_X12_discOf rfl rfl rfl (by decide +kernel) ⟨Nat.le_of_ble_eq_true rfl, Nat.le_of_ble_eq_true rfl⟩) rfl rfl (by (try simp only [List.map_cons, List.map_nil, List.sum_cons, List.sum_nil, hrf_cat, cat_i, cat_l, cat_r]) <;> decide) ⟨Nat.le_of_ble_eq_true rfl, Nat.le_of_ble_eq_true rfl⟩ dX12_tune_177 (fun v4 S3 hh => ?_)
    refine rw_i2l E dX12_tune_180 ?_
    refine rw_lmul E dX12_tune_181 ?_
    refine rw_aload_n E (j0 := 0) rfl rfl dX12_tune_182 ?_
    refine rw_getP E hh (C := RX12) (T := TX12) (N := 32) rfl (by decide) i_X12_tune_12 (by decide) rfl (List.mem_of_getElem? (i := 7) (by decide +kernel)) rfl dX12_tune_183 (fun v6 hh => ?_)
    refine rw_bipush E (v := 40) (by decide) dX12_tune_186 ?_
    refine rw_iload E (j0 := 4) rfl dX12_tune_188 ?_
    refine rw_imul E dX12_tune_190 ?_
    refine rw_iload E (j0 := 5) rfl dX12_tune_191 ?_
    refine rw_iadd E dX12_tune_193 ?_
    refine rw_iload E (j0 := 11) rfl dX12_tune_194 ?_
    refine rw_iadd E dX12_tune_196 ?_
    refine rw_iald E hh dX12_tune_197 (fun v7 hh => ?_)
    refine rw_i2l E dX12_tune_198 ?_
    refine rw_lsub E dX12_tune_199 ?_
    refine rw_lstore E (lv2 := [(15, .long ((v2.toInt64 * v4.toInt64) - v7.toInt64)), (0, hrf b0 ((some h))), (1, .int l1), (2, .int l2), (3, .int l3), (4, .int l4), (5, .int l5), (6, .int l6), (8, .long l8), (10, .int l10), (11, .int l11), (12, .long l12), (14, .int l14)]) (by decide) rfl dX12_tune_200 ?_
    refine rw_lload E (j0 := 11) rfl dX12_tune_202 ?_
    refine rw_lload E (j0 := 0) rfl dX12_tune_204 ?_
    refine rw_lconst E (v := 0) (by decide) dX12_tune_206 ?_
    refine rw_lge E hh (tgt := 217) (by decide) dX12_tune_207 dX12_tune_208 (fun hh => ?_) (fun hh => ?_)
    · refine rw_lload E (j0 := 0) rfl dX12_tune_217 ?_
      refine WH.pick [1, 2, 3, 4, 5, 6, 7, 8, 9, 10, 12] rfl ?_
      exact w_X12_tune_b219 E hrt hlk hj135 hj159 hh
    · refine rw_lload E (j0 := 0) rfl dX12_tune_211 ?_
      refine rw_lneg E dX12_tune_213 ?_
      refine rw_goto E (tgt := 219) (by decide) dX12_tune_214 ?_
      refine WH.pick [1, 2, 3, 4, 5, 6, 7, 8, 9, 10, 12] rfl ?_
      exact w_X12_tune_b219 E hrt hlk hj135 hj159 hh
def s_X12_tune_L159 (j135 : HS → Int32 → Int32 → Int32 → Int32 → Int32 → Int32 → Int64 → Int32 → Int32 → Option (Int32 × HS)) (h : Nat) : Nat → HS → Int32 → Int32 → Int32 → Int32 → Int32 → Int32 → Int64 → Int32 → Int32 → Int64 → Int32 → Option (Int32 × HS)
  | 0 => fun _ _ _ _ _ _ _ _ _ _ _ _ => none
  | n + 1 => s_X12_tune_b159 j135 (s_X12_tune_L159 j135 h n) h
set_option maxHeartbeats 4000000 in
set_option maxRecDepth 100000 in
theorem w_X12_tune_L159 {p : Program} {l : Launch} {e : Env} {s : State} {m : MethodId} {args : Array Value} {below : List Frame} {meth : Method} {c : Code} {b0 : Nat} {G : hG} {S1 : HS} {r : Int32} {j135 : HS → Int32 → Int32 → Int32 → Int32 → Int32 → Int32 → Int64 → Int32 → Int32 → Option (Int32 × HS)} {h : Nat} (E : hE p s m args c b0 G cX12_tune RX12 17 wsX12_tune) (hrt : meth.sig.returnType = (some .int)) (hlk : meth.locks = false) (hj135 : ∀ (S : HS) (l1 : Int32) (l2 : Int32) (l3 : Int32) (l4 : Int32) (l5 : Int32) (l6 : Int32) (l8 : Int64) (l10 : Int32) (l11 : Int32), j135 S l1 l2 l3 l4 l5 l6 l8 l10 l11 = some (r, S1) → WH p l e rm_X12_tune s m args below meth c b0 G 17 0 0 (MQ below (hQ b0 G (some (.int r)) S1) args s 0 0 (hA b0)) S 135 [(0, hrf b0 ((some h))), (1, .int l1), (2, .int l2), (3, .int l3), (4, .int l4), (5, .int l5), (6, .int l6), (8, .long l8), (10, .int l10), (11, .int l11)] []) : ∀ (n : Nat) (S : HS) (l1 : Int32) (l2 : Int32) (l3 : Int32) (l4 : Int32) (l5 : Int32) (l6 : Int32) (l8 : Int64) (l10 : Int32) (l11 : Int32) (l12 : Int64) (l14 : Int32), s_X12_tune_L159 j135 h n S l1 l2 l3 l4 l5 l6 l8 l10 l11 l12 l14 = some (r, S1) → WH p l e rm_X12_tune s m args below meth c b0 G 17 0 0 (MQ below (hQ b0 G (some (.int r)) S1) args s 0 0 (hA b0)) S 159 [(0, hrf b0 ((some h))), (1, .int l1), (2, .int l2), (3, .int l3), (4, .int l4), (5, .int l5), (6, .int l6), (8, .long l8), (10, .int l10), (11, .int l11), (12, .long l12), (14, .int l14)] [] := by
  intro n
  induction n with
  | zero => intro _ _ _ _ _ _ _ _ _ _ _ _ hh; exact absurd hh (by simp [s_X12_tune_L159])
  | succ n ih => intro _ _ _ _ _ _ _ _ _ _ _ _ hh; exact w_X12_tune_b159 E hrt hlk hj135 ih hh
def s_X12_tune_b135 (j135 : HS → Int32 → Int32 → Int32 → Int32 → Int32 → Int32 → Int64 → Int32 → Int32 → Option (Int32 × HS)) (h : Nat) (S : HS) (l1 : Int32) (l2 : Int32) (l3 : Int32) (l4 : Int32) (l5 : Int32) (l6 : Int32) (l8 : Int64) (l10 : Int32) (l11 : Int32) : Option (Int32 × HS) := if l10 ≤ l11 then (some (l8.toInt32, S)) else (kO S ((some h)) 12 (fun a2 => kcv (s_X12_playTune S a2 l1 l2 l3 l11 l6) (fun S1 => s_X12_tune_L159 j135 h 100000 S1 l1 l2 l3 l4 l5 l6 l8 l10 l11 0 0)))
set_option maxHeartbeats 4000000 in
set_option maxRecDepth 100000 in
theorem w_X12_tune_b135 {p : Program} {l : Launch} {e : Env} {s : State} {m : MethodId} {args : Array Value} {below : List Frame} {meth : Method} {c : Code} {b0 : Nat} {G : hG} {S1 : HS} {r : Int32} {j135 : HS → Int32 → Int32 → Int32 → Int32 → Int32 → Int32 → Int64 → Int32 → Int32 → Option (Int32 × HS)} {h : Nat} {S : HS} {l1 : Int32} {l2 : Int32} {l3 : Int32} {l4 : Int32} {l5 : Int32} {l6 : Int32} {l8 : Int64} {l10 : Int32} {l11 : Int32} (E : hE p s m args c b0 G cX12_tune RX12 17 wsX12_tune) (hrt : meth.sig.returnType = (some .int)) (hlk : meth.locks = false) (hj135 : ∀ (S : HS) (l1 : Int32) (l2 : Int32) (l3 : Int32) (l4 : Int32) (l5 : Int32) (l6 : Int32) (l8 : Int64) (l10 : Int32) (l11 : Int32), j135 S l1 l2 l3 l4 l5 l6 l8 l10 l11 = some (r, S1) → WH p l e rm_X12_tune s m args below meth c b0 G 17 0 0 (MQ below (hQ b0 G (some (.int r)) S1) args s 0 0 (hA b0)) S 135 [(0, hrf b0 ((some h))), (1, .int l1), (2, .int l2), (3, .int l3), (4, .int l4), (5, .int l5), (6, .int l6), (8, .long l8), (10, .int l10), (11, .int l11)] []) (hh : s_X12_tune_b135 j135 h S l1 l2 l3 l4 l5 l6 l8 l10 l11 = some (r, S1)) : WH p l e rm_X12_tune s m args below meth c b0 G 17 0 0 (MQ below (hQ b0 G (some (.int r)) S1) args s 0 0 (hA b0)) S 135 [(0, hrf b0 ((some h))), (1, .int l1), (2, .int l2), (3, .int l3), (4, .int l4), (5, .int l5), (6, .int l6), (8, .long l8), (10, .int l10), (11, .int l11)] [] := by
  have hh : (if l10 ≤ l11 then (some (l8.toInt32, S)) else (kO S ((some h)) 12 (fun a2 => kcv (s_X12_playTune S a2 l1 l2 l3 l11 l6) (fun S1 => s_X12_tune_L159 j135 h 100000 S1 l1 l2 l3 l4 l5 l6 l8 l10 l11 0 0)))) = some (r, S1) := hh
  refine rw_iload E (j0 := 9) rfl dX12_tune_135 ?_
  refine rw_iload E (j0 := 8) rfl dX12_tune_137 ?_
  refine rw_icmp_ge E hh (tgt := 259) (by decide) dX12_tune_139 (fun hh => ?_) (fun hh => ?_)
  · refine rw_lload E (j0 := 7) rfl dX12_tune_259 ?_
    refine rw_l2i E dX12_tune_261 ?_
    exact rw_iret E hrt hlk hh (by decide) (by decide) dX12_tune_262
  · refine rw_aload_n E (j0 := 0) rfl rfl dX12_tune_142 ?_
    refine rw_iload_n E (j0 := 1) rfl rfl dX12_tune_143 ?_
    refine rw_iload_n E (j0 := 2) rfl rfl dX12_tune_144 ?_
    refine rw_iload_n E (j0 := 3) rfl rfl dX12_tune_145 ?_
    refine rw_iload E (j0 := 9) rfl dX12_tune_146 ?_
    refine rw_iload E (j0 := 6) rfl dX12_tune_148 ?_
    refine rw_cVv E (As := [.int l1, .int l2, .int l3, .int l11, .int l6]) hh (by decide) rfl (fun _ _ hq => c_X12_playTune l b0 G _ _ _ _ _ _ _ _ hq) (cwV 5 E.2.2.2.2.1 gX12_tune_X12_playTune rfl rfl rfl (by decide +kernel) ⟨Nat.le_of_ble_eq_true rfl, Nat.le_of_ble_eq_true rfl⟩) rfl rfl (by (try simp only [List.map_cons, List.map_nil, List.sum_cons, List.sum_nil, hrf_cat, cat_i, cat_l, cat_r]) <;> decide) ⟨Nat.le_of_ble_eq_true rfl, Nat.le_of_ble_eq_true rfl⟩ dX12_tune_150 (fun S1 hh => ?_)
    refine rw_lconst E (v := 0) (by decide) dX12_tune_153 ?_
    refine rw_lstore E (lv2 := [(12, .long 0), (0, hrf b0 ((some h))), (1, .int l1), (2, .int l2), (3, .int l3), (4, .int l4), (5, .int l5), (6, .int l6), (8, .long l8), (10, .int l10), (11, .int l11)]) (by decide) rfl dX12_tune_154 ?_
    refine rw_iconst E (v := 0) (by decide) dX12_tune_156 ?_
    refine rw_istore E (lv2 := [(14, .int 0), (12, .long 0), (0, hrf b0 ((some h))), (1, .int l1), (2, .int l2), (3, .int l3), (4, .int l4), (5, .int l5), (6, .int l6), (8, .long l8), (10, .int l10), (11, .int l11)]) (by decide) rfl dX12_tune_157 ?_
    refine WH.pick [2, 3, 4, 5, 6, 7, 8, 9, 10, 11, 1, 0] rfl ?_
    exact w_X12_tune_L159 E hrt hlk hj135 100000 _ _ _ _ _ _ _ _ _ _ _ _ hh
def s_X12_tune_L135 (h : Nat) : Nat → HS → Int32 → Int32 → Int32 → Int32 → Int32 → Int32 → Int64 → Int32 → Int32 → Option (Int32 × HS)
  | 0 => fun _ _ _ _ _ _ _ _ _ _ => none
  | n + 1 => s_X12_tune_b135 (s_X12_tune_L135 h n) h
set_option maxHeartbeats 4000000 in
set_option maxRecDepth 100000 in
theorem w_X12_tune_L135 {p : Program} {l : Launch} {e : Env} {s : State} {m : MethodId} {args : Array Value} {below : List Frame} {meth : Method} {c : Code} {b0 : Nat} {G : hG} {S1 : HS} {r : Int32} {h : Nat} (E : hE p s m args c b0 G cX12_tune RX12 17 wsX12_tune) (hrt : meth.sig.returnType = (some .int)) (hlk : meth.locks = false) : ∀ (n : Nat) (S : HS) (l1 : Int32) (l2 : Int32) (l3 : Int32) (l4 : Int32) (l5 : Int32) (l6 : Int32) (l8 : Int64) (l10 : Int32) (l11 : Int32), s_X12_tune_L135 h n S l1 l2 l3 l4 l5 l6 l8 l10 l11 = some (r, S1) → WH p l e rm_X12_tune s m args below meth c b0 G 17 0 0 (MQ below (hQ b0 G (some (.int r)) S1) args s 0 0 (hA b0)) S 135 [(0, hrf b0 ((some h))), (1, .int l1), (2, .int l2), (3, .int l3), (4, .int l4), (5, .int l5), (6, .int l6), (8, .long l8), (10, .int l10), (11, .int l11)] [] := by
  intro n
  induction n with
  | zero => intro _ _ _ _ _ _ _ _ _ _ hh; exact absurd hh (by simp [s_X12_tune_L135])
  | succ n ih => intro _ _ _ _ _ _ _ _ _ _ hh; exact w_X12_tune_b135 E hrt hlk  ih hh
def s_X12_tune_b130 (h : Nat) (S : HS) (l1 : Int32) (l2 : Int32) (l3 : Int32) (l4 : Int32) (l5 : Int32) (l6 : Int32) (l8 : Int64) (k0 : Int32) : Option (Int32 × HS) := s_X12_tune_L135 h 100000 S l1 l2 l3 l4 l5 l6 l8 k0 0
set_option maxHeartbeats 4000000 in
set_option maxRecDepth 100000 in
theorem w_X12_tune_b130 {p : Program} {l : Launch} {e : Env} {s : State} {m : MethodId} {args : Array Value} {below : List Frame} {meth : Method} {c : Code} {b0 : Nat} {G : hG} {S1 : HS} {r : Int32} {h : Nat} {S : HS} {l1 : Int32} {l2 : Int32} {l3 : Int32} {l4 : Int32} {l5 : Int32} {l6 : Int32} {l8 : Int64} {k0 : Int32} (E : hE p s m args c b0 G cX12_tune RX12 17 wsX12_tune) (hrt : meth.sig.returnType = (some .int)) (hlk : meth.locks = false) (hh : s_X12_tune_b130 h S l1 l2 l3 l4 l5 l6 l8 k0 = some (r, S1)) : WH p l e rm_X12_tune s m args below meth c b0 G 17 0 0 (MQ below (hQ b0 G (some (.int r)) S1) args s 0 0 (hA b0)) S 130 [(0, hrf b0 ((some h))), (1, .int l1), (2, .int l2), (3, .int l3), (4, .int l4), (5, .int l5), (6, .int l6), (8, .long l8)] [.int k0] := by
  have hh : (s_X12_tune_L135 h 100000 S l1 l2 l3 l4 l5 l6 l8 k0 0) = some (r, S1) := hh
  refine rw_istore E (lv2 := [(10, .int k0), (0, hrf b0 ((some h))), (1, .int l1), (2, .int l2), (3, .int l3), (4, .int l4), (5, .int l5), (6, .int l6), (8, .long l8)]) (by decide) rfl dX12_tune_130 ?_
  refine rw_iconst E (v := 0) (by decide) dX12_tune_132 ?_
  refine rw_istore E (lv2 := [(11, .int 0), (10, .int k0), (0, hrf b0 ((some h))), (1, .int l1), (2, .int l2), (3, .int l3), (4, .int l4), (5, .int l5), (6, .int l6), (8, .long l8)]) (by decide) rfl dX12_tune_133 ?_
  refine WH.pick [2, 3, 4, 5, 6, 7, 8, 9, 1, 0] rfl ?_
  exact w_X12_tune_L135 E hrt hlk 100000 _ _ _ _ _ _ _ _ _ _ hh
def s_X12_tune (S : HS) (h : Nat) (l1 : Int32) (l2 : Int32) (l3 : Int32) (l4 : Int32) (l5 : Int32) (l6 : Int32) : Option (Int32 × HS) := kwI S ((some h)) 12 0 0 (fun S1 => kO S1 ((some h)) 12 (fun a4 => kc (s_X12_isDisc S1 a4 l1) (fun v3 S2 => if v3 = 0 then (some ((-1000001), S2)) else (kO S2 ((some h)) 12 (fun a7 => kc (s_X12_isThread S2 a7 l2) (fun v6 S5 => if v6 = 0 then (some ((-1000001), S5)) else (kO S5 ((some h)) 12 (fun a10 => kc (s_X12_threadOf S5 a10 l2 2) (fun v9 S8 => kc (s_X12_in S8 l3.toInt64 1 v9.toInt64) (fun v12 S11 => if v12 = 0 then (some ((-1000001), S11)) else (kc (s_X12_isRow S11 l4) (fun v14 S13 => if v14 = 0 then (some ((-1000001), S13)) else (kc (s_X12_in S13 l6.toInt64 1 3) (fun v16 S15 => if v16 = 0 then (some ((-1000001), S15)) else (kO S15 ((some h)) 12 (fun a19 => kc (s_X12_noTones S15 a19 l4 l5 l6) (fun v18 S17 => if v18 = 0 then (kwI S17 ((some h)) 12 1 0 (fun S20 => if l6 = 1 then (s_X12_tune_b130 h S20 l1 l2 l3 l4 l5 l6 ((-1)) 10) else (if l6 = 2 then (s_X12_tune_b130 h S20 l1 l2 l3 l4 l5 l6 ((-1)) 100) else (s_X12_tune_b130 h S20 l1 l2 l3 l4 l5 l6 ((-1)) 1000)))) else (if 0 ≤ v18 then (kO S17 ((some h)) 12 (fun a23 => kc (s_X12_finding S17 a23 v18) (fun v22 S21 => some (v22, S21)))) else (some ((-1000001), S17))))))))))))))))))))
set_option maxHeartbeats 4000000 in
set_option maxRecDepth 100000 in
theorem c_X12_tune (l : Launch) (b0 : Nat) (G : hG) (S S1 : HS) (h : Nat) (l1 : Int32) (l2 : Int32) (l3 : Int32) (l4 : Int32) (l5 : Int32) (l6 : Int32) (r : Int32) (hh : s_X12_tune S h l1 l2 l3 l4 l5 l6 = some (r, S1)) : MH l yX12_tune wsX12_tune rm_X12_tune b0 G S [hrf b0 (some h), .int l1, .int l2, .int l3, .int l4, .int l5, .int l6] (some (.int r)) S1 0 0 := by
  refine MH.ofW (cc := cX12_tune) (maxL := 17) (ret := (some .int)) (own := RX12) (lv0 := [(0, hrf b0 ((some h))), (1, .int l1), (2, .int l2), (3, .int l3), (4, .int l4), (5, .int l5), (6, .int l6)]) (by decide) rfl rfl (Nat.le_of_ble_eq_true rfl) rfl ?_
  intro p e s m args below meth c E hrt hlk hnm
  have hh : (kwI S ((some h)) 12 0 0 (fun S1 => kO S1 ((some h)) 12 (fun a4 => kc (s_X12_isDisc S1 a4 l1) (fun v3 S2 => if v3 = 0 then (some ((-1000001), S2)) else (kO S2 ((some h)) 12 (fun a7 => kc (s_X12_isThread S2 a7 l2) (fun v6 S5 => if v6 = 0 then (some ((-1000001), S5)) else (kO S5 ((some h)) 12 (fun a10 => kc (s_X12_threadOf S5 a10 l2 2) (fun v9 S8 => kc (s_X12_in S8 l3.toInt64 1 v9.toInt64) (fun v12 S11 => if v12 = 0 then (some ((-1000001), S11)) else (kc (s_X12_isRow S11 l4) (fun v14 S13 => if v14 = 0 then (some ((-1000001), S13)) else (kc (s_X12_in S13 l6.toInt64 1 3) (fun v16 S15 => if v16 = 0 then (some ((-1000001), S15)) else (kO S15 ((some h)) 12 (fun a19 => kc (s_X12_noTones S15 a19 l4 l5 l6) (fun v18 S17 => if v18 = 0 then (kwI S17 ((some h)) 12 1 0 (fun S20 => if l6 = 1 then (s_X12_tune_b130 h S20 l1 l2 l3 l4 l5 l6 ((-1)) 10) else (if l6 = 2 then (s_X12_tune_b130 h S20 l1 l2 l3 l4 l5 l6 ((-1)) 100) else (s_X12_tune_b130 h S20 l1 l2 l3 l4 l5 l6 ((-1)) 1000)))) else (if 0 ≤ v18 then (kO S17 ((some h)) 12 (fun a23 => kc (s_X12_finding S17 a23 v18) (fun v22 S21 => some (v22, S21)))) else (some ((-1000001), S17))))))))))))))))))))) = some (r, S1) := hh
  refine rw_aload_n E (j0 := 0) rfl rfl dX12_tune_0 ?_
  refine rw_iconst E (v := 0) (by decide) dX12_tune_1 ?_
  refine rw_putI E hh (C := RX12) (T := TX12) (N := 32) (ty0 := tyX12) rfl tyX12_ok nmX12 (by decide) i_X12_tune_12 (by decide) rfl (List.mem_of_getElem? (i := 1) (by decide +kernel)) rfl (Or.inl rfl) rfl dX12_tune_2 (fun S1 hh => ?_)
  refine rw_aload_n E (j0 := 0) rfl rfl dX12_tune_5 ?_
  refine rw_iload_n E (j0 := 1) rfl rfl dX12_tune_6 ?_
  refine rw_cVi E (As := [.int l1]) hh (by decide) rfl (fun _ _ _ hq => c_X12_isDisc l b0 G _ _ _ _ _ hq) (cwV 1 E.2.2.2.2.1 gX12_tune_X12_isDisc rfl rfl rfl (by decide +kernel) ⟨Nat.le_of_ble_eq_true rfl, Nat.le_of_ble_eq_true rfl⟩) rfl rfl (by (try simp only [List.map_cons, List.map_nil, List.sum_cons, List.sum_nil, hrf_cat, cat_i, cat_l, cat_r]) <;> decide) ⟨Nat.le_of_ble_eq_true rfl, Nat.le_of_ble_eq_true rfl⟩ dX12_tune_7 (fun v3 S2 hh => ?_)
  refine rw_if_eq E hh (tgt := 58) (by decide) dX12_tune_10 (fun hh => ?_) (fun hh => ?_)
  · refine rw_ldc E (v := (-1000001)) (List.mem_of_getElem? (i := 3) (by decide +kernel)) dX12_tune_58 ?_
    exact rw_iret E hrt hlk hh (by decide) (by decide) dX12_tune_60
  · refine rw_aload_n E (j0 := 0) rfl rfl dX12_tune_13 ?_
    refine rw_iload_n E (j0 := 2) rfl rfl dX12_tune_14 ?_
    refine rw_cVi E (As := [.int l2]) hh (by decide) rfl (fun _ _ _ hq => c_X12_isThread l b0 G _ _ _ _ _ hq) (cwV 1 E.2.2.2.2.1 gX12_tune_X12_isThread rfl rfl rfl (by decide +kernel) ⟨Nat.le_of_ble_eq_true rfl, Nat.le_of_ble_eq_true rfl⟩) rfl rfl (by (try simp only [List.map_cons, List.map_nil, List.sum_cons, List.sum_nil, hrf_cat, cat_i, cat_l, cat_r]) <;> decide) ⟨Nat.le_of_ble_eq_true rfl, Nat.le_of_ble_eq_true rfl⟩ dX12_tune_15 (fun v6 S5 hh => ?_)
    refine rw_if_eq E hh (tgt := 58) (by decide) dX12_tune_18 (fun hh => ?_) (fun hh => ?_)
    · refine rw_ldc E (v := (-1000001)) (List.mem_of_getElem? (i := 3) (by decide +kernel)) dX12_tune_58 ?_
      exact rw_iret E hrt hlk hh (by decide) (by decide) dX12_tune_60
    · refine rw_iload_n E (j0 := 3) rfl rfl dX12_tune_21 ?_
      refine rw_i2l E dX12_tune_22 ?_
      refine rw_lconst E (v := 1) (by decide) dX12_tune_23 ?_
      refine rw_aload_n E (j0 := 0) rfl rfl dX12_tune_24 ?_
      refine rw_iload_n E (j0 := 2) rfl rfl dX12_tune_25 ?_
      refine rw_iconst E (v := 2) (by decide) dX12_tune_26 ?_
      refine rw_cVi E (As := [.int l2, .int 2]) hh (by decide) rfl (fun _ _ _ hq => c_X12_threadOf l b0 G _ _ _ _ _ _ hq) (cwV 2 E.2.2.2.2.1 gX12_tune_X12_threadOf rfl rfl rfl (by decide +kernel) ⟨Nat.le_of_ble_eq_true rfl, Nat.le_of_ble_eq_true rfl⟩) rfl rfl (by (try simp only [List.map_cons, List.map_nil, List.sum_cons, List.sum_nil, hrf_cat, cat_i, cat_l, cat_r]) <;> decide) ⟨Nat.le_of_ble_eq_true rfl, Nat.le_of_ble_eq_true rfl⟩ dX12_tune_27 (fun v9 S8 hh => ?_)
      refine rw_i2l E dX12_tune_30 ?_
      refine rw_cSi E (As := [.long l3.toInt64, .long 1, .long v9.toInt64]) hh (fun _ _ hq => c_X12_in l b0 G _ _ _ _ _ _ hq) (va_cwS 3 E.2.2.2.2.1 gX12_tune_X12_in rfl rfl rfl (by decide +kernel) ⟨Nat.le_of_ble_eq_true rfl, Nat.le_of_ble_eq_true rfl⟩) rfl rfl (by (try simp only [List.map_cons, List.map_nil, List.sum_cons, List.sum_nil, hrf_cat, cat_i, cat_l, cat_r]) <;> decide) ⟨Nat.le_of_ble_eq_true rfl, Nat.le_of_ble_eq_true rfl⟩ dX12_tune_31 (fun v12 S11 hh => ?_)
      refine rw_if_eq E hh (tgt := 58) (by decide) dX12_tune_34 (fun hh => ?_) (fun hh => ?_)
      · refine rw_ldc E (v := (-1000001)) (List.mem_of_getElem? (i := 3) (by decide +kernel)) dX12_tune_58 ?_
        exact rw_iret E hrt hlk hh (by decide) (by decide) dX12_tune_60
      · refine rw_iload E (j0 := 4) rfl dX12_tune_37 ?_
        refine rw_cSi E (As := [.int l4]) hh (fun _ _ hq => c_X12_isRow l b0 G _ _ _ _ hq) (va_cwS 1 E.2.2.2.2.1 gX12_tune_X12_isRow rfl rfl rfl (by decide +kernel) ⟨Nat.le_of_ble_eq_true rfl, Nat.le_of_ble_eq_true rfl⟩) rfl rfl (by (try simp only [List.map_cons, List.map_nil, List.sum_cons, List.sum_nil, hrf_cat, cat_i, cat_l, cat_r]) <;> decide) ⟨Nat.le_of_ble_eq_true rfl, Nat.le_of_ble_eq_true rfl⟩ dX12_tune_39 (fun v14 S13 hh => ?_)
        refine rw_if_eq E hh (tgt := 58) (by decide) dX12_tune_42 (fun hh => ?_) (fun hh => ?_)
        · refine rw_ldc E (v := (-1000001)) (List.mem_of_getElem? (i := 3) (by decide +kernel)) dX12_tune_58 ?_
          exact rw_iret E hrt hlk hh (by decide) (by decide) dX12_tune_60
        · refine rw_iload E (j0 := 6) rfl dX12_tune_45 ?_
          refine rw_i2l E dX12_tune_47 ?_
          refine rw_lconst E (v := 1) (by decide) dX12_tune_48 ?_
          refine rw_ldc2 E (v := 3) (List.mem_of_getElem? (i := 2) (by decide +kernel)) dX12_tune_49 ?_
          refine rw_cSi E (As := [.long l6.toInt64, .long 1, .long 3]) hh (fun _ _ hq => c_X12_in l b0 G _ _ _ _ _ _ hq) (va_cwS 3 E.2.2.2.2.1 gX12_tune_X12_in rfl rfl rfl (by decide +kernel) ⟨Nat.le_of_ble_eq_true rfl, Nat.le_of_ble_eq_true rfl⟩) rfl rfl (by (try simp only [List.map_cons, List.map_nil, List.sum_cons, List.sum_nil, hrf_cat, cat_i, cat_l, cat_r]) <;> decide) ⟨Nat.le_of_ble_eq_true rfl, Nat.le_of_ble_eq_true rfl⟩ dX12_tune_52 (fun v16 S15 hh => ?_)
          refine rw_if_ne E hh (tgt := 61) (by decide) dX12_tune_55 (fun hh => ?_) (fun hh => ?_)
          · refine rw_aload_n E (j0 := 0) rfl rfl dX12_tune_61 ?_
            refine rw_iload E (j0 := 4) rfl dX12_tune_62 ?_
            refine rw_iload E (j0 := 5) rfl dX12_tune_64 ?_
            refine rw_iload E (j0 := 6) rfl dX12_tune_66 ?_
            refine rw_cVi E (As := [.int l4, .int l5, .int l6]) hh (by decide) rfl (fun _ _ _ hq => c_X12_noTones l b0 G _ _ _ _ _ _ _ hq) (cwV 3 E.2.2.2.2.1 gX12_tune_X12_noTones rfl rfl rfl (by decide +kernel) ⟨Nat.le_of_ble_eq_true rfl, Nat.le_of_ble_eq_true rfl⟩) rfl rfl (by (try simp only [List.map_cons, List.map_nil, List.sum_cons, List.sum_nil, hrf_cat, cat_i, cat_l, cat_r]) <;> decide) ⟨Nat.le_of_ble_eq_true rfl, Nat.le_of_ble_eq_true rfl⟩ dX12_tune_68 (fun v18 S17 hh => ?_)
            refine rw_istore E (lv2 := [(7, .int v18), (0, hrf b0 ((some h))), (1, .int l1), (2, .int l2), (3, .int l3), (4, .int l4), (5, .int l5), (6, .int l6)]) (by decide) rfl dX12_tune_71 ?_
            refine rw_iload E (j0 := 0) rfl dX12_tune_73 ?_
            refine rw_if_eq E hh (tgt := 95) (by decide) dX12_tune_75 (fun hh => ?_) (fun hh => ?_)
            · refine rw_aload_n E (j0 := 1) rfl rfl dX12_tune_95 ?_
              refine rw_iconst E (v := 0) (by decide) dX12_tune_96 ?_
              refine rw_putI E hh (C := RX12) (T := TX12) (N := 32) (ty0 := tyX12) rfl tyX12_ok nmX12 (by decide) i_X12_tune_12 (by decide) rfl (List.mem_of_getElem? (i := 4) (by decide +kernel)) rfl (Or.inl rfl) rfl dX12_tune_97 (fun S20 hh => ?_)
              refine rw_ldc2 E (v := (-1)) (List.mem_of_getElem? (i := 5) (by decide +kernel)) dX12_tune_100 ?_
              refine rw_lstore E (lv2 := [(8, .long ((-1))), (7, .int v18), (0, hrf b0 ((some h))), (1, .int l1), (2, .int l2), (3, .int l3), (4, .int l4), (5, .int l5), (6, .int l6)]) (by decide) rfl dX12_tune_103 ?_
              refine rw_iload E (j0 := 8) rfl dX12_tune_105 ?_
              refine rw_iconst E (v := 1) (by decide) dX12_tune_107 ?_
              refine rw_icmp_ne E hh (tgt := 116) (by decide) dX12_tune_108 (fun hh => ?_) (fun hh => ?_)
              · refine rw_iload E (j0 := 8) rfl dX12_tune_116 ?_
                refine rw_iconst E (v := 2) (by decide) dX12_tune_118 ?_
                refine rw_icmp_ne E hh (tgt := 127) (by decide) dX12_tune_119 (fun hh => ?_) (fun hh => ?_)
                · refine rw_sipush E (v := 1000) (by decide) dX12_tune_127 ?_
                  refine WH.pick [2, 3, 4, 5, 6, 7, 8, 0] rfl ?_
                  exact w_X12_tune_b130 E hrt hlk hh
                · refine rw_bipush E (v := 100) (by decide) dX12_tune_122 ?_
                  refine rw_goto E (tgt := 130) (by decide) dX12_tune_124 ?_
                  refine WH.pick [2, 3, 4, 5, 6, 7, 8, 0] rfl ?_
                  exact w_X12_tune_b130 E hrt hlk hh
              · refine rw_bipush E (v := 10) (by decide) dX12_tune_111 ?_
                refine rw_goto E (tgt := 130) (by decide) dX12_tune_113 ?_
                refine WH.pick [2, 3, 4, 5, 6, 7, 8, 0] rfl ?_
                exact w_X12_tune_b130 E hrt hlk hh
            · refine rw_iload E (j0 := 0) rfl dX12_tune_78 ?_
              refine rw_if_ge E hh (tgt := 88) (by decide) dX12_tune_80 (fun hh => ?_) (fun hh => ?_)
              · refine rw_aload_n E (j0 := 1) rfl rfl dX12_tune_88 ?_
                refine rw_iload E (j0 := 0) rfl dX12_tune_89 ?_
                refine rw_cVi E (As := [.int v18]) hh (by decide) rfl (fun _ _ _ hq => c_X12_finding l b0 G _ _ _ _ _ hq) (cwV 1 E.2.2.2.2.1 gX12_tune_X12_finding rfl rfl rfl (by decide +kernel) ⟨Nat.le_of_ble_eq_true rfl, Nat.le_of_ble_eq_true rfl⟩) rfl rfl (by (try simp only [List.map_cons, List.map_nil, List.sum_cons, List.sum_nil, hrf_cat, cat_i, cat_l, cat_r]) <;> decide) ⟨Nat.le_of_ble_eq_true rfl, Nat.le_of_ble_eq_true rfl⟩ dX12_tune_91 (fun v22 S21 hh => ?_)
                exact rw_iret E hrt hlk hh (by decide) (by decide) dX12_tune_94
              · refine rw_ldc E (v := (-1000001)) (List.mem_of_getElem? (i := 3) (by decide +kernel)) dX12_tune_83 ?_
                refine rw_goto E (tgt := 94) (by decide) dX12_tune_85 ?_
                exact rw_iret E hrt hlk hh (by decide) (by decide) dX12_tune_94
          · refine rw_ldc E (v := (-1000001)) (List.mem_of_getElem? (i := 3) (by decide +kernel)) dX12_tune_58 ?_
            exact rw_iret E hrt hlk hh (by decide) (by decide) dX12_tune_60

/-! HummingDiscModel.forces()I -/
abbrev rm_X12_forces : Room := { frames := 0, cells := 0, slots := 0, locals := 0 }
theorem i_X12_forces_12 : ∀ w ∈ wsX120, w ∈ wsX12_forces := fun _ h => List.mem_cons_of_mem _ (List.mem_append_right _ (h))
def s_X12_forces (S : HS) (h : Nat) : Option (Int32 × HS) := kwI S ((some h)) 12 0 0 (fun S1 => kI S1 ((some h)) 12 25 (fun v2 => some (v2, S1)))
set_option maxHeartbeats 4000000 in
set_option maxRecDepth 100000 in
theorem c_X12_forces (l : Launch) (b0 : Nat) (G : hG) (S S1 : HS) (h : Nat) (r : Int32) (hh : s_X12_forces S h  = some (r, S1)) : MH l yX12_forces wsX12_forces rm_X12_forces b0 G S [hrf b0 (some h)] (some (.int r)) S1 0 0 := by
  refine MH.ofW (cc := cX12_forces) (maxL := 1) (ret := (some .int)) (own := RX12) (lv0 := [(0, hrf b0 ((some h)))]) (by decide) rfl rfl (Nat.le_of_ble_eq_true rfl) rfl ?_
  intro p e s m args below meth c E hrt hlk hnm
  have hh : (kwI S ((some h)) 12 0 0 (fun S1 => kI S1 ((some h)) 12 25 (fun v2 => some (v2, S1)))) = some (r, S1) := hh
  refine rw_aload_n E (j0 := 0) rfl rfl dX12_forces_0 ?_
  refine rw_iconst E (v := 0) (by decide) dX12_forces_1 ?_
  refine rw_putI E hh (C := RX12) (T := TX12) (N := 32) (ty0 := tyX12) rfl tyX12_ok nmX12 (by decide) i_X12_forces_12 (by decide) rfl (List.mem_of_getElem? (i := 1) (by decide +kernel)) rfl (Or.inl rfl) rfl dX12_forces_2 (fun S1 hh => ?_)
  refine rw_aload_n E (j0 := 0) rfl rfl dX12_forces_5 ?_
  refine rw_getI E hh (C := RX12) (T := TX12) (N := 32) rfl (by decide) i_X12_forces_12 (by decide) rfl (List.mem_of_getElem? (i := 2) (by decide +kernel)) rfl dX12_forces_6 (fun v2 hh => ?_)
  exact rw_iret E hrt hlk hh (by decide) (by decide) dX12_forces_9

/-! HummingDiscModel.image(I)I -/
abbrev rm_X12_image : Room := { frames := 1, cells := 0, slots := 0, locals := 25 }
theorem i_X12_image_12 : ∀ w ∈ wsX120, w ∈ wsX12_image := fun _ h => List.mem_cons_of_mem _ (List.mem_append_right _ (h))
def s_X12_image_b63 (j63 : HS → Int32 → Int32 → Option (Int32 × HS)) (h : Nat) (S : HS) (l1 : Int32) (l2 : Int32) : Option (Int32 × HS) := if 12 ≤ l2 then (kP S ((some h)) 12 27 (fun v1 => kwA S v1 15 l1 (vp_nar .boolean 1) (fun S2 => some (1, S2)))) else (kP S ((some h)) 12 29 (fun v3 => kP S ((some h)) 12 24 (fun v4 => kA S v4 14 l2 (fun v5 => kwA S v3 14 ((12 * l1) + l2) v5 (fun S6 => j63 S6 l1 (l2 + 1))))))
set_option maxHeartbeats 4000000 in
set_option maxRecDepth 100000 in
theorem w_X12_image_b63 {p : Program} {l : Launch} {e : Env} {s : State} {m : MethodId} {args : Array Value} {below : List Frame} {meth : Method} {c : Code} {b0 : Nat} {G : hG} {S1 : HS} {r : Int32} {j63 : HS → Int32 → Int32 → Option (Int32 × HS)} {h : Nat} {S : HS} {l1 : Int32} {l2 : Int32} (E : hE p s m args c b0 G cX12_image RX12 3 wsX12_image) (hrt : meth.sig.returnType = (some .int)) (hlk : meth.locks = false) (hj63 : ∀ (S : HS) (l1 : Int32) (l2 : Int32), j63 S l1 l2 = some (r, S1) → WH p l e rm_X12_image s m args below meth c b0 G 3 0 0 (MQ below (hQ b0 G (some (.int r)) S1) args s 0 0 (hA b0)) S 63 [(0, hrf b0 ((some h))), (1, .int l1), (2, .int l2)] []) (hh : s_X12_image_b63 j63 h S l1 l2 = some (r, S1)) : WH p l e rm_X12_image s m args below meth c b0 G 3 0 0 (MQ below (hQ b0 G (some (.int r)) S1) args s 0 0 (hA b0)) S 63 [(0, hrf b0 ((some h))), (1, .int l1), (2, .int l2)] [] := by
  have hh : (if 12 ≤ l2 then (kP S ((some h)) 12 27 (fun v1 => kwA S v1 15 l1 (vp_nar .boolean 1) (fun S2 => some (1, S2)))) else (kP S ((some h)) 12 29 (fun v3 => kP S ((some h)) 12 24 (fun v4 => kA S v4 14 l2 (fun v5 => kwA S v3 14 ((12 * l1) + l2) v5 (fun S6 => j63 S6 l1 (l2 + 1))))))) = some (r, S1) := hh
  refine rw_iload_n E (j0 := 2) rfl rfl dX12_image_63 ?_
  refine rw_bipush E (v := 12) (by decide) dX12_image_64 ?_
  refine rw_icmp_ge E hh (tgt := 92) (by decide) dX12_image_66 (fun hh => ?_) (fun hh => ?_)
  · refine rw_aload_n E (j0 := 0) rfl rfl dX12_image_92 ?_
    refine rw_getP E hh (C := RX12) (T := TX12) (N := 32) rfl (by decide) i_X12_image_12 (by decide) rfl (List.mem_of_getElem? (i := 9) (by decide +kernel)) rfl dX12_image_93 (fun v1 hh => ?_)
    refine rw_iload_n E (j0 := 1) rfl rfl dX12_image_96 ?_
    refine rw_iconst E (v := 1) (by decide) dX12_image_97 ?_
    refine rw_zast E hh dX12_image_98 (fun S2 hh => ?_)
    refine rw_iconst E (v := 1) (by decide) dX12_image_99 ?_
    exact rw_iret E hrt hlk hh (by decide) (by decide) dX12_image_100
  · refine rw_aload_n E (j0 := 0) rfl rfl dX12_image_69 ?_
    refine rw_getP E hh (C := RX12) (T := TX12) (N := 32) rfl (by decide) i_X12_image_12 (by decide) rfl (List.mem_of_getElem? (i := 7) (by decide +kernel)) rfl dX12_image_70 (fun v3 hh => ?_)
    refine rw_bipush E (v := 12) (by decide) dX12_image_73 ?_
    refine rw_iload_n E (j0 := 1) rfl rfl dX12_image_75 ?_
    refine rw_imul E dX12_image_76 ?_
    refine rw_iload_n E (j0 := 2) rfl rfl dX12_image_77 ?_
    refine rw_iadd E dX12_image_78 ?_
    refine rw_aload_n E (j0 := 0) rfl rfl dX12_image_79 ?_
    refine rw_getP E hh (C := RX12) (T := TX12) (N := 32) rfl (by decide) i_X12_image_12 (by decide) rfl (List.mem_of_getElem? (i := 8) (by decide +kernel)) rfl dX12_image_80 (fun v4 hh => ?_)
    refine rw_iload_n E (j0 := 2) rfl rfl dX12_image_83 ?_
    refine rw_iald E hh dX12_image_84 (fun v5 hh => ?_)
    refine rw_iast E hh dX12_image_85 (fun S6 hh => ?_)
    refine rw_iinc E (v := l2 + 1) (lv2 := [(2, .int (l2 + 1)), (0, hrf b0 ((some h))), (1, .int l1)]) (j0 := 2) rfl rfl (by decide) rfl dX12_image_86 ?_
    refine rw_goto E (tgt := 63) (by decide) dX12_image_89 ?_
    refine WH.pick [1, 2, 0] rfl ?_
    exact hj63 _ _ _ hh
def s_X12_image_L63 (h : Nat) : Nat → HS → Int32 → Int32 → Option (Int32 × HS)
  | 0 => fun _ _ _ => none
  | n + 1 => s_X12_image_b63 (s_X12_image_L63 h n) h
set_option maxHeartbeats 4000000 in
set_option maxRecDepth 100000 in
theorem w_X12_image_L63 {p : Program} {l : Launch} {e : Env} {s : State} {m : MethodId} {args : Array Value} {below : List Frame} {meth : Method} {c : Code} {b0 : Nat} {G : hG} {S1 : HS} {r : Int32} {h : Nat} (E : hE p s m args c b0 G cX12_image RX12 3 wsX12_image) (hrt : meth.sig.returnType = (some .int)) (hlk : meth.locks = false) : ∀ (n : Nat) (S : HS) (l1 : Int32) (l2 : Int32), s_X12_image_L63 h n S l1 l2 = some (r, S1) → WH p l e rm_X12_image s m args below meth c b0 G 3 0 0 (MQ below (hQ b0 G (some (.int r)) S1) args s 0 0 (hA b0)) S 63 [(0, hrf b0 ((some h))), (1, .int l1), (2, .int l2)] [] := by
  intro n
  induction n with
  | zero => intro _ _ _ hh; exact absurd hh (by simp [s_X12_image_L63])
  | succ n ih => intro _ _ _ hh; exact w_X12_image_b63 E hrt hlk  ih hh
def s_X12_image_b30 (j30 : HS → Int32 → Int32 → Option (Int32 × HS)) (h : Nat) (S : HS) (l1 : Int32) (l2 : Int32) : Option (Int32 × HS) := if 131 ≤ l2 then (s_X12_image_L63 h 100000 S l1 0) else (kP S ((some h)) 12 28 (fun v1 => kP S ((some h)) 12 5 (fun v2 => kA S v2 14 l2 (fun v3 => kwA S v1 14 ((131 * l1) + l2) v3 (fun S4 => j30 S4 l1 (l2 + 1))))))
set_option maxHeartbeats 4000000 in
set_option maxRecDepth 100000 in
theorem w_X12_image_b30 {p : Program} {l : Launch} {e : Env} {s : State} {m : MethodId} {args : Array Value} {below : List Frame} {meth : Method} {c : Code} {b0 : Nat} {G : hG} {S1 : HS} {r : Int32} {j30 : HS → Int32 → Int32 → Option (Int32 × HS)} {h : Nat} {S : HS} {l1 : Int32} {l2 : Int32} (E : hE p s m args c b0 G cX12_image RX12 3 wsX12_image) (hrt : meth.sig.returnType = (some .int)) (hlk : meth.locks = false) (hj30 : ∀ (S : HS) (l1 : Int32) (l2 : Int32), j30 S l1 l2 = some (r, S1) → WH p l e rm_X12_image s m args below meth c b0 G 3 0 0 (MQ below (hQ b0 G (some (.int r)) S1) args s 0 0 (hA b0)) S 30 [(0, hrf b0 ((some h))), (1, .int l1), (2, .int l2)] []) (hh : s_X12_image_b30 j30 h S l1 l2 = some (r, S1)) : WH p l e rm_X12_image s m args below meth c b0 G 3 0 0 (MQ below (hQ b0 G (some (.int r)) S1) args s 0 0 (hA b0)) S 30 [(0, hrf b0 ((some h))), (1, .int l1), (2, .int l2)] [] := by
  have hh : (if 131 ≤ l2 then (s_X12_image_L63 h 100000 S l1 0) else (kP S ((some h)) 12 28 (fun v1 => kP S ((some h)) 12 5 (fun v2 => kA S v2 14 l2 (fun v3 => kwA S v1 14 ((131 * l1) + l2) v3 (fun S4 => j30 S4 l1 (l2 + 1))))))) = some (r, S1) := hh
  refine rw_iload_n E (j0 := 2) rfl rfl dX12_image_30 ?_
  refine rw_sipush E (v := 131) (by decide) dX12_image_31 ?_
  refine rw_icmp_ge E hh (tgt := 61) (by decide) dX12_image_34 (fun hh => ?_) (fun hh => ?_)
  · refine rw_iconst E (v := 0) (by decide) dX12_image_61 ?_
    refine rw_istore_n E (lv2 := [(2, .int 0), (0, hrf b0 ((some h))), (1, .int l1)]) rfl (by decide) rfl dX12_image_62 ?_
    refine WH.pick [1, 2, 0] rfl ?_
    exact w_X12_image_L63 E hrt hlk 100000 _ _ _ hh
  · refine rw_aload_n E (j0 := 0) rfl rfl dX12_image_37 ?_
    refine rw_getP E hh (C := RX12) (T := TX12) (N := 32) rfl (by decide) i_X12_image_12 (by decide) rfl (List.mem_of_getElem? (i := 5) (by decide +kernel)) rfl dX12_image_38 (fun v1 hh => ?_)
    refine rw_sipush E (v := 131) (by decide) dX12_image_41 ?_
    refine rw_iload_n E (j0 := 1) rfl rfl dX12_image_44 ?_
    refine rw_imul E dX12_image_45 ?_
    refine rw_iload_n E (j0 := 2) rfl rfl dX12_image_46 ?_
    refine rw_iadd E dX12_image_47 ?_
    refine rw_aload_n E (j0 := 0) rfl rfl dX12_image_48 ?_
    refine rw_getP E hh (C := RX12) (T := TX12) (N := 32) rfl (by decide) i_X12_image_12 (by decide) rfl (List.mem_of_getElem? (i := 6) (by decide +kernel)) rfl dX12_image_49 (fun v2 hh => ?_)
    refine rw_iload_n E (j0 := 2) rfl rfl dX12_image_52 ?_
    refine rw_iald E hh dX12_image_53 (fun v3 hh => ?_)
    refine rw_iast E hh dX12_image_54 (fun S4 hh => ?_)
    refine rw_iinc E (v := l2 + 1) (lv2 := [(2, .int (l2 + 1)), (0, hrf b0 ((some h))), (1, .int l1)]) (j0 := 2) rfl rfl (by decide) rfl dX12_image_55 ?_
    refine rw_goto E (tgt := 30) (by decide) dX12_image_58 ?_
    refine WH.pick [1, 2, 0] rfl ?_
    exact hj30 _ _ _ hh
def s_X12_image_L30 (h : Nat) : Nat → HS → Int32 → Int32 → Option (Int32 × HS)
  | 0 => fun _ _ _ => none
  | n + 1 => s_X12_image_b30 (s_X12_image_L30 h n) h
set_option maxHeartbeats 4000000 in
set_option maxRecDepth 100000 in
theorem w_X12_image_L30 {p : Program} {l : Launch} {e : Env} {s : State} {m : MethodId} {args : Array Value} {below : List Frame} {meth : Method} {c : Code} {b0 : Nat} {G : hG} {S1 : HS} {r : Int32} {h : Nat} (E : hE p s m args c b0 G cX12_image RX12 3 wsX12_image) (hrt : meth.sig.returnType = (some .int)) (hlk : meth.locks = false) : ∀ (n : Nat) (S : HS) (l1 : Int32) (l2 : Int32), s_X12_image_L30 h n S l1 l2 = some (r, S1) → WH p l e rm_X12_image s m args below meth c b0 G 3 0 0 (MQ below (hQ b0 G (some (.int r)) S1) args s 0 0 (hA b0)) S 30 [(0, hrf b0 ((some h))), (1, .int l1), (2, .int l2)] [] := by
  intro n
  induction n with
  | zero => intro _ _ _ hh; exact absurd hh (by simp [s_X12_image_L30])
  | succ n ih => intro _ _ _ hh; exact w_X12_image_b30 E hrt hlk  ih hh
def s_X12_image (S : HS) (h : Nat) (l1 : Int32) : Option (Int32 × HS) := kwI S ((some h)) 12 0 0 (fun S1 => kc (s_X12_in S1 l1.toInt64 0 1) (fun v3 S2 => if v3 = 0 then (some ((-1000001), S2)) else (kI S2 ((some h)) 12 7 (fun v4 => if v4 = 0 then (some ((-1000002), S2)) else (s_X12_image_L30 h 100000 S2 l1 0)))))
set_option maxHeartbeats 4000000 in
set_option maxRecDepth 100000 in
theorem c_X12_image (l : Launch) (b0 : Nat) (G : hG) (S S1 : HS) (h : Nat) (l1 : Int32) (r : Int32) (hh : s_X12_image S h l1 = some (r, S1)) : MH l yX12_image wsX12_image rm_X12_image b0 G S [hrf b0 (some h), .int l1] (some (.int r)) S1 0 0 := by
  refine MH.ofW (cc := cX12_image) (maxL := 3) (ret := (some .int)) (own := RX12) (lv0 := [(0, hrf b0 ((some h))), (1, .int l1)]) (by decide) rfl rfl (Nat.le_of_ble_eq_true rfl) rfl ?_
  intro p e s m args below meth c E hrt hlk hnm
  have hh : (kwI S ((some h)) 12 0 0 (fun S1 => kc (s_X12_in S1 l1.toInt64 0 1) (fun v3 S2 => if v3 = 0 then (some ((-1000001), S2)) else (kI S2 ((some h)) 12 7 (fun v4 => if v4 = 0 then (some ((-1000002), S2)) else (s_X12_image_L30 h 100000 S2 l1 0)))))) = some (r, S1) := hh
  refine rw_aload_n E (j0 := 0) rfl rfl dX12_image_0 ?_
  refine rw_iconst E (v := 0) (by decide) dX12_image_1 ?_
  refine rw_putI E hh (C := RX12) (T := TX12) (N := 32) (ty0 := tyX12) rfl tyX12_ok nmX12 (by decide) i_X12_image_12 (by decide) rfl (List.mem_of_getElem? (i := 1) (by decide +kernel)) rfl (Or.inl rfl) rfl dX12_image_2 (fun S1 hh => ?_)
  refine rw_iload_n E (j0 := 1) rfl rfl dX12_image_5 ?_
  refine rw_i2l E dX12_image_6 ?_
  refine rw_lconst E (v := 0) (by decide) dX12_image_7 ?_
  refine rw_lconst E (v := 1) (by decide) dX12_image_8 ?_
  refine rw_cSi E (As := [.long l1.toInt64, .long 0, .long 1]) hh (fun _ _ hq => c_X12_in l b0 G _ _ _ _ _ _ hq) (va_cwS 3 E.2.2.2.2.1 gX12_image_X12_in rfl rfl rfl (by decide +kernel) ⟨Nat.le_of_ble_eq_true rfl, Nat.le_of_ble_eq_true rfl⟩) rfl rfl (by (try simp only [List.map_cons, List.map_nil, List.sum_cons, List.sum_nil, hrf_cat, cat_i, cat_l, cat_r]) <;> decide) ⟨Nat.le_of_ble_eq_true rfl, Nat.le_of_ble_eq_true rfl⟩ dX12_image_9 (fun v3 S2 hh => ?_)
  refine rw_if_ne E hh (tgt := 18) (by decide) dX12_image_12 (fun hh => ?_) (fun hh => ?_)
  · refine rw_aload_n E (j0 := 0) rfl rfl dX12_image_18 ?_
    refine rw_getI E hh (C := RX12) (T := TX12) (N := 32) rfl (by decide) i_X12_image_12 (by decide) rfl (List.mem_of_getElem? (i := 3) (by decide +kernel)) rfl dX12_image_19 (fun v4 hh => ?_)
    refine rw_if_ne E hh (tgt := 28) (by decide) dX12_image_22 (fun hh => ?_) (fun hh => ?_)
    · refine rw_iconst E (v := 0) (by decide) dX12_image_28 ?_
      refine rw_istore_n E (lv2 := [(2, .int 0), (0, hrf b0 ((some h))), (1, .int l1)]) rfl (by decide) rfl dX12_image_29 ?_
      refine WH.pick [1, 2, 0] rfl ?_
      exact w_X12_image_L30 E hrt hlk 100000 _ _ _ hh
    · refine rw_ldc E (v := (-1000002)) (List.mem_of_getElem? (i := 4) (by decide +kernel)) dX12_image_25 ?_
      exact rw_iret E hrt hlk hh (by decide) (by decide) dX12_image_27
  · refine rw_ldc E (v := (-1000001)) (List.mem_of_getElem? (i := 2) (by decide +kernel)) dX12_image_15 ?_
    exact rw_iret E hrt hlk hh (by decide) (by decide) dX12_image_17

/-! HummingDiscModel.restore(I)I -/
abbrev rm_X12_restore : Room := { frames := 1, cells := 0, slots := 0, locals := 25 }
theorem i_X12_restore_12 : ∀ w ∈ wsX120, w ∈ wsX12_restore := fun _ h => List.mem_cons_of_mem _ (List.mem_append_right _ (h))
def s_X12_restore_b65 (j65 : HS → Int32 → Int32 → Option (Int32 × HS)) (h : Nat) (S : HS) (l1 : Int32) (l2 : Int32) : Option (Int32 × HS) := if 12 ≤ l2 then (some (1, S)) else (kP S ((some h)) 12 24 (fun v1 => kP S ((some h)) 12 29 (fun v2 => kA S v2 14 ((12 * l1) + l2) (fun v3 => kwA S v1 14 l2 v3 (fun S4 => j65 S4 l1 (l2 + 1))))))
set_option maxHeartbeats 4000000 in
set_option maxRecDepth 100000 in
theorem w_X12_restore_b65 {p : Program} {l : Launch} {e : Env} {s : State} {m : MethodId} {args : Array Value} {below : List Frame} {meth : Method} {c : Code} {b0 : Nat} {G : hG} {S1 : HS} {r : Int32} {j65 : HS → Int32 → Int32 → Option (Int32 × HS)} {h : Nat} {S : HS} {l1 : Int32} {l2 : Int32} (E : hE p s m args c b0 G cX12_restore RX12 3 wsX12_restore) (hrt : meth.sig.returnType = (some .int)) (hlk : meth.locks = false) (hj65 : ∀ (S : HS) (l1 : Int32) (l2 : Int32), j65 S l1 l2 = some (r, S1) → WH p l e rm_X12_restore s m args below meth c b0 G 3 0 0 (MQ below (hQ b0 G (some (.int r)) S1) args s 0 0 (hA b0)) S 65 [(0, hrf b0 ((some h))), (1, .int l1), (2, .int l2)] []) (hh : s_X12_restore_b65 j65 h S l1 l2 = some (r, S1)) : WH p l e rm_X12_restore s m args below meth c b0 G 3 0 0 (MQ below (hQ b0 G (some (.int r)) S1) args s 0 0 (hA b0)) S 65 [(0, hrf b0 ((some h))), (1, .int l1), (2, .int l2)] [] := by
  have hh : (if 12 ≤ l2 then (some (1, S)) else (kP S ((some h)) 12 24 (fun v1 => kP S ((some h)) 12 29 (fun v2 => kA S v2 14 ((12 * l1) + l2) (fun v3 => kwA S v1 14 l2 v3 (fun S4 => j65 S4 l1 (l2 + 1))))))) = some (r, S1) := hh
  refine rw_iload_n E (j0 := 2) rfl rfl dX12_restore_65 ?_
  refine rw_bipush E (v := 12) (by decide) dX12_restore_66 ?_
  refine rw_icmp_ge E hh (tgt := 94) (by decide) dX12_restore_68 (fun hh => ?_) (fun hh => ?_)
  · refine rw_iconst E (v := 1) (by decide) dX12_restore_94 ?_
    exact rw_iret E hrt hlk hh (by decide) (by decide) dX12_restore_95
  · refine rw_aload_n E (j0 := 0) rfl rfl dX12_restore_71 ?_
    refine rw_getP E hh (C := RX12) (T := TX12) (N := 32) rfl (by decide) i_X12_restore_12 (by decide) rfl (List.mem_of_getElem? (i := 7) (by decide +kernel)) rfl dX12_restore_72 (fun v1 hh => ?_)
    refine rw_iload_n E (j0 := 2) rfl rfl dX12_restore_75 ?_
    refine rw_aload_n E (j0 := 0) rfl rfl dX12_restore_76 ?_
    refine rw_getP E hh (C := RX12) (T := TX12) (N := 32) rfl (by decide) i_X12_restore_12 (by decide) rfl (List.mem_of_getElem? (i := 8) (by decide +kernel)) rfl dX12_restore_77 (fun v2 hh => ?_)
    refine rw_bipush E (v := 12) (by decide) dX12_restore_80 ?_
    refine rw_iload_n E (j0 := 1) rfl rfl dX12_restore_82 ?_
    refine rw_imul E dX12_restore_83 ?_
    refine rw_iload_n E (j0 := 2) rfl rfl dX12_restore_84 ?_
    refine rw_iadd E dX12_restore_85 ?_
    refine rw_iald E hh dX12_restore_86 (fun v3 hh => ?_)
    refine rw_iast E hh dX12_restore_87 (fun S4 hh => ?_)
    refine rw_iinc E (v := l2 + 1) (lv2 := [(2, .int (l2 + 1)), (0, hrf b0 ((some h))), (1, .int l1)]) (j0 := 2) rfl rfl (by decide) rfl dX12_restore_88 ?_
    refine rw_goto E (tgt := 65) (by decide) dX12_restore_91 ?_
    refine WH.pick [1, 2, 0] rfl ?_
    exact hj65 _ _ _ hh
def s_X12_restore_L65 (h : Nat) : Nat → HS → Int32 → Int32 → Option (Int32 × HS)
  | 0 => fun _ _ _ => none
  | n + 1 => s_X12_restore_b65 (s_X12_restore_L65 h n) h
set_option maxHeartbeats 4000000 in
set_option maxRecDepth 100000 in
theorem w_X12_restore_L65 {p : Program} {l : Launch} {e : Env} {s : State} {m : MethodId} {args : Array Value} {below : List Frame} {meth : Method} {c : Code} {b0 : Nat} {G : hG} {S1 : HS} {r : Int32} {h : Nat} (E : hE p s m args c b0 G cX12_restore RX12 3 wsX12_restore) (hrt : meth.sig.returnType = (some .int)) (hlk : meth.locks = false) : ∀ (n : Nat) (S : HS) (l1 : Int32) (l2 : Int32), s_X12_restore_L65 h n S l1 l2 = some (r, S1) → WH p l e rm_X12_restore s m args below meth c b0 G 3 0 0 (MQ below (hQ b0 G (some (.int r)) S1) args s 0 0 (hA b0)) S 65 [(0, hrf b0 ((some h))), (1, .int l1), (2, .int l2)] [] := by
  intro n
  induction n with
  | zero => intro _ _ _ hh; exact absurd hh (by simp [s_X12_restore_L65])
  | succ n ih => intro _ _ _ hh; exact w_X12_restore_b65 E hrt hlk  ih hh
def s_X12_restore_b32 (j32 : HS → Int32 → Int32 → Option (Int32 × HS)) (h : Nat) (S : HS) (l1 : Int32) (l2 : Int32) : Option (Int32 × HS) := if 131 ≤ l2 then (s_X12_restore_L65 h 100000 S l1 0) else (kP S ((some h)) 12 5 (fun v1 => kP S ((some h)) 12 28 (fun v2 => kA S v2 14 ((131 * l1) + l2) (fun v3 => kwA S v1 14 l2 v3 (fun S4 => j32 S4 l1 (l2 + 1))))))
set_option maxHeartbeats 4000000 in
set_option maxRecDepth 100000 in
theorem w_X12_restore_b32 {p : Program} {l : Launch} {e : Env} {s : State} {m : MethodId} {args : Array Value} {below : List Frame} {meth : Method} {c : Code} {b0 : Nat} {G : hG} {S1 : HS} {r : Int32} {j32 : HS → Int32 → Int32 → Option (Int32 × HS)} {h : Nat} {S : HS} {l1 : Int32} {l2 : Int32} (E : hE p s m args c b0 G cX12_restore RX12 3 wsX12_restore) (hrt : meth.sig.returnType = (some .int)) (hlk : meth.locks = false) (hj32 : ∀ (S : HS) (l1 : Int32) (l2 : Int32), j32 S l1 l2 = some (r, S1) → WH p l e rm_X12_restore s m args below meth c b0 G 3 0 0 (MQ below (hQ b0 G (some (.int r)) S1) args s 0 0 (hA b0)) S 32 [(0, hrf b0 ((some h))), (1, .int l1), (2, .int l2)] []) (hh : s_X12_restore_b32 j32 h S l1 l2 = some (r, S1)) : WH p l e rm_X12_restore s m args below meth c b0 G 3 0 0 (MQ below (hQ b0 G (some (.int r)) S1) args s 0 0 (hA b0)) S 32 [(0, hrf b0 ((some h))), (1, .int l1), (2, .int l2)] [] := by
  have hh : (if 131 ≤ l2 then (s_X12_restore_L65 h 100000 S l1 0) else (kP S ((some h)) 12 5 (fun v1 => kP S ((some h)) 12 28 (fun v2 => kA S v2 14 ((131 * l1) + l2) (fun v3 => kwA S v1 14 l2 v3 (fun S4 => j32 S4 l1 (l2 + 1))))))) = some (r, S1) := hh
  refine rw_iload_n E (j0 := 2) rfl rfl dX12_restore_32 ?_
  refine rw_sipush E (v := 131) (by decide) dX12_restore_33 ?_
  refine rw_icmp_ge E hh (tgt := 63) (by decide) dX12_restore_36 (fun hh => ?_) (fun hh => ?_)
  · refine rw_iconst E (v := 0) (by decide) dX12_restore_63 ?_
    refine rw_istore_n E (lv2 := [(2, .int 0), (0, hrf b0 ((some h))), (1, .int l1)]) rfl (by decide) rfl dX12_restore_64 ?_
    refine WH.pick [1, 2, 0] rfl ?_
    exact w_X12_restore_L65 E hrt hlk 100000 _ _ _ hh
  · refine rw_aload_n E (j0 := 0) rfl rfl dX12_restore_39 ?_
    refine rw_getP E hh (C := RX12) (T := TX12) (N := 32) rfl (by decide) i_X12_restore_12 (by decide) rfl (List.mem_of_getElem? (i := 5) (by decide +kernel)) rfl dX12_restore_40 (fun v1 hh => ?_)
    refine rw_iload_n E (j0 := 2) rfl rfl dX12_restore_43 ?_
    refine rw_aload_n E (j0 := 0) rfl rfl dX12_restore_44 ?_
    refine rw_getP E hh (C := RX12) (T := TX12) (N := 32) rfl (by decide) i_X12_restore_12 (by decide) rfl (List.mem_of_getElem? (i := 6) (by decide +kernel)) rfl dX12_restore_45 (fun v2 hh => ?_)
    refine rw_sipush E (v := 131) (by decide) dX12_restore_48 ?_
    refine rw_iload_n E (j0 := 1) rfl rfl dX12_restore_51 ?_
    refine rw_imul E dX12_restore_52 ?_
    refine rw_iload_n E (j0 := 2) rfl rfl dX12_restore_53 ?_
    refine rw_iadd E dX12_restore_54 ?_
    refine rw_iald E hh dX12_restore_55 (fun v3 hh => ?_)
    refine rw_iast E hh dX12_restore_56 (fun S4 hh => ?_)
    refine rw_iinc E (v := l2 + 1) (lv2 := [(2, .int (l2 + 1)), (0, hrf b0 ((some h))), (1, .int l1)]) (j0 := 2) rfl rfl (by decide) rfl dX12_restore_57 ?_
    refine rw_goto E (tgt := 32) (by decide) dX12_restore_60 ?_
    refine WH.pick [1, 2, 0] rfl ?_
    exact hj32 _ _ _ hh
def s_X12_restore_L32 (h : Nat) : Nat → HS → Int32 → Int32 → Option (Int32 × HS)
  | 0 => fun _ _ _ => none
  | n + 1 => s_X12_restore_b32 (s_X12_restore_L32 h n) h
set_option maxHeartbeats 4000000 in
set_option maxRecDepth 100000 in
theorem w_X12_restore_L32 {p : Program} {l : Launch} {e : Env} {s : State} {m : MethodId} {args : Array Value} {below : List Frame} {meth : Method} {c : Code} {b0 : Nat} {G : hG} {S1 : HS} {r : Int32} {h : Nat} (E : hE p s m args c b0 G cX12_restore RX12 3 wsX12_restore) (hrt : meth.sig.returnType = (some .int)) (hlk : meth.locks = false) : ∀ (n : Nat) (S : HS) (l1 : Int32) (l2 : Int32), s_X12_restore_L32 h n S l1 l2 = some (r, S1) → WH p l e rm_X12_restore s m args below meth c b0 G 3 0 0 (MQ below (hQ b0 G (some (.int r)) S1) args s 0 0 (hA b0)) S 32 [(0, hrf b0 ((some h))), (1, .int l1), (2, .int l2)] [] := by
  intro n
  induction n with
  | zero => intro _ _ _ hh; exact absurd hh (by simp [s_X12_restore_L32])
  | succ n ih => intro _ _ _ hh; exact w_X12_restore_b32 E hrt hlk  ih hh
def s_X12_restore (S : HS) (h : Nat) (l1 : Int32) : Option (Int32 × HS) := kwI S ((some h)) 12 0 0 (fun S1 => kc (s_X12_in S1 l1.toInt64 0 1) (fun v3 S2 => if v3 = 0 then (some ((-1000001), S2)) else (kP S2 ((some h)) 12 27 (fun v4 => kA S2 v4 15 l1 (fun v5 => if v5 = 0 then (some ((-1000002), S2)) else (s_X12_restore_L32 h 100000 S2 l1 0))))))
set_option maxHeartbeats 4000000 in
set_option maxRecDepth 100000 in
theorem c_X12_restore (l : Launch) (b0 : Nat) (G : hG) (S S1 : HS) (h : Nat) (l1 : Int32) (r : Int32) (hh : s_X12_restore S h l1 = some (r, S1)) : MH l yX12_restore wsX12_restore rm_X12_restore b0 G S [hrf b0 (some h), .int l1] (some (.int r)) S1 0 0 := by
  refine MH.ofW (cc := cX12_restore) (maxL := 3) (ret := (some .int)) (own := RX12) (lv0 := [(0, hrf b0 ((some h))), (1, .int l1)]) (by decide) rfl rfl (Nat.le_of_ble_eq_true rfl) rfl ?_
  intro p e s m args below meth c E hrt hlk hnm
  have hh : (kwI S ((some h)) 12 0 0 (fun S1 => kc (s_X12_in S1 l1.toInt64 0 1) (fun v3 S2 => if v3 = 0 then (some ((-1000001), S2)) else (kP S2 ((some h)) 12 27 (fun v4 => kA S2 v4 15 l1 (fun v5 => if v5 = 0 then (some ((-1000002), S2)) else (s_X12_restore_L32 h 100000 S2 l1 0))))))) = some (r, S1) := hh
  refine rw_aload_n E (j0 := 0) rfl rfl dX12_restore_0 ?_
  refine rw_iconst E (v := 0) (by decide) dX12_restore_1 ?_
  refine rw_putI E hh (C := RX12) (T := TX12) (N := 32) (ty0 := tyX12) rfl tyX12_ok nmX12 (by decide) i_X12_restore_12 (by decide) rfl (List.mem_of_getElem? (i := 1) (by decide +kernel)) rfl (Or.inl rfl) rfl dX12_restore_2 (fun S1 hh => ?_)
  refine rw_iload_n E (j0 := 1) rfl rfl dX12_restore_5 ?_
  refine rw_i2l E dX12_restore_6 ?_
  refine rw_lconst E (v := 0) (by decide) dX12_restore_7 ?_
  refine rw_lconst E (v := 1) (by decide) dX12_restore_8 ?_
  refine rw_cSi E (As := [.long l1.toInt64, .long 0, .long 1]) hh (fun _ _ hq => c_X12_in l b0 G _ _ _ _ _ _ hq) (va_cwS 3 E.2.2.2.2.1 gX12_restore_X12_in rfl rfl rfl (by decide +kernel) ⟨Nat.le_of_ble_eq_true rfl, Nat.le_of_ble_eq_true rfl⟩) rfl rfl (by (try simp only [List.map_cons, List.map_nil, List.sum_cons, List.sum_nil, hrf_cat, cat_i, cat_l, cat_r]) <;> decide) ⟨Nat.le_of_ble_eq_true rfl, Nat.le_of_ble_eq_true rfl⟩ dX12_restore_9 (fun v3 S2 hh => ?_)
  refine rw_if_ne E hh (tgt := 18) (by decide) dX12_restore_12 (fun hh => ?_) (fun hh => ?_)
  · refine rw_aload_n E (j0 := 0) rfl rfl dX12_restore_18 ?_
    refine rw_getP E hh (C := RX12) (T := TX12) (N := 32) rfl (by decide) i_X12_restore_12 (by decide) rfl (List.mem_of_getElem? (i := 3) (by decide +kernel)) rfl dX12_restore_19 (fun v4 hh => ?_)
    refine rw_iload_n E (j0 := 1) rfl rfl dX12_restore_22 ?_
    refine rw_zald E hh dX12_restore_23 (fun v5 hh => ?_)
    refine rw_if_ne E hh (tgt := 30) (by decide) dX12_restore_24 (fun hh => ?_) (fun hh => ?_)
    · refine rw_iconst E (v := 0) (by decide) dX12_restore_30 ?_
      refine rw_istore_n E (lv2 := [(2, .int 0), (0, hrf b0 ((some h))), (1, .int l1)]) rfl (by decide) rfl dX12_restore_31 ?_
      refine WH.pick [1, 2, 0] rfl ?_
      exact w_X12_restore_L32 E hrt hlk 100000 _ _ _ hh
    · refine rw_ldc E (v := (-1000002)) (List.mem_of_getElem? (i := 4) (by decide +kernel)) dX12_restore_27 ?_
      exact rw_iret E hrt hlk hh (by decide) (by decide) dX12_restore_29
  · refine rw_ldc E (v := (-1000001)) (List.mem_of_getElem? (i := 2) (by decide +kernel)) dX12_restore_15 ?_
    exact rw_iret E hrt hlk hh (by decide) (by decide) dX12_restore_17

/-! HummingDiscModel.isOf(II)Z -/
abbrev rm_X12_isOf : Room := { frames := 0, cells := 0, slots := 0, locals := 0 }
def s_X12_isOf_b29 (S : HS) : Option (Int32 × HS) := kzr 1 S
set_option maxHeartbeats 4000000 in
set_option maxRecDepth 100000 in
theorem w_X12_isOf_b29 {p : Program} {l : Launch} {e : Env} {s : State} {m : MethodId} {args : Array Value} {below : List Frame} {meth : Method} {c : Code} {b0 : Nat} {G : hG} {S1 : HS} {r : Int32} {S : HS} (E : hE p s m args c b0 G cX12_isOf RX12 2 wsX12_isOf) (hrt : meth.sig.returnType = (some .boolean)) (hlk : meth.locks = false) (hh : s_X12_isOf_b29  S = some (r, S1)) : WH p l e rm_X12_isOf s m args below meth c b0 G 2 0 0 (MQ below (hQ b0 G (some (.int r)) S1) args s 0 0 (hA b0)) S 29 [] [] := by
  have hh : (kzr 1 S) = some (r, S1) := hh
  refine rw_iconst E (v := 1) (by decide) dX12_isOf_29 ?_
  refine rw_goto E (tgt := 34) (by decide) dX12_isOf_30 ?_
  exact rw_zret E hrt hlk hh (by decide) (by decide) dX12_isOf_34
def s_X12_isOf_b19 (S : HS) (l0 : Int32) (l1 : Int32) : Option (Int32 × HS) := if l1 = 3 then (if l0 = 5 then (s_X12_isOf_b29 S) else (kzr 0 S)) else (kzr 0 S)
set_option maxHeartbeats 4000000 in
set_option maxRecDepth 100000 in
theorem w_X12_isOf_b19 {p : Program} {l : Launch} {e : Env} {s : State} {m : MethodId} {args : Array Value} {below : List Frame} {meth : Method} {c : Code} {b0 : Nat} {G : hG} {S1 : HS} {r : Int32} {S : HS} {l0 : Int32} {l1 : Int32} (E : hE p s m args c b0 G cX12_isOf RX12 2 wsX12_isOf) (hrt : meth.sig.returnType = (some .boolean)) (hlk : meth.locks = false) (hh : s_X12_isOf_b19  S l0 l1 = some (r, S1)) : WH p l e rm_X12_isOf s m args below meth c b0 G 2 0 0 (MQ below (hQ b0 G (some (.int r)) S1) args s 0 0 (hA b0)) S 19 [(0, .int l0), (1, .int l1)] [] := by
  have hh : (if l1 = 3 then (if l0 = 5 then (s_X12_isOf_b29 S) else (kzr 0 S)) else (kzr 0 S)) = some (r, S1) := hh
  refine rw_iload_n E (j0 := 1) rfl rfl dX12_isOf_19 ?_
  refine rw_iconst E (v := 3) (by decide) dX12_isOf_20 ?_
  refine rw_icmp_ne E hh (tgt := 33) (by decide) dX12_isOf_21 (fun hh => ?_) (fun hh => ?_)
  · refine rw_iconst E (v := 0) (by decide) dX12_isOf_33 ?_
    exact rw_zret E hrt hlk hh (by decide) (by decide) dX12_isOf_34
  · refine rw_iload_n E (j0 := 0) rfl rfl dX12_isOf_24 ?_
    refine rw_iconst E (v := 5) (by decide) dX12_isOf_25 ?_
    refine rw_icmp_ne E hh (tgt := 33) (by decide) dX12_isOf_26 (fun hh => ?_) (fun hh => ?_)
    · refine rw_iconst E (v := 0) (by decide) dX12_isOf_33 ?_
      exact rw_zret E hrt hlk hh (by decide) (by decide) dX12_isOf_34
    · refine WH.pick [] rfl ?_
      exact w_X12_isOf_b29 E hrt hlk hh
def s_X12_isOf (S : HS) (l0 : Int32) (l1 : Int32) : Option (Int32 × HS) := if l1 = 0 then (s_X12_isOf_b29 S) else (if l0 = l1 then (s_X12_isOf_b29 S) else (if l1 = 2 then (if l0 = 4 then (s_X12_isOf_b29 S) else (s_X12_isOf_b19 S l0 l1)) else (s_X12_isOf_b19 S l0 l1)))
set_option maxHeartbeats 4000000 in
set_option maxRecDepth 100000 in
theorem c_X12_isOf (l : Launch) (b0 : Nat) (G : hG) (S S1 : HS) (l0 : Int32) (l1 : Int32) (r : Int32) (hh : s_X12_isOf S l0 l1 = some (r, S1)) : MH l yX12_isOf wsX12_isOf rm_X12_isOf b0 G S [.int l0, .int l1] (some (.int r)) S1 0 0 := by
  refine MH.ofW (cc := cX12_isOf) (maxL := 2) (ret := (some .boolean)) (own := RX12) (lv0 := [(0, .int l0), (1, .int l1)]) (by decide) rfl rfl (Nat.le_of_ble_eq_true rfl) rfl ?_
  intro p e s m args below meth c E hrt hlk hnm
  have hh : (if l1 = 0 then (s_X12_isOf_b29 S) else (if l0 = l1 then (s_X12_isOf_b29 S) else (if l1 = 2 then (if l0 = 4 then (s_X12_isOf_b29 S) else (s_X12_isOf_b19 S l0 l1)) else (s_X12_isOf_b19 S l0 l1)))) = some (r, S1) := hh
  refine rw_iload_n E (j0 := 1) rfl rfl dX12_isOf_0 ?_
  refine rw_if_eq E hh (tgt := 29) (by decide) dX12_isOf_1 (fun hh => ?_) (fun hh => ?_)
  · refine WH.pick [] rfl ?_
    exact w_X12_isOf_b29 E hrt hlk hh
  · refine rw_iload_n E (j0 := 0) rfl rfl dX12_isOf_4 ?_
    refine rw_iload_n E (j0 := 1) rfl rfl dX12_isOf_5 ?_
    refine rw_icmp_eq E hh (tgt := 29) (by decide) dX12_isOf_6 (fun hh => ?_) (fun hh => ?_)
    · refine WH.pick [] rfl ?_
      exact w_X12_isOf_b29 E hrt hlk hh
    · refine rw_iload_n E (j0 := 1) rfl rfl dX12_isOf_9 ?_
      refine rw_iconst E (v := 2) (by decide) dX12_isOf_10 ?_
      refine rw_icmp_ne E hh (tgt := 19) (by decide) dX12_isOf_11 (fun hh => ?_) (fun hh => ?_)
      · refine WH.pick [0, 1] rfl ?_
        exact w_X12_isOf_b19 E hrt hlk hh
      · refine rw_iload_n E (j0 := 0) rfl rfl dX12_isOf_14 ?_
        refine rw_iconst E (v := 4) (by decide) dX12_isOf_15 ?_
        refine rw_icmp_eq E hh (tgt := 29) (by decide) dX12_isOf_16 (fun hh => ?_) (fun hh => ?_)
        · refine WH.pick [] rfl ?_
          exact w_X12_isOf_b29 E hrt hlk hh
        · refine WH.pick [0, 1] rfl ?_
          exact w_X12_isOf_b19 E hrt hlk hh

/-! HummingDiscModel.kindNow()I -/
abbrev rm_X12_kindNow : Room := { frames := 1, cells := 0, slots := 0, locals := 22 }
theorem i_X12_kindNow_12 : ∀ w ∈ wsX120, w ∈ wsX12_kindNow := fun _ h => List.mem_cons_of_mem _ (List.mem_append_right _ (h))
def s_X12_kindNow_b49 (h : Nat) (S : HS) : Option (Int32 × HS) := some (1, S)
set_option maxHeartbeats 4000000 in
set_option maxRecDepth 100000 in
theorem w_X12_kindNow_b49 {p : Program} {l : Launch} {e : Env} {s : State} {m : MethodId} {args : Array Value} {below : List Frame} {meth : Method} {c : Code} {b0 : Nat} {G : hG} {S1 : HS} {r : Int32} {h : Nat} {S : HS} (E : hE p s m args c b0 G cX12_kindNow RX12 3 wsX12_kindNow) (hrt : meth.sig.returnType = (some .int)) (hlk : meth.locks = false) (hh : s_X12_kindNow_b49 h S = some (r, S1)) : WH p l e rm_X12_kindNow s m args below meth c b0 G 3 0 0 (MQ below (hQ b0 G (some (.int r)) S1) args s 0 0 (hA b0)) S 49 [] [] := by
  have hh : (some (1, S)) = some (r, S1) := hh
  refine rw_iconst E (v := 1) (by decide) dX12_kindNow_49 ?_
  refine rw_goto E (tgt := 76) (by decide) dX12_kindNow_50 ?_
  exact rw_iret E hrt hlk hh (by decide) (by decide) dX12_kindNow_76
def s_X12_kindNow_b53 (h : Nat) (S : HS) (l1 : Int32) : Option (Int32 × HS) := kc (s_X12_size S l1) (fun v2 S1 => kP S1 ((some h)) 12 24 (fun v3 => kA S1 v3 14 2 (fun v4 => kO S1 ((some h)) 12 (fun a7 => kc (s_X12_threadOf S1 a7 v4 1) (fun v6 S5 => if v2 ≤ v6 then (some (2, S5)) else (some (4, S5)))))))
set_option maxHeartbeats 4000000 in
set_option maxRecDepth 100000 in
theorem w_X12_kindNow_b53 {p : Program} {l : Launch} {e : Env} {s : State} {m : MethodId} {args : Array Value} {below : List Frame} {meth : Method} {c : Code} {b0 : Nat} {G : hG} {S1 : HS} {r : Int32} {h : Nat} {S : HS} {l1 : Int32} (E : hE p s m args c b0 G cX12_kindNow RX12 3 wsX12_kindNow) (hrt : meth.sig.returnType = (some .int)) (hlk : meth.locks = false) (hh : s_X12_kindNow_b53 h S l1 = some (r, S1)) : WH p l e rm_X12_kindNow s m args below meth c b0 G 3 0 0 (MQ below (hQ b0 G (some (.int r)) S1) args s 0 0 (hA b0)) S 53 [(0, hrf b0 ((some h))), (1, .int l1)] [] := by
  have hh : (kc (s_X12_size S l1) (fun v2 S1 => kP S1 ((some h)) 12 24 (fun v3 => kA S1 v3 14 2 (fun v4 => kO S1 ((some h)) 12 (fun a7 => kc (s_X12_threadOf S1 a7 v4 1) (fun v6 S5 => if v2 ≤ v6 then (some (2, S5)) else (some (4, S5)))))))) = some (r, S1) := hh
  refine rw_iload_n E (j0 := 1) rfl rfl dX12_kindNow_53 ?_
  refine rw_cSi E (As := [.int l1]) hh (fun _ _ hq => c_X12_size l b0 G _ _ _ _ hq) (va_cwS 1 E.2.2.2.2.1 gX12_kindNow_X12_size rfl rfl rfl (by decide +kernel) ⟨Nat.le_of_ble_eq_true rfl, Nat.le_of_ble_eq_true rfl⟩) rfl rfl (by (try simp only [List.map_cons, List.map_nil, List.sum_cons, List.sum_nil, hrf_cat, cat_i, cat_l, cat_r]) <;> decide) ⟨Nat.le_of_ble_eq_true rfl, Nat.le_of_ble_eq_true rfl⟩ dX12_kindNow_54 (fun v2 S1 hh => ?_)
  refine rw_aload_n E (j0 := 0) rfl rfl dX12_kindNow_57 ?_
  refine rw_aload_n E (j0 := 0) rfl rfl dX12_kindNow_58 ?_
  refine rw_getP E hh (C := RX12) (T := TX12) (N := 32) rfl (by decide) i_X12_kindNow_12 (by decide) rfl (List.mem_of_getElem? (i := 1) (by decide +kernel)) rfl dX12_kindNow_59 (fun v3 hh => ?_)
  refine rw_iconst E (v := 2) (by decide) dX12_kindNow_62 ?_
  refine rw_iald E hh dX12_kindNow_63 (fun v4 hh => ?_)
  refine rw_iconst E (v := 1) (by decide) dX12_kindNow_64 ?_
  refine rw_cVi E (As := [.int v4, .int 1]) hh (by decide) rfl (fun _ _ _ hq => c_X12_threadOf l b0 G _ _ _ _ _ _ hq) (cwV 2 E.2.2.2.2.1 gX12_kindNow_X12_threadOf rfl rfl rfl (by decide +kernel) ⟨Nat.le_of_ble_eq_true rfl, Nat.le_of_ble_eq_true rfl⟩) rfl rfl (by (try simp only [List.map_cons, List.map_nil, List.sum_cons, List.sum_nil, hrf_cat, cat_i, cat_l, cat_r]) <;> decide) ⟨Nat.le_of_ble_eq_true rfl, Nat.le_of_ble_eq_true rfl⟩ dX12_kindNow_65 (fun v6 S5 hh => ?_)
  refine rw_icmp_le E hh (tgt := 75) (by decide) dX12_kindNow_68 (fun hh => ?_) (fun hh => ?_)
  · refine rw_iconst E (v := 2) (by decide) dX12_kindNow_75 ?_
    exact rw_iret E hrt hlk hh (by decide) (by decide) dX12_kindNow_76
  · refine rw_iconst E (v := 4) (by decide) dX12_kindNow_71 ?_
    refine rw_goto E (tgt := 76) (by decide) dX12_kindNow_72 ?_
    exact rw_iret E hrt hlk hh (by decide) (by decide) dX12_kindNow_76
def s_X12_kindNow_b41 (h : Nat) (S : HS) (l1 : Int32) (l2 : Int32) : Option (Int32 × HS) := if l2 ≤ 0 then (s_X12_kindNow_b53 h S l1) else (if 0 ≤ l1 then (s_X12_kindNow_b53 h S l1) else (s_X12_kindNow_b49 h S))
set_option maxHeartbeats 4000000 in
set_option maxRecDepth 100000 in
theorem w_X12_kindNow_b41 {p : Program} {l : Launch} {e : Env} {s : State} {m : MethodId} {args : Array Value} {below : List Frame} {meth : Method} {c : Code} {b0 : Nat} {G : hG} {S1 : HS} {r : Int32} {h : Nat} {S : HS} {l1 : Int32} {l2 : Int32} (E : hE p s m args c b0 G cX12_kindNow RX12 3 wsX12_kindNow) (hrt : meth.sig.returnType = (some .int)) (hlk : meth.locks = false) (hh : s_X12_kindNow_b41 h S l1 l2 = some (r, S1)) : WH p l e rm_X12_kindNow s m args below meth c b0 G 3 0 0 (MQ below (hQ b0 G (some (.int r)) S1) args s 0 0 (hA b0)) S 41 [(0, hrf b0 ((some h))), (1, .int l1), (2, .int l2)] [] := by
  have hh : (if l2 ≤ 0 then (s_X12_kindNow_b53 h S l1) else (if 0 ≤ l1 then (s_X12_kindNow_b53 h S l1) else (s_X12_kindNow_b49 h S))) = some (r, S1) := hh
  refine rw_iload_n E (j0 := 2) rfl rfl dX12_kindNow_41 ?_
  refine rw_if_le E hh (tgt := 53) (by decide) dX12_kindNow_42 (fun hh => ?_) (fun hh => ?_)
  · refine WH.pick [0, 1] rfl ?_
    exact w_X12_kindNow_b53 E hrt hlk hh
  · refine rw_iload_n E (j0 := 1) rfl rfl dX12_kindNow_45 ?_
    refine rw_if_ge E hh (tgt := 53) (by decide) dX12_kindNow_46 (fun hh => ?_) (fun hh => ?_)
    · refine WH.pick [0, 1] rfl ?_
      exact w_X12_kindNow_b53 E hrt hlk hh
    · refine WH.pick [] rfl ?_
      exact w_X12_kindNow_b49 E hrt hlk hh
def s_X12_kindNow (S : HS) (h : Nat) : Option (Int32 × HS) := kP S ((some h)) 12 24 (fun v1 => kA S v1 14 4 (fun v2 => kP S ((some h)) 12 24 (fun v3 => kA S v3 14 5 (fun v4 => kP S ((some h)) 12 24 (fun v5 => kA S v5 14 7 (fun v6 => if v6 = 1 then (some (5, S)) else (if v4 = 0 then (some (3, S)) else (if 0 ≤ v4 then (s_X12_kindNow_b41 h S v2 v4) else (if 0 < v2 then (s_X12_kindNow_b49 h S) else (s_X12_kindNow_b41 h S v2 v4))))))))))
set_option maxHeartbeats 4000000 in
set_option maxRecDepth 100000 in
theorem c_X12_kindNow (l : Launch) (b0 : Nat) (G : hG) (S S1 : HS) (h : Nat) (r : Int32) (hh : s_X12_kindNow S h  = some (r, S1)) : MH l yX12_kindNow wsX12_kindNow rm_X12_kindNow b0 G S [hrf b0 (some h)] (some (.int r)) S1 0 0 := by
  refine MH.ofW (cc := cX12_kindNow) (maxL := 3) (ret := (some .int)) (own := RX12) (lv0 := [(0, hrf b0 ((some h)))]) (by decide) rfl rfl (Nat.le_of_ble_eq_true rfl) rfl ?_
  intro p e s m args below meth c E hrt hlk hnm
  have hh : (kP S ((some h)) 12 24 (fun v1 => kA S v1 14 4 (fun v2 => kP S ((some h)) 12 24 (fun v3 => kA S v3 14 5 (fun v4 => kP S ((some h)) 12 24 (fun v5 => kA S v5 14 7 (fun v6 => if v6 = 1 then (some (5, S)) else (if v4 = 0 then (some (3, S)) else (if 0 ≤ v4 then (s_X12_kindNow_b41 h S v2 v4) else (if 0 < v2 then (s_X12_kindNow_b49 h S) else (s_X12_kindNow_b41 h S v2 v4))))))))))) = some (r, S1) := hh
  refine rw_aload_n E (j0 := 0) rfl rfl dX12_kindNow_0 ?_
  refine rw_getP E hh (C := RX12) (T := TX12) (N := 32) rfl (by decide) i_X12_kindNow_12 (by decide) rfl (List.mem_of_getElem? (i := 1) (by decide +kernel)) rfl dX12_kindNow_1 (fun v1 hh => ?_)
  refine rw_iconst E (v := 4) (by decide) dX12_kindNow_4 ?_
  refine rw_iald E hh dX12_kindNow_5 (fun v2 hh => ?_)
  refine rw_istore_n E (lv2 := [(1, .int v2), (0, hrf b0 ((some h)))]) rfl (by decide) rfl dX12_kindNow_6 ?_
  refine rw_aload_n E (j0 := 1) rfl rfl dX12_kindNow_7 ?_
  refine rw_getP E hh (C := RX12) (T := TX12) (N := 32) rfl (by decide) i_X12_kindNow_12 (by decide) rfl (List.mem_of_getElem? (i := 1) (by decide +kernel)) rfl dX12_kindNow_8 (fun v3 hh => ?_)
  refine rw_iconst E (v := 5) (by decide) dX12_kindNow_11 ?_
  refine rw_iald E hh dX12_kindNow_12 (fun v4 hh => ?_)
  refine rw_istore_n E (lv2 := [(2, .int v4), (1, .int v2), (0, hrf b0 ((some h)))]) rfl (by decide) rfl dX12_kindNow_13 ?_
  refine rw_aload_n E (j0 := 2) rfl rfl dX12_kindNow_14 ?_
  refine rw_getP E hh (C := RX12) (T := TX12) (N := 32) rfl (by decide) i_X12_kindNow_12 (by decide) rfl (List.mem_of_getElem? (i := 1) (by decide +kernel)) rfl dX12_kindNow_15 (fun v5 hh => ?_)
  refine rw_bipush E (v := 7) (by decide) dX12_kindNow_18 ?_
  refine rw_iald E hh dX12_kindNow_20 (fun v6 hh => ?_)
  refine rw_iconst E (v := 1) (by decide) dX12_kindNow_21 ?_
  refine rw_icmp_ne E hh (tgt := 27) (by decide) dX12_kindNow_22 (fun hh => ?_) (fun hh => ?_)
  · refine rw_iload_n E (j0 := 0) rfl rfl dX12_kindNow_27 ?_
    refine rw_if_ne E hh (tgt := 33) (by decide) dX12_kindNow_28 (fun hh => ?_) (fun hh => ?_)
    · refine rw_iload_n E (j0 := 0) rfl rfl dX12_kindNow_33 ?_
      refine rw_if_ge E hh (tgt := 41) (by decide) dX12_kindNow_34 (fun hh => ?_) (fun hh => ?_)
      · refine WH.pick [2, 1, 0] rfl ?_
        exact w_X12_kindNow_b41 E hrt hlk hh
      · refine rw_iload_n E (j0 := 1) rfl rfl dX12_kindNow_37 ?_
        refine rw_if_gt E hh (tgt := 49) (by decide) dX12_kindNow_38 (fun hh => ?_) (fun hh => ?_)
        · refine WH.pick [] rfl ?_
          exact w_X12_kindNow_b49 E hrt hlk hh
        · refine WH.pick [2, 1, 0] rfl ?_
          exact w_X12_kindNow_b41 E hrt hlk hh
    · refine rw_iconst E (v := 3) (by decide) dX12_kindNow_31 ?_
      exact rw_iret E hrt hlk hh (by decide) (by decide) dX12_kindNow_32
  · refine rw_iconst E (v := 5) (by decide) dX12_kindNow_25 ?_
    exact rw_iret E hrt hlk hh (by decide) (by decide) dX12_kindNow_26

/-! HummingDiscModel.kind()I -/
abbrev rm_X12_kind : Room := { frames := 2, cells := 0, slots := 0, locals := 44 }
theorem i_X12_kind_12 : ∀ w ∈ wsX120, w ∈ wsX12_kind := fun _ h => List.mem_cons_of_mem _ (List.mem_append_right _ (h))
def s_X12_kind (S : HS) (h : Nat) : Option (Int32 × HS) := kwI S ((some h)) 12 0 0 (fun S1 => kP S1 ((some h)) 12 24 (fun v2 => kA S1 v2 14 0 (fun v3 => if v3 = 0 then (some ((-1000002), S1)) else (kO S1 ((some h)) 12 (fun a6 => kc (s_X12_kindNow S1 a6 ) (fun v5 S4 => some (v5, S4)))))))
set_option maxHeartbeats 4000000 in
set_option maxRecDepth 100000 in
theorem c_X12_kind (l : Launch) (b0 : Nat) (G : hG) (S S1 : HS) (h : Nat) (r : Int32) (hh : s_X12_kind S h  = some (r, S1)) : MH l yX12_kind wsX12_kind rm_X12_kind b0 G S [hrf b0 (some h)] (some (.int r)) S1 0 0 := by
  refine MH.ofW (cc := cX12_kind) (maxL := 1) (ret := (some .int)) (own := RX12) (lv0 := [(0, hrf b0 ((some h)))]) (by decide) rfl rfl (Nat.le_of_ble_eq_true rfl) rfl ?_
  intro p e s m args below meth c E hrt hlk hnm
  have hh : (kwI S ((some h)) 12 0 0 (fun S1 => kP S1 ((some h)) 12 24 (fun v2 => kA S1 v2 14 0 (fun v3 => if v3 = 0 then (some ((-1000002), S1)) else (kO S1 ((some h)) 12 (fun a6 => kc (s_X12_kindNow S1 a6 ) (fun v5 S4 => some (v5, S4)))))))) = some (r, S1) := hh
  refine rw_aload_n E (j0 := 0) rfl rfl dX12_kind_0 ?_
  refine rw_iconst E (v := 0) (by decide) dX12_kind_1 ?_
  refine rw_putI E hh (C := RX12) (T := TX12) (N := 32) (ty0 := tyX12) rfl tyX12_ok nmX12 (by decide) i_X12_kind_12 (by decide) rfl (List.mem_of_getElem? (i := 1) (by decide +kernel)) rfl (Or.inl rfl) rfl dX12_kind_2 (fun S1 hh => ?_)
  refine rw_aload_n E (j0 := 0) rfl rfl dX12_kind_5 ?_
  refine rw_getP E hh (C := RX12) (T := TX12) (N := 32) rfl (by decide) i_X12_kind_12 (by decide) rfl (List.mem_of_getElem? (i := 2) (by decide +kernel)) rfl dX12_kind_6 (fun v2 hh => ?_)
  refine rw_iconst E (v := 0) (by decide) dX12_kind_9 ?_
  refine rw_iald E hh dX12_kind_10 (fun v3 hh => ?_)
  refine rw_if_ne E hh (tgt := 19) (by decide) dX12_kind_11 (fun hh => ?_) (fun hh => ?_)
  · refine rw_aload_n E (j0 := 0) rfl rfl dX12_kind_19 ?_
    refine rw_cVi E (As := []) hh (by decide) rfl (fun _ _ _ hq => c_X12_kindNow l b0 G _ _ _ _ hq) (cwV 0 E.2.2.2.2.1 gX12_kind_X12_kindNow rfl rfl rfl (by decide +kernel) ⟨Nat.le_of_ble_eq_true rfl, Nat.le_of_ble_eq_true rfl⟩) rfl rfl (by (try simp only [List.map_cons, List.map_nil, List.sum_cons, List.sum_nil, hrf_cat, cat_i, cat_l, cat_r]) <;> decide) ⟨Nat.le_of_ble_eq_true rfl, Nat.le_of_ble_eq_true rfl⟩ dX12_kind_20 (fun v5 S4 hh => ?_)
    exact rw_iret E hrt hlk hh (by decide) (by decide) dX12_kind_23
  · refine rw_ldc E (v := (-1000002)) (List.mem_of_getElem? (i := 3) (by decide +kernel)) dX12_kind_14 ?_
    refine rw_goto E (tgt := 23) (by decide) dX12_kind_16 ?_
    exact rw_iret E hrt hlk hh (by decide) (by decide) dX12_kind_23

/-! HummingDiscModel.as(I)I -/
abbrev rm_X12_as : Room := { frames := 2, cells := 0, slots := 0, locals := 44 }
theorem i_X12_as_12 : ∀ w ∈ wsX120, w ∈ wsX12_as := fun _ h => List.mem_cons_of_mem _ (List.mem_append_right _ (h))
def s_X12_as (S : HS) (h : Nat) (l1 : Int32) : Option (Int32 × HS) := kwI S ((some h)) 12 0 0 (fun S1 => kP S1 ((some h)) 12 24 (fun v2 => kA S1 v2 14 0 (fun v3 => if v3 = 0 then (some ((-1000002), S1)) else (kc (s_X12_in S1 l1.toInt64 0 5) (fun v5 S4 => if v5 = 0 then (some ((-1000001), S4)) else (kwI S4 ((some h)) 12 1 0 (fun S6 => kO S6 ((some h)) 12 (fun a9 => kc (s_X12_kindNow S6 a9 ) (fun v8 S7 => kc (s_X12_isOf S7 v8 l1) (fun v11 S10 => if v11 = 0 then (kO S10 ((some h)) 12 (fun a14 => kc (s_X12_finding S10 a14 3) (fun v13 S12 => some (v13, S12)))) else (kP S10 ((some h)) 12 24 (fun v15 => kA S10 v15 14 6 (fun v16 => some (v16, S10))))))))))))))
set_option maxHeartbeats 4000000 in
set_option maxRecDepth 100000 in
theorem c_X12_as (l : Launch) (b0 : Nat) (G : hG) (S S1 : HS) (h : Nat) (l1 : Int32) (r : Int32) (hh : s_X12_as S h l1 = some (r, S1)) : MH l yX12_as wsX12_as rm_X12_as b0 G S [hrf b0 (some h), .int l1] (some (.int r)) S1 0 0 := by
  refine MH.ofW (cc := cX12_as) (maxL := 2) (ret := (some .int)) (own := RX12) (lv0 := [(0, hrf b0 ((some h))), (1, .int l1)]) (by decide) rfl rfl (Nat.le_of_ble_eq_true rfl) rfl ?_
  intro p e s m args below meth c E hrt hlk hnm
  have hh : (kwI S ((some h)) 12 0 0 (fun S1 => kP S1 ((some h)) 12 24 (fun v2 => kA S1 v2 14 0 (fun v3 => if v3 = 0 then (some ((-1000002), S1)) else (kc (s_X12_in S1 l1.toInt64 0 5) (fun v5 S4 => if v5 = 0 then (some ((-1000001), S4)) else (kwI S4 ((some h)) 12 1 0 (fun S6 => kO S6 ((some h)) 12 (fun a9 => kc (s_X12_kindNow S6 a9 ) (fun v8 S7 => kc (s_X12_isOf S7 v8 l1) (fun v11 S10 => if v11 = 0 then (kO S10 ((some h)) 12 (fun a14 => kc (s_X12_finding S10 a14 3) (fun v13 S12 => some (v13, S12)))) else (kP S10 ((some h)) 12 24 (fun v15 => kA S10 v15 14 6 (fun v16 => some (v16, S10))))))))))))))) = some (r, S1) := hh
  refine rw_aload_n E (j0 := 0) rfl rfl dX12_as_0 ?_
  refine rw_iconst E (v := 0) (by decide) dX12_as_1 ?_
  refine rw_putI E hh (C := RX12) (T := TX12) (N := 32) (ty0 := tyX12) rfl tyX12_ok nmX12 (by decide) i_X12_as_12 (by decide) rfl (List.mem_of_getElem? (i := 1) (by decide +kernel)) rfl (Or.inl rfl) rfl dX12_as_2 (fun S1 hh => ?_)
  refine rw_aload_n E (j0 := 0) rfl rfl dX12_as_5 ?_
  refine rw_getP E hh (C := RX12) (T := TX12) (N := 32) rfl (by decide) i_X12_as_12 (by decide) rfl (List.mem_of_getElem? (i := 2) (by decide +kernel)) rfl dX12_as_6 (fun v2 hh => ?_)
  refine rw_iconst E (v := 0) (by decide) dX12_as_9 ?_
  refine rw_iald E hh dX12_as_10 (fun v3 hh => ?_)
  refine rw_if_ne E hh (tgt := 17) (by decide) dX12_as_11 (fun hh => ?_) (fun hh => ?_)
  · refine rw_iload_n E (j0 := 1) rfl rfl dX12_as_17 ?_
    refine rw_i2l E dX12_as_18 ?_
    refine rw_lconst E (v := 0) (by decide) dX12_as_19 ?_
    refine rw_ldc2 E (v := 5) (List.mem_of_getElem? (i := 4) (by decide +kernel)) dX12_as_20 ?_
    refine rw_cSi E (As := [.long l1.toInt64, .long 0, .long 5]) hh (fun _ _ hq => c_X12_in l b0 G _ _ _ _ _ _ hq) (va_cwS 3 E.2.2.2.2.1 gX12_as_X12_in rfl rfl rfl (by decide +kernel) ⟨Nat.le_of_ble_eq_true rfl, Nat.le_of_ble_eq_true rfl⟩) rfl rfl (by (try simp only [List.map_cons, List.map_nil, List.sum_cons, List.sum_nil, hrf_cat, cat_i, cat_l, cat_r]) <;> decide) ⟨Nat.le_of_ble_eq_true rfl, Nat.le_of_ble_eq_true rfl⟩ dX12_as_23 (fun v5 S4 hh => ?_)
    refine rw_if_ne E hh (tgt := 32) (by decide) dX12_as_26 (fun hh => ?_) (fun hh => ?_)
    · refine rw_aload_n E (j0 := 0) rfl rfl dX12_as_32 ?_
      refine rw_iconst E (v := 0) (by decide) dX12_as_33 ?_
      refine rw_putI E hh (C := RX12) (T := TX12) (N := 32) (ty0 := tyX12) rfl tyX12_ok nmX12 (by decide) i_X12_as_12 (by decide) rfl (List.mem_of_getElem? (i := 6) (by decide +kernel)) rfl (Or.inl rfl) rfl dX12_as_34 (fun S6 hh => ?_)
      refine rw_aload_n E (j0 := 0) rfl rfl dX12_as_37 ?_
      refine rw_cVi E (As := []) hh (by decide) rfl (fun _ _ _ hq => c_X12_kindNow l b0 G _ _ _ _ hq) (cwV 0 E.2.2.2.2.1 gX12_as_X12_kindNow rfl rfl rfl (by decide +kernel) ⟨Nat.le_of_ble_eq_true rfl, Nat.le_of_ble_eq_true rfl⟩) rfl rfl (by (try simp only [List.map_cons, List.map_nil, List.sum_cons, List.sum_nil, hrf_cat, cat_i, cat_l, cat_r]) <;> decide) ⟨Nat.le_of_ble_eq_true rfl, Nat.le_of_ble_eq_true rfl⟩ dX12_as_38 (fun v8 S7 hh => ?_)
      refine rw_iload_n E (j0 := 1) rfl rfl dX12_as_41 ?_
      refine rw_cSi E (As := [.int v8, .int l1]) hh (fun _ _ hq => c_X12_isOf l b0 G _ _ _ _ _ hq) (va_cwS 2 E.2.2.2.2.1 gX12_as_X12_isOf rfl rfl rfl (by decide +kernel) ⟨Nat.le_of_ble_eq_true rfl, Nat.le_of_ble_eq_true rfl⟩) rfl rfl (by (try simp only [List.map_cons, List.map_nil, List.sum_cons, List.sum_nil, hrf_cat, cat_i, cat_l, cat_r]) <;> decide) ⟨Nat.le_of_ble_eq_true rfl, Nat.le_of_ble_eq_true rfl⟩ dX12_as_42 (fun v11 S10 hh => ?_)
      refine rw_if_eq E hh (tgt := 58) (by decide) dX12_as_45 (fun hh => ?_) (fun hh => ?_)
      · refine rw_aload_n E (j0 := 0) rfl rfl dX12_as_58 ?_
        refine rw_iconst E (v := 3) (by decide) dX12_as_59 ?_
        refine rw_cVi E (As := [.int 3]) hh (by decide) rfl (fun _ _ _ hq => c_X12_finding l b0 G _ _ _ _ _ hq) (cwV 1 E.2.2.2.2.1 gX12_as_X12_finding rfl rfl rfl (by decide +kernel) ⟨Nat.le_of_ble_eq_true rfl, Nat.le_of_ble_eq_true rfl⟩) rfl rfl (by (try simp only [List.map_cons, List.map_nil, List.sum_cons, List.sum_nil, hrf_cat, cat_i, cat_l, cat_r]) <;> decide) ⟨Nat.le_of_ble_eq_true rfl, Nat.le_of_ble_eq_true rfl⟩ dX12_as_60 (fun v13 S12 hh => ?_)
        exact rw_iret E hrt hlk hh (by decide) (by decide) dX12_as_63
      · refine rw_aload_n E (j0 := 0) rfl rfl dX12_as_48 ?_
        refine rw_getP E hh (C := RX12) (T := TX12) (N := 32) rfl (by decide) i_X12_as_12 (by decide) rfl (List.mem_of_getElem? (i := 2) (by decide +kernel)) rfl dX12_as_49 (fun v15 hh => ?_)
        refine rw_bipush E (v := 6) (by decide) dX12_as_52 ?_
        refine rw_iald E hh dX12_as_54 (fun v16 hh => ?_)
        refine rw_goto E (tgt := 63) (by decide) dX12_as_55 ?_
        exact rw_iret E hrt hlk hh (by decide) (by decide) dX12_as_63
    · refine rw_ldc E (v := (-1000001)) (List.mem_of_getElem? (i := 5) (by decide +kernel)) dX12_as_29 ?_
      exact rw_iret E hrt hlk hh (by decide) (by decide) dX12_as_31
  · refine rw_ldc E (v := (-1000002)) (List.mem_of_getElem? (i := 3) (by decide +kernel)) dX12_as_14 ?_
    exact rw_iret E hrt hlk hh (by decide) (by decide) dX12_as_16

/-! HummingDiscModel.began(I)V -/
abbrev rm_X12_began : Room := { frames := 0, cells := 0, slots := 0, locals := 0 }
theorem i_X12_began_12 : ∀ w ∈ wsX120, w ∈ wsX12_began := fun _ h => List.mem_cons_of_mem _ (List.mem_append_right _ (h))
def s_X12_began (S : HS) (h : Nat) (l1 : Int32) : Option (HS) := kI S ((some h)) 12 31 (fun v1 => if 16 ≤ v1 then (some S) else (kP S ((some h)) 12 30 (fun v2 => kI S ((some h)) 12 31 (fun v3 => kwA S v2 14 v3 l1 (fun S4 => kI S4 ((some h)) 12 31 (fun v5 => kwI S4 ((some h)) 12 31 (v5 + 1) (fun S6 => some S6)))))))
set_option maxHeartbeats 4000000 in
set_option maxRecDepth 100000 in
theorem c_X12_began (l : Launch) (b0 : Nat) (G : hG) (S S1 : HS) (h : Nat) (l1 : Int32) (hh : s_X12_began S h l1 = some S1) : MH l yX12_began wsX12_began rm_X12_began b0 G S [hrf b0 (some h), .int l1] none S1 0 0 := by
  refine MH.ofW (cc := cX12_began) (maxL := 2) (ret := none) (own := RX12) (lv0 := [(0, hrf b0 ((some h))), (1, .int l1)]) (by decide) rfl rfl (Nat.le_of_ble_eq_true rfl) rfl ?_
  intro p e s m args below meth c E hrt hlk hnm
  have hh : (kI S ((some h)) 12 31 (fun v1 => if 16 ≤ v1 then (some S) else (kP S ((some h)) 12 30 (fun v2 => kI S ((some h)) 12 31 (fun v3 => kwA S v2 14 v3 l1 (fun S4 => kI S4 ((some h)) 12 31 (fun v5 => kwI S4 ((some h)) 12 31 (v5 + 1) (fun S6 => some S6)))))))) = some S1 := hh
  refine rw_aload_n E (j0 := 0) rfl rfl dX12_began_0 ?_
  refine rw_getI E hh (C := RX12) (T := TX12) (N := 32) rfl (by decide) i_X12_began_12 (by decide) rfl (List.mem_of_getElem? (i := 1) (by decide +kernel)) rfl dX12_began_1 (fun v1 hh => ?_)
  refine rw_bipush E (v := 16) (by decide) dX12_began_4 ?_
  refine rw_icmp_ge E hh (tgt := 29) (by decide) dX12_began_6 (fun hh => ?_) (fun hh => ?_)
  · exact rw_vret E hrt hlk hh (by decide) (by decide) dX12_began_29
  · refine rw_aload_n E (j0 := 0) rfl rfl dX12_began_9 ?_
    refine rw_getP E hh (C := RX12) (T := TX12) (N := 32) rfl (by decide) i_X12_began_12 (by decide) rfl (List.mem_of_getElem? (i := 2) (by decide +kernel)) rfl dX12_began_10 (fun v2 hh => ?_)
    refine rw_aload_n E (j0 := 0) rfl rfl dX12_began_13 ?_
    refine rw_getI E hh (C := RX12) (T := TX12) (N := 32) rfl (by decide) i_X12_began_12 (by decide) rfl (List.mem_of_getElem? (i := 1) (by decide +kernel)) rfl dX12_began_14 (fun v3 hh => ?_)
    refine rw_iload_n E (j0 := 1) rfl rfl dX12_began_17 ?_
    refine rw_iast E hh dX12_began_18 (fun S4 hh => ?_)
    refine rw_aload_n E (j0 := 0) rfl rfl dX12_began_19 ?_
    refine rw_dup E (hrf_cat _ _) dX12_began_20 ?_
    refine rw_getI E hh (C := RX12) (T := TX12) (N := 32) rfl (by decide) i_X12_began_12 (by decide) rfl (List.mem_of_getElem? (i := 1) (by decide +kernel)) rfl dX12_began_21 (fun v5 hh => ?_)
    refine rw_iconst E (v := 1) (by decide) dX12_began_24 ?_
    refine rw_iadd E dX12_began_25 ?_
    refine rw_putI E hh (C := RX12) (T := TX12) (N := 32) (ty0 := tyX12) rfl tyX12_ok nmX12 (by decide) i_X12_began_12 (by decide) rfl (List.mem_of_getElem? (i := 1) (by decide +kernel)) rfl (Or.inl rfl) rfl dX12_began_26 (fun S6 hh => ?_)
    exact rw_vret E hrt hlk hh (by decide) (by decide) dX12_began_29

/-! HummingDiscModel.plainSize()I -/
abbrev rm_X12_plainSize : Room := { frames := 1, cells := 0, slots := 0, locals := 21 }
theorem i_X12_plainSize_12 : ∀ w ∈ wsX120, w ∈ wsX12_plainSize := fun _ h => List.mem_cons_of_mem _ (List.mem_append_right _ (h))
def s_X12_plainSize (S : HS) (h : Nat) : Option (Int32 × HS) := kO S ((some h)) 12 (fun a2 => kcv (s_X12_began S a2 10) (fun S1 => kP S1 ((some h)) 12 24 (fun v3 => kA S1 v3 14 4 (fun v4 => kc (s_X12_size S1 v4) (fun v6 S5 => some (v6, S5))))))
set_option maxHeartbeats 4000000 in
set_option maxRecDepth 100000 in
theorem c_X12_plainSize (l : Launch) (b0 : Nat) (G : hG) (S S1 : HS) (h : Nat) (r : Int32) (hh : s_X12_plainSize S h  = some (r, S1)) : MH l yX12_plainSize wsX12_plainSize rm_X12_plainSize b0 G S [hrf b0 (some h)] (some (.int r)) S1 0 0 := by
  refine MH.ofW (cc := cX12_plainSize) (maxL := 1) (ret := (some .int)) (own := RX12) (lv0 := [(0, hrf b0 ((some h)))]) (by decide) rfl rfl (Nat.le_of_ble_eq_true rfl) rfl ?_
  intro p e s m args below meth c E hrt hlk hnm
  have hh : (kO S ((some h)) 12 (fun a2 => kcv (s_X12_began S a2 10) (fun S1 => kP S1 ((some h)) 12 24 (fun v3 => kA S1 v3 14 4 (fun v4 => kc (s_X12_size S1 v4) (fun v6 S5 => some (v6, S5))))))) = some (r, S1) := hh
  refine rw_aload_n E (j0 := 0) rfl rfl dX12_plainSize_0 ?_
  refine rw_bipush E (v := 10) (by decide) dX12_plainSize_1 ?_
  refine rw_cVv E (As := [.int 10]) hh (by decide) rfl (fun _ _ hq => c_X12_began l b0 G _ _ _ _ hq) (cwV 1 E.2.2.2.2.1 gX12_plainSize_X12_began rfl rfl rfl (by decide +kernel) ⟨Nat.le_of_ble_eq_true rfl, Nat.le_of_ble_eq_true rfl⟩) rfl rfl (by (try simp only [List.map_cons, List.map_nil, List.sum_cons, List.sum_nil, hrf_cat, cat_i, cat_l, cat_r]) <;> decide) ⟨Nat.le_of_ble_eq_true rfl, Nat.le_of_ble_eq_true rfl⟩ dX12_plainSize_3 (fun S1 hh => ?_)
  refine rw_aload_n E (j0 := 0) rfl rfl dX12_plainSize_6 ?_
  refine rw_getP E hh (C := RX12) (T := TX12) (N := 32) rfl (by decide) i_X12_plainSize_12 (by decide) rfl (List.mem_of_getElem? (i := 1) (by decide +kernel)) rfl dX12_plainSize_7 (fun v3 hh => ?_)
  refine rw_iconst E (v := 4) (by decide) dX12_plainSize_10 ?_
  refine rw_iald E hh dX12_plainSize_11 (fun v4 hh => ?_)
  refine rw_cSi E (As := [.int v4]) hh (fun _ _ hq => c_X12_size l b0 G _ _ _ _ hq) (va_cwS 1 E.2.2.2.2.1 gX12_plainSize_X12_size rfl rfl rfl (by decide +kernel) ⟨Nat.le_of_ble_eq_true rfl, Nat.le_of_ble_eq_true rfl⟩) rfl rfl (by (try simp only [List.map_cons, List.map_nil, List.sum_cons, List.sum_nil, hrf_cat, cat_i, cat_l, cat_r]) <;> decide) ⟨Nat.le_of_ble_eq_true rfl, Nat.le_of_ble_eq_true rfl⟩ dX12_plainSize_12 (fun v6 S5 hh => ?_)
  exact rw_iret E hrt hlk hh (by decide) (by decide) dX12_plainSize_15

/-! HummingDiscModel.plainMark()I -/
abbrev rm_X12_plainMark : Room := { frames := 1, cells := 0, slots := 0, locals := 21 }
theorem i_X12_plainMark_12 : ∀ w ∈ wsX120, w ∈ wsX12_plainMark := fun _ h => List.mem_cons_of_mem _ (List.mem_append_right _ (h))
def s_X12_plainMark (S : HS) (h : Nat) : Option (Int32 × HS) := kO S ((some h)) 12 (fun a2 => kcv (s_X12_began S a2 20) (fun S1 => kP S1 ((some h)) 12 24 (fun v3 => kA S1 v3 14 6 (fun v4 => some (v4, S1)))))
set_option maxHeartbeats 4000000 in
set_option maxRecDepth 100000 in
theorem c_X12_plainMark (l : Launch) (b0 : Nat) (G : hG) (S S1 : HS) (h : Nat) (r : Int32) (hh : s_X12_plainMark S h  = some (r, S1)) : MH l yX12_plainMark wsX12_plainMark rm_X12_plainMark b0 G S [hrf b0 (some h)] (some (.int r)) S1 0 0 := by
  refine MH.ofW (cc := cX12_plainMark) (maxL := 1) (ret := (some .int)) (own := RX12) (lv0 := [(0, hrf b0 ((some h)))]) (by decide) rfl rfl (Nat.le_of_ble_eq_true rfl) rfl ?_
  intro p e s m args below meth c E hrt hlk hnm
  have hh : (kO S ((some h)) 12 (fun a2 => kcv (s_X12_began S a2 20) (fun S1 => kP S1 ((some h)) 12 24 (fun v3 => kA S1 v3 14 6 (fun v4 => some (v4, S1)))))) = some (r, S1) := hh
  refine rw_aload_n E (j0 := 0) rfl rfl dX12_plainMark_0 ?_
  refine rw_bipush E (v := 20) (by decide) dX12_plainMark_1 ?_
  refine rw_cVv E (As := [.int 20]) hh (by decide) rfl (fun _ _ hq => c_X12_began l b0 G _ _ _ _ hq) (cwV 1 E.2.2.2.2.1 gX12_plainMark_X12_began rfl rfl rfl (by decide +kernel) ⟨Nat.le_of_ble_eq_true rfl, Nat.le_of_ble_eq_true rfl⟩) rfl rfl (by (try simp only [List.map_cons, List.map_nil, List.sum_cons, List.sum_nil, hrf_cat, cat_i, cat_l, cat_r]) <;> decide) ⟨Nat.le_of_ble_eq_true rfl, Nat.le_of_ble_eq_true rfl⟩ dX12_plainMark_3 (fun S1 hh => ?_)
  refine rw_aload_n E (j0 := 0) rfl rfl dX12_plainMark_6 ?_
  refine rw_getP E hh (C := RX12) (T := TX12) (N := 32) rfl (by decide) i_X12_plainMark_12 (by decide) rfl (List.mem_of_getElem? (i := 1) (by decide +kernel)) rfl dX12_plainMark_7 (fun v3 hh => ?_)
  refine rw_bipush E (v := 6) (by decide) dX12_plainMark_10 ?_
  refine rw_iald E hh dX12_plainMark_12 (fun v4 hh => ?_)
  exact rw_iret E hrt hlk hh (by decide) (by decide) dX12_plainMark_13

/-! HummingDiscModel.windMark(I)I -/
abbrev rm_X12_windMark : Room := { frames := 2, cells := 0, slots := 0, locals := 41 }
theorem i_X12_windMark_12 : ∀ w ∈ wsX120, w ∈ wsX12_windMark := fun _ h => List.mem_cons_of_mem _ (List.mem_append_right _ (h))
def s_X12_windMark (S : HS) (h : Nat) (l1 : Int32) : Option (Int32 × HS) := if l1 = 4 then (kO S ((some h)) 12 (fun a14 => kcv (s_X12_began S a14 22) (fun S13 => kO S13 ((some h)) 12 (fun a17 => kc (s_X12_plainMark S13 a17 ) (fun v16 S15 => some (v16 + 1000, S15)))))) else (if l1 = 1 then (kO S ((some h)) 12 (fun a5 => kcv (s_X12_began S a5 21) (fun S4 => kO S4 ((some h)) 12 (fun a8 => kc (s_X12_plainMark S4 a8 ) (fun v7 S6 => kP S6 ((some h)) 12 24 (fun v9 => kA S6 v9 14 5 (fun v10 => kc (s_X12_size S6 v10) (fun v12 S11 => some (v7 + v12, S11))))))))) else (kO S ((some h)) 12 (fun a3 => kc (s_X12_plainMark S a3 ) (fun v2 S1 => some (v2, S1)))))
set_option maxHeartbeats 4000000 in
set_option maxRecDepth 100000 in
theorem c_X12_windMark (l : Launch) (b0 : Nat) (G : hG) (S S1 : HS) (h : Nat) (l1 : Int32) (r : Int32) (hh : s_X12_windMark S h l1 = some (r, S1)) : MH l yX12_windMark wsX12_windMark rm_X12_windMark b0 G S [hrf b0 (some h), .int l1] (some (.int r)) S1 0 0 := by
  refine MH.ofW (cc := cX12_windMark) (maxL := 2) (ret := (some .int)) (own := RX12) (lv0 := [(0, hrf b0 ((some h))), (1, .int l1)]) (by decide) rfl rfl (Nat.le_of_ble_eq_true rfl) rfl ?_
  intro p e s m args below meth c E hrt hlk hnm
  have hh : (if l1 = 4 then (kO S ((some h)) 12 (fun a14 => kcv (s_X12_began S a14 22) (fun S13 => kO S13 ((some h)) 12 (fun a17 => kc (s_X12_plainMark S13 a17 ) (fun v16 S15 => some (v16 + 1000, S15)))))) else (if l1 = 1 then (kO S ((some h)) 12 (fun a5 => kcv (s_X12_began S a5 21) (fun S4 => kO S4 ((some h)) 12 (fun a8 => kc (s_X12_plainMark S4 a8 ) (fun v7 S6 => kP S6 ((some h)) 12 24 (fun v9 => kA S6 v9 14 5 (fun v10 => kc (s_X12_size S6 v10) (fun v12 S11 => some (v7 + v12, S11))))))))) else (kO S ((some h)) 12 (fun a3 => kc (s_X12_plainMark S a3 ) (fun v2 S1 => some (v2, S1)))))) = some (r, S1) := hh
  refine rw_iload_n E (j0 := 1) rfl rfl dX12_windMark_0 ?_
  refine rw_iconst E (v := 4) (by decide) dX12_windMark_1 ?_
  refine rw_icmp_ne E hh (tgt := 20) (by decide) dX12_windMark_2 (fun hh => ?_) (fun hh => ?_)
  · refine rw_iload_n E (j0 := 1) rfl rfl dX12_windMark_20 ?_
    refine rw_iconst E (v := 1) (by decide) dX12_windMark_21 ?_
    refine rw_icmp_ne E hh (tgt := 46) (by decide) dX12_windMark_22 (fun hh => ?_) (fun hh => ?_)
    · refine rw_aload_n E (j0 := 0) rfl rfl dX12_windMark_46 ?_
      refine rw_cVi E (As := []) hh (by decide) rfl (fun _ _ _ hq => c_X12_plainMark l b0 G _ _ _ _ hq) (cwV 0 E.2.2.2.2.1 gX12_windMark_X12_plainMark rfl rfl rfl (by decide +kernel) ⟨Nat.le_of_ble_eq_true rfl, Nat.le_of_ble_eq_true rfl⟩) rfl rfl (by (try simp only [List.map_cons, List.map_nil, List.sum_cons, List.sum_nil, hrf_cat, cat_i, cat_l, cat_r]) <;> decide) ⟨Nat.le_of_ble_eq_true rfl, Nat.le_of_ble_eq_true rfl⟩ dX12_windMark_47 (fun v2 S1 hh => ?_)
      exact rw_iret E hrt hlk hh (by decide) (by decide) dX12_windMark_50
    · refine rw_aload_n E (j0 := 0) rfl rfl dX12_windMark_25 ?_
      refine rw_bipush E (v := 21) (by decide) dX12_windMark_26 ?_
      refine rw_cVv E (As := [.int 21]) hh (by decide) rfl (fun _ _ hq => c_X12_began l b0 G _ _ _ _ hq) (cwV 1 E.2.2.2.2.1 gX12_windMark_X12_began rfl rfl rfl (by decide +kernel) ⟨Nat.le_of_ble_eq_true rfl, Nat.le_of_ble_eq_true rfl⟩) rfl rfl (by (try simp only [List.map_cons, List.map_nil, List.sum_cons, List.sum_nil, hrf_cat, cat_i, cat_l, cat_r]) <;> decide) ⟨Nat.le_of_ble_eq_true rfl, Nat.le_of_ble_eq_true rfl⟩ dX12_windMark_28 (fun S4 hh => ?_)
      refine rw_aload_n E (j0 := 0) rfl rfl dX12_windMark_31 ?_
      refine rw_cVi E (As := []) hh (by decide) rfl (fun _ _ _ hq => c_X12_plainMark l b0 G _ _ _ _ hq) (cwV 0 E.2.2.2.2.1 gX12_windMark_X12_plainMark rfl rfl rfl (by decide +kernel) ⟨Nat.le_of_ble_eq_true rfl, Nat.le_of_ble_eq_true rfl⟩) rfl rfl (by (try simp only [List.map_cons, List.map_nil, List.sum_cons, List.sum_nil, hrf_cat, cat_i, cat_l, cat_r]) <;> decide) ⟨Nat.le_of_ble_eq_true rfl, Nat.le_of_ble_eq_true rfl⟩ dX12_windMark_32 (fun v7 S6 hh => ?_)
      refine rw_aload_n E (j0 := 0) rfl rfl dX12_windMark_35 ?_
      refine rw_getP E hh (C := RX12) (T := TX12) (N := 32) rfl (by decide) i_X12_windMark_12 (by decide) rfl (List.mem_of_getElem? (i := 1) (by decide +kernel)) rfl dX12_windMark_36 (fun v9 hh => ?_)
      refine rw_iconst E (v := 5) (by decide) dX12_windMark_39 ?_
      refine rw_iald E hh dX12_windMark_40 (fun v10 hh => ?_)
      refine rw_cSi E (As := [.int v10]) hh (fun _ _ hq => c_X12_size l b0 G _ _ _ _ hq) (va_cwS 1 E.2.2.2.2.1 gX12_windMark_X12_size rfl rfl rfl (by decide +kernel) ⟨Nat.le_of_ble_eq_true rfl, Nat.le_of_ble_eq_true rfl⟩) rfl rfl (by (try simp only [List.map_cons, List.map_nil, List.sum_cons, List.sum_nil, hrf_cat, cat_i, cat_l, cat_r]) <;> decide) ⟨Nat.le_of_ble_eq_true rfl, Nat.le_of_ble_eq_true rfl⟩ dX12_windMark_41 (fun v12 S11 hh => ?_)
      refine rw_iadd E dX12_windMark_44 ?_
      exact rw_iret E hrt hlk hh (by decide) (by decide) dX12_windMark_45
  · refine rw_aload_n E (j0 := 0) rfl rfl dX12_windMark_5 ?_
    refine rw_bipush E (v := 22) (by decide) dX12_windMark_6 ?_
    refine rw_cVv E (As := [.int 22]) hh (by decide) rfl (fun _ _ hq => c_X12_began l b0 G _ _ _ _ hq) (cwV 1 E.2.2.2.2.1 gX12_windMark_X12_began rfl rfl rfl (by decide +kernel) ⟨Nat.le_of_ble_eq_true rfl, Nat.le_of_ble_eq_true rfl⟩) rfl rfl (by (try simp only [List.map_cons, List.map_nil, List.sum_cons, List.sum_nil, hrf_cat, cat_i, cat_l, cat_r]) <;> decide) ⟨Nat.le_of_ble_eq_true rfl, Nat.le_of_ble_eq_true rfl⟩ dX12_windMark_8 (fun S13 hh => ?_)
    refine rw_aload_n E (j0 := 0) rfl rfl dX12_windMark_11 ?_
    refine rw_cVi E (As := []) hh (by decide) rfl (fun _ _ _ hq => c_X12_plainMark l b0 G _ _ _ _ hq) (cwV 0 E.2.2.2.2.1 gX12_windMark_X12_plainMark rfl rfl rfl (by decide +kernel) ⟨Nat.le_of_ble_eq_true rfl, Nat.le_of_ble_eq_true rfl⟩) rfl rfl (by (try simp only [List.map_cons, List.map_nil, List.sum_cons, List.sum_nil, hrf_cat, cat_i, cat_l, cat_r]) <;> decide) ⟨Nat.le_of_ble_eq_true rfl, Nat.le_of_ble_eq_true rfl⟩ dX12_windMark_12 (fun v16 S15 hh => ?_)
    refine rw_sipush E (v := 1000) (by decide) dX12_windMark_15 ?_
    refine rw_iadd E dX12_windMark_18 ?_
    exact rw_iret E hrt hlk hh (by decide) (by decide) dX12_windMark_19

/-! HummingDiscModel.windSize(I)I -/
abbrev rm_X12_windSize : Room := { frames := 3, cells := 0, slots := 0, locals := 62 }
def s_X12_windSize_b24 (h : Nat) (S : HS) (l1 : Int32) (k0 : Option Nat) (k1 : Int32) : Option (Int32 × HS) := kO S k0 12 (fun a2 => kcv (s_X12_began S a2 k1) (fun S1 => kO S1 ((some h)) 12 (fun a5 => kc (s_X12_plainSize S1 a5 ) (fun v4 S3 => kO S3 ((some h)) 12 (fun a8 => kc (s_X12_windMark S3 a8 l1) (fun v7 S6 => if l1 = 1 then (some (v4 + v7, S6)) else (if l1 = 4 then (some (2 * (v4 - v7), S6)) else (some (v4 - v7, S6)))))))))
set_option maxHeartbeats 4000000 in
set_option maxRecDepth 100000 in
theorem w_X12_windSize_b24 {p : Program} {l : Launch} {e : Env} {s : State} {m : MethodId} {args : Array Value} {below : List Frame} {meth : Method} {c : Code} {b0 : Nat} {G : hG} {S1 : HS} {r : Int32} {h : Nat} {S : HS} {l1 : Int32} {k0 : Option Nat} {k1 : Int32} (E : hE p s m args c b0 G cX12_windSize RX12 4 wsX12_windSize) (hrt : meth.sig.returnType = (some .int)) (hlk : meth.locks = false) (hh : s_X12_windSize_b24 h S l1 k0 k1 = some (r, S1)) : WH p l e rm_X12_windSize s m args below meth c b0 G 4 0 0 (MQ below (hQ b0 G (some (.int r)) S1) args s 0 0 (hA b0)) S 24 [(0, hrf b0 ((some h))), (1, .int l1)] [.int k1, hrf b0 k0] := by
  have hh : (kO S k0 12 (fun a2 => kcv (s_X12_began S a2 k1) (fun S1 => kO S1 ((some h)) 12 (fun a5 => kc (s_X12_plainSize S1 a5 ) (fun v4 S3 => kO S3 ((some h)) 12 (fun a8 => kc (s_X12_windMark S3 a8 l1) (fun v7 S6 => if l1 = 1 then (some (v4 + v7, S6)) else (if l1 = 4 then (some (2 * (v4 - v7), S6)) else (some (v4 - v7, S6)))))))))) = some (r, S1) := hh
  refine rw_cVv E (As := [.int k1]) hh (by decide) rfl (fun _ _ hq => c_X12_began l b0 G _ _ _ _ hq) (cwV 1 E.2.2.2.2.1 gX12_windSize_X12_began rfl rfl rfl (by decide +kernel) ⟨Nat.le_of_ble_eq_true rfl, Nat.le_of_ble_eq_true rfl⟩) rfl rfl (by (try simp only [List.map_cons, List.map_nil, List.sum_cons, List.sum_nil, hrf_cat, cat_i, cat_l, cat_r]) <;> decide) ⟨Nat.le_of_ble_eq_true rfl, Nat.le_of_ble_eq_true rfl⟩ dX12_windSize_24 (fun S1 hh => ?_)
  refine rw_aload_n E (j0 := 0) rfl rfl dX12_windSize_27 ?_
  refine rw_cVi E (As := []) hh (by decide) rfl (fun _ _ _ hq => c_X12_plainSize l b0 G _ _ _ _ hq) (cwV 0 E.2.2.2.2.1 gX12_windSize_X12_plainSize rfl rfl rfl (by decide +kernel) ⟨Nat.le_of_ble_eq_true rfl, Nat.le_of_ble_eq_true rfl⟩) rfl rfl (by (try simp only [List.map_cons, List.map_nil, List.sum_cons, List.sum_nil, hrf_cat, cat_i, cat_l, cat_r]) <;> decide) ⟨Nat.le_of_ble_eq_true rfl, Nat.le_of_ble_eq_true rfl⟩ dX12_windSize_28 (fun v4 S3 hh => ?_)
  refine rw_istore_n E (lv2 := [(2, .int v4), (0, hrf b0 ((some h))), (1, .int l1)]) rfl (by decide) rfl dX12_windSize_31 ?_
  refine rw_aload_n E (j0 := 1) rfl rfl dX12_windSize_32 ?_
  refine rw_iload_n E (j0 := 2) rfl rfl dX12_windSize_33 ?_
  refine rw_cVi E (As := [.int l1]) hh (by decide) rfl (fun _ _ _ hq => c_X12_windMark l b0 G _ _ _ _ _ hq) (cwV 1 E.2.2.2.2.1 gX12_windSize_X12_windMark rfl rfl rfl (by decide +kernel) ⟨Nat.le_of_ble_eq_true rfl, Nat.le_of_ble_eq_true rfl⟩) rfl rfl (by (try simp only [List.map_cons, List.map_nil, List.sum_cons, List.sum_nil, hrf_cat, cat_i, cat_l, cat_r]) <;> decide) ⟨Nat.le_of_ble_eq_true rfl, Nat.le_of_ble_eq_true rfl⟩ dX12_windSize_34 (fun v7 S6 hh => ?_)
  refine rw_istore_n E (lv2 := [(3, .int v7), (2, .int v4), (0, hrf b0 ((some h))), (1, .int l1)]) rfl (by decide) rfl dX12_windSize_37 ?_
  refine rw_iload_n E (j0 := 3) rfl rfl dX12_windSize_38 ?_
  refine rw_iconst E (v := 1) (by decide) dX12_windSize_39 ?_
  refine rw_icmp_ne E hh (tgt := 49) (by decide) dX12_windSize_40 (fun hh => ?_) (fun hh => ?_)
  · refine rw_iload_n E (j0 := 3) rfl rfl dX12_windSize_49 ?_
    refine rw_iconst E (v := 4) (by decide) dX12_windSize_50 ?_
    refine rw_icmp_ne E hh (tgt := 62) (by decide) dX12_windSize_51 (fun hh => ?_) (fun hh => ?_)
    · refine rw_iload_n E (j0 := 1) rfl rfl dX12_windSize_62 ?_
      refine rw_iload_n E (j0 := 0) rfl rfl dX12_windSize_63 ?_
      refine rw_isub E dX12_windSize_64 ?_
      exact rw_iret E hrt hlk hh (by decide) (by decide) dX12_windSize_65
    · refine rw_iconst E (v := 2) (by decide) dX12_windSize_54 ?_
      refine rw_iload_n E (j0 := 1) rfl rfl dX12_windSize_55 ?_
      refine rw_iload_n E (j0 := 0) rfl rfl dX12_windSize_56 ?_
      refine rw_isub E dX12_windSize_57 ?_
      refine rw_imul E dX12_windSize_58 ?_
      refine rw_goto E (tgt := 65) (by decide) dX12_windSize_59 ?_
      exact rw_iret E hrt hlk hh (by decide) (by decide) dX12_windSize_65
  · refine rw_iload_n E (j0 := 1) rfl rfl dX12_windSize_43 ?_
    refine rw_iload_n E (j0 := 0) rfl rfl dX12_windSize_44 ?_
    refine rw_iadd E dX12_windSize_45 ?_
    refine rw_goto E (tgt := 65) (by decide) dX12_windSize_46 ?_
    exact rw_iret E hrt hlk hh (by decide) (by decide) dX12_windSize_65
def s_X12_windSize_b11 (h : Nat) (S : HS) (l1 : Int32) : Option (Int32 × HS) := if l1 = 1 then (s_X12_windSize_b24 h S l1 ((some h)) 11) else (s_X12_windSize_b24 h S l1 ((some h)) 12)
set_option maxHeartbeats 4000000 in
set_option maxRecDepth 100000 in
theorem w_X12_windSize_b11 {p : Program} {l : Launch} {e : Env} {s : State} {m : MethodId} {args : Array Value} {below : List Frame} {meth : Method} {c : Code} {b0 : Nat} {G : hG} {S1 : HS} {r : Int32} {h : Nat} {S : HS} {l1 : Int32} (E : hE p s m args c b0 G cX12_windSize RX12 4 wsX12_windSize) (hrt : meth.sig.returnType = (some .int)) (hlk : meth.locks = false) (hh : s_X12_windSize_b11 h S l1 = some (r, S1)) : WH p l e rm_X12_windSize s m args below meth c b0 G 4 0 0 (MQ below (hQ b0 G (some (.int r)) S1) args s 0 0 (hA b0)) S 11 [(0, hrf b0 ((some h))), (1, .int l1)] [] := by
  have hh : (if l1 = 1 then (s_X12_windSize_b24 h S l1 ((some h)) 11) else (s_X12_windSize_b24 h S l1 ((some h)) 12)) = some (r, S1) := hh
  refine rw_aload_n E (j0 := 0) rfl rfl dX12_windSize_11 ?_
  refine rw_iload_n E (j0 := 1) rfl rfl dX12_windSize_12 ?_
  refine rw_iconst E (v := 1) (by decide) dX12_windSize_13 ?_
  refine rw_icmp_ne E hh (tgt := 22) (by decide) dX12_windSize_14 (fun hh => ?_) (fun hh => ?_)
  · refine rw_bipush E (v := 12) (by decide) dX12_windSize_22 ?_
    refine WH.pick [0, 1] rfl ?_
    exact w_X12_windSize_b24 E hrt hlk hh
  · refine rw_bipush E (v := 11) (by decide) dX12_windSize_17 ?_
    refine rw_goto E (tgt := 24) (by decide) dX12_windSize_19 ?_
    refine WH.pick [0, 1] rfl ?_
    exact w_X12_windSize_b24 E hrt hlk hh
def s_X12_windSize (S : HS) (h : Nat) (l1 : Int32) : Option (Int32 × HS) := if l1 = 4 then (kO S ((some h)) 12 (fun a2 => kcv (s_X12_began S a2 13) (fun S1 => s_X12_windSize_b11 h S1 l1))) else (s_X12_windSize_b11 h S l1)
set_option maxHeartbeats 4000000 in
set_option maxRecDepth 100000 in
theorem c_X12_windSize (l : Launch) (b0 : Nat) (G : hG) (S S1 : HS) (h : Nat) (l1 : Int32) (r : Int32) (hh : s_X12_windSize S h l1 = some (r, S1)) : MH l yX12_windSize wsX12_windSize rm_X12_windSize b0 G S [hrf b0 (some h), .int l1] (some (.int r)) S1 0 0 := by
  refine MH.ofW (cc := cX12_windSize) (maxL := 4) (ret := (some .int)) (own := RX12) (lv0 := [(0, hrf b0 ((some h))), (1, .int l1)]) (by decide) rfl rfl (Nat.le_of_ble_eq_true rfl) rfl ?_
  intro p e s m args below meth c E hrt hlk hnm
  have hh : (if l1 = 4 then (kO S ((some h)) 12 (fun a2 => kcv (s_X12_began S a2 13) (fun S1 => s_X12_windSize_b11 h S1 l1))) else (s_X12_windSize_b11 h S l1)) = some (r, S1) := hh
  refine rw_iload_n E (j0 := 1) rfl rfl dX12_windSize_0 ?_
  refine rw_iconst E (v := 4) (by decide) dX12_windSize_1 ?_
  refine rw_icmp_ne E hh (tgt := 11) (by decide) dX12_windSize_2 (fun hh => ?_) (fun hh => ?_)
  · refine WH.pick [0, 1] rfl ?_
    exact w_X12_windSize_b11 E hrt hlk hh
  · refine rw_aload_n E (j0 := 0) rfl rfl dX12_windSize_5 ?_
    refine rw_bipush E (v := 13) (by decide) dX12_windSize_6 ?_
    refine rw_cVv E (As := [.int 13]) hh (by decide) rfl (fun _ _ hq => c_X12_began l b0 G _ _ _ _ hq) (cwV 1 E.2.2.2.2.1 gX12_windSize_X12_began rfl rfl rfl (by decide +kernel) ⟨Nat.le_of_ble_eq_true rfl, Nat.le_of_ble_eq_true rfl⟩) rfl rfl (by (try simp only [List.map_cons, List.map_nil, List.sum_cons, List.sum_nil, hrf_cat, cat_i, cat_l, cat_r]) <;> decide) ⟨Nat.le_of_ble_eq_true rfl, Nat.le_of_ble_eq_true rfl⟩ dX12_windSize_8 (fun S1 hh => ?_)
    refine WH.pick [0, 1] rfl ?_
    exact w_X12_windSize_b11 E hrt hlk hh

/-! HummingDiscModel.deadSize()I -/
abbrev rm_X12_deadSize : Room := { frames := 2, cells := 0, slots := 0, locals := 41 }
def s_X12_deadSize (S : HS) (h : Nat) : Option (Int32 × HS) := kO S ((some h)) 12 (fun a2 => kcv (s_X12_began S a2 14) (fun S1 => kO S1 ((some h)) 12 (fun a5 => kc (s_X12_plainSize S1 a5 ) (fun v4 S3 => some (-v4, S3)))))
set_option maxHeartbeats 4000000 in
set_option maxRecDepth 100000 in
theorem c_X12_deadSize (l : Launch) (b0 : Nat) (G : hG) (S S1 : HS) (h : Nat) (r : Int32) (hh : s_X12_deadSize S h  = some (r, S1)) : MH l yX12_deadSize wsX12_deadSize rm_X12_deadSize b0 G S [hrf b0 (some h)] (some (.int r)) S1 0 0 := by
  refine MH.ofW (cc := cX12_deadSize) (maxL := 1) (ret := (some .int)) (own := RX12) (lv0 := [(0, hrf b0 ((some h)))]) (by decide) rfl rfl (Nat.le_of_ble_eq_true rfl) rfl ?_
  intro p e s m args below meth c E hrt hlk hnm
  have hh : (kO S ((some h)) 12 (fun a2 => kcv (s_X12_began S a2 14) (fun S1 => kO S1 ((some h)) 12 (fun a5 => kc (s_X12_plainSize S1 a5 ) (fun v4 S3 => some (-v4, S3)))))) = some (r, S1) := hh
  refine rw_aload_n E (j0 := 0) rfl rfl dX12_deadSize_0 ?_
  refine rw_bipush E (v := 14) (by decide) dX12_deadSize_1 ?_
  refine rw_cVv E (As := [.int 14]) hh (by decide) rfl (fun _ _ hq => c_X12_began l b0 G _ _ _ _ hq) (cwV 1 E.2.2.2.2.1 gX12_deadSize_X12_began rfl rfl rfl (by decide +kernel) ⟨Nat.le_of_ble_eq_true rfl, Nat.le_of_ble_eq_true rfl⟩) rfl rfl (by (try simp only [List.map_cons, List.map_nil, List.sum_cons, List.sum_nil, hrf_cat, cat_i, cat_l, cat_r]) <;> decide) ⟨Nat.le_of_ble_eq_true rfl, Nat.le_of_ble_eq_true rfl⟩ dX12_deadSize_3 (fun S1 hh => ?_)
  refine rw_aload_n E (j0 := 0) rfl rfl dX12_deadSize_6 ?_
  refine rw_cVi E (As := []) hh (by decide) rfl (fun _ _ _ hq => c_X12_plainSize l b0 G _ _ _ _ hq) (cwV 0 E.2.2.2.2.1 gX12_deadSize_X12_plainSize rfl rfl rfl (by decide +kernel) ⟨Nat.le_of_ble_eq_true rfl, Nat.le_of_ble_eq_true rfl⟩) rfl rfl (by (try simp only [List.map_cons, List.map_nil, List.sum_cons, List.sum_nil, hrf_cat, cat_i, cat_l, cat_r]) <;> decide) ⟨Nat.le_of_ble_eq_true rfl, Nat.le_of_ble_eq_true rfl⟩ dX12_deadSize_7 (fun v4 S3 hh => ?_)
  refine rw_ineg E dX12_deadSize_10 ?_
  exact rw_iret E hrt hlk hh (by decide) (by decide) dX12_deadSize_11

/-! HummingDiscModel.deadMark(I)I -/
abbrev rm_X12_deadMark : Room := { frames := 3, cells := 0, slots := 0, locals := 61 }
def s_X12_deadMark_b11 (h : Nat) (S : HS) (l1 : Int32) : Option (Int32 × HS) := kO S ((some h)) 12 (fun a2 => kcv (s_X12_began S a2 23) (fun S1 => kO S1 ((some h)) 12 (fun a5 => kc (s_X12_plainMark S1 a5 ) (fun v4 S3 => kO S3 ((some h)) 12 (fun a8 => kc (s_X12_deadSize S3 a8 ) (fun v7 S6 => if l1 = 5 then (some (-(v4 + v7), S6)) else (some (v4 + v7, S6))))))))
set_option maxHeartbeats 4000000 in
set_option maxRecDepth 100000 in
theorem w_X12_deadMark_b11 {p : Program} {l : Launch} {e : Env} {s : State} {m : MethodId} {args : Array Value} {below : List Frame} {meth : Method} {c : Code} {b0 : Nat} {G : hG} {S1 : HS} {r : Int32} {h : Nat} {S : HS} {l1 : Int32} (E : hE p s m args c b0 G cX12_deadMark RX12 3 wsX12_deadMark) (hrt : meth.sig.returnType = (some .int)) (hlk : meth.locks = false) (hh : s_X12_deadMark_b11 h S l1 = some (r, S1)) : WH p l e rm_X12_deadMark s m args below meth c b0 G 3 0 0 (MQ below (hQ b0 G (some (.int r)) S1) args s 0 0 (hA b0)) S 11 [(0, hrf b0 ((some h))), (1, .int l1)] [] := by
  have hh : (kO S ((some h)) 12 (fun a2 => kcv (s_X12_began S a2 23) (fun S1 => kO S1 ((some h)) 12 (fun a5 => kc (s_X12_plainMark S1 a5 ) (fun v4 S3 => kO S3 ((some h)) 12 (fun a8 => kc (s_X12_deadSize S3 a8 ) (fun v7 S6 => if l1 = 5 then (some (-(v4 + v7), S6)) else (some (v4 + v7, S6))))))))) = some (r, S1) := hh
  refine rw_aload_n E (j0 := 0) rfl rfl dX12_deadMark_11 ?_
  refine rw_bipush E (v := 23) (by decide) dX12_deadMark_12 ?_
  refine rw_cVv E (As := [.int 23]) hh (by decide) rfl (fun _ _ hq => c_X12_began l b0 G _ _ _ _ hq) (cwV 1 E.2.2.2.2.1 gX12_deadMark_X12_began rfl rfl rfl (by decide +kernel) ⟨Nat.le_of_ble_eq_true rfl, Nat.le_of_ble_eq_true rfl⟩) rfl rfl (by (try simp only [List.map_cons, List.map_nil, List.sum_cons, List.sum_nil, hrf_cat, cat_i, cat_l, cat_r]) <;> decide) ⟨Nat.le_of_ble_eq_true rfl, Nat.le_of_ble_eq_true rfl⟩ dX12_deadMark_14 (fun S1 hh => ?_)
  refine rw_aload_n E (j0 := 0) rfl rfl dX12_deadMark_17 ?_
  refine rw_cVi E (As := []) hh (by decide) rfl (fun _ _ _ hq => c_X12_plainMark l b0 G _ _ _ _ hq) (cwV 0 E.2.2.2.2.1 gX12_deadMark_X12_plainMark rfl rfl rfl (by decide +kernel) ⟨Nat.le_of_ble_eq_true rfl, Nat.le_of_ble_eq_true rfl⟩) rfl rfl (by (try simp only [List.map_cons, List.map_nil, List.sum_cons, List.sum_nil, hrf_cat, cat_i, cat_l, cat_r]) <;> decide) ⟨Nat.le_of_ble_eq_true rfl, Nat.le_of_ble_eq_true rfl⟩ dX12_deadMark_18 (fun v4 S3 hh => ?_)
  refine rw_istore_n E (lv2 := [(2, .int v4), (0, hrf b0 ((some h))), (1, .int l1)]) rfl (by decide) rfl dX12_deadMark_21 ?_
  refine rw_iload_n E (j0 := 0) rfl rfl dX12_deadMark_22 ?_
  refine rw_aload_n E (j0 := 1) rfl rfl dX12_deadMark_23 ?_
  refine rw_cVi E (As := []) hh (by decide) rfl (fun _ _ _ hq => c_X12_deadSize l b0 G _ _ _ _ hq) (cwV 0 E.2.2.2.2.1 gX12_deadMark_X12_deadSize rfl rfl rfl (by decide +kernel) ⟨Nat.le_of_ble_eq_true rfl, Nat.le_of_ble_eq_true rfl⟩) rfl rfl (by (try simp only [List.map_cons, List.map_nil, List.sum_cons, List.sum_nil, hrf_cat, cat_i, cat_l, cat_r]) <;> decide) ⟨Nat.le_of_ble_eq_true rfl, Nat.le_of_ble_eq_true rfl⟩ dX12_deadMark_24 (fun v7 S6 hh => ?_)
  refine rw_iadd E dX12_deadMark_27 ?_
  refine rw_istore_n E (lv2 := [(2, .int (v4 + v7)), (0, hrf b0 ((some h))), (1, .int l1)]) rfl (by decide) rfl dX12_deadMark_28 ?_
  refine rw_iload_n E (j0 := 2) rfl rfl dX12_deadMark_29 ?_
  refine rw_iconst E (v := 5) (by decide) dX12_deadMark_30 ?_
  refine rw_icmp_ne E hh (tgt := 39) (by decide) dX12_deadMark_31 (fun hh => ?_) (fun hh => ?_)
  · refine rw_iload_n E (j0 := 0) rfl rfl dX12_deadMark_39 ?_
    exact rw_iret E hrt hlk hh (by decide) (by decide) dX12_deadMark_40
  · refine rw_iload_n E (j0 := 0) rfl rfl dX12_deadMark_34 ?_
    refine rw_ineg E dX12_deadMark_35 ?_
    refine rw_goto E (tgt := 40) (by decide) dX12_deadMark_36 ?_
    exact rw_iret E hrt hlk hh (by decide) (by decide) dX12_deadMark_40
def s_X12_deadMark (S : HS) (h : Nat) (l1 : Int32) : Option (Int32 × HS) := if l1 = 5 then (kO S ((some h)) 12 (fun a2 => kcv (s_X12_began S a2 24) (fun S1 => s_X12_deadMark_b11 h S1 l1))) else (s_X12_deadMark_b11 h S l1)
set_option maxHeartbeats 4000000 in
set_option maxRecDepth 100000 in
theorem c_X12_deadMark (l : Launch) (b0 : Nat) (G : hG) (S S1 : HS) (h : Nat) (l1 : Int32) (r : Int32) (hh : s_X12_deadMark S h l1 = some (r, S1)) : MH l yX12_deadMark wsX12_deadMark rm_X12_deadMark b0 G S [hrf b0 (some h), .int l1] (some (.int r)) S1 0 0 := by
  refine MH.ofW (cc := cX12_deadMark) (maxL := 3) (ret := (some .int)) (own := RX12) (lv0 := [(0, hrf b0 ((some h))), (1, .int l1)]) (by decide) rfl rfl (Nat.le_of_ble_eq_true rfl) rfl ?_
  intro p e s m args below meth c E hrt hlk hnm
  have hh : (if l1 = 5 then (kO S ((some h)) 12 (fun a2 => kcv (s_X12_began S a2 24) (fun S1 => s_X12_deadMark_b11 h S1 l1))) else (s_X12_deadMark_b11 h S l1)) = some (r, S1) := hh
  refine rw_iload_n E (j0 := 1) rfl rfl dX12_deadMark_0 ?_
  refine rw_iconst E (v := 5) (by decide) dX12_deadMark_1 ?_
  refine rw_icmp_ne E hh (tgt := 11) (by decide) dX12_deadMark_2 (fun hh => ?_) (fun hh => ?_)
  · refine WH.pick [0, 1] rfl ?_
    exact w_X12_deadMark_b11 E hrt hlk hh
  · refine rw_aload_n E (j0 := 0) rfl rfl dX12_deadMark_5 ?_
    refine rw_bipush E (v := 24) (by decide) dX12_deadMark_6 ?_
    refine rw_cVv E (As := [.int 24]) hh (by decide) rfl (fun _ _ hq => c_X12_began l b0 G _ _ _ _ hq) (cwV 1 E.2.2.2.2.1 gX12_deadMark_X12_began rfl rfl rfl (by decide +kernel) ⟨Nat.le_of_ble_eq_true rfl, Nat.le_of_ble_eq_true rfl⟩) rfl rfl (by (try simp only [List.map_cons, List.map_nil, List.sum_cons, List.sum_nil, hrf_cat, cat_i, cat_l, cat_r]) <;> decide) ⟨Nat.le_of_ble_eq_true rfl, Nat.le_of_ble_eq_true rfl⟩ dX12_deadMark_8 (fun S1 hh => ?_)
    refine WH.pick [0, 1] rfl ?_
    exact w_X12_deadMark_b11 E hrt hlk hh

/-! HummingDiscModel.ask(I)I -/
abbrev rm_X12_ask : Room := { frames := 4, cells := 0, slots := 0, locals := 85 }
theorem i_X12_ask_12 : ∀ w ∈ wsX120, w ∈ wsX12_ask := fun _ h => List.mem_cons_of_mem _ (List.mem_append_right _ (h))
def s_X12_ask (S : HS) (h : Nat) (l1 : Int32) : Option (Int32 × HS) := kwI S ((some h)) 12 0 0 (fun S1 => kP S1 ((some h)) 12 24 (fun v2 => kA S1 v2 14 0 (fun v3 => if v3 = 0 then (some ((-1000002), S1)) else (kc (s_X12_in S1 l1.toInt64 0 1) (fun v5 S4 => if v5 = 0 then (some ((-1000001), S4)) else (kwI S4 ((some h)) 12 31 0 (fun S6 => kO S6 ((some h)) 12 (fun a9 => kc (s_X12_kindNow S6 a9 ) (fun v8 S7 => kc (s_X12_isOf S7 v8 3) (fun v11 S10 => if v11 = 0 then (if l1 = 0 then (kO S10 ((some h)) 12 (fun a17 => kc (s_X12_windSize S10 a17 v8) (fun v16 S15 => some (v16, S15)))) else (kO S10 ((some h)) 12 (fun a14 => kc (s_X12_windMark S10 a14 v8) (fun v13 S12 => some (v13, S12))))) else (if l1 = 0 then (kO S10 ((some h)) 12 (fun a23 => kc (s_X12_deadSize S10 a23 ) (fun v22 S21 => some (v22, S21)))) else (kO S10 ((some h)) 12 (fun a20 => kc (s_X12_deadMark S10 a20 v8) (fun v19 S18 => some (v19, S18)))))))))))))))
set_option maxHeartbeats 4000000 in
set_option maxRecDepth 100000 in
theorem c_X12_ask (l : Launch) (b0 : Nat) (G : hG) (S S1 : HS) (h : Nat) (l1 : Int32) (r : Int32) (hh : s_X12_ask S h l1 = some (r, S1)) : MH l yX12_ask wsX12_ask rm_X12_ask b0 G S [hrf b0 (some h), .int l1] (some (.int r)) S1 0 0 := by
  refine MH.ofW (cc := cX12_ask) (maxL := 3) (ret := (some .int)) (own := RX12) (lv0 := [(0, hrf b0 ((some h))), (1, .int l1)]) (by decide) rfl rfl (Nat.le_of_ble_eq_true rfl) rfl ?_
  intro p e s m args below meth c E hrt hlk hnm
  have hh : (kwI S ((some h)) 12 0 0 (fun S1 => kP S1 ((some h)) 12 24 (fun v2 => kA S1 v2 14 0 (fun v3 => if v3 = 0 then (some ((-1000002), S1)) else (kc (s_X12_in S1 l1.toInt64 0 1) (fun v5 S4 => if v5 = 0 then (some ((-1000001), S4)) else (kwI S4 ((some h)) 12 31 0 (fun S6 => kO S6 ((some h)) 12 (fun a9 => kc (s_X12_kindNow S6 a9 ) (fun v8 S7 => kc (s_X12_isOf S7 v8 3) (fun v11 S10 => if v11 = 0 then (if l1 = 0 then (kO S10 ((some h)) 12 (fun a17 => kc (s_X12_windSize S10 a17 v8) (fun v16 S15 => some (v16, S15)))) else (kO S10 ((some h)) 12 (fun a14 => kc (s_X12_windMark S10 a14 v8) (fun v13 S12 => some (v13, S12))))) else (if l1 = 0 then (kO S10 ((some h)) 12 (fun a23 => kc (s_X12_deadSize S10 a23 ) (fun v22 S21 => some (v22, S21)))) else (kO S10 ((some h)) 12 (fun a20 => kc (s_X12_deadMark S10 a20 v8) (fun v19 S18 => some (v19, S18)))))))))))))))) = some (r, S1) := hh
  refine rw_aload_n E (j0 := 0) rfl rfl dX12_ask_0 ?_
  refine rw_iconst E (v := 0) (by decide) dX12_ask_1 ?_
  refine rw_putI E hh (C := RX12) (T := TX12) (N := 32) (ty0 := tyX12) rfl tyX12_ok nmX12 (by decide) i_X12_ask_12 (by decide) rfl (List.mem_of_getElem? (i := 1) (by decide +kernel)) rfl (Or.inl rfl) rfl dX12_ask_2 (fun S1 hh => ?_)
  refine rw_aload_n E (j0 := 0) rfl rfl dX12_ask_5 ?_
  refine rw_getP E hh (C := RX12) (T := TX12) (N := 32) rfl (by decide) i_X12_ask_12 (by decide) rfl (List.mem_of_getElem? (i := 2) (by decide +kernel)) rfl dX12_ask_6 (fun v2 hh => ?_)
  refine rw_iconst E (v := 0) (by decide) dX12_ask_9 ?_
  refine rw_iald E hh dX12_ask_10 (fun v3 hh => ?_)
  refine rw_if_ne E hh (tgt := 17) (by decide) dX12_ask_11 (fun hh => ?_) (fun hh => ?_)
  · refine rw_iload_n E (j0 := 1) rfl rfl dX12_ask_17 ?_
    refine rw_i2l E dX12_ask_18 ?_
    refine rw_lconst E (v := 0) (by decide) dX12_ask_19 ?_
    refine rw_lconst E (v := 1) (by decide) dX12_ask_20 ?_
    refine rw_cSi E (As := [.long l1.toInt64, .long 0, .long 1]) hh (fun _ _ hq => c_X12_in l b0 G _ _ _ _ _ _ hq) (va_cwS 3 E.2.2.2.2.1 gX12_ask_X12_in rfl rfl rfl (by decide +kernel) ⟨Nat.le_of_ble_eq_true rfl, Nat.le_of_ble_eq_true rfl⟩) rfl rfl (by (try simp only [List.map_cons, List.map_nil, List.sum_cons, List.sum_nil, hrf_cat, cat_i, cat_l, cat_r]) <;> decide) ⟨Nat.le_of_ble_eq_true rfl, Nat.le_of_ble_eq_true rfl⟩ dX12_ask_21 (fun v5 S4 hh => ?_)
    refine rw_if_ne E hh (tgt := 30) (by decide) dX12_ask_24 (fun hh => ?_) (fun hh => ?_)
    · refine rw_aload_n E (j0 := 0) rfl rfl dX12_ask_30 ?_
      refine rw_iconst E (v := 0) (by decide) dX12_ask_31 ?_
      refine rw_putI E hh (C := RX12) (T := TX12) (N := 32) (ty0 := tyX12) rfl tyX12_ok nmX12 (by decide) i_X12_ask_12 (by decide) rfl (List.mem_of_getElem? (i := 5) (by decide +kernel)) rfl (Or.inl rfl) rfl dX12_ask_32 (fun S6 hh => ?_)
      refine rw_aload_n E (j0 := 0) rfl rfl dX12_ask_35 ?_
      refine rw_cVi E (As := []) hh (by decide) rfl (fun _ _ _ hq => c_X12_kindNow l b0 G _ _ _ _ hq) (cwV 0 E.2.2.2.2.1 gX12_ask_X12_kindNow rfl rfl rfl (by decide +kernel) ⟨Nat.le_of_ble_eq_true rfl, Nat.le_of_ble_eq_true rfl⟩) rfl rfl (by (try simp only [List.map_cons, List.map_nil, List.sum_cons, List.sum_nil, hrf_cat, cat_i, cat_l, cat_r]) <;> decide) ⟨Nat.le_of_ble_eq_true rfl, Nat.le_of_ble_eq_true rfl⟩ dX12_ask_36 (fun v8 S7 hh => ?_)
      refine rw_istore_n E (lv2 := [(2, .int v8), (0, hrf b0 ((some h))), (1, .int l1)]) rfl (by decide) rfl dX12_ask_39 ?_
      refine rw_iload_n E (j0 := 0) rfl rfl dX12_ask_40 ?_
      refine rw_iconst E (v := 3) (by decide) dX12_ask_41 ?_
      refine rw_cSi E (As := [.int v8, .int 3]) hh (fun _ _ hq => c_X12_isOf l b0 G _ _ _ _ _ hq) (va_cwS 2 E.2.2.2.2.1 gX12_ask_X12_isOf rfl rfl rfl (by decide +kernel) ⟨Nat.le_of_ble_eq_true rfl, Nat.le_of_ble_eq_true rfl⟩) rfl rfl (by (try simp only [List.map_cons, List.map_nil, List.sum_cons, List.sum_nil, hrf_cat, cat_i, cat_l, cat_r]) <;> decide) ⟨Nat.le_of_ble_eq_true rfl, Nat.le_of_ble_eq_true rfl⟩ dX12_ask_42 (fun v11 S10 hh => ?_)
      refine rw_if_eq E hh (tgt := 65) (by decide) dX12_ask_45 (fun hh => ?_) (fun hh => ?_)
      · refine rw_iload_n E (j0 := 2) rfl rfl dX12_ask_65 ?_
        refine rw_if_ne E hh (tgt := 77) (by decide) dX12_ask_66 (fun hh => ?_) (fun hh => ?_)
        · refine rw_aload_n E (j0 := 1) rfl rfl dX12_ask_77 ?_
          refine rw_iload_n E (j0 := 0) rfl rfl dX12_ask_78 ?_
          refine rw_cVi E (As := [.int v8]) hh (by decide) rfl (fun _ _ _ hq => c_X12_windMark l b0 G _ _ _ _ _ hq) (cwV 1 E.2.2.2.2.1 gX12_ask_X12_windMark rfl rfl rfl (by decide +kernel) ⟨Nat.le_of_ble_eq_true rfl, Nat.le_of_ble_eq_true rfl⟩) rfl rfl (by (try simp only [List.map_cons, List.map_nil, List.sum_cons, List.sum_nil, hrf_cat, cat_i, cat_l, cat_r]) <;> decide) ⟨Nat.le_of_ble_eq_true rfl, Nat.le_of_ble_eq_true rfl⟩ dX12_ask_79 (fun v13 S12 hh => ?_)
          exact rw_iret E hrt hlk hh (by decide) (by decide) dX12_ask_82
        · refine rw_aload_n E (j0 := 1) rfl rfl dX12_ask_69 ?_
          refine rw_iload_n E (j0 := 0) rfl rfl dX12_ask_70 ?_
          refine rw_cVi E (As := [.int v8]) hh (by decide) rfl (fun _ _ _ hq => c_X12_windSize l b0 G _ _ _ _ _ hq) (cwV 1 E.2.2.2.2.1 gX12_ask_X12_windSize rfl rfl rfl (by decide +kernel) ⟨Nat.le_of_ble_eq_true rfl, Nat.le_of_ble_eq_true rfl⟩) rfl rfl (by (try simp only [List.map_cons, List.map_nil, List.sum_cons, List.sum_nil, hrf_cat, cat_i, cat_l, cat_r]) <;> decide) ⟨Nat.le_of_ble_eq_true rfl, Nat.le_of_ble_eq_true rfl⟩ dX12_ask_71 (fun v16 S15 hh => ?_)
          refine rw_goto E (tgt := 82) (by decide) dX12_ask_74 ?_
          exact rw_iret E hrt hlk hh (by decide) (by decide) dX12_ask_82
      · refine rw_iload_n E (j0 := 2) rfl rfl dX12_ask_48 ?_
        refine rw_if_ne E hh (tgt := 59) (by decide) dX12_ask_49 (fun hh => ?_) (fun hh => ?_)
        · refine rw_aload_n E (j0 := 1) rfl rfl dX12_ask_59 ?_
          refine rw_iload_n E (j0 := 0) rfl rfl dX12_ask_60 ?_
          refine rw_cVi E (As := [.int v8]) hh (by decide) rfl (fun _ _ _ hq => c_X12_deadMark l b0 G _ _ _ _ _ hq) (cwV 1 E.2.2.2.2.1 gX12_ask_X12_deadMark rfl rfl rfl (by decide +kernel) ⟨Nat.le_of_ble_eq_true rfl, Nat.le_of_ble_eq_true rfl⟩) rfl rfl (by (try simp only [List.map_cons, List.map_nil, List.sum_cons, List.sum_nil, hrf_cat, cat_i, cat_l, cat_r]) <;> decide) ⟨Nat.le_of_ble_eq_true rfl, Nat.le_of_ble_eq_true rfl⟩ dX12_ask_61 (fun v19 S18 hh => ?_)
          exact rw_iret E hrt hlk hh (by decide) (by decide) dX12_ask_64
        · refine rw_aload_n E (j0 := 1) rfl rfl dX12_ask_52 ?_
          refine rw_cVi E (As := []) hh (by decide) rfl (fun _ _ _ hq => c_X12_deadSize l b0 G _ _ _ _ hq) (cwV 0 E.2.2.2.2.1 gX12_ask_X12_deadSize rfl rfl rfl (by decide +kernel) ⟨Nat.le_of_ble_eq_true rfl, Nat.le_of_ble_eq_true rfl⟩) rfl rfl (by (try simp only [List.map_cons, List.map_nil, List.sum_cons, List.sum_nil, hrf_cat, cat_i, cat_l, cat_r]) <;> decide) ⟨Nat.le_of_ble_eq_true rfl, Nat.le_of_ble_eq_true rfl⟩ dX12_ask_53 (fun v22 S21 hh => ?_)
          refine rw_goto E (tgt := 64) (by decide) dX12_ask_56 ?_
          exact rw_iret E hrt hlk hh (by decide) (by decide) dX12_ask_64
    · refine rw_ldc E (v := (-1000001)) (List.mem_of_getElem? (i := 4) (by decide +kernel)) dX12_ask_27 ?_
      exact rw_iret E hrt hlk hh (by decide) (by decide) dX12_ask_29
  · refine rw_ldc E (v := (-1000002)) (List.mem_of_getElem? (i := 3) (by decide +kernel)) dX12_ask_14 ?_
    exact rw_iret E hrt hlk hh (by decide) (by decide) dX12_ask_16

/-! HummingDiscModel.trace(I)I -/
abbrev rm_X12_trace : Room := { frames := 1, cells := 0, slots := 0, locals := 25 }
theorem i_X12_trace_12 : ∀ w ∈ wsX120, w ∈ wsX12_trace := fun _ h => List.mem_cons_of_mem _ (List.mem_append_right _ (h))
def s_X12_trace (S : HS) (h : Nat) (l1 : Int32) : Option (Int32 × HS) := kwI S ((some h)) 12 0 0 (fun S1 => kI S1 ((some h)) 12 31 (fun v2 => kc (s_X12_in S1 l1.toInt64 0 ((v2 - 1 : Int32).toInt64)) (fun v4 S3 => if v4 = 0 then (some ((-1000000), S3)) else (kP S3 ((some h)) 12 30 (fun v5 => kA S3 v5 14 l1 (fun v6 => some (v6, S3)))))))
set_option maxHeartbeats 4000000 in
set_option maxRecDepth 100000 in
theorem c_X12_trace (l : Launch) (b0 : Nat) (G : hG) (S S1 : HS) (h : Nat) (l1 : Int32) (r : Int32) (hh : s_X12_trace S h l1 = some (r, S1)) : MH l yX12_trace wsX12_trace rm_X12_trace b0 G S [hrf b0 (some h), .int l1] (some (.int r)) S1 0 0 := by
  refine MH.ofW (cc := cX12_trace) (maxL := 2) (ret := (some .int)) (own := RX12) (lv0 := [(0, hrf b0 ((some h))), (1, .int l1)]) (by decide) rfl rfl (Nat.le_of_ble_eq_true rfl) rfl ?_
  intro p e s m args below meth c E hrt hlk hnm
  have hh : (kwI S ((some h)) 12 0 0 (fun S1 => kI S1 ((some h)) 12 31 (fun v2 => kc (s_X12_in S1 l1.toInt64 0 ((v2 - 1 : Int32).toInt64)) (fun v4 S3 => if v4 = 0 then (some ((-1000000), S3)) else (kP S3 ((some h)) 12 30 (fun v5 => kA S3 v5 14 l1 (fun v6 => some (v6, S3)))))))) = some (r, S1) := hh
  refine rw_aload_n E (j0 := 0) rfl rfl dX12_trace_0 ?_
  refine rw_iconst E (v := 0) (by decide) dX12_trace_1 ?_
  refine rw_putI E hh (C := RX12) (T := TX12) (N := 32) (ty0 := tyX12) rfl tyX12_ok nmX12 (by decide) i_X12_trace_12 (by decide) rfl (List.mem_of_getElem? (i := 1) (by decide +kernel)) rfl (Or.inl rfl) rfl dX12_trace_2 (fun S1 hh => ?_)
  refine rw_iload_n E (j0 := 1) rfl rfl dX12_trace_5 ?_
  refine rw_i2l E dX12_trace_6 ?_
  refine rw_lconst E (v := 0) (by decide) dX12_trace_7 ?_
  refine rw_aload_n E (j0 := 0) rfl rfl dX12_trace_8 ?_
  refine rw_getI E hh (C := RX12) (T := TX12) (N := 32) rfl (by decide) i_X12_trace_12 (by decide) rfl (List.mem_of_getElem? (i := 2) (by decide +kernel)) rfl dX12_trace_9 (fun v2 hh => ?_)
  refine rw_iconst E (v := 1) (by decide) dX12_trace_12 ?_
  refine rw_isub E dX12_trace_13 ?_
  refine rw_i2l E dX12_trace_14 ?_
  refine rw_cSi E (As := [.long l1.toInt64, .long 0, .long ((v2 - 1 : Int32).toInt64)]) hh (fun _ _ hq => c_X12_in l b0 G _ _ _ _ _ _ hq) (va_cwS 3 E.2.2.2.2.1 gX12_trace_X12_in rfl rfl rfl (by decide +kernel) ⟨Nat.le_of_ble_eq_true rfl, Nat.le_of_ble_eq_true rfl⟩) rfl rfl (by (try simp only [List.map_cons, List.map_nil, List.sum_cons, List.sum_nil, hrf_cat, cat_i, cat_l, cat_r]) <;> decide) ⟨Nat.le_of_ble_eq_true rfl, Nat.le_of_ble_eq_true rfl⟩ dX12_trace_15 (fun v4 S3 hh => ?_)
  refine rw_if_eq E hh (tgt := 30) (by decide) dX12_trace_18 (fun hh => ?_) (fun hh => ?_)
  · refine rw_ldc E (v := (-1000000)) (List.mem_of_getElem? (i := 4) (by decide +kernel)) dX12_trace_30 ?_
    exact rw_iret E hrt hlk hh (by decide) (by decide) dX12_trace_32
  · refine rw_aload_n E (j0 := 0) rfl rfl dX12_trace_21 ?_
    refine rw_getP E hh (C := RX12) (T := TX12) (N := 32) rfl (by decide) i_X12_trace_12 (by decide) rfl (List.mem_of_getElem? (i := 3) (by decide +kernel)) rfl dX12_trace_22 (fun v5 hh => ?_)
    refine rw_iload_n E (j0 := 1) rfl rfl dX12_trace_25 ?_
    refine rw_iald E hh dX12_trace_26 (fun v6 hh => ?_)
    refine rw_goto E (tgt := 32) (by decide) dX12_trace_27 ?_
    exact rw_iret E hrt hlk hh (by decide) (by decide) dX12_trace_32

/-! HummingDiscModel.count(I)I -/
abbrev rm_X12_count : Room := { frames := 0, cells := 0, slots := 0, locals := 0 }
theorem i_X12_count_12 : ∀ w ∈ wsX120, w ∈ wsX12_count := fun _ h => List.mem_cons_of_mem _ (List.mem_append_right _ (h))
def s_X12_count_b71 (j50 : HS → Int32 → Int32 → Option (Int32 × HS)) (h : Nat) (S : HS) (l3 : Int32) (k0 : Int32) (k1 : Int32) : Option (Int32 × HS) := j50 S (k0 + k1) (l3 + 1)
set_option maxHeartbeats 4000000 in
set_option maxRecDepth 100000 in
theorem w_X12_count_b71 {p : Program} {l : Launch} {e : Env} {s : State} {m : MethodId} {args : Array Value} {below : List Frame} {meth : Method} {c : Code} {b0 : Nat} {G : hG} {S1 : HS} {r : Int32} {j50 : HS → Int32 → Int32 → Option (Int32 × HS)} {h : Nat} {S : HS} {l3 : Int32} {k0 : Int32} {k1 : Int32} (E : hE p s m args c b0 G cX12_count RX12 4 wsX12_count) (hrt : meth.sig.returnType = (some .int)) (hlk : meth.locks = false) (hj50 : ∀ (S : HS) (l2 : Int32) (l3 : Int32), j50 S l2 l3 = some (r, S1) → WH p l e rm_X12_count s m args below meth c b0 G 4 0 0 (MQ below (hQ b0 G (some (.int r)) S1) args s 0 0 (hA b0)) S 50 [(0, hrf b0 ((some h))), (2, .int l2), (3, .int l3)] []) (hh : s_X12_count_b71 j50 h S l3 k0 k1 = some (r, S1)) : WH p l e rm_X12_count s m args below meth c b0 G 4 0 0 (MQ below (hQ b0 G (some (.int r)) S1) args s 0 0 (hA b0)) S 71 [(0, hrf b0 ((some h))), (3, .int l3)] [.int k1, .int k0] := by
  have hh : (j50 S (k0 + k1) (l3 + 1)) = some (r, S1) := hh
  refine rw_iadd E dX12_count_71 ?_
  refine rw_istore_n E (lv2 := [(2, .int (k0 + k1)), (0, hrf b0 ((some h))), (3, .int l3)]) rfl (by decide) rfl dX12_count_72 ?_
  refine rw_iinc E (v := l3 + 1) (lv2 := [(3, .int (l3 + 1)), (2, .int (k0 + k1)), (0, hrf b0 ((some h)))]) (j0 := 2) rfl rfl (by decide) rfl dX12_count_73 ?_
  refine rw_goto E (tgt := 50) (by decide) dX12_count_76 ?_
  refine WH.pick [2, 1, 0] rfl ?_
  exact hj50 _ _ _ hh
def s_X12_count_b50 (j50 : HS → Int32 → Int32 → Option (Int32 × HS)) (h : Nat) (S : HS) (l2 : Int32) (l3 : Int32) : Option (Int32 × HS) := if 8 ≤ l3 then (some (l2, S)) else (kP S ((some h)) 12 2 (fun v1 => kA S v1 14 l3 (fun v2 => if v2 < 0 then (s_X12_count_b71 j50 h S l3 l2 0) else (s_X12_count_b71 j50 h S l3 l2 1))))
set_option maxHeartbeats 4000000 in
set_option maxRecDepth 100000 in
theorem w_X12_count_b50 {p : Program} {l : Launch} {e : Env} {s : State} {m : MethodId} {args : Array Value} {below : List Frame} {meth : Method} {c : Code} {b0 : Nat} {G : hG} {S1 : HS} {r : Int32} {j50 : HS → Int32 → Int32 → Option (Int32 × HS)} {h : Nat} {S : HS} {l2 : Int32} {l3 : Int32} (E : hE p s m args c b0 G cX12_count RX12 4 wsX12_count) (hrt : meth.sig.returnType = (some .int)) (hlk : meth.locks = false) (hj50 : ∀ (S : HS) (l2 : Int32) (l3 : Int32), j50 S l2 l3 = some (r, S1) → WH p l e rm_X12_count s m args below meth c b0 G 4 0 0 (MQ below (hQ b0 G (some (.int r)) S1) args s 0 0 (hA b0)) S 50 [(0, hrf b0 ((some h))), (2, .int l2), (3, .int l3)] []) (hh : s_X12_count_b50 j50 h S l2 l3 = some (r, S1)) : WH p l e rm_X12_count s m args below meth c b0 G 4 0 0 (MQ below (hQ b0 G (some (.int r)) S1) args s 0 0 (hA b0)) S 50 [(0, hrf b0 ((some h))), (2, .int l2), (3, .int l3)] [] := by
  have hh : (if 8 ≤ l3 then (some (l2, S)) else (kP S ((some h)) 12 2 (fun v1 => kA S v1 14 l3 (fun v2 => if v2 < 0 then (s_X12_count_b71 j50 h S l3 l2 0) else (s_X12_count_b71 j50 h S l3 l2 1))))) = some (r, S1) := hh
  refine rw_iload_n E (j0 := 2) rfl rfl dX12_count_50 ?_
  refine rw_bipush E (v := 8) (by decide) dX12_count_51 ?_
  refine rw_icmp_ge E hh (tgt := 79) (by decide) dX12_count_53 (fun hh => ?_) (fun hh => ?_)
  · refine rw_iload_n E (j0 := 1) rfl rfl dX12_count_79 ?_
    exact rw_iret E hrt hlk hh (by decide) (by decide) dX12_count_80
  · refine rw_iload_n E (j0 := 1) rfl rfl dX12_count_56 ?_
    refine rw_aload_n E (j0 := 0) rfl rfl dX12_count_57 ?_
    refine rw_getP E hh (C := RX12) (T := TX12) (N := 32) rfl (by decide) i_X12_count_12 (by decide) rfl (List.mem_of_getElem? (i := 2) (by decide +kernel)) rfl dX12_count_58 (fun v1 hh => ?_)
    refine rw_iload_n E (j0 := 2) rfl rfl dX12_count_61 ?_
    refine rw_iald E hh dX12_count_62 (fun v2 hh => ?_)
    refine rw_if_lt E hh (tgt := 70) (by decide) dX12_count_63 (fun hh => ?_) (fun hh => ?_)
    · refine rw_iconst E (v := 0) (by decide) dX12_count_70 ?_
      refine WH.pick [0, 2] rfl ?_
      exact w_X12_count_b71 E hrt hlk hj50 hh
    · refine rw_iconst E (v := 1) (by decide) dX12_count_66 ?_
      refine rw_goto E (tgt := 71) (by decide) dX12_count_67 ?_
      refine WH.pick [0, 2] rfl ?_
      exact w_X12_count_b71 E hrt hlk hj50 hh
def s_X12_count_L50 (h : Nat) : Nat → HS → Int32 → Int32 → Option (Int32 × HS)
  | 0 => fun _ _ _ => none
  | n + 1 => s_X12_count_b50 (s_X12_count_L50 h n) h
set_option maxHeartbeats 4000000 in
set_option maxRecDepth 100000 in
theorem w_X12_count_L50 {p : Program} {l : Launch} {e : Env} {s : State} {m : MethodId} {args : Array Value} {below : List Frame} {meth : Method} {c : Code} {b0 : Nat} {G : hG} {S1 : HS} {r : Int32} {h : Nat} (E : hE p s m args c b0 G cX12_count RX12 4 wsX12_count) (hrt : meth.sig.returnType = (some .int)) (hlk : meth.locks = false) : ∀ (n : Nat) (S : HS) (l2 : Int32) (l3 : Int32), s_X12_count_L50 h n S l2 l3 = some (r, S1) → WH p l e rm_X12_count s m args below meth c b0 G 4 0 0 (MQ below (hQ b0 G (some (.int r)) S1) args s 0 0 (hA b0)) S 50 [(0, hrf b0 ((some h))), (2, .int l2), (3, .int l3)] [] := by
  intro n
  induction n with
  | zero => intro _ _ _ hh; exact absurd hh (by simp [s_X12_count_L50])
  | succ n ih => intro _ _ _ hh; exact w_X12_count_b50 E hrt hlk  ih hh
def s_X12_count_b92 (j92 : HS → Int32 → Int32 → Option (Int32 × HS)) (h : Nat) (S : HS) (l2 : Int32) (l3 : Int32) : Option (Int32 × HS) := kP S ((some h)) 12 5 (fun v1 => kA S v1 14 2 (fun v2 => if v2 ≤ l3 then (some (l2, S)) else (kP S ((some h)) 12 5 (fun v3 => kA S v3 14 (31 + (25 * l3)) (fun v4 => j92 S (l2 + v4) (l3 + 1))))))
set_option maxHeartbeats 4000000 in
set_option maxRecDepth 100000 in
theorem w_X12_count_b92 {p : Program} {l : Launch} {e : Env} {s : State} {m : MethodId} {args : Array Value} {below : List Frame} {meth : Method} {c : Code} {b0 : Nat} {G : hG} {S1 : HS} {r : Int32} {j92 : HS → Int32 → Int32 → Option (Int32 × HS)} {h : Nat} {S : HS} {l2 : Int32} {l3 : Int32} (E : hE p s m args c b0 G cX12_count RX12 4 wsX12_count) (hrt : meth.sig.returnType = (some .int)) (hlk : meth.locks = false) (hj92 : ∀ (S : HS) (l2 : Int32) (l3 : Int32), j92 S l2 l3 = some (r, S1) → WH p l e rm_X12_count s m args below meth c b0 G 4 0 0 (MQ below (hQ b0 G (some (.int r)) S1) args s 0 0 (hA b0)) S 92 [(0, hrf b0 ((some h))), (2, .int l2), (3, .int l3)] []) (hh : s_X12_count_b92 j92 h S l2 l3 = some (r, S1)) : WH p l e rm_X12_count s m args below meth c b0 G 4 0 0 (MQ below (hQ b0 G (some (.int r)) S1) args s 0 0 (hA b0)) S 92 [(0, hrf b0 ((some h))), (2, .int l2), (3, .int l3)] [] := by
  have hh : (kP S ((some h)) 12 5 (fun v1 => kA S v1 14 2 (fun v2 => if v2 ≤ l3 then (some (l2, S)) else (kP S ((some h)) 12 5 (fun v3 => kA S v3 14 (31 + (25 * l3)) (fun v4 => j92 S (l2 + v4) (l3 + 1))))))) = some (r, S1) := hh
  refine rw_iload_n E (j0 := 2) rfl rfl dX12_count_92 ?_
  refine rw_aload_n E (j0 := 0) rfl rfl dX12_count_93 ?_
  refine rw_getP E hh (C := RX12) (T := TX12) (N := 32) rfl (by decide) i_X12_count_12 (by decide) rfl (List.mem_of_getElem? (i := 3) (by decide +kernel)) rfl dX12_count_94 (fun v1 hh => ?_)
  refine rw_iconst E (v := 2) (by decide) dX12_count_97 ?_
  refine rw_iald E hh dX12_count_98 (fun v2 hh => ?_)
  refine rw_icmp_ge E hh (tgt := 123) (by decide) dX12_count_99 (fun hh => ?_) (fun hh => ?_)
  · refine rw_iload_n E (j0 := 1) rfl rfl dX12_count_123 ?_
    exact rw_iret E hrt hlk hh (by decide) (by decide) dX12_count_124
  · refine rw_iload_n E (j0 := 1) rfl rfl dX12_count_102 ?_
    refine rw_aload_n E (j0 := 0) rfl rfl dX12_count_103 ?_
    refine rw_getP E hh (C := RX12) (T := TX12) (N := 32) rfl (by decide) i_X12_count_12 (by decide) rfl (List.mem_of_getElem? (i := 3) (by decide +kernel)) rfl dX12_count_104 (fun v3 hh => ?_)
    refine rw_bipush E (v := 31) (by decide) dX12_count_107 ?_
    refine rw_bipush E (v := 25) (by decide) dX12_count_109 ?_
    refine rw_iload_n E (j0 := 2) rfl rfl dX12_count_111 ?_
    refine rw_imul E dX12_count_112 ?_
    refine rw_iadd E dX12_count_113 ?_
    refine rw_iald E hh dX12_count_114 (fun v4 hh => ?_)
    refine rw_iadd E dX12_count_115 ?_
    refine rw_istore_n E (lv2 := [(2, .int (l2 + v4)), (0, hrf b0 ((some h))), (3, .int l3)]) rfl (by decide) rfl dX12_count_116 ?_
    refine rw_iinc E (v := l3 + 1) (lv2 := [(3, .int (l3 + 1)), (2, .int (l2 + v4)), (0, hrf b0 ((some h)))]) (j0 := 2) rfl rfl (by decide) rfl dX12_count_117 ?_
    refine rw_goto E (tgt := 92) (by decide) dX12_count_120 ?_
    refine WH.pick [2, 1, 0] rfl ?_
    exact hj92 _ _ _ hh
def s_X12_count_L92 (h : Nat) : Nat → HS → Int32 → Int32 → Option (Int32 × HS)
  | 0 => fun _ _ _ => none
  | n + 1 => s_X12_count_b92 (s_X12_count_L92 h n) h
set_option maxHeartbeats 4000000 in
set_option maxRecDepth 100000 in
theorem w_X12_count_L92 {p : Program} {l : Launch} {e : Env} {s : State} {m : MethodId} {args : Array Value} {below : List Frame} {meth : Method} {c : Code} {b0 : Nat} {G : hG} {S1 : HS} {r : Int32} {h : Nat} (E : hE p s m args c b0 G cX12_count RX12 4 wsX12_count) (hrt : meth.sig.returnType = (some .int)) (hlk : meth.locks = false) : ∀ (n : Nat) (S : HS) (l2 : Int32) (l3 : Int32), s_X12_count_L92 h n S l2 l3 = some (r, S1) → WH p l e rm_X12_count s m args below meth c b0 G 4 0 0 (MQ below (hQ b0 G (some (.int r)) S1) args s 0 0 (hA b0)) S 92 [(0, hrf b0 ((some h))), (2, .int l2), (3, .int l3)] [] := by
  intro n
  induction n with
  | zero => intro _ _ _ hh; exact absurd hh (by simp [s_X12_count_L92])
  | succ n ih => intro _ _ _ hh; exact w_X12_count_b92 E hrt hlk  ih hh
def s_X12_count (S : HS) (h : Nat) (l1 : Int32) : Option (Int32 × HS) := kwI S ((some h)) 12 0 0 (fun S1 => if l1 = 0 then (s_X12_count_L50 h 100000 S1 0 0) else (if l1 = 1 then (kP S1 ((some h)) 12 5 (fun v2 => kA S1 v2 14 (l1 - 1) (fun v3 => some (v3, S1)))) else (if l1 = 2 then (kP S1 ((some h)) 12 5 (fun v4 => kA S1 v4 14 (l1 - 1) (fun v5 => some (v5, S1)))) else (if l1 = 3 then (kP S1 ((some h)) 12 5 (fun v6 => kA S1 v6 14 (l1 - 1) (fun v7 => some (v7, S1)))) else (if l1 = 4 then (s_X12_count_L92 h 100000 S1 0 0) else (if l1 = 5 then (kI S1 ((some h)) 12 9 (fun v8 => some (v8, S1))) else (some ((-1000001), S1))))))))
set_option maxHeartbeats 4000000 in
set_option maxRecDepth 100000 in
theorem c_X12_count (l : Launch) (b0 : Nat) (G : hG) (S S1 : HS) (h : Nat) (l1 : Int32) (r : Int32) (hh : s_X12_count S h l1 = some (r, S1)) : MH l yX12_count wsX12_count rm_X12_count b0 G S [hrf b0 (some h), .int l1] (some (.int r)) S1 0 0 := by
  refine MH.ofW (cc := cX12_count) (maxL := 4) (ret := (some .int)) (own := RX12) (lv0 := [(0, hrf b0 ((some h))), (1, .int l1)]) (by decide) rfl rfl (Nat.le_of_ble_eq_true rfl) rfl ?_
  intro p e s m args below meth c E hrt hlk hnm
  have hh : (kwI S ((some h)) 12 0 0 (fun S1 => if l1 = 0 then (s_X12_count_L50 h 100000 S1 0 0) else (if l1 = 1 then (kP S1 ((some h)) 12 5 (fun v2 => kA S1 v2 14 (l1 - 1) (fun v3 => some (v3, S1)))) else (if l1 = 2 then (kP S1 ((some h)) 12 5 (fun v4 => kA S1 v4 14 (l1 - 1) (fun v5 => some (v5, S1)))) else (if l1 = 3 then (kP S1 ((some h)) 12 5 (fun v6 => kA S1 v6 14 (l1 - 1) (fun v7 => some (v7, S1)))) else (if l1 = 4 then (s_X12_count_L92 h 100000 S1 0 0) else (if l1 = 5 then (kI S1 ((some h)) 12 9 (fun v8 => some (v8, S1))) else (some ((-1000001), S1))))))))) = some (r, S1) := hh
  refine rw_aload_n E (j0 := 0) rfl rfl dX12_count_0 ?_
  refine rw_iconst E (v := 0) (by decide) dX12_count_1 ?_
  refine rw_putI E hh (C := RX12) (T := TX12) (N := 32) (ty0 := tyX12) rfl tyX12_ok nmX12 (by decide) i_X12_count_12 (by decide) rfl (List.mem_of_getElem? (i := 1) (by decide +kernel)) rfl (Or.inl rfl) rfl dX12_count_2 (fun S1 hh => ?_)
  refine rw_iconst E (v := 0) (by decide) dX12_count_5 ?_
  refine rw_istore_n E (lv2 := [(2, .int 0), (0, hrf b0 ((some h))), (1, .int l1)]) rfl (by decide) rfl dX12_count_6 ?_
  refine rw_iload_n E (j0 := 2) rfl rfl dX12_count_7 ?_
  by_cases c8_0 : l1 = 0
  · rw [if_pos c8_0] at hh
    refine rw_swin E (v := 0) (tgt := 48) dX12_count_8 c8_0 (by decide) (by decide) rfl (by decide) ?_
    refine rw_iconst E (v := 0) (by decide) dX12_count_48 ?_
    refine rw_istore_n E (lv2 := [(3, .int 0), (2, .int 0), (0, hrf b0 ((some h))), (1, .int l1)]) rfl (by decide) rfl dX12_count_49 ?_
    refine WH.pick [2, 1, 0] rfl ?_
    exact w_X12_count_L50 E hrt hlk 100000 _ _ _ hh
  · rw [if_neg c8_0] at hh
    by_cases c8_1 : l1 = 1
    · rw [if_pos c8_1] at hh
      refine rw_swin E (v := 1) (tgt := 81) dX12_count_8 c8_1 (by decide) (by decide) rfl (by decide) ?_
      refine rw_aload_n E (j0 := 1) rfl rfl dX12_count_81 ?_
      refine rw_getP E hh (C := RX12) (T := TX12) (N := 32) rfl (by decide) i_X12_count_12 (by decide) rfl (List.mem_of_getElem? (i := 3) (by decide +kernel)) rfl dX12_count_82 (fun v2 hh => ?_)
      refine rw_iload_n E (j0 := 2) rfl rfl dX12_count_85 ?_
      refine rw_iconst E (v := 1) (by decide) dX12_count_86 ?_
      refine rw_isub E dX12_count_87 ?_
      refine rw_iald E hh dX12_count_88 (fun v3 hh => ?_)
      exact rw_iret E hrt hlk hh (by decide) (by decide) dX12_count_89
    · rw [if_neg c8_1] at hh
      by_cases c8_2 : l1 = 2
      · rw [if_pos c8_2] at hh
        refine rw_swin E (v := 2) (tgt := 81) dX12_count_8 c8_2 (by decide) (by decide) rfl (by decide) ?_
        refine rw_aload_n E (j0 := 1) rfl rfl dX12_count_81 ?_
        refine rw_getP E hh (C := RX12) (T := TX12) (N := 32) rfl (by decide) i_X12_count_12 (by decide) rfl (List.mem_of_getElem? (i := 3) (by decide +kernel)) rfl dX12_count_82 (fun v4 hh => ?_)
        refine rw_iload_n E (j0 := 2) rfl rfl dX12_count_85 ?_
        refine rw_iconst E (v := 1) (by decide) dX12_count_86 ?_
        refine rw_isub E dX12_count_87 ?_
        refine rw_iald E hh dX12_count_88 (fun v5 hh => ?_)
        exact rw_iret E hrt hlk hh (by decide) (by decide) dX12_count_89
      · rw [if_neg c8_2] at hh
        by_cases c8_3 : l1 = 3
        · rw [if_pos c8_3] at hh
          refine rw_swin E (v := 3) (tgt := 81) dX12_count_8 c8_3 (by decide) (by decide) rfl (by decide) ?_
          refine rw_aload_n E (j0 := 1) rfl rfl dX12_count_81 ?_
          refine rw_getP E hh (C := RX12) (T := TX12) (N := 32) rfl (by decide) i_X12_count_12 (by decide) rfl (List.mem_of_getElem? (i := 3) (by decide +kernel)) rfl dX12_count_82 (fun v6 hh => ?_)
          refine rw_iload_n E (j0 := 2) rfl rfl dX12_count_85 ?_
          refine rw_iconst E (v := 1) (by decide) dX12_count_86 ?_
          refine rw_isub E dX12_count_87 ?_
          refine rw_iald E hh dX12_count_88 (fun v7 hh => ?_)
          exact rw_iret E hrt hlk hh (by decide) (by decide) dX12_count_89
        · rw [if_neg c8_3] at hh
          by_cases c8_4 : l1 = 4
          · rw [if_pos c8_4] at hh
            refine rw_swin E (v := 4) (tgt := 90) dX12_count_8 c8_4 (by decide) (by decide) rfl (by decide) ?_
            refine rw_iconst E (v := 0) (by decide) dX12_count_90 ?_
            refine rw_istore_n E (lv2 := [(3, .int 0), (2, .int 0), (0, hrf b0 ((some h))), (1, .int l1)]) rfl (by decide) rfl dX12_count_91 ?_
            refine WH.pick [2, 1, 0] rfl ?_
            exact w_X12_count_L92 E hrt hlk 100000 _ _ _ hh
          · rw [if_neg c8_4] at hh
            by_cases c8_5 : l1 = 5
            · rw [if_pos c8_5] at hh
              refine rw_swin E (v := 5) (tgt := 125) dX12_count_8 c8_5 (by decide) (by decide) rfl (by decide) ?_
              refine rw_aload_n E (j0 := 1) rfl rfl dX12_count_125 ?_
              refine rw_getI E hh (C := RX12) (T := TX12) (N := 32) rfl (by decide) i_X12_count_12 (by decide) rfl (List.mem_of_getElem? (i := 4) (by decide +kernel)) rfl dX12_count_126 (fun v8 hh => ?_)
              exact rw_iret E hrt hlk hh (by decide) (by decide) dX12_count_129
            · rw [if_neg c8_5] at hh
              have n0 := lv_neT c8_0 (a := 0) rfl
              have n1 := lv_neT c8_1 (a := 1) rfl
              have n2 := lv_neT c8_2 (a := 2) rfl
              have n3 := lv_neT c8_3 (a := 3) rfl
              have n4 := lv_neT c8_4 (a := 4) rfl
              have n5 := lv_neT c8_5 (a := 5) rfl
              refine rw_swout E (tgt := 130) dX12_count_8 (by omega) (by decide) ?_
              refine rw_ldc E (v := (-1000001)) (List.mem_of_getElem? (i := 5) (by decide +kernel)) dX12_count_130 ?_
              exact rw_iret E hrt hlk hh (by decide) (by decide) dX12_count_132

/-! HummingDiscModel.status()I -/
abbrev rm_X12_status : Room := { frames := 0, cells := 0, slots := 0, locals := 0 }
theorem i_X12_status_12 : ∀ w ∈ wsX120, w ∈ wsX12_status := fun _ h => List.mem_cons_of_mem _ (List.mem_append_right _ (h))
def s_X12_status (S : HS) (h : Nat) : Option (Int32 × HS) := kwI S ((some h)) 12 0 0 (fun S1 => kI S1 ((some h)) 12 1 (fun v2 => some (v2, S1)))
set_option maxHeartbeats 4000000 in
set_option maxRecDepth 100000 in
theorem c_X12_status (l : Launch) (b0 : Nat) (G : hG) (S S1 : HS) (h : Nat) (r : Int32) (hh : s_X12_status S h  = some (r, S1)) : MH l yX12_status wsX12_status rm_X12_status b0 G S [hrf b0 (some h)] (some (.int r)) S1 0 0 := by
  refine MH.ofW (cc := cX12_status) (maxL := 1) (ret := (some .int)) (own := RX12) (lv0 := [(0, hrf b0 ((some h)))]) (by decide) rfl rfl (Nat.le_of_ble_eq_true rfl) rfl ?_
  intro p e s m args below meth c E hrt hlk hnm
  have hh : (kwI S ((some h)) 12 0 0 (fun S1 => kI S1 ((some h)) 12 1 (fun v2 => some (v2, S1)))) = some (r, S1) := hh
  refine rw_aload_n E (j0 := 0) rfl rfl dX12_status_0 ?_
  refine rw_iconst E (v := 0) (by decide) dX12_status_1 ?_
  refine rw_putI E hh (C := RX12) (T := TX12) (N := 32) (ty0 := tyX12) rfl tyX12_ok nmX12 (by decide) i_X12_status_12 (by decide) rfl (List.mem_of_getElem? (i := 1) (by decide +kernel)) rfl (Or.inl rfl) rfl dX12_status_2 (fun S1 hh => ?_)
  refine rw_aload_n E (j0 := 0) rfl rfl dX12_status_5 ?_
  refine rw_getI E hh (C := RX12) (T := TX12) (N := 32) rfl (by decide) i_X12_status_12 (by decide) rfl (List.mem_of_getElem? (i := 2) (by decide +kernel)) rfl dX12_status_6 (fun v2 hh => ?_)
  exact rw_iret E hrt hlk hh (by decide) (by decide) dX12_status_9
