/-! HummingDisc.<init>()V -/
abbrev rm_X11_init : Room := { frames := 3, cells := 36, slots := 1017, locals := 60 }
theorem i_X11_init_0 : ∀ w ∈ wsX00, w ∈ wsX11_init := fun _ h => List.mem_cons_of_mem _ (List.mem_append_left _ (List.mem_append_left _ (List.mem_append_right _ (h))))
theorem i_X11_init_4 : ∀ w ∈ wsX40, w ∈ wsX11_init := fun _ h => List.mem_cons_of_mem _ (List.mem_append_left _ (List.mem_append_left _ (List.mem_append_left _ (List.mem_append_right _ (h)))))
theorem i_X11_init_6 : ∀ w ∈ wsX60, w ∈ wsX11_init := fun _ h => List.mem_cons_of_mem _ (List.mem_append_left _ (List.mem_append_right _ (h)))
theorem i_X11_init_9 : ∀ w ∈ wsX90, w ∈ wsX11_init := fun _ h => List.mem_cons_of_mem _ (List.mem_append_left _ (List.mem_append_left _ (List.mem_append_left _ (List.mem_append_left _ (List.mem_append_right _ (h))))))
theorem i_X11_init_10 : ∀ w ∈ wsX100, w ∈ wsX11_init := fun _ h => List.mem_cons_of_mem _ (List.mem_append_left _ (List.mem_append_left _ (List.mem_append_left _ (List.mem_append_left _ (List.mem_append_left _ (List.mem_append_right _ (h)))))))
theorem i_X11_init_11 : ∀ w ∈ wsX110, w ∈ wsX11_init := fun _ h => List.mem_cons_of_mem _ (List.mem_append_left _ (List.mem_append_left _ (List.mem_append_left _ (List.mem_append_left _ (List.mem_append_left _ (List.mem_append_left _ (List.mem_append_right _ (h))))))))
def s_X11_init_b100 (j100 : HS → Int32 → Option (HS)) (h : Nat) (S : HS) (l1 : Int32) : Option (HS) := if 2 ≤ l1 then (some S) else (kP S ((some h)) 11 3 (fun v1 => knew S 9 (fun o2 S3 => kO S3 o2 9 (fun a5 => kcv (s_X9_init S3 a5 ) (fun S4 => kwAP S4 v1 21 9 l1 o2 (fun S6 => j100 S6 (l1 + 1)))))))
set_option maxHeartbeats 4000000 in
set_option maxRecDepth 100000 in
theorem w_X11_init_b100 {p : Program} {l : Launch} {e : Env} {s : State} {m : MethodId} {args : Array Value} {below : List Frame} {meth : Method} {c : Code} {b0 : Nat} {G : hG} {S1 : HS} {j100 : HS → Int32 → Option (HS)} {h : Nat} {S : HS} {l1 : Int32} (E : hE p s m args c b0 G cX11_init RX11 2 wsX11_init) (hrt : meth.sig.returnType = none) (hlk : meth.locks = false) (hnm : meth.name = "<init>") {cells slots nc ns : Nat} (hnc : 0 ≤ nc) (hns : 0 ≤ ns) (hc : cells + (2 + nc) ≤ 36) (hs : slots + (14 + ns) ≤ 1017) (hj100 : ∀ (S : HS) (l1 : Int32) (cells slots : Nat), cells + nc ≤ 36 → slots + ns ≤ 1017 → j100 S l1 = some S1 → WH p l e rm_X11_init s m args below meth c b0 G 2 cells slots (MQ below (hQ b0 G none S1) args s 36 1017 (hA b0)) S 100 [(0, hrf b0 ((some h))), (1, .int l1)] []) (hh : s_X11_init_b100 j100 h S l1 = some S1) : WH p l e rm_X11_init s m args below meth c b0 G 2 cells slots (MQ below (hQ b0 G none S1) args s 36 1017 (hA b0)) S 100 [(0, hrf b0 ((some h))), (1, .int l1)] [] := by
  have hh : (if 2 ≤ l1 then (some S) else (kP S ((some h)) 11 3 (fun v1 => knew S 9 (fun o2 S3 => kO S3 o2 9 (fun a5 => kcv (s_X9_init S3 a5 ) (fun S4 => kwAP S4 v1 21 9 l1 o2 (fun S6 => j100 S6 (l1 + 1)))))))) = some S1 := hh
  refine rw_iload_n E (j0 := 1) rfl rfl dX11_init_100 ?_
  refine rw_iconst E (v := 2) (by decide) dX11_init_101 ?_
  refine rw_icmp_ge E hh (tgt := 124) (by decide) dX11_init_102 (fun hh => ?_) (fun hh => ?_)
  · exact rw_vret E hrt hlk hh (show _ ≤ 36 by omega) (show _ ≤ 1017 by omega) dX11_init_124
  · refine rw_aload_n E (j0 := 0) rfl rfl dX11_init_105 ?_
    refine rw_getP E hh (C := RX11) (T := TX11) (N := 9) rfl (by decide) i_X11_init_11 (by decide) rfl (List.mem_of_getElem? (i := 14) (by decide +kernel)) rfl dX11_init_106 (fun v1 hh => ?_)
    refine rw_iload_n E (j0 := 1) rfl rfl dX11_init_109 ?_
    refine rw_new E hh (C := RX9) (T := TX9) (N := 2) (ty0 := tyX9) rfl tyX9_ok (by decide) i_X11_init_9 (List.mem_of_getElem? (i := 10) (by decide +kernel)) (List.mem_of_getElem? (i := 11) (by decide +kernel)) (List.mem_of_getElem? (i := 12) (by decide +kernel)) rfl hdv_9 (show _ ≤ 36 by omega) (show _ ≤ 1017 by omega) dX11_init_110 (fun o2 S3 hh => ?_)
    refine rw_dup E (hrf_cat _ _) dX11_init_113 ?_
    refine rw_cNv E (As := []) hh (fun _ _ hq => c_X9_init l b0 G _ _ _ hq) (by simp [hNw]) gX11_init_X9_init_n24 rfl rfl rfl (List.mem_of_getElem? (i := 12) (by decide +kernel)) (List.mem_of_getElem? (i := 32) (by decide +kernel)) rfl (by decide +kernel) ⟨Nat.le_of_ble_eq_true rfl, Nat.le_of_ble_eq_true rfl⟩ rfl rfl (by (try simp only [List.map_cons, List.map_nil, List.sum_cons, List.sum_nil, hrf_cat, cat_i, cat_l, cat_r]) <;> decide) ⟨(show _ ≤ 36 by omega), (show _ ≤ 1017 by omega)⟩ dX11_init_114 (fun S4 hh => ?_)
    refine rw_aast E hh (t0 := 8) (by decide) (by decide) (r := (RX9, TX9, 2)) rfl (fun _ => rfl) dX11_init_117 (fun S6 hh => ?_)
    refine rw_iinc E (v := l1 + 1) (lv2 := [(1, .int (l1 + 1)), (0, hrf b0 ((some h)))]) (j0 := 1) rfl rfl (by decide) rfl dX11_init_118 ?_
    refine rw_goto E (tgt := 100) (by decide) dX11_init_121 ?_
    refine WH.pick [1, 0] rfl ?_
    exact hj100 _ _ _ _ (by omega) (by omega) hh
def s_X11_init_L100 (h : Nat) : Nat → HS → Int32 → Option (HS)
  | 0 => fun _ _ => none
  | n + 1 => s_X11_init_b100 (s_X11_init_L100 h n) h
set_option maxHeartbeats 4000000 in
set_option maxRecDepth 100000 in
theorem w_X11_init_L100 {p : Program} {l : Launch} {e : Env} {s : State} {m : MethodId} {args : Array Value} {below : List Frame} {meth : Method} {c : Code} {b0 : Nat} {G : hG} {S1 : HS} {h : Nat} (E : hE p s m args c b0 G cX11_init RX11 2 wsX11_init) (hrt : meth.sig.returnType = none) (hlk : meth.locks = false) (hnm : meth.name = "<init>") : ∀ (n : Nat) (S : HS) (l1 : Int32) (cells slots : Nat), cells + (n * 2 + 0) ≤ 36 → slots + (n * 14 + 0) ≤ 1017 → s_X11_init_L100 h n S l1 = some S1 → WH p l e rm_X11_init s m args below meth c b0 G 2 cells slots (MQ below (hQ b0 G none S1) args s 36 1017 (hA b0)) S 100 [(0, hrf b0 ((some h))), (1, .int l1)] [] := by
  intro n
  induction n with
  | zero => intro _ _ _ _ _ _ hh; exact absurd hh (by simp [s_X11_init_L100])
  | succ n ih => intro _ _ cells slots hc hs hh; exact w_X11_init_b100 E hrt hlk hnm (nc := n * 2 + 0) (ns := n * 14 + 0) (by omega) (by omega) (by omega) (by omega) ih hh
def s_X11_init_b73 (j73 : HS → Int32 → Option (HS)) (h : Nat) (S : HS) (l1 : Int32) : Option (HS) := if 8 ≤ l1 then (s_X11_init_L100 h 3 S 0) else (kP S ((some h)) 11 0 (fun v1 => knew S 6 (fun o2 S3 => kO S3 o2 6 (fun a5 => kcv (s_X6_init S3 a5 ) (fun S4 => kwAP S4 v1 19 6 l1 o2 (fun S6 => j73 S6 (l1 + 1)))))))
set_option maxHeartbeats 4000000 in
set_option maxRecDepth 100000 in
theorem w_X11_init_b73 {p : Program} {l : Launch} {e : Env} {s : State} {m : MethodId} {args : Array Value} {below : List Frame} {meth : Method} {c : Code} {b0 : Nat} {G : hG} {S1 : HS} {j73 : HS → Int32 → Option (HS)} {h : Nat} {S : HS} {l1 : Int32} (E : hE p s m args c b0 G cX11_init RX11 2 wsX11_init) (hrt : meth.sig.returnType = none) (hlk : meth.locks = false) (hnm : meth.name = "<init>") {cells slots nc ns : Nat} (hnc : 6 ≤ nc) (hns : 42 ≤ ns) (hc : cells + (2 + nc) ≤ 36) (hs : slots + (44 + ns) ≤ 1017) (hj73 : ∀ (S : HS) (l1 : Int32) (cells slots : Nat), cells + nc ≤ 36 → slots + ns ≤ 1017 → j73 S l1 = some S1 → WH p l e rm_X11_init s m args below meth c b0 G 2 cells slots (MQ below (hQ b0 G none S1) args s 36 1017 (hA b0)) S 73 [(0, hrf b0 ((some h))), (1, .int l1)] []) (hh : s_X11_init_b73 j73 h S l1 = some S1) : WH p l e rm_X11_init s m args below meth c b0 G 2 cells slots (MQ below (hQ b0 G none S1) args s 36 1017 (hA b0)) S 73 [(0, hrf b0 ((some h))), (1, .int l1)] [] := by
  have hh : (if 8 ≤ l1 then (s_X11_init_L100 h 3 S 0) else (kP S ((some h)) 11 0 (fun v1 => knew S 6 (fun o2 S3 => kO S3 o2 6 (fun a5 => kcv (s_X6_init S3 a5 ) (fun S4 => kwAP S4 v1 19 6 l1 o2 (fun S6 => j73 S6 (l1 + 1)))))))) = some S1 := hh
  refine rw_iload_n E (j0 := 1) rfl rfl dX11_init_73 ?_
  refine rw_bipush E (v := 8) (by decide) dX11_init_74 ?_
  refine rw_icmp_ge E hh (tgt := 98) (by decide) dX11_init_76 (fun hh => ?_) (fun hh => ?_)
  · refine rw_iconst E (v := 0) (by decide) dX11_init_98 ?_
    refine rw_istore_n E (lv2 := [(1, .int 0), (0, hrf b0 ((some h)))]) rfl (by decide) rfl dX11_init_99 ?_
    refine WH.pick [1, 0] rfl ?_
    exact w_X11_init_L100 E hrt hlk hnm 3 _ _ _ _ (by omega) (by omega) hh
  · refine rw_aload_n E (j0 := 0) rfl rfl dX11_init_79 ?_
    refine rw_getP E hh (C := RX11) (T := TX11) (N := 9) rfl (by decide) i_X11_init_11 (by decide) rfl (List.mem_of_getElem? (i := 5) (by decide +kernel)) rfl dX11_init_80 (fun v1 hh => ?_)
    refine rw_iload_n E (j0 := 1) rfl rfl dX11_init_83 ?_
    refine rw_new E hh (C := RX6) (T := TX6) (N := 4) (ty0 := tyX6) rfl tyX6_ok (by decide) i_X11_init_6 (List.mem_of_getElem? (i := 4) (by decide +kernel)) (List.mem_of_getElem? (i := 25) (by decide +kernel)) (List.mem_of_getElem? (i := 26) (by decide +kernel)) rfl hdv_6 (show _ ≤ 36 by omega) (show _ ≤ 1017 by omega) dX11_init_84 (fun o2 S3 hh => ?_)
    refine rw_dup E (hrf_cat _ _) dX11_init_87 ?_
    refine rw_cNv E (As := []) hh (fun _ _ hq => c_X6_init l b0 G _ _ _ hq) (by simp [hNw]) gX11_init_X6_init_n52 rfl rfl rfl (List.mem_of_getElem? (i := 26) (by decide +kernel)) (List.mem_of_getElem? (i := 54) (by decide +kernel)) rfl (by decide +kernel) ⟨Nat.le_of_ble_eq_true rfl, Nat.le_of_ble_eq_true rfl⟩ rfl rfl (by (try simp only [List.map_cons, List.map_nil, List.sum_cons, List.sum_nil, hrf_cat, cat_i, cat_l, cat_r]) <;> decide) ⟨(show _ ≤ 36 by omega), (show _ ≤ 1017 by omega)⟩ dX11_init_88 (fun S4 hh => ?_)
    refine rw_aast E hh (t0 := 6) (by decide) (by decide) (r := (RX6, TX6, 4)) rfl (fun _ => rfl) dX11_init_91 (fun S6 hh => ?_)
    refine rw_iinc E (v := l1 + 1) (lv2 := [(1, .int (l1 + 1)), (0, hrf b0 ((some h)))]) (j0 := 1) rfl rfl (by decide) rfl dX11_init_92 ?_
    refine rw_goto E (tgt := 73) (by decide) dX11_init_95 ?_
    refine WH.pick [1, 0] rfl ?_
    exact hj73 _ _ _ _ (by omega) (by omega) hh
def s_X11_init_L73 (h : Nat) : Nat → HS → Int32 → Option (HS)
  | 0 => fun _ _ => none
  | n + 1 => s_X11_init_b73 (s_X11_init_L73 h n) h
set_option maxHeartbeats 4000000 in
set_option maxRecDepth 100000 in
theorem w_X11_init_L73 {p : Program} {l : Launch} {e : Env} {s : State} {m : MethodId} {args : Array Value} {below : List Frame} {meth : Method} {c : Code} {b0 : Nat} {G : hG} {S1 : HS} {h : Nat} (E : hE p s m args c b0 G cX11_init RX11 2 wsX11_init) (hrt : meth.sig.returnType = none) (hlk : meth.locks = false) (hnm : meth.name = "<init>") : ∀ (n : Nat) (S : HS) (l1 : Int32) (cells slots : Nat), cells + (n * 2 + 6) ≤ 36 → slots + (n * 44 + 42) ≤ 1017 → s_X11_init_L73 h n S l1 = some S1 → WH p l e rm_X11_init s m args below meth c b0 G 2 cells slots (MQ below (hQ b0 G none S1) args s 36 1017 (hA b0)) S 73 [(0, hrf b0 ((some h))), (1, .int l1)] [] := by
  intro n
  induction n with
  | zero => intro _ _ _ _ _ _ hh; exact absurd hh (by simp [s_X11_init_L73])
  | succ n ih => intro _ _ cells slots hc hs hh; exact w_X11_init_b73 E hrt hlk hnm (nc := n * 2 + 6) (ns := n * 44 + 42) (by omega) (by omega) (by omega) (by omega) ih hh
def s_X11_init (S : HS) (h : Nat) : Option (HS) := kO S ((some h)) 11 (fun _ => knewA S 19 8 8 (fun o1 S2 => kwP S2 ((some h)) 11 0 o1 (fun S3 => knew S3 10 (fun o4 S5 => kO S5 o4 10 (fun a7 => kcv (s_X10_init S5 a7 ) (fun S6 => kwP S6 ((some h)) 11 1 o4 (fun S8 => knew S8 9 (fun o9 S10 => kO S10 o9 9 (fun a12 => kcv (s_X9_init S10 a12 ) (fun S11 => kwP S11 ((some h)) 11 2 o9 (fun S13 => knewA S13 21 2 2 (fun o14 S15 => kwP S15 ((some h)) 11 3 o14 (fun S16 => knew S16 4 (fun o17 S18 => kO S18 o17 4 (fun a20 => kcv (s_X4_init S18 a20 ) (fun S19 => kwP S19 ((some h)) 11 4 o17 (fun S21 => knew S21 0 (fun o22 S23 => kO S23 o22 0 (fun a25 => kcv (s_X0_init S23 a25 ) (fun S24 => kwP S24 ((some h)) 11 5 o22 (fun S26 => kwI S26 ((some h)) 11 8 ((-1000000)) (fun S27 => s_X11_init_L73 h 9 S27 0))))))))))))))))))))))
set_option maxHeartbeats 4000000 in
set_option maxRecDepth 100000 in
theorem c_X11_init (l : Launch) (b0 : Nat) (G : hG) (S S1 : HS) (h : Nat) (hh : s_X11_init S h  = some S1) : MH l yX11_init wsX11_init rm_X11_init b0 G S [hrf b0 (some h)] none S1 36 1017 := by
  refine MH.ofW (cc := cX11_init) (maxL := 2) (ret := none) (own := RX11) (lv0 := [(0, hrf b0 ((some h)))]) (by decide) rfl rfl (Nat.le_of_ble_eq_true rfl) rfl ?_
  intro p e s m args below meth c E hrt hlk hnm
  have hh : (kO S ((some h)) 11 (fun _ => knewA S 19 8 8 (fun o1 S2 => kwP S2 ((some h)) 11 0 o1 (fun S3 => knew S3 10 (fun o4 S5 => kO S5 o4 10 (fun a7 => kcv (s_X10_init S5 a7 ) (fun S6 => kwP S6 ((some h)) 11 1 o4 (fun S8 => knew S8 9 (fun o9 S10 => kO S10 o9 9 (fun a12 => kcv (s_X9_init S10 a12 ) (fun S11 => kwP S11 ((some h)) 11 2 o9 (fun S13 => knewA S13 21 2 2 (fun o14 S15 => kwP S15 ((some h)) 11 3 o14 (fun S16 => knew S16 4 (fun o17 S18 => kO S18 o17 4 (fun a20 => kcv (s_X4_init S18 a20 ) (fun S19 => kwP S19 ((some h)) 11 4 o17 (fun S21 => knew S21 0 (fun o22 S23 => kO S23 o22 0 (fun a25 => kcv (s_X0_init S23 a25 ) (fun S24 => kwP S24 ((some h)) 11 5 o22 (fun S26 => kwI S26 ((some h)) 11 8 ((-1000000)) (fun S27 => s_X11_init_L73 h 9 S27 0))))))))))))))))))))))) = some S1 := hh
  have hc : 0 + 36 ≤ 36 := by decide
  have hs : 0 + 1017 ≤ 1017 := by decide
  refine rw_aload_n E (j0 := 0) rfl rfl dX11_init_0 ?_
  refine rw_objI E hh (List.mem_of_getElem? (i := 1) (by decide +kernel)) (List.mem_of_getElem? (i := 2) (by decide +kernel)) (List.mem_of_getElem? (i := 3) (by decide +kernel)) (by decide) (by (try simp only [List.map_cons, List.map_nil, List.sum_cons, List.sum_nil, hrf_cat, cat_i, cat_l, cat_r]) <;> decide) dX11_init_1 (fun hh => ?_)
  refine rw_aload_n E (j0 := 0) rfl rfl dX11_init_4 ?_
  refine rw_bipush E (v := 8) (by decide) dX11_init_5 ?_
  refine rw_newq E hh (t0 := 6) (by decide) (by decide) (fun _ => rfl) (fun q => q.1.2.2.2.1) (List.mem_of_getElem? (i := 4) (by decide +kernel)) (show _ ≤ 36 by omega) (show _ ≤ 1017 by omega) dX11_init_7 (fun o1 S2 hh => ?_)
  refine rw_putP E hh (C := RX11) (T := TX11) (N := 9) (ty0 := tyX11) rfl tyX11_ok nmX11 (by decide) i_X11_init_11 (by decide) rfl (List.mem_of_getElem? (i := 5) (by decide +kernel)) rfl (Or.inr ⟨rfl, hnm, rfl⟩) (Or.inr ⟨_, rfl⟩) dX11_init_10 (fun S3 hh => ?_)
  refine rw_aload_n E (j0 := 0) rfl rfl dX11_init_13 ?_
  refine rw_new E hh (C := RX10) (T := TX10) (N := 8) (ty0 := tyX10) rfl tyX10_ok (by decide) i_X11_init_10 (List.mem_of_getElem? (i := 6) (by decide +kernel)) (List.mem_of_getElem? (i := 7) (by decide +kernel)) (List.mem_of_getElem? (i := 8) (by decide +kernel)) rfl hdv_10 (show _ ≤ 36 by omega) (show _ ≤ 1017 by omega) dX11_init_14 (fun o4 S5 hh => ?_)
  refine rw_dup E (hrf_cat _ _) dX11_init_17 ?_
  refine rw_cNv E (As := []) hh (fun _ _ hq => c_X10_init l b0 G _ _ _ hq) (by simp [hNw]) gX11_init_X10_init_n17 rfl rfl rfl (List.mem_of_getElem? (i := 8) (by decide +kernel)) (List.mem_of_getElem? (i := 27) (by decide +kernel)) rfl (by decide +kernel) ⟨Nat.le_of_ble_eq_true rfl, Nat.le_of_ble_eq_true rfl⟩ rfl rfl (by (try simp only [List.map_cons, List.map_nil, List.sum_cons, List.sum_nil, hrf_cat, cat_i, cat_l, cat_r]) <;> decide) ⟨(show _ ≤ 36 by omega), (show _ ≤ 1017 by omega)⟩ dX11_init_18 (fun S6 hh => ?_)
  refine rw_putP E hh (C := RX11) (T := TX11) (N := 9) (ty0 := tyX11) rfl tyX11_ok nmX11 (by decide) i_X11_init_11 (by decide) rfl (List.mem_of_getElem? (i := 9) (by decide +kernel)) rfl (Or.inr ⟨rfl, hnm, rfl⟩) (Or.inl ⟨_, rfl⟩) dX11_init_21 (fun S8 hh => ?_)
  refine rw_aload_n E (j0 := 0) rfl rfl dX11_init_24 ?_
  refine rw_new E hh (C := RX9) (T := TX9) (N := 2) (ty0 := tyX9) rfl tyX9_ok (by decide) i_X11_init_9 (List.mem_of_getElem? (i := 10) (by decide +kernel)) (List.mem_of_getElem? (i := 11) (by decide +kernel)) (List.mem_of_getElem? (i := 12) (by decide +kernel)) rfl hdv_9 (show _ ≤ 36 by omega) (show _ ≤ 1017 by omega) dX11_init_25 (fun o9 S10 hh => ?_)
  refine rw_dup E (hrf_cat _ _) dX11_init_28 ?_
  refine rw_cNv E (As := []) hh (fun _ _ hq => c_X9_init l b0 G _ _ _ hq) (by simp [hNw]) gX11_init_X9_init_n24 rfl rfl rfl (List.mem_of_getElem? (i := 12) (by decide +kernel)) (List.mem_of_getElem? (i := 32) (by decide +kernel)) rfl (by decide +kernel) ⟨Nat.le_of_ble_eq_true rfl, Nat.le_of_ble_eq_true rfl⟩ rfl rfl (by (try simp only [List.map_cons, List.map_nil, List.sum_cons, List.sum_nil, hrf_cat, cat_i, cat_l, cat_r]) <;> decide) ⟨(show _ ≤ 36 by omega), (show _ ≤ 1017 by omega)⟩ dX11_init_29 (fun S11 hh => ?_)
  refine rw_putP E hh (C := RX11) (T := TX11) (N := 9) (ty0 := tyX11) rfl tyX11_ok nmX11 (by decide) i_X11_init_11 (by decide) rfl (List.mem_of_getElem? (i := 13) (by decide +kernel)) rfl (Or.inr ⟨rfl, hnm, rfl⟩) (Or.inl ⟨_, rfl⟩) dX11_init_32 (fun S13 hh => ?_)
  refine rw_aload_n E (j0 := 0) rfl rfl dX11_init_35 ?_
  refine rw_iconst E (v := 2) (by decide) dX11_init_36 ?_
  refine rw_newq E hh (t0 := 8) (by decide) (by decide) (fun _ => rfl) (fun q => q.1.2.2.2.2.2) (List.mem_of_getElem? (i := 10) (by decide +kernel)) (show _ ≤ 36 by omega) (show _ ≤ 1017 by omega) dX11_init_37 (fun o14 S15 hh => ?_)
  refine rw_putP E hh (C := RX11) (T := TX11) (N := 9) (ty0 := tyX11) rfl tyX11_ok nmX11 (by decide) i_X11_init_11 (by decide) rfl (List.mem_of_getElem? (i := 14) (by decide +kernel)) rfl (Or.inr ⟨rfl, hnm, rfl⟩) (Or.inr ⟨_, rfl⟩) dX11_init_40 (fun S16 hh => ?_)
  refine rw_aload_n E (j0 := 0) rfl rfl dX11_init_43 ?_
  refine rw_new E hh (C := RX4) (T := TX4) (N := 9) (ty0 := tyX4) rfl tyX4_ok (by decide) i_X11_init_4 (List.mem_of_getElem? (i := 15) (by decide +kernel)) (List.mem_of_getElem? (i := 16) (by decide +kernel)) (List.mem_of_getElem? (i := 17) (by decide +kernel)) rfl hdv_4 (show _ ≤ 36 by omega) (show _ ≤ 1017 by omega) dX11_init_44 (fun o17 S18 hh => ?_)
  refine rw_dup E (hrf_cat _ _) dX11_init_47 ?_
  refine rw_cNv E (As := []) hh (fun _ _ hq => c_X4_init l b0 G _ _ _ hq) (by simp [hNw]) gX11_init_X4_init_n35 rfl rfl rfl (List.mem_of_getElem? (i := 17) (by decide +kernel)) (List.mem_of_getElem? (i := 42) (by decide +kernel)) rfl (by decide +kernel) ⟨Nat.le_of_ble_eq_true rfl, Nat.le_of_ble_eq_true rfl⟩ rfl rfl (by (try simp only [List.map_cons, List.map_nil, List.sum_cons, List.sum_nil, hrf_cat, cat_i, cat_l, cat_r]) <;> decide) ⟨(show _ ≤ 36 by omega), (show _ ≤ 1017 by omega)⟩ dX11_init_48 (fun S19 hh => ?_)
  refine rw_putP E hh (C := RX11) (T := TX11) (N := 9) (ty0 := tyX11) rfl tyX11_ok nmX11 (by decide) i_X11_init_11 (by decide) rfl (List.mem_of_getElem? (i := 18) (by decide +kernel)) rfl (Or.inr ⟨rfl, hnm, rfl⟩) (Or.inl ⟨_, rfl⟩) dX11_init_51 (fun S21 hh => ?_)
  refine rw_aload_n E (j0 := 0) rfl rfl dX11_init_54 ?_
  refine rw_new E hh (C := RX0) (T := TX0) (N := 4) (ty0 := tyX0) rfl tyX0_ok (by decide) i_X11_init_0 (List.mem_of_getElem? (i := 19) (by decide +kernel)) (List.mem_of_getElem? (i := 20) (by decide +kernel)) (List.mem_of_getElem? (i := 21) (by decide +kernel)) rfl hdv_0 (show _ ≤ 36 by omega) (show _ ≤ 1017 by omega) dX11_init_55 (fun o22 S23 hh => ?_)
  refine rw_dup E (hrf_cat _ _) dX11_init_58 ?_
  refine rw_cNv E (As := []) hh (fun _ _ hq => c_X0_init l b0 G _ _ _ hq) (by simp [hNw]) gX11_init_X0_init_n42 rfl rfl rfl (List.mem_of_getElem? (i := 21) (by decide +kernel)) (List.mem_of_getElem? (i := 50) (by decide +kernel)) rfl (by decide +kernel) ⟨Nat.le_of_ble_eq_true rfl, Nat.le_of_ble_eq_true rfl⟩ rfl rfl (by (try simp only [List.map_cons, List.map_nil, List.sum_cons, List.sum_nil, hrf_cat, cat_i, cat_l, cat_r]) <;> decide) ⟨(show _ ≤ 36 by omega), (show _ ≤ 1017 by omega)⟩ dX11_init_59 (fun S24 hh => ?_)
  refine rw_putP E hh (C := RX11) (T := TX11) (N := 9) (ty0 := tyX11) rfl tyX11_ok nmX11 (by decide) i_X11_init_11 (by decide) rfl (List.mem_of_getElem? (i := 22) (by decide +kernel)) rfl (Or.inr ⟨rfl, hnm, rfl⟩) (Or.inl ⟨_, rfl⟩) dX11_init_62 (fun S26 hh => ?_)
  refine rw_aload_n E (j0 := 0) rfl rfl dX11_init_65 ?_
  refine rw_ldc E (v := (-1000000)) (List.mem_of_getElem? (i := 23) (by decide +kernel)) dX11_init_66 ?_
  refine rw_putI E hh (C := RX11) (T := TX11) (N := 9) (ty0 := tyX11) rfl tyX11_ok nmX11 (by decide) i_X11_init_11 (by decide) rfl (List.mem_of_getElem? (i := 24) (by decide +kernel)) rfl (Or.inl rfl) rfl dX11_init_68 (fun S27 hh => ?_)
  refine rw_iconst E (v := 0) (by decide) dX11_init_71 ?_
  refine rw_istore_n E (lv2 := [(1, .int 0), (0, hrf b0 ((some h)))]) rfl (by decide) rfl dX11_init_72 ?_
  refine WH.pick [1, 0] rfl ?_
  exact w_X11_init_L73 E hrt hlk hnm 9 _ _ _ _ (by omega) (by omega) hh

/-! HummingDisc.rowAt(I)LHummingDisc$Row; -/
abbrev rm_X11_rowAt : Room := { frames := 0, cells := 0, slots := 0, locals := 0 }
theorem i_X11_rowAt_11 : ∀ w ∈ wsX110, w ∈ wsX11_rowAt := fun _ h => List.mem_cons_of_mem _ (List.mem_append_right _ (h))
def s_X11_rowAt_b10 (h : Nat) (S : HS) : Option (Option Nat × HS) := some (none, S)
set_option maxHeartbeats 4000000 in
set_option maxRecDepth 100000 in
theorem w_X11_rowAt_b10 {p : Program} {l : Launch} {e : Env} {s : State} {m : MethodId} {args : Array Value} {below : List Frame} {meth : Method} {c : Code} {b0 : Nat} {G : hG} {S1 : HS} {r : Option Nat} {h : Nat} {S : HS} (E : hE p s m args c b0 G cX11_rowAt RX11 2 wsX11_rowAt) (hrt : meth.sig.returnType = (some (.object "HummingDisc$Row"))) (hlk : meth.locks = false) (hh : s_X11_rowAt_b10 h S = some (r, S1)) : WH p l e rm_X11_rowAt s m args below meth c b0 G 2 0 0 (MQ below (hQ b0 G (some (hrf b0 r)) S1) args s 0 0 (hA b0)) S 10 [] [] := by
  have hh : (some (none, S)) = some (r, S1) := hh
  refine rw_null E dX11_rowAt_10 ?_
  refine rw_goto E (tgt := 20) (by decide) dX11_rowAt_11 ?_
  exact rw_aret E hrt hlk hh (by decide) (by decide) dX11_rowAt_20
def s_X11_rowAt (S : HS) (h : Nat) (l1 : Int32) : Option (Option Nat × HS) := if l1 < 0 then (s_X11_rowAt_b10 h S) else (if l1 < 8 then (kP S ((some h)) 11 0 (fun v1 => kAP S v1 19 l1 (fun v2 => some (v2, S)))) else (s_X11_rowAt_b10 h S))
set_option maxHeartbeats 4000000 in
set_option maxRecDepth 100000 in
theorem c_X11_rowAt (l : Launch) (b0 : Nat) (G : hG) (S S1 : HS) (h : Nat) (l1 : Int32) (r : Option Nat) (hh : s_X11_rowAt S h l1 = some (r, S1)) : MH l yX11_rowAt wsX11_rowAt rm_X11_rowAt b0 G S [hrf b0 (some h), .int l1] (some (hrf b0 r)) S1 0 0 := by
  refine MH.ofW (cc := cX11_rowAt) (maxL := 2) (ret := (some (.object "HummingDisc$Row"))) (own := RX11) (lv0 := [(0, hrf b0 ((some h))), (1, .int l1)]) (by decide) rfl rfl (Nat.le_of_ble_eq_true rfl) rfl ?_
  intro p e s m args below meth c E hrt hlk hnm
  have hh : (if l1 < 0 then (s_X11_rowAt_b10 h S) else (if l1 < 8 then (kP S ((some h)) 11 0 (fun v1 => kAP S v1 19 l1 (fun v2 => some (v2, S)))) else (s_X11_rowAt_b10 h S))) = some (r, S1) := hh
  refine rw_iload_n E (j0 := 1) rfl rfl dX11_rowAt_0 ?_
  refine rw_if_lt E hh (tgt := 10) (by decide) dX11_rowAt_1 (fun hh => ?_) (fun hh => ?_)
  · refine WH.pick [] rfl ?_
    exact w_X11_rowAt_b10 E hrt hlk hh
  · refine rw_iload_n E (j0 := 1) rfl rfl dX11_rowAt_4 ?_
    refine rw_bipush E (v := 8) (by decide) dX11_rowAt_5 ?_
    refine rw_icmp_lt E hh (tgt := 14) (by decide) dX11_rowAt_7 (fun hh => ?_) (fun hh => ?_)
    · refine rw_aload_n E (j0 := 0) rfl rfl dX11_rowAt_14 ?_
      refine rw_getP E hh (C := RX11) (T := TX11) (N := 9) rfl (by decide) i_X11_rowAt_11 (by decide) rfl (List.mem_of_getElem? (i := 1) (by decide +kernel)) rfl dX11_rowAt_15 (fun v1 hh => ?_)
      refine rw_iload_n E (j0 := 1) rfl rfl dX11_rowAt_18 ?_
      refine rw_aald E hh (t0 := 6) (by decide) (fun _ => rfl) dX11_rowAt_19 (fun v2 hh => ?_)
      exact rw_aret E hrt hlk hh (by decide) (by decide) dX11_rowAt_20
    · refine WH.pick [] rfl ?_
      exact w_X11_rowAt_b10 E hrt hlk hh

/-! HummingDisc.found(I)I -/
abbrev rm_X11_found : Room := { frames := 0, cells := 0, slots := 0, locals := 0 }
theorem i_X11_found_11 : ∀ w ∈ wsX110, w ∈ wsX11_found := fun _ h => List.mem_cons_of_mem _ (List.mem_append_right _ (h))
def s_X11_found (S : HS) (h : Nat) (l1 : Int32) : Option (Int32 × HS) := kwI S ((some h)) 11 7 l1 (fun S1 => some (((-1000010)) - l1, S1))
set_option maxHeartbeats 4000000 in
set_option maxRecDepth 100000 in
theorem c_X11_found (l : Launch) (b0 : Nat) (G : hG) (S S1 : HS) (h : Nat) (l1 : Int32) (r : Int32) (hh : s_X11_found S h l1 = some (r, S1)) : MH l yX11_found wsX11_found rm_X11_found b0 G S [hrf b0 (some h), .int l1] (some (.int r)) S1 0 0 := by
  refine MH.ofW (cc := cX11_found) (maxL := 2) (ret := (some .int)) (own := RX11) (lv0 := [(0, hrf b0 ((some h))), (1, .int l1)]) (by decide) rfl rfl (Nat.le_of_ble_eq_true rfl) rfl ?_
  intro p e s m args below meth c E hrt hlk hnm
  have hh : (kwI S ((some h)) 11 7 l1 (fun S1 => some (((-1000010)) - l1, S1))) = some (r, S1) := hh
  refine rw_aload_n E (j0 := 0) rfl rfl dX11_found_0 ?_
  refine rw_iload_n E (j0 := 1) rfl rfl dX11_found_1 ?_
  refine rw_putI E hh (C := RX11) (T := TX11) (N := 9) (ty0 := tyX11) rfl tyX11_ok nmX11 (by decide) i_X11_found_11 (by decide) rfl (List.mem_of_getElem? (i := 1) (by decide +kernel)) rfl (Or.inl rfl) rfl dX11_found_2 (fun S1 hh => ?_)
  refine rw_ldcw E (v := (-1000010)) (List.mem_of_getElem? (i := 2) (by decide +kernel)) dX11_found_5 ?_
  refine rw_iload_n E (j0 := 1) rfl rfl dX11_found_8 ?_
  refine rw_isub E dX11_found_9 ?_
  exact rw_iret E hrt hlk hh (by decide) (by decide) dX11_found_10

/-! HummingDisc.fine(I)I -/
abbrev rm_X11_fine : Room := { frames := 0, cells := 0, slots := 0, locals := 0 }
theorem i_X11_fine_11 : ∀ w ∈ wsX110, w ∈ wsX11_fine := fun _ h => List.mem_cons_of_mem _ (List.mem_append_right _ (h))
def s_X11_fine (S : HS) (h : Nat) (l1 : Int32) : Option (Int32 × HS) := kwI S ((some h)) 11 7 0 (fun S1 => some (l1, S1))
set_option maxHeartbeats 4000000 in
set_option maxRecDepth 100000 in
theorem c_X11_fine (l : Launch) (b0 : Nat) (G : hG) (S S1 : HS) (h : Nat) (l1 : Int32) (r : Int32) (hh : s_X11_fine S h l1 = some (r, S1)) : MH l yX11_fine wsX11_fine rm_X11_fine b0 G S [hrf b0 (some h), .int l1] (some (.int r)) S1 0 0 := by
  refine MH.ofW (cc := cX11_fine) (maxL := 2) (ret := (some .int)) (own := RX11) (lv0 := [(0, hrf b0 ((some h))), (1, .int l1)]) (by decide) rfl rfl (Nat.le_of_ble_eq_true rfl) rfl ?_
  intro p e s m args below meth c E hrt hlk hnm
  have hh : (kwI S ((some h)) 11 7 0 (fun S1 => some (l1, S1))) = some (r, S1) := hh
  refine rw_aload_n E (j0 := 0) rfl rfl dX11_fine_0 ?_
  refine rw_iconst E (v := 0) (by decide) dX11_fine_1 ?_
  refine rw_putI E hh (C := RX11) (T := TX11) (N := 9) (ty0 := tyX11) rfl tyX11_ok nmX11 (by decide) i_X11_fine_11 (by decide) rfl (List.mem_of_getElem? (i := 1) (by decide +kernel)) rfl (Or.inl rfl) rfl dX11_fine_2 (fun S1 hh => ?_)
  refine rw_iload_n E (j0 := 1) rfl rfl dX11_fine_5 ?_
  exact rw_iret E hrt hlk hh (by decide) (by decide) dX11_fine_6

/-! HummingDisc.row(III)I -/
abbrev rm_X11_row : Room := { frames := 2, cells := 0, slots := 0, locals := 45 }
def s_X11_row (S : HS) (h : Nat) (l1 : Int32) (l2 : Int32) (l3 : Int32) : Option (Int32 × HS) := kO S ((some h)) 11 (fun a3 => kc (s_X11_rowAt S a3 l1) (fun v2 S1 => if v2 = none then (some ((-1000001), S1)) else (if l2 < 0 then (some ((-1000001), S1)) else (if 3 ≤ l2 then (some ((-1000001), S1)) else (if l3 ≤ 40 then (if 0 ≤ l3 then (kO S1 v2 6 (fun a5 => kcv (s_X6_make S1 a5 l2 l3) (fun S4 => kO S4 ((some h)) 11 (fun a8 => kc (s_X11_fine S4 a8 l3) (fun v7 S6 => some (v7, S6)))))) else (kO S1 ((some h)) 11 (fun a11 => kc (s_X11_found S1 a11 4) (fun v10 S9 => some (v10, S9))))) else (some ((-1000001), S1)))))))
set_option maxHeartbeats 4000000 in
set_option maxRecDepth 100000 in
theorem c_X11_row (l : Launch) (b0 : Nat) (G : hG) (S S1 : HS) (h : Nat) (l1 : Int32) (l2 : Int32) (l3 : Int32) (r : Int32) (hh : s_X11_row S h l1 l2 l3 = some (r, S1)) : MH l yX11_row wsX11_row rm_X11_row b0 G S [hrf b0 (some h), .int l1, .int l2, .int l3] (some (.int r)) S1 0 0 := by
  refine MH.ofW (cc := cX11_row) (maxL := 5) (ret := (some .int)) (own := RX11) (lv0 := [(0, hrf b0 ((some h))), (1, .int l1), (2, .int l2), (3, .int l3)]) (by decide) rfl rfl (Nat.le_of_ble_eq_true rfl) rfl ?_
  intro p e s m args below meth c E hrt hlk hnm
  have hh : (kO S ((some h)) 11 (fun a3 => kc (s_X11_rowAt S a3 l1) (fun v2 S1 => if v2 = none then (some ((-1000001), S1)) else (if l2 < 0 then (some ((-1000001), S1)) else (if 3 ≤ l2 then (some ((-1000001), S1)) else (if l3 ≤ 40 then (if 0 ≤ l3 then (kO S1 v2 6 (fun a5 => kcv (s_X6_make S1 a5 l2 l3) (fun S4 => kO S4 ((some h)) 11 (fun a8 => kc (s_X11_fine S4 a8 l3) (fun v7 S6 => some (v7, S6)))))) else (kO S1 ((some h)) 11 (fun a11 => kc (s_X11_found S1 a11 4) (fun v10 S9 => some (v10, S9))))) else (some ((-1000001), S1)))))))) = some (r, S1) := hh
  refine rw_aload_n E (j0 := 0) rfl rfl dX11_row_0 ?_
  refine rw_iload_n E (j0 := 1) rfl rfl dX11_row_1 ?_
  refine rw_cVr E (As := [.int l1]) hh (by decide) rfl (fun _ _ _ hq => c_X11_rowAt l b0 G _ _ _ _ _ hq) (cwV 1 E.2.2.2.2.1 gX11_row_X11_rowAt rfl rfl rfl (by decide +kernel) ⟨Nat.le_of_ble_eq_true rfl, Nat.le_of_ble_eq_true rfl⟩) rfl rfl (by (try simp only [List.map_cons, List.map_nil, List.sum_cons, List.sum_nil, hrf_cat, cat_i, cat_l, cat_r]) <;> decide) ⟨Nat.le_of_ble_eq_true rfl, Nat.le_of_ble_eq_true rfl⟩ dX11_row_2 (fun v2 S1 hh => ?_)
  refine rw_astore E (lv2 := [(4, hrf b0 v2), (0, hrf b0 ((some h))), (1, .int l1), (2, .int l2), (3, .int l3)]) (by decide) rfl dX11_row_5 ?_
  refine rw_aload E (j0 := 0) rfl dX11_row_7 ?_
  refine rw_ifnull E hh (tgt := 27) (by decide) dX11_row_9 (fun hh => ?_) (fun hh => ?_)
  · refine rw_ldc E (v := (-1000001)) (List.mem_of_getElem? (i := 1) (by decide +kernel)) dX11_row_27 ?_
    exact rw_iret E hrt hlk hh (by decide) (by decide) dX11_row_29
  · refine rw_iload_n E (j0 := 3) rfl rfl dX11_row_12 ?_
    refine rw_if_lt E hh (tgt := 27) (by decide) dX11_row_13 (fun hh => ?_) (fun hh => ?_)
    · refine rw_ldc E (v := (-1000001)) (List.mem_of_getElem? (i := 1) (by decide +kernel)) dX11_row_27 ?_
      exact rw_iret E hrt hlk hh (by decide) (by decide) dX11_row_29
    · refine rw_iload_n E (j0 := 3) rfl rfl dX11_row_16 ?_
      refine rw_iconst E (v := 3) (by decide) dX11_row_17 ?_
      refine rw_icmp_ge E hh (tgt := 27) (by decide) dX11_row_18 (fun hh => ?_) (fun hh => ?_)
      · refine rw_ldc E (v := (-1000001)) (List.mem_of_getElem? (i := 1) (by decide +kernel)) dX11_row_27 ?_
        exact rw_iret E hrt hlk hh (by decide) (by decide) dX11_row_29
      · refine rw_iload_n E (j0 := 4) rfl rfl dX11_row_21 ?_
        refine rw_bipush E (v := 40) (by decide) dX11_row_22 ?_
        refine rw_icmp_le E hh (tgt := 30) (by decide) dX11_row_24 (fun hh => ?_) (fun hh => ?_)
        · refine rw_iload_n E (j0 := 4) rfl rfl dX11_row_30 ?_
          refine rw_if_ge E hh (tgt := 40) (by decide) dX11_row_31 (fun hh => ?_) (fun hh => ?_)
          · refine rw_aload E (j0 := 0) rfl dX11_row_40 ?_
            refine rw_iload_n E (j0 := 3) rfl rfl dX11_row_42 ?_
            refine rw_iload_n E (j0 := 4) rfl rfl dX11_row_43 ?_
            refine rw_cVv E (As := [.int l2, .int l3]) hh (by decide) rfl (fun _ _ hq => c_X6_make l b0 G _ _ _ _ _ hq) (cwV 2 E.2.2.2.2.1 gX11_row_X6_make rfl rfl rfl (by decide +kernel) ⟨Nat.le_of_ble_eq_true rfl, Nat.le_of_ble_eq_true rfl⟩) rfl rfl (by (try simp only [List.map_cons, List.map_nil, List.sum_cons, List.sum_nil, hrf_cat, cat_i, cat_l, cat_r]) <;> decide) ⟨Nat.le_of_ble_eq_true rfl, Nat.le_of_ble_eq_true rfl⟩ dX11_row_44 (fun S4 hh => ?_)
            refine rw_aload_n E (j0 := 1) rfl rfl dX11_row_47 ?_
            refine rw_iload_n E (j0 := 4) rfl rfl dX11_row_48 ?_
            refine rw_cVi E (As := [.int l3]) hh (by decide) rfl (fun _ _ _ hq => c_X11_fine l b0 G _ _ _ _ _ hq) (cwV 1 E.2.2.2.2.1 gX11_row_X11_fine rfl rfl rfl (by decide +kernel) ⟨Nat.le_of_ble_eq_true rfl, Nat.le_of_ble_eq_true rfl⟩) rfl rfl (by (try simp only [List.map_cons, List.map_nil, List.sum_cons, List.sum_nil, hrf_cat, cat_i, cat_l, cat_r]) <;> decide) ⟨Nat.le_of_ble_eq_true rfl, Nat.le_of_ble_eq_true rfl⟩ dX11_row_49 (fun v7 S6 hh => ?_)
            exact rw_iret E hrt hlk hh (by decide) (by decide) dX11_row_52
          · refine rw_aload_n E (j0 := 1) rfl rfl dX11_row_34 ?_
            refine rw_iconst E (v := 4) (by decide) dX11_row_35 ?_
            refine rw_cVi E (As := [.int 4]) hh (by decide) rfl (fun _ _ _ hq => c_X11_found l b0 G _ _ _ _ _ hq) (cwV 1 E.2.2.2.2.1 gX11_row_X11_found rfl rfl rfl (by decide +kernel) ⟨Nat.le_of_ble_eq_true rfl, Nat.le_of_ble_eq_true rfl⟩) rfl rfl (by (try simp only [List.map_cons, List.map_nil, List.sum_cons, List.sum_nil, hrf_cat, cat_i, cat_l, cat_r]) <;> decide) ⟨Nat.le_of_ble_eq_true rfl, Nat.le_of_ble_eq_true rfl⟩ dX11_row_36 (fun v10 S9 hh => ?_)
            exact rw_iret E hrt hlk hh (by decide) (by decide) dX11_row_39
        · refine rw_ldc E (v := (-1000001)) (List.mem_of_getElem? (i := 1) (by decide +kernel)) dX11_row_27 ?_
          exact rw_iret E hrt hlk hh (by decide) (by decide) dX11_row_29

/-! HummingDisc.set(III)I -/
abbrev rm_X11_set : Room := { frames := 2, cells := 0, slots := 0, locals := 44 }
def s_X11_set (S : HS) (h : Nat) (l1 : Int32) (l2 : Int32) (l3 : Int32) : Option (Int32 × HS) := kO S ((some h)) 11 (fun a3 => kc (s_X11_rowAt S a3 l1) (fun v2 S1 => if v2 = none then (some ((-1000001), S1)) else (kO S1 v2 6 (fun a6 => kc (s_X6_findingAt S1 a6 l2 1) (fun v5 S4 => if v5 = 0 then (kO S4 v2 6 (fun a9 => kc (s_X6_put S4 a9 l2 l3) (fun v8 S7 => kO S7 ((some h)) 11 (fun a12 => kc (s_X11_fine S7 a12 v8) (fun v11 S10 => some (v11, S10)))))) else (kO S4 ((some h)) 11 (fun a15 => kc (s_X11_found S4 a15 v5) (fun v14 S13 => some (v14, S13)))))))))
set_option maxHeartbeats 4000000 in
set_option maxRecDepth 100000 in
theorem c_X11_set (l : Launch) (b0 : Nat) (G : hG) (S S1 : HS) (h : Nat) (l1 : Int32) (l2 : Int32) (l3 : Int32) (r : Int32) (hh : s_X11_set S h l1 l2 l3 = some (r, S1)) : MH l yX11_set wsX11_set rm_X11_set b0 G S [hrf b0 (some h), .int l1, .int l2, .int l3] (some (.int r)) S1 0 0 := by
  refine MH.ofW (cc := cX11_set) (maxL := 6) (ret := (some .int)) (own := RX11) (lv0 := [(0, hrf b0 ((some h))), (1, .int l1), (2, .int l2), (3, .int l3)]) (by decide) rfl rfl (Nat.le_of_ble_eq_true rfl) rfl ?_
  intro p e s m args below meth c E hrt hlk hnm
  have hh : (kO S ((some h)) 11 (fun a3 => kc (s_X11_rowAt S a3 l1) (fun v2 S1 => if v2 = none then (some ((-1000001), S1)) else (kO S1 v2 6 (fun a6 => kc (s_X6_findingAt S1 a6 l2 1) (fun v5 S4 => if v5 = 0 then (kO S4 v2 6 (fun a9 => kc (s_X6_put S4 a9 l2 l3) (fun v8 S7 => kO S7 ((some h)) 11 (fun a12 => kc (s_X11_fine S7 a12 v8) (fun v11 S10 => some (v11, S10)))))) else (kO S4 ((some h)) 11 (fun a15 => kc (s_X11_found S4 a15 v5) (fun v14 S13 => some (v14, S13)))))))))) = some (r, S1) := hh
  refine rw_aload_n E (j0 := 0) rfl rfl dX11_set_0 ?_
  refine rw_iload_n E (j0 := 1) rfl rfl dX11_set_1 ?_
  refine rw_cVr E (As := [.int l1]) hh (by decide) rfl (fun _ _ _ hq => c_X11_rowAt l b0 G _ _ _ _ _ hq) (cwV 1 E.2.2.2.2.1 gX11_set_X11_rowAt rfl rfl rfl (by decide +kernel) ⟨Nat.le_of_ble_eq_true rfl, Nat.le_of_ble_eq_true rfl⟩) rfl rfl (by (try simp only [List.map_cons, List.map_nil, List.sum_cons, List.sum_nil, hrf_cat, cat_i, cat_l, cat_r]) <;> decide) ⟨Nat.le_of_ble_eq_true rfl, Nat.le_of_ble_eq_true rfl⟩ dX11_set_2 (fun v2 S1 hh => ?_)
  refine rw_astore E (lv2 := [(4, hrf b0 v2), (0, hrf b0 ((some h))), (1, .int l1), (2, .int l2), (3, .int l3)]) (by decide) rfl dX11_set_5 ?_
  refine rw_aload E (j0 := 0) rfl dX11_set_7 ?_
  refine rw_ifnonnull E hh (tgt := 15) (by decide) dX11_set_9 (fun hh => ?_) (fun hh => ?_)
  · refine rw_aload E (j0 := 0) rfl dX11_set_15 ?_
    refine rw_iload_n E (j0 := 3) rfl rfl dX11_set_17 ?_
    refine rw_iconst E (v := 1) (by decide) dX11_set_18 ?_
    refine rw_cVi E (As := [.int l2, .int 1]) hh (by decide) rfl (fun _ _ _ hq => c_X6_findingAt l b0 G _ _ _ _ _ _ hq) (cwV 2 E.2.2.2.2.1 gX11_set_X6_findingAt rfl rfl rfl (by decide +kernel) ⟨Nat.le_of_ble_eq_true rfl, Nat.le_of_ble_eq_true rfl⟩) rfl rfl (by (try simp only [List.map_cons, List.map_nil, List.sum_cons, List.sum_nil, hrf_cat, cat_i, cat_l, cat_r]) <;> decide) ⟨Nat.le_of_ble_eq_true rfl, Nat.le_of_ble_eq_true rfl⟩ dX11_set_19 (fun v5 S4 hh => ?_)
    refine rw_istore E (i := 5) (lv2 := [(5, .int v5), (4, hrf b0 v2), (0, hrf b0 ((some h))), (1, .int l1), (2, .int l2), (3, .int l3)]) (by decide) (by simp [lvs, lvs2, hrf_cat]) dX11_set_22 ?_
    refine rw_iload E (j0 := 0) rfl dX11_set_24 ?_
    refine rw_if_eq E hh (tgt := 36) (by decide) dX11_set_26 (fun hh => ?_) (fun hh => ?_)
    · refine rw_aload_n E (j0 := 2) rfl rfl dX11_set_36 ?_
      refine rw_aload E (j0 := 1) rfl dX11_set_37 ?_
      refine rw_iload_n E (j0 := 4) rfl rfl dX11_set_39 ?_
      refine rw_iload_n E (j0 := 5) rfl rfl dX11_set_40 ?_
      refine rw_cVi E (As := [.int l2, .int l3]) hh (by decide) rfl (fun _ _ _ hq => c_X6_put l b0 G _ _ _ _ _ _ hq) (cwV 2 E.2.2.2.2.1 gX11_set_X6_put rfl rfl rfl (by decide +kernel) ⟨Nat.le_of_ble_eq_true rfl, Nat.le_of_ble_eq_true rfl⟩) rfl rfl (by (try simp only [List.map_cons, List.map_nil, List.sum_cons, List.sum_nil, hrf_cat, cat_i, cat_l, cat_r]) <;> decide) ⟨Nat.le_of_ble_eq_true rfl, Nat.le_of_ble_eq_true rfl⟩ dX11_set_41 (fun v8 S7 hh => ?_)
      refine rw_cVi E (As := [.int v8]) hh (by decide) rfl (fun _ _ _ hq => c_X11_fine l b0 G _ _ _ _ _ hq) (cwV 1 E.2.2.2.2.1 gX11_set_X11_fine rfl rfl rfl (by decide +kernel) ⟨Nat.le_of_ble_eq_true rfl, Nat.le_of_ble_eq_true rfl⟩) rfl rfl (by (try simp only [List.map_cons, List.map_nil, List.sum_cons, List.sum_nil, hrf_cat, cat_i, cat_l, cat_r]) <;> decide) ⟨Nat.le_of_ble_eq_true rfl, Nat.le_of_ble_eq_true rfl⟩ dX11_set_44 (fun v11 S10 hh => ?_)
      exact rw_iret E hrt hlk hh (by decide) (by decide) dX11_set_47
    · refine rw_aload_n E (j0 := 2) rfl rfl dX11_set_29 ?_
      refine rw_iload E (j0 := 0) rfl dX11_set_30 ?_
      refine rw_cVi E (As := [.int v5]) hh (by decide) rfl (fun _ _ _ hq => c_X11_found l b0 G _ _ _ _ _ hq) (cwV 1 E.2.2.2.2.1 gX11_set_X11_found rfl rfl rfl (by decide +kernel) ⟨Nat.le_of_ble_eq_true rfl, Nat.le_of_ble_eq_true rfl⟩) rfl rfl (by (try simp only [List.map_cons, List.map_nil, List.sum_cons, List.sum_nil, hrf_cat, cat_i, cat_l, cat_r]) <;> decide) ⟨Nat.le_of_ble_eq_true rfl, Nat.le_of_ble_eq_true rfl⟩ dX11_set_32 (fun v14 S13 hh => ?_)
      exact rw_iret E hrt hlk hh (by decide) (by decide) dX11_set_35
  · refine rw_ldc E (v := (-1000001)) (List.mem_of_getElem? (i := 1) (by decide +kernel)) dX11_set_12 ?_
    exact rw_iret E hrt hlk hh (by decide) (by decide) dX11_set_14

/-! HummingDisc.copy(IIIII)I -/
abbrev rm_X11_copy : Room := { frames := 1, cells := 0, slots := 0, locals := 26 }
theorem i_X11_copy_6 : ∀ w ∈ wsX60, w ∈ wsX11_copy := fun _ h => List.mem_cons_of_mem _ (List.mem_append_left _ (List.mem_append_right _ (h)))
def s_X11_copy_b43 (h : Nat) (S : HS) : Option (Int32 × HS) := kO S ((some h)) 11 (fun a3 => kc (s_X11_found S a3 1) (fun v2 S1 => some (v2, S1)))
set_option maxHeartbeats 4000000 in
set_option maxRecDepth 100000 in
theorem w_X11_copy_b43 {p : Program} {l : Launch} {e : Env} {s : State} {m : MethodId} {args : Array Value} {below : List Frame} {meth : Method} {c : Code} {b0 : Nat} {G : hG} {S1 : HS} {r : Int32} {h : Nat} {S : HS} (E : hE p s m args c b0 G cX11_copy RX11 8 wsX11_copy) (hrt : meth.sig.returnType = (some .int)) (hlk : meth.locks = false) (hh : s_X11_copy_b43 h S = some (r, S1)) : WH p l e rm_X11_copy s m args below meth c b0 G 8 0 0 (MQ below (hQ b0 G (some (.int r)) S1) args s 0 0 (hA b0)) S 43 [(0, hrf b0 ((some h)))] [] := by
  have hh : (kO S ((some h)) 11 (fun a3 => kc (s_X11_found S a3 1) (fun v2 S1 => some (v2, S1)))) = some (r, S1) := hh
  refine rw_aload_n E (j0 := 0) rfl rfl dX11_copy_43 ?_
  refine rw_iconst E (v := 1) (by decide) dX11_copy_44 ?_
  refine rw_cVi E (As := [.int 1]) hh (by decide) rfl (fun _ _ _ hq => c_X11_found l b0 G _ _ _ _ _ hq) (cwV 1 E.2.2.2.2.1 gX11_copy_X11_found rfl rfl rfl (by decide +kernel) ⟨Nat.le_of_ble_eq_true rfl, Nat.le_of_ble_eq_true rfl⟩) rfl rfl (by (try simp only [List.map_cons, List.map_nil, List.sum_cons, List.sum_nil, hrf_cat, cat_i, cat_l, cat_r]) <;> decide) ⟨Nat.le_of_ble_eq_true rfl, Nat.le_of_ble_eq_true rfl⟩ dX11_copy_45 (fun v2 S1 hh => ?_)
  exact rw_iret E hrt hlk hh (by decide) (by decide) dX11_copy_48
def s_X11_copy_b91 (h : Nat) (S : HS) : Option (Int32 × HS) := kO S ((some h)) 11 (fun a3 => kc (s_X11_found S a3 2) (fun v2 S1 => some (v2, S1)))
set_option maxHeartbeats 4000000 in
set_option maxRecDepth 100000 in
theorem w_X11_copy_b91 {p : Program} {l : Launch} {e : Env} {s : State} {m : MethodId} {args : Array Value} {below : List Frame} {meth : Method} {c : Code} {b0 : Nat} {G : hG} {S1 : HS} {r : Int32} {h : Nat} {S : HS} (E : hE p s m args c b0 G cX11_copy RX11 8 wsX11_copy) (hrt : meth.sig.returnType = (some .int)) (hlk : meth.locks = false) (hh : s_X11_copy_b91 h S = some (r, S1)) : WH p l e rm_X11_copy s m args below meth c b0 G 8 0 0 (MQ below (hQ b0 G (some (.int r)) S1) args s 0 0 (hA b0)) S 91 [(0, hrf b0 ((some h)))] [] := by
  have hh : (kO S ((some h)) 11 (fun a3 => kc (s_X11_found S a3 2) (fun v2 S1 => some (v2, S1)))) = some (r, S1) := hh
  refine rw_aload_n E (j0 := 0) rfl rfl dX11_copy_91 ?_
  refine rw_iconst E (v := 2) (by decide) dX11_copy_92 ?_
  refine rw_cVi E (As := [.int 2]) hh (by decide) rfl (fun _ _ _ hq => c_X11_found l b0 G _ _ _ _ _ hq) (cwV 1 E.2.2.2.2.1 gX11_copy_X11_found rfl rfl rfl (by decide +kernel) ⟨Nat.le_of_ble_eq_true rfl, Nat.le_of_ble_eq_true rfl⟩) rfl rfl (by (try simp only [List.map_cons, List.map_nil, List.sum_cons, List.sum_nil, hrf_cat, cat_i, cat_l, cat_r]) <;> decide) ⟨Nat.le_of_ble_eq_true rfl, Nat.le_of_ble_eq_true rfl⟩ dX11_copy_93 (fun v2 S1 hh => ?_)
  exact rw_iret E hrt hlk hh (by decide) (by decide) dX11_copy_96
def s_X11_copy (S : HS) (h : Nat) (l1 : Int32) (l2 : Int32) (l3 : Int32) (l4 : Int32) (l5 : Int32) : Option (Int32 × HS) := kO S ((some h)) 11 (fun a3 => kc (s_X11_rowAt S a3 l1) (fun v2 S1 => kO S1 ((some h)) 11 (fun a6 => kc (s_X11_rowAt S1 a6 l3) (fun v5 S4 => if v2 = none then (some ((-1000001), S4)) else (if v5 = none then (some ((-1000001), S4)) else (kI S4 v2 6 1 (fun v7 => if v7 = 0 then (s_X11_copy_b43 h S4) else (kI S4 v5 6 1 (fun v8 => if v8 = 0 then (s_X11_copy_b43 h S4) else (kI S4 v2 6 2 (fun v9 => kI S4 v5 6 2 (fun v10 => if v9 = v10 then (kO S4 v2 6 (fun a13 => kc (s_X6_holds S4 a13 l2 l5) (fun v12 S11 => if v12 = 0 then (s_X11_copy_b91 h S11) else (kO S11 v5 6 (fun a16 => kc (s_X6_holds S11 a16 l4 l5) (fun v15 S14 => if v15 = 0 then (s_X11_copy_b91 h S14) else (kP S14 v2 6 0 (fun v17 => kP S14 v5 6 0 (fun v18 => kcopy S14 v17 l2 v18 l4 l5 (fun S19 => kO S19 ((some h)) 11 (fun a22 => kc (s_X11_fine S19 a22 l5) (fun v21 S20 => some (v21, S20))))))))))))) else (kO S4 ((some h)) 11 (fun a25 => kc (s_X11_found S4 a25 5) (fun v24 S23 => some (v24, S23))))))))))))))))
set_option maxHeartbeats 4000000 in
set_option maxRecDepth 100000 in
theorem c_X11_copy (l : Launch) (b0 : Nat) (G : hG) (S S1 : HS) (h : Nat) (l1 : Int32) (l2 : Int32) (l3 : Int32) (l4 : Int32) (l5 : Int32) (r : Int32) (hh : s_X11_copy S h l1 l2 l3 l4 l5 = some (r, S1)) : MH l yX11_copy wsX11_copy rm_X11_copy b0 G S [hrf b0 (some h), .int l1, .int l2, .int l3, .int l4, .int l5] (some (.int r)) S1 0 0 := by
  refine MH.ofW (cc := cX11_copy) (maxL := 8) (ret := (some .int)) (own := RX11) (lv0 := [(0, hrf b0 ((some h))), (1, .int l1), (2, .int l2), (3, .int l3), (4, .int l4), (5, .int l5)]) (by decide) rfl rfl (Nat.le_of_ble_eq_true rfl) rfl ?_
  intro p e s m args below meth c E hrt hlk hnm
  have hh : (kO S ((some h)) 11 (fun a3 => kc (s_X11_rowAt S a3 l1) (fun v2 S1 => kO S1 ((some h)) 11 (fun a6 => kc (s_X11_rowAt S1 a6 l3) (fun v5 S4 => if v2 = none then (some ((-1000001), S4)) else (if v5 = none then (some ((-1000001), S4)) else (kI S4 v2 6 1 (fun v7 => if v7 = 0 then (s_X11_copy_b43 h S4) else (kI S4 v5 6 1 (fun v8 => if v8 = 0 then (s_X11_copy_b43 h S4) else (kI S4 v2 6 2 (fun v9 => kI S4 v5 6 2 (fun v10 => if v9 = v10 then (kO S4 v2 6 (fun a13 => kc (s_X6_holds S4 a13 l2 l5) (fun v12 S11 => if v12 = 0 then (s_X11_copy_b91 h S11) else (kO S11 v5 6 (fun a16 => kc (s_X6_holds S11 a16 l4 l5) (fun v15 S14 => if v15 = 0 then (s_X11_copy_b91 h S14) else (kP S14 v2 6 0 (fun v17 => kP S14 v5 6 0 (fun v18 => kcopy S14 v17 l2 v18 l4 l5 (fun S19 => kO S19 ((some h)) 11 (fun a22 => kc (s_X11_fine S19 a22 l5) (fun v21 S20 => some (v21, S20))))))))))))) else (kO S4 ((some h)) 11 (fun a25 => kc (s_X11_found S4 a25 5) (fun v24 S23 => some (v24, S23))))))))))))))))) = some (r, S1) := hh
  refine rw_aload_n E (j0 := 0) rfl rfl dX11_copy_0 ?_
  refine rw_iload_n E (j0 := 1) rfl rfl dX11_copy_1 ?_
  refine rw_cVr E (As := [.int l1]) hh (by decide) rfl (fun _ _ _ hq => c_X11_rowAt l b0 G _ _ _ _ _ hq) (cwV 1 E.2.2.2.2.1 gX11_copy_X11_rowAt rfl rfl rfl (by decide +kernel) ⟨Nat.le_of_ble_eq_true rfl, Nat.le_of_ble_eq_true rfl⟩) rfl rfl (by (try simp only [List.map_cons, List.map_nil, List.sum_cons, List.sum_nil, hrf_cat, cat_i, cat_l, cat_r]) <;> decide) ⟨Nat.le_of_ble_eq_true rfl, Nat.le_of_ble_eq_true rfl⟩ dX11_copy_2 (fun v2 S1 hh => ?_)
  refine rw_astore E (lv2 := [(6, hrf b0 v2), (0, hrf b0 ((some h))), (1, .int l1), (2, .int l2), (3, .int l3), (4, .int l4), (5, .int l5)]) (by decide) rfl dX11_copy_5 ?_
  refine rw_aload_n E (j0 := 1) rfl rfl dX11_copy_7 ?_
  refine rw_iload_n E (j0 := 4) rfl rfl dX11_copy_8 ?_
  refine rw_cVr E (As := [.int l3]) hh (by decide) rfl (fun _ _ _ hq => c_X11_rowAt l b0 G _ _ _ _ _ hq) (cwV 1 E.2.2.2.2.1 gX11_copy_X11_rowAt rfl rfl rfl (by decide +kernel) ⟨Nat.le_of_ble_eq_true rfl, Nat.le_of_ble_eq_true rfl⟩) rfl rfl (by (try simp only [List.map_cons, List.map_nil, List.sum_cons, List.sum_nil, hrf_cat, cat_i, cat_l, cat_r]) <;> decide) ⟨Nat.le_of_ble_eq_true rfl, Nat.le_of_ble_eq_true rfl⟩ dX11_copy_9 (fun v5 S4 hh => ?_)
  refine rw_astore E (i := 7) (lv2 := [(7, hrf b0 v5), (6, hrf b0 v2), (0, hrf b0 ((some h))), (1, .int l1), (2, .int l2), (3, .int l3), (4, .int l4), (5, .int l5)]) (by decide) (by simp [lvs, lvs2, hrf_cat]) dX11_copy_12 ?_
  refine rw_aload E (j0 := 1) rfl dX11_copy_14 ?_
  refine rw_ifnull E hh (tgt := 24) (by decide) dX11_copy_16 (fun hh => ?_) (fun hh => ?_)
  · refine rw_ldc E (v := (-1000001)) (List.mem_of_getElem? (i := 1) (by decide +kernel)) dX11_copy_24 ?_
    exact rw_iret E hrt hlk hh (by decide) (by decide) dX11_copy_26
  · refine rw_aload E (j0 := 0) rfl dX11_copy_19 ?_
    refine rw_ifnonnull E hh (tgt := 27) (by decide) dX11_copy_21 (fun hh => ?_) (fun hh => ?_)
    · refine rw_aload E (j0 := 1) rfl dX11_copy_27 ?_
      refine rw_getI E hh (C := RX6) (T := TX6) (N := 4) rfl (by decide) i_X11_copy_6 (by decide) rfl (List.mem_of_getElem? (i := 2) (by decide +kernel)) rfl dX11_copy_29 (fun v7 hh => ?_)
      refine rw_if_eq E hh (tgt := 43) (by decide) dX11_copy_32 (fun hh => ?_) (fun hh => ?_)
      · refine WH.pick [2] rfl ?_
        exact w_X11_copy_b43 E hrt hlk hh
      · refine rw_aload E (j0 := 0) rfl dX11_copy_35 ?_
        refine rw_getI E hh (C := RX6) (T := TX6) (N := 4) rfl (by decide) i_X11_copy_6 (by decide) rfl (List.mem_of_getElem? (i := 2) (by decide +kernel)) rfl dX11_copy_37 (fun v8 hh => ?_)
        refine rw_if_ne E hh (tgt := 49) (by decide) dX11_copy_40 (fun hh => ?_) (fun hh => ?_)
        · refine rw_aload E (j0 := 1) rfl dX11_copy_49 ?_
          refine rw_getI E hh (C := RX6) (T := TX6) (N := 4) rfl (by decide) i_X11_copy_6 (by decide) rfl (List.mem_of_getElem? (i := 3) (by decide +kernel)) rfl dX11_copy_51 (fun v9 hh => ?_)
          refine rw_aload E (j0 := 0) rfl dX11_copy_54 ?_
          refine rw_getI E hh (C := RX6) (T := TX6) (N := 4) rfl (by decide) i_X11_copy_6 (by decide) rfl (List.mem_of_getElem? (i := 3) (by decide +kernel)) rfl dX11_copy_56 (fun v10 hh => ?_)
          refine rw_icmp_eq E hh (tgt := 68) (by decide) dX11_copy_59 (fun hh => ?_) (fun hh => ?_)
          · refine rw_aload E (j0 := 1) rfl dX11_copy_68 ?_
            refine rw_iload_n E (j0 := 4) rfl rfl dX11_copy_70 ?_
            refine rw_iload E (j0 := 7) rfl dX11_copy_71 ?_
            refine rw_cVi E (As := [.int l2, .int l5]) hh (by decide) rfl (fun _ _ _ hq => c_X6_holds l b0 G _ _ _ _ _ _ hq) (cwV 2 E.2.2.2.2.1 gX11_copy_X6_holds rfl rfl rfl (by decide +kernel) ⟨Nat.le_of_ble_eq_true rfl, Nat.le_of_ble_eq_true rfl⟩) rfl rfl (by (try simp only [List.map_cons, List.map_nil, List.sum_cons, List.sum_nil, hrf_cat, cat_i, cat_l, cat_r]) <;> decide) ⟨Nat.le_of_ble_eq_true rfl, Nat.le_of_ble_eq_true rfl⟩ dX11_copy_73 (fun v12 S11 hh => ?_)
            refine rw_if_eq E hh (tgt := 91) (by decide) dX11_copy_76 (fun hh => ?_) (fun hh => ?_)
            · refine WH.pick [2] rfl ?_
              exact w_X11_copy_b91 E hrt hlk hh
            · refine rw_aload E (j0 := 0) rfl dX11_copy_79 ?_
              refine rw_iload E (j0 := 6) rfl dX11_copy_81 ?_
              refine rw_iload E (j0 := 7) rfl dX11_copy_83 ?_
              refine rw_cVi E (As := [.int l4, .int l5]) hh (by decide) rfl (fun _ _ _ hq => c_X6_holds l b0 G _ _ _ _ _ _ hq) (cwV 2 E.2.2.2.2.1 gX11_copy_X6_holds rfl rfl rfl (by decide +kernel) ⟨Nat.le_of_ble_eq_true rfl, Nat.le_of_ble_eq_true rfl⟩) rfl rfl (by (try simp only [List.map_cons, List.map_nil, List.sum_cons, List.sum_nil, hrf_cat, cat_i, cat_l, cat_r]) <;> decide) ⟨Nat.le_of_ble_eq_true rfl, Nat.le_of_ble_eq_true rfl⟩ dX11_copy_85 (fun v15 S14 hh => ?_)
              refine rw_if_ne E hh (tgt := 97) (by decide) dX11_copy_88 (fun hh => ?_) (fun hh => ?_)
              · refine rw_aload E (j0 := 1) rfl dX11_copy_97 ?_
                refine rw_getP E hh (C := RX6) (T := TX6) (N := 4) rfl (by decide) i_X11_copy_6 (by decide) rfl (List.mem_of_getElem? (i := 4) (by decide +kernel)) rfl dX11_copy_99 (fun v17 hh => ?_)
                refine rw_iload_n E (j0 := 4) rfl rfl dX11_copy_102 ?_
                refine rw_aload E (j0 := 0) rfl dX11_copy_103 ?_
                refine rw_getP E hh (C := RX6) (T := TX6) (N := 4) rfl (by decide) i_X11_copy_6 (by decide) rfl (List.mem_of_getElem? (i := 4) (by decide +kernel)) rfl dX11_copy_105 (fun v18 hh => ?_)
                refine rw_iload E (j0 := 6) rfl dX11_copy_108 ?_
                refine rw_iload E (j0 := 7) rfl dX11_copy_110 ?_
                refine rw_copy E hh (by decide) (by (try simp only [List.map_cons, List.map_nil, List.sum_cons, List.sum_nil, hrf_cat, cat_i, cat_l, cat_r]) <;> decide) (List.mem_of_getElem? (i := 5) (by decide +kernel)) (List.mem_of_getElem? (i := 6) (by decide +kernel)) (List.mem_of_getElem? (i := 7) (by decide +kernel)) (List.mem_of_getElem? (i := 8) (by decide +kernel)) dX11_copy_112 (fun S19 hh => ?_)
                refine rw_aload_n E (j0 := 2) rfl rfl dX11_copy_115 ?_
                refine rw_iload E (j0 := 7) rfl dX11_copy_116 ?_
                refine rw_cVi E (As := [.int l5]) hh (by decide) rfl (fun _ _ _ hq => c_X11_fine l b0 G _ _ _ _ _ hq) (cwV 1 E.2.2.2.2.1 gX11_copy_X11_fine rfl rfl rfl (by decide +kernel) ⟨Nat.le_of_ble_eq_true rfl, Nat.le_of_ble_eq_true rfl⟩) rfl rfl (by (try simp only [List.map_cons, List.map_nil, List.sum_cons, List.sum_nil, hrf_cat, cat_i, cat_l, cat_r]) <;> decide) ⟨Nat.le_of_ble_eq_true rfl, Nat.le_of_ble_eq_true rfl⟩ dX11_copy_118 (fun v21 S20 hh => ?_)
                exact rw_iret E hrt hlk hh (by decide) (by decide) dX11_copy_121
              · refine WH.pick [2] rfl ?_
                exact w_X11_copy_b91 E hrt hlk hh
          · refine rw_aload_n E (j0 := 2) rfl rfl dX11_copy_62 ?_
            refine rw_iconst E (v := 5) (by decide) dX11_copy_63 ?_
            refine rw_cVi E (As := [.int 5]) hh (by decide) rfl (fun _ _ _ hq => c_X11_found l b0 G _ _ _ _ _ hq) (cwV 1 E.2.2.2.2.1 gX11_copy_X11_found rfl rfl rfl (by decide +kernel) ⟨Nat.le_of_ble_eq_true rfl, Nat.le_of_ble_eq_true rfl⟩) rfl rfl (by (try simp only [List.map_cons, List.map_nil, List.sum_cons, List.sum_nil, hrf_cat, cat_i, cat_l, cat_r]) <;> decide) ⟨Nat.le_of_ble_eq_true rfl, Nat.le_of_ble_eq_true rfl⟩ dX11_copy_64 (fun v24 S23 hh => ?_)
            exact rw_iret E hrt hlk hh (by decide) (by decide) dX11_copy_67
        · refine WH.pick [2] rfl ?_
          exact w_X11_copy_b43 E hrt hlk hh
    · refine rw_ldc E (v := (-1000001)) (List.mem_of_getElem? (i := 1) (by decide +kernel)) dX11_copy_24 ?_
      exact rw_iret E hrt hlk hh (by decide) (by decide) dX11_copy_26

/-! HummingDisc.drop(I)I -/
abbrev rm_X11_drop : Room := { frames := 1, cells := 0, slots := 0, locals := 21 }
theorem i_X11_drop_6 : ∀ w ∈ wsX60, w ∈ wsX11_drop := fun _ h => List.mem_cons_of_mem _ (List.mem_append_left _ (List.mem_append_right _ (h)))
def s_X11_drop (S : HS) (h : Nat) (l1 : Int32) : Option (Int32 × HS) := kO S ((some h)) 11 (fun a3 => kc (s_X11_rowAt S a3 l1) (fun v2 S1 => if v2 = none then (some ((-1000001), S1)) else (kI S1 v2 6 1 (fun v4 => if v4 = 0 then (kO S1 ((some h)) 11 (fun a12 => kc (s_X11_found S1 a12 1) (fun v11 S10 => some (v11, S10)))) else (kwZ S1 v2 6 1 0 (fun S5 => kI S5 v2 6 3 (fun v6 => kO S5 ((some h)) 11 (fun a9 => kc (s_X11_fine S5 a9 v6) (fun v8 S7 => some (v8, S7))))))))))
set_option maxHeartbeats 4000000 in
set_option maxRecDepth 100000 in
theorem c_X11_drop (l : Launch) (b0 : Nat) (G : hG) (S S1 : HS) (h : Nat) (l1 : Int32) (r : Int32) (hh : s_X11_drop S h l1 = some (r, S1)) : MH l yX11_drop wsX11_drop rm_X11_drop b0 G S [hrf b0 (some h), .int l1] (some (.int r)) S1 0 0 := by
  refine MH.ofW (cc := cX11_drop) (maxL := 3) (ret := (some .int)) (own := RX11) (lv0 := [(0, hrf b0 ((some h))), (1, .int l1)]) (by decide) rfl rfl (Nat.le_of_ble_eq_true rfl) rfl ?_
  intro p e s m args below meth c E hrt hlk hnm
  have hh : (kO S ((some h)) 11 (fun a3 => kc (s_X11_rowAt S a3 l1) (fun v2 S1 => if v2 = none then (some ((-1000001), S1)) else (kI S1 v2 6 1 (fun v4 => if v4 = 0 then (kO S1 ((some h)) 11 (fun a12 => kc (s_X11_found S1 a12 1) (fun v11 S10 => some (v11, S10)))) else (kwZ S1 v2 6 1 0 (fun S5 => kI S5 v2 6 3 (fun v6 => kO S5 ((some h)) 11 (fun a9 => kc (s_X11_fine S5 a9 v6) (fun v8 S7 => some (v8, S7))))))))))) = some (r, S1) := hh
  refine rw_aload_n E (j0 := 0) rfl rfl dX11_drop_0 ?_
  refine rw_iload_n E (j0 := 1) rfl rfl dX11_drop_1 ?_
  refine rw_cVr E (As := [.int l1]) hh (by decide) rfl (fun _ _ _ hq => c_X11_rowAt l b0 G _ _ _ _ _ hq) (cwV 1 E.2.2.2.2.1 gX11_drop_X11_rowAt rfl rfl rfl (by decide +kernel) ⟨Nat.le_of_ble_eq_true rfl, Nat.le_of_ble_eq_true rfl⟩) rfl rfl (by (try simp only [List.map_cons, List.map_nil, List.sum_cons, List.sum_nil, hrf_cat, cat_i, cat_l, cat_r]) <;> decide) ⟨Nat.le_of_ble_eq_true rfl, Nat.le_of_ble_eq_true rfl⟩ dX11_drop_2 (fun v2 S1 hh => ?_)
  refine rw_astore_n E (lv2 := [(2, hrf b0 v2), (0, hrf b0 ((some h))), (1, .int l1)]) rfl (by decide) rfl dX11_drop_5 ?_
  refine rw_aload_n E (j0 := 0) rfl rfl dX11_drop_6 ?_
  refine rw_ifnonnull E hh (tgt := 13) (by decide) dX11_drop_7 (fun hh => ?_) (fun hh => ?_)
  · refine rw_aload_n E (j0 := 0) rfl rfl dX11_drop_13 ?_
    refine rw_getI E hh (C := RX6) (T := TX6) (N := 4) rfl (by decide) i_X11_drop_6 (by decide) rfl (List.mem_of_getElem? (i := 2) (by decide +kernel)) rfl dX11_drop_14 (fun v4 hh => ?_)
    refine rw_if_ne E hh (tgt := 26) (by decide) dX11_drop_17 (fun hh => ?_) (fun hh => ?_)
    · refine rw_aload_n E (j0 := 0) rfl rfl dX11_drop_26 ?_
      refine rw_iconst E (v := 0) (by decide) dX11_drop_27 ?_
      refine rw_putZ E hh (C := RX6) (T := TX6) (N := 4) (ty0 := tyX6) rfl tyX6_ok nmX6 (by decide) i_X11_drop_6 (by decide) rfl (List.mem_of_getElem? (i := 2) (by decide +kernel)) rfl (Or.inl rfl) rfl dX11_drop_28 (fun S5 hh => ?_)
      refine rw_aload_n E (j0 := 1) rfl rfl dX11_drop_31 ?_
      refine rw_aload_n E (j0 := 0) rfl rfl dX11_drop_32 ?_
      refine rw_getI E hh (C := RX6) (T := TX6) (N := 4) rfl (by decide) i_X11_drop_6 (by decide) rfl (List.mem_of_getElem? (i := 3) (by decide +kernel)) rfl dX11_drop_33 (fun v6 hh => ?_)
      refine rw_cVi E (As := [.int v6]) hh (by decide) rfl (fun _ _ _ hq => c_X11_fine l b0 G _ _ _ _ _ hq) (cwV 1 E.2.2.2.2.1 gX11_drop_X11_fine rfl rfl rfl (by decide +kernel) ⟨Nat.le_of_ble_eq_true rfl, Nat.le_of_ble_eq_true rfl⟩) rfl rfl (by (try simp only [List.map_cons, List.map_nil, List.sum_cons, List.sum_nil, hrf_cat, cat_i, cat_l, cat_r]) <;> decide) ⟨Nat.le_of_ble_eq_true rfl, Nat.le_of_ble_eq_true rfl⟩ dX11_drop_36 (fun v8 S7 hh => ?_)
      exact rw_iret E hrt hlk hh (by decide) (by decide) dX11_drop_39
    · refine rw_aload_n E (j0 := 1) rfl rfl dX11_drop_20 ?_
      refine rw_iconst E (v := 1) (by decide) dX11_drop_21 ?_
      refine rw_cVi E (As := [.int 1]) hh (by decide) rfl (fun _ _ _ hq => c_X11_found l b0 G _ _ _ _ _ hq) (cwV 1 E.2.2.2.2.1 gX11_drop_X11_found rfl rfl rfl (by decide +kernel) ⟨Nat.le_of_ble_eq_true rfl, Nat.le_of_ble_eq_true rfl⟩) rfl rfl (by (try simp only [List.map_cons, List.map_nil, List.sum_cons, List.sum_nil, hrf_cat, cat_i, cat_l, cat_r]) <;> decide) ⟨Nat.le_of_ble_eq_true rfl, Nat.le_of_ble_eq_true rfl⟩ dX11_drop_22 (fun v11 S10 hh => ?_)
      exact rw_iret E hrt hlk hh (by decide) (by decide) dX11_drop_25
  · refine rw_ldc E (v := (-1000001)) (List.mem_of_getElem? (i := 1) (by decide +kernel)) dX11_drop_10 ?_
    exact rw_iret E hrt hlk hh (by decide) (by decide) dX11_drop_12

/-! HummingDisc.feed(JI)I -/
abbrev rm_X11_feed : Room := { frames := 1, cells := 0, slots := 0, locals := 21 }
theorem i_X11_feed_10 : ∀ w ∈ wsX100, w ∈ wsX11_feed := fun _ h => List.mem_cons_of_mem _ (List.mem_append_right _ (h))
theorem i_X11_feed_11 : ∀ w ∈ wsX110, w ∈ wsX11_feed := fun _ h => List.mem_cons_of_mem _ (List.mem_append_left _ (List.mem_append_right _ (h)))
def s_X11_feed_b37 (j37 : HS → Int64 → Int32 → Option (Int32 × HS)) (h : Nat) (S : HS) (l1 : Int64) (l4 : Int32) : Option (Int32 × HS) := if l4 < 0 then (kP S ((some h)) 11 1 (fun v1 => kI S v1 10 1 (fun v2 => some (v2, S)))) else (kP S ((some h)) 11 1 (fun v3 => kO S v3 10 (fun a5 => kcv (s_X10_add S a5 (((l1 >>> ((8 * l4 : Int32).toInt64 &&& 63) : Int64).toInt32 : Int32).toInt8.toInt32)) (fun S4 => j37 S4 l1 (l4 + (-1))))))
set_option maxHeartbeats 4000000 in
set_option maxRecDepth 100000 in
theorem w_X11_feed_b37 {p : Program} {l : Launch} {e : Env} {s : State} {m : MethodId} {args : Array Value} {below : List Frame} {meth : Method} {c : Code} {b0 : Nat} {G : hG} {S1 : HS} {r : Int32} {j37 : HS → Int64 → Int32 → Option (Int32 × HS)} {h : Nat} {S : HS} {l1 : Int64} {l4 : Int32} (E : hE p s m args c b0 G cX11_feed RX11 5 wsX11_feed) (hrt : meth.sig.returnType = (some .int)) (hlk : meth.locks = false) (hj37 : ∀ (S : HS) (l1 : Int64) (l4 : Int32), j37 S l1 l4 = some (r, S1) → WH p l e rm_X11_feed s m args below meth c b0 G 5 0 0 (MQ below (hQ b0 G (some (.int r)) S1) args s 0 0 (hA b0)) S 37 [(0, hrf b0 ((some h))), (1, .long l1), (4, .int l4)] []) (hh : s_X11_feed_b37 j37 h S l1 l4 = some (r, S1)) : WH p l e rm_X11_feed s m args below meth c b0 G 5 0 0 (MQ below (hQ b0 G (some (.int r)) S1) args s 0 0 (hA b0)) S 37 [(0, hrf b0 ((some h))), (1, .long l1), (4, .int l4)] [] := by
  have hh : (if l4 < 0 then (kP S ((some h)) 11 1 (fun v1 => kI S v1 10 1 (fun v2 => some (v2, S)))) else (kP S ((some h)) 11 1 (fun v3 => kO S v3 10 (fun a5 => kcv (s_X10_add S a5 (((l1 >>> ((8 * l4 : Int32).toInt64 &&& 63) : Int64).toInt32 : Int32).toInt8.toInt32)) (fun S4 => j37 S4 l1 (l4 + (-1))))))) = some (r, S1) := hh
  refine rw_iload E (j0 := 2) rfl dX11_feed_37 ?_
  refine rw_if_lt E hh (tgt := 64) (by decide) dX11_feed_39 (fun hh => ?_) (fun hh => ?_)
  · refine rw_aload_n E (j0 := 0) rfl rfl dX11_feed_64 ?_
    refine rw_getP E hh (C := RX11) (T := TX11) (N := 9) rfl (by decide) i_X11_feed_11 (by decide) rfl (List.mem_of_getElem? (i := 2) (by decide +kernel)) rfl dX11_feed_65 (fun v1 hh => ?_)
    refine rw_getI E hh (C := RX10) (T := TX10) (N := 8) rfl (by decide) i_X11_feed_10 (by decide) rfl (List.mem_of_getElem? (i := 3) (by decide +kernel)) rfl dX11_feed_68 (fun v2 hh => ?_)
    exact rw_iret E hrt hlk hh (by decide) (by decide) dX11_feed_71
  · refine rw_aload_n E (j0 := 0) rfl rfl dX11_feed_42 ?_
    refine rw_getP E hh (C := RX11) (T := TX11) (N := 9) rfl (by decide) i_X11_feed_11 (by decide) rfl (List.mem_of_getElem? (i := 2) (by decide +kernel)) rfl dX11_feed_43 (fun v3 hh => ?_)
    refine rw_lload_n E (j0 := 1) rfl rfl dX11_feed_46 ?_
    refine rw_bipush E (v := 8) (by decide) dX11_feed_47 ?_
    refine rw_iload E (j0 := 2) rfl dX11_feed_49 ?_
    refine rw_imul E dX11_feed_51 ?_
    refine rw_lshr E dX11_feed_52 ?_
    refine rw_l2i E dX11_feed_53 ?_
    refine rw_i2b E dX11_feed_54 ?_
    refine rw_cVv E (As := [.int (((l1 >>> ((8 * l4 : Int32).toInt64 &&& 63) : Int64).toInt32 : Int32).toInt8.toInt32)]) hh (by decide) rfl (fun _ _ hq => c_X10_add l b0 G _ _ _ _ hq) (cwV 1 E.2.2.2.2.1 gX11_feed_X10_add rfl rfl rfl (by decide +kernel) ⟨Nat.le_of_ble_eq_true rfl, Nat.le_of_ble_eq_true rfl⟩) rfl rfl (by (try simp only [List.map_cons, List.map_nil, List.sum_cons, List.sum_nil, hrf_cat, cat_i, cat_l, cat_r]) <;> decide) ⟨Nat.le_of_ble_eq_true rfl, Nat.le_of_ble_eq_true rfl⟩ dX11_feed_55 (fun S4 hh => ?_)
    refine rw_iinc E (v := l4 + (-1)) (lv2 := [(4, .int (l4 + (-1))), (0, hrf b0 ((some h))), (1, .long l1)]) (j0 := 2) rfl (congrArg (fun z => l4 + z) (show Int32.ofInt (-1) = (-1) by decide)) (by decide) rfl dX11_feed_58 ?_
    refine rw_goto E (tgt := 37) (by decide) dX11_feed_61 ?_
    refine WH.pick [1, 2, 0] rfl ?_
    exact hj37 _ _ _ hh
def s_X11_feed_L37 (h : Nat) : Nat → HS → Int64 → Int32 → Option (Int32 × HS)
  | 0 => fun _ _ _ => none
  | n + 1 => s_X11_feed_b37 (s_X11_feed_L37 h n) h
set_option maxHeartbeats 4000000 in
set_option maxRecDepth 100000 in
theorem w_X11_feed_L37 {p : Program} {l : Launch} {e : Env} {s : State} {m : MethodId} {args : Array Value} {below : List Frame} {meth : Method} {c : Code} {b0 : Nat} {G : hG} {S1 : HS} {r : Int32} {h : Nat} (E : hE p s m args c b0 G cX11_feed RX11 5 wsX11_feed) (hrt : meth.sig.returnType = (some .int)) (hlk : meth.locks = false) : ∀ (n : Nat) (S : HS) (l1 : Int64) (l4 : Int32), s_X11_feed_L37 h n S l1 l4 = some (r, S1) → WH p l e rm_X11_feed s m args below meth c b0 G 5 0 0 (MQ below (hQ b0 G (some (.int r)) S1) args s 0 0 (hA b0)) S 37 [(0, hrf b0 ((some h))), (1, .long l1), (4, .int l4)] [] := by
  intro n
  induction n with
  | zero => intro _ _ _ hh; exact absurd hh (by simp [s_X11_feed_L37])
  | succ n ih => intro _ _ _ hh; exact w_X11_feed_b37 E hrt hlk  ih hh
def s_X11_feed (S : HS) (h : Nat) (l1 : Int64) (l3 : Int32) : Option (Int32 × HS) := if l3 < 1 then (some ((-1000001), S)) else (if l3 ≤ 8 then (kP S ((some h)) 11 1 (fun v1 => kI S v1 10 1 (fun v2 => if v2 + l3 ≤ 500 then (s_X11_feed_L37 h 100000 S l1 (l3 - 1)) else (some ((-1000003), S))))) else (some ((-1000001), S)))
set_option maxHeartbeats 4000000 in
set_option maxRecDepth 100000 in
theorem c_X11_feed (l : Launch) (b0 : Nat) (G : hG) (S S1 : HS) (h : Nat) (l1 : Int64) (l3 : Int32) (r : Int32) (hh : s_X11_feed S h l1 l3 = some (r, S1)) : MH l yX11_feed wsX11_feed rm_X11_feed b0 G S [hrf b0 (some h), .long l1, .int l3] (some (.int r)) S1 0 0 := by
  refine MH.ofW (cc := cX11_feed) (maxL := 5) (ret := (some .int)) (own := RX11) (lv0 := [(0, hrf b0 ((some h))), (1, .long l1), (3, .int l3)]) (by decide) rfl rfl (Nat.le_of_ble_eq_true rfl) rfl ?_
  intro p e s m args below meth c E hrt hlk hnm
  have hh : (if l3 < 1 then (some ((-1000001), S)) else (if l3 ≤ 8 then (kP S ((some h)) 11 1 (fun v1 => kI S v1 10 1 (fun v2 => if v2 + l3 ≤ 500 then (s_X11_feed_L37 h 100000 S l1 (l3 - 1)) else (some ((-1000003), S))))) else (some ((-1000001), S)))) = some (r, S1) := hh
  refine rw_iload_n E (j0 := 2) rfl rfl dX11_feed_0 ?_
  refine rw_iconst E (v := 1) (by decide) dX11_feed_1 ?_
  refine rw_icmp_lt E hh (tgt := 11) (by decide) dX11_feed_2 (fun hh => ?_) (fun hh => ?_)
  · refine rw_ldc E (v := (-1000001)) (List.mem_of_getElem? (i := 1) (by decide +kernel)) dX11_feed_11 ?_
    exact rw_iret E hrt hlk hh (by decide) (by decide) dX11_feed_13
  · refine rw_iload_n E (j0 := 2) rfl rfl dX11_feed_5 ?_
    refine rw_bipush E (v := 8) (by decide) dX11_feed_6 ?_
    refine rw_icmp_le E hh (tgt := 14) (by decide) dX11_feed_8 (fun hh => ?_) (fun hh => ?_)
    · refine rw_aload_n E (j0 := 0) rfl rfl dX11_feed_14 ?_
      refine rw_getP E hh (C := RX11) (T := TX11) (N := 9) rfl (by decide) i_X11_feed_11 (by decide) rfl (List.mem_of_getElem? (i := 2) (by decide +kernel)) rfl dX11_feed_15 (fun v1 hh => ?_)
      refine rw_getI E hh (C := RX10) (T := TX10) (N := 8) rfl (by decide) i_X11_feed_10 (by decide) rfl (List.mem_of_getElem? (i := 3) (by decide +kernel)) rfl dX11_feed_18 (fun v2 hh => ?_)
      refine rw_iload_n E (j0 := 2) rfl rfl dX11_feed_21 ?_
      refine rw_iadd E dX11_feed_22 ?_
      refine rw_sipush E (v := 500) (by decide) dX11_feed_23 ?_
      refine rw_icmp_le E hh (tgt := 32) (by decide) dX11_feed_26 (fun hh => ?_) (fun hh => ?_)
      · refine rw_iload_n E (j0 := 2) rfl rfl dX11_feed_32 ?_
        refine rw_iconst E (v := 1) (by decide) dX11_feed_33 ?_
        refine rw_isub E dX11_feed_34 ?_
        refine rw_istore E (lv2 := [(4, .int (l3 - 1)), (0, hrf b0 ((some h))), (1, .long l1), (3, .int l3)]) (by decide) rfl dX11_feed_35 ?_
        refine WH.pick [1, 2, 0] rfl ?_
        exact w_X11_feed_L37 E hrt hlk 100000 _ _ _ hh
      · refine rw_ldc E (v := (-1000003)) (List.mem_of_getElem? (i := 4) (by decide +kernel)) dX11_feed_29 ?_
        exact rw_iret E hrt hlk hh (by decide) (by decide) dX11_feed_31
    · refine rw_ldc E (v := (-1000001)) (List.mem_of_getElem? (i := 1) (by decide +kernel)) dX11_feed_11 ?_
      exact rw_iret E hrt hlk hh (by decide) (by decide) dX11_feed_13

/-! HummingDisc.box()I -/
abbrev rm_X11_box : Room := { frames := 9, cells := 76, slots := 300, locals := 197 }
theorem i_X11_box_1 : ∀ w ∈ wsX10, w ∈ wsX11_box := fun _ h => List.mem_cons_of_mem _ (List.mem_append_left _ (List.mem_append_left _ (List.mem_append_left _ (List.mem_append_left _ (List.mem_append_left _ (List.mem_append_right _ (h)))))))
theorem i_X11_box_9 : ∀ w ∈ wsX90, w ∈ wsX11_box := fun _ h => List.mem_cons_of_mem _ (List.mem_append_left _ (List.mem_append_left _ (List.mem_append_left _ (List.mem_append_left _ (List.mem_append_left _ (List.mem_append_left _ (List.mem_append_right _ (h))))))))
theorem i_X11_box_10 : ∀ w ∈ wsX100, w ∈ wsX11_box := fun _ h => List.mem_cons_of_mem _ (List.mem_append_left _ (List.mem_append_left _ (List.mem_append_left _ (List.mem_append_left _ (List.mem_append_left _ (List.mem_append_left _ (List.mem_append_left _ (List.mem_append_right _ (h)))))))))
theorem i_X11_box_11 : ∀ w ∈ wsX110, w ∈ wsX11_box := fun _ h => List.mem_cons_of_mem _ (List.mem_append_left _ (List.mem_append_left _ (List.mem_append_left _ (List.mem_append_left _ (List.mem_append_left _ (List.mem_append_left _ (List.mem_append_left _ (List.mem_append_left _ (List.mem_append_right _ (h))))))))))
def s_X11_box (S : HS) (h : Nat) : Option (Int32 × HS) := kP S ((some h)) 11 1 (fun v1 => kO S v1 10 (fun a4 => kc (s_X10_readBox S a4 ) (fun v3 S2 => if v3 = none then (kP S2 ((some h)) 11 1 (fun v12 => kI S2 v12 10 2 (fun v13 => kwI S2 ((some h)) 11 6 v13 (fun S14 => kP S14 ((some h)) 11 1 (fun v15 => kI S14 v15 10 3 (fun v16 => some (((-1000100)) - v16, S14))))))) else (kP S2 ((some h)) 11 2 (fun v5 => kwP S2 v5 9 1 v3 (fun S6 => kP S6 ((some h)) 11 2 (fun v7 => kP S6 v7 9 0 (fun v8 => kO S6 v8 8 (fun a10 => kcv (s_X8_end S6 a10 ) (fun S9 => kI S9 v3 1 3 (fun v11 => some (v11, S9))))))))))))
set_option maxHeartbeats 4000000 in
set_option maxRecDepth 100000 in
theorem c_X11_box (l : Launch) (b0 : Nat) (G : hG) (S S1 : HS) (h : Nat) (r : Int32) (hh : s_X11_box S h  = some (r, S1)) : MH l yX11_box wsX11_box rm_X11_box b0 G S [hrf b0 (some h)] (some (.int r)) S1 76 300 := by
  refine MH.ofW (cc := cX11_box) (maxL := 2) (ret := (some .int)) (own := RX11) (lv0 := [(0, hrf b0 ((some h)))]) (by decide) rfl rfl (Nat.le_of_ble_eq_true rfl) rfl ?_
  intro p e s m args below meth c E hrt hlk hnm
  have hh : (kP S ((some h)) 11 1 (fun v1 => kO S v1 10 (fun a4 => kc (s_X10_readBox S a4 ) (fun v3 S2 => if v3 = none then (kP S2 ((some h)) 11 1 (fun v12 => kI S2 v12 10 2 (fun v13 => kwI S2 ((some h)) 11 6 v13 (fun S14 => kP S14 ((some h)) 11 1 (fun v15 => kI S14 v15 10 3 (fun v16 => some (((-1000100)) - v16, S14))))))) else (kP S2 ((some h)) 11 2 (fun v5 => kwP S2 v5 9 1 v3 (fun S6 => kP S6 ((some h)) 11 2 (fun v7 => kP S6 v7 9 0 (fun v8 => kO S6 v8 8 (fun a10 => kcv (s_X8_end S6 a10 ) (fun S9 => kI S9 v3 1 3 (fun v11 => some (v11, S9))))))))))))) = some (r, S1) := hh
  have hc : 0 + 76 ≤ 76 := by decide
  have hs : 0 + 300 ≤ 300 := by decide
  refine rw_aload_n E (j0 := 0) rfl rfl dX11_box_0 ?_
  refine rw_getP E hh (C := RX11) (T := TX11) (N := 9) rfl (by decide) i_X11_box_11 (by decide) rfl (List.mem_of_getElem? (i := 1) (by decide +kernel)) rfl dX11_box_1 (fun v1 hh => ?_)
  refine rw_cVr E (As := []) hh (by decide) rfl (fun _ _ _ hq => c_X10_readBox l b0 G _ _ _ _ hq) (cwV 0 E.2.2.2.2.1 gX11_box_X10_readBox rfl rfl rfl (by decide +kernel) ⟨Nat.le_of_ble_eq_true rfl, Nat.le_of_ble_eq_true rfl⟩) rfl rfl (by (try simp only [List.map_cons, List.map_nil, List.sum_cons, List.sum_nil, hrf_cat, cat_i, cat_l, cat_r]) <;> decide) ⟨(show _ ≤ 76 by omega), (show _ ≤ 300 by omega)⟩ dX11_box_4 (fun v3 S2 hh => ?_)
  refine rw_astore_n E (lv2 := [(1, hrf b0 v3), (0, hrf b0 ((some h)))]) rfl (by decide) rfl dX11_box_7 ?_
  refine rw_aload_n E (j0 := 0) rfl rfl dX11_box_8 ?_
  refine rw_ifnonnull E hh (tgt := 34) (by decide) dX11_box_9 (fun hh => ?_) (fun hh => ?_)
  · refine rw_aload_n E (j0 := 1) rfl rfl dX11_box_34 ?_
    refine rw_getP E hh (C := RX11) (T := TX11) (N := 9) rfl (by decide) i_X11_box_11 (by decide) rfl (List.mem_of_getElem? (i := 6) (by decide +kernel)) rfl dX11_box_35 (fun v5 hh => ?_)
    refine rw_aload_n E (j0 := 0) rfl rfl dX11_box_38 ?_
    refine rw_putP E hh (C := RX9) (T := TX9) (N := 2) (ty0 := tyX9) rfl tyX9_ok nmX9 (by decide) i_X11_box_9 (by decide) rfl (List.mem_of_getElem? (i := 7) (by decide +kernel)) rfl (Or.inl rfl) (Or.inl ⟨_, rfl⟩) dX11_box_39 (fun S6 hh => ?_)
    refine rw_aload_n E (j0 := 1) rfl rfl dX11_box_42 ?_
    refine rw_getP E hh (C := RX11) (T := TX11) (N := 9) rfl (by decide) i_X11_box_11 (by decide) rfl (List.mem_of_getElem? (i := 6) (by decide +kernel)) rfl dX11_box_43 (fun v7 hh => ?_)
    refine rw_getP E hh (C := RX9) (T := TX9) (N := 2) rfl (by decide) i_X11_box_9 (by decide) rfl (List.mem_of_getElem? (i := 8) (by decide +kernel)) rfl dX11_box_46 (fun v8 hh => ?_)
    refine rw_cVv E (As := []) hh (by decide) rfl (fun _ _ hq => c_X8_end l b0 G _ _ _ hq) (cwV 0 E.2.2.2.2.1 gX11_box_X8_end rfl rfl rfl (by decide +kernel) ⟨Nat.le_of_ble_eq_true rfl, Nat.le_of_ble_eq_true rfl⟩) rfl rfl (by (try simp only [List.map_cons, List.map_nil, List.sum_cons, List.sum_nil, hrf_cat, cat_i, cat_l, cat_r]) <;> decide) ⟨(show _ ≤ 76 by omega), (show _ ≤ 300 by omega)⟩ dX11_box_49 (fun S9 hh => ?_)
    refine rw_aload_n E (j0 := 0) rfl rfl dX11_box_52 ?_
    refine rw_getI E hh (C := RX1) (T := TX1) (N := 6) rfl (by decide) i_X11_box_1 (by decide) rfl (List.mem_of_getElem? (i := 9) (by decide +kernel)) rfl dX11_box_53 (fun v11 hh => ?_)
    exact rw_iret E hrt hlk hh (show _ ≤ 76 by omega) (show _ ≤ 300 by omega) dX11_box_56
  · refine rw_aload_n E (j0 := 1) rfl rfl dX11_box_12 ?_
    refine rw_aload_n E (j0 := 1) rfl rfl dX11_box_13 ?_
    refine rw_getP E hh (C := RX11) (T := TX11) (N := 9) rfl (by decide) i_X11_box_11 (by decide) rfl (List.mem_of_getElem? (i := 1) (by decide +kernel)) rfl dX11_box_14 (fun v12 hh => ?_)
    refine rw_getI E hh (C := RX10) (T := TX10) (N := 8) rfl (by decide) i_X11_box_10 (by decide) rfl (List.mem_of_getElem? (i := 2) (by decide +kernel)) rfl dX11_box_17 (fun v13 hh => ?_)
    refine rw_putI E hh (C := RX11) (T := TX11) (N := 9) (ty0 := tyX11) rfl tyX11_ok nmX11 (by decide) i_X11_box_11 (by decide) rfl (List.mem_of_getElem? (i := 3) (by decide +kernel)) rfl (Or.inl rfl) rfl dX11_box_20 (fun S14 hh => ?_)
    refine rw_ldc E (v := (-1000100)) (List.mem_of_getElem? (i := 4) (by decide +kernel)) dX11_box_23 ?_
    refine rw_aload_n E (j0 := 1) rfl rfl dX11_box_25 ?_
    refine rw_getP E hh (C := RX11) (T := TX11) (N := 9) rfl (by decide) i_X11_box_11 (by decide) rfl (List.mem_of_getElem? (i := 1) (by decide +kernel)) rfl dX11_box_26 (fun v15 hh => ?_)
    refine rw_getI E hh (C := RX10) (T := TX10) (N := 8) rfl (by decide) i_X11_box_10 (by decide) rfl (List.mem_of_getElem? (i := 5) (by decide +kernel)) rfl dX11_box_29 (fun v16 hh => ?_)
    refine rw_isub E dX11_box_32 ?_
    exact rw_iret E hrt hlk hh (show _ ≤ 76 by omega) (show _ ≤ 300 by omega) dX11_box_33

/-! HummingDisc.fault()I -/
abbrev rm_X11_fault : Room := { frames := 0, cells := 0, slots := 0, locals := 0 }
theorem i_X11_fault_11 : ∀ w ∈ wsX110, w ∈ wsX11_fault := fun _ h => List.mem_cons_of_mem _ (List.mem_append_right _ (h))
def s_X11_fault (S : HS) (h : Nat) : Option (Int32 × HS) := kI S ((some h)) 11 6 (fun v1 => some (v1, S))
set_option maxHeartbeats 4000000 in
set_option maxRecDepth 100000 in
theorem c_X11_fault (l : Launch) (b0 : Nat) (G : hG) (S S1 : HS) (h : Nat) (r : Int32) (hh : s_X11_fault S h  = some (r, S1)) : MH l yX11_fault wsX11_fault rm_X11_fault b0 G S [hrf b0 (some h)] (some (.int r)) S1 0 0 := by
  refine MH.ofW (cc := cX11_fault) (maxL := 1) (ret := (some .int)) (own := RX11) (lv0 := [(0, hrf b0 ((some h)))]) (by decide) rfl rfl (Nat.le_of_ble_eq_true rfl) rfl ?_
  intro p e s m args below meth c E hrt hlk hnm
  have hh : (kI S ((some h)) 11 6 (fun v1 => some (v1, S))) = some (r, S1) := hh
  refine rw_aload_n E (j0 := 0) rfl rfl dX11_fault_0 ?_
  refine rw_getI E hh (C := RX11) (T := TX11) (N := 9) rfl (by decide) i_X11_fault_11 (by decide) rfl (List.mem_of_getElem? (i := 1) (by decide +kernel)) rfl dX11_fault_1 (fun v1 hh => ?_)
  exact rw_iret E hrt hlk hh (by decide) (by decide) dX11_fault_4

/-! HummingDisc.cordAt(I)LHummingDisc$Cord; -/
abbrev rm_X11_cordAt : Room := { frames := 0, cells := 0, slots := 0, locals := 0 }
theorem i_X11_cordAt_1 : ∀ w ∈ wsX10, w ∈ wsX11_cordAt := fun _ h => List.mem_cons_of_mem _ (List.mem_append_right _ (h))
theorem i_X11_cordAt_9 : ∀ w ∈ wsX90, w ∈ wsX11_cordAt := fun _ h => List.mem_cons_of_mem _ (List.mem_append_left _ (List.mem_append_right _ (h)))
theorem i_X11_cordAt_11 : ∀ w ∈ wsX110, w ∈ wsX11_cordAt := fun _ h => List.mem_cons_of_mem _ (List.mem_append_left _ (List.mem_append_left _ (List.mem_append_right _ (h))))
def s_X11_cordAt_b24 (h : Nat) (S : HS) : Option (Option Nat × HS) := some (none, S)
set_option maxHeartbeats 4000000 in
set_option maxRecDepth 100000 in
theorem w_X11_cordAt_b24 {p : Program} {l : Launch} {e : Env} {s : State} {m : MethodId} {args : Array Value} {below : List Frame} {meth : Method} {c : Code} {b0 : Nat} {G : hG} {S1 : HS} {r : Option Nat} {h : Nat} {S : HS} (E : hE p s m args c b0 G cX11_cordAt RX11 3 wsX11_cordAt) (hrt : meth.sig.returnType = (some (.object "HummingDisc$Cord"))) (hlk : meth.locks = false) (hh : s_X11_cordAt_b24 h S = some (r, S1)) : WH p l e rm_X11_cordAt s m args below meth c b0 G 3 0 0 (MQ below (hQ b0 G (some (hrf b0 r)) S1) args s 0 0 (hA b0)) S 24 [] [] := by
  have hh : (some (none, S)) = some (r, S1) := hh
  refine rw_null E dX11_cordAt_24 ?_
  refine rw_goto E (tgt := 34) (by decide) dX11_cordAt_25 ?_
  exact rw_aret E hrt hlk hh (by decide) (by decide) dX11_cordAt_34
def s_X11_cordAt (S : HS) (h : Nat) (l1 : Int32) : Option (Option Nat × HS) := kP S ((some h)) 11 2 (fun v1 => kP S v1 9 1 (fun v2 => if v2 = none then (s_X11_cordAt_b24 h S) else (if l1 < 0 then (s_X11_cordAt_b24 h S) else (kI S v2 1 4 (fun v3 => if l1 < v3 then (kP S v2 1 1 (fun v4 => kAP S v4 16 l1 (fun v5 => some (v5, S)))) else (s_X11_cordAt_b24 h S))))))
set_option maxHeartbeats 4000000 in
set_option maxRecDepth 100000 in
theorem c_X11_cordAt (l : Launch) (b0 : Nat) (G : hG) (S S1 : HS) (h : Nat) (l1 : Int32) (r : Option Nat) (hh : s_X11_cordAt S h l1 = some (r, S1)) : MH l yX11_cordAt wsX11_cordAt rm_X11_cordAt b0 G S [hrf b0 (some h), .int l1] (some (hrf b0 r)) S1 0 0 := by
  refine MH.ofW (cc := cX11_cordAt) (maxL := 3) (ret := (some (.object "HummingDisc$Cord"))) (own := RX11) (lv0 := [(0, hrf b0 ((some h))), (1, .int l1)]) (by decide) rfl rfl (Nat.le_of_ble_eq_true rfl) rfl ?_
  intro p e s m args below meth c E hrt hlk hnm
  have hh : (kP S ((some h)) 11 2 (fun v1 => kP S v1 9 1 (fun v2 => if v2 = none then (s_X11_cordAt_b24 h S) else (if l1 < 0 then (s_X11_cordAt_b24 h S) else (kI S v2 1 4 (fun v3 => if l1 < v3 then (kP S v2 1 1 (fun v4 => kAP S v4 16 l1 (fun v5 => some (v5, S)))) else (s_X11_cordAt_b24 h S))))))) = some (r, S1) := hh
  refine rw_aload_n E (j0 := 0) rfl rfl dX11_cordAt_0 ?_
  refine rw_getP E hh (C := RX11) (T := TX11) (N := 9) rfl (by decide) i_X11_cordAt_11 (by decide) rfl (List.mem_of_getElem? (i := 1) (by decide +kernel)) rfl dX11_cordAt_1 (fun v1 hh => ?_)
  refine rw_getP E hh (C := RX9) (T := TX9) (N := 2) rfl (by decide) i_X11_cordAt_9 (by decide) rfl (List.mem_of_getElem? (i := 2) (by decide +kernel)) rfl dX11_cordAt_4 (fun v2 hh => ?_)
  refine rw_astore_n E (lv2 := [(2, hrf b0 v2), (0, hrf b0 ((some h))), (1, .int l1)]) rfl (by decide) rfl dX11_cordAt_7 ?_
  refine rw_aload_n E (j0 := 0) rfl rfl dX11_cordAt_8 ?_
  refine rw_ifnull E hh (tgt := 24) (by decide) dX11_cordAt_9 (fun hh => ?_) (fun hh => ?_)
  · refine WH.pick [] rfl ?_
    exact w_X11_cordAt_b24 E hrt hlk hh
  · refine rw_iload_n E (j0 := 2) rfl rfl dX11_cordAt_12 ?_
    refine rw_if_lt E hh (tgt := 24) (by decide) dX11_cordAt_13 (fun hh => ?_) (fun hh => ?_)
    · refine WH.pick [] rfl ?_
      exact w_X11_cordAt_b24 E hrt hlk hh
    · refine rw_iload_n E (j0 := 2) rfl rfl dX11_cordAt_16 ?_
      refine rw_aload_n E (j0 := 0) rfl rfl dX11_cordAt_17 ?_
      refine rw_getI E hh (C := RX1) (T := TX1) (N := 6) rfl (by decide) i_X11_cordAt_1 (by decide) rfl (List.mem_of_getElem? (i := 3) (by decide +kernel)) rfl dX11_cordAt_18 (fun v3 hh => ?_)
      refine rw_icmp_lt E hh (tgt := 28) (by decide) dX11_cordAt_21 (fun hh => ?_) (fun hh => ?_)
      · refine rw_aload_n E (j0 := 0) rfl rfl dX11_cordAt_28 ?_
        refine rw_getP E hh (C := RX1) (T := TX1) (N := 6) rfl (by decide) i_X11_cordAt_1 (by decide) rfl (List.mem_of_getElem? (i := 4) (by decide +kernel)) rfl dX11_cordAt_29 (fun v4 hh => ?_)
        refine rw_iload_n E (j0 := 2) rfl rfl dX11_cordAt_32 ?_
        refine rw_aald E hh (t0 := 3) (by decide) (fun _ => rfl) dX11_cordAt_33 (fun v5 hh => ?_)
        exact rw_aret E hrt hlk hh (by decide) (by decide) dX11_cordAt_34
      · refine WH.pick [] rfl ?_
        exact w_X11_cordAt_b24 E hrt hlk hh

/-! HummingDisc.shorter(III)I -/
abbrev rm_X11_shorter : Room := { frames := 3, cells := 0, slots := 0, locals := 63 }
def s_X11_shorter (S : HS) (h : Nat) (l1 : Int32) (l2 : Int32) (l3 : Int32) : Option (Int32 × HS) := kO S ((some h)) 11 (fun a3 => kc (s_X11_cordAt S a3 l1) (fun v2 S1 => if v2 = none then (some ((-1000001), S1)) else (if l2 < 0 then (some ((-1000001), S1)) else (if 800 < l2 then (some ((-1000001), S1)) else (if l3 < 0 then (some ((-1000001), S1)) else (if l3 ≤ 1 then (if l3 = 0 then (kO S1 v2 2 (fun a9 => kc (s_X2_shortBy S1 a9 l2) (fun v8 S7 => some (v8, S7)))) else (kO S1 v2 2 (fun a6 => kc (s_X2_slopeAt S1 a6 l2) (fun v5 S4 => some (v5, S4))))) else (some ((-1000001), S1))))))))
set_option maxHeartbeats 4000000 in
set_option maxRecDepth 100000 in
theorem c_X11_shorter (l : Launch) (b0 : Nat) (G : hG) (S S1 : HS) (h : Nat) (l1 : Int32) (l2 : Int32) (l3 : Int32) (r : Int32) (hh : s_X11_shorter S h l1 l2 l3 = some (r, S1)) : MH l yX11_shorter wsX11_shorter rm_X11_shorter b0 G S [hrf b0 (some h), .int l1, .int l2, .int l3] (some (.int r)) S1 0 0 := by
  refine MH.ofW (cc := cX11_shorter) (maxL := 5) (ret := (some .int)) (own := RX11) (lv0 := [(0, hrf b0 ((some h))), (1, .int l1), (2, .int l2), (3, .int l3)]) (by decide) rfl rfl (Nat.le_of_ble_eq_true rfl) rfl ?_
  intro p e s m args below meth c E hrt hlk hnm
  have hh : (kO S ((some h)) 11 (fun a3 => kc (s_X11_cordAt S a3 l1) (fun v2 S1 => if v2 = none then (some ((-1000001), S1)) else (if l2 < 0 then (some ((-1000001), S1)) else (if 800 < l2 then (some ((-1000001), S1)) else (if l3 < 0 then (some ((-1000001), S1)) else (if l3 ≤ 1 then (if l3 = 0 then (kO S1 v2 2 (fun a9 => kc (s_X2_shortBy S1 a9 l2) (fun v8 S7 => some (v8, S7)))) else (kO S1 v2 2 (fun a6 => kc (s_X2_slopeAt S1 a6 l2) (fun v5 S4 => some (v5, S4))))) else (some ((-1000001), S1))))))))) = some (r, S1) := hh
  refine rw_aload_n E (j0 := 0) rfl rfl dX11_shorter_0 ?_
  refine rw_iload_n E (j0 := 1) rfl rfl dX11_shorter_1 ?_
  refine rw_cVr E (As := [.int l1]) hh (by decide) rfl (fun _ _ _ hq => c_X11_cordAt l b0 G _ _ _ _ _ hq) (cwV 1 E.2.2.2.2.1 gX11_shorter_X11_cordAt rfl rfl rfl (by decide +kernel) ⟨Nat.le_of_ble_eq_true rfl, Nat.le_of_ble_eq_true rfl⟩) rfl rfl (by (try simp only [List.map_cons, List.map_nil, List.sum_cons, List.sum_nil, hrf_cat, cat_i, cat_l, cat_r]) <;> decide) ⟨Nat.le_of_ble_eq_true rfl, Nat.le_of_ble_eq_true rfl⟩ dX11_shorter_2 (fun v2 S1 hh => ?_)
  refine rw_astore E (lv2 := [(4, hrf b0 v2), (0, hrf b0 ((some h))), (1, .int l1), (2, .int l2), (3, .int l3)]) (by decide) rfl dX11_shorter_5 ?_
  refine rw_aload E (j0 := 0) rfl dX11_shorter_7 ?_
  refine rw_ifnull E hh (tgt := 32) (by decide) dX11_shorter_9 (fun hh => ?_) (fun hh => ?_)
  · refine rw_ldc E (v := (-1000001)) (List.mem_of_getElem? (i := 1) (by decide +kernel)) dX11_shorter_32 ?_
    exact rw_iret E hrt hlk hh (by decide) (by decide) dX11_shorter_34
  · refine rw_iload_n E (j0 := 3) rfl rfl dX11_shorter_12 ?_
    refine rw_if_lt E hh (tgt := 32) (by decide) dX11_shorter_13 (fun hh => ?_) (fun hh => ?_)
    · refine rw_ldc E (v := (-1000001)) (List.mem_of_getElem? (i := 1) (by decide +kernel)) dX11_shorter_32 ?_
      exact rw_iret E hrt hlk hh (by decide) (by decide) dX11_shorter_34
    · refine rw_iload_n E (j0 := 3) rfl rfl dX11_shorter_16 ?_
      refine rw_sipush E (v := 800) (by decide) dX11_shorter_17 ?_
      refine rw_icmp_gt E hh (tgt := 32) (by decide) dX11_shorter_20 (fun hh => ?_) (fun hh => ?_)
      · refine rw_ldc E (v := (-1000001)) (List.mem_of_getElem? (i := 1) (by decide +kernel)) dX11_shorter_32 ?_
        exact rw_iret E hrt hlk hh (by decide) (by decide) dX11_shorter_34
      · refine rw_iload_n E (j0 := 4) rfl rfl dX11_shorter_23 ?_
        refine rw_if_lt E hh (tgt := 32) (by decide) dX11_shorter_24 (fun hh => ?_) (fun hh => ?_)
        · refine rw_ldc E (v := (-1000001)) (List.mem_of_getElem? (i := 1) (by decide +kernel)) dX11_shorter_32 ?_
          exact rw_iret E hrt hlk hh (by decide) (by decide) dX11_shorter_34
        · refine rw_iload_n E (j0 := 4) rfl rfl dX11_shorter_27 ?_
          refine rw_iconst E (v := 1) (by decide) dX11_shorter_28 ?_
          refine rw_icmp_le E hh (tgt := 35) (by decide) dX11_shorter_29 (fun hh => ?_) (fun hh => ?_)
          · refine rw_iload_n E (j0 := 4) rfl rfl dX11_shorter_35 ?_
            refine rw_if_ne E hh (tgt := 48) (by decide) dX11_shorter_36 (fun hh => ?_) (fun hh => ?_)
            · refine rw_aload E (j0 := 0) rfl dX11_shorter_48 ?_
              refine rw_iload_n E (j0 := 3) rfl rfl dX11_shorter_50 ?_
              refine rw_cVi E (As := [.int l2]) hh (by decide) rfl (fun _ _ _ hq => c_X2_slopeAt l b0 G _ _ _ _ _ hq) (cwV 1 E.2.2.2.2.1 gX11_shorter_X2_slopeAt rfl rfl rfl (by decide +kernel) ⟨Nat.le_of_ble_eq_true rfl, Nat.le_of_ble_eq_true rfl⟩) rfl rfl (by (try simp only [List.map_cons, List.map_nil, List.sum_cons, List.sum_nil, hrf_cat, cat_i, cat_l, cat_r]) <;> decide) ⟨Nat.le_of_ble_eq_true rfl, Nat.le_of_ble_eq_true rfl⟩ dX11_shorter_51 (fun v5 S4 hh => ?_)
              exact rw_iret E hrt hlk hh (by decide) (by decide) dX11_shorter_54
            · refine rw_aload E (j0 := 0) rfl dX11_shorter_39 ?_
              refine rw_iload_n E (j0 := 3) rfl rfl dX11_shorter_41 ?_
              refine rw_cVi E (As := [.int l2]) hh (by decide) rfl (fun _ _ _ hq => c_X2_shortBy l b0 G _ _ _ _ _ hq) (cwV 1 E.2.2.2.2.1 gX11_shorter_X2_shortBy rfl rfl rfl (by decide +kernel) ⟨Nat.le_of_ble_eq_true rfl, Nat.le_of_ble_eq_true rfl⟩) rfl rfl (by (try simp only [List.map_cons, List.map_nil, List.sum_cons, List.sum_nil, hrf_cat, cat_i, cat_l, cat_r]) <;> decide) ⟨Nat.le_of_ble_eq_true rfl, Nat.le_of_ble_eq_true rfl⟩ dX11_shorter_42 (fun v8 S7 hh => ?_)
              refine rw_goto E (tgt := 54) (by decide) dX11_shorter_45 ?_
              exact rw_iret E hrt hlk hh (by decide) (by decide) dX11_shorter_54
          · refine rw_ldc E (v := (-1000001)) (List.mem_of_getElem? (i := 1) (by decide +kernel)) dX11_shorter_32 ?_
            exact rw_iret E hrt hlk hh (by decide) (by decide) dX11_shorter_34

/-! HummingDisc.discAt(I)LHummingDisc$Disc; -/
abbrev rm_X11_discAt : Room := { frames := 0, cells := 0, slots := 0, locals := 0 }
theorem i_X11_discAt_1 : ∀ w ∈ wsX10, w ∈ wsX11_discAt := fun _ h => List.mem_cons_of_mem _ (List.mem_append_right _ (h))
theorem i_X11_discAt_9 : ∀ w ∈ wsX90, w ∈ wsX11_discAt := fun _ h => List.mem_cons_of_mem _ (List.mem_append_left _ (List.mem_append_right _ (h)))
theorem i_X11_discAt_11 : ∀ w ∈ wsX110, w ∈ wsX11_discAt := fun _ h => List.mem_cons_of_mem _ (List.mem_append_left _ (List.mem_append_left _ (List.mem_append_right _ (h))))
def s_X11_discAt_b24 (h : Nat) (S : HS) : Option (Option Nat × HS) := some (none, S)
set_option maxHeartbeats 4000000 in
set_option maxRecDepth 100000 in
theorem w_X11_discAt_b24 {p : Program} {l : Launch} {e : Env} {s : State} {m : MethodId} {args : Array Value} {below : List Frame} {meth : Method} {c : Code} {b0 : Nat} {G : hG} {S1 : HS} {r : Option Nat} {h : Nat} {S : HS} (E : hE p s m args c b0 G cX11_discAt RX11 3 wsX11_discAt) (hrt : meth.sig.returnType = (some (.object "HummingDisc$Disc"))) (hlk : meth.locks = false) (hh : s_X11_discAt_b24 h S = some (r, S1)) : WH p l e rm_X11_discAt s m args below meth c b0 G 3 0 0 (MQ below (hQ b0 G (some (hrf b0 r)) S1) args s 0 0 (hA b0)) S 24 [] [] := by
  have hh : (some (none, S)) = some (r, S1) := hh
  refine rw_null E dX11_discAt_24 ?_
  refine rw_goto E (tgt := 34) (by decide) dX11_discAt_25 ?_
  exact rw_aret E hrt hlk hh (by decide) (by decide) dX11_discAt_34
def s_X11_discAt (S : HS) (h : Nat) (l1 : Int32) : Option (Option Nat × HS) := kP S ((some h)) 11 2 (fun v1 => kP S v1 9 1 (fun v2 => if v2 = none then (s_X11_discAt_b24 h S) else (if l1 < 0 then (s_X11_discAt_b24 h S) else (kI S v2 1 3 (fun v3 => if l1 < v3 then (kP S v2 1 0 (fun v4 => kAP S v4 17 l1 (fun v5 => some (v5, S)))) else (s_X11_discAt_b24 h S))))))
set_option maxHeartbeats 4000000 in
set_option maxRecDepth 100000 in
theorem c_X11_discAt (l : Launch) (b0 : Nat) (G : hG) (S S1 : HS) (h : Nat) (l1 : Int32) (r : Option Nat) (hh : s_X11_discAt S h l1 = some (r, S1)) : MH l yX11_discAt wsX11_discAt rm_X11_discAt b0 G S [hrf b0 (some h), .int l1] (some (hrf b0 r)) S1 0 0 := by
  refine MH.ofW (cc := cX11_discAt) (maxL := 3) (ret := (some (.object "HummingDisc$Disc"))) (own := RX11) (lv0 := [(0, hrf b0 ((some h))), (1, .int l1)]) (by decide) rfl rfl (Nat.le_of_ble_eq_true rfl) rfl ?_
  intro p e s m args below meth c E hrt hlk hnm
  have hh : (kP S ((some h)) 11 2 (fun v1 => kP S v1 9 1 (fun v2 => if v2 = none then (s_X11_discAt_b24 h S) else (if l1 < 0 then (s_X11_discAt_b24 h S) else (kI S v2 1 3 (fun v3 => if l1 < v3 then (kP S v2 1 0 (fun v4 => kAP S v4 17 l1 (fun v5 => some (v5, S)))) else (s_X11_discAt_b24 h S))))))) = some (r, S1) := hh
  refine rw_aload_n E (j0 := 0) rfl rfl dX11_discAt_0 ?_
  refine rw_getP E hh (C := RX11) (T := TX11) (N := 9) rfl (by decide) i_X11_discAt_11 (by decide) rfl (List.mem_of_getElem? (i := 1) (by decide +kernel)) rfl dX11_discAt_1 (fun v1 hh => ?_)
  refine rw_getP E hh (C := RX9) (T := TX9) (N := 2) rfl (by decide) i_X11_discAt_9 (by decide) rfl (List.mem_of_getElem? (i := 2) (by decide +kernel)) rfl dX11_discAt_4 (fun v2 hh => ?_)
  refine rw_astore_n E (lv2 := [(2, hrf b0 v2), (0, hrf b0 ((some h))), (1, .int l1)]) rfl (by decide) rfl dX11_discAt_7 ?_
  refine rw_aload_n E (j0 := 0) rfl rfl dX11_discAt_8 ?_
  refine rw_ifnull E hh (tgt := 24) (by decide) dX11_discAt_9 (fun hh => ?_) (fun hh => ?_)
  · refine WH.pick [] rfl ?_
    exact w_X11_discAt_b24 E hrt hlk hh
  · refine rw_iload_n E (j0 := 2) rfl rfl dX11_discAt_12 ?_
    refine rw_if_lt E hh (tgt := 24) (by decide) dX11_discAt_13 (fun hh => ?_) (fun hh => ?_)
    · refine WH.pick [] rfl ?_
      exact w_X11_discAt_b24 E hrt hlk hh
    · refine rw_iload_n E (j0 := 2) rfl rfl dX11_discAt_16 ?_
      refine rw_aload_n E (j0 := 0) rfl rfl dX11_discAt_17 ?_
      refine rw_getI E hh (C := RX1) (T := TX1) (N := 6) rfl (by decide) i_X11_discAt_1 (by decide) rfl (List.mem_of_getElem? (i := 3) (by decide +kernel)) rfl dX11_discAt_18 (fun v3 hh => ?_)
      refine rw_icmp_lt E hh (tgt := 28) (by decide) dX11_discAt_21 (fun hh => ?_) (fun hh => ?_)
      · refine rw_aload_n E (j0 := 0) rfl rfl dX11_discAt_28 ?_
        refine rw_getP E hh (C := RX1) (T := TX1) (N := 6) rfl (by decide) i_X11_discAt_1 (by decide) rfl (List.mem_of_getElem? (i := 4) (by decide +kernel)) rfl dX11_discAt_29 (fun v4 hh => ?_)
        refine rw_iload_n E (j0 := 2) rfl rfl dX11_discAt_32 ?_
        refine rw_aald E hh (t0 := 4) (by decide) (fun _ => rfl) dX11_discAt_33 (fun v5 hh => ?_)
        exact rw_aret E hrt hlk hh (by decide) (by decide) dX11_discAt_34
      · refine WH.pick [] rfl ?_
        exact w_X11_discAt_b24 E hrt hlk hh

/-! HummingDisc.handAt(I)LHummingDisc$Hand; -/
abbrev rm_X11_handAt : Room := { frames := 0, cells := 0, slots := 0, locals := 0 }
theorem i_X11_handAt_1 : ∀ w ∈ wsX10, w ∈ wsX11_handAt := fun _ h => List.mem_cons_of_mem _ (List.mem_append_right _ (h))
theorem i_X11_handAt_9 : ∀ w ∈ wsX90, w ∈ wsX11_handAt := fun _ h => List.mem_cons_of_mem _ (List.mem_append_left _ (List.mem_append_right _ (h)))
theorem i_X11_handAt_11 : ∀ w ∈ wsX110, w ∈ wsX11_handAt := fun _ h => List.mem_cons_of_mem _ (List.mem_append_left _ (List.mem_append_left _ (List.mem_append_right _ (h))))
def s_X11_handAt_b24 (h : Nat) (S : HS) : Option (Option Nat × HS) := some (none, S)
set_option maxHeartbeats 4000000 in
set_option maxRecDepth 100000 in
theorem w_X11_handAt_b24 {p : Program} {l : Launch} {e : Env} {s : State} {m : MethodId} {args : Array Value} {below : List Frame} {meth : Method} {c : Code} {b0 : Nat} {G : hG} {S1 : HS} {r : Option Nat} {h : Nat} {S : HS} (E : hE p s m args c b0 G cX11_handAt RX11 3 wsX11_handAt) (hrt : meth.sig.returnType = (some (.object "HummingDisc$Hand"))) (hlk : meth.locks = false) (hh : s_X11_handAt_b24 h S = some (r, S1)) : WH p l e rm_X11_handAt s m args below meth c b0 G 3 0 0 (MQ below (hQ b0 G (some (hrf b0 r)) S1) args s 0 0 (hA b0)) S 24 [] [] := by
  have hh : (some (none, S)) = some (r, S1) := hh
  refine rw_null E dX11_handAt_24 ?_
  refine rw_goto E (tgt := 34) (by decide) dX11_handAt_25 ?_
  exact rw_aret E hrt hlk hh (by decide) (by decide) dX11_handAt_34
def s_X11_handAt (S : HS) (h : Nat) (l1 : Int32) : Option (Option Nat × HS) := kP S ((some h)) 11 2 (fun v1 => kP S v1 9 1 (fun v2 => if v2 = none then (s_X11_handAt_b24 h S) else (if l1 < 0 then (s_X11_handAt_b24 h S) else (kI S v2 1 5 (fun v3 => if l1 < v3 then (kP S v2 1 2 (fun v4 => kAP S v4 18 l1 (fun v5 => some (v5, S)))) else (s_X11_handAt_b24 h S))))))
set_option maxHeartbeats 4000000 in
set_option maxRecDepth 100000 in
theorem c_X11_handAt (l : Launch) (b0 : Nat) (G : hG) (S S1 : HS) (h : Nat) (l1 : Int32) (r : Option Nat) (hh : s_X11_handAt S h l1 = some (r, S1)) : MH l yX11_handAt wsX11_handAt rm_X11_handAt b0 G S [hrf b0 (some h), .int l1] (some (hrf b0 r)) S1 0 0 := by
  refine MH.ofW (cc := cX11_handAt) (maxL := 3) (ret := (some (.object "HummingDisc$Hand"))) (own := RX11) (lv0 := [(0, hrf b0 ((some h))), (1, .int l1)]) (by decide) rfl rfl (Nat.le_of_ble_eq_true rfl) rfl ?_
  intro p e s m args below meth c E hrt hlk hnm
  have hh : (kP S ((some h)) 11 2 (fun v1 => kP S v1 9 1 (fun v2 => if v2 = none then (s_X11_handAt_b24 h S) else (if l1 < 0 then (s_X11_handAt_b24 h S) else (kI S v2 1 5 (fun v3 => if l1 < v3 then (kP S v2 1 2 (fun v4 => kAP S v4 18 l1 (fun v5 => some (v5, S)))) else (s_X11_handAt_b24 h S))))))) = some (r, S1) := hh
  refine rw_aload_n E (j0 := 0) rfl rfl dX11_handAt_0 ?_
  refine rw_getP E hh (C := RX11) (T := TX11) (N := 9) rfl (by decide) i_X11_handAt_11 (by decide) rfl (List.mem_of_getElem? (i := 1) (by decide +kernel)) rfl dX11_handAt_1 (fun v1 hh => ?_)
  refine rw_getP E hh (C := RX9) (T := TX9) (N := 2) rfl (by decide) i_X11_handAt_9 (by decide) rfl (List.mem_of_getElem? (i := 2) (by decide +kernel)) rfl dX11_handAt_4 (fun v2 hh => ?_)
  refine rw_astore_n E (lv2 := [(2, hrf b0 v2), (0, hrf b0 ((some h))), (1, .int l1)]) rfl (by decide) rfl dX11_handAt_7 ?_
  refine rw_aload_n E (j0 := 0) rfl rfl dX11_handAt_8 ?_
  refine rw_ifnull E hh (tgt := 24) (by decide) dX11_handAt_9 (fun hh => ?_) (fun hh => ?_)
  · refine WH.pick [] rfl ?_
    exact w_X11_handAt_b24 E hrt hlk hh
  · refine rw_iload_n E (j0 := 2) rfl rfl dX11_handAt_12 ?_
    refine rw_if_lt E hh (tgt := 24) (by decide) dX11_handAt_13 (fun hh => ?_) (fun hh => ?_)
    · refine WH.pick [] rfl ?_
      exact w_X11_handAt_b24 E hrt hlk hh
    · refine rw_iload_n E (j0 := 2) rfl rfl dX11_handAt_16 ?_
      refine rw_aload_n E (j0 := 0) rfl rfl dX11_handAt_17 ?_
      refine rw_getI E hh (C := RX1) (T := TX1) (N := 6) rfl (by decide) i_X11_handAt_1 (by decide) rfl (List.mem_of_getElem? (i := 3) (by decide +kernel)) rfl dX11_handAt_18 (fun v3 hh => ?_)
      refine rw_icmp_lt E hh (tgt := 28) (by decide) dX11_handAt_21 (fun hh => ?_) (fun hh => ?_)
      · refine rw_aload_n E (j0 := 0) rfl rfl dX11_handAt_28 ?_
        refine rw_getP E hh (C := RX1) (T := TX1) (N := 6) rfl (by decide) i_X11_handAt_1 (by decide) rfl (List.mem_of_getElem? (i := 4) (by decide +kernel)) rfl dX11_handAt_29 (fun v4 hh => ?_)
        refine rw_iload_n E (j0 := 2) rfl rfl dX11_handAt_32 ?_
        refine rw_aald E hh (t0 := 5) (by decide) (fun _ => rfl) dX11_handAt_33 (fun v5 hh => ?_)
        exact rw_aret E hrt hlk hh (by decide) (by decide) dX11_handAt_34
      · refine WH.pick [] rfl ?_
        exact w_X11_handAt_b24 E hrt hlk hh

/-! HummingDisc.begin(IIII)I -/
abbrev rm_X11_begin : Room := { frames := 1, cells := 0, slots := 0, locals := 24 }
theorem i_X11_begin_2 : ∀ w ∈ wsX20, w ∈ wsX11_begin := fun _ h => List.mem_cons_of_mem _ (List.mem_append_left _ (List.mem_append_left _ (List.mem_append_left _ (List.mem_append_left _ (List.mem_append_right _ (h))))))
theorem i_X11_begin_9 : ∀ w ∈ wsX90, w ∈ wsX11_begin := fun _ h => List.mem_cons_of_mem _ (List.mem_append_left _ (List.mem_append_left _ (List.mem_append_right _ (h))))
theorem i_X11_begin_11 : ∀ w ∈ wsX110, w ∈ wsX11_begin := fun _ h => List.mem_cons_of_mem _ (List.mem_append_left _ (List.mem_append_left _ (List.mem_append_left _ (List.mem_append_right _ (h)))))
def s_X11_begin (S : HS) (h : Nat) (l1 : Int32) (l2 : Int32) (l3 : Int32) (l4 : Int32) : Option (Int32 × HS) := kO S ((some h)) 11 (fun a3 => kc (s_X11_discAt S a3 l1) (fun v2 S1 => kO S1 ((some h)) 11 (fun a6 => kc (s_X11_cordAt S1 a6 l2) (fun v5 S4 => kO S4 ((some h)) 11 (fun a9 => kc (s_X11_handAt S4 a9 l3) (fun v8 S7 => if v2 = none then (some ((-1000001), S7)) else (if v5 = none then (some ((-1000001), S7)) else (if v8 = none then (some ((-1000001), S7)) else (kI S7 v5 2 2 (fun v10 => if l4 < -v10 then (some ((-1000001), S7)) else (kI S7 v5 2 2 (fun v11 => if l4 ≤ v11 then (kP S7 ((some h)) 11 2 (fun v12 => kP S7 v12 9 0 (fun v13 => kO S7 v13 8 (fun a15 => kcv (s_X8_start S7 a15 v2 v5 v8 l4) (fun S14 => some (1, S14)))))) else (some ((-1000001), S7))))))))))))))
set_option maxHeartbeats 4000000 in
set_option maxRecDepth 100000 in
theorem c_X11_begin (l : Launch) (b0 : Nat) (G : hG) (S S1 : HS) (h : Nat) (l1 : Int32) (l2 : Int32) (l3 : Int32) (l4 : Int32) (r : Int32) (hh : s_X11_begin S h l1 l2 l3 l4 = some (r, S1)) : MH l yX11_begin wsX11_begin rm_X11_begin b0 G S [hrf b0 (some h), .int l1, .int l2, .int l3, .int l4] (some (.int r)) S1 0 0 := by
  refine MH.ofW (cc := cX11_begin) (maxL := 8) (ret := (some .int)) (own := RX11) (lv0 := [(0, hrf b0 ((some h))), (1, .int l1), (2, .int l2), (3, .int l3), (4, .int l4)]) (by decide) rfl rfl (Nat.le_of_ble_eq_true rfl) rfl ?_
  intro p e s m args below meth c E hrt hlk hnm
  have hh : (kO S ((some h)) 11 (fun a3 => kc (s_X11_discAt S a3 l1) (fun v2 S1 => kO S1 ((some h)) 11 (fun a6 => kc (s_X11_cordAt S1 a6 l2) (fun v5 S4 => kO S4 ((some h)) 11 (fun a9 => kc (s_X11_handAt S4 a9 l3) (fun v8 S7 => if v2 = none then (some ((-1000001), S7)) else (if v5 = none then (some ((-1000001), S7)) else (if v8 = none then (some ((-1000001), S7)) else (kI S7 v5 2 2 (fun v10 => if l4 < -v10 then (some ((-1000001), S7)) else (kI S7 v5 2 2 (fun v11 => if l4 ≤ v11 then (kP S7 ((some h)) 11 2 (fun v12 => kP S7 v12 9 0 (fun v13 => kO S7 v13 8 (fun a15 => kcv (s_X8_start S7 a15 v2 v5 v8 l4) (fun S14 => some (1, S14)))))) else (some ((-1000001), S7))))))))))))))) = some (r, S1) := hh
  refine rw_aload_n E (j0 := 0) rfl rfl dX11_begin_0 ?_
  refine rw_iload_n E (j0 := 1) rfl rfl dX11_begin_1 ?_
  refine rw_cVr E (As := [.int l1]) hh (by decide) rfl (fun _ _ _ hq => c_X11_discAt l b0 G _ _ _ _ _ hq) (cwV 1 E.2.2.2.2.1 gX11_begin_X11_discAt rfl rfl rfl (by decide +kernel) ⟨Nat.le_of_ble_eq_true rfl, Nat.le_of_ble_eq_true rfl⟩) rfl rfl (by (try simp only [List.map_cons, List.map_nil, List.sum_cons, List.sum_nil, hrf_cat, cat_i, cat_l, cat_r]) <;> decide) ⟨Nat.le_of_ble_eq_true rfl, Nat.le_of_ble_eq_true rfl⟩ dX11_begin_2 (fun v2 S1 hh => ?_)
  refine rw_astore E (lv2 := [(5, hrf b0 v2), (0, hrf b0 ((some h))), (1, .int l1), (2, .int l2), (3, .int l3), (4, .int l4)]) (by decide) rfl dX11_begin_5 ?_
  refine rw_aload_n E (j0 := 1) rfl rfl dX11_begin_7 ?_
  refine rw_iload_n E (j0 := 3) rfl rfl dX11_begin_8 ?_
  refine rw_cVr E (As := [.int l2]) hh (by decide) rfl (fun _ _ _ hq => c_X11_cordAt l b0 G _ _ _ _ _ hq) (cwV 1 E.2.2.2.2.1 gX11_begin_X11_cordAt rfl rfl rfl (by decide +kernel) ⟨Nat.le_of_ble_eq_true rfl, Nat.le_of_ble_eq_true rfl⟩) rfl rfl (by (try simp only [List.map_cons, List.map_nil, List.sum_cons, List.sum_nil, hrf_cat, cat_i, cat_l, cat_r]) <;> decide) ⟨Nat.le_of_ble_eq_true rfl, Nat.le_of_ble_eq_true rfl⟩ dX11_begin_9 (fun v5 S4 hh => ?_)
  refine rw_astore E (i := 6) (lv2 := [(6, hrf b0 v5), (5, hrf b0 v2), (0, hrf b0 ((some h))), (1, .int l1), (2, .int l2), (3, .int l3), (4, .int l4)]) (by decide) (by simp [lvs, lvs2, hrf_cat]) dX11_begin_12 ?_
  refine rw_aload_n E (j0 := 2) rfl rfl dX11_begin_14 ?_
  refine rw_iload_n E (j0 := 5) rfl rfl dX11_begin_15 ?_
  refine rw_cVr E (As := [.int l3]) hh (by decide) rfl (fun _ _ _ hq => c_X11_handAt l b0 G _ _ _ _ _ hq) (cwV 1 E.2.2.2.2.1 gX11_begin_X11_handAt rfl rfl rfl (by decide +kernel) ⟨Nat.le_of_ble_eq_true rfl, Nat.le_of_ble_eq_true rfl⟩) rfl rfl (by (try simp only [List.map_cons, List.map_nil, List.sum_cons, List.sum_nil, hrf_cat, cat_i, cat_l, cat_r]) <;> decide) ⟨Nat.le_of_ble_eq_true rfl, Nat.le_of_ble_eq_true rfl⟩ dX11_begin_16 (fun v8 S7 hh => ?_)
  refine rw_astore E (i := 7) (lv2 := [(7, hrf b0 v8), (6, hrf b0 v5), (5, hrf b0 v2), (0, hrf b0 ((some h))), (1, .int l1), (2, .int l2), (3, .int l3), (4, .int l4)]) (by decide) (by simp [lvs, lvs2, hrf_cat]) dX11_begin_19 ?_
  refine rw_aload E (j0 := 2) rfl dX11_begin_21 ?_
  refine rw_ifnull E hh (tgt := 36) (by decide) dX11_begin_23 (fun hh => ?_) (fun hh => ?_)
  · refine rw_ldc E (v := (-1000001)) (List.mem_of_getElem? (i := 1) (by decide +kernel)) dX11_begin_36 ?_
    exact rw_iret E hrt hlk hh (by decide) (by decide) dX11_begin_38
  · refine rw_aload E (j0 := 1) rfl dX11_begin_26 ?_
    refine rw_ifnull E hh (tgt := 36) (by decide) dX11_begin_28 (fun hh => ?_) (fun hh => ?_)
    · refine rw_ldc E (v := (-1000001)) (List.mem_of_getElem? (i := 1) (by decide +kernel)) dX11_begin_36 ?_
      exact rw_iret E hrt hlk hh (by decide) (by decide) dX11_begin_38
    · refine rw_aload E (j0 := 0) rfl dX11_begin_31 ?_
      refine rw_ifnonnull E hh (tgt := 39) (by decide) dX11_begin_33 (fun hh => ?_) (fun hh => ?_)
      · refine rw_iload E (j0 := 7) rfl dX11_begin_39 ?_
        refine rw_aload E (j0 := 1) rfl dX11_begin_41 ?_
        refine rw_getI E hh (C := RX2) (T := TX2) (N := 4) rfl (by decide) i_X11_begin_2 (by decide) rfl (List.mem_of_getElem? (i := 2) (by decide +kernel)) rfl dX11_begin_43 (fun v10 hh => ?_)
        refine rw_ineg E dX11_begin_46 ?_
        refine rw_icmp_lt E hh (tgt := 60) (by decide) dX11_begin_47 (fun hh => ?_) (fun hh => ?_)
        · refine rw_ldc E (v := (-1000001)) (List.mem_of_getElem? (i := 1) (by decide +kernel)) dX11_begin_60 ?_
          exact rw_iret E hrt hlk hh (by decide) (by decide) dX11_begin_62
        · refine rw_iload E (j0 := 7) rfl dX11_begin_50 ?_
          refine rw_aload E (j0 := 1) rfl dX11_begin_52 ?_
          refine rw_getI E hh (C := RX2) (T := TX2) (N := 4) rfl (by decide) i_X11_begin_2 (by decide) rfl (List.mem_of_getElem? (i := 2) (by decide +kernel)) rfl dX11_begin_54 (fun v11 hh => ?_)
          refine rw_icmp_le E hh (tgt := 63) (by decide) dX11_begin_57 (fun hh => ?_) (fun hh => ?_)
          · refine rw_aload_n E (j0 := 3) rfl rfl dX11_begin_63 ?_
            refine rw_getP E hh (C := RX11) (T := TX11) (N := 9) rfl (by decide) i_X11_begin_11 (by decide) rfl (List.mem_of_getElem? (i := 3) (by decide +kernel)) rfl dX11_begin_64 (fun v12 hh => ?_)
            refine rw_getP E hh (C := RX9) (T := TX9) (N := 2) rfl (by decide) i_X11_begin_9 (by decide) rfl (List.mem_of_getElem? (i := 4) (by decide +kernel)) rfl dX11_begin_67 (fun v13 hh => ?_)
            refine rw_aload E (j0 := 2) rfl dX11_begin_70 ?_
            refine rw_aload E (j0 := 1) rfl dX11_begin_72 ?_
            refine rw_aload E (j0 := 0) rfl dX11_begin_74 ?_
            refine rw_iload E (j0 := 7) rfl dX11_begin_76 ?_
            refine rw_cVv E (As := [hrf b0 v2, hrf b0 v5, hrf b0 v8, .int l4]) hh (by decide) rfl (fun _ _ hq => c_X8_start l b0 G _ _ _ _ _ _ _ hq) (cwV 4 E.2.2.2.2.1 gX11_begin_X8_start rfl rfl rfl (by decide +kernel) ⟨Nat.le_of_ble_eq_true rfl, Nat.le_of_ble_eq_true rfl⟩) rfl rfl (by (try simp only [List.map_cons, List.map_nil, List.sum_cons, List.sum_nil, hrf_cat, cat_i, cat_l, cat_r]) <;> decide) ⟨Nat.le_of_ble_eq_true rfl, Nat.le_of_ble_eq_true rfl⟩ dX11_begin_78 (fun S14 hh => ?_)
            refine rw_iconst E (v := 1) (by decide) dX11_begin_81 ?_
            exact rw_iret E hrt hlk hh (by decide) (by decide) dX11_begin_82
          · refine rw_ldc E (v := (-1000001)) (List.mem_of_getElem? (i := 1) (by decide +kernel)) dX11_begin_60 ?_
            exact rw_iret E hrt hlk hh (by decide) (by decide) dX11_begin_62
      · refine rw_ldc E (v := (-1000001)) (List.mem_of_getElem? (i := 1) (by decide +kernel)) dX11_begin_36 ?_
        exact rw_iret E hrt hlk hh (by decide) (by decide) dX11_begin_38

/-! HummingDisc.go(I)I -/
abbrev rm_X11_go : Room := { frames := 5, cells := 0, slots := 0, locals := 107 }
theorem i_X11_go_8 : ∀ w ∈ wsX80, w ∈ wsX11_go := fun _ h => List.mem_cons_of_mem _ (List.mem_append_left _ (List.mem_append_left _ (List.mem_append_left _ (List.mem_append_left _ (List.mem_append_right _ (h))))))
theorem i_X11_go_9 : ∀ w ∈ wsX90, w ∈ wsX11_go := fun _ h => List.mem_cons_of_mem _ (List.mem_append_left _ (List.mem_append_left _ (List.mem_append_left _ (List.mem_append_left _ (List.mem_append_left _ (List.mem_append_right _ (h)))))))
theorem i_X11_go_11 : ∀ w ∈ wsX110, w ∈ wsX11_go := fun _ h => List.mem_cons_of_mem _ (List.mem_append_left _ (List.mem_append_left _ (List.mem_append_left _ (List.mem_append_left _ (List.mem_append_left _ (List.mem_append_left _ (List.mem_append_right _ (h))))))))
def s_X11_go_b38 (j38 : HS → Int32 → Option Nat → Option Nat → Int32 → Option (Int32 × HS)) (h : Nat) (S : HS) (l1 : Int32) (l2 : Option Nat) (l3 : Option Nat) (l4 : Int32) : Option (Int32 × HS) := if l1 ≤ l4 then (some (l4, S)) else (kI S l2 8 11 (fun v1 => if v1 = 0 then (kO S l3 5 (fun a4 => kc (s_X5_pullIn S a4 l2) (fun v3 S2 => kO S2 l2 8 (fun a6 => kcv (s_X8_tick S2 a6 v3 0) (fun S5 => j38 S5 l1 l2 l3 (l4 + 1)))))) else (some (l4, S))))
set_option maxHeartbeats 4000000 in
set_option maxRecDepth 100000 in
theorem w_X11_go_b38 {p : Program} {l : Launch} {e : Env} {s : State} {m : MethodId} {args : Array Value} {below : List Frame} {meth : Method} {c : Code} {b0 : Nat} {G : hG} {S1 : HS} {r : Int32} {j38 : HS → Int32 → Option Nat → Option Nat → Int32 → Option (Int32 × HS)} {h : Nat} {S : HS} {l1 : Int32} {l2 : Option Nat} {l3 : Option Nat} {l4 : Int32} (E : hE p s m args c b0 G cX11_go RX11 5 wsX11_go) (hrt : meth.sig.returnType = (some .int)) (hlk : meth.locks = false) (hj38 : ∀ (S : HS) (l1 : Int32) (l2 : Option Nat) (l3 : Option Nat) (l4 : Int32), j38 S l1 l2 l3 l4 = some (r, S1) → WH p l e rm_X11_go s m args below meth c b0 G 5 0 0 (MQ below (hQ b0 G (some (.int r)) S1) args s 0 0 (hA b0)) S 38 [(1, .int l1), (2, hrf b0 l2), (3, hrf b0 l3), (4, .int l4)] []) (hh : s_X11_go_b38 j38 h S l1 l2 l3 l4 = some (r, S1)) : WH p l e rm_X11_go s m args below meth c b0 G 5 0 0 (MQ below (hQ b0 G (some (.int r)) S1) args s 0 0 (hA b0)) S 38 [(1, .int l1), (2, hrf b0 l2), (3, hrf b0 l3), (4, .int l4)] [] := by
  have hh : (if l1 ≤ l4 then (some (l4, S)) else (kI S l2 8 11 (fun v1 => if v1 = 0 then (kO S l3 5 (fun a4 => kc (s_X5_pullIn S a4 l2) (fun v3 S2 => kO S2 l2 8 (fun a6 => kcv (s_X8_tick S2 a6 v3 0) (fun S5 => j38 S5 l1 l2 l3 (l4 + 1)))))) else (some (l4, S))))) = some (r, S1) := hh
  refine rw_iload E (j0 := 3) rfl dX11_go_38 ?_
  refine rw_iload_n E (j0 := 0) rfl rfl dX11_go_40 ?_
  refine rw_icmp_ge E hh (tgt := 67) (by decide) dX11_go_41 (fun hh => ?_) (fun hh => ?_)
  · refine rw_iload E (j0 := 3) rfl dX11_go_67 ?_
    exact rw_iret E hrt hlk hh (by decide) (by decide) dX11_go_69
  · refine rw_aload_n E (j0 := 1) rfl rfl dX11_go_44 ?_
    refine rw_getI E hh (C := RX8) (T := TX8) (N := 12) rfl (by decide) i_X11_go_8 (by decide) rfl (List.mem_of_getElem? (i := 6) (by decide +kernel)) rfl dX11_go_45 (fun v1 hh => ?_)
    refine rw_if_ne E hh (tgt := 67) (by decide) dX11_go_48 (fun hh => ?_) (fun hh => ?_)
    · refine rw_iload E (j0 := 3) rfl dX11_go_67 ?_
      exact rw_iret E hrt hlk hh (by decide) (by decide) dX11_go_69
    · refine rw_aload_n E (j0 := 1) rfl rfl dX11_go_51 ?_
      refine rw_aload_n E (j0 := 2) rfl rfl dX11_go_52 ?_
      refine rw_aload_n E (j0 := 1) rfl rfl dX11_go_53 ?_
      refine rw_cVi E (As := [hrf b0 l2]) hh (by decide) rfl (fun _ _ _ hq => c_X5_pullIn l b0 G _ _ _ _ _ hq) (cwV 1 E.2.2.2.2.1 gX11_go_X5_pullIn rfl rfl rfl (by decide +kernel) ⟨Nat.le_of_ble_eq_true rfl, Nat.le_of_ble_eq_true rfl⟩) rfl rfl (by (try simp only [List.map_cons, List.map_nil, List.sum_cons, List.sum_nil, hrf_cat, cat_i, cat_l, cat_r]) <;> decide) ⟨Nat.le_of_ble_eq_true rfl, Nat.le_of_ble_eq_true rfl⟩ dX11_go_54 (fun v3 S2 hh => ?_)
      refine rw_iconst E (v := 0) (by decide) dX11_go_57 ?_
      refine rw_cVv E (As := [.int v3, .int 0]) hh (by decide) rfl (fun _ _ hq => c_X8_tick l b0 G _ _ _ _ _ hq) (cwV 2 E.2.2.2.2.1 gX11_go_X8_tick rfl rfl rfl (by decide +kernel) ⟨Nat.le_of_ble_eq_true rfl, Nat.le_of_ble_eq_true rfl⟩) rfl rfl (by (try simp only [List.map_cons, List.map_nil, List.sum_cons, List.sum_nil, hrf_cat, cat_i, cat_l, cat_r]) <;> decide) ⟨Nat.le_of_ble_eq_true rfl, Nat.le_of_ble_eq_true rfl⟩ dX11_go_58 (fun S5 hh => ?_)
      refine rw_iinc E (v := l4 + 1) (lv2 := [(4, .int (l4 + 1)), (1, .int l1), (2, hrf b0 l2), (3, hrf b0 l3)]) (j0 := 3) rfl rfl (by decide) (by simp [lvs, lvs2, hrf_cat]) dX11_go_61 ?_
      refine rw_goto E (tgt := 38) (by decide) dX11_go_64 ?_
      refine WH.pick [1, 2, 3, 0] rfl ?_
      exact hj38 _ _ _ _ _ hh
def s_X11_go_L38 (h : Nat) : Nat → HS → Int32 → Option Nat → Option Nat → Int32 → Option (Int32 × HS)
  | 0 => fun _ _ _ _ _ => none
  | n + 1 => s_X11_go_b38 (s_X11_go_L38 h n) h
set_option maxHeartbeats 4000000 in
set_option maxRecDepth 100000 in
theorem w_X11_go_L38 {p : Program} {l : Launch} {e : Env} {s : State} {m : MethodId} {args : Array Value} {below : List Frame} {meth : Method} {c : Code} {b0 : Nat} {G : hG} {S1 : HS} {r : Int32} {h : Nat} (E : hE p s m args c b0 G cX11_go RX11 5 wsX11_go) (hrt : meth.sig.returnType = (some .int)) (hlk : meth.locks = false) : ∀ (n : Nat) (S : HS) (l1 : Int32) (l2 : Option Nat) (l3 : Option Nat) (l4 : Int32), s_X11_go_L38 h n S l1 l2 l3 l4 = some (r, S1) → WH p l e rm_X11_go s m args below meth c b0 G 5 0 0 (MQ below (hQ b0 G (some (.int r)) S1) args s 0 0 (hA b0)) S 38 [(1, .int l1), (2, hrf b0 l2), (3, hrf b0 l3), (4, .int l4)] [] := by
  intro n
  induction n with
  | zero => intro _ _ _ _ _ hh; exact absurd hh (by simp [s_X11_go_L38])
  | succ n ih => intro _ _ _ _ _ hh; exact w_X11_go_b38 E hrt hlk  ih hh
def s_X11_go (S : HS) (h : Nat) (l1 : Int32) : Option (Int32 × HS) := if l1 < 1 then (some ((-1000001), S)) else (if l1 ≤ 200 then (kP S ((some h)) 11 2 (fun v1 => kP S v1 9 0 (fun v2 => kP S v2 8 2 (fun v3 => if v3 = none then (some ((-1000002), S)) else (s_X11_go_L38 h 100000 S l1 v2 v3 0))))) else (some ((-1000001), S)))
set_option maxHeartbeats 4000000 in
set_option maxRecDepth 100000 in
theorem c_X11_go (l : Launch) (b0 : Nat) (G : hG) (S S1 : HS) (h : Nat) (l1 : Int32) (r : Int32) (hh : s_X11_go S h l1 = some (r, S1)) : MH l yX11_go wsX11_go rm_X11_go b0 G S [hrf b0 (some h), .int l1] (some (.int r)) S1 0 0 := by
  refine MH.ofW (cc := cX11_go) (maxL := 5) (ret := (some .int)) (own := RX11) (lv0 := [(0, hrf b0 ((some h))), (1, .int l1)]) (by decide) rfl rfl (Nat.le_of_ble_eq_true rfl) rfl ?_
  intro p e s m args below meth c E hrt hlk hnm
  have hh : (if l1 < 1 then (some ((-1000001), S)) else (if l1 ≤ 200 then (kP S ((some h)) 11 2 (fun v1 => kP S v1 9 0 (fun v2 => kP S v2 8 2 (fun v3 => if v3 = none then (some ((-1000002), S)) else (s_X11_go_L38 h 100000 S l1 v2 v3 0))))) else (some ((-1000001), S)))) = some (r, S1) := hh
  refine rw_iload_n E (j0 := 1) rfl rfl dX11_go_0 ?_
  refine rw_iconst E (v := 1) (by decide) dX11_go_1 ?_
  refine rw_icmp_lt E hh (tgt := 12) (by decide) dX11_go_2 (fun hh => ?_) (fun hh => ?_)
  · refine rw_ldc E (v := (-1000001)) (List.mem_of_getElem? (i := 1) (by decide +kernel)) dX11_go_12 ?_
    exact rw_iret E hrt hlk hh (by decide) (by decide) dX11_go_14
  · refine rw_iload_n E (j0 := 1) rfl rfl dX11_go_5 ?_
    refine rw_sipush E (v := 200) (by decide) dX11_go_6 ?_
    refine rw_icmp_le E hh (tgt := 15) (by decide) dX11_go_9 (fun hh => ?_) (fun hh => ?_)
    · refine rw_aload_n E (j0 := 0) rfl rfl dX11_go_15 ?_
      refine rw_getP E hh (C := RX11) (T := TX11) (N := 9) rfl (by decide) i_X11_go_11 (by decide) rfl (List.mem_of_getElem? (i := 2) (by decide +kernel)) rfl dX11_go_16 (fun v1 hh => ?_)
      refine rw_getP E hh (C := RX9) (T := TX9) (N := 2) rfl (by decide) i_X11_go_9 (by decide) rfl (List.mem_of_getElem? (i := 3) (by decide +kernel)) rfl dX11_go_19 (fun v2 hh => ?_)
      refine rw_astore_n E (lv2 := [(2, hrf b0 v2), (0, hrf b0 ((some h))), (1, .int l1)]) rfl (by decide) rfl dX11_go_22 ?_
      refine rw_aload_n E (j0 := 0) rfl rfl dX11_go_23 ?_
      refine rw_getP E hh (C := RX8) (T := TX8) (N := 12) rfl (by decide) i_X11_go_8 (by decide) rfl (List.mem_of_getElem? (i := 4) (by decide +kernel)) rfl dX11_go_24 (fun v3 hh => ?_)
      refine rw_astore_n E (i := 3) (lv2 := [(3, hrf b0 v3), (2, hrf b0 v2), (0, hrf b0 ((some h))), (1, .int l1)]) rfl (by decide) (by simp [lvs, lvs2, hrf_cat]) dX11_go_27 ?_
      refine rw_aload_n E (j0 := 0) rfl rfl dX11_go_28 ?_
      refine rw_ifnonnull E hh (tgt := 35) (by decide) dX11_go_29 (fun hh => ?_) (fun hh => ?_)
      · refine rw_iconst E (v := 0) (by decide) dX11_go_35 ?_
        refine rw_istore E (i := 4) (lv2 := [(4, .int 0), (3, hrf b0 v3), (2, hrf b0 v2), (0, hrf b0 ((some h))), (1, .int l1)]) (by decide) (by simp [lvs, lvs2, hrf_cat]) dX11_go_36 ?_
        refine WH.pick [4, 2, 1, 0] rfl ?_
        exact w_X11_go_L38 E hrt hlk 100000 _ _ _ _ _ hh
      · refine rw_ldc E (v := (-1000002)) (List.mem_of_getElem? (i := 5) (by decide +kernel)) dX11_go_32 ?_
        exact rw_iret E hrt hlk hh (by decide) (by decide) dX11_go_34
    · refine rw_ldc E (v := (-1000001)) (List.mem_of_getElem? (i := 1) (by decide +kernel)) dX11_go_12 ?_
      exact rw_iret E hrt hlk hh (by decide) (by decide) dX11_go_14

/-! HummingDisc.pulls(III)I -/
abbrev rm_X11_pulls : Room := { frames := 4, cells := 0, slots := 0, locals := 87 }
theorem i_X11_pulls_6 : ∀ w ∈ wsX60, w ∈ wsX11_pulls := fun _ h => List.mem_cons_of_mem _ (List.mem_append_left _ (List.mem_append_left _ (List.mem_append_right _ (h))))
theorem i_X11_pulls_8 : ∀ w ∈ wsX80, w ∈ wsX11_pulls := fun _ h => List.mem_cons_of_mem _ (List.mem_append_left _ (List.mem_append_left _ (List.mem_append_left _ (List.mem_append_right _ (h)))))
theorem i_X11_pulls_9 : ∀ w ∈ wsX90, w ∈ wsX11_pulls := fun _ h => List.mem_cons_of_mem _ (List.mem_append_left _ (List.mem_append_left _ (List.mem_append_left _ (List.mem_append_left _ (List.mem_append_right _ (h))))))
theorem i_X11_pulls_11 : ∀ w ∈ wsX110, w ∈ wsX11_pulls := fun _ h => List.mem_cons_of_mem _ (List.mem_append_left _ (List.mem_append_left _ (List.mem_append_left _ (List.mem_append_left _ (List.mem_append_left _ (List.mem_append_right _ (h)))))))
def s_X11_pulls_b121 (h : Nat) (S : HS) (l7 : Int32) : Option (Int32 × HS) := kO S ((some h)) 11 (fun a3 => kc (s_X11_fine S a3 l7) (fun v2 S1 => some (v2, S1)))
set_option maxHeartbeats 4000000 in
set_option maxRecDepth 100000 in
theorem w_X11_pulls_b121 {p : Program} {l : Launch} {e : Env} {s : State} {m : MethodId} {args : Array Value} {below : List Frame} {meth : Method} {c : Code} {b0 : Nat} {G : hG} {S1 : HS} {r : Int32} {h : Nat} {S : HS} {l7 : Int32} (E : hE p s m args c b0 G cX11_pulls RX11 8 wsX11_pulls) (hrt : meth.sig.returnType = (some .int)) (hlk : meth.locks = false) (hh : s_X11_pulls_b121 h S l7 = some (r, S1)) : WH p l e rm_X11_pulls s m args below meth c b0 G 8 0 0 (MQ below (hQ b0 G (some (.int r)) S1) args s 0 0 (hA b0)) S 121 [(0, hrf b0 ((some h))), (7, .int l7)] [] := by
  have hh : (kO S ((some h)) 11 (fun a3 => kc (s_X11_fine S a3 l7) (fun v2 S1 => some (v2, S1)))) = some (r, S1) := hh
  refine rw_aload_n E (j0 := 0) rfl rfl dX11_pulls_121 ?_
  refine rw_iload E (j0 := 1) rfl dX11_pulls_122 ?_
  refine rw_cVi E (As := [.int l7]) hh (by decide) rfl (fun _ _ _ hq => c_X11_fine l b0 G _ _ _ _ _ hq) (cwV 1 E.2.2.2.2.1 gX11_pulls_X11_fine rfl rfl rfl (by decide +kernel) ⟨Nat.le_of_ble_eq_true rfl, Nat.le_of_ble_eq_true rfl⟩) rfl rfl (by (try simp only [List.map_cons, List.map_nil, List.sum_cons, List.sum_nil, hrf_cat, cat_i, cat_l, cat_r]) <;> decide) ⟨Nat.le_of_ble_eq_true rfl, Nat.le_of_ble_eq_true rfl⟩ dX11_pulls_124 (fun v2 S1 hh => ?_)
  exact rw_iret E hrt hlk hh (by decide) (by decide) dX11_pulls_127
def s_X11_pulls_b85 (j85 : HS → Int32 → Int32 → Option Nat → Option Nat → Int32 → Option (Int32 × HS)) (h : Nat) (S : HS) (l2 : Int32) (l3 : Int32) (l4 : Option Nat) (l5 : Option Nat) (l7 : Int32) : Option (Int32 × HS) := if l3 ≤ l7 then (s_X11_pulls_b121 h S l7) else (kI S l5 8 11 (fun v1 => if v1 = 0 then (kP S l4 6 0 (fun v2 => kA S v2 14 (l2 + l7) (fun v3 => kO S l5 8 (fun a5 => kcv (s_X8_tick S a5 v3 0) (fun S4 => j85 S4 l2 l3 l4 l5 (l7 + 1)))))) else (s_X11_pulls_b121 h S l7)))
set_option maxHeartbeats 4000000 in
set_option maxRecDepth 100000 in
theorem w_X11_pulls_b85 {p : Program} {l : Launch} {e : Env} {s : State} {m : MethodId} {args : Array Value} {below : List Frame} {meth : Method} {c : Code} {b0 : Nat} {G : hG} {S1 : HS} {r : Int32} {j85 : HS → Int32 → Int32 → Option Nat → Option Nat → Int32 → Option (Int32 × HS)} {h : Nat} {S : HS} {l2 : Int32} {l3 : Int32} {l4 : Option Nat} {l5 : Option Nat} {l7 : Int32} (E : hE p s m args c b0 G cX11_pulls RX11 8 wsX11_pulls) (hrt : meth.sig.returnType = (some .int)) (hlk : meth.locks = false) (hj85 : ∀ (S : HS) (l2 : Int32) (l3 : Int32) (l4 : Option Nat) (l5 : Option Nat) (l7 : Int32), j85 S l2 l3 l4 l5 l7 = some (r, S1) → WH p l e rm_X11_pulls s m args below meth c b0 G 8 0 0 (MQ below (hQ b0 G (some (.int r)) S1) args s 0 0 (hA b0)) S 85 [(0, hrf b0 ((some h))), (2, .int l2), (3, .int l3), (4, hrf b0 l4), (5, hrf b0 l5), (7, .int l7)] []) (hh : s_X11_pulls_b85 j85 h S l2 l3 l4 l5 l7 = some (r, S1)) : WH p l e rm_X11_pulls s m args below meth c b0 G 8 0 0 (MQ below (hQ b0 G (some (.int r)) S1) args s 0 0 (hA b0)) S 85 [(0, hrf b0 ((some h))), (2, .int l2), (3, .int l3), (4, hrf b0 l4), (5, hrf b0 l5), (7, .int l7)] [] := by
  have hh : (if l3 ≤ l7 then (s_X11_pulls_b121 h S l7) else (kI S l5 8 11 (fun v1 => if v1 = 0 then (kP S l4 6 0 (fun v2 => kA S v2 14 (l2 + l7) (fun v3 => kO S l5 8 (fun a5 => kcv (s_X8_tick S a5 v3 0) (fun S4 => j85 S4 l2 l3 l4 l5 (l7 + 1)))))) else (s_X11_pulls_b121 h S l7)))) = some (r, S1) := hh
  refine rw_iload E (j0 := 5) rfl dX11_pulls_85 ?_
  refine rw_iload_n E (j0 := 2) rfl rfl dX11_pulls_87 ?_
  refine rw_icmp_ge E hh (tgt := 121) (by decide) dX11_pulls_88 (fun hh => ?_) (fun hh => ?_)
  · refine WH.pick [0, 5] rfl ?_
    exact w_X11_pulls_b121 E hrt hlk hh
  · refine rw_aload E (j0 := 4) rfl dX11_pulls_91 ?_
    refine rw_getI E hh (C := RX8) (T := TX8) (N := 12) rfl (by decide) i_X11_pulls_8 (by decide) rfl (List.mem_of_getElem? (i := 6) (by decide +kernel)) rfl dX11_pulls_93 (fun v1 hh => ?_)
    refine rw_if_ne E hh (tgt := 121) (by decide) dX11_pulls_96 (fun hh => ?_) (fun hh => ?_)
    · refine WH.pick [0, 5] rfl ?_
      exact w_X11_pulls_b121 E hrt hlk hh
    · refine rw_aload E (j0 := 4) rfl dX11_pulls_99 ?_
      refine rw_aload E (j0 := 3) rfl dX11_pulls_101 ?_
      refine rw_getP E hh (C := RX6) (T := TX6) (N := 4) rfl (by decide) i_X11_pulls_6 (by decide) rfl (List.mem_of_getElem? (i := 7) (by decide +kernel)) rfl dX11_pulls_103 (fun v2 hh => ?_)
      refine rw_iload_n E (j0 := 1) rfl rfl dX11_pulls_106 ?_
      refine rw_iload E (j0 := 5) rfl dX11_pulls_107 ?_
      refine rw_iadd E dX11_pulls_109 ?_
      refine rw_iald E hh dX11_pulls_110 (fun v3 hh => ?_)
      refine rw_iconst E (v := 0) (by decide) dX11_pulls_111 ?_
      refine rw_cVv E (As := [.int v3, .int 0]) hh (by decide) rfl (fun _ _ hq => c_X8_tick l b0 G _ _ _ _ _ hq) (cwV 2 E.2.2.2.2.1 gX11_pulls_X8_tick rfl rfl rfl (by decide +kernel) ⟨Nat.le_of_ble_eq_true rfl, Nat.le_of_ble_eq_true rfl⟩) rfl rfl (by (try simp only [List.map_cons, List.map_nil, List.sum_cons, List.sum_nil, hrf_cat, cat_i, cat_l, cat_r]) <;> decide) ⟨Nat.le_of_ble_eq_true rfl, Nat.le_of_ble_eq_true rfl⟩ dX11_pulls_112 (fun S4 hh => ?_)
      refine rw_iinc E (v := l7 + 1) (lv2 := [(7, .int (l7 + 1)), (0, hrf b0 ((some h))), (2, .int l2), (3, .int l3), (4, hrf b0 l4), (5, hrf b0 l5)]) (j0 := 5) rfl rfl (by decide) rfl dX11_pulls_115 ?_
      refine rw_goto E (tgt := 85) (by decide) dX11_pulls_118 ?_
      refine WH.pick [1, 2, 3, 4, 5, 0] rfl ?_
      exact hj85 _ _ _ _ _ _ hh
def s_X11_pulls_L85 (h : Nat) : Nat → HS → Int32 → Int32 → Option Nat → Option Nat → Int32 → Option (Int32 × HS)
  | 0 => fun _ _ _ _ _ _ => none
  | n + 1 => s_X11_pulls_b85 (s_X11_pulls_L85 h n) h
set_option maxHeartbeats 4000000 in
set_option maxRecDepth 100000 in
theorem w_X11_pulls_L85 {p : Program} {l : Launch} {e : Env} {s : State} {m : MethodId} {args : Array Value} {below : List Frame} {meth : Method} {c : Code} {b0 : Nat} {G : hG} {S1 : HS} {r : Int32} {h : Nat} (E : hE p s m args c b0 G cX11_pulls RX11 8 wsX11_pulls) (hrt : meth.sig.returnType = (some .int)) (hlk : meth.locks = false) : ∀ (n : Nat) (S : HS) (l2 : Int32) (l3 : Int32) (l4 : Option Nat) (l5 : Option Nat) (l7 : Int32), s_X11_pulls_L85 h n S l2 l3 l4 l5 l7 = some (r, S1) → WH p l e rm_X11_pulls s m args below meth c b0 G 8 0 0 (MQ below (hQ b0 G (some (.int r)) S1) args s 0 0 (hA b0)) S 85 [(0, hrf b0 ((some h))), (2, .int l2), (3, .int l3), (4, hrf b0 l4), (5, hrf b0 l5), (7, .int l7)] [] := by
  intro n
  induction n with
  | zero => intro _ _ _ _ _ _ hh; exact absurd hh (by simp [s_X11_pulls_L85])
  | succ n ih => intro _ _ _ _ _ _ hh; exact w_X11_pulls_b85 E hrt hlk  ih hh
def s_X11_pulls (S : HS) (h : Nat) (l1 : Int32) (l2 : Int32) (l3 : Int32) : Option (Int32 × HS) := kO S ((some h)) 11 (fun a3 => kc (s_X11_rowAt S a3 l1) (fun v2 S1 => if v2 = none then (some ((-1000001), S1)) else (if l3 < 1 then (some ((-1000001), S1)) else (if l3 ≤ 40 then (kP S1 ((some h)) 11 2 (fun v4 => kP S1 v4 9 0 (fun v5 => kP S1 v5 8 2 (fun v6 => if v6 = none then (some ((-1000002), S1)) else (kO S1 v2 6 (fun a9 => kc (s_X6_findingAt S1 a9 l2 l3) (fun v8 S7 => if v8 = 0 then (kO S7 v2 6 (fun a12 => kc (s_X6_areWithin S7 a12 l2 l3 99) (fun v11 S10 => if v11 = 0 then (some ((-1000001), S10)) else (s_X11_pulls_L85 h 100000 S10 l2 l3 v2 v5 0)))) else (kO S7 ((some h)) 11 (fun a15 => kc (s_X11_found S7 a15 v8) (fun v14 S13 => some (v14, S13))))))))))) else (some ((-1000001), S1))))))
set_option maxHeartbeats 4000000 in
set_option maxRecDepth 100000 in
theorem c_X11_pulls (l : Launch) (b0 : Nat) (G : hG) (S S1 : HS) (h : Nat) (l1 : Int32) (l2 : Int32) (l3 : Int32) (r : Int32) (hh : s_X11_pulls S h l1 l2 l3 = some (r, S1)) : MH l yX11_pulls wsX11_pulls rm_X11_pulls b0 G S [hrf b0 (some h), .int l1, .int l2, .int l3] (some (.int r)) S1 0 0 := by
  refine MH.ofW (cc := cX11_pulls) (maxL := 8) (ret := (some .int)) (own := RX11) (lv0 := [(0, hrf b0 ((some h))), (1, .int l1), (2, .int l2), (3, .int l3)]) (by decide) rfl rfl (Nat.le_of_ble_eq_true rfl) rfl ?_
  intro p e s m args below meth c E hrt hlk hnm
  have hh : (kO S ((some h)) 11 (fun a3 => kc (s_X11_rowAt S a3 l1) (fun v2 S1 => if v2 = none then (some ((-1000001), S1)) else (if l3 < 1 then (some ((-1000001), S1)) else (if l3 ≤ 40 then (kP S1 ((some h)) 11 2 (fun v4 => kP S1 v4 9 0 (fun v5 => kP S1 v5 8 2 (fun v6 => if v6 = none then (some ((-1000002), S1)) else (kO S1 v2 6 (fun a9 => kc (s_X6_findingAt S1 a9 l2 l3) (fun v8 S7 => if v8 = 0 then (kO S7 v2 6 (fun a12 => kc (s_X6_areWithin S7 a12 l2 l3 99) (fun v11 S10 => if v11 = 0 then (some ((-1000001), S10)) else (s_X11_pulls_L85 h 100000 S10 l2 l3 v2 v5 0)))) else (kO S7 ((some h)) 11 (fun a15 => kc (s_X11_found S7 a15 v8) (fun v14 S13 => some (v14, S13))))))))))) else (some ((-1000001), S1))))))) = some (r, S1) := hh
  refine rw_aload_n E (j0 := 0) rfl rfl dX11_pulls_0 ?_
  refine rw_iload_n E (j0 := 1) rfl rfl dX11_pulls_1 ?_
  refine rw_cVr E (As := [.int l1]) hh (by decide) rfl (fun _ _ _ hq => c_X11_rowAt l b0 G _ _ _ _ _ hq) (cwV 1 E.2.2.2.2.1 gX11_pulls_X11_rowAt rfl rfl rfl (by decide +kernel) ⟨Nat.le_of_ble_eq_true rfl, Nat.le_of_ble_eq_true rfl⟩) rfl rfl (by (try simp only [List.map_cons, List.map_nil, List.sum_cons, List.sum_nil, hrf_cat, cat_i, cat_l, cat_r]) <;> decide) ⟨Nat.le_of_ble_eq_true rfl, Nat.le_of_ble_eq_true rfl⟩ dX11_pulls_2 (fun v2 S1 hh => ?_)
  refine rw_astore E (lv2 := [(4, hrf b0 v2), (0, hrf b0 ((some h))), (1, .int l1), (2, .int l2), (3, .int l3)]) (by decide) rfl dX11_pulls_5 ?_
  refine rw_aload E (j0 := 0) rfl dX11_pulls_7 ?_
  refine rw_ifnull E hh (tgt := 23) (by decide) dX11_pulls_9 (fun hh => ?_) (fun hh => ?_)
  · refine rw_ldc E (v := (-1000001)) (List.mem_of_getElem? (i := 1) (by decide +kernel)) dX11_pulls_23 ?_
    exact rw_iret E hrt hlk hh (by decide) (by decide) dX11_pulls_25
  · refine rw_iload_n E (j0 := 4) rfl rfl dX11_pulls_12 ?_
    refine rw_iconst E (v := 1) (by decide) dX11_pulls_13 ?_
    refine rw_icmp_lt E hh (tgt := 23) (by decide) dX11_pulls_14 (fun hh => ?_) (fun hh => ?_)
    · refine rw_ldc E (v := (-1000001)) (List.mem_of_getElem? (i := 1) (by decide +kernel)) dX11_pulls_23 ?_
      exact rw_iret E hrt hlk hh (by decide) (by decide) dX11_pulls_25
    · refine rw_iload_n E (j0 := 4) rfl rfl dX11_pulls_17 ?_
      refine rw_bipush E (v := 40) (by decide) dX11_pulls_18 ?_
      refine rw_icmp_le E hh (tgt := 26) (by decide) dX11_pulls_20 (fun hh => ?_) (fun hh => ?_)
      · refine rw_aload_n E (j0 := 1) rfl rfl dX11_pulls_26 ?_
        refine rw_getP E hh (C := RX11) (T := TX11) (N := 9) rfl (by decide) i_X11_pulls_11 (by decide) rfl (List.mem_of_getElem? (i := 2) (by decide +kernel)) rfl dX11_pulls_27 (fun v4 hh => ?_)
        refine rw_getP E hh (C := RX9) (T := TX9) (N := 2) rfl (by decide) i_X11_pulls_9 (by decide) rfl (List.mem_of_getElem? (i := 3) (by decide +kernel)) rfl dX11_pulls_30 (fun v5 hh => ?_)
        refine rw_astore E (i := 5) (lv2 := [(5, hrf b0 v5), (4, hrf b0 v2), (0, hrf b0 ((some h))), (1, .int l1), (2, .int l2), (3, .int l3)]) (by decide) (by simp [lvs, lvs2, hrf_cat]) dX11_pulls_33 ?_
        refine rw_aload E (j0 := 0) rfl dX11_pulls_35 ?_
        refine rw_getP E hh (C := RX8) (T := TX8) (N := 12) rfl (by decide) i_X11_pulls_8 (by decide) rfl (List.mem_of_getElem? (i := 4) (by decide +kernel)) rfl dX11_pulls_37 (fun v6 hh => ?_)
        refine rw_ifnonnull E hh (tgt := 46) (by decide) dX11_pulls_40 (fun hh => ?_) (fun hh => ?_)
        · refine rw_aload E (j0 := 1) rfl dX11_pulls_46 ?_
          refine rw_iload_n E (j0 := 4) rfl rfl dX11_pulls_48 ?_
          refine rw_iload_n E (j0 := 5) rfl rfl dX11_pulls_49 ?_
          refine rw_cVi E (As := [.int l2, .int l3]) hh (by decide) rfl (fun _ _ _ hq => c_X6_findingAt l b0 G _ _ _ _ _ _ hq) (cwV 2 E.2.2.2.2.1 gX11_pulls_X6_findingAt rfl rfl rfl (by decide +kernel) ⟨Nat.le_of_ble_eq_true rfl, Nat.le_of_ble_eq_true rfl⟩) rfl rfl (by (try simp only [List.map_cons, List.map_nil, List.sum_cons, List.sum_nil, hrf_cat, cat_i, cat_l, cat_r]) <;> decide) ⟨Nat.le_of_ble_eq_true rfl, Nat.le_of_ble_eq_true rfl⟩ dX11_pulls_50 (fun v8 S7 hh => ?_)
          refine rw_istore E (i := 6) (lv2 := [(6, .int v8), (5, hrf b0 v5), (4, hrf b0 v2), (0, hrf b0 ((some h))), (1, .int l1), (2, .int l2), (3, .int l3)]) (by decide) (by simp [lvs, lvs2, hrf_cat]) dX11_pulls_53 ?_
          refine rw_iload E (j0 := 0) rfl dX11_pulls_55 ?_
          refine rw_if_eq E hh (tgt := 67) (by decide) dX11_pulls_57 (fun hh => ?_) (fun hh => ?_)
          · refine rw_aload E (j0 := 2) rfl dX11_pulls_67 ?_
            refine rw_iload_n E (j0 := 5) rfl rfl dX11_pulls_69 ?_
            refine rw_iload_n E (j0 := 6) rfl rfl dX11_pulls_70 ?_
            refine rw_bipush E (v := 99) (by decide) dX11_pulls_71 ?_
            refine rw_cVi E (As := [.int l2, .int l3, .int 99]) hh (by decide) rfl (fun _ _ _ hq => c_X6_areWithin l b0 G _ _ _ _ _ _ _ hq) (cwV 3 E.2.2.2.2.1 gX11_pulls_X6_areWithin rfl rfl rfl (by decide +kernel) ⟨Nat.le_of_ble_eq_true rfl, Nat.le_of_ble_eq_true rfl⟩) rfl rfl (by (try simp only [List.map_cons, List.map_nil, List.sum_cons, List.sum_nil, hrf_cat, cat_i, cat_l, cat_r]) <;> decide) ⟨Nat.le_of_ble_eq_true rfl, Nat.le_of_ble_eq_true rfl⟩ dX11_pulls_73 (fun v11 S10 hh => ?_)
            refine rw_if_ne E hh (tgt := 82) (by decide) dX11_pulls_76 (fun hh => ?_) (fun hh => ?_)
            · refine rw_iconst E (v := 0) (by decide) dX11_pulls_82 ?_
              refine rw_istore E (lv2 := [(7, .int 0), (6, .int v8), (5, hrf b0 v5), (4, hrf b0 v2), (0, hrf b0 ((some h))), (1, .int l1), (2, .int l2), (3, .int l3)]) (by decide) rfl dX11_pulls_83 ?_
              refine WH.pick [4, 6, 7, 3, 2, 0] rfl ?_
              exact w_X11_pulls_L85 E hrt hlk 100000 _ _ _ _ _ _ hh
            · refine rw_ldc E (v := (-1000001)) (List.mem_of_getElem? (i := 1) (by decide +kernel)) dX11_pulls_79 ?_
              exact rw_iret E hrt hlk hh (by decide) (by decide) dX11_pulls_81
          · refine rw_aload_n E (j0 := 3) rfl rfl dX11_pulls_60 ?_
            refine rw_iload E (j0 := 0) rfl dX11_pulls_61 ?_
            refine rw_cVi E (As := [.int v8]) hh (by decide) rfl (fun _ _ _ hq => c_X11_found l b0 G _ _ _ _ _ hq) (cwV 1 E.2.2.2.2.1 gX11_pulls_X11_found rfl rfl rfl (by decide +kernel) ⟨Nat.le_of_ble_eq_true rfl, Nat.le_of_ble_eq_true rfl⟩) rfl rfl (by (try simp only [List.map_cons, List.map_nil, List.sum_cons, List.sum_nil, hrf_cat, cat_i, cat_l, cat_r]) <;> decide) ⟨Nat.le_of_ble_eq_true rfl, Nat.le_of_ble_eq_true rfl⟩ dX11_pulls_63 (fun v14 S13 hh => ?_)
            exact rw_iret E hrt hlk hh (by decide) (by decide) dX11_pulls_66
        · refine rw_ldc E (v := (-1000002)) (List.mem_of_getElem? (i := 5) (by decide +kernel)) dX11_pulls_43 ?_
          exact rw_iret E hrt hlk hh (by decide) (by decide) dX11_pulls_45
      · refine rw_ldc E (v := (-1000001)) (List.mem_of_getElem? (i := 1) (by decide +kernel)) dX11_pulls_23 ?_
        exact rw_iret E hrt hlk hh (by decide) (by decide) dX11_pulls_25

/-! HummingDisc.now(I)I -/
abbrev rm_X11_now : Room := { frames := 2, cells := 0, slots := 0, locals := 42 }
theorem i_X11_now_3 : ∀ w ∈ wsX30, w ∈ wsX11_now := fun _ h => List.mem_cons_of_mem _ (List.mem_append_left _ (List.mem_append_right _ (h)))
theorem i_X11_now_8 : ∀ w ∈ wsX80, w ∈ wsX11_now := fun _ h => List.mem_cons_of_mem _ (List.mem_append_left _ (List.mem_append_left _ (List.mem_append_right _ (h))))
theorem i_X11_now_9 : ∀ w ∈ wsX90, w ∈ wsX11_now := fun _ h => List.mem_cons_of_mem _ (List.mem_append_left _ (List.mem_append_left _ (List.mem_append_left _ (List.mem_append_right _ (h)))))
theorem i_X11_now_11 : ∀ w ∈ wsX110, w ∈ wsX11_now := fun _ h => List.mem_cons_of_mem _ (List.mem_append_left _ (List.mem_append_left _ (List.mem_append_left _ (List.mem_append_left _ (List.mem_append_right _ (h))))))
def s_X11_now (S : HS) (h : Nat) (l1 : Int32) : Option (Int32 × HS) := if l1 < 0 then (some ((-1000001), S)) else (if l1 ≤ 8 then (kP S ((some h)) 11 2 (fun v1 => kP S v1 9 0 (fun v2 => kP S v2 8 2 (fun v3 => if v3 = none then (some ((-1000002), S)) else (if l1 = 0 then (kI S v2 8 3 (fun v4 => some (v4, S))) else (if l1 = 1 then (kI S v2 8 5 (fun v5 => some (v5, S))) else (if l1 = 2 then (kI S v2 8 8 (fun v6 => some (v6, S))) else (if l1 = 3 then (kI S v2 8 11 (fun v7 => if v7 = 0 then (some (0, S)) else (some (1, S)))) else (if l1 = 4 then (kP S v2 8 1 (fun v8 => kI S v2 8 3 (fun v9 => kO S v8 2 (fun a12 => kc (s_X2_shortBy S a12 (fabs v9)) (fun v11 S10 => some (v11, S10)))))) else (if l1 = 5 then (kI S v2 8 9 (fun v13 => some (v13, S))) else (if l1 = 6 then (kI S v2 8 7 (fun v14 => some (v14, S))) else (if l1 = 7 then (kI S v2 8 5 (fun v15 => kP S v2 8 0 (fun v16 => kI S v16 3 2 (fun v17 => some ((fabs v15) * v17, S))))) else (kI S v2 8 10 (fun v18 => some (v18, S))))))))))))))) else (some ((-1000001), S)))
set_option maxHeartbeats 4000000 in
set_option maxRecDepth 100000 in
theorem c_X11_now (l : Launch) (b0 : Nat) (G : hG) (S S1 : HS) (h : Nat) (l1 : Int32) (r : Int32) (hh : s_X11_now S h l1 = some (r, S1)) : MH l yX11_now wsX11_now rm_X11_now b0 G S [hrf b0 (some h), .int l1] (some (.int r)) S1 0 0 := by
  refine MH.ofW (cc := cX11_now) (maxL := 3) (ret := (some .int)) (own := RX11) (lv0 := [(0, hrf b0 ((some h))), (1, .int l1)]) (by decide) rfl rfl (Nat.le_of_ble_eq_true rfl) rfl ?_
  intro p e s m args below meth c E hrt hlk hnm
  have hh : (if l1 < 0 then (some ((-1000001), S)) else (if l1 ≤ 8 then (kP S ((some h)) 11 2 (fun v1 => kP S v1 9 0 (fun v2 => kP S v2 8 2 (fun v3 => if v3 = none then (some ((-1000002), S)) else (if l1 = 0 then (kI S v2 8 3 (fun v4 => some (v4, S))) else (if l1 = 1 then (kI S v2 8 5 (fun v5 => some (v5, S))) else (if l1 = 2 then (kI S v2 8 8 (fun v6 => some (v6, S))) else (if l1 = 3 then (kI S v2 8 11 (fun v7 => if v7 = 0 then (some (0, S)) else (some (1, S)))) else (if l1 = 4 then (kP S v2 8 1 (fun v8 => kI S v2 8 3 (fun v9 => kO S v8 2 (fun a12 => kc (s_X2_shortBy S a12 (fabs v9)) (fun v11 S10 => some (v11, S10)))))) else (if l1 = 5 then (kI S v2 8 9 (fun v13 => some (v13, S))) else (if l1 = 6 then (kI S v2 8 7 (fun v14 => some (v14, S))) else (if l1 = 7 then (kI S v2 8 5 (fun v15 => kP S v2 8 0 (fun v16 => kI S v16 3 2 (fun v17 => some ((fabs v15) * v17, S))))) else (kI S v2 8 10 (fun v18 => some (v18, S))))))))))))))) else (some ((-1000001), S)))) = some (r, S1) := hh
  refine rw_iload_n E (j0 := 1) rfl rfl dX11_now_0 ?_
  refine rw_if_lt E hh (tgt := 10) (by decide) dX11_now_1 (fun hh => ?_) (fun hh => ?_)
  · refine rw_ldc E (v := (-1000001)) (List.mem_of_getElem? (i := 1) (by decide +kernel)) dX11_now_10 ?_
    exact rw_iret E hrt hlk hh (by decide) (by decide) dX11_now_12
  · refine rw_iload_n E (j0 := 1) rfl rfl dX11_now_4 ?_
    refine rw_bipush E (v := 8) (by decide) dX11_now_5 ?_
    refine rw_icmp_le E hh (tgt := 13) (by decide) dX11_now_7 (fun hh => ?_) (fun hh => ?_)
    · refine rw_aload_n E (j0 := 0) rfl rfl dX11_now_13 ?_
      refine rw_getP E hh (C := RX11) (T := TX11) (N := 9) rfl (by decide) i_X11_now_11 (by decide) rfl (List.mem_of_getElem? (i := 2) (by decide +kernel)) rfl dX11_now_14 (fun v1 hh => ?_)
      refine rw_getP E hh (C := RX9) (T := TX9) (N := 2) rfl (by decide) i_X11_now_9 (by decide) rfl (List.mem_of_getElem? (i := 3) (by decide +kernel)) rfl dX11_now_17 (fun v2 hh => ?_)
      refine rw_astore_n E (lv2 := [(2, hrf b0 v2), (0, hrf b0 ((some h))), (1, .int l1)]) rfl (by decide) rfl dX11_now_20 ?_
      refine rw_aload_n E (j0 := 0) rfl rfl dX11_now_21 ?_
      refine rw_getP E hh (C := RX8) (T := TX8) (N := 12) rfl (by decide) i_X11_now_8 (by decide) rfl (List.mem_of_getElem? (i := 4) (by decide +kernel)) rfl dX11_now_22 (fun v3 hh => ?_)
      refine rw_ifnonnull E hh (tgt := 31) (by decide) dX11_now_25 (fun hh => ?_) (fun hh => ?_)
      · refine rw_iload_n E (j0 := 2) rfl rfl dX11_now_31 ?_
        by_cases c32_0 : l1 = 0
        · rw [if_pos c32_0] at hh
          refine rw_swin E (v := 0) (tgt := 80) dX11_now_32 c32_0 (by decide) (by decide) rfl (by decide) ?_
          refine rw_aload_n E (j0 := 0) rfl rfl dX11_now_80 ?_
          refine rw_getI E hh (C := RX8) (T := TX8) (N := 12) rfl (by decide) i_X11_now_8 (by decide) rfl (List.mem_of_getElem? (i := 6) (by decide +kernel)) rfl dX11_now_81 (fun v4 hh => ?_)
          exact rw_iret E hrt hlk hh (by decide) (by decide) dX11_now_84
        · rw [if_neg c32_0] at hh
          by_cases c32_1 : l1 = 1
          · rw [if_pos c32_1] at hh
            refine rw_swin E (v := 1) (tgt := 85) dX11_now_32 c32_1 (by decide) (by decide) rfl (by decide) ?_
            refine rw_aload_n E (j0 := 0) rfl rfl dX11_now_85 ?_
            refine rw_getI E hh (C := RX8) (T := TX8) (N := 12) rfl (by decide) i_X11_now_8 (by decide) rfl (List.mem_of_getElem? (i := 7) (by decide +kernel)) rfl dX11_now_86 (fun v5 hh => ?_)
            exact rw_iret E hrt hlk hh (by decide) (by decide) dX11_now_89
          · rw [if_neg c32_1] at hh
            by_cases c32_2 : l1 = 2
            · rw [if_pos c32_2] at hh
              refine rw_swin E (v := 2) (tgt := 90) dX11_now_32 c32_2 (by decide) (by decide) rfl (by decide) ?_
              refine rw_aload_n E (j0 := 0) rfl rfl dX11_now_90 ?_
              refine rw_getI E hh (C := RX8) (T := TX8) (N := 12) rfl (by decide) i_X11_now_8 (by decide) rfl (List.mem_of_getElem? (i := 8) (by decide +kernel)) rfl dX11_now_91 (fun v6 hh => ?_)
              exact rw_iret E hrt hlk hh (by decide) (by decide) dX11_now_94
            · rw [if_neg c32_2] at hh
              by_cases c32_3 : l1 = 3
              · rw [if_pos c32_3] at hh
                refine rw_swin E (v := 3) (tgt := 95) dX11_now_32 c32_3 (by decide) (by decide) rfl (by decide) ?_
                refine rw_aload_n E (j0 := 0) rfl rfl dX11_now_95 ?_
                refine rw_getI E hh (C := RX8) (T := TX8) (N := 12) rfl (by decide) i_X11_now_8 (by decide) rfl (List.mem_of_getElem? (i := 9) (by decide +kernel)) rfl dX11_now_96 (fun v7 hh => ?_)
                refine rw_if_eq E hh (tgt := 106) (by decide) dX11_now_99 (fun hh => ?_) (fun hh => ?_)
                · refine rw_iconst E (v := 0) (by decide) dX11_now_106 ?_
                  exact rw_iret E hrt hlk hh (by decide) (by decide) dX11_now_107
                · refine rw_iconst E (v := 1) (by decide) dX11_now_102 ?_
                  refine rw_goto E (tgt := 107) (by decide) dX11_now_103 ?_
                  exact rw_iret E hrt hlk hh (by decide) (by decide) dX11_now_107
              · rw [if_neg c32_3] at hh
                by_cases c32_4 : l1 = 4
                · rw [if_pos c32_4] at hh
                  refine rw_swin E (v := 4) (tgt := 108) dX11_now_32 c32_4 (by decide) (by decide) rfl (by decide) ?_
                  refine rw_aload_n E (j0 := 0) rfl rfl dX11_now_108 ?_
                  refine rw_getP E hh (C := RX8) (T := TX8) (N := 12) rfl (by decide) i_X11_now_8 (by decide) rfl (List.mem_of_getElem? (i := 10) (by decide +kernel)) rfl dX11_now_109 (fun v8 hh => ?_)
                  refine rw_aload_n E (j0 := 0) rfl rfl dX11_now_112 ?_
                  refine rw_getI E hh (C := RX8) (T := TX8) (N := 12) rfl (by decide) i_X11_now_8 (by decide) rfl (List.mem_of_getElem? (i := 6) (by decide +kernel)) rfl dX11_now_113 (fun v9 hh => ?_)
                  refine rw_mabs E ⟨by decide, (by (try simp only [List.map_cons, List.map_nil, List.sum_cons, List.sum_nil, hrf_cat, cat_i, cat_l, cat_r]) <;> decide), by decide, by decide⟩ (List.mem_of_getElem? (i := 11) (by decide +kernel)) (List.mem_of_getElem? (i := 12) (by decide +kernel)) (List.mem_of_getElem? (i := 13) (by decide +kernel)) (List.mem_of_getElem? (i := 14) (by decide +kernel)) dX11_now_116 ?_
                  refine rw_cVi E (As := [.int (fabs v9)]) hh (by decide) rfl (fun _ _ _ hq => c_X2_shortBy l b0 G _ _ _ _ _ hq) (cwV 1 E.2.2.2.2.1 gX11_now_X2_shortBy rfl rfl rfl (by decide +kernel) ⟨Nat.le_of_ble_eq_true rfl, Nat.le_of_ble_eq_true rfl⟩) rfl rfl (by (try simp only [List.map_cons, List.map_nil, List.sum_cons, List.sum_nil, hrf_cat, cat_i, cat_l, cat_r]) <;> decide) ⟨Nat.le_of_ble_eq_true rfl, Nat.le_of_ble_eq_true rfl⟩ dX11_now_119 (fun v11 S10 hh => ?_)
                  exact rw_iret E hrt hlk hh (by decide) (by decide) dX11_now_122
                · rw [if_neg c32_4] at hh
                  by_cases c32_5 : l1 = 5
                  · rw [if_pos c32_5] at hh
                    refine rw_swin E (v := 5) (tgt := 123) dX11_now_32 c32_5 (by decide) (by decide) rfl (by decide) ?_
                    refine rw_aload_n E (j0 := 0) rfl rfl dX11_now_123 ?_
                    refine rw_getI E hh (C := RX8) (T := TX8) (N := 12) rfl (by decide) i_X11_now_8 (by decide) rfl (List.mem_of_getElem? (i := 15) (by decide +kernel)) rfl dX11_now_124 (fun v13 hh => ?_)
                    exact rw_iret E hrt hlk hh (by decide) (by decide) dX11_now_127
                  · rw [if_neg c32_5] at hh
                    by_cases c32_6 : l1 = 6
                    · rw [if_pos c32_6] at hh
                      refine rw_swin E (v := 6) (tgt := 128) dX11_now_32 c32_6 (by decide) (by decide) rfl (by decide) ?_
                      refine rw_aload_n E (j0 := 0) rfl rfl dX11_now_128 ?_
                      refine rw_getI E hh (C := RX8) (T := TX8) (N := 12) rfl (by decide) i_X11_now_8 (by decide) rfl (List.mem_of_getElem? (i := 16) (by decide +kernel)) rfl dX11_now_129 (fun v14 hh => ?_)
                      exact rw_iret E hrt hlk hh (by decide) (by decide) dX11_now_132
                    · rw [if_neg c32_6] at hh
                      by_cases c32_7 : l1 = 7
                      · rw [if_pos c32_7] at hh
                        refine rw_swin E (v := 7) (tgt := 133) dX11_now_32 c32_7 (by decide) (by decide) rfl (by decide) ?_
                        refine rw_aload_n E (j0 := 0) rfl rfl dX11_now_133 ?_
                        refine rw_getI E hh (C := RX8) (T := TX8) (N := 12) rfl (by decide) i_X11_now_8 (by decide) rfl (List.mem_of_getElem? (i := 7) (by decide +kernel)) rfl dX11_now_134 (fun v15 hh => ?_)
                        refine rw_mabs E ⟨by decide, (by (try simp only [List.map_cons, List.map_nil, List.sum_cons, List.sum_nil, hrf_cat, cat_i, cat_l, cat_r]) <;> decide), by decide, by decide⟩ (List.mem_of_getElem? (i := 11) (by decide +kernel)) (List.mem_of_getElem? (i := 12) (by decide +kernel)) (List.mem_of_getElem? (i := 13) (by decide +kernel)) (List.mem_of_getElem? (i := 14) (by decide +kernel)) dX11_now_137 ?_
                        refine rw_aload_n E (j0 := 0) rfl rfl dX11_now_140 ?_
                        refine rw_getP E hh (C := RX8) (T := TX8) (N := 12) rfl (by decide) i_X11_now_8 (by decide) rfl (List.mem_of_getElem? (i := 17) (by decide +kernel)) rfl dX11_now_141 (fun v16 hh => ?_)
                        refine rw_getI E hh (C := RX3) (T := TX3) (N := 3) rfl (by decide) i_X11_now_3 (by decide) rfl (List.mem_of_getElem? (i := 18) (by decide +kernel)) rfl dX11_now_144 (fun v17 hh => ?_)
                        refine rw_imul E dX11_now_147 ?_
                        exact rw_iret E hrt hlk hh (by decide) (by decide) dX11_now_148
                      · rw [if_neg c32_7] at hh
                        have n0 := lv_neT c32_0 (a := 0) rfl
                        have n1 := lv_neT c32_1 (a := 1) rfl
                        have n2 := lv_neT c32_2 (a := 2) rfl
                        have n3 := lv_neT c32_3 (a := 3) rfl
                        have n4 := lv_neT c32_4 (a := 4) rfl
                        have n5 := lv_neT c32_5 (a := 5) rfl
                        have n6 := lv_neT c32_6 (a := 6) rfl
                        have n7 := lv_neT c32_7 (a := 7) rfl
                        refine rw_swout E (tgt := 149) dX11_now_32 (by omega) (by decide) ?_
                        refine rw_aload_n E (j0 := 0) rfl rfl dX11_now_149 ?_
                        refine rw_getI E hh (C := RX8) (T := TX8) (N := 12) rfl (by decide) i_X11_now_8 (by decide) rfl (List.mem_of_getElem? (i := 19) (by decide +kernel)) rfl dX11_now_150 (fun v18 hh => ?_)
                        exact rw_iret E hrt hlk hh (by decide) (by decide) dX11_now_153
      · refine rw_ldc E (v := (-1000002)) (List.mem_of_getElem? (i := 5) (by decide +kernel)) dX11_now_28 ?_
        exact rw_iret E hrt hlk hh (by decide) (by decide) dX11_now_30
    · refine rw_ldc E (v := (-1000001)) (List.mem_of_getElem? (i := 1) (by decide +kernel)) dX11_now_10 ?_
      exact rw_iret E hrt hlk hh (by decide) (by decide) dX11_now_12

/-! HummingDisc.isPull(II)Z -/
abbrev rm_X11_isPull : Room := { frames := 0, cells := 0, slots := 0, locals := 0 }
def s_X11_isPull (S : HS) (l0 : Int32) (l1 : Int32) : Option (Int32 × HS) := if l0 < 0 then (kzr 0 S) else (if 99 < l0 then (kzr 0 S) else (if l1 < 1 then (kzr 0 S) else (if 300 < l1 then (kzr 0 S) else (kzr 1 S))))
set_option maxHeartbeats 4000000 in
set_option maxRecDepth 100000 in
theorem c_X11_isPull (l : Launch) (b0 : Nat) (G : hG) (S S1 : HS) (l0 : Int32) (l1 : Int32) (r : Int32) (hh : s_X11_isPull S l0 l1 = some (r, S1)) : MH l yX11_isPull wsX11_isPull rm_X11_isPull b0 G S [.int l0, .int l1] (some (.int r)) S1 0 0 := by
  refine MH.ofW (cc := cX11_isPull) (maxL := 2) (ret := (some .boolean)) (own := RX11) (lv0 := [(0, .int l0), (1, .int l1)]) (by decide) rfl rfl (Nat.le_of_ble_eq_true rfl) rfl ?_
  intro p e s m args below meth c E hrt hlk hnm
  have hh : (if l0 < 0 then (kzr 0 S) else (if 99 < l0 then (kzr 0 S) else (if l1 < 1 then (kzr 0 S) else (if 300 < l1 then (kzr 0 S) else (kzr 1 S))))) = some (r, S1) := hh
  refine rw_iload_n E (j0 := 0) rfl rfl dX11_isPull_0 ?_
  refine rw_if_lt E hh (tgt := 26) (by decide) dX11_isPull_1 (fun hh => ?_) (fun hh => ?_)
  · refine rw_iconst E (v := 0) (by decide) dX11_isPull_26 ?_
    exact rw_zret E hrt hlk hh (by decide) (by decide) dX11_isPull_27
  · refine rw_iload_n E (j0 := 0) rfl rfl dX11_isPull_4 ?_
    refine rw_bipush E (v := 99) (by decide) dX11_isPull_5 ?_
    refine rw_icmp_gt E hh (tgt := 26) (by decide) dX11_isPull_7 (fun hh => ?_) (fun hh => ?_)
    · refine rw_iconst E (v := 0) (by decide) dX11_isPull_26 ?_
      exact rw_zret E hrt hlk hh (by decide) (by decide) dX11_isPull_27
    · refine rw_iload_n E (j0 := 1) rfl rfl dX11_isPull_10 ?_
      refine rw_iconst E (v := 1) (by decide) dX11_isPull_11 ?_
      refine rw_icmp_lt E hh (tgt := 26) (by decide) dX11_isPull_12 (fun hh => ?_) (fun hh => ?_)
      · refine rw_iconst E (v := 0) (by decide) dX11_isPull_26 ?_
        exact rw_zret E hrt hlk hh (by decide) (by decide) dX11_isPull_27
      · refine rw_iload_n E (j0 := 1) rfl rfl dX11_isPull_15 ?_
        refine rw_sipush E (v := 300) (by decide) dX11_isPull_16 ?_
        refine rw_icmp_gt E hh (tgt := 26) (by decide) dX11_isPull_19 (fun hh => ?_) (fun hh => ?_)
        · refine rw_iconst E (v := 0) (by decide) dX11_isPull_26 ?_
          exact rw_zret E hrt hlk hh (by decide) (by decide) dX11_isPull_27
        · refine rw_iconst E (v := 1) (by decide) dX11_isPull_22 ?_
          refine rw_goto E (tgt := 27) (by decide) dX11_isPull_23 ?_
          exact rw_zret E hrt hlk hh (by decide) (by decide) dX11_isPull_27

/-! HummingDisc.foretells(IIIII)Z -/
abbrev rm_X11_foretells : Room := { frames := 1, cells := 0, slots := 0, locals := 25 }
theorem i_X11_foretells_2 : ∀ w ∈ wsX20, w ∈ wsX11_foretells := fun _ h => List.mem_cons_of_mem _ (List.mem_append_left _ (List.mem_append_left _ (List.mem_append_left _ (List.mem_append_left _ (List.mem_append_right _ (h))))))
theorem i_X11_foretells_11 : ∀ w ∈ wsX110, w ∈ wsX11_foretells := fun _ h => List.mem_cons_of_mem _ (List.mem_append_left _ (List.mem_append_left _ (List.mem_append_left _ (List.mem_append_right _ (h)))))
def s_X11_foretells (S : HS) (h : Nat) (l1 : Int32) (l2 : Int32) (l3 : Int32) (l4 : Int32) (l5 : Int32) : Option (Int32 × HS) := kO S ((some h)) 11 (fun a3 => kc (s_X11_discAt S a3 l1) (fun v2 S1 => kO S1 ((some h)) 11 (fun a6 => kc (s_X11_cordAt S1 a6 l2) (fun v5 S4 => if v2 = none then (kzr 0 S4) else (if v5 = none then (kzr 0 S4) else (if l3 < 1 then (kzr 0 S4) else (kI S4 v5 2 2 (fun v7 => if v7 < l3 then (kzr 0 S4) else (kc (s_X11_isPull S4 l4 l5) (fun v9 S8 => if v9 = 0 then (kzr 0 S8) else (kP S8 ((some h)) 11 4 (fun v10 => kO S8 v10 4 (fun a12 => kcv (s_X4_about S8 a12 v2 v5 l3 l4 l5) (fun S11 => kzr 1 S11))))))))))))))
set_option maxHeartbeats 4000000 in
set_option maxRecDepth 100000 in
theorem c_X11_foretells (l : Launch) (b0 : Nat) (G : hG) (S S1 : HS) (h : Nat) (l1 : Int32) (l2 : Int32) (l3 : Int32) (l4 : Int32) (l5 : Int32) (r : Int32) (hh : s_X11_foretells S h l1 l2 l3 l4 l5 = some (r, S1)) : MH l yX11_foretells wsX11_foretells rm_X11_foretells b0 G S [hrf b0 (some h), .int l1, .int l2, .int l3, .int l4, .int l5] (some (.int r)) S1 0 0 := by
  refine MH.ofW (cc := cX11_foretells) (maxL := 8) (ret := (some .boolean)) (own := RX11) (lv0 := [(0, hrf b0 ((some h))), (1, .int l1), (2, .int l2), (3, .int l3), (4, .int l4), (5, .int l5)]) (by decide) rfl rfl (Nat.le_of_ble_eq_true rfl) rfl ?_
  intro p e s m args below meth c E hrt hlk hnm
  have hh : (kO S ((some h)) 11 (fun a3 => kc (s_X11_discAt S a3 l1) (fun v2 S1 => kO S1 ((some h)) 11 (fun a6 => kc (s_X11_cordAt S1 a6 l2) (fun v5 S4 => if v2 = none then (kzr 0 S4) else (if v5 = none then (kzr 0 S4) else (if l3 < 1 then (kzr 0 S4) else (kI S4 v5 2 2 (fun v7 => if v7 < l3 then (kzr 0 S4) else (kc (s_X11_isPull S4 l4 l5) (fun v9 S8 => if v9 = 0 then (kzr 0 S8) else (kP S8 ((some h)) 11 4 (fun v10 => kO S8 v10 4 (fun a12 => kcv (s_X4_about S8 a12 v2 v5 l3 l4 l5) (fun S11 => kzr 1 S11))))))))))))))) = some (r, S1) := hh
  refine rw_aload_n E (j0 := 0) rfl rfl dX11_foretells_0 ?_
  refine rw_iload_n E (j0 := 1) rfl rfl dX11_foretells_1 ?_
  refine rw_cVr E (As := [.int l1]) hh (by decide) rfl (fun _ _ _ hq => c_X11_discAt l b0 G _ _ _ _ _ hq) (cwV 1 E.2.2.2.2.1 gX11_foretells_X11_discAt rfl rfl rfl (by decide +kernel) ⟨Nat.le_of_ble_eq_true rfl, Nat.le_of_ble_eq_true rfl⟩) rfl rfl (by (try simp only [List.map_cons, List.map_nil, List.sum_cons, List.sum_nil, hrf_cat, cat_i, cat_l, cat_r]) <;> decide) ⟨Nat.le_of_ble_eq_true rfl, Nat.le_of_ble_eq_true rfl⟩ dX11_foretells_2 (fun v2 S1 hh => ?_)
  refine rw_astore E (lv2 := [(6, hrf b0 v2), (0, hrf b0 ((some h))), (1, .int l1), (2, .int l2), (3, .int l3), (4, .int l4), (5, .int l5)]) (by decide) rfl dX11_foretells_5 ?_
  refine rw_aload_n E (j0 := 1) rfl rfl dX11_foretells_7 ?_
  refine rw_iload_n E (j0 := 3) rfl rfl dX11_foretells_8 ?_
  refine rw_cVr E (As := [.int l2]) hh (by decide) rfl (fun _ _ _ hq => c_X11_cordAt l b0 G _ _ _ _ _ hq) (cwV 1 E.2.2.2.2.1 gX11_foretells_X11_cordAt rfl rfl rfl (by decide +kernel) ⟨Nat.le_of_ble_eq_true rfl, Nat.le_of_ble_eq_true rfl⟩) rfl rfl (by (try simp only [List.map_cons, List.map_nil, List.sum_cons, List.sum_nil, hrf_cat, cat_i, cat_l, cat_r]) <;> decide) ⟨Nat.le_of_ble_eq_true rfl, Nat.le_of_ble_eq_true rfl⟩ dX11_foretells_9 (fun v5 S4 hh => ?_)
  refine rw_astore E (i := 7) (lv2 := [(7, hrf b0 v5), (6, hrf b0 v2), (0, hrf b0 ((some h))), (1, .int l1), (2, .int l2), (3, .int l3), (4, .int l4), (5, .int l5)]) (by decide) (by simp [lvs, lvs2, hrf_cat]) dX11_foretells_12 ?_
  refine rw_aload E (j0 := 1) rfl dX11_foretells_14 ?_
  refine rw_ifnull E hh (tgt := 48) (by decide) dX11_foretells_16 (fun hh => ?_) (fun hh => ?_)
  · refine rw_iconst E (v := 0) (by decide) dX11_foretells_48 ?_
    exact rw_zret E hrt hlk hh (by decide) (by decide) dX11_foretells_49
  · refine rw_aload E (j0 := 0) rfl dX11_foretells_19 ?_
    refine rw_ifnull E hh (tgt := 48) (by decide) dX11_foretells_21 (fun hh => ?_) (fun hh => ?_)
    · refine rw_iconst E (v := 0) (by decide) dX11_foretells_48 ?_
      exact rw_zret E hrt hlk hh (by decide) (by decide) dX11_foretells_49
    · refine rw_iload_n E (j0 := 5) rfl rfl dX11_foretells_24 ?_
      refine rw_iconst E (v := 1) (by decide) dX11_foretells_25 ?_
      refine rw_icmp_lt E hh (tgt := 48) (by decide) dX11_foretells_26 (fun hh => ?_) (fun hh => ?_)
      · refine rw_iconst E (v := 0) (by decide) dX11_foretells_48 ?_
        exact rw_zret E hrt hlk hh (by decide) (by decide) dX11_foretells_49
      · refine rw_iload_n E (j0 := 5) rfl rfl dX11_foretells_29 ?_
        refine rw_aload E (j0 := 0) rfl dX11_foretells_30 ?_
        refine rw_getI E hh (C := RX2) (T := TX2) (N := 4) rfl (by decide) i_X11_foretells_2 (by decide) rfl (List.mem_of_getElem? (i := 1) (by decide +kernel)) rfl dX11_foretells_32 (fun v7 hh => ?_)
        refine rw_icmp_gt E hh (tgt := 48) (by decide) dX11_foretells_35 (fun hh => ?_) (fun hh => ?_)
        · refine rw_iconst E (v := 0) (by decide) dX11_foretells_48 ?_
          exact rw_zret E hrt hlk hh (by decide) (by decide) dX11_foretells_49
        · refine rw_iload E (j0 := 6) rfl dX11_foretells_38 ?_
          refine rw_iload E (j0 := 7) rfl dX11_foretells_40 ?_
          refine rw_cSi E (As := [.int l4, .int l5]) hh (fun _ _ hq => c_X11_isPull l b0 G _ _ _ _ _ hq) (va_cwS 2 E.2.2.2.2.1 gX11_foretells_X11_isPull rfl rfl rfl (by decide +kernel) ⟨Nat.le_of_ble_eq_true rfl, Nat.le_of_ble_eq_true rfl⟩) rfl rfl (by (try simp only [List.map_cons, List.map_nil, List.sum_cons, List.sum_nil, hrf_cat, cat_i, cat_l, cat_r]) <;> decide) ⟨Nat.le_of_ble_eq_true rfl, Nat.le_of_ble_eq_true rfl⟩ dX11_foretells_42 (fun v9 S8 hh => ?_)
          refine rw_if_ne E hh (tgt := 50) (by decide) dX11_foretells_45 (fun hh => ?_) (fun hh => ?_)
          · refine rw_aload_n E (j0 := 2) rfl rfl dX11_foretells_50 ?_
            refine rw_getP E hh (C := RX11) (T := TX11) (N := 9) rfl (by decide) i_X11_foretells_11 (by decide) rfl (List.mem_of_getElem? (i := 2) (by decide +kernel)) rfl dX11_foretells_51 (fun v10 hh => ?_)
            refine rw_aload E (j0 := 1) rfl dX11_foretells_54 ?_
            refine rw_aload E (j0 := 0) rfl dX11_foretells_56 ?_
            refine rw_iload_n E (j0 := 5) rfl rfl dX11_foretells_58 ?_
            refine rw_iload E (j0 := 6) rfl dX11_foretells_59 ?_
            refine rw_iload E (j0 := 7) rfl dX11_foretells_61 ?_
            refine rw_cVv E (As := [hrf b0 v2, hrf b0 v5, .int l3, .int l4, .int l5]) hh (by decide) rfl (fun _ _ hq => c_X4_about l b0 G _ _ _ _ _ _ _ _ hq) (cwV 5 E.2.2.2.2.1 gX11_foretells_X4_about rfl rfl rfl (by decide +kernel) ⟨Nat.le_of_ble_eq_true rfl, Nat.le_of_ble_eq_true rfl⟩) rfl rfl (by (try simp only [List.map_cons, List.map_nil, List.sum_cons, List.sum_nil, hrf_cat, cat_i, cat_l, cat_r]) <;> decide) ⟨Nat.le_of_ble_eq_true rfl, Nat.le_of_ble_eq_true rfl⟩ dX11_foretells_63 (fun S11 hh => ?_)
            refine rw_iconst E (v := 1) (by decide) dX11_foretells_66 ?_
            exact rw_zret E hrt hlk hh (by decide) (by decide) dX11_foretells_67
          · refine rw_iconst E (v := 0) (by decide) dX11_foretells_48 ?_
            exact rw_zret E hrt hlk hh (by decide) (by decide) dX11_foretells_49

/-! HummingDisc.greatest(IIIIII)I -/
abbrev rm_X11_greatest : Room := { frames := 5, cells := 0, slots := 0, locals := 108 }
theorem i_X11_greatest_11 : ∀ w ∈ wsX110, w ∈ wsX11_greatest := fun _ h => List.mem_cons_of_mem _ (List.mem_append_left _ (List.mem_append_left _ (List.mem_append_left _ (List.mem_append_left _ (List.mem_append_left _ (List.mem_append_left _ (List.mem_append_right _ (h))))))))
def s_X11_greatest (S : HS) (h : Nat) (l1 : Int32) (l2 : Int32) (l3 : Int32) (l4 : Int32) (l5 : Int32) (l6 : Int32) : Option (Int32 × HS) := if l6 < 0 then (some ((-1000001), S)) else (if 1 < l6 then (some ((-1000001), S)) else (kO S ((some h)) 11 (fun a3 => kc (s_X11_foretells S a3 l1 l2 l3 l4 l5) (fun v2 S1 => if v2 = 0 then (some ((-1000001), S1)) else (kP S1 ((some h)) 11 4 (fun v4 => kO S1 v4 4 (fun a7 => kc (s_X4_pulledPace S1 a7 ) (fun v6 S5 => if l6 = 0 then (some (v6, S5)) else (kP S5 ((some h)) 11 4 (fun v8 => kO S5 v8 4 (fun a11 => kc (s_X4_snaps S5 a11 ) (fun v10 S9 => if v10 = 0 then (some (0, S9)) else (some (1, S9))))))))))))))
set_option maxHeartbeats 4000000 in
set_option maxRecDepth 100000 in
theorem c_X11_greatest (l : Launch) (b0 : Nat) (G : hG) (S S1 : HS) (h : Nat) (l1 : Int32) (l2 : Int32) (l3 : Int32) (l4 : Int32) (l5 : Int32) (l6 : Int32) (r : Int32) (hh : s_X11_greatest S h l1 l2 l3 l4 l5 l6 = some (r, S1)) : MH l yX11_greatest wsX11_greatest rm_X11_greatest b0 G S [hrf b0 (some h), .int l1, .int l2, .int l3, .int l4, .int l5, .int l6] (some (.int r)) S1 0 0 := by
  refine MH.ofW (cc := cX11_greatest) (maxL := 8) (ret := (some .int)) (own := RX11) (lv0 := [(0, hrf b0 ((some h))), (1, .int l1), (2, .int l2), (3, .int l3), (4, .int l4), (5, .int l5), (6, .int l6)]) (by decide) rfl rfl (Nat.le_of_ble_eq_true rfl) rfl ?_
  intro p e s m args below meth c E hrt hlk hnm
  have hh : (if l6 < 0 then (some ((-1000001), S)) else (if 1 < l6 then (some ((-1000001), S)) else (kO S ((some h)) 11 (fun a3 => kc (s_X11_foretells S a3 l1 l2 l3 l4 l5) (fun v2 S1 => if v2 = 0 then (some ((-1000001), S1)) else (kP S1 ((some h)) 11 4 (fun v4 => kO S1 v4 4 (fun a7 => kc (s_X4_pulledPace S1 a7 ) (fun v6 S5 => if l6 = 0 then (some (v6, S5)) else (kP S5 ((some h)) 11 4 (fun v8 => kO S5 v8 4 (fun a11 => kc (s_X4_snaps S5 a11 ) (fun v10 S9 => if v10 = 0 then (some (0, S9)) else (some (1, S9))))))))))))))) = some (r, S1) := hh
  refine rw_iload E (j0 := 6) rfl dX11_greatest_0 ?_
  refine rw_if_lt E hh (tgt := 25) (by decide) dX11_greatest_2 (fun hh => ?_) (fun hh => ?_)
  · refine rw_ldc E (v := (-1000001)) (List.mem_of_getElem? (i := 1) (by decide +kernel)) dX11_greatest_25 ?_
    exact rw_iret E hrt hlk hh (by decide) (by decide) dX11_greatest_27
  · refine rw_iload E (j0 := 6) rfl dX11_greatest_5 ?_
    refine rw_iconst E (v := 1) (by decide) dX11_greatest_7 ?_
    refine rw_icmp_gt E hh (tgt := 25) (by decide) dX11_greatest_8 (fun hh => ?_) (fun hh => ?_)
    · refine rw_ldc E (v := (-1000001)) (List.mem_of_getElem? (i := 1) (by decide +kernel)) dX11_greatest_25 ?_
      exact rw_iret E hrt hlk hh (by decide) (by decide) dX11_greatest_27
    · refine rw_aload_n E (j0 := 0) rfl rfl dX11_greatest_11 ?_
      refine rw_iload_n E (j0 := 1) rfl rfl dX11_greatest_12 ?_
      refine rw_iload_n E (j0 := 2) rfl rfl dX11_greatest_13 ?_
      refine rw_iload_n E (j0 := 3) rfl rfl dX11_greatest_14 ?_
      refine rw_iload E (j0 := 4) rfl dX11_greatest_15 ?_
      refine rw_iload E (j0 := 5) rfl dX11_greatest_17 ?_
      refine rw_cVi E (As := [.int l1, .int l2, .int l3, .int l4, .int l5]) hh (by decide) rfl (fun _ _ _ hq => c_X11_foretells l b0 G _ _ _ _ _ _ _ _ _ hq) (cwV 5 E.2.2.2.2.1 gX11_greatest_X11_foretells rfl rfl rfl (by decide +kernel) ⟨Nat.le_of_ble_eq_true rfl, Nat.le_of_ble_eq_true rfl⟩) rfl rfl (by (try simp only [List.map_cons, List.map_nil, List.sum_cons, List.sum_nil, hrf_cat, cat_i, cat_l, cat_r]) <;> decide) ⟨Nat.le_of_ble_eq_true rfl, Nat.le_of_ble_eq_true rfl⟩ dX11_greatest_19 (fun v2 S1 hh => ?_)
      refine rw_if_ne E hh (tgt := 28) (by decide) dX11_greatest_22 (fun hh => ?_) (fun hh => ?_)
      · refine rw_aload_n E (j0 := 0) rfl rfl dX11_greatest_28 ?_
        refine rw_getP E hh (C := RX11) (T := TX11) (N := 9) rfl (by decide) i_X11_greatest_11 (by decide) rfl (List.mem_of_getElem? (i := 2) (by decide +kernel)) rfl dX11_greatest_29 (fun v4 hh => ?_)
        refine rw_cVi E (As := []) hh (by decide) rfl (fun _ _ _ hq => c_X4_pulledPace l b0 G _ _ _ _ hq) (cwV 0 E.2.2.2.2.1 gX11_greatest_X4_pulledPace rfl rfl rfl (by decide +kernel) ⟨Nat.le_of_ble_eq_true rfl, Nat.le_of_ble_eq_true rfl⟩) rfl rfl (by (try simp only [List.map_cons, List.map_nil, List.sum_cons, List.sum_nil, hrf_cat, cat_i, cat_l, cat_r]) <;> decide) ⟨Nat.le_of_ble_eq_true rfl, Nat.le_of_ble_eq_true rfl⟩ dX11_greatest_32 (fun v6 S5 hh => ?_)
        refine rw_istore E (lv2 := [(7, .int v6), (0, hrf b0 ((some h))), (1, .int l1), (2, .int l2), (3, .int l3), (4, .int l4), (5, .int l5), (6, .int l6)]) (by decide) rfl dX11_greatest_35 ?_
        refine rw_iload E (j0 := 7) rfl dX11_greatest_37 ?_
        refine rw_if_ne E hh (tgt := 47) (by decide) dX11_greatest_39 (fun hh => ?_) (fun hh => ?_)
        · refine rw_aload_n E (j0 := 1) rfl rfl dX11_greatest_47 ?_
          refine rw_getP E hh (C := RX11) (T := TX11) (N := 9) rfl (by decide) i_X11_greatest_11 (by decide) rfl (List.mem_of_getElem? (i := 2) (by decide +kernel)) rfl dX11_greatest_48 (fun v8 hh => ?_)
          refine rw_cVi E (As := []) hh (by decide) rfl (fun _ _ _ hq => c_X4_snaps l b0 G _ _ _ _ hq) (cwV 0 E.2.2.2.2.1 gX11_greatest_X4_snaps rfl rfl rfl (by decide +kernel) ⟨Nat.le_of_ble_eq_true rfl, Nat.le_of_ble_eq_true rfl⟩) rfl rfl (by (try simp only [List.map_cons, List.map_nil, List.sum_cons, List.sum_nil, hrf_cat, cat_i, cat_l, cat_r]) <;> decide) ⟨Nat.le_of_ble_eq_true rfl, Nat.le_of_ble_eq_true rfl⟩ dX11_greatest_51 (fun v10 S9 hh => ?_)
          refine rw_if_eq E hh (tgt := 61) (by decide) dX11_greatest_54 (fun hh => ?_) (fun hh => ?_)
          · refine rw_iconst E (v := 0) (by decide) dX11_greatest_61 ?_
            exact rw_iret E hrt hlk hh (by decide) (by decide) dX11_greatest_62
          · refine rw_iconst E (v := 1) (by decide) dX11_greatest_57 ?_
            refine rw_goto E (tgt := 62) (by decide) dX11_greatest_58 ?_
            exact rw_iret E hrt hlk hh (by decide) (by decide) dX11_greatest_62
        · refine rw_iload E (j0 := 0) rfl dX11_greatest_42 ?_
          refine rw_goto E (tgt := 62) (by decide) dX11_greatest_44 ?_
          exact rw_iret E hrt hlk hh (by decide) (by decide) dX11_greatest_62
      · refine rw_ldc E (v := (-1000001)) (List.mem_of_getElem? (i := 1) (by decide +kernel)) dX11_greatest_25 ?_
        exact rw_iret E hrt hlk hh (by decide) (by decide) dX11_greatest_27

/-! HummingDisc.best(III)I -/
abbrev rm_X11_best : Room := { frames := 6, cells := 0, slots := 0, locals := 137 }
theorem i_X11_best_9 : ∀ w ∈ wsX90, w ∈ wsX11_best := fun _ h => List.mem_cons_of_mem _ (List.mem_append_left _ (List.mem_append_left _ (List.mem_append_left _ (List.mem_append_left _ (List.mem_append_left _ (List.mem_append_right _ (h)))))))
theorem i_X11_best_11 : ∀ w ∈ wsX110, w ∈ wsX11_best := fun _ h => List.mem_cons_of_mem _ (List.mem_append_left _ (List.mem_append_left _ (List.mem_append_left _ (List.mem_append_left _ (List.mem_append_left _ (List.mem_append_left _ (List.mem_append_right _ (h))))))))
def s_X11_best (S : HS) (h : Nat) (l1 : Int32) (l2 : Int32) (l3 : Int32) : Option (Int32 × HS) := kP S ((some h)) 11 2 (fun v1 => kP S v1 9 1 (fun v2 => if v2 = none then (some ((-1000002), S)) else (if l1 < 1 then (some ((-1000001), S)) else (if 800 < l1 then (some ((-1000001), S)) else (kc (s_X11_isPull S l2 l3) (fun v4 S3 => if v4 = 0 then (some ((-1000001), S3)) else (kP S3 ((some h)) 11 4 (fun v5 => kO S3 v5 4 (fun a8 => kc (s_X4_bestOf S3 a8 v2 l1 l2 l3) (fun v7 S6 => some (v7, S6)))))))))))
set_option maxHeartbeats 4000000 in
set_option maxRecDepth 100000 in
theorem c_X11_best (l : Launch) (b0 : Nat) (G : hG) (S S1 : HS) (h : Nat) (l1 : Int32) (l2 : Int32) (l3 : Int32) (r : Int32) (hh : s_X11_best S h l1 l2 l3 = some (r, S1)) : MH l yX11_best wsX11_best rm_X11_best b0 G S [hrf b0 (some h), .int l1, .int l2, .int l3] (some (.int r)) S1 0 0 := by
  refine MH.ofW (cc := cX11_best) (maxL := 5) (ret := (some .int)) (own := RX11) (lv0 := [(0, hrf b0 ((some h))), (1, .int l1), (2, .int l2), (3, .int l3)]) (by decide) rfl rfl (Nat.le_of_ble_eq_true rfl) rfl ?_
  intro p e s m args below meth c E hrt hlk hnm
  have hh : (kP S ((some h)) 11 2 (fun v1 => kP S v1 9 1 (fun v2 => if v2 = none then (some ((-1000002), S)) else (if l1 < 1 then (some ((-1000001), S)) else (if 800 < l1 then (some ((-1000001), S)) else (kc (s_X11_isPull S l2 l3) (fun v4 S3 => if v4 = 0 then (some ((-1000001), S3)) else (kP S3 ((some h)) 11 4 (fun v5 => kO S3 v5 4 (fun a8 => kc (s_X4_bestOf S3 a8 v2 l1 l2 l3) (fun v7 S6 => some (v7, S6)))))))))))) = some (r, S1) := hh
  refine rw_aload_n E (j0 := 0) rfl rfl dX11_best_0 ?_
  refine rw_getP E hh (C := RX11) (T := TX11) (N := 9) rfl (by decide) i_X11_best_11 (by decide) rfl (List.mem_of_getElem? (i := 1) (by decide +kernel)) rfl dX11_best_1 (fun v1 hh => ?_)
  refine rw_getP E hh (C := RX9) (T := TX9) (N := 2) rfl (by decide) i_X11_best_9 (by decide) rfl (List.mem_of_getElem? (i := 2) (by decide +kernel)) rfl dX11_best_4 (fun v2 hh => ?_)
  refine rw_astore E (lv2 := [(4, hrf b0 v2), (0, hrf b0 ((some h))), (1, .int l1), (2, .int l2), (3, .int l3)]) (by decide) rfl dX11_best_7 ?_
  refine rw_aload E (j0 := 0) rfl dX11_best_9 ?_
  refine rw_ifnonnull E hh (tgt := 17) (by decide) dX11_best_11 (fun hh => ?_) (fun hh => ?_)
  · refine rw_iload_n E (j0 := 2) rfl rfl dX11_best_17 ?_
    refine rw_iconst E (v := 1) (by decide) dX11_best_18 ?_
    refine rw_icmp_lt E hh (tgt := 37) (by decide) dX11_best_19 (fun hh => ?_) (fun hh => ?_)
    · refine rw_ldc E (v := (-1000001)) (List.mem_of_getElem? (i := 4) (by decide +kernel)) dX11_best_37 ?_
      exact rw_iret E hrt hlk hh (by decide) (by decide) dX11_best_39
    · refine rw_iload_n E (j0 := 2) rfl rfl dX11_best_22 ?_
      refine rw_sipush E (v := 800) (by decide) dX11_best_23 ?_
      refine rw_icmp_gt E hh (tgt := 37) (by decide) dX11_best_26 (fun hh => ?_) (fun hh => ?_)
      · refine rw_ldc E (v := (-1000001)) (List.mem_of_getElem? (i := 4) (by decide +kernel)) dX11_best_37 ?_
        exact rw_iret E hrt hlk hh (by decide) (by decide) dX11_best_39
      · refine rw_iload_n E (j0 := 3) rfl rfl dX11_best_29 ?_
        refine rw_iload_n E (j0 := 4) rfl rfl dX11_best_30 ?_
        refine rw_cSi E (As := [.int l2, .int l3]) hh (fun _ _ hq => c_X11_isPull l b0 G _ _ _ _ _ hq) (va_cwS 2 E.2.2.2.2.1 gX11_best_X11_isPull rfl rfl rfl (by decide +kernel) ⟨Nat.le_of_ble_eq_true rfl, Nat.le_of_ble_eq_true rfl⟩) rfl rfl (by (try simp only [List.map_cons, List.map_nil, List.sum_cons, List.sum_nil, hrf_cat, cat_i, cat_l, cat_r]) <;> decide) ⟨Nat.le_of_ble_eq_true rfl, Nat.le_of_ble_eq_true rfl⟩ dX11_best_31 (fun v4 S3 hh => ?_)
        refine rw_if_ne E hh (tgt := 40) (by decide) dX11_best_34 (fun hh => ?_) (fun hh => ?_)
        · refine rw_aload_n E (j0 := 1) rfl rfl dX11_best_40 ?_
          refine rw_getP E hh (C := RX11) (T := TX11) (N := 9) rfl (by decide) i_X11_best_11 (by decide) rfl (List.mem_of_getElem? (i := 5) (by decide +kernel)) rfl dX11_best_41 (fun v5 hh => ?_)
          refine rw_aload E (j0 := 0) rfl dX11_best_44 ?_
          refine rw_iload_n E (j0 := 2) rfl rfl dX11_best_46 ?_
          refine rw_iload_n E (j0 := 3) rfl rfl dX11_best_47 ?_
          refine rw_iload_n E (j0 := 4) rfl rfl dX11_best_48 ?_
          refine rw_cVi E (As := [hrf b0 v2, .int l1, .int l2, .int l3]) hh (by decide) rfl (fun _ _ _ hq => c_X4_bestOf l b0 G _ _ _ _ _ _ _ _ hq) (cwV 4 E.2.2.2.2.1 gX11_best_X4_bestOf rfl rfl rfl (by decide +kernel) ⟨Nat.le_of_ble_eq_true rfl, Nat.le_of_ble_eq_true rfl⟩) rfl rfl (by (try simp only [List.map_cons, List.map_nil, List.sum_cons, List.sum_nil, hrf_cat, cat_i, cat_l, cat_r]) <;> decide) ⟨Nat.le_of_ble_eq_true rfl, Nat.le_of_ble_eq_true rfl⟩ dX11_best_49 (fun v7 S6 hh => ?_)
          exact rw_iret E hrt hlk hh (by decide) (by decide) dX11_best_52
        · refine rw_ldc E (v := (-1000001)) (List.mem_of_getElem? (i := 4) (by decide +kernel)) dX11_best_37 ?_
          exact rw_iret E hrt hlk hh (by decide) (by decide) dX11_best_39
  · refine rw_ldc E (v := (-1000002)) (List.mem_of_getElem? (i := 3) (by decide +kernel)) dX11_best_14 ?_
    exact rw_iret E hrt hlk hh (by decide) (by decide) dX11_best_16

/-! HummingDisc.from(IIIII)I -/
abbrev rm_X11_from : Room := { frames := 6, cells := 0, slots := 0, locals := 136 }
theorem i_X11_from_11 : ∀ w ∈ wsX110, w ∈ wsX11_from := fun _ h => List.mem_cons_of_mem _ (List.mem_append_left _ (List.mem_append_left _ (List.mem_append_left _ (List.mem_append_left _ (List.mem_append_left _ (List.mem_append_left _ (List.mem_append_right _ (h))))))))
def s_X11_from (S : HS) (h : Nat) (l1 : Int32) (l2 : Int32) (l3 : Int32) (l4 : Int32) (l5 : Int32) : Option (Int32 × HS) := kO S ((some h)) 11 (fun a3 => kc (s_X11_foretells S a3 l1 l2 l3 l4 l5) (fun v2 S1 => if v2 = 0 then (some ((-1000001), S1)) else (kP S1 ((some h)) 11 4 (fun v4 => kO S1 v4 4 (fun a7 => kc (s_X4_bestFrom S1 a7 ) (fun v6 S5 => some (v6, S5)))))))
set_option maxHeartbeats 4000000 in
set_option maxRecDepth 100000 in
theorem c_X11_from (l : Launch) (b0 : Nat) (G : hG) (S S1 : HS) (h : Nat) (l1 : Int32) (l2 : Int32) (l3 : Int32) (l4 : Int32) (l5 : Int32) (r : Int32) (hh : s_X11_from S h l1 l2 l3 l4 l5 = some (r, S1)) : MH l yX11_from wsX11_from rm_X11_from b0 G S [hrf b0 (some h), .int l1, .int l2, .int l3, .int l4, .int l5] (some (.int r)) S1 0 0 := by
  refine MH.ofW (cc := cX11_from) (maxL := 6) (ret := (some .int)) (own := RX11) (lv0 := [(0, hrf b0 ((some h))), (1, .int l1), (2, .int l2), (3, .int l3), (4, .int l4), (5, .int l5)]) (by decide) rfl rfl (Nat.le_of_ble_eq_true rfl) rfl ?_
  intro p e s m args below meth c E hrt hlk hnm
  have hh : (kO S ((some h)) 11 (fun a3 => kc (s_X11_foretells S a3 l1 l2 l3 l4 l5) (fun v2 S1 => if v2 = 0 then (some ((-1000001), S1)) else (kP S1 ((some h)) 11 4 (fun v4 => kO S1 v4 4 (fun a7 => kc (s_X4_bestFrom S1 a7 ) (fun v6 S5 => some (v6, S5)))))))) = some (r, S1) := hh
  refine rw_aload_n E (j0 := 0) rfl rfl dX11_from_0 ?_
  refine rw_iload_n E (j0 := 1) rfl rfl dX11_from_1 ?_
  refine rw_iload_n E (j0 := 2) rfl rfl dX11_from_2 ?_
  refine rw_iload_n E (j0 := 3) rfl rfl dX11_from_3 ?_
  refine rw_iload E (j0 := 4) rfl dX11_from_4 ?_
  refine rw_iload E (j0 := 5) rfl dX11_from_6 ?_
  refine rw_cVi E (As := [.int l1, .int l2, .int l3, .int l4, .int l5]) hh (by decide) rfl (fun _ _ _ hq => c_X11_foretells l b0 G _ _ _ _ _ _ _ _ _ hq) (cwV 5 E.2.2.2.2.1 gX11_from_X11_foretells rfl rfl rfl (by decide +kernel) ⟨Nat.le_of_ble_eq_true rfl, Nat.le_of_ble_eq_true rfl⟩) rfl rfl (by (try simp only [List.map_cons, List.map_nil, List.sum_cons, List.sum_nil, hrf_cat, cat_i, cat_l, cat_r]) <;> decide) ⟨Nat.le_of_ble_eq_true rfl, Nat.le_of_ble_eq_true rfl⟩ dX11_from_8 (fun v2 S1 hh => ?_)
  refine rw_if_eq E hh (tgt := 24) (by decide) dX11_from_11 (fun hh => ?_) (fun hh => ?_)
  · refine rw_ldc E (v := (-1000001)) (List.mem_of_getElem? (i := 2) (by decide +kernel)) dX11_from_24 ?_
    exact rw_iret E hrt hlk hh (by decide) (by decide) dX11_from_26
  · refine rw_aload_n E (j0 := 0) rfl rfl dX11_from_14 ?_
    refine rw_getP E hh (C := RX11) (T := TX11) (N := 9) rfl (by decide) i_X11_from_11 (by decide) rfl (List.mem_of_getElem? (i := 1) (by decide +kernel)) rfl dX11_from_15 (fun v4 hh => ?_)
    refine rw_cVi E (As := []) hh (by decide) rfl (fun _ _ _ hq => c_X4_bestFrom l b0 G _ _ _ _ hq) (cwV 0 E.2.2.2.2.1 gX11_from_X4_bestFrom rfl rfl rfl (by decide +kernel) ⟨Nat.le_of_ble_eq_true rfl, Nat.le_of_ble_eq_true rfl⟩) rfl rfl (by (try simp only [List.map_cons, List.map_nil, List.sum_cons, List.sum_nil, hrf_cat, cat_i, cat_l, cat_r]) <;> decide) ⟨Nat.le_of_ble_eq_true rfl, Nat.le_of_ble_eq_true rfl⟩ dX11_from_18 (fun v6 S5 hh => ?_)
    refine rw_goto E (tgt := 26) (by decide) dX11_from_21 ?_
    exact rw_iret E hrt hlk hh (by decide) (by decide) dX11_from_26

/-! HummingDisc.late(IIIII)I -/
abbrev rm_X11_late : Room := { frames := 6, cells := 0, slots := 0, locals := 133 }
theorem i_X11_late_11 : ∀ w ∈ wsX110, w ∈ wsX11_late := fun _ h => List.mem_cons_of_mem _ (List.mem_append_left _ (List.mem_append_left _ (List.mem_append_left _ (List.mem_append_left _ (List.mem_append_left _ (List.mem_append_left _ (List.mem_append_right _ (h))))))))
def s_X11_late (S : HS) (h : Nat) (l1 : Int32) (l2 : Int32) (l3 : Int32) (l4 : Int32) (l5 : Int32) : Option (Int32 × HS) := kO S ((some h)) 11 (fun a3 => kc (s_X11_foretells S a3 l1 l2 l3 l4 l5) (fun v2 S1 => if v2 = 0 then (some ((-1000001), S1)) else (kP S1 ((some h)) 11 4 (fun v4 => kO S1 v4 4 (fun a7 => kc (s_X4_latestGrowing S1 a7 ) (fun v6 S5 => some (v6, S5)))))))
set_option maxHeartbeats 4000000 in
set_option maxRecDepth 100000 in
theorem c_X11_late (l : Launch) (b0 : Nat) (G : hG) (S S1 : HS) (h : Nat) (l1 : Int32) (l2 : Int32) (l3 : Int32) (l4 : Int32) (l5 : Int32) (r : Int32) (hh : s_X11_late S h l1 l2 l3 l4 l5 = some (r, S1)) : MH l yX11_late wsX11_late rm_X11_late b0 G S [hrf b0 (some h), .int l1, .int l2, .int l3, .int l4, .int l5] (some (.int r)) S1 0 0 := by
  refine MH.ofW (cc := cX11_late) (maxL := 6) (ret := (some .int)) (own := RX11) (lv0 := [(0, hrf b0 ((some h))), (1, .int l1), (2, .int l2), (3, .int l3), (4, .int l4), (5, .int l5)]) (by decide) rfl rfl (Nat.le_of_ble_eq_true rfl) rfl ?_
  intro p e s m args below meth c E hrt hlk hnm
  have hh : (kO S ((some h)) 11 (fun a3 => kc (s_X11_foretells S a3 l1 l2 l3 l4 l5) (fun v2 S1 => if v2 = 0 then (some ((-1000001), S1)) else (kP S1 ((some h)) 11 4 (fun v4 => kO S1 v4 4 (fun a7 => kc (s_X4_latestGrowing S1 a7 ) (fun v6 S5 => some (v6, S5)))))))) = some (r, S1) := hh
  refine rw_aload_n E (j0 := 0) rfl rfl dX11_late_0 ?_
  refine rw_iload_n E (j0 := 1) rfl rfl dX11_late_1 ?_
  refine rw_iload_n E (j0 := 2) rfl rfl dX11_late_2 ?_
  refine rw_iload_n E (j0 := 3) rfl rfl dX11_late_3 ?_
  refine rw_iload E (j0 := 4) rfl dX11_late_4 ?_
  refine rw_iload E (j0 := 5) rfl dX11_late_6 ?_
  refine rw_cVi E (As := [.int l1, .int l2, .int l3, .int l4, .int l5]) hh (by decide) rfl (fun _ _ _ hq => c_X11_foretells l b0 G _ _ _ _ _ _ _ _ _ hq) (cwV 5 E.2.2.2.2.1 gX11_late_X11_foretells rfl rfl rfl (by decide +kernel) ⟨Nat.le_of_ble_eq_true rfl, Nat.le_of_ble_eq_true rfl⟩) rfl rfl (by (try simp only [List.map_cons, List.map_nil, List.sum_cons, List.sum_nil, hrf_cat, cat_i, cat_l, cat_r]) <;> decide) ⟨Nat.le_of_ble_eq_true rfl, Nat.le_of_ble_eq_true rfl⟩ dX11_late_8 (fun v2 S1 hh => ?_)
  refine rw_if_eq E hh (tgt := 24) (by decide) dX11_late_11 (fun hh => ?_) (fun hh => ?_)
  · refine rw_ldc E (v := (-1000001)) (List.mem_of_getElem? (i := 2) (by decide +kernel)) dX11_late_24 ?_
    exact rw_iret E hrt hlk hh (by decide) (by decide) dX11_late_26
  · refine rw_aload_n E (j0 := 0) rfl rfl dX11_late_14 ?_
    refine rw_getP E hh (C := RX11) (T := TX11) (N := 9) rfl (by decide) i_X11_late_11 (by decide) rfl (List.mem_of_getElem? (i := 1) (by decide +kernel)) rfl dX11_late_15 (fun v4 hh => ?_)
    refine rw_cVi E (As := []) hh (by decide) rfl (fun _ _ _ hq => c_X4_latestGrowing l b0 G _ _ _ _ hq) (cwV 0 E.2.2.2.2.1 gX11_late_X4_latestGrowing rfl rfl rfl (by decide +kernel) ⟨Nat.le_of_ble_eq_true rfl, Nat.le_of_ble_eq_true rfl⟩) rfl rfl (by (try simp only [List.map_cons, List.map_nil, List.sum_cons, List.sum_nil, hrf_cat, cat_i, cat_l, cat_r]) <;> decide) ⟨Nat.le_of_ble_eq_true rfl, Nat.le_of_ble_eq_true rfl⟩ dX11_late_18 (fun v6 S5 hh => ?_)
    refine rw_goto E (tgt := 26) (by decide) dX11_late_21 ?_
    exact rw_iret E hrt hlk hh (by decide) (by decide) dX11_late_26

/-! HummingDisc.parts(IIIII)I -/
abbrev rm_X11_parts : Room := { frames := 5, cells := 0, slots := 0, locals := 111 }
theorem i_X11_parts_11 : ∀ w ∈ wsX110, w ∈ wsX11_parts := fun _ h => List.mem_cons_of_mem _ (List.mem_append_left _ (List.mem_append_left _ (List.mem_append_left _ (List.mem_append_left _ (List.mem_append_left _ (List.mem_append_left _ (List.mem_append_right _ (h))))))))
def s_X11_parts (S : HS) (h : Nat) (l1 : Int32) (l2 : Int32) (l3 : Int32) (l4 : Int32) (l5 : Int32) : Option (Int32 × HS) := if l5 < 1 then (some ((-1000001), S)) else (if 999999 < l5 then (some ((-1000001), S)) else (kO S ((some h)) 11 (fun a3 => kc (s_X11_foretells S a3 l1 l2 l3 l4 1) (fun v2 S1 => if v2 = 0 then (some ((-1000001), S1)) else (kP S1 ((some h)) 11 4 (fun v4 => kO S1 v4 4 (fun a7 => kc (s_X4_partingTicks S1 a7 l5) (fun v6 S5 => some (v6, S5)))))))))
set_option maxHeartbeats 4000000 in
set_option maxRecDepth 100000 in
theorem c_X11_parts (l : Launch) (b0 : Nat) (G : hG) (S S1 : HS) (h : Nat) (l1 : Int32) (l2 : Int32) (l3 : Int32) (l4 : Int32) (l5 : Int32) (r : Int32) (hh : s_X11_parts S h l1 l2 l3 l4 l5 = some (r, S1)) : MH l yX11_parts wsX11_parts rm_X11_parts b0 G S [hrf b0 (some h), .int l1, .int l2, .int l3, .int l4, .int l5] (some (.int r)) S1 0 0 := by
  refine MH.ofW (cc := cX11_parts) (maxL := 6) (ret := (some .int)) (own := RX11) (lv0 := [(0, hrf b0 ((some h))), (1, .int l1), (2, .int l2), (3, .int l3), (4, .int l4), (5, .int l5)]) (by decide) rfl rfl (Nat.le_of_ble_eq_true rfl) rfl ?_
  intro p e s m args below meth c E hrt hlk hnm
  have hh : (if l5 < 1 then (some ((-1000001), S)) else (if 999999 < l5 then (some ((-1000001), S)) else (kO S ((some h)) 11 (fun a3 => kc (s_X11_foretells S a3 l1 l2 l3 l4 1) (fun v2 S1 => if v2 = 0 then (some ((-1000001), S1)) else (kP S1 ((some h)) 11 4 (fun v4 => kO S1 v4 4 (fun a7 => kc (s_X4_partingTicks S1 a7 l5) (fun v6 S5 => some (v6, S5)))))))))) = some (r, S1) := hh
  refine rw_iload E (j0 := 5) rfl dX11_parts_0 ?_
  refine rw_iconst E (v := 1) (by decide) dX11_parts_2 ?_
  refine rw_icmp_lt E hh (tgt := 26) (by decide) dX11_parts_3 (fun hh => ?_) (fun hh => ?_)
  · refine rw_ldc E (v := (-1000001)) (List.mem_of_getElem? (i := 2) (by decide +kernel)) dX11_parts_26 ?_
    exact rw_iret E hrt hlk hh (by decide) (by decide) dX11_parts_28
  · refine rw_iload E (j0 := 5) rfl dX11_parts_6 ?_
    refine rw_ldc E (v := 999999) (List.mem_of_getElem? (i := 1) (by decide +kernel)) dX11_parts_8 ?_
    refine rw_icmp_gt E hh (tgt := 26) (by decide) dX11_parts_10 (fun hh => ?_) (fun hh => ?_)
    · refine rw_ldc E (v := (-1000001)) (List.mem_of_getElem? (i := 2) (by decide +kernel)) dX11_parts_26 ?_
      exact rw_iret E hrt hlk hh (by decide) (by decide) dX11_parts_28
    · refine rw_aload_n E (j0 := 0) rfl rfl dX11_parts_13 ?_
      refine rw_iload_n E (j0 := 1) rfl rfl dX11_parts_14 ?_
      refine rw_iload_n E (j0 := 2) rfl rfl dX11_parts_15 ?_
      refine rw_iload_n E (j0 := 3) rfl rfl dX11_parts_16 ?_
      refine rw_iload E (j0 := 4) rfl dX11_parts_17 ?_
      refine rw_iconst E (v := 1) (by decide) dX11_parts_19 ?_
      refine rw_cVi E (As := [.int l1, .int l2, .int l3, .int l4, .int 1]) hh (by decide) rfl (fun _ _ _ hq => c_X11_foretells l b0 G _ _ _ _ _ _ _ _ _ hq) (cwV 5 E.2.2.2.2.1 gX11_parts_X11_foretells rfl rfl rfl (by decide +kernel) ⟨Nat.le_of_ble_eq_true rfl, Nat.le_of_ble_eq_true rfl⟩) rfl rfl (by (try simp only [List.map_cons, List.map_nil, List.sum_cons, List.sum_nil, hrf_cat, cat_i, cat_l, cat_r]) <;> decide) ⟨Nat.le_of_ble_eq_true rfl, Nat.le_of_ble_eq_true rfl⟩ dX11_parts_20 (fun v2 S1 hh => ?_)
      refine rw_if_ne E hh (tgt := 29) (by decide) dX11_parts_23 (fun hh => ?_) (fun hh => ?_)
      · refine rw_aload_n E (j0 := 0) rfl rfl dX11_parts_29 ?_
        refine rw_getP E hh (C := RX11) (T := TX11) (N := 9) rfl (by decide) i_X11_parts_11 (by decide) rfl (List.mem_of_getElem? (i := 3) (by decide +kernel)) rfl dX11_parts_30 (fun v4 hh => ?_)
        refine rw_iload E (j0 := 5) rfl dX11_parts_33 ?_
        refine rw_cVi E (As := [.int l5]) hh (by decide) rfl (fun _ _ _ hq => c_X4_partingTicks l b0 G _ _ _ _ _ hq) (cwV 1 E.2.2.2.2.1 gX11_parts_X4_partingTicks rfl rfl rfl (by decide +kernel) ⟨Nat.le_of_ble_eq_true rfl, Nat.le_of_ble_eq_true rfl⟩) rfl rfl (by (try simp only [List.map_cons, List.map_nil, List.sum_cons, List.sum_nil, hrf_cat, cat_i, cat_l, cat_r]) <;> decide) ⟨Nat.le_of_ble_eq_true rfl, Nat.le_of_ble_eq_true rfl⟩ dX11_parts_35 (fun v6 S5 hh => ?_)
        exact rw_iret E hrt hlk hh (by decide) (by decide) dX11_parts_38
      · refine rw_ldc E (v := (-1000001)) (List.mem_of_getElem? (i := 2) (by decide +kernel)) dX11_parts_26 ?_
        exact rw_iret E hrt hlk hh (by decide) (by decide) dX11_parts_28

/-! HummingDisc.lamp(IIIII)I -/
abbrev rm_X11_lamp : Room := { frames := 6, cells := 0, slots := 0, locals := 130 }
theorem i_X11_lamp_11 : ∀ w ∈ wsX110, w ∈ wsX11_lamp := fun _ h => List.mem_cons_of_mem _ (List.mem_append_left _ (List.mem_append_left _ (List.mem_append_left _ (List.mem_append_left _ (List.mem_append_left _ (List.mem_append_left _ (List.mem_append_right _ (h))))))))
def s_X11_lamp (S : HS) (h : Nat) (l1 : Int32) (l2 : Int32) (l3 : Int32) (l4 : Int32) (l5 : Int32) : Option (Int32 × HS) := kO S ((some h)) 11 (fun a3 => kc (s_X11_foretells S a3 l1 l2 l3 l4 l5) (fun v2 S1 => if v2 = 0 then (some ((-1000001), S1)) else (kP S1 ((some h)) 11 4 (fun v4 => kO S1 v4 4 (fun a7 => kc (s_X4_greatestLamp S1 a7 ) (fun v6 S5 => some (v6, S5)))))))
set_option maxHeartbeats 4000000 in
set_option maxRecDepth 100000 in
theorem c_X11_lamp (l : Launch) (b0 : Nat) (G : hG) (S S1 : HS) (h : Nat) (l1 : Int32) (l2 : Int32) (l3 : Int32) (l4 : Int32) (l5 : Int32) (r : Int32) (hh : s_X11_lamp S h l1 l2 l3 l4 l5 = some (r, S1)) : MH l yX11_lamp wsX11_lamp rm_X11_lamp b0 G S [hrf b0 (some h), .int l1, .int l2, .int l3, .int l4, .int l5] (some (.int r)) S1 0 0 := by
  refine MH.ofW (cc := cX11_lamp) (maxL := 6) (ret := (some .int)) (own := RX11) (lv0 := [(0, hrf b0 ((some h))), (1, .int l1), (2, .int l2), (3, .int l3), (4, .int l4), (5, .int l5)]) (by decide) rfl rfl (Nat.le_of_ble_eq_true rfl) rfl ?_
  intro p e s m args below meth c E hrt hlk hnm
  have hh : (kO S ((some h)) 11 (fun a3 => kc (s_X11_foretells S a3 l1 l2 l3 l4 l5) (fun v2 S1 => if v2 = 0 then (some ((-1000001), S1)) else (kP S1 ((some h)) 11 4 (fun v4 => kO S1 v4 4 (fun a7 => kc (s_X4_greatestLamp S1 a7 ) (fun v6 S5 => some (v6, S5)))))))) = some (r, S1) := hh
  refine rw_aload_n E (j0 := 0) rfl rfl dX11_lamp_0 ?_
  refine rw_iload_n E (j0 := 1) rfl rfl dX11_lamp_1 ?_
  refine rw_iload_n E (j0 := 2) rfl rfl dX11_lamp_2 ?_
  refine rw_iload_n E (j0 := 3) rfl rfl dX11_lamp_3 ?_
  refine rw_iload E (j0 := 4) rfl dX11_lamp_4 ?_
  refine rw_iload E (j0 := 5) rfl dX11_lamp_6 ?_
  refine rw_cVi E (As := [.int l1, .int l2, .int l3, .int l4, .int l5]) hh (by decide) rfl (fun _ _ _ hq => c_X11_foretells l b0 G _ _ _ _ _ _ _ _ _ hq) (cwV 5 E.2.2.2.2.1 gX11_lamp_X11_foretells rfl rfl rfl (by decide +kernel) ⟨Nat.le_of_ble_eq_true rfl, Nat.le_of_ble_eq_true rfl⟩) rfl rfl (by (try simp only [List.map_cons, List.map_nil, List.sum_cons, List.sum_nil, hrf_cat, cat_i, cat_l, cat_r]) <;> decide) ⟨Nat.le_of_ble_eq_true rfl, Nat.le_of_ble_eq_true rfl⟩ dX11_lamp_8 (fun v2 S1 hh => ?_)
  refine rw_if_eq E hh (tgt := 24) (by decide) dX11_lamp_11 (fun hh => ?_) (fun hh => ?_)
  · refine rw_ldc E (v := (-1000001)) (List.mem_of_getElem? (i := 2) (by decide +kernel)) dX11_lamp_24 ?_
    exact rw_iret E hrt hlk hh (by decide) (by decide) dX11_lamp_26
  · refine rw_aload_n E (j0 := 0) rfl rfl dX11_lamp_14 ?_
    refine rw_getP E hh (C := RX11) (T := TX11) (N := 9) rfl (by decide) i_X11_lamp_11 (by decide) rfl (List.mem_of_getElem? (i := 1) (by decide +kernel)) rfl dX11_lamp_15 (fun v4 hh => ?_)
    refine rw_cVi E (As := []) hh (by decide) rfl (fun _ _ _ hq => c_X4_greatestLamp l b0 G _ _ _ _ hq) (cwV 0 E.2.2.2.2.1 gX11_lamp_X4_greatestLamp rfl rfl rfl (by decide +kernel) ⟨Nat.le_of_ble_eq_true rfl, Nat.le_of_ble_eq_true rfl⟩) rfl rfl (by (try simp only [List.map_cons, List.map_nil, List.sum_cons, List.sum_nil, hrf_cat, cat_i, cat_l, cat_r]) <;> decide) ⟨Nat.le_of_ble_eq_true rfl, Nat.le_of_ble_eq_true rfl⟩ dX11_lamp_18 (fun v6 S5 hh => ?_)
    refine rw_goto E (tgt := 26) (by decide) dX11_lamp_21 ?_
    exact rw_iret E hrt hlk hh (by decide) (by decide) dX11_lamp_26

/-! HummingDisc.wobble(II)I -/
abbrev rm_X11_wobble : Room := { frames := 1, cells := 0, slots := 0, locals := 23 }
def s_X11_wobble (S : HS) (h : Nat) (l1 : Int32) (l2 : Int32) : Option (Int32 × HS) := kO S ((some h)) 11 (fun a3 => kc (s_X11_discAt S a3 l1) (fun v2 S1 => if v2 = none then (some ((-1000001), S1)) else (if l2 < 1 then (some ((-1000001), S1)) else (if l2 ≤ 50 then (kO S1 v2 3 (fun a6 => kc (s_X3_greatestPaceOffBy S1 a6 l2) (fun v5 S4 => some (v5, S4)))) else (some ((-1000001), S1))))))
set_option maxHeartbeats 4000000 in
set_option maxRecDepth 100000 in
theorem c_X11_wobble (l : Launch) (b0 : Nat) (G : hG) (S S1 : HS) (h : Nat) (l1 : Int32) (l2 : Int32) (r : Int32) (hh : s_X11_wobble S h l1 l2 = some (r, S1)) : MH l yX11_wobble wsX11_wobble rm_X11_wobble b0 G S [hrf b0 (some h), .int l1, .int l2] (some (.int r)) S1 0 0 := by
  refine MH.ofW (cc := cX11_wobble) (maxL := 4) (ret := (some .int)) (own := RX11) (lv0 := [(0, hrf b0 ((some h))), (1, .int l1), (2, .int l2)]) (by decide) rfl rfl (Nat.le_of_ble_eq_true rfl) rfl ?_
  intro p e s m args below meth c E hrt hlk hnm
  have hh : (kO S ((some h)) 11 (fun a3 => kc (s_X11_discAt S a3 l1) (fun v2 S1 => if v2 = none then (some ((-1000001), S1)) else (if l2 < 1 then (some ((-1000001), S1)) else (if l2 ≤ 50 then (kO S1 v2 3 (fun a6 => kc (s_X3_greatestPaceOffBy S1 a6 l2) (fun v5 S4 => some (v5, S4)))) else (some ((-1000001), S1))))))) = some (r, S1) := hh
  refine rw_aload_n E (j0 := 0) rfl rfl dX11_wobble_0 ?_
  refine rw_iload_n E (j0 := 1) rfl rfl dX11_wobble_1 ?_
  refine rw_cVr E (As := [.int l1]) hh (by decide) rfl (fun _ _ _ hq => c_X11_discAt l b0 G _ _ _ _ _ hq) (cwV 1 E.2.2.2.2.1 gX11_wobble_X11_discAt rfl rfl rfl (by decide +kernel) ⟨Nat.le_of_ble_eq_true rfl, Nat.le_of_ble_eq_true rfl⟩) rfl rfl (by (try simp only [List.map_cons, List.map_nil, List.sum_cons, List.sum_nil, hrf_cat, cat_i, cat_l, cat_r]) <;> decide) ⟨Nat.le_of_ble_eq_true rfl, Nat.le_of_ble_eq_true rfl⟩ dX11_wobble_2 (fun v2 S1 hh => ?_)
  refine rw_astore_n E (lv2 := [(3, hrf b0 v2), (0, hrf b0 ((some h))), (1, .int l1), (2, .int l2)]) rfl (by decide) rfl dX11_wobble_5 ?_
  refine rw_aload_n E (j0 := 0) rfl rfl dX11_wobble_6 ?_
  refine rw_ifnull E hh (tgt := 21) (by decide) dX11_wobble_7 (fun hh => ?_) (fun hh => ?_)
  · refine rw_ldc E (v := (-1000001)) (List.mem_of_getElem? (i := 1) (by decide +kernel)) dX11_wobble_21 ?_
    exact rw_iret E hrt hlk hh (by decide) (by decide) dX11_wobble_23
  · refine rw_iload_n E (j0 := 3) rfl rfl dX11_wobble_10 ?_
    refine rw_iconst E (v := 1) (by decide) dX11_wobble_11 ?_
    refine rw_icmp_lt E hh (tgt := 21) (by decide) dX11_wobble_12 (fun hh => ?_) (fun hh => ?_)
    · refine rw_ldc E (v := (-1000001)) (List.mem_of_getElem? (i := 1) (by decide +kernel)) dX11_wobble_21 ?_
      exact rw_iret E hrt hlk hh (by decide) (by decide) dX11_wobble_23
    · refine rw_iload_n E (j0 := 3) rfl rfl dX11_wobble_15 ?_
      refine rw_bipush E (v := 50) (by decide) dX11_wobble_16 ?_
      refine rw_icmp_le E hh (tgt := 24) (by decide) dX11_wobble_18 (fun hh => ?_) (fun hh => ?_)
      · refine rw_aload_n E (j0 := 0) rfl rfl dX11_wobble_24 ?_
        refine rw_iload_n E (j0 := 3) rfl rfl dX11_wobble_25 ?_
        refine rw_cVi E (As := [.int l2]) hh (by decide) rfl (fun _ _ _ hq => c_X3_greatestPaceOffBy l b0 G _ _ _ _ _ hq) (cwV 1 E.2.2.2.2.1 gX11_wobble_X3_greatestPaceOffBy rfl rfl rfl (by decide +kernel) ⟨Nat.le_of_ble_eq_true rfl, Nat.le_of_ble_eq_true rfl⟩) rfl rfl (by (try simp only [List.map_cons, List.map_nil, List.sum_cons, List.sum_nil, hrf_cat, cat_i, cat_l, cat_r]) <;> decide) ⟨Nat.le_of_ble_eq_true rfl, Nat.le_of_ble_eq_true rfl⟩ dX11_wobble_26 (fun v5 S4 hh => ?_)
        exact rw_iret E hrt hlk hh (by decide) (by decide) dX11_wobble_29
      · refine rw_ldc E (v := (-1000001)) (List.mem_of_getElem? (i := 1) (by decide +kernel)) dX11_wobble_21 ?_
        exact rw_iret E hrt hlk hh (by decide) (by decide) dX11_wobble_23

/-! HummingDisc.sound(IIIII)I -/
abbrev rm_X11_sound : Room := { frames := 2, cells := 0, slots := 0, locals := 50 }
theorem i_X11_sound_3 : ∀ w ∈ wsX30, w ∈ wsX11_sound := fun _ h => List.mem_cons_of_mem _ (List.mem_append_left _ (List.mem_append_left _ (List.mem_append_left _ (List.mem_append_right _ (h)))))
theorem i_X11_sound_6 : ∀ w ∈ wsX60, w ∈ wsX11_sound := fun _ h => List.mem_cons_of_mem _ (List.mem_append_left _ (List.mem_append_left _ (List.mem_append_left _ (List.mem_append_left _ (List.mem_append_right _ (h))))))
def s_X11_sound_b126 (h : Nat) (S : HS) (k0 : Option Nat) (k1 : Int32) : Option (Int32 × HS) := kO S k0 11 (fun a3 => kc (s_X11_fine S a3 k1) (fun v2 S1 => some (v2, S1)))
set_option maxHeartbeats 4000000 in
set_option maxRecDepth 100000 in
theorem w_X11_sound_b126 {p : Program} {l : Launch} {e : Env} {s : State} {m : MethodId} {args : Array Value} {below : List Frame} {meth : Method} {c : Code} {b0 : Nat} {G : hG} {S1 : HS} {r : Int32} {h : Nat} {S : HS} {k0 : Option Nat} {k1 : Int32} (E : hE p s m args c b0 G cX11_sound RX11 9 wsX11_sound) (hrt : meth.sig.returnType = (some .int)) (hlk : meth.locks = false) (hh : s_X11_sound_b126 h S k0 k1 = some (r, S1)) : WH p l e rm_X11_sound s m args below meth c b0 G 9 0 0 (MQ below (hQ b0 G (some (.int r)) S1) args s 0 0 (hA b0)) S 126 [] [.int k1, hrf b0 k0] := by
  have hh : (kO S k0 11 (fun a3 => kc (s_X11_fine S a3 k1) (fun v2 S1 => some (v2, S1)))) = some (r, S1) := hh
  refine rw_cVi E (As := [.int k1]) hh (by decide) rfl (fun _ _ _ hq => c_X11_fine l b0 G _ _ _ _ _ hq) (cwV 1 E.2.2.2.2.1 gX11_sound_X11_fine rfl rfl rfl (by decide +kernel) ⟨Nat.le_of_ble_eq_true rfl, Nat.le_of_ble_eq_true rfl⟩) rfl rfl (by (try simp only [List.map_cons, List.map_nil, List.sum_cons, List.sum_nil, hrf_cat, cat_i, cat_l, cat_r]) <;> decide) ⟨Nat.le_of_ble_eq_true rfl, Nat.le_of_ble_eq_true rfl⟩ dX11_sound_126 (fun v2 S1 hh => ?_)
  exact rw_iret E hrt hlk hh (by decide) (by decide) dX11_sound_129
def s_X11_sound (S : HS) (h : Nat) (l1 : Int32) (l2 : Int32) (l3 : Int32) (l4 : Int32) (l5 : Int32) : Option (Int32 × HS) := kO S ((some h)) 11 (fun a3 => kc (s_X11_discAt S a3 l1) (fun v2 S1 => kO S1 ((some h)) 11 (fun a6 => kc (s_X11_rowAt S1 a6 l2) (fun v5 S4 => if v2 = none then (some ((-1000001), S4)) else (if v5 = none then (some ((-1000001), S4)) else (if l4 < 2 then (some ((-1000001), S4)) else (if 40 < l4 then (some ((-1000001), S4)) else (if l5 < 0 then (some ((-1000001), S4)) else (if l5 ≤ 1 then (kO S4 v5 6 (fun a9 => kc (s_X6_findingAt S4 a9 l3 l4) (fun v8 S7 => if v8 = 0 then (kO S7 v5 6 (fun a12 => kc (s_X6_areWithin S7 a12 l3 l4 32767) (fun v11 S10 => if v11 = 0 then (some ((-1000001), S10)) else (if l5 = 0 then (kP S10 v5 6 0 (fun v18 => kO S10 v2 3 (fun a21 => kc (s_X3_pullsHeard S10 a21 v18 l3 l4) (fun v20 S19 => s_X11_sound_b126 h S19 ((some h)) v20)))) else (kO S10 v5 6 (fun a15 => kc (s_X6_greatestItem S10 a15 l3 l4) (fun v14 S13 => kI S13 v2 3 2 (fun v16 => kdiv v14 v16 (fun v17 => s_X11_sound_b126 h S13 ((some h)) v17))))))))) else (kO S7 ((some h)) 11 (fun a24 => kc (s_X11_found S7 a24 v8) (fun v23 S22 => some (v23, S22))))))) else (some ((-1000001), S4)))))))))))
set_option maxHeartbeats 4000000 in
set_option maxRecDepth 100000 in
theorem c_X11_sound (l : Launch) (b0 : Nat) (G : hG) (S S1 : HS) (h : Nat) (l1 : Int32) (l2 : Int32) (l3 : Int32) (l4 : Int32) (l5 : Int32) (r : Int32) (hh : s_X11_sound S h l1 l2 l3 l4 l5 = some (r, S1)) : MH l yX11_sound wsX11_sound rm_X11_sound b0 G S [hrf b0 (some h), .int l1, .int l2, .int l3, .int l4, .int l5] (some (.int r)) S1 0 0 := by
  refine MH.ofW (cc := cX11_sound) (maxL := 9) (ret := (some .int)) (own := RX11) (lv0 := [(0, hrf b0 ((some h))), (1, .int l1), (2, .int l2), (3, .int l3), (4, .int l4), (5, .int l5)]) (by decide) rfl rfl (Nat.le_of_ble_eq_true rfl) rfl ?_
  intro p e s m args below meth c E hrt hlk hnm
  have hh : (kO S ((some h)) 11 (fun a3 => kc (s_X11_discAt S a3 l1) (fun v2 S1 => kO S1 ((some h)) 11 (fun a6 => kc (s_X11_rowAt S1 a6 l2) (fun v5 S4 => if v2 = none then (some ((-1000001), S4)) else (if v5 = none then (some ((-1000001), S4)) else (if l4 < 2 then (some ((-1000001), S4)) else (if 40 < l4 then (some ((-1000001), S4)) else (if l5 < 0 then (some ((-1000001), S4)) else (if l5 ≤ 1 then (kO S4 v5 6 (fun a9 => kc (s_X6_findingAt S4 a9 l3 l4) (fun v8 S7 => if v8 = 0 then (kO S7 v5 6 (fun a12 => kc (s_X6_areWithin S7 a12 l3 l4 32767) (fun v11 S10 => if v11 = 0 then (some ((-1000001), S10)) else (if l5 = 0 then (kP S10 v5 6 0 (fun v18 => kO S10 v2 3 (fun a21 => kc (s_X3_pullsHeard S10 a21 v18 l3 l4) (fun v20 S19 => s_X11_sound_b126 h S19 ((some h)) v20)))) else (kO S10 v5 6 (fun a15 => kc (s_X6_greatestItem S10 a15 l3 l4) (fun v14 S13 => kI S13 v2 3 2 (fun v16 => kdiv v14 v16 (fun v17 => s_X11_sound_b126 h S13 ((some h)) v17))))))))) else (kO S7 ((some h)) 11 (fun a24 => kc (s_X11_found S7 a24 v8) (fun v23 S22 => some (v23, S22))))))) else (some ((-1000001), S4)))))))))))) = some (r, S1) := hh
  refine rw_aload_n E (j0 := 0) rfl rfl dX11_sound_0 ?_
  refine rw_iload_n E (j0 := 1) rfl rfl dX11_sound_1 ?_
  refine rw_cVr E (As := [.int l1]) hh (by decide) rfl (fun _ _ _ hq => c_X11_discAt l b0 G _ _ _ _ _ hq) (cwV 1 E.2.2.2.2.1 gX11_sound_X11_discAt rfl rfl rfl (by decide +kernel) ⟨Nat.le_of_ble_eq_true rfl, Nat.le_of_ble_eq_true rfl⟩) rfl rfl (by (try simp only [List.map_cons, List.map_nil, List.sum_cons, List.sum_nil, hrf_cat, cat_i, cat_l, cat_r]) <;> decide) ⟨Nat.le_of_ble_eq_true rfl, Nat.le_of_ble_eq_true rfl⟩ dX11_sound_2 (fun v2 S1 hh => ?_)
  refine rw_astore E (lv2 := [(6, hrf b0 v2), (0, hrf b0 ((some h))), (1, .int l1), (2, .int l2), (3, .int l3), (4, .int l4), (5, .int l5)]) (by decide) rfl dX11_sound_5 ?_
  refine rw_aload_n E (j0 := 1) rfl rfl dX11_sound_7 ?_
  refine rw_iload_n E (j0 := 3) rfl rfl dX11_sound_8 ?_
  refine rw_cVr E (As := [.int l2]) hh (by decide) rfl (fun _ _ _ hq => c_X11_rowAt l b0 G _ _ _ _ _ hq) (cwV 1 E.2.2.2.2.1 gX11_sound_X11_rowAt rfl rfl rfl (by decide +kernel) ⟨Nat.le_of_ble_eq_true rfl, Nat.le_of_ble_eq_true rfl⟩) rfl rfl (by (try simp only [List.map_cons, List.map_nil, List.sum_cons, List.sum_nil, hrf_cat, cat_i, cat_l, cat_r]) <;> decide) ⟨Nat.le_of_ble_eq_true rfl, Nat.le_of_ble_eq_true rfl⟩ dX11_sound_9 (fun v5 S4 hh => ?_)
  refine rw_astore E (i := 7) (lv2 := [(7, hrf b0 v5), (6, hrf b0 v2), (0, hrf b0 ((some h))), (1, .int l1), (2, .int l2), (3, .int l3), (4, .int l4), (5, .int l5)]) (by decide) (by simp [lvs, lvs2, hrf_cat]) dX11_sound_12 ?_
  refine rw_aload E (j0 := 1) rfl dX11_sound_14 ?_
  refine rw_ifnull E hh (tgt := 48) (by decide) dX11_sound_16 (fun hh => ?_) (fun hh => ?_)
  · refine rw_ldc E (v := (-1000001)) (List.mem_of_getElem? (i := 1) (by decide +kernel)) dX11_sound_48 ?_
    exact rw_iret E hrt hlk hh (by decide) (by decide) dX11_sound_50
  · refine rw_aload E (j0 := 0) rfl dX11_sound_19 ?_
    refine rw_ifnull E hh (tgt := 48) (by decide) dX11_sound_21 (fun hh => ?_) (fun hh => ?_)
    · refine rw_ldc E (v := (-1000001)) (List.mem_of_getElem? (i := 1) (by decide +kernel)) dX11_sound_48 ?_
      exact rw_iret E hrt hlk hh (by decide) (by decide) dX11_sound_50
    · refine rw_iload E (j0 := 6) rfl dX11_sound_24 ?_
      refine rw_iconst E (v := 2) (by decide) dX11_sound_26 ?_
      refine rw_icmp_lt E hh (tgt := 48) (by decide) dX11_sound_27 (fun hh => ?_) (fun hh => ?_)
      · refine rw_ldc E (v := (-1000001)) (List.mem_of_getElem? (i := 1) (by decide +kernel)) dX11_sound_48 ?_
        exact rw_iret E hrt hlk hh (by decide) (by decide) dX11_sound_50
      · refine rw_iload E (j0 := 6) rfl dX11_sound_30 ?_
        refine rw_bipush E (v := 40) (by decide) dX11_sound_32 ?_
        refine rw_icmp_gt E hh (tgt := 48) (by decide) dX11_sound_34 (fun hh => ?_) (fun hh => ?_)
        · refine rw_ldc E (v := (-1000001)) (List.mem_of_getElem? (i := 1) (by decide +kernel)) dX11_sound_48 ?_
          exact rw_iret E hrt hlk hh (by decide) (by decide) dX11_sound_50
        · refine rw_iload E (j0 := 7) rfl dX11_sound_37 ?_
          refine rw_if_lt E hh (tgt := 48) (by decide) dX11_sound_39 (fun hh => ?_) (fun hh => ?_)
          · refine rw_ldc E (v := (-1000001)) (List.mem_of_getElem? (i := 1) (by decide +kernel)) dX11_sound_48 ?_
            exact rw_iret E hrt hlk hh (by decide) (by decide) dX11_sound_50
          · refine rw_iload E (j0 := 7) rfl dX11_sound_42 ?_
            refine rw_iconst E (v := 1) (by decide) dX11_sound_44 ?_
            refine rw_icmp_le E hh (tgt := 51) (by decide) dX11_sound_45 (fun hh => ?_) (fun hh => ?_)
            · refine rw_aload E (j0 := 0) rfl dX11_sound_51 ?_
              refine rw_iload_n E (j0 := 5) rfl rfl dX11_sound_53 ?_
              refine rw_iload E (j0 := 6) rfl dX11_sound_54 ?_
              refine rw_cVi E (As := [.int l3, .int l4]) hh (by decide) rfl (fun _ _ _ hq => c_X6_findingAt l b0 G _ _ _ _ _ _ hq) (cwV 2 E.2.2.2.2.1 gX11_sound_X6_findingAt rfl rfl rfl (by decide +kernel) ⟨Nat.le_of_ble_eq_true rfl, Nat.le_of_ble_eq_true rfl⟩) rfl rfl (by (try simp only [List.map_cons, List.map_nil, List.sum_cons, List.sum_nil, hrf_cat, cat_i, cat_l, cat_r]) <;> decide) ⟨Nat.le_of_ble_eq_true rfl, Nat.le_of_ble_eq_true rfl⟩ dX11_sound_56 (fun v8 S7 hh => ?_)
              refine rw_istore E (i := 8) (lv2 := [(8, .int v8), (7, hrf b0 v5), (6, hrf b0 v2), (0, hrf b0 ((some h))), (1, .int l1), (2, .int l2), (3, .int l3), (4, .int l4), (5, .int l5)]) (by decide) (by simp [lvs, lvs2, hrf_cat]) dX11_sound_59 ?_
              refine rw_iload E (j0 := 0) rfl dX11_sound_61 ?_
              refine rw_if_eq E hh (tgt := 73) (by decide) dX11_sound_63 (fun hh => ?_) (fun hh => ?_)
              · refine rw_aload E (j0 := 1) rfl dX11_sound_73 ?_
                refine rw_iload_n E (j0 := 6) rfl rfl dX11_sound_75 ?_
                refine rw_iload E (j0 := 7) rfl dX11_sound_76 ?_
                refine rw_sipush E (v := 32767) (by decide) dX11_sound_78 ?_
                refine rw_cVi E (As := [.int l3, .int l4, .int 32767]) hh (by decide) rfl (fun _ _ _ hq => c_X6_areWithin l b0 G _ _ _ _ _ _ _ hq) (cwV 3 E.2.2.2.2.1 gX11_sound_X6_areWithin rfl rfl rfl (by decide +kernel) ⟨Nat.le_of_ble_eq_true rfl, Nat.le_of_ble_eq_true rfl⟩) rfl rfl (by (try simp only [List.map_cons, List.map_nil, List.sum_cons, List.sum_nil, hrf_cat, cat_i, cat_l, cat_r]) <;> decide) ⟨Nat.le_of_ble_eq_true rfl, Nat.le_of_ble_eq_true rfl⟩ dX11_sound_81 (fun v11 S10 hh => ?_)
                refine rw_if_ne E hh (tgt := 90) (by decide) dX11_sound_84 (fun hh => ?_) (fun hh => ?_)
                · refine rw_aload_n E (j0 := 3) rfl rfl dX11_sound_90 ?_
                  refine rw_iload E (j0 := 8) rfl dX11_sound_91 ?_
                  refine rw_if_ne E hh (tgt := 112) (by decide) dX11_sound_93 (fun hh => ?_) (fun hh => ?_)
                  · refine rw_aload E (j0 := 1) rfl dX11_sound_112 ?_
                    refine rw_iload_n E (j0 := 6) rfl rfl dX11_sound_114 ?_
                    refine rw_iload E (j0 := 7) rfl dX11_sound_115 ?_
                    refine rw_cVi E (As := [.int l3, .int l4]) hh (by decide) rfl (fun _ _ _ hq => c_X6_greatestItem l b0 G _ _ _ _ _ _ hq) (cwV 2 E.2.2.2.2.1 gX11_sound_X6_greatestItem rfl rfl rfl (by decide +kernel) ⟨Nat.le_of_ble_eq_true rfl, Nat.le_of_ble_eq_true rfl⟩) rfl rfl (by (try simp only [List.map_cons, List.map_nil, List.sum_cons, List.sum_nil, hrf_cat, cat_i, cat_l, cat_r]) <;> decide) ⟨Nat.le_of_ble_eq_true rfl, Nat.le_of_ble_eq_true rfl⟩ dX11_sound_117 (fun v14 S13 hh => ?_)
                    refine rw_aload E (j0 := 2) rfl dX11_sound_120 ?_
                    refine rw_getI E hh (C := RX3) (T := TX3) (N := 3) rfl (by decide) i_X11_sound_3 (by decide) rfl (List.mem_of_getElem? (i := 3) (by decide +kernel)) rfl dX11_sound_122 (fun v16 hh => ?_)
                    refine rw_idiv E hh dX11_sound_125 (fun v17 hh => ?_)
                    refine WH.pick [] rfl ?_
                    exact w_X11_sound_b126 E hrt hlk hh
                  · refine rw_aload E (j0 := 2) rfl dX11_sound_96 ?_
                    refine rw_aload E (j0 := 1) rfl dX11_sound_98 ?_
                    refine rw_getP E hh (C := RX6) (T := TX6) (N := 4) rfl (by decide) i_X11_sound_6 (by decide) rfl (List.mem_of_getElem? (i := 2) (by decide +kernel)) rfl dX11_sound_100 (fun v18 hh => ?_)
                    refine rw_iload_n E (j0 := 6) rfl rfl dX11_sound_103 ?_
                    refine rw_iload E (j0 := 7) rfl dX11_sound_104 ?_
                    refine rw_cVi E (As := [hrf b0 v18, .int l3, .int l4]) hh (by decide) rfl (fun _ _ _ hq => c_X3_pullsHeard l b0 G _ _ _ _ _ _ _ hq) (cwV 3 E.2.2.2.2.1 gX11_sound_X3_pullsHeard rfl rfl rfl (by decide +kernel) ⟨Nat.le_of_ble_eq_true rfl, Nat.le_of_ble_eq_true rfl⟩) rfl rfl (by (try simp only [List.map_cons, List.map_nil, List.sum_cons, List.sum_nil, hrf_cat, cat_i, cat_l, cat_r]) <;> decide) ⟨Nat.le_of_ble_eq_true rfl, Nat.le_of_ble_eq_true rfl⟩ dX11_sound_106 (fun v20 S19 hh => ?_)
                    refine rw_goto E (tgt := 126) (by decide) dX11_sound_109 ?_
                    refine WH.pick [] rfl ?_
                    exact w_X11_sound_b126 E hrt hlk hh
                · refine rw_ldc E (v := (-1000001)) (List.mem_of_getElem? (i := 1) (by decide +kernel)) dX11_sound_87 ?_
                  exact rw_iret E hrt hlk hh (by decide) (by decide) dX11_sound_89
              · refine rw_aload_n E (j0 := 3) rfl rfl dX11_sound_66 ?_
                refine rw_iload E (j0 := 0) rfl dX11_sound_67 ?_
                refine rw_cVi E (As := [.int v8]) hh (by decide) rfl (fun _ _ _ hq => c_X11_found l b0 G _ _ _ _ _ hq) (cwV 1 E.2.2.2.2.1 gX11_sound_X11_found rfl rfl rfl (by decide +kernel) ⟨Nat.le_of_ble_eq_true rfl, Nat.le_of_ble_eq_true rfl⟩) rfl rfl (by (try simp only [List.map_cons, List.map_nil, List.sum_cons, List.sum_nil, hrf_cat, cat_i, cat_l, cat_r]) <;> decide) ⟨Nat.le_of_ble_eq_true rfl, Nat.le_of_ble_eq_true rfl⟩ dX11_sound_69 (fun v23 S22 hh => ?_)
                exact rw_iret E hrt hlk hh (by decide) (by decide) dX11_sound_72
            · refine rw_ldc E (v := (-1000001)) (List.mem_of_getElem? (i := 1) (by decide +kernel)) dX11_sound_48 ?_
              exact rw_iret E hrt hlk hh (by decide) (by decide) dX11_sound_50

/-! HummingDisc.tune(IIIIII)I -/
abbrev rm_X11_tune : Room := { frames := 6, cells := 0, slots := 0, locals := 141 }
theorem i_X11_tune_4 : ∀ w ∈ wsX40, w ∈ wsX11_tune := fun _ h => List.mem_cons_of_mem _ (List.mem_append_left _ (List.mem_append_left _ (List.mem_append_left _ (List.mem_append_left _ (List.mem_append_left _ (List.mem_append_right _ (h)))))))
theorem i_X11_tune_6 : ∀ w ∈ wsX60, w ∈ wsX11_tune := fun _ h => List.mem_cons_of_mem _ (List.mem_append_left _ (List.mem_append_left _ (List.mem_append_left _ (List.mem_append_left _ (List.mem_append_left _ (List.mem_append_left _ (List.mem_append_right _ (h))))))))
theorem i_X11_tune_11 : ∀ w ∈ wsX110, w ∈ wsX11_tune := fun _ h => List.mem_cons_of_mem _ (List.mem_append_left _ (List.mem_append_left _ (List.mem_append_left _ (List.mem_append_left _ (List.mem_append_left _ (List.mem_append_left _ (List.mem_append_left _ (List.mem_append_right _ (h)))))))))
def s_X11_tune (S : HS) (h : Nat) (l1 : Int32) (l2 : Int32) (l3 : Int32) (l4 : Int32) (l5 : Int32) (l6 : Int32) : Option (Int32 × HS) := kO S ((some h)) 11 (fun a3 => kc (s_X11_rowAt S a3 l4) (fun v2 S1 => if v2 = none then (some ((-1000001), S1)) else (if l6 < 1 then (some ((-1000001), S1)) else (if 3 < l6 then (some ((-1000001), S1)) else (kO S1 ((some h)) 11 (fun a6 => kc (s_X11_foretells S1 a6 l1 l2 l3 0 1) (fun v5 S4 => if v5 = 0 then (some ((-1000001), S4)) else (kO S4 v2 6 (fun a9 => kc (s_X6_findingAt S4 a9 l5 l6) (fun v8 S7 => if v8 = 0 then (kO S7 v2 6 (fun a12 => kc (s_X6_areWithin S7 a12 l5 l6 32767) (fun v11 S10 => if v11 = 0 then (some ((-1000001), S10)) else (kP S10 ((some h)) 11 4 (fun v13 => kP S10 v2 6 0 (fun v14 => kO S10 v13 4 (fun a17 => kc (s_X4_forcesFor S10 a17 v14 l5 l6) (fun v16 S15 => kwI S15 ((some h)) 11 8 v16 (fun S18 => kP S18 ((some h)) 11 4 (fun v19 => kI S18 v19 4 8 (fun v20 => kO S18 ((some h)) 11 (fun a23 => kc (s_X11_fine S18 a23 v20) (fun v22 S21 => some (v22, S21)))))))))))))) else (kO S7 ((some h)) 11 (fun a26 => kc (s_X11_found S7 a26 v8) (fun v25 S24 => some (v25, S24))))))))))))))
set_option maxHeartbeats 4000000 in
set_option maxRecDepth 100000 in
theorem c_X11_tune (l : Launch) (b0 : Nat) (G : hG) (S S1 : HS) (h : Nat) (l1 : Int32) (l2 : Int32) (l3 : Int32) (l4 : Int32) (l5 : Int32) (l6 : Int32) (r : Int32) (hh : s_X11_tune S h l1 l2 l3 l4 l5 l6 = some (r, S1)) : MH l yX11_tune wsX11_tune rm_X11_tune b0 G S [hrf b0 (some h), .int l1, .int l2, .int l3, .int l4, .int l5, .int l6] (some (.int r)) S1 0 0 := by
  refine MH.ofW (cc := cX11_tune) (maxL := 9) (ret := (some .int)) (own := RX11) (lv0 := [(0, hrf b0 ((some h))), (1, .int l1), (2, .int l2), (3, .int l3), (4, .int l4), (5, .int l5), (6, .int l6)]) (by decide) rfl rfl (Nat.le_of_ble_eq_true rfl) rfl ?_
  intro p e s m args below meth c E hrt hlk hnm
  have hh : (kO S ((some h)) 11 (fun a3 => kc (s_X11_rowAt S a3 l4) (fun v2 S1 => if v2 = none then (some ((-1000001), S1)) else (if l6 < 1 then (some ((-1000001), S1)) else (if 3 < l6 then (some ((-1000001), S1)) else (kO S1 ((some h)) 11 (fun a6 => kc (s_X11_foretells S1 a6 l1 l2 l3 0 1) (fun v5 S4 => if v5 = 0 then (some ((-1000001), S4)) else (kO S4 v2 6 (fun a9 => kc (s_X6_findingAt S4 a9 l5 l6) (fun v8 S7 => if v8 = 0 then (kO S7 v2 6 (fun a12 => kc (s_X6_areWithin S7 a12 l5 l6 32767) (fun v11 S10 => if v11 = 0 then (some ((-1000001), S10)) else (kP S10 ((some h)) 11 4 (fun v13 => kP S10 v2 6 0 (fun v14 => kO S10 v13 4 (fun a17 => kc (s_X4_forcesFor S10 a17 v14 l5 l6) (fun v16 S15 => kwI S15 ((some h)) 11 8 v16 (fun S18 => kP S18 ((some h)) 11 4 (fun v19 => kI S18 v19 4 8 (fun v20 => kO S18 ((some h)) 11 (fun a23 => kc (s_X11_fine S18 a23 v20) (fun v22 S21 => some (v22, S21)))))))))))))) else (kO S7 ((some h)) 11 (fun a26 => kc (s_X11_found S7 a26 v8) (fun v25 S24 => some (v25, S24))))))))))))))) = some (r, S1) := hh
  refine rw_aload_n E (j0 := 0) rfl rfl dX11_tune_0 ?_
  refine rw_iload E (j0 := 4) rfl dX11_tune_1 ?_
  refine rw_cVr E (As := [.int l4]) hh (by decide) rfl (fun _ _ _ hq => c_X11_rowAt l b0 G _ _ _ _ _ hq) (cwV 1 E.2.2.2.2.1 gX11_tune_X11_rowAt rfl rfl rfl (by decide +kernel) ⟨Nat.le_of_ble_eq_true rfl, Nat.le_of_ble_eq_true rfl⟩) rfl rfl (by (try simp only [List.map_cons, List.map_nil, List.sum_cons, List.sum_nil, hrf_cat, cat_i, cat_l, cat_r]) <;> decide) ⟨Nat.le_of_ble_eq_true rfl, Nat.le_of_ble_eq_true rfl⟩ dX11_tune_3 (fun v2 S1 hh => ?_)
  refine rw_astore E (lv2 := [(7, hrf b0 v2), (0, hrf b0 ((some h))), (1, .int l1), (2, .int l2), (3, .int l3), (4, .int l4), (5, .int l5), (6, .int l6)]) (by decide) rfl dX11_tune_6 ?_
  refine rw_aload E (j0 := 0) rfl dX11_tune_8 ?_
  refine rw_ifnull E hh (tgt := 37) (by decide) dX11_tune_10 (fun hh => ?_) (fun hh => ?_)
  · refine rw_ldc E (v := (-1000001)) (List.mem_of_getElem? (i := 1) (by decide +kernel)) dX11_tune_37 ?_
    exact rw_iret E hrt hlk hh (by decide) (by decide) dX11_tune_39
  · refine rw_iload E (j0 := 7) rfl dX11_tune_13 ?_
    refine rw_iconst E (v := 1) (by decide) dX11_tune_15 ?_
    refine rw_icmp_lt E hh (tgt := 37) (by decide) dX11_tune_16 (fun hh => ?_) (fun hh => ?_)
    · refine rw_ldc E (v := (-1000001)) (List.mem_of_getElem? (i := 1) (by decide +kernel)) dX11_tune_37 ?_
      exact rw_iret E hrt hlk hh (by decide) (by decide) dX11_tune_39
    · refine rw_iload E (j0 := 7) rfl dX11_tune_19 ?_
      refine rw_iconst E (v := 3) (by decide) dX11_tune_21 ?_
      refine rw_icmp_gt E hh (tgt := 37) (by decide) dX11_tune_22 (fun hh => ?_) (fun hh => ?_)
      · refine rw_ldc E (v := (-1000001)) (List.mem_of_getElem? (i := 1) (by decide +kernel)) dX11_tune_37 ?_
        exact rw_iret E hrt hlk hh (by decide) (by decide) dX11_tune_39
      · refine rw_aload_n E (j0 := 1) rfl rfl dX11_tune_25 ?_
        refine rw_iload_n E (j0 := 2) rfl rfl dX11_tune_26 ?_
        refine rw_iload_n E (j0 := 3) rfl rfl dX11_tune_27 ?_
        refine rw_iload_n E (j0 := 4) rfl rfl dX11_tune_28 ?_
        refine rw_iconst E (v := 0) (by decide) dX11_tune_29 ?_
        refine rw_iconst E (v := 1) (by decide) dX11_tune_30 ?_
        refine rw_cVi E (As := [.int l1, .int l2, .int l3, .int 0, .int 1]) hh (by decide) rfl (fun _ _ _ hq => c_X11_foretells l b0 G _ _ _ _ _ _ _ _ _ hq) (cwV 5 E.2.2.2.2.1 gX11_tune_X11_foretells rfl rfl rfl (by decide +kernel) ⟨Nat.le_of_ble_eq_true rfl, Nat.le_of_ble_eq_true rfl⟩) rfl rfl (by (try simp only [List.map_cons, List.map_nil, List.sum_cons, List.sum_nil, hrf_cat, cat_i, cat_l, cat_r]) <;> decide) ⟨Nat.le_of_ble_eq_true rfl, Nat.le_of_ble_eq_true rfl⟩ dX11_tune_31 (fun v5 S4 hh => ?_)
        refine rw_if_ne E hh (tgt := 40) (by decide) dX11_tune_34 (fun hh => ?_) (fun hh => ?_)
        · refine rw_aload E (j0 := 0) rfl dX11_tune_40 ?_
          refine rw_iload E (j0 := 6) rfl dX11_tune_42 ?_
          refine rw_iload E (j0 := 7) rfl dX11_tune_44 ?_
          refine rw_cVi E (As := [.int l5, .int l6]) hh (by decide) rfl (fun _ _ _ hq => c_X6_findingAt l b0 G _ _ _ _ _ _ hq) (cwV 2 E.2.2.2.2.1 gX11_tune_X6_findingAt rfl rfl rfl (by decide +kernel) ⟨Nat.le_of_ble_eq_true rfl, Nat.le_of_ble_eq_true rfl⟩) rfl rfl (by (try simp only [List.map_cons, List.map_nil, List.sum_cons, List.sum_nil, hrf_cat, cat_i, cat_l, cat_r]) <;> decide) ⟨Nat.le_of_ble_eq_true rfl, Nat.le_of_ble_eq_true rfl⟩ dX11_tune_46 (fun v8 S7 hh => ?_)
          refine rw_istore E (i := 8) (lv2 := [(8, .int v8), (7, hrf b0 v2), (0, hrf b0 ((some h))), (1, .int l1), (2, .int l2), (3, .int l3), (4, .int l4), (5, .int l5), (6, .int l6)]) (by decide) (by simp [lvs, lvs2, hrf_cat]) dX11_tune_49 ?_
          refine rw_iload E (j0 := 0) rfl dX11_tune_51 ?_
          refine rw_if_eq E hh (tgt := 63) (by decide) dX11_tune_53 (fun hh => ?_) (fun hh => ?_)
          · refine rw_aload E (j0 := 1) rfl dX11_tune_63 ?_
            refine rw_iload E (j0 := 7) rfl dX11_tune_65 ?_
            refine rw_iload E (j0 := 8) rfl dX11_tune_67 ?_
            refine rw_sipush E (v := 32767) (by decide) dX11_tune_69 ?_
            refine rw_cVi E (As := [.int l5, .int l6, .int 32767]) hh (by decide) rfl (fun _ _ _ hq => c_X6_areWithin l b0 G _ _ _ _ _ _ _ hq) (cwV 3 E.2.2.2.2.1 gX11_tune_X6_areWithin rfl rfl rfl (by decide +kernel) ⟨Nat.le_of_ble_eq_true rfl, Nat.le_of_ble_eq_true rfl⟩) rfl rfl (by (try simp only [List.map_cons, List.map_nil, List.sum_cons, List.sum_nil, hrf_cat, cat_i, cat_l, cat_r]) <;> decide) ⟨Nat.le_of_ble_eq_true rfl, Nat.le_of_ble_eq_true rfl⟩ dX11_tune_72 (fun v11 S10 hh => ?_)
            refine rw_if_ne E hh (tgt := 81) (by decide) dX11_tune_75 (fun hh => ?_) (fun hh => ?_)
            · refine rw_aload_n E (j0 := 2) rfl rfl dX11_tune_81 ?_
              refine rw_aload_n E (j0 := 2) rfl rfl dX11_tune_82 ?_
              refine rw_getP E hh (C := RX11) (T := TX11) (N := 9) rfl (by decide) i_X11_tune_11 (by decide) rfl (List.mem_of_getElem? (i := 2) (by decide +kernel)) rfl dX11_tune_83 (fun v13 hh => ?_)
              refine rw_aload E (j0 := 1) rfl dX11_tune_86 ?_
              refine rw_getP E hh (C := RX6) (T := TX6) (N := 4) rfl (by decide) i_X11_tune_6 (by decide) rfl (List.mem_of_getElem? (i := 3) (by decide +kernel)) rfl dX11_tune_88 (fun v14 hh => ?_)
              refine rw_iload E (j0 := 7) rfl dX11_tune_91 ?_
              refine rw_iload E (j0 := 8) rfl dX11_tune_93 ?_
              refine rw_cVi E (As := [hrf b0 v14, .int l5, .int l6]) hh (by decide) rfl (fun _ _ _ hq => c_X4_forcesFor l b0 G _ _ _ _ _ _ _ hq) (cwV 3 E.2.2.2.2.1 gX11_tune_X4_forcesFor rfl rfl rfl (by decide +kernel) ⟨Nat.le_of_ble_eq_true rfl, Nat.le_of_ble_eq_true rfl⟩) rfl rfl (by (try simp only [List.map_cons, List.map_nil, List.sum_cons, List.sum_nil, hrf_cat, cat_i, cat_l, cat_r]) <;> decide) ⟨Nat.le_of_ble_eq_true rfl, Nat.le_of_ble_eq_true rfl⟩ dX11_tune_95 (fun v16 S15 hh => ?_)
              refine rw_putI E hh (C := RX11) (T := TX11) (N := 9) (ty0 := tyX11) rfl tyX11_ok nmX11 (by decide) i_X11_tune_11 (by decide) rfl (List.mem_of_getElem? (i := 4) (by decide +kernel)) rfl (Or.inl rfl) rfl dX11_tune_98 (fun S18 hh => ?_)
              refine rw_aload_n E (j0 := 2) rfl rfl dX11_tune_101 ?_
              refine rw_aload_n E (j0 := 2) rfl rfl dX11_tune_102 ?_
              refine rw_getP E hh (C := RX11) (T := TX11) (N := 9) rfl (by decide) i_X11_tune_11 (by decide) rfl (List.mem_of_getElem? (i := 2) (by decide +kernel)) rfl dX11_tune_103 (fun v19 hh => ?_)
              refine rw_getI E hh (C := RX4) (T := TX4) (N := 9) rfl (by decide) i_X11_tune_4 (by decide) rfl (List.mem_of_getElem? (i := 5) (by decide +kernel)) rfl dX11_tune_106 (fun v20 hh => ?_)
              refine rw_cVi E (As := [.int v20]) hh (by decide) rfl (fun _ _ _ hq => c_X11_fine l b0 G _ _ _ _ _ hq) (cwV 1 E.2.2.2.2.1 gX11_tune_X11_fine rfl rfl rfl (by decide +kernel) ⟨Nat.le_of_ble_eq_true rfl, Nat.le_of_ble_eq_true rfl⟩) rfl rfl (by (try simp only [List.map_cons, List.map_nil, List.sum_cons, List.sum_nil, hrf_cat, cat_i, cat_l, cat_r]) <;> decide) ⟨Nat.le_of_ble_eq_true rfl, Nat.le_of_ble_eq_true rfl⟩ dX11_tune_109 (fun v22 S21 hh => ?_)
              exact rw_iret E hrt hlk hh (by decide) (by decide) dX11_tune_112
            · refine rw_ldc E (v := (-1000001)) (List.mem_of_getElem? (i := 1) (by decide +kernel)) dX11_tune_78 ?_
              exact rw_iret E hrt hlk hh (by decide) (by decide) dX11_tune_80
          · refine rw_aload_n E (j0 := 2) rfl rfl dX11_tune_56 ?_
            refine rw_iload E (j0 := 0) rfl dX11_tune_57 ?_
            refine rw_cVi E (As := [.int v8]) hh (by decide) rfl (fun _ _ _ hq => c_X11_found l b0 G _ _ _ _ _ hq) (cwV 1 E.2.2.2.2.1 gX11_tune_X11_found rfl rfl rfl (by decide +kernel) ⟨Nat.le_of_ble_eq_true rfl, Nat.le_of_ble_eq_true rfl⟩) rfl rfl (by (try simp only [List.map_cons, List.map_nil, List.sum_cons, List.sum_nil, hrf_cat, cat_i, cat_l, cat_r]) <;> decide) ⟨Nat.le_of_ble_eq_true rfl, Nat.le_of_ble_eq_true rfl⟩ dX11_tune_59 (fun v25 S24 hh => ?_)
            exact rw_iret E hrt hlk hh (by decide) (by decide) dX11_tune_62
        · refine rw_ldc E (v := (-1000001)) (List.mem_of_getElem? (i := 1) (by decide +kernel)) dX11_tune_37 ?_
          exact rw_iret E hrt hlk hh (by decide) (by decide) dX11_tune_39

/-! HummingDisc.forces()I -/
abbrev rm_X11_forces : Room := { frames := 0, cells := 0, slots := 0, locals := 0 }
theorem i_X11_forces_11 : ∀ w ∈ wsX110, w ∈ wsX11_forces := fun _ h => List.mem_cons_of_mem _ (List.mem_append_right _ (h))
def s_X11_forces (S : HS) (h : Nat) : Option (Int32 × HS) := kI S ((some h)) 11 8 (fun v1 => some (v1, S))
set_option maxHeartbeats 4000000 in
set_option maxRecDepth 100000 in
theorem c_X11_forces (l : Launch) (b0 : Nat) (G : hG) (S S1 : HS) (h : Nat) (r : Int32) (hh : s_X11_forces S h  = some (r, S1)) : MH l yX11_forces wsX11_forces rm_X11_forces b0 G S [hrf b0 (some h)] (some (.int r)) S1 0 0 := by
  refine MH.ofW (cc := cX11_forces) (maxL := 1) (ret := (some .int)) (own := RX11) (lv0 := [(0, hrf b0 ((some h)))]) (by decide) rfl rfl (Nat.le_of_ble_eq_true rfl) rfl ?_
  intro p e s m args below meth c E hrt hlk hnm
  have hh : (kI S ((some h)) 11 8 (fun v1 => some (v1, S))) = some (r, S1) := hh
  refine rw_aload_n E (j0 := 0) rfl rfl dX11_forces_0 ?_
  refine rw_getI E hh (C := RX11) (T := TX11) (N := 9) rfl (by decide) i_X11_forces_11 (by decide) rfl (List.mem_of_getElem? (i := 1) (by decide +kernel)) rfl dX11_forces_1 (fun v1 hh => ?_)
  exact rw_iret E hrt hlk hh (by decide) (by decide) dX11_forces_4

/-! HummingDisc.image(I)I -/
abbrev rm_X11_image : Room := { frames := 2, cells := 0, slots := 0, locals := 42 }
theorem i_X11_image_9 : ∀ w ∈ wsX90, w ∈ wsX11_image := fun _ h => List.mem_cons_of_mem _ (List.mem_append_left _ (List.mem_append_right _ (h)))
theorem i_X11_image_11 : ∀ w ∈ wsX110, w ∈ wsX11_image := fun _ h => List.mem_cons_of_mem _ (List.mem_append_left _ (List.mem_append_left _ (List.mem_append_right _ (h))))
def s_X11_image (S : HS) (h : Nat) (l1 : Int32) : Option (Int32 × HS) := if l1 < 0 then (some ((-1000001), S)) else (if l1 < 2 then (kP S ((some h)) 11 2 (fun v1 => kP S v1 9 1 (fun v2 => if v2 = none then (some ((-1000002), S)) else (kP S ((some h)) 11 3 (fun v3 => kAP S v3 21 l1 (fun v4 => kP S ((some h)) 11 2 (fun v5 => kO S v4 9 (fun a7 => kcv (s_X9_become S a7 v5) (fun S6 => some (1, S6)))))))))) else (some ((-1000001), S)))
set_option maxHeartbeats 4000000 in
set_option maxRecDepth 100000 in
theorem c_X11_image (l : Launch) (b0 : Nat) (G : hG) (S S1 : HS) (h : Nat) (l1 : Int32) (r : Int32) (hh : s_X11_image S h l1 = some (r, S1)) : MH l yX11_image wsX11_image rm_X11_image b0 G S [hrf b0 (some h), .int l1] (some (.int r)) S1 0 0 := by
  refine MH.ofW (cc := cX11_image) (maxL := 2) (ret := (some .int)) (own := RX11) (lv0 := [(0, hrf b0 ((some h))), (1, .int l1)]) (by decide) rfl rfl (Nat.le_of_ble_eq_true rfl) rfl ?_
  intro p e s m args below meth c E hrt hlk hnm
  have hh : (if l1 < 0 then (some ((-1000001), S)) else (if l1 < 2 then (kP S ((some h)) 11 2 (fun v1 => kP S v1 9 1 (fun v2 => if v2 = none then (some ((-1000002), S)) else (kP S ((some h)) 11 3 (fun v3 => kAP S v3 21 l1 (fun v4 => kP S ((some h)) 11 2 (fun v5 => kO S v4 9 (fun a7 => kcv (s_X9_become S a7 v5) (fun S6 => some (1, S6)))))))))) else (some ((-1000001), S)))) = some (r, S1) := hh
  refine rw_iload_n E (j0 := 1) rfl rfl dX11_image_0 ?_
  refine rw_if_lt E hh (tgt := 9) (by decide) dX11_image_1 (fun hh => ?_) (fun hh => ?_)
  · refine rw_ldc E (v := (-1000001)) (List.mem_of_getElem? (i := 1) (by decide +kernel)) dX11_image_9 ?_
    exact rw_iret E hrt hlk hh (by decide) (by decide) dX11_image_11
  · refine rw_iload_n E (j0 := 1) rfl rfl dX11_image_4 ?_
    refine rw_iconst E (v := 2) (by decide) dX11_image_5 ?_
    refine rw_icmp_lt E hh (tgt := 12) (by decide) dX11_image_6 (fun hh => ?_) (fun hh => ?_)
    · refine rw_aload_n E (j0 := 0) rfl rfl dX11_image_12 ?_
      refine rw_getP E hh (C := RX11) (T := TX11) (N := 9) rfl (by decide) i_X11_image_11 (by decide) rfl (List.mem_of_getElem? (i := 2) (by decide +kernel)) rfl dX11_image_13 (fun v1 hh => ?_)
      refine rw_getP E hh (C := RX9) (T := TX9) (N := 2) rfl (by decide) i_X11_image_9 (by decide) rfl (List.mem_of_getElem? (i := 3) (by decide +kernel)) rfl dX11_image_16 (fun v2 hh => ?_)
      refine rw_ifnonnull E hh (tgt := 25) (by decide) dX11_image_19 (fun hh => ?_) (fun hh => ?_)
      · refine rw_aload_n E (j0 := 0) rfl rfl dX11_image_25 ?_
        refine rw_getP E hh (C := RX11) (T := TX11) (N := 9) rfl (by decide) i_X11_image_11 (by decide) rfl (List.mem_of_getElem? (i := 5) (by decide +kernel)) rfl dX11_image_26 (fun v3 hh => ?_)
        refine rw_iload_n E (j0 := 1) rfl rfl dX11_image_29 ?_
        refine rw_aald E hh (t0 := 8) (by decide) (fun _ => rfl) dX11_image_30 (fun v4 hh => ?_)
        refine rw_aload_n E (j0 := 0) rfl rfl dX11_image_31 ?_
        refine rw_getP E hh (C := RX11) (T := TX11) (N := 9) rfl (by decide) i_X11_image_11 (by decide) rfl (List.mem_of_getElem? (i := 2) (by decide +kernel)) rfl dX11_image_32 (fun v5 hh => ?_)
        refine rw_cVv E (As := [hrf b0 v5]) hh (by decide) rfl (fun _ _ hq => c_X9_become l b0 G _ _ _ _ hq) (cwV 1 E.2.2.2.2.1 gX11_image_X9_become rfl rfl rfl (by decide +kernel) ⟨Nat.le_of_ble_eq_true rfl, Nat.le_of_ble_eq_true rfl⟩) rfl rfl (by (try simp only [List.map_cons, List.map_nil, List.sum_cons, List.sum_nil, hrf_cat, cat_i, cat_l, cat_r]) <;> decide) ⟨Nat.le_of_ble_eq_true rfl, Nat.le_of_ble_eq_true rfl⟩ dX11_image_35 (fun S6 hh => ?_)
        refine rw_iconst E (v := 1) (by decide) dX11_image_38 ?_
        exact rw_iret E hrt hlk hh (by decide) (by decide) dX11_image_39
      · refine rw_ldc E (v := (-1000002)) (List.mem_of_getElem? (i := 4) (by decide +kernel)) dX11_image_22 ?_
        exact rw_iret E hrt hlk hh (by decide) (by decide) dX11_image_24
    · refine rw_ldc E (v := (-1000001)) (List.mem_of_getElem? (i := 1) (by decide +kernel)) dX11_image_9 ?_
      exact rw_iret E hrt hlk hh (by decide) (by decide) dX11_image_11

/-! HummingDisc.restore(I)I -/
abbrev rm_X11_restore : Room := { frames := 2, cells := 0, slots := 0, locals := 42 }
theorem i_X11_restore_9 : ∀ w ∈ wsX90, w ∈ wsX11_restore := fun _ h => List.mem_cons_of_mem _ (List.mem_append_left _ (List.mem_append_right _ (h)))
theorem i_X11_restore_11 : ∀ w ∈ wsX110, w ∈ wsX11_restore := fun _ h => List.mem_cons_of_mem _ (List.mem_append_left _ (List.mem_append_left _ (List.mem_append_right _ (h))))
def s_X11_restore (S : HS) (h : Nat) (l1 : Int32) : Option (Int32 × HS) := if l1 < 0 then (some ((-1000001), S)) else (if l1 < 2 then (kP S ((some h)) 11 3 (fun v1 => kAP S v1 21 l1 (fun v2 => kP S v2 9 1 (fun v3 => if v3 = none then (some ((-1000002), S)) else (kP S ((some h)) 11 2 (fun v4 => kP S ((some h)) 11 3 (fun v5 => kAP S v5 21 l1 (fun v6 => kO S v4 9 (fun a8 => kcv (s_X9_become S a8 v6) (fun S7 => some (1, S7))))))))))) else (some ((-1000001), S)))
set_option maxHeartbeats 4000000 in
set_option maxRecDepth 100000 in
theorem c_X11_restore (l : Launch) (b0 : Nat) (G : hG) (S S1 : HS) (h : Nat) (l1 : Int32) (r : Int32) (hh : s_X11_restore S h l1 = some (r, S1)) : MH l yX11_restore wsX11_restore rm_X11_restore b0 G S [hrf b0 (some h), .int l1] (some (.int r)) S1 0 0 := by
  refine MH.ofW (cc := cX11_restore) (maxL := 2) (ret := (some .int)) (own := RX11) (lv0 := [(0, hrf b0 ((some h))), (1, .int l1)]) (by decide) rfl rfl (Nat.le_of_ble_eq_true rfl) rfl ?_
  intro p e s m args below meth c E hrt hlk hnm
  have hh : (if l1 < 0 then (some ((-1000001), S)) else (if l1 < 2 then (kP S ((some h)) 11 3 (fun v1 => kAP S v1 21 l1 (fun v2 => kP S v2 9 1 (fun v3 => if v3 = none then (some ((-1000002), S)) else (kP S ((some h)) 11 2 (fun v4 => kP S ((some h)) 11 3 (fun v5 => kAP S v5 21 l1 (fun v6 => kO S v4 9 (fun a8 => kcv (s_X9_become S a8 v6) (fun S7 => some (1, S7))))))))))) else (some ((-1000001), S)))) = some (r, S1) := hh
  refine rw_iload_n E (j0 := 1) rfl rfl dX11_restore_0 ?_
  refine rw_if_lt E hh (tgt := 9) (by decide) dX11_restore_1 (fun hh => ?_) (fun hh => ?_)
  · refine rw_ldc E (v := (-1000001)) (List.mem_of_getElem? (i := 1) (by decide +kernel)) dX11_restore_9 ?_
    exact rw_iret E hrt hlk hh (by decide) (by decide) dX11_restore_11
  · refine rw_iload_n E (j0 := 1) rfl rfl dX11_restore_4 ?_
    refine rw_iconst E (v := 2) (by decide) dX11_restore_5 ?_
    refine rw_icmp_lt E hh (tgt := 12) (by decide) dX11_restore_6 (fun hh => ?_) (fun hh => ?_)
    · refine rw_aload_n E (j0 := 0) rfl rfl dX11_restore_12 ?_
      refine rw_getP E hh (C := RX11) (T := TX11) (N := 9) rfl (by decide) i_X11_restore_11 (by decide) rfl (List.mem_of_getElem? (i := 2) (by decide +kernel)) rfl dX11_restore_13 (fun v1 hh => ?_)
      refine rw_iload_n E (j0 := 1) rfl rfl dX11_restore_16 ?_
      refine rw_aald E hh (t0 := 8) (by decide) (fun _ => rfl) dX11_restore_17 (fun v2 hh => ?_)
      refine rw_getP E hh (C := RX9) (T := TX9) (N := 2) rfl (by decide) i_X11_restore_9 (by decide) rfl (List.mem_of_getElem? (i := 3) (by decide +kernel)) rfl dX11_restore_18 (fun v3 hh => ?_)
      refine rw_ifnonnull E hh (tgt := 27) (by decide) dX11_restore_21 (fun hh => ?_) (fun hh => ?_)
      · refine rw_aload_n E (j0 := 0) rfl rfl dX11_restore_27 ?_
        refine rw_getP E hh (C := RX11) (T := TX11) (N := 9) rfl (by decide) i_X11_restore_11 (by decide) rfl (List.mem_of_getElem? (i := 5) (by decide +kernel)) rfl dX11_restore_28 (fun v4 hh => ?_)
        refine rw_aload_n E (j0 := 0) rfl rfl dX11_restore_31 ?_
        refine rw_getP E hh (C := RX11) (T := TX11) (N := 9) rfl (by decide) i_X11_restore_11 (by decide) rfl (List.mem_of_getElem? (i := 2) (by decide +kernel)) rfl dX11_restore_32 (fun v5 hh => ?_)
        refine rw_iload_n E (j0 := 1) rfl rfl dX11_restore_35 ?_
        refine rw_aald E hh (t0 := 8) (by decide) (fun _ => rfl) dX11_restore_36 (fun v6 hh => ?_)
        refine rw_cVv E (As := [hrf b0 v6]) hh (by decide) rfl (fun _ _ hq => c_X9_become l b0 G _ _ _ _ hq) (cwV 1 E.2.2.2.2.1 gX11_restore_X9_become rfl rfl rfl (by decide +kernel) ⟨Nat.le_of_ble_eq_true rfl, Nat.le_of_ble_eq_true rfl⟩) rfl rfl (by (try simp only [List.map_cons, List.map_nil, List.sum_cons, List.sum_nil, hrf_cat, cat_i, cat_l, cat_r]) <;> decide) ⟨Nat.le_of_ble_eq_true rfl, Nat.le_of_ble_eq_true rfl⟩ dX11_restore_37 (fun S7 hh => ?_)
        refine rw_iconst E (v := 1) (by decide) dX11_restore_40 ?_
        exact rw_iret E hrt hlk hh (by decide) (by decide) dX11_restore_41
      · refine rw_ldc E (v := (-1000002)) (List.mem_of_getElem? (i := 4) (by decide +kernel)) dX11_restore_24 ?_
        exact rw_iret E hrt hlk hh (by decide) (by decide) dX11_restore_26
    · refine rw_ldc E (v := (-1000001)) (List.mem_of_getElem? (i := 1) (by decide +kernel)) dX11_restore_9 ?_
      exact rw_iret E hrt hlk hh (by decide) (by decide) dX11_restore_11

/-! HummingDisc.kind()I -/
abbrev rm_X11_kind : Room := { frames := 2, cells := 0, slots := 0, locals := 46 }
theorem i_X11_kind_8 : ∀ w ∈ wsX80, w ∈ wsX11_kind := fun _ h => List.mem_cons_of_mem _ (List.mem_append_left _ (List.mem_append_right _ (h)))
theorem i_X11_kind_9 : ∀ w ∈ wsX90, w ∈ wsX11_kind := fun _ h => List.mem_cons_of_mem _ (List.mem_append_left _ (List.mem_append_left _ (List.mem_append_right _ (h))))
theorem i_X11_kind_11 : ∀ w ∈ wsX110, w ∈ wsX11_kind := fun _ h => List.mem_cons_of_mem _ (List.mem_append_left _ (List.mem_append_left _ (List.mem_append_left _ (List.mem_append_right _ (h)))))
def s_X11_kind (S : HS) (h : Nat) : Option (Int32 × HS) := kP S ((some h)) 11 2 (fun v1 => kP S v1 9 0 (fun v2 => kP S v2 8 2 (fun v3 => if v3 = none then (some ((-1000002), S)) else (kP S ((some h)) 11 2 (fun v4 => kP S v4 9 0 (fun v5 => kO S v5 8 (fun a8 => kc (s_X8_toldAs S a8 ) (fun v7 S6 => some (v7, S6)))))))))
set_option maxHeartbeats 4000000 in
set_option maxRecDepth 100000 in
theorem c_X11_kind (l : Launch) (b0 : Nat) (G : hG) (S S1 : HS) (h : Nat) (r : Int32) (hh : s_X11_kind S h  = some (r, S1)) : MH l yX11_kind wsX11_kind rm_X11_kind b0 G S [hrf b0 (some h)] (some (.int r)) S1 0 0 := by
  refine MH.ofW (cc := cX11_kind) (maxL := 1) (ret := (some .int)) (own := RX11) (lv0 := [(0, hrf b0 ((some h)))]) (by decide) rfl rfl (Nat.le_of_ble_eq_true rfl) rfl ?_
  intro p e s m args below meth c E hrt hlk hnm
  have hh : (kP S ((some h)) 11 2 (fun v1 => kP S v1 9 0 (fun v2 => kP S v2 8 2 (fun v3 => if v3 = none then (some ((-1000002), S)) else (kP S ((some h)) 11 2 (fun v4 => kP S v4 9 0 (fun v5 => kO S v5 8 (fun a8 => kc (s_X8_toldAs S a8 ) (fun v7 S6 => some (v7, S6)))))))))) = some (r, S1) := hh
  refine rw_aload_n E (j0 := 0) rfl rfl dX11_kind_0 ?_
  refine rw_getP E hh (C := RX11) (T := TX11) (N := 9) rfl (by decide) i_X11_kind_11 (by decide) rfl (List.mem_of_getElem? (i := 1) (by decide +kernel)) rfl dX11_kind_1 (fun v1 hh => ?_)
  refine rw_getP E hh (C := RX9) (T := TX9) (N := 2) rfl (by decide) i_X11_kind_9 (by decide) rfl (List.mem_of_getElem? (i := 2) (by decide +kernel)) rfl dX11_kind_4 (fun v2 hh => ?_)
  refine rw_getP E hh (C := RX8) (T := TX8) (N := 12) rfl (by decide) i_X11_kind_8 (by decide) rfl (List.mem_of_getElem? (i := 3) (by decide +kernel)) rfl dX11_kind_7 (fun v3 hh => ?_)
  refine rw_ifnonnull E hh (tgt := 18) (by decide) dX11_kind_10 (fun hh => ?_) (fun hh => ?_)
  · refine rw_aload_n E (j0 := 0) rfl rfl dX11_kind_18 ?_
    refine rw_getP E hh (C := RX11) (T := TX11) (N := 9) rfl (by decide) i_X11_kind_11 (by decide) rfl (List.mem_of_getElem? (i := 1) (by decide +kernel)) rfl dX11_kind_19 (fun v4 hh => ?_)
    refine rw_getP E hh (C := RX9) (T := TX9) (N := 2) rfl (by decide) i_X11_kind_9 (by decide) rfl (List.mem_of_getElem? (i := 2) (by decide +kernel)) rfl dX11_kind_22 (fun v5 hh => ?_)
    refine rw_cVi E (As := []) hh (by decide) rfl (fun _ _ _ hq => c_X8_toldAs l b0 G _ _ _ _ hq) (cwV 0 E.2.2.2.2.1 gX11_kind_X8_toldAs rfl rfl rfl (by decide +kernel) ⟨Nat.le_of_ble_eq_true rfl, Nat.le_of_ble_eq_true rfl⟩) rfl rfl (by (try simp only [List.map_cons, List.map_nil, List.sum_cons, List.sum_nil, hrf_cat, cat_i, cat_l, cat_r]) <;> decide) ⟨Nat.le_of_ble_eq_true rfl, Nat.le_of_ble_eq_true rfl⟩ dX11_kind_25 (fun v7 S6 hh => ?_)
    exact rw_iret E hrt hlk hh (by decide) (by decide) dX11_kind_28
  · refine rw_ldc E (v := (-1000002)) (List.mem_of_getElem? (i := 4) (by decide +kernel)) dX11_kind_13 ?_
    refine rw_goto E (tgt := 28) (by decide) dX11_kind_15 ?_
    exact rw_iret E hrt hlk hh (by decide) (by decide) dX11_kind_28

/-! HummingDisc.as(I)I -/
abbrev rm_X11_as : Room := { frames := 3, cells := 0, slots := 0, locals := 68 }
theorem i_X11_as_8 : ∀ w ∈ wsX80, w ∈ wsX11_as := fun _ h => List.mem_cons_of_mem _ (List.mem_append_left _ (List.mem_append_right _ (h)))
theorem i_X11_as_9 : ∀ w ∈ wsX90, w ∈ wsX11_as := fun _ h => List.mem_cons_of_mem _ (List.mem_append_left _ (List.mem_append_left _ (List.mem_append_right _ (h))))
theorem i_X11_as_11 : ∀ w ∈ wsX110, w ∈ wsX11_as := fun _ h => List.mem_cons_of_mem _ (List.mem_append_left _ (List.mem_append_left _ (List.mem_append_left _ (List.mem_append_right _ (h)))))
def s_X11_as (S : HS) (h : Nat) (l1 : Int32) : Option (Int32 × HS) := kP S ((some h)) 11 2 (fun v1 => kP S v1 9 0 (fun v2 => kP S v2 8 2 (fun v3 => if v3 = none then (some ((-1000002), S)) else (if l1 < 0 then (some ((-1000001), S)) else (if l1 ≤ 5 then (kO S v2 8 (fun a6 => kc (s_X8_isOne S a6 l1) (fun v5 S4 => if v5 = 0 then (kO S4 ((some h)) 11 (fun a9 => kc (s_X11_found S4 a9 3) (fun v8 S7 => some (v8, S7)))) else (kI S4 v2 8 8 (fun v10 => kO S4 ((some h)) 11 (fun a13 => kc (s_X11_fine S4 a13 v10) (fun v12 S11 => some (v12, S11)))))))) else (some ((-1000001), S)))))))
set_option maxHeartbeats 4000000 in
set_option maxRecDepth 100000 in
theorem c_X11_as (l : Launch) (b0 : Nat) (G : hG) (S S1 : HS) (h : Nat) (l1 : Int32) (r : Int32) (hh : s_X11_as S h l1 = some (r, S1)) : MH l yX11_as wsX11_as rm_X11_as b0 G S [hrf b0 (some h), .int l1] (some (.int r)) S1 0 0 := by
  refine MH.ofW (cc := cX11_as) (maxL := 3) (ret := (some .int)) (own := RX11) (lv0 := [(0, hrf b0 ((some h))), (1, .int l1)]) (by decide) rfl rfl (Nat.le_of_ble_eq_true rfl) rfl ?_
  intro p e s m args below meth c E hrt hlk hnm
  have hh : (kP S ((some h)) 11 2 (fun v1 => kP S v1 9 0 (fun v2 => kP S v2 8 2 (fun v3 => if v3 = none then (some ((-1000002), S)) else (if l1 < 0 then (some ((-1000001), S)) else (if l1 ≤ 5 then (kO S v2 8 (fun a6 => kc (s_X8_isOne S a6 l1) (fun v5 S4 => if v5 = 0 then (kO S4 ((some h)) 11 (fun a9 => kc (s_X11_found S4 a9 3) (fun v8 S7 => some (v8, S7)))) else (kI S4 v2 8 8 (fun v10 => kO S4 ((some h)) 11 (fun a13 => kc (s_X11_fine S4 a13 v10) (fun v12 S11 => some (v12, S11)))))))) else (some ((-1000001), S)))))))) = some (r, S1) := hh
  refine rw_aload_n E (j0 := 0) rfl rfl dX11_as_0 ?_
  refine rw_getP E hh (C := RX11) (T := TX11) (N := 9) rfl (by decide) i_X11_as_11 (by decide) rfl (List.mem_of_getElem? (i := 1) (by decide +kernel)) rfl dX11_as_1 (fun v1 hh => ?_)
  refine rw_getP E hh (C := RX9) (T := TX9) (N := 2) rfl (by decide) i_X11_as_9 (by decide) rfl (List.mem_of_getElem? (i := 2) (by decide +kernel)) rfl dX11_as_4 (fun v2 hh => ?_)
  refine rw_astore_n E (lv2 := [(2, hrf b0 v2), (0, hrf b0 ((some h))), (1, .int l1)]) rfl (by decide) rfl dX11_as_7 ?_
  refine rw_aload_n E (j0 := 0) rfl rfl dX11_as_8 ?_
  refine rw_getP E hh (C := RX8) (T := TX8) (N := 12) rfl (by decide) i_X11_as_8 (by decide) rfl (List.mem_of_getElem? (i := 3) (by decide +kernel)) rfl dX11_as_9 (fun v3 hh => ?_)
  refine rw_ifnonnull E hh (tgt := 18) (by decide) dX11_as_12 (fun hh => ?_) (fun hh => ?_)
  · refine rw_iload_n E (j0 := 2) rfl rfl dX11_as_18 ?_
    refine rw_if_lt E hh (tgt := 27) (by decide) dX11_as_19 (fun hh => ?_) (fun hh => ?_)
    · refine rw_ldc E (v := (-1000001)) (List.mem_of_getElem? (i := 5) (by decide +kernel)) dX11_as_27 ?_
      exact rw_iret E hrt hlk hh (by decide) (by decide) dX11_as_29
    · refine rw_iload_n E (j0 := 2) rfl rfl dX11_as_22 ?_
      refine rw_iconst E (v := 5) (by decide) dX11_as_23 ?_
      refine rw_icmp_le E hh (tgt := 30) (by decide) dX11_as_24 (fun hh => ?_) (fun hh => ?_)
      · refine rw_aload_n E (j0 := 0) rfl rfl dX11_as_30 ?_
        refine rw_iload_n E (j0 := 2) rfl rfl dX11_as_31 ?_
        refine rw_cVi E (As := [.int l1]) hh (by decide) rfl (fun _ _ _ hq => c_X8_isOne l b0 G _ _ _ _ _ hq) (cwV 1 E.2.2.2.2.1 gX11_as_X8_isOne rfl rfl rfl (by decide +kernel) ⟨Nat.le_of_ble_eq_true rfl, Nat.le_of_ble_eq_true rfl⟩) rfl rfl (by (try simp only [List.map_cons, List.map_nil, List.sum_cons, List.sum_nil, hrf_cat, cat_i, cat_l, cat_r]) <;> decide) ⟨Nat.le_of_ble_eq_true rfl, Nat.le_of_ble_eq_true rfl⟩ dX11_as_32 (fun v5 S4 hh => ?_)
        refine rw_if_eq E hh (tgt := 49) (by decide) dX11_as_35 (fun hh => ?_) (fun hh => ?_)
        · refine rw_aload_n E (j0 := 1) rfl rfl dX11_as_49 ?_
          refine rw_iconst E (v := 3) (by decide) dX11_as_50 ?_
          refine rw_cVi E (As := [.int 3]) hh (by decide) rfl (fun _ _ _ hq => c_X11_found l b0 G _ _ _ _ _ hq) (cwV 1 E.2.2.2.2.1 gX11_as_X11_found rfl rfl rfl (by decide +kernel) ⟨Nat.le_of_ble_eq_true rfl, Nat.le_of_ble_eq_true rfl⟩) rfl rfl (by (try simp only [List.map_cons, List.map_nil, List.sum_cons, List.sum_nil, hrf_cat, cat_i, cat_l, cat_r]) <;> decide) ⟨Nat.le_of_ble_eq_true rfl, Nat.le_of_ble_eq_true rfl⟩ dX11_as_51 (fun v8 S7 hh => ?_)
          exact rw_iret E hrt hlk hh (by decide) (by decide) dX11_as_54
        · refine rw_aload_n E (j0 := 1) rfl rfl dX11_as_38 ?_
          refine rw_aload_n E (j0 := 0) rfl rfl dX11_as_39 ?_
          refine rw_getI E hh (C := RX8) (T := TX8) (N := 12) rfl (by decide) i_X11_as_8 (by decide) rfl (List.mem_of_getElem? (i := 6) (by decide +kernel)) rfl dX11_as_40 (fun v10 hh => ?_)
          refine rw_cVi E (As := [.int v10]) hh (by decide) rfl (fun _ _ _ hq => c_X11_fine l b0 G _ _ _ _ _ hq) (cwV 1 E.2.2.2.2.1 gX11_as_X11_fine rfl rfl rfl (by decide +kernel) ⟨Nat.le_of_ble_eq_true rfl, Nat.le_of_ble_eq_true rfl⟩) rfl rfl (by (try simp only [List.map_cons, List.map_nil, List.sum_cons, List.sum_nil, hrf_cat, cat_i, cat_l, cat_r]) <;> decide) ⟨Nat.le_of_ble_eq_true rfl, Nat.le_of_ble_eq_true rfl⟩ dX11_as_43 (fun v12 S11 hh => ?_)
          refine rw_goto E (tgt := 54) (by decide) dX11_as_46 ?_
          exact rw_iret E hrt hlk hh (by decide) (by decide) dX11_as_54
      · refine rw_ldc E (v := (-1000001)) (List.mem_of_getElem? (i := 5) (by decide +kernel)) dX11_as_27 ?_
        exact rw_iret E hrt hlk hh (by decide) (by decide) dX11_as_29
  · refine rw_ldc E (v := (-1000002)) (List.mem_of_getElem? (i := 4) (by decide +kernel)) dX11_as_15 ?_
    exact rw_iret E hrt hlk hh (by decide) (by decide) dX11_as_17

/-! HummingDisc.ask(I)I -/
abbrev rm_X11_ask : Room := { frames := 7, cells := 0, slots := 0, locals := 146 }
theorem i_X11_ask_8 : ∀ w ∈ wsX80, w ∈ wsX11_ask := fun _ h => List.mem_cons_of_mem _ (List.mem_append_left _ (List.mem_append_left _ (List.mem_append_right _ (h))))
theorem i_X11_ask_9 : ∀ w ∈ wsX90, w ∈ wsX11_ask := fun _ h => List.mem_cons_of_mem _ (List.mem_append_left _ (List.mem_append_left _ (List.mem_append_left _ (List.mem_append_right _ (h)))))
theorem i_X11_ask_11 : ∀ w ∈ wsX110, w ∈ wsX11_ask := fun _ h => List.mem_cons_of_mem _ (List.mem_append_left _ (List.mem_append_left _ (List.mem_append_left _ (List.mem_append_left _ (List.mem_append_right _ (h))))))
def s_X11_ask (S : HS) (h : Nat) (l1 : Int32) : Option (Int32 × HS) := kP S ((some h)) 11 2 (fun v1 => kP S v1 9 0 (fun v2 => kP S v2 8 2 (fun v3 => if v3 = none then (some ((-1000002), S)) else (if l1 < 0 then (some ((-1000001), S)) else (if l1 ≤ 1 then (kP S ((some h)) 11 5 (fun v4 => kP S ((some h)) 11 2 (fun v5 => kP S v5 9 0 (fun v6 => kO S v4 0 (fun a8 => kcv (s_X0_about S a8 v6) (fun S7 => if l1 = 0 then (kP S7 ((some h)) 11 5 (fun v13 => kO S7 v13 0 (fun a16 => kc (s_X0_size S7 a16 ) (fun v15 S14 => some (v15, S14))))) else (kP S7 ((some h)) 11 5 (fun v9 => kO S7 v9 0 (fun a12 => kc (s_X0_mark S7 a12 ) (fun v11 S10 => some (v11, S10))))))))))) else (some ((-1000001), S)))))))
set_option maxHeartbeats 4000000 in
set_option maxRecDepth 100000 in
theorem c_X11_ask (l : Launch) (b0 : Nat) (G : hG) (S S1 : HS) (h : Nat) (l1 : Int32) (r : Int32) (hh : s_X11_ask S h l1 = some (r, S1)) : MH l yX11_ask wsX11_ask rm_X11_ask b0 G S [hrf b0 (some h), .int l1] (some (.int r)) S1 0 0 := by
  refine MH.ofW (cc := cX11_ask) (maxL := 2) (ret := (some .int)) (own := RX11) (lv0 := [(0, hrf b0 ((some h))), (1, .int l1)]) (by decide) rfl rfl (Nat.le_of_ble_eq_true rfl) rfl ?_
  intro p e s m args below meth c E hrt hlk hnm
  have hh : (kP S ((some h)) 11 2 (fun v1 => kP S v1 9 0 (fun v2 => kP S v2 8 2 (fun v3 => if v3 = none then (some ((-1000002), S)) else (if l1 < 0 then (some ((-1000001), S)) else (if l1 ≤ 1 then (kP S ((some h)) 11 5 (fun v4 => kP S ((some h)) 11 2 (fun v5 => kP S v5 9 0 (fun v6 => kO S v4 0 (fun a8 => kcv (s_X0_about S a8 v6) (fun S7 => if l1 = 0 then (kP S7 ((some h)) 11 5 (fun v13 => kO S7 v13 0 (fun a16 => kc (s_X0_size S7 a16 ) (fun v15 S14 => some (v15, S14))))) else (kP S7 ((some h)) 11 5 (fun v9 => kO S7 v9 0 (fun a12 => kc (s_X0_mark S7 a12 ) (fun v11 S10 => some (v11, S10))))))))))) else (some ((-1000001), S)))))))) = some (r, S1) := hh
  refine rw_aload_n E (j0 := 0) rfl rfl dX11_ask_0 ?_
  refine rw_getP E hh (C := RX11) (T := TX11) (N := 9) rfl (by decide) i_X11_ask_11 (by decide) rfl (List.mem_of_getElem? (i := 1) (by decide +kernel)) rfl dX11_ask_1 (fun v1 hh => ?_)
  refine rw_getP E hh (C := RX9) (T := TX9) (N := 2) rfl (by decide) i_X11_ask_9 (by decide) rfl (List.mem_of_getElem? (i := 2) (by decide +kernel)) rfl dX11_ask_4 (fun v2 hh => ?_)
  refine rw_getP E hh (C := RX8) (T := TX8) (N := 12) rfl (by decide) i_X11_ask_8 (by decide) rfl (List.mem_of_getElem? (i := 3) (by decide +kernel)) rfl dX11_ask_7 (fun v3 hh => ?_)
  refine rw_ifnonnull E hh (tgt := 16) (by decide) dX11_ask_10 (fun hh => ?_) (fun hh => ?_)
  · refine rw_iload_n E (j0 := 1) rfl rfl dX11_ask_16 ?_
    refine rw_if_lt E hh (tgt := 25) (by decide) dX11_ask_17 (fun hh => ?_) (fun hh => ?_)
    · refine rw_ldc E (v := (-1000001)) (List.mem_of_getElem? (i := 5) (by decide +kernel)) dX11_ask_25 ?_
      exact rw_iret E hrt hlk hh (by decide) (by decide) dX11_ask_27
    · refine rw_iload_n E (j0 := 1) rfl rfl dX11_ask_20 ?_
      refine rw_iconst E (v := 1) (by decide) dX11_ask_21 ?_
      refine rw_icmp_le E hh (tgt := 28) (by decide) dX11_ask_22 (fun hh => ?_) (fun hh => ?_)
      · refine rw_aload_n E (j0 := 0) rfl rfl dX11_ask_28 ?_
        refine rw_getP E hh (C := RX11) (T := TX11) (N := 9) rfl (by decide) i_X11_ask_11 (by decide) rfl (List.mem_of_getElem? (i := 6) (by decide +kernel)) rfl dX11_ask_29 (fun v4 hh => ?_)
        refine rw_aload_n E (j0 := 0) rfl rfl dX11_ask_32 ?_
        refine rw_getP E hh (C := RX11) (T := TX11) (N := 9) rfl (by decide) i_X11_ask_11 (by decide) rfl (List.mem_of_getElem? (i := 1) (by decide +kernel)) rfl dX11_ask_33 (fun v5 hh => ?_)
        refine rw_getP E hh (C := RX9) (T := TX9) (N := 2) rfl (by decide) i_X11_ask_9 (by decide) rfl (List.mem_of_getElem? (i := 2) (by decide +kernel)) rfl dX11_ask_36 (fun v6 hh => ?_)
        refine rw_cVv E (As := [hrf b0 v6]) hh (by decide) rfl (fun _ _ hq => c_X0_about l b0 G _ _ _ _ hq) (cwV 1 E.2.2.2.2.1 gX11_ask_X0_about rfl rfl rfl (by decide +kernel) ⟨Nat.le_of_ble_eq_true rfl, Nat.le_of_ble_eq_true rfl⟩) rfl rfl (by (try simp only [List.map_cons, List.map_nil, List.sum_cons, List.sum_nil, hrf_cat, cat_i, cat_l, cat_r]) <;> decide) ⟨Nat.le_of_ble_eq_true rfl, Nat.le_of_ble_eq_true rfl⟩ dX11_ask_39 (fun S7 hh => ?_)
        refine rw_iload_n E (j0 := 1) rfl rfl dX11_ask_42 ?_
        refine rw_if_ne E hh (tgt := 56) (by decide) dX11_ask_43 (fun hh => ?_) (fun hh => ?_)
        · refine rw_aload_n E (j0 := 0) rfl rfl dX11_ask_56 ?_
          refine rw_getP E hh (C := RX11) (T := TX11) (N := 9) rfl (by decide) i_X11_ask_11 (by decide) rfl (List.mem_of_getElem? (i := 6) (by decide +kernel)) rfl dX11_ask_57 (fun v9 hh => ?_)
          refine rw_cVi E (As := []) hh (by decide) rfl (fun _ _ _ hq => c_X0_mark l b0 G _ _ _ _ hq) (cwV 0 E.2.2.2.2.1 gX11_ask_X0_mark rfl rfl rfl (by decide +kernel) ⟨Nat.le_of_ble_eq_true rfl, Nat.le_of_ble_eq_true rfl⟩) rfl rfl (by (try simp only [List.map_cons, List.map_nil, List.sum_cons, List.sum_nil, hrf_cat, cat_i, cat_l, cat_r]) <;> decide) ⟨Nat.le_of_ble_eq_true rfl, Nat.le_of_ble_eq_true rfl⟩ dX11_ask_60 (fun v11 S10 hh => ?_)
          exact rw_iret E hrt hlk hh (by decide) (by decide) dX11_ask_63
        · refine rw_aload_n E (j0 := 0) rfl rfl dX11_ask_46 ?_
          refine rw_getP E hh (C := RX11) (T := TX11) (N := 9) rfl (by decide) i_X11_ask_11 (by decide) rfl (List.mem_of_getElem? (i := 6) (by decide +kernel)) rfl dX11_ask_47 (fun v13 hh => ?_)
          refine rw_cVi E (As := []) hh (by decide) rfl (fun _ _ _ hq => c_X0_size l b0 G _ _ _ _ hq) (cwV 0 E.2.2.2.2.1 gX11_ask_X0_size rfl rfl rfl (by decide +kernel) ⟨Nat.le_of_ble_eq_true rfl, Nat.le_of_ble_eq_true rfl⟩) rfl rfl (by (try simp only [List.map_cons, List.map_nil, List.sum_cons, List.sum_nil, hrf_cat, cat_i, cat_l, cat_r]) <;> decide) ⟨Nat.le_of_ble_eq_true rfl, Nat.le_of_ble_eq_true rfl⟩ dX11_ask_50 (fun v15 S14 hh => ?_)
          refine rw_goto E (tgt := 63) (by decide) dX11_ask_53 ?_
          exact rw_iret E hrt hlk hh (by decide) (by decide) dX11_ask_63
      · refine rw_ldc E (v := (-1000001)) (List.mem_of_getElem? (i := 5) (by decide +kernel)) dX11_ask_25 ?_
        exact rw_iret E hrt hlk hh (by decide) (by decide) dX11_ask_27
  · refine rw_ldc E (v := (-1000002)) (List.mem_of_getElem? (i := 4) (by decide +kernel)) dX11_ask_13 ?_
    exact rw_iret E hrt hlk hh (by decide) (by decide) dX11_ask_15

/-! HummingDisc.trace(I)I -/
abbrev rm_X11_trace : Room := { frames := 0, cells := 0, slots := 0, locals := 0 }
theorem i_X11_trace_0 : ∀ w ∈ wsX00, w ∈ wsX11_trace := fun _ h => List.mem_cons_of_mem _ (List.mem_append_right _ (h))
theorem i_X11_trace_11 : ∀ w ∈ wsX110, w ∈ wsX11_trace := fun _ h => List.mem_cons_of_mem _ (List.mem_append_left _ (List.mem_append_right _ (h)))
def s_X11_trace_b15 (h : Nat) (S : HS) : Option (Int32 × HS) := some ((-1000000), S)
set_option maxHeartbeats 4000000 in
set_option maxRecDepth 100000 in
theorem w_X11_trace_b15 {p : Program} {l : Launch} {e : Env} {s : State} {m : MethodId} {args : Array Value} {below : List Frame} {meth : Method} {c : Code} {b0 : Nat} {G : hG} {S1 : HS} {r : Int32} {h : Nat} {S : HS} (E : hE p s m args c b0 G cX11_trace RX11 2 wsX11_trace) (hrt : meth.sig.returnType = (some .int)) (hlk : meth.locks = false) (hh : s_X11_trace_b15 h S = some (r, S1)) : WH p l e rm_X11_trace s m args below meth c b0 G 2 0 0 (MQ below (hQ b0 G (some (.int r)) S1) args s 0 0 (hA b0)) S 15 [] [] := by
  have hh : (some ((-1000000), S)) = some (r, S1) := hh
  refine rw_ldc E (v := (-1000000)) (List.mem_of_getElem? (i := 3) (by decide +kernel)) dX11_trace_15 ?_
  refine rw_goto E (tgt := 29) (by decide) dX11_trace_17 ?_
  exact rw_iret E hrt hlk hh (by decide) (by decide) dX11_trace_29
def s_X11_trace (S : HS) (h : Nat) (l1 : Int32) : Option (Int32 × HS) := if l1 < 0 then (s_X11_trace_b15 h S) else (kP S ((some h)) 11 5 (fun v1 => kI S v1 0 1 (fun v2 => if l1 < v2 then (kP S ((some h)) 11 5 (fun v3 => kP S v3 0 0 (fun v4 => kA S v4 14 l1 (fun v5 => some (v5, S))))) else (s_X11_trace_b15 h S))))
set_option maxHeartbeats 4000000 in
set_option maxRecDepth 100000 in
theorem c_X11_trace (l : Launch) (b0 : Nat) (G : hG) (S S1 : HS) (h : Nat) (l1 : Int32) (r : Int32) (hh : s_X11_trace S h l1 = some (r, S1)) : MH l yX11_trace wsX11_trace rm_X11_trace b0 G S [hrf b0 (some h), .int l1] (some (.int r)) S1 0 0 := by
  refine MH.ofW (cc := cX11_trace) (maxL := 2) (ret := (some .int)) (own := RX11) (lv0 := [(0, hrf b0 ((some h))), (1, .int l1)]) (by decide) rfl rfl (Nat.le_of_ble_eq_true rfl) rfl ?_
  intro p e s m args below meth c E hrt hlk hnm
  have hh : (if l1 < 0 then (s_X11_trace_b15 h S) else (kP S ((some h)) 11 5 (fun v1 => kI S v1 0 1 (fun v2 => if l1 < v2 then (kP S ((some h)) 11 5 (fun v3 => kP S v3 0 0 (fun v4 => kA S v4 14 l1 (fun v5 => some (v5, S))))) else (s_X11_trace_b15 h S))))) = some (r, S1) := hh
  refine rw_iload_n E (j0 := 1) rfl rfl dX11_trace_0 ?_
  refine rw_if_lt E hh (tgt := 15) (by decide) dX11_trace_1 (fun hh => ?_) (fun hh => ?_)
  · refine WH.pick [] rfl ?_
    exact w_X11_trace_b15 E hrt hlk hh
  · refine rw_iload_n E (j0 := 1) rfl rfl dX11_trace_4 ?_
    refine rw_aload_n E (j0 := 0) rfl rfl dX11_trace_5 ?_
    refine rw_getP E hh (C := RX11) (T := TX11) (N := 9) rfl (by decide) i_X11_trace_11 (by decide) rfl (List.mem_of_getElem? (i := 1) (by decide +kernel)) rfl dX11_trace_6 (fun v1 hh => ?_)
    refine rw_getI E hh (C := RX0) (T := TX0) (N := 4) rfl (by decide) i_X11_trace_0 (by decide) rfl (List.mem_of_getElem? (i := 2) (by decide +kernel)) rfl dX11_trace_9 (fun v2 hh => ?_)
    refine rw_icmp_lt E hh (tgt := 20) (by decide) dX11_trace_12 (fun hh => ?_) (fun hh => ?_)
    · refine rw_aload_n E (j0 := 0) rfl rfl dX11_trace_20 ?_
      refine rw_getP E hh (C := RX11) (T := TX11) (N := 9) rfl (by decide) i_X11_trace_11 (by decide) rfl (List.mem_of_getElem? (i := 1) (by decide +kernel)) rfl dX11_trace_21 (fun v3 hh => ?_)
      refine rw_getP E hh (C := RX0) (T := TX0) (N := 4) rfl (by decide) i_X11_trace_0 (by decide) rfl (List.mem_of_getElem? (i := 4) (by decide +kernel)) rfl dX11_trace_24 (fun v4 hh => ?_)
      refine rw_iload_n E (j0 := 1) rfl rfl dX11_trace_27 ?_
      refine rw_iald E hh dX11_trace_28 (fun v5 hh => ?_)
      exact rw_iret E hrt hlk hh (by decide) (by decide) dX11_trace_29
    · refine WH.pick [] rfl ?_
      exact w_X11_trace_b15 E hrt hlk hh

/-! HummingDisc.rowsHere()I -/
abbrev rm_X11_rowsHere : Room := { frames := 0, cells := 0, slots := 0, locals := 0 }
theorem i_X11_rowsHere_6 : ∀ w ∈ wsX60, w ∈ wsX11_rowsHere := fun _ h => List.mem_cons_of_mem _ (List.mem_append_right _ (h))
theorem i_X11_rowsHere_11 : ∀ w ∈ wsX110, w ∈ wsX11_rowsHere := fun _ h => List.mem_cons_of_mem _ (List.mem_append_left _ (List.mem_append_right _ (h)))
def s_X11_rowsHere_b36 (j13 : HS → Int32 → Option Nat → Int32 → Int32 → Option (Int32 × HS)) (h : Nat) (S : HS) (l1 : Int32) (l2 : Option Nat) (l3 : Int32) (l4 : Int32) : Option (Int32 × HS) := j13 S l1 l2 l3 (l4 + 1)
set_option maxHeartbeats 4000000 in
set_option maxRecDepth 100000 in
theorem w_X11_rowsHere_b36 {p : Program} {l : Launch} {e : Env} {s : State} {m : MethodId} {args : Array Value} {below : List Frame} {meth : Method} {c : Code} {b0 : Nat} {G : hG} {S1 : HS} {r : Int32} {j13 : HS → Int32 → Option Nat → Int32 → Int32 → Option (Int32 × HS)} {h : Nat} {S : HS} {l1 : Int32} {l2 : Option Nat} {l3 : Int32} {l4 : Int32} (E : hE p s m args c b0 G cX11_rowsHere RX11 6 wsX11_rowsHere) (hrt : meth.sig.returnType = (some .int)) (hlk : meth.locks = false) (hj13 : ∀ (S : HS) (l1 : Int32) (l2 : Option Nat) (l3 : Int32) (l4 : Int32), j13 S l1 l2 l3 l4 = some (r, S1) → WH p l e rm_X11_rowsHere s m args below meth c b0 G 6 0 0 (MQ below (hQ b0 G (some (.int r)) S1) args s 0 0 (hA b0)) S 13 [(1, .int l1), (2, hrf b0 l2), (3, .int l3), (4, .int l4)] []) (hh : s_X11_rowsHere_b36 j13 h S l1 l2 l3 l4 = some (r, S1)) : WH p l e rm_X11_rowsHere s m args below meth c b0 G 6 0 0 (MQ below (hQ b0 G (some (.int r)) S1) args s 0 0 (hA b0)) S 36 [(1, .int l1), (2, hrf b0 l2), (3, .int l3), (4, .int l4)] [] := by
  have hh : (j13 S l1 l2 l3 (l4 + 1)) = some (r, S1) := hh
  refine rw_iinc E (v := l4 + 1) (lv2 := [(4, .int (l4 + 1)), (1, .int l1), (2, hrf b0 l2), (3, .int l3)]) (j0 := 3) rfl rfl (by decide) rfl dX11_rowsHere_36 ?_
  refine rw_goto E (tgt := 13) (by decide) dX11_rowsHere_39 ?_
  refine WH.pick [1, 2, 3, 0] rfl ?_
  exact hj13 _ _ _ _ _ hh
def s_X11_rowsHere_b13 (j13 : HS → Int32 → Option Nat → Int32 → Int32 → Option (Int32 × HS)) (h : Nat) (S : HS) (l1 : Int32) (l2 : Option Nat) (l3 : Int32) (l4 : Int32) : Option (Int32 × HS) := if l3 ≤ l4 then (some (l1, S)) else (kAP S l2 19 l4 (fun v1 => kI S v1 6 1 (fun v2 => if v2 = 0 then (s_X11_rowsHere_b36 j13 h S l1 l2 l3 l4) else (s_X11_rowsHere_b36 j13 h S (l1 + 1) l2 l3 l4))))
set_option maxHeartbeats 4000000 in
set_option maxRecDepth 100000 in
theorem w_X11_rowsHere_b13 {p : Program} {l : Launch} {e : Env} {s : State} {m : MethodId} {args : Array Value} {below : List Frame} {meth : Method} {c : Code} {b0 : Nat} {G : hG} {S1 : HS} {r : Int32} {j13 : HS → Int32 → Option Nat → Int32 → Int32 → Option (Int32 × HS)} {h : Nat} {S : HS} {l1 : Int32} {l2 : Option Nat} {l3 : Int32} {l4 : Int32} (E : hE p s m args c b0 G cX11_rowsHere RX11 6 wsX11_rowsHere) (hrt : meth.sig.returnType = (some .int)) (hlk : meth.locks = false) (hj13 : ∀ (S : HS) (l1 : Int32) (l2 : Option Nat) (l3 : Int32) (l4 : Int32), j13 S l1 l2 l3 l4 = some (r, S1) → WH p l e rm_X11_rowsHere s m args below meth c b0 G 6 0 0 (MQ below (hQ b0 G (some (.int r)) S1) args s 0 0 (hA b0)) S 13 [(1, .int l1), (2, hrf b0 l2), (3, .int l3), (4, .int l4)] []) (hh : s_X11_rowsHere_b13 j13 h S l1 l2 l3 l4 = some (r, S1)) : WH p l e rm_X11_rowsHere s m args below meth c b0 G 6 0 0 (MQ below (hQ b0 G (some (.int r)) S1) args s 0 0 (hA b0)) S 13 [(1, .int l1), (2, hrf b0 l2), (3, .int l3), (4, .int l4)] [] := by
  have hh : (if l3 ≤ l4 then (some (l1, S)) else (kAP S l2 19 l4 (fun v1 => kI S v1 6 1 (fun v2 => if v2 = 0 then (s_X11_rowsHere_b36 j13 h S l1 l2 l3 l4) else (s_X11_rowsHere_b36 j13 h S (l1 + 1) l2 l3 l4))))) = some (r, S1) := hh
  refine rw_iload E (j0 := 3) rfl dX11_rowsHere_13 ?_
  refine rw_iload_n E (j0 := 2) rfl rfl dX11_rowsHere_15 ?_
  refine rw_icmp_ge E hh (tgt := 42) (by decide) dX11_rowsHere_16 (fun hh => ?_) (fun hh => ?_)
  · refine rw_iload_n E (j0 := 0) rfl rfl dX11_rowsHere_42 ?_
    exact rw_iret E hrt hlk hh (by decide) (by decide) dX11_rowsHere_43
  · refine rw_aload_n E (j0 := 1) rfl rfl dX11_rowsHere_19 ?_
    refine rw_iload E (j0 := 3) rfl dX11_rowsHere_20 ?_
    refine rw_aald E hh (t0 := 6) (by decide) (fun _ => rfl) dX11_rowsHere_22 (fun v1 hh => ?_)
    refine rw_astore E (lv2 := [(5, hrf b0 v1), (1, .int l1), (2, hrf b0 l2), (3, .int l3), (4, .int l4)]) (by decide) rfl dX11_rowsHere_23 ?_
    refine rw_aload E (j0 := 0) rfl dX11_rowsHere_25 ?_
    refine rw_getI E hh (C := RX6) (T := TX6) (N := 4) rfl (by decide) i_X11_rowsHere_6 (by decide) rfl (List.mem_of_getElem? (i := 2) (by decide +kernel)) rfl dX11_rowsHere_27 (fun v2 hh => ?_)
    refine rw_if_eq E hh (tgt := 36) (by decide) dX11_rowsHere_30 (fun hh => ?_) (fun hh => ?_)
    · refine WH.pick [1, 2, 3, 4] rfl ?_
      exact w_X11_rowsHere_b36 E hrt hlk hj13 hh
    · refine rw_iinc E (v := l1 + 1) (lv2 := [(1, .int (l1 + 1)), (5, hrf b0 v1), (2, hrf b0 l2), (3, .int l3), (4, .int l4)]) (j0 := 1) rfl rfl (by decide) rfl dX11_rowsHere_33 ?_
      refine WH.pick [0, 2, 3, 4] rfl ?_
      exact w_X11_rowsHere_b36 E hrt hlk hj13 hh
def s_X11_rowsHere_L13 (h : Nat) : Nat → HS → Int32 → Option Nat → Int32 → Int32 → Option (Int32 × HS)
  | 0 => fun _ _ _ _ _ => none
  | n + 1 => s_X11_rowsHere_b13 (s_X11_rowsHere_L13 h n) h
set_option maxHeartbeats 4000000 in
set_option maxRecDepth 100000 in
theorem w_X11_rowsHere_L13 {p : Program} {l : Launch} {e : Env} {s : State} {m : MethodId} {args : Array Value} {below : List Frame} {meth : Method} {c : Code} {b0 : Nat} {G : hG} {S1 : HS} {r : Int32} {h : Nat} (E : hE p s m args c b0 G cX11_rowsHere RX11 6 wsX11_rowsHere) (hrt : meth.sig.returnType = (some .int)) (hlk : meth.locks = false) : ∀ (n : Nat) (S : HS) (l1 : Int32) (l2 : Option Nat) (l3 : Int32) (l4 : Int32), s_X11_rowsHere_L13 h n S l1 l2 l3 l4 = some (r, S1) → WH p l e rm_X11_rowsHere s m args below meth c b0 G 6 0 0 (MQ below (hQ b0 G (some (.int r)) S1) args s 0 0 (hA b0)) S 13 [(1, .int l1), (2, hrf b0 l2), (3, .int l3), (4, .int l4)] [] := by
  intro n
  induction n with
  | zero => intro _ _ _ _ _ hh; exact absurd hh (by simp [s_X11_rowsHere_L13])
  | succ n ih => intro _ _ _ _ _ hh; exact w_X11_rowsHere_b13 E hrt hlk  ih hh
def s_X11_rowsHere (S : HS) (h : Nat) : Option (Int32 × HS) := kP S ((some h)) 11 0 (fun v1 => kLen S v1 19 (fun v2 => s_X11_rowsHere_L13 h 100000 S 0 v1 v2 0))
set_option maxHeartbeats 4000000 in
set_option maxRecDepth 100000 in
theorem c_X11_rowsHere (l : Launch) (b0 : Nat) (G : hG) (S S1 : HS) (h : Nat) (r : Int32) (hh : s_X11_rowsHere S h  = some (r, S1)) : MH l yX11_rowsHere wsX11_rowsHere rm_X11_rowsHere b0 G S [hrf b0 (some h)] (some (.int r)) S1 0 0 := by
  refine MH.ofW (cc := cX11_rowsHere) (maxL := 6) (ret := (some .int)) (own := RX11) (lv0 := [(0, hrf b0 ((some h)))]) (by decide) rfl rfl (Nat.le_of_ble_eq_true rfl) rfl ?_
  intro p e s m args below meth c E hrt hlk hnm
  have hh : (kP S ((some h)) 11 0 (fun v1 => kLen S v1 19 (fun v2 => s_X11_rowsHere_L13 h 100000 S 0 v1 v2 0))) = some (r, S1) := hh
  refine rw_iconst E (v := 0) (by decide) dX11_rowsHere_0 ?_
  refine rw_istore_n E (lv2 := [(1, .int 0), (0, hrf b0 ((some h)))]) rfl (by decide) rfl dX11_rowsHere_1 ?_
  refine rw_aload_n E (j0 := 1) rfl rfl dX11_rowsHere_2 ?_
  refine rw_getP E hh (C := RX11) (T := TX11) (N := 9) rfl (by decide) i_X11_rowsHere_11 (by decide) rfl (List.mem_of_getElem? (i := 1) (by decide +kernel)) rfl dX11_rowsHere_3 (fun v1 hh => ?_)
  refine rw_astore_n E (lv2 := [(2, hrf b0 v1), (1, .int 0), (0, hrf b0 ((some h)))]) rfl (by decide) rfl dX11_rowsHere_6 ?_
  refine rw_aload_n E (j0 := 0) rfl rfl dX11_rowsHere_7 ?_
  refine rw_alenq E hh (t0 := 6) (by decide) (fun _ => rfl) dX11_rowsHere_8 (fun v2 hh => ?_)
  refine rw_istore_n E (i := 3) (lv2 := [(3, .int v2), (2, hrf b0 v1), (1, .int 0), (0, hrf b0 ((some h)))]) rfl (by decide) (by simp [lvs, lvs2, hrf_cat]) dX11_rowsHere_9 ?_
  refine rw_iconst E (v := 0) (by decide) dX11_rowsHere_10 ?_
  refine rw_istore E (lv2 := [(4, .int 0), (3, .int v2), (2, hrf b0 v1), (1, .int 0), (0, hrf b0 ((some h)))]) (by decide) rfl dX11_rowsHere_11 ?_
  refine WH.pick [3, 2, 1, 0] rfl ?_
  exact w_X11_rowsHere_L13 E hrt hlk 100000 _ _ _ _ _ hh

/-! HummingDisc.count(I)I -/
abbrev rm_X11_count : Room := { frames := 1, cells := 0, slots := 0, locals := 25 }
theorem i_X11_count_1 : ∀ w ∈ wsX10, w ∈ wsX11_count := fun _ h => List.mem_cons_of_mem _ (List.mem_append_left _ (List.mem_append_left _ (List.mem_append_right _ (h))))
theorem i_X11_count_9 : ∀ w ∈ wsX90, w ∈ wsX11_count := fun _ h => List.mem_cons_of_mem _ (List.mem_append_left _ (List.mem_append_left _ (List.mem_append_left _ (List.mem_append_right _ (h)))))
theorem i_X11_count_10 : ∀ w ∈ wsX100, w ∈ wsX11_count := fun _ h => List.mem_cons_of_mem _ (List.mem_append_left _ (List.mem_append_left _ (List.mem_append_left _ (List.mem_append_left _ (List.mem_append_right _ (h))))))
theorem i_X11_count_11 : ∀ w ∈ wsX110, w ∈ wsX11_count := fun _ h => List.mem_cons_of_mem _ (List.mem_append_left _ (List.mem_append_left _ (List.mem_append_left _ (List.mem_append_left _ (List.mem_append_left _ (List.mem_append_right _ (h)))))))
def s_X11_count (S : HS) (h : Nat) (l1 : Int32) : Option (Int32 × HS) := if l1 < 0 then (some ((-1000001), S)) else (if l1 ≤ 5 then (if l1 = 0 then (kO S ((some h)) 11 (fun a13 => kc (s_X11_rowsHere S a13 ) (fun v12 S11 => some (v12, S11)))) else (if l1 = 5 then (kP S ((some h)) 11 1 (fun v9 => kI S v9 10 1 (fun v10 => some (v10, S)))) else (kP S ((some h)) 11 2 (fun v1 => kP S v1 9 1 (fun v2 => if v2 = none then (some (0, S)) else (if l1 = 1 then (kI S v2 1 3 (fun v3 => some (v3, S))) else (if l1 = 2 then (kI S v2 1 4 (fun v4 => some (v4, S))) else (if l1 = 3 then (kI S v2 1 5 (fun v5 => some (v5, S))) else (kO S v2 1 (fun a8 => kc (s_X1_rulesOfAll S a8 ) (fun v7 S6 => some (v7, S6)))))))))))) else (some ((-1000001), S)))
set_option maxHeartbeats 4000000 in
set_option maxRecDepth 100000 in
theorem c_X11_count (l : Launch) (b0 : Nat) (G : hG) (S S1 : HS) (h : Nat) (l1 : Int32) (r : Int32) (hh : s_X11_count S h l1 = some (r, S1)) : MH l yX11_count wsX11_count rm_X11_count b0 G S [hrf b0 (some h), .int l1] (some (.int r)) S1 0 0 := by
  refine MH.ofW (cc := cX11_count) (maxL := 3) (ret := (some .int)) (own := RX11) (lv0 := [(0, hrf b0 ((some h))), (1, .int l1)]) (by decide) rfl rfl (Nat.le_of_ble_eq_true rfl) rfl ?_
  intro p e s m args below meth c E hrt hlk hnm
  have hh : (if l1 < 0 then (some ((-1000001), S)) else (if l1 ≤ 5 then (if l1 = 0 then (kO S ((some h)) 11 (fun a13 => kc (s_X11_rowsHere S a13 ) (fun v12 S11 => some (v12, S11)))) else (if l1 = 5 then (kP S ((some h)) 11 1 (fun v9 => kI S v9 10 1 (fun v10 => some (v10, S)))) else (kP S ((some h)) 11 2 (fun v1 => kP S v1 9 1 (fun v2 => if v2 = none then (some (0, S)) else (if l1 = 1 then (kI S v2 1 3 (fun v3 => some (v3, S))) else (if l1 = 2 then (kI S v2 1 4 (fun v4 => some (v4, S))) else (if l1 = 3 then (kI S v2 1 5 (fun v5 => some (v5, S))) else (kO S v2 1 (fun a8 => kc (s_X1_rulesOfAll S a8 ) (fun v7 S6 => some (v7, S6)))))))))))) else (some ((-1000001), S)))) = some (r, S1) := hh
  refine rw_iload_n E (j0 := 1) rfl rfl dX11_count_0 ?_
  refine rw_if_lt E hh (tgt := 9) (by decide) dX11_count_1 (fun hh => ?_) (fun hh => ?_)
  · refine rw_ldc E (v := (-1000001)) (List.mem_of_getElem? (i := 1) (by decide +kernel)) dX11_count_9 ?_
    exact rw_iret E hrt hlk hh (by decide) (by decide) dX11_count_11
  · refine rw_iload_n E (j0 := 1) rfl rfl dX11_count_4 ?_
    refine rw_iconst E (v := 5) (by decide) dX11_count_5 ?_
    refine rw_icmp_le E hh (tgt := 12) (by decide) dX11_count_6 (fun hh => ?_) (fun hh => ?_)
    · refine rw_iload_n E (j0 := 1) rfl rfl dX11_count_12 ?_
      refine rw_if_ne E hh (tgt := 21) (by decide) dX11_count_13 (fun hh => ?_) (fun hh => ?_)
      · refine rw_iload_n E (j0 := 1) rfl rfl dX11_count_21 ?_
        refine rw_iconst E (v := 5) (by decide) dX11_count_22 ?_
        refine rw_icmp_ne E hh (tgt := 34) (by decide) dX11_count_23 (fun hh => ?_) (fun hh => ?_)
        · refine rw_aload_n E (j0 := 0) rfl rfl dX11_count_34 ?_
          refine rw_getP E hh (C := RX11) (T := TX11) (N := 9) rfl (by decide) i_X11_count_11 (by decide) rfl (List.mem_of_getElem? (i := 4) (by decide +kernel)) rfl dX11_count_35 (fun v1 hh => ?_)
          refine rw_getP E hh (C := RX9) (T := TX9) (N := 2) rfl (by decide) i_X11_count_9 (by decide) rfl (List.mem_of_getElem? (i := 5) (by decide +kernel)) rfl dX11_count_38 (fun v2 hh => ?_)
          refine rw_astore_n E (lv2 := [(2, hrf b0 v2), (0, hrf b0 ((some h))), (1, .int l1)]) rfl (by decide) rfl dX11_count_41 ?_
          refine rw_aload_n E (j0 := 0) rfl rfl dX11_count_42 ?_
          refine rw_ifnonnull E hh (tgt := 48) (by decide) dX11_count_43 (fun hh => ?_) (fun hh => ?_)
          · refine rw_iload_n E (j0 := 2) rfl rfl dX11_count_48 ?_
            by_cases c49_0 : l1 = 1
            · rw [if_pos c49_0] at hh
              refine rw_swin E (v := 1) (tgt := 76) dX11_count_49 c49_0 (by decide) (by decide) rfl (by decide) ?_
              refine rw_aload_n E (j0 := 0) rfl rfl dX11_count_76 ?_
              refine rw_getI E hh (C := RX1) (T := TX1) (N := 6) rfl (by decide) i_X11_count_1 (by decide) rfl (List.mem_of_getElem? (i := 6) (by decide +kernel)) rfl dX11_count_77 (fun v3 hh => ?_)
              exact rw_iret E hrt hlk hh (by decide) (by decide) dX11_count_80
            · rw [if_neg c49_0] at hh
              by_cases c49_1 : l1 = 2
              · rw [if_pos c49_1] at hh
                refine rw_swin E (v := 2) (tgt := 81) dX11_count_49 c49_1 (by decide) (by decide) rfl (by decide) ?_
                refine rw_aload_n E (j0 := 0) rfl rfl dX11_count_81 ?_
                refine rw_getI E hh (C := RX1) (T := TX1) (N := 6) rfl (by decide) i_X11_count_1 (by decide) rfl (List.mem_of_getElem? (i := 7) (by decide +kernel)) rfl dX11_count_82 (fun v4 hh => ?_)
                exact rw_iret E hrt hlk hh (by decide) (by decide) dX11_count_85
              · rw [if_neg c49_1] at hh
                by_cases c49_2 : l1 = 3
                · rw [if_pos c49_2] at hh
                  refine rw_swin E (v := 3) (tgt := 86) dX11_count_49 c49_2 (by decide) (by decide) rfl (by decide) ?_
                  refine rw_aload_n E (j0 := 0) rfl rfl dX11_count_86 ?_
                  refine rw_getI E hh (C := RX1) (T := TX1) (N := 6) rfl (by decide) i_X11_count_1 (by decide) rfl (List.mem_of_getElem? (i := 8) (by decide +kernel)) rfl dX11_count_87 (fun v5 hh => ?_)
                  exact rw_iret E hrt hlk hh (by decide) (by decide) dX11_count_90
                · rw [if_neg c49_2] at hh
                  have n0 := lv_neT c49_0 (a := 1) rfl
                  have n1 := lv_neT c49_1 (a := 2) rfl
                  have n2 := lv_neT c49_2 (a := 3) rfl
                  refine rw_swout E (tgt := 91) dX11_count_49 (by omega) (by decide) ?_
                  refine rw_aload_n E (j0 := 0) rfl rfl dX11_count_91 ?_
                  refine rw_cVi E (As := []) hh (by decide) rfl (fun _ _ _ hq => c_X1_rulesOfAll l b0 G _ _ _ _ hq) (cwV 0 E.2.2.2.2.1 gX11_count_X1_rulesOfAll rfl rfl rfl (by decide +kernel) ⟨Nat.le_of_ble_eq_true rfl, Nat.le_of_ble_eq_true rfl⟩) rfl rfl (by (try simp only [List.map_cons, List.map_nil, List.sum_cons, List.sum_nil, hrf_cat, cat_i, cat_l, cat_r]) <;> decide) ⟨Nat.le_of_ble_eq_true rfl, Nat.le_of_ble_eq_true rfl⟩ dX11_count_92 (fun v7 S6 hh => ?_)
                  exact rw_iret E hrt hlk hh (by decide) (by decide) dX11_count_95
          · refine rw_iconst E (v := 0) (by decide) dX11_count_46 ?_
            exact rw_iret E hrt hlk hh (by decide) (by decide) dX11_count_47
        · refine rw_aload_n E (j0 := 0) rfl rfl dX11_count_26 ?_
          refine rw_getP E hh (C := RX11) (T := TX11) (N := 9) rfl (by decide) i_X11_count_11 (by decide) rfl (List.mem_of_getElem? (i := 2) (by decide +kernel)) rfl dX11_count_27 (fun v9 hh => ?_)
          refine rw_getI E hh (C := RX10) (T := TX10) (N := 8) rfl (by decide) i_X11_count_10 (by decide) rfl (List.mem_of_getElem? (i := 3) (by decide +kernel)) rfl dX11_count_30 (fun v10 hh => ?_)
          exact rw_iret E hrt hlk hh (by decide) (by decide) dX11_count_33
      · refine rw_aload_n E (j0 := 0) rfl rfl dX11_count_16 ?_
        refine rw_cVi E (As := []) hh (by decide) rfl (fun _ _ _ hq => c_X11_rowsHere l b0 G _ _ _ _ hq) (cwV 0 E.2.2.2.2.1 gX11_count_X11_rowsHere rfl rfl rfl (by decide +kernel) ⟨Nat.le_of_ble_eq_true rfl, Nat.le_of_ble_eq_true rfl⟩) rfl rfl (by (try simp only [List.map_cons, List.map_nil, List.sum_cons, List.sum_nil, hrf_cat, cat_i, cat_l, cat_r]) <;> decide) ⟨Nat.le_of_ble_eq_true rfl, Nat.le_of_ble_eq_true rfl⟩ dX11_count_17 (fun v12 S11 hh => ?_)
        exact rw_iret E hrt hlk hh (by decide) (by decide) dX11_count_20
    · refine rw_ldc E (v := (-1000001)) (List.mem_of_getElem? (i := 1) (by decide +kernel)) dX11_count_9 ?_
      exact rw_iret E hrt hlk hh (by decide) (by decide) dX11_count_11

/-! HummingDisc.status()I -/
abbrev rm_X11_status : Room := { frames := 0, cells := 0, slots := 0, locals := 0 }
theorem i_X11_status_11 : ∀ w ∈ wsX110, w ∈ wsX11_status := fun _ h => List.mem_cons_of_mem _ (List.mem_append_right _ (h))
def s_X11_status (S : HS) (h : Nat) : Option (Int32 × HS) := kI S ((some h)) 11 7 (fun v1 => some (v1, S))
set_option maxHeartbeats 4000000 in
set_option maxRecDepth 100000 in
theorem c_X11_status (l : Launch) (b0 : Nat) (G : hG) (S S1 : HS) (h : Nat) (r : Int32) (hh : s_X11_status S h  = some (r, S1)) : MH l yX11_status wsX11_status rm_X11_status b0 G S [hrf b0 (some h)] (some (.int r)) S1 0 0 := by
  refine MH.ofW (cc := cX11_status) (maxL := 1) (ret := (some .int)) (own := RX11) (lv0 := [(0, hrf b0 ((some h)))]) (by decide) rfl rfl (Nat.le_of_ble_eq_true rfl) rfl ?_
  intro p e s m args below meth c E hrt hlk hnm
  have hh : (kI S ((some h)) 11 7 (fun v1 => some (v1, S))) = some (r, S1) := hh
  refine rw_aload_n E (j0 := 0) rfl rfl dX11_status_0 ?_
  refine rw_getI E hh (C := RX11) (T := TX11) (N := 9) rfl (by decide) i_X11_status_11 (by decide) rfl (List.mem_of_getElem? (i := 1) (by decide +kernel)) rfl dX11_status_1 (fun v1 hh => ?_)
  exact rw_iret E hrt hlk hh (by decide) (by decide) dX11_status_4
