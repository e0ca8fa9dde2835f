/-! HummingDisc$Tape.<init>()V -/
abbrev rm_X10_init : Room := { frames := 1, cells := 1, slots := 500, locals := 20 }
theorem i_X10_init_10 : ∀ w ∈ wsX100, w ∈ wsX10_init := fun _ h => List.mem_cons_of_mem _ (List.mem_append_right _ (h))
def s_X10_init (S : HS) (h : Nat) : Option (HS) := kO S ((some h)) 10 (fun _ => knewA S 13 500 500 (fun o1 S2 => kwP S2 ((some h)) 10 0 o1 (fun S3 => some S3)))
set_option maxHeartbeats 4000000 in
set_option maxRecDepth 100000 in
theorem c_X10_init (l : Launch) (b0 : Nat) (G : hG) (S S1 : HS) (h : Nat) (hh : s_X10_init S h  = some S1) : MH l yX10_init wsX10_init rm_X10_init b0 G S [hrf b0 (some h)] none S1 1 500 := by
  refine MH.ofW (cc := cX10_init) (maxL := 1) (ret := none) (own := RX10) (lv0 := [(0, hrf b0 ((some h)))]) (by decide) rfl rfl (Nat.le_of_ble_eq_true rfl) rfl ?_
  intro p e s m args below meth c E hrt hlk hnm
  have hh : (kO S ((some h)) 10 (fun _ => knewA S 13 500 500 (fun o1 S2 => kwP S2 ((some h)) 10 0 o1 (fun S3 => some S3)))) = some S1 := hh
  have hc : 0 + 1 ≤ 1 := by decide
  have hs : 0 + 500 ≤ 500 := by decide
  refine rw_aload_n E (j0 := 0) rfl rfl dX10_init_0 ?_
  refine rw_objI E hh (List.mem_of_getElem? (i := 1) (by decide +kernel)) (List.mem_of_getElem? (i := 2) (by decide +kernel)) (List.mem_of_getElem? (i := 3) (by decide +kernel)) (by decide) (by (try simp only [List.map_cons, List.map_nil, List.sum_cons, List.sum_nil, hrf_cat, cat_i, cat_l, cat_r]) <;> decide) dX10_init_1 (fun hh => ?_)
  refine rw_aload_n E (j0 := 0) rfl rfl dX10_init_4 ?_
  refine rw_sipush E (v := 500) (by decide) dX10_init_5 ?_
  refine rw_newa E hh (t0 := 0) (by decide) (by decide) (by decide) rfl (fun _ => rfl) (fun _ q => by cases q) rfl (by decide) (List.mem_of_getElem? (i := 4) (by decide +kernel)) (show _ ≤ 1 by omega) (show _ ≤ 500 by omega) dX10_init_8 (fun o1 S2 hh => ?_)
  refine rw_putP E hh (C := RX10) (T := TX10) (N := 8) (ty0 := tyX10) rfl tyX10_ok nmX10 (by decide) i_X10_init_10 (by decide) rfl (List.mem_of_getElem? (i := 5) (by decide +kernel)) rfl (Or.inr ⟨rfl, hnm, rfl⟩) (Or.inr ⟨_, rfl⟩) dX10_init_10 (fun S3 hh => ?_)
  exact rw_vret E hrt hlk hh (show _ ≤ 1 by omega) (show _ ≤ 500 by omega) dX10_init_13

/-! HummingDisc$Tape.add(B)V -/
abbrev rm_X10_add : Room := { frames := 0, cells := 0, slots := 0, locals := 0 }
theorem i_X10_add_10 : ∀ w ∈ wsX100, w ∈ wsX10_add := fun _ h => List.mem_cons_of_mem _ (List.mem_append_right _ (h))
def s_X10_add (S : HS) (h : Nat) (l1 : Int32) : Option (HS) := kI S ((some h)) 10 1 (fun v1 => if 500 ≤ v1 then (some S) else (kP S ((some h)) 10 0 (fun v2 => kI S ((some h)) 10 1 (fun v3 => kwI S ((some h)) 10 1 (v3 + 1) (fun S4 => kwA S4 v2 13 v3 ((l1 : Int32).toInt8.toInt32) (fun S5 => some S5))))))
set_option maxHeartbeats 4000000 in
set_option maxRecDepth 100000 in
theorem c_X10_add (l : Launch) (b0 : Nat) (G : hG) (S S1 : HS) (h : Nat) (l1 : Int32) (hh : s_X10_add S h l1 = some S1) : MH l yX10_add wsX10_add rm_X10_add b0 G S [hrf b0 (some h), .int l1] none S1 0 0 := by
  refine MH.ofW (cc := cX10_add) (maxL := 2) (ret := none) (own := RX10) (lv0 := [(0, hrf b0 ((some h))), (1, .int l1)]) (by decide) rfl rfl (Nat.le_of_ble_eq_true rfl) rfl ?_
  intro p e s m args below meth c E hrt hlk hnm
  have hh : (kI S ((some h)) 10 1 (fun v1 => if 500 ≤ v1 then (some S) else (kP S ((some h)) 10 0 (fun v2 => kI S ((some h)) 10 1 (fun v3 => kwI S ((some h)) 10 1 (v3 + 1) (fun S4 => kwA S4 v2 13 v3 ((l1 : Int32).toInt8.toInt32) (fun S5 => some S5))))))) = some S1 := hh
  refine rw_aload_n E (j0 := 0) rfl rfl dX10_add_0 ?_
  refine rw_getI E hh (C := RX10) (T := TX10) (N := 8) rfl (by decide) i_X10_add_10 (by decide) rfl (List.mem_of_getElem? (i := 1) (by decide +kernel)) rfl dX10_add_1 (fun v1 hh => ?_)
  refine rw_sipush E (v := 500) (by decide) dX10_add_4 ?_
  refine rw_icmp_ge E hh (tgt := 27) (by decide) dX10_add_7 (fun hh => ?_) (fun hh => ?_)
  · exact rw_vret E hrt hlk hh (by decide) (by decide) dX10_add_27
  · refine rw_aload_n E (j0 := 0) rfl rfl dX10_add_10 ?_
    refine rw_getP E hh (C := RX10) (T := TX10) (N := 8) rfl (by decide) i_X10_add_10 (by decide) rfl (List.mem_of_getElem? (i := 2) (by decide +kernel)) rfl dX10_add_11 (fun v2 hh => ?_)
    refine rw_aload_n E (j0 := 0) rfl rfl dX10_add_14 ?_
    refine rw_dup E (hrf_cat _ _) dX10_add_15 ?_
    refine rw_getI E hh (C := RX10) (T := TX10) (N := 8) rfl (by decide) i_X10_add_10 (by decide) rfl (List.mem_of_getElem? (i := 1) (by decide +kernel)) rfl dX10_add_16 (fun v3 hh => ?_)
    refine rw_dup_x1 E rfl (hrf_cat _ _) dX10_add_19 ?_
    refine rw_iconst E (v := 1) (by decide) dX10_add_20 ?_
    refine rw_iadd E dX10_add_21 ?_
    refine rw_putI E hh (C := RX10) (T := TX10) (N := 8) (ty0 := tyX10) rfl tyX10_ok nmX10 (by decide) i_X10_add_10 (by decide) rfl (List.mem_of_getElem? (i := 1) (by decide +kernel)) rfl (Or.inl rfl) rfl dX10_add_22 (fun S4 hh => ?_)
    refine rw_iload_n E (j0 := 1) rfl rfl dX10_add_25 ?_
    refine rw_bast E hh dX10_add_26 (fun S5 hh => ?_)
    exact rw_vret E hrt hlk hh (by decide) (by decide) dX10_add_27

/-! HummingDisc$Tape.nextNumber()V -/
abbrev rm_X10_nextNumber : Room := { frames := 0, cells := 0, slots := 0, locals := 0 }
theorem i_X10_nextNumber_10 : ∀ w ∈ wsX100, w ∈ wsX10_nextNumber := fun _ h => List.mem_cons_of_mem _ (List.mem_append_right _ (h))
def s_X10_nextNumber_b121 (j48 : HS → Int32 → Int32 → Option (HS)) (h : Nat) (S : HS) (l1 : Int32) (l2 : Int32) : Option (HS) := kI S ((some h)) 10 6 (fun v1 => kwI S ((some h)) 10 6 (v1 + 1) (fun S2 => j48 S2 l1 l2))
set_option maxHeartbeats 4000000 in
set_option maxRecDepth 100000 in
theorem w_X10_nextNumber_b121 {p : Program} {l : Launch} {e : Env} {s : State} {m : MethodId} {args : Array Value} {below : List Frame} {meth : Method} {c : Code} {b0 : Nat} {G : hG} {S1 : HS} {j48 : HS → Int32 → Int32 → Option (HS)} {h : Nat} {S : HS} {l1 : Int32} {l2 : Int32} (E : hE p s m args c b0 G cX10_nextNumber RX10 3 wsX10_nextNumber) (hrt : meth.sig.returnType = none) (hlk : meth.locks = false) (hj48 : ∀ (S : HS) (l1 : Int32) (l2 : Int32), j48 S l1 l2 = some S1 → WH p l e rm_X10_nextNumber s m args below meth c b0 G 3 0 0 (MQ below (hQ b0 G none S1) args s 0 0 (hA b0)) S 48 [(0, hrf b0 ((some h))), (1, .int l1), (2, .int l2)] []) (hh : s_X10_nextNumber_b121 j48 h S l1 l2 = some S1) : WH p l e rm_X10_nextNumber s m args below meth c b0 G 3 0 0 (MQ below (hQ b0 G none S1) args s 0 0 (hA b0)) S 121 [(0, hrf b0 ((some h))), (1, .int l1), (2, .int l2)] [] := by
  have hh : (kI S ((some h)) 10 6 (fun v1 => kwI S ((some h)) 10 6 (v1 + 1) (fun S2 => j48 S2 l1 l2))) = some S1 := hh
  refine rw_aload_n E (j0 := 0) rfl rfl dX10_nextNumber_121 ?_
  refine rw_dup E (hrf_cat _ _) dX10_nextNumber_122 ?_
  refine rw_getI E hh (C := RX10) (T := TX10) (N := 8) rfl (by decide) i_X10_nextNumber_10 (by decide) rfl (List.mem_of_getElem? (i := 4) (by decide +kernel)) rfl dX10_nextNumber_123 (fun v1 hh => ?_)
  refine rw_iconst E (v := 1) (by decide) dX10_nextNumber_126 ?_
  refine rw_iadd E dX10_nextNumber_127 ?_
  refine rw_putI E hh (C := RX10) (T := TX10) (N := 8) (ty0 := tyX10) rfl tyX10_ok nmX10 (by decide) i_X10_nextNumber_10 (by decide) rfl (List.mem_of_getElem? (i := 4) (by decide +kernel)) rfl (Or.inl rfl) rfl dX10_nextNumber_128 (fun S2 hh => ?_)
  refine rw_goto E (tgt := 48) (by decide) dX10_nextNumber_131 ?_
  refine WH.pick [0, 1, 2] rfl ?_
  exact hj48 _ _ _ hh
def s_X10_nextNumber_b171 (h : Nat) (S : HS) (k0 : Option Nat) (k1 : Int32) : Option (HS) := kwI S k0 10 4 k1 (fun S1 => some S1)
set_option maxHeartbeats 4000000 in
set_option maxRecDepth 100000 in
theorem w_X10_nextNumber_b171 {p : Program} {l : Launch} {e : Env} {s : State} {m : MethodId} {args : Array Value} {below : List Frame} {meth : Method} {c : Code} {b0 : Nat} {G : hG} {S1 : HS} {h : Nat} {S : HS} {k0 : Option Nat} {k1 : Int32} (E : hE p s m args c b0 G cX10_nextNumber RX10 3 wsX10_nextNumber) (hrt : meth.sig.returnType = none) (hlk : meth.locks = false) (hh : s_X10_nextNumber_b171 h S k0 k1 = some S1) : WH p l e rm_X10_nextNumber s m args below meth c b0 G 3 0 0 (MQ below (hQ b0 G none S1) args s 0 0 (hA b0)) S 171 [] [.int k1, hrf b0 k0] := by
  have hh : (kwI S k0 10 4 k1 (fun S1 => some S1)) = some S1 := hh
  refine rw_putI E hh (C := RX10) (T := TX10) (N := 8) (ty0 := tyX10) rfl tyX10_ok nmX10 (by decide) i_X10_nextNumber_10 (by decide) rfl (List.mem_of_getElem? (i := 6) (by decide +kernel)) rfl (Or.inl rfl) rfl dX10_nextNumber_171 (fun S1 hh => ?_)
  exact rw_vret E hrt hlk hh (by decide) (by decide) dX10_nextNumber_174
def s_X10_nextNumber_b166 (h : Nat) (S : HS) (k0 : Option Nat) : Option (HS) := s_X10_nextNumber_b171 h S k0 4
set_option maxHeartbeats 4000000 in
set_option maxRecDepth 100000 in
theorem w_X10_nextNumber_b166 {p : Program} {l : Launch} {e : Env} {s : State} {m : MethodId} {args : Array Value} {below : List Frame} {meth : Method} {c : Code} {b0 : Nat} {G : hG} {S1 : HS} {h : Nat} {S : HS} {k0 : Option Nat} (E : hE p s m args c b0 G cX10_nextNumber RX10 3 wsX10_nextNumber) (hrt : meth.sig.returnType = none) (hlk : meth.locks = false) (hh : s_X10_nextNumber_b166 h S k0 = some S1) : WH p l e rm_X10_nextNumber s m args below meth c b0 G 3 0 0 (MQ below (hQ b0 G none S1) args s 0 0 (hA b0)) S 166 [] [hrf b0 k0] := by
  have hh : (s_X10_nextNumber_b171 h S k0 4) = some S1 := hh
  refine rw_iconst E (v := 4) (by decide) dX10_nextNumber_166 ?_
  refine rw_goto E (tgt := 171) (by decide) dX10_nextNumber_167 ?_
  refine WH.pick [] rfl ?_
  exact w_X10_nextNumber_b171 E hrt hlk hh
def s_X10_nextNumber_b147 (h : Nat) (S : HS) (l2 : Int32) : Option (HS) := kI S ((some h)) 10 6 (fun v1 => if v1 = l2 then (s_X10_nextNumber_b166 h S ((some h))) else (kI S ((some h)) 10 6 (fun v2 => if v2 - l2 ≤ 4 then (s_X10_nextNumber_b171 h S ((some h)) 2) else (s_X10_nextNumber_b166 h S ((some h))))))
set_option maxHeartbeats 4000000 in
set_option maxRecDepth 100000 in
theorem w_X10_nextNumber_b147 {p : Program} {l : Launch} {e : Env} {s : State} {m : MethodId} {args : Array Value} {below : List Frame} {meth : Method} {c : Code} {b0 : Nat} {G : hG} {S1 : HS} {h : Nat} {S : HS} {l2 : Int32} (E : hE p s m args c b0 G cX10_nextNumber RX10 3 wsX10_nextNumber) (hrt : meth.sig.returnType = none) (hlk : meth.locks = false) (hh : s_X10_nextNumber_b147 h S l2 = some S1) : WH p l e rm_X10_nextNumber s m args below meth c b0 G 3 0 0 (MQ below (hQ b0 G none S1) args s 0 0 (hA b0)) S 147 [(0, hrf b0 ((some h))), (2, .int l2)] [] := by
  have hh : (kI S ((some h)) 10 6 (fun v1 => if v1 = l2 then (s_X10_nextNumber_b166 h S ((some h))) else (kI S ((some h)) 10 6 (fun v2 => if v2 - l2 ≤ 4 then (s_X10_nextNumber_b171 h S ((some h)) 2) else (s_X10_nextNumber_b166 h S ((some h))))))) = some S1 := hh
  refine rw_aload_n E (j0 := 0) rfl rfl dX10_nextNumber_147 ?_
  refine rw_aload_n E (j0 := 0) rfl rfl dX10_nextNumber_148 ?_
  refine rw_getI E hh (C := RX10) (T := TX10) (N := 8) rfl (by decide) i_X10_nextNumber_10 (by decide) rfl (List.mem_of_getElem? (i := 4) (by decide +kernel)) rfl dX10_nextNumber_149 (fun v1 hh => ?_)
  refine rw_iload_n E (j0 := 1) rfl rfl dX10_nextNumber_152 ?_
  refine rw_icmp_eq E hh (tgt := 166) (by decide) dX10_nextNumber_153 (fun hh => ?_) (fun hh => ?_)
  · refine WH.pick [] rfl ?_
    exact w_X10_nextNumber_b166 E hrt hlk hh
  · refine rw_aload_n E (j0 := 0) rfl rfl dX10_nextNumber_156 ?_
    refine rw_getI E hh (C := RX10) (T := TX10) (N := 8) rfl (by decide) i_X10_nextNumber_10 (by decide) rfl (List.mem_of_getElem? (i := 4) (by decide +kernel)) rfl dX10_nextNumber_157 (fun v2 hh => ?_)
    refine rw_iload_n E (j0 := 1) rfl rfl dX10_nextNumber_160 ?_
    refine rw_isub E dX10_nextNumber_161 ?_
    refine rw_iconst E (v := 4) (by decide) dX10_nextNumber_162 ?_
    refine rw_icmp_le E hh (tgt := 170) (by decide) dX10_nextNumber_163 (fun hh => ?_) (fun hh => ?_)
    · refine rw_iconst E (v := 2) (by decide) dX10_nextNumber_170 ?_
      refine WH.pick [] rfl ?_
      exact w_X10_nextNumber_b171 E hrt hlk hh
    · refine WH.pick [] rfl ?_
      exact w_X10_nextNumber_b166 E hrt hlk hh
def s_X10_nextNumber_b134 (h : Nat) (S : HS) (l1 : Int32) (l2 : Int32) : Option (HS) := if l1 = 0 then (s_X10_nextNumber_b147 h S l2) else (kI S ((some h)) 10 7 (fun v1 => kwI S ((some h)) 10 7 (-v1) (fun S2 => s_X10_nextNumber_b147 h S2 l2)))
set_option maxHeartbeats 4000000 in
set_option maxRecDepth 100000 in
theorem w_X10_nextNumber_b134 {p : Program} {l : Launch} {e : Env} {s : State} {m : MethodId} {args : Array Value} {below : List Frame} {meth : Method} {c : Code} {b0 : Nat} {G : hG} {S1 : HS} {h : Nat} {S : HS} {l1 : Int32} {l2 : Int32} (E : hE p s m args c b0 G cX10_nextNumber RX10 3 wsX10_nextNumber) (hrt : meth.sig.returnType = none) (hlk : meth.locks = false) (hh : s_X10_nextNumber_b134 h S l1 l2 = some S1) : WH p l e rm_X10_nextNumber s m args below meth c b0 G 3 0 0 (MQ below (hQ b0 G none S1) args s 0 0 (hA b0)) S 134 [(0, hrf b0 ((some h))), (1, .int l1), (2, .int l2)] [] := by
  have hh : (if l1 = 0 then (s_X10_nextNumber_b147 h S l2) else (kI S ((some h)) 10 7 (fun v1 => kwI S ((some h)) 10 7 (-v1) (fun S2 => s_X10_nextNumber_b147 h S2 l2)))) = some S1 := hh
  refine rw_iload_n E (j0 := 1) rfl rfl dX10_nextNumber_134 ?_
  refine rw_if_eq E hh (tgt := 147) (by decide) dX10_nextNumber_135 (fun hh => ?_) (fun hh => ?_)
  · refine WH.pick [0, 2] rfl ?_
    exact w_X10_nextNumber_b147 E hrt hlk hh
  · refine rw_aload_n E (j0 := 0) rfl rfl dX10_nextNumber_138 ?_
    refine rw_aload_n E (j0 := 0) rfl rfl dX10_nextNumber_139 ?_
    refine rw_getI E hh (C := RX10) (T := TX10) (N := 8) rfl (by decide) i_X10_nextNumber_10 (by decide) rfl (List.mem_of_getElem? (i := 3) (by decide +kernel)) rfl dX10_nextNumber_140 (fun v1 hh => ?_)
    refine rw_ineg E dX10_nextNumber_143 ?_
    refine rw_putI E hh (C := RX10) (T := TX10) (N := 8) (ty0 := tyX10) rfl tyX10_ok nmX10 (by decide) i_X10_nextNumber_10 (by decide) rfl (List.mem_of_getElem? (i := 3) (by decide +kernel)) rfl (Or.inl rfl) rfl dX10_nextNumber_144 (fun S2 hh => ?_)
    refine WH.pick [0, 2] rfl ?_
    exact w_X10_nextNumber_b147 E hrt hlk hh
def s_X10_nextNumber_b48 (j48 : HS → Int32 → Int32 → Option (HS)) (h : Nat) (S : HS) (l1 : Int32) (l2 : Int32) : Option (HS) := kI S ((some h)) 10 6 (fun v1 => kI S ((some h)) 10 1 (fun v2 => if v2 ≤ v1 then (s_X10_nextNumber_b134 h S l1 l2) else (kP S ((some h)) 10 0 (fun v3 => kI S ((some h)) 10 6 (fun v4 => kA S v3 13 v4 (fun v5 => if v5 < 48 then (s_X10_nextNumber_b134 h S l1 l2) else (kP S ((some h)) 10 0 (fun v6 => kI S ((some h)) 10 6 (fun v7 => kA S v6 13 v7 (fun v8 => if 57 < v8 then (s_X10_nextNumber_b134 h S l1 l2) else (kI S ((some h)) 10 6 (fun v9 => if 4 ≤ v9 - l2 then (s_X10_nextNumber_b121 j48 h S l1 l2) else (kI S ((some h)) 10 7 (fun v10 => kP S ((some h)) 10 0 (fun v11 => kI S ((some h)) 10 6 (fun v12 => kA S v11 13 v12 (fun v13 => kwI S ((some h)) 10 7 (((10 * v10) + v13) - 48) (fun S14 => s_X10_nextNumber_b121 j48 h S14 l1 l2))))))))))))))))))
set_option maxHeartbeats 4000000 in
set_option maxRecDepth 100000 in
theorem w_X10_nextNumber_b48 {p : Program} {l : Launch} {e : Env} {s : State} {m : MethodId} {args : Array Value} {below : List Frame} {meth : Method} {c : Code} {b0 : Nat} {G : hG} {S1 : HS} {j48 : HS → Int32 → Int32 → Option (HS)} {h : Nat} {S : HS} {l1 : Int32} {l2 : Int32} (E : hE p s m args c b0 G cX10_nextNumber RX10 3 wsX10_nextNumber) (hrt : meth.sig.returnType = none) (hlk : meth.locks = false) (hj48 : ∀ (S : HS) (l1 : Int32) (l2 : Int32), j48 S l1 l2 = some S1 → WH p l e rm_X10_nextNumber s m args below meth c b0 G 3 0 0 (MQ below (hQ b0 G none S1) args s 0 0 (hA b0)) S 48 [(0, hrf b0 ((some h))), (1, .int l1), (2, .int l2)] []) (hh : s_X10_nextNumber_b48 j48 h S l1 l2 = some S1) : WH p l e rm_X10_nextNumber s m args below meth c b0 G 3 0 0 (MQ below (hQ b0 G none S1) args s 0 0 (hA b0)) S 48 [(0, hrf b0 ((some h))), (1, .int l1), (2, .int l2)] [] := by
  have hh : (kI S ((some h)) 10 6 (fun v1 => kI S ((some h)) 10 1 (fun v2 => if v2 ≤ v1 then (s_X10_nextNumber_b134 h S l1 l2) else (kP S ((some h)) 10 0 (fun v3 => kI S ((some h)) 10 6 (fun v4 => kA S v3 13 v4 (fun v5 => if v5 < 48 then (s_X10_nextNumber_b134 h S l1 l2) else (kP S ((some h)) 10 0 (fun v6 => kI S ((some h)) 10 6 (fun v7 => kA S v6 13 v7 (fun v8 => if 57 < v8 then (s_X10_nextNumber_b134 h S l1 l2) else (kI S ((some h)) 10 6 (fun v9 => if 4 ≤ v9 - l2 then (s_X10_nextNumber_b121 j48 h S l1 l2) else (kI S ((some h)) 10 7 (fun v10 => kP S ((some h)) 10 0 (fun v11 => kI S ((some h)) 10 6 (fun v12 => kA S v11 13 v12 (fun v13 => kwI S ((some h)) 10 7 (((10 * v10) + v13) - 48) (fun S14 => s_X10_nextNumber_b121 j48 h S14 l1 l2))))))))))))))))))) = some S1 := hh
  refine rw_aload_n E (j0 := 0) rfl rfl dX10_nextNumber_48 ?_
  refine rw_getI E hh (C := RX10) (T := TX10) (N := 8) rfl (by decide) i_X10_nextNumber_10 (by decide) rfl (List.mem_of_getElem? (i := 4) (by decide +kernel)) rfl dX10_nextNumber_49 (fun v1 hh => ?_)
  refine rw_aload_n E (j0 := 0) rfl rfl dX10_nextNumber_52 ?_
  refine rw_getI E hh (C := RX10) (T := TX10) (N := 8) rfl (by decide) i_X10_nextNumber_10 (by decide) rfl (List.mem_of_getElem? (i := 5) (by decide +kernel)) rfl dX10_nextNumber_53 (fun v2 hh => ?_)
  refine rw_icmp_ge E hh (tgt := 134) (by decide) dX10_nextNumber_56 (fun hh => ?_) (fun hh => ?_)
  · refine WH.pick [0, 1, 2] rfl ?_
    exact w_X10_nextNumber_b134 E hrt hlk hh
  · refine rw_aload_n E (j0 := 0) rfl rfl dX10_nextNumber_59 ?_
    refine rw_getP E hh (C := RX10) (T := TX10) (N := 8) rfl (by decide) i_X10_nextNumber_10 (by decide) rfl (List.mem_of_getElem? (i := 1) (by decide +kernel)) rfl dX10_nextNumber_60 (fun v3 hh => ?_)
    refine rw_aload_n E (j0 := 0) rfl rfl dX10_nextNumber_63 ?_
    refine rw_getI E hh (C := RX10) (T := TX10) (N := 8) rfl (by decide) i_X10_nextNumber_10 (by decide) rfl (List.mem_of_getElem? (i := 4) (by decide +kernel)) rfl dX10_nextNumber_64 (fun v4 hh => ?_)
    refine rw_bald E hh dX10_nextNumber_67 (fun v5 hh => ?_)
    refine rw_bipush E (v := 48) (by decide) dX10_nextNumber_68 ?_
    refine rw_icmp_lt E hh (tgt := 134) (by decide) dX10_nextNumber_70 (fun hh => ?_) (fun hh => ?_)
    · refine WH.pick [0, 1, 2] rfl ?_
      exact w_X10_nextNumber_b134 E hrt hlk hh
    · refine rw_aload_n E (j0 := 0) rfl rfl dX10_nextNumber_73 ?_
      refine rw_getP E hh (C := RX10) (T := TX10) (N := 8) rfl (by decide) i_X10_nextNumber_10 (by decide) rfl (List.mem_of_getElem? (i := 1) (by decide +kernel)) rfl dX10_nextNumber_74 (fun v6 hh => ?_)
      refine rw_aload_n E (j0 := 0) rfl rfl dX10_nextNumber_77 ?_
      refine rw_getI E hh (C := RX10) (T := TX10) (N := 8) rfl (by decide) i_X10_nextNumber_10 (by decide) rfl (List.mem_of_getElem? (i := 4) (by decide +kernel)) rfl dX10_nextNumber_78 (fun v7 hh => ?_)
      refine rw_bald E hh dX10_nextNumber_81 (fun v8 hh => ?_)
      refine rw_bipush E (v := 57) (by decide) dX10_nextNumber_82 ?_
      refine rw_icmp_gt E hh (tgt := 134) (by decide) dX10_nextNumber_84 (fun hh => ?_) (fun hh => ?_)
      · refine WH.pick [0, 1, 2] rfl ?_
        exact w_X10_nextNumber_b134 E hrt hlk hh
      · refine rw_aload_n E (j0 := 0) rfl rfl dX10_nextNumber_87 ?_
        refine rw_getI E hh (C := RX10) (T := TX10) (N := 8) rfl (by decide) i_X10_nextNumber_10 (by decide) rfl (List.mem_of_getElem? (i := 4) (by decide +kernel)) rfl dX10_nextNumber_88 (fun v9 hh => ?_)
        refine rw_iload_n E (j0 := 2) rfl rfl dX10_nextNumber_91 ?_
        refine rw_isub E dX10_nextNumber_92 ?_
        refine rw_iconst E (v := 4) (by decide) dX10_nextNumber_93 ?_
        refine rw_icmp_ge E hh (tgt := 121) (by decide) dX10_nextNumber_94 (fun hh => ?_) (fun hh => ?_)
        · refine WH.pick [0, 1, 2] rfl ?_
          exact w_X10_nextNumber_b121 E hrt hlk hj48 hh
        · refine rw_aload_n E (j0 := 0) rfl rfl dX10_nextNumber_97 ?_
          refine rw_bipush E (v := 10) (by decide) dX10_nextNumber_98 ?_
          refine rw_aload_n E (j0 := 0) rfl rfl dX10_nextNumber_100 ?_
          refine rw_getI E hh (C := RX10) (T := TX10) (N := 8) rfl (by decide) i_X10_nextNumber_10 (by decide) rfl (List.mem_of_getElem? (i := 3) (by decide +kernel)) rfl dX10_nextNumber_101 (fun v10 hh => ?_)
          refine rw_imul E dX10_nextNumber_104 ?_
          refine rw_aload_n E (j0 := 0) rfl rfl dX10_nextNumber_105 ?_
          refine rw_getP E hh (C := RX10) (T := TX10) (N := 8) rfl (by decide) i_X10_nextNumber_10 (by decide) rfl (List.mem_of_getElem? (i := 1) (by decide +kernel)) rfl dX10_nextNumber_106 (fun v11 hh => ?_)
          refine rw_aload_n E (j0 := 0) rfl rfl dX10_nextNumber_109 ?_
          refine rw_getI E hh (C := RX10) (T := TX10) (N := 8) rfl (by decide) i_X10_nextNumber_10 (by decide) rfl (List.mem_of_getElem? (i := 4) (by decide +kernel)) rfl dX10_nextNumber_110 (fun v12 hh => ?_)
          refine rw_bald E hh dX10_nextNumber_113 (fun v13 hh => ?_)
          refine rw_iadd E dX10_nextNumber_114 ?_
          refine rw_bipush E (v := 48) (by decide) dX10_nextNumber_115 ?_
          refine rw_isub E dX10_nextNumber_117 ?_
          refine rw_putI E hh (C := RX10) (T := TX10) (N := 8) (ty0 := tyX10) rfl tyX10_ok nmX10 (by decide) i_X10_nextNumber_10 (by decide) rfl (List.mem_of_getElem? (i := 3) (by decide +kernel)) rfl (Or.inl rfl) rfl dX10_nextNumber_118 (fun S14 hh => ?_)
          refine WH.pick [0, 1, 2] rfl ?_
          exact w_X10_nextNumber_b121 E hrt hlk hj48 hh
def s_X10_nextNumber_L48 (h : Nat) : Nat → HS → Int32 → Int32 → Option (HS)
  | 0 => fun _ _ _ => none
  | n + 1 => s_X10_nextNumber_b48 (s_X10_nextNumber_L48 h n) h
set_option maxHeartbeats 4000000 in
set_option maxRecDepth 100000 in
theorem w_X10_nextNumber_L48 {p : Program} {l : Launch} {e : Env} {s : State} {m : MethodId} {args : Array Value} {below : List Frame} {meth : Method} {c : Code} {b0 : Nat} {G : hG} {S1 : HS} {h : Nat} (E : hE p s m args c b0 G cX10_nextNumber RX10 3 wsX10_nextNumber) (hrt : meth.sig.returnType = none) (hlk : meth.locks = false) : ∀ (n : Nat) (S : HS) (l1 : Int32) (l2 : Int32), s_X10_nextNumber_L48 h n S l1 l2 = some S1 → WH p l e rm_X10_nextNumber s m args below meth c b0 G 3 0 0 (MQ below (hQ b0 G none S1) args s 0 0 (hA b0)) S 48 [(0, hrf b0 ((some h))), (1, .int l1), (2, .int l2)] [] := by
  intro n
  induction n with
  | zero => intro _ _ _ hh; exact absurd hh (by simp [s_X10_nextNumber_L48])
  | succ n ih => intro _ _ _ hh; exact w_X10_nextNumber_b48 E hrt hlk  ih hh
def s_X10_nextNumber_b37 (h : Nat) (S : HS) (l1 : Int32) (k0 : Int32) : Option (HS) := kwI S ((some h)) 10 7 0 (fun S1 => kwI S1 ((some h)) 10 6 k0 (fun S2 => s_X10_nextNumber_L48 h 100000 S2 l1 k0))
set_option maxHeartbeats 4000000 in
set_option maxRecDepth 100000 in
theorem w_X10_nextNumber_b37 {p : Program} {l : Launch} {e : Env} {s : State} {m : MethodId} {args : Array Value} {below : List Frame} {meth : Method} {c : Code} {b0 : Nat} {G : hG} {S1 : HS} {h : Nat} {S : HS} {l1 : Int32} {k0 : Int32} (E : hE p s m args c b0 G cX10_nextNumber RX10 3 wsX10_nextNumber) (hrt : meth.sig.returnType = none) (hlk : meth.locks = false) (hh : s_X10_nextNumber_b37 h S l1 k0 = some S1) : WH p l e rm_X10_nextNumber s m args below meth c b0 G 3 0 0 (MQ below (hQ b0 G none S1) args s 0 0 (hA b0)) S 37 [(0, hrf b0 ((some h))), (1, .int l1)] [.int k0] := by
  have hh : (kwI S ((some h)) 10 7 0 (fun S1 => kwI S1 ((some h)) 10 6 k0 (fun S2 => s_X10_nextNumber_L48 h 100000 S2 l1 k0))) = some S1 := hh
  refine rw_istore_n E (lv2 := [(2, .int k0), (0, hrf b0 ((some h))), (1, .int l1)]) rfl (by decide) rfl dX10_nextNumber_37 ?_
  refine rw_aload_n E (j0 := 1) rfl rfl dX10_nextNumber_38 ?_
  refine rw_iconst E (v := 0) (by decide) dX10_nextNumber_39 ?_
  refine rw_putI E hh (C := RX10) (T := TX10) (N := 8) (ty0 := tyX10) rfl tyX10_ok nmX10 (by decide) i_X10_nextNumber_10 (by decide) rfl (List.mem_of_getElem? (i := 3) (by decide +kernel)) rfl (Or.inl rfl) rfl dX10_nextNumber_40 (fun S1 hh => ?_)
  refine rw_aload_n E (j0 := 1) rfl rfl dX10_nextNumber_43 ?_
  refine rw_iload_n E (j0 := 0) rfl rfl dX10_nextNumber_44 ?_
  refine rw_putI E hh (C := RX10) (T := TX10) (N := 8) (ty0 := tyX10) rfl tyX10_ok nmX10 (by decide) i_X10_nextNumber_10 (by decide) rfl (List.mem_of_getElem? (i := 4) (by decide +kernel)) rfl (Or.inl rfl) rfl dX10_nextNumber_45 (fun S2 hh => ?_)
  refine WH.pick [1, 2, 0] rfl ?_
  exact w_X10_nextNumber_L48 E hrt hlk 100000 _ _ _ hh
def s_X10_nextNumber_b19 (h : Nat) (S : HS) (k0 : Int32) : Option (HS) := if k0 = 0 then (kI S ((some h)) 10 5 (fun v1 => s_X10_nextNumber_b37 h S k0 v1)) else (kI S ((some h)) 10 5 (fun v2 => s_X10_nextNumber_b37 h S k0 (v2 + 1)))
set_option maxHeartbeats 4000000 in
set_option maxRecDepth 100000 in
theorem w_X10_nextNumber_b19 {p : Program} {l : Launch} {e : Env} {s : State} {m : MethodId} {args : Array Value} {below : List Frame} {meth : Method} {c : Code} {b0 : Nat} {G : hG} {S1 : HS} {h : Nat} {S : HS} {k0 : Int32} (E : hE p s m args c b0 G cX10_nextNumber RX10 3 wsX10_nextNumber) (hrt : meth.sig.returnType = none) (hlk : meth.locks = false) (hh : s_X10_nextNumber_b19 h S k0 = some S1) : WH p l e rm_X10_nextNumber s m args below meth c b0 G 3 0 0 (MQ below (hQ b0 G none S1) args s 0 0 (hA b0)) S 19 [(0, hrf b0 ((some h)))] [.int k0] := by
  have hh : (if k0 = 0 then (kI S ((some h)) 10 5 (fun v1 => s_X10_nextNumber_b37 h S k0 v1)) else (kI S ((some h)) 10 5 (fun v2 => s_X10_nextNumber_b37 h S k0 (v2 + 1)))) = some S1 := hh
  refine rw_istore_n E (lv2 := [(1, .int k0), (0, hrf b0 ((some h)))]) rfl (by decide) rfl dX10_nextNumber_19 ?_
  refine rw_iload_n E (j0 := 0) rfl rfl dX10_nextNumber_20 ?_
  refine rw_if_eq E hh (tgt := 33) (by decide) dX10_nextNumber_21 (fun hh => ?_) (fun hh => ?_)
  · refine rw_aload_n E (j0 := 1) rfl rfl dX10_nextNumber_33 ?_
    refine rw_getI E hh (C := RX10) (T := TX10) (N := 8) rfl (by decide) i_X10_nextNumber_10 (by decide) rfl (List.mem_of_getElem? (i := 2) (by decide +kernel)) rfl dX10_nextNumber_34 (fun v1 hh => ?_)
    refine WH.pick [1, 0] rfl ?_
    exact w_X10_nextNumber_b37 E hrt hlk hh
  · refine rw_aload_n E (j0 := 1) rfl rfl dX10_nextNumber_24 ?_
    refine rw_getI E hh (C := RX10) (T := TX10) (N := 8) rfl (by decide) i_X10_nextNumber_10 (by decide) rfl (List.mem_of_getElem? (i := 2) (by decide +kernel)) rfl dX10_nextNumber_25 (fun v2 hh => ?_)
    refine rw_iconst E (v := 1) (by decide) dX10_nextNumber_28 ?_
    refine rw_iadd E dX10_nextNumber_29 ?_
    refine rw_goto E (tgt := 37) (by decide) dX10_nextNumber_30 ?_
    refine WH.pick [1, 0] rfl ?_
    exact w_X10_nextNumber_b37 E hrt hlk hh
def s_X10_nextNumber (S : HS) (h : Nat) : Option (HS) := kP S ((some h)) 10 0 (fun v1 => kI S ((some h)) 10 5 (fun v2 => kA S v1 13 v2 (fun v3 => if v3 = 45 then (s_X10_nextNumber_b19 h S 1) else (s_X10_nextNumber_b19 h S 0))))
set_option maxHeartbeats 4000000 in
set_option maxRecDepth 100000 in
theorem c_X10_nextNumber (l : Launch) (b0 : Nat) (G : hG) (S S1 : HS) (h : Nat) (hh : s_X10_nextNumber S h  = some S1) : MH l yX10_nextNumber wsX10_nextNumber rm_X10_nextNumber b0 G S [hrf b0 (some h)] none S1 0 0 := by
  refine MH.ofW (cc := cX10_nextNumber) (maxL := 3) (ret := none) (own := RX10) (lv0 := [(0, hrf b0 ((some h)))]) (by decide) rfl rfl (Nat.le_of_ble_eq_true rfl) rfl ?_
  intro p e s m args below meth c E hrt hlk hnm
  have hh : (kP S ((some h)) 10 0 (fun v1 => kI S ((some h)) 10 5 (fun v2 => kA S v1 13 v2 (fun v3 => if v3 = 45 then (s_X10_nextNumber_b19 h S 1) else (s_X10_nextNumber_b19 h S 0))))) = some S1 := hh
  refine rw_aload_n E (j0 := 0) rfl rfl dX10_nextNumber_0 ?_
  refine rw_getP E hh (C := RX10) (T := TX10) (N := 8) rfl (by decide) i_X10_nextNumber_10 (by decide) rfl (List.mem_of_getElem? (i := 1) (by decide +kernel)) rfl dX10_nextNumber_1 (fun v1 hh => ?_)
  refine rw_aload_n E (j0 := 0) rfl rfl dX10_nextNumber_4 ?_
  refine rw_getI E hh (C := RX10) (T := TX10) (N := 8) rfl (by decide) i_X10_nextNumber_10 (by decide) rfl (List.mem_of_getElem? (i := 2) (by decide +kernel)) rfl dX10_nextNumber_5 (fun v2 hh => ?_)
  refine rw_bald E hh dX10_nextNumber_8 (fun v3 hh => ?_)
  refine rw_bipush E (v := 45) (by decide) dX10_nextNumber_9 ?_
  refine rw_icmp_ne E hh (tgt := 18) (by decide) dX10_nextNumber_11 (fun hh => ?_) (fun hh => ?_)
  · refine rw_iconst E (v := 0) (by decide) dX10_nextNumber_18 ?_
    refine WH.pick [0] rfl ?_
    exact w_X10_nextNumber_b19 E hrt hlk hh
  · refine rw_iconst E (v := 1) (by decide) dX10_nextNumber_14 ?_
    refine rw_goto E (tgt := 19) (by decide) dX10_nextNumber_15 ?_
    refine WH.pick [0] rfl ?_
    exact w_X10_nextNumber_b19 E hrt hlk hh

/-! HummingDisc$Tape.nextToken()V -/
abbrev rm_X10_nextToken : Room := { frames := 1, cells := 0, slots := 0, locals := 22 }
theorem i_X10_nextToken_10 : ∀ w ∈ wsX100, w ∈ wsX10_nextToken := fun _ h => List.mem_cons_of_mem _ (List.mem_append_right _ (h))
def s_X10_nextToken_b47 (j8 : HS → Option (HS)) (h : Nat) (S : HS) : Option (HS) := kI S ((some h)) 10 5 (fun v1 => kwI S ((some h)) 10 5 (v1 + 1) (fun S2 => j8 S2))
set_option maxHeartbeats 4000000 in
set_option maxRecDepth 100000 in
theorem w_X10_nextToken_b47 {p : Program} {l : Launch} {e : Env} {s : State} {m : MethodId} {args : Array Value} {below : List Frame} {meth : Method} {c : Code} {b0 : Nat} {G : hG} {S1 : HS} {j8 : HS → Option (HS)} {h : Nat} {S : HS} (E : hE p s m args c b0 G cX10_nextToken RX10 1 wsX10_nextToken) (hrt : meth.sig.returnType = none) (hlk : meth.locks = false) (hj8 : ∀ (S : HS), j8 S = some S1 → WH p l e rm_X10_nextToken s m args below meth c b0 G 1 0 0 (MQ below (hQ b0 G none S1) args s 0 0 (hA b0)) S 8 [(0, hrf b0 ((some h)))] []) (hh : s_X10_nextToken_b47 j8 h S = some S1) : WH p l e rm_X10_nextToken s m args below meth c b0 G 1 0 0 (MQ below (hQ b0 G none S1) args s 0 0 (hA b0)) S 47 [(0, hrf b0 ((some h)))] [] := by
  have hh : (kI S ((some h)) 10 5 (fun v1 => kwI S ((some h)) 10 5 (v1 + 1) (fun S2 => j8 S2))) = some S1 := hh
  refine rw_aload_n E (j0 := 0) rfl rfl dX10_nextToken_47 ?_
  refine rw_dup E (hrf_cat _ _) dX10_nextToken_48 ?_
  refine rw_getI E hh (C := RX10) (T := TX10) (N := 8) rfl (by decide) i_X10_nextToken_10 (by decide) rfl (List.mem_of_getElem? (i := 2) (by decide +kernel)) rfl dX10_nextToken_49 (fun v1 hh => ?_)
  refine rw_iconst E (v := 1) (by decide) dX10_nextToken_52 ?_
  refine rw_iadd E dX10_nextToken_53 ?_
  refine rw_putI E hh (C := RX10) (T := TX10) (N := 8) (ty0 := tyX10) rfl tyX10_ok nmX10 (by decide) i_X10_nextToken_10 (by decide) rfl (List.mem_of_getElem? (i := 2) (by decide +kernel)) rfl (Or.inl rfl) rfl dX10_nextToken_54 (fun S2 hh => ?_)
  refine rw_goto E (tgt := 8) (by decide) dX10_nextToken_57 ?_
  refine WH.pick [0] rfl ?_
  exact hj8 _ hh
def s_X10_nextToken_b120 (h : Nat) (S : HS) : Option (HS) := kI S ((some h)) 10 5 (fun v1 => kI S ((some h)) 10 1 (fun v2 => if v1 < v2 then (kI S ((some h)) 10 6 (fun v3 => kI S ((some h)) 10 5 (fun v4 => if v3 ≤ v4 then (kP S ((some h)) 10 0 (fun v5 => kI S ((some h)) 10 5 (fun v6 => kA S v5 13 v6 (fun v7 => if v7 = 59 then (kwI S ((some h)) 10 4 3 (fun S10 => kI S10 ((some h)) 10 6 (fun v11 => kwI S10 ((some h)) 10 6 (v11 + 1) (fun S12 => some S12)))) else (kO S ((some h)) 10 (fun a9 => kcv (s_X10_nextNumber S a9 ) (fun S8 => some S8))))))) else (kwI S ((some h)) 10 4 1 (fun S13 => some S13))))) else (kwI S ((some h)) 10 4 0 (fun S14 => some S14))))
set_option maxHeartbeats 4000000 in
set_option maxRecDepth 100000 in
theorem w_X10_nextToken_b120 {p : Program} {l : Launch} {e : Env} {s : State} {m : MethodId} {args : Array Value} {below : List Frame} {meth : Method} {c : Code} {b0 : Nat} {G : hG} {S1 : HS} {h : Nat} {S : HS} (E : hE p s m args c b0 G cX10_nextToken RX10 1 wsX10_nextToken) (hrt : meth.sig.returnType = none) (hlk : meth.locks = false) (hh : s_X10_nextToken_b120 h S = some S1) : WH p l e rm_X10_nextToken s m args below meth c b0 G 1 0 0 (MQ below (hQ b0 G none S1) args s 0 0 (hA b0)) S 120 [(0, hrf b0 ((some h)))] [] := by
  have hh : (kI S ((some h)) 10 5 (fun v1 => kI S ((some h)) 10 1 (fun v2 => if v1 < v2 then (kI S ((some h)) 10 6 (fun v3 => kI S ((some h)) 10 5 (fun v4 => if v3 ≤ v4 then (kP S ((some h)) 10 0 (fun v5 => kI S ((some h)) 10 5 (fun v6 => kA S v5 13 v6 (fun v7 => if v7 = 59 then (kwI S ((some h)) 10 4 3 (fun S10 => kI S10 ((some h)) 10 6 (fun v11 => kwI S10 ((some h)) 10 6 (v11 + 1) (fun S12 => some S12)))) else (kO S ((some h)) 10 (fun a9 => kcv (s_X10_nextNumber S a9 ) (fun S8 => some S8))))))) else (kwI S ((some h)) 10 4 1 (fun S13 => some S13))))) else (kwI S ((some h)) 10 4 0 (fun S14 => some S14))))) = some S1 := hh
  refine rw_aload_n E (j0 := 0) rfl rfl dX10_nextToken_120 ?_
  refine rw_getI E hh (C := RX10) (T := TX10) (N := 8) rfl (by decide) i_X10_nextToken_10 (by decide) rfl (List.mem_of_getElem? (i := 2) (by decide +kernel)) rfl dX10_nextToken_121 (fun v1 hh => ?_)
  refine rw_aload_n E (j0 := 0) rfl rfl dX10_nextToken_124 ?_
  refine rw_getI E hh (C := RX10) (T := TX10) (N := 8) rfl (by decide) i_X10_nextToken_10 (by decide) rfl (List.mem_of_getElem? (i := 3) (by decide +kernel)) rfl dX10_nextToken_125 (fun v2 hh => ?_)
  refine rw_icmp_lt E hh (tgt := 139) (by decide) dX10_nextToken_128 (fun hh => ?_) (fun hh => ?_)
  · refine rw_aload_n E (j0 := 0) rfl rfl dX10_nextToken_139 ?_
    refine rw_getI E hh (C := RX10) (T := TX10) (N := 8) rfl (by decide) i_X10_nextToken_10 (by decide) rfl (List.mem_of_getElem? (i := 1) (by decide +kernel)) rfl dX10_nextToken_140 (fun v3 hh => ?_)
    refine rw_aload_n E (j0 := 0) rfl rfl dX10_nextToken_143 ?_
    refine rw_getI E hh (C := RX10) (T := TX10) (N := 8) rfl (by decide) i_X10_nextToken_10 (by decide) rfl (List.mem_of_getElem? (i := 2) (by decide +kernel)) rfl dX10_nextToken_144 (fun v4 hh => ?_)
    refine rw_icmp_le E hh (tgt := 158) (by decide) dX10_nextToken_147 (fun hh => ?_) (fun hh => ?_)
    · refine rw_aload_n E (j0 := 0) rfl rfl dX10_nextToken_158 ?_
      refine rw_getP E hh (C := RX10) (T := TX10) (N := 8) rfl (by decide) i_X10_nextToken_10 (by decide) rfl (List.mem_of_getElem? (i := 4) (by decide +kernel)) rfl dX10_nextToken_159 (fun v5 hh => ?_)
      refine rw_aload_n E (j0 := 0) rfl rfl dX10_nextToken_162 ?_
      refine rw_getI E hh (C := RX10) (T := TX10) (N := 8) rfl (by decide) i_X10_nextToken_10 (by decide) rfl (List.mem_of_getElem? (i := 2) (by decide +kernel)) rfl dX10_nextToken_163 (fun v6 hh => ?_)
      refine rw_bald E hh dX10_nextToken_166 (fun v7 hh => ?_)
      refine rw_bipush E (v := 59) (by decide) dX10_nextToken_167 ?_
      refine rw_icmp_ne E hh (tgt := 190) (by decide) dX10_nextToken_169 (fun hh => ?_) (fun hh => ?_)
      · refine rw_aload_n E (j0 := 0) rfl rfl dX10_nextToken_190 ?_
        refine rw_cVv E (As := []) hh (by decide) rfl (fun _ _ hq => c_X10_nextNumber l b0 G _ _ _ hq) (cwV 0 E.2.2.2.2.1 gX10_nextToken_X10_nextNumber rfl rfl rfl (by decide +kernel) ⟨Nat.le_of_ble_eq_true rfl, Nat.le_of_ble_eq_true rfl⟩) rfl rfl (by (try simp only [List.map_cons, List.map_nil, List.sum_cons, List.sum_nil, hrf_cat, cat_i, cat_l, cat_r]) <;> decide) ⟨Nat.le_of_ble_eq_true rfl, Nat.le_of_ble_eq_true rfl⟩ dX10_nextToken_191 (fun S8 hh => ?_)
        exact rw_vret E hrt hlk hh (by decide) (by decide) dX10_nextToken_194
      · refine rw_aload_n E (j0 := 0) rfl rfl dX10_nextToken_172 ?_
        refine rw_iconst E (v := 3) (by decide) dX10_nextToken_173 ?_
        refine rw_putI E hh (C := RX10) (T := TX10) (N := 8) (ty0 := tyX10) rfl tyX10_ok nmX10 (by decide) i_X10_nextToken_10 (by decide) rfl (List.mem_of_getElem? (i := 5) (by decide +kernel)) rfl (Or.inl rfl) rfl dX10_nextToken_174 (fun S10 hh => ?_)
        refine rw_aload_n E (j0 := 0) rfl rfl dX10_nextToken_177 ?_
        refine rw_dup E (hrf_cat _ _) dX10_nextToken_178 ?_
        refine rw_getI E hh (C := RX10) (T := TX10) (N := 8) rfl (by decide) i_X10_nextToken_10 (by decide) rfl (List.mem_of_getElem? (i := 1) (by decide +kernel)) rfl dX10_nextToken_179 (fun v11 hh => ?_)
        refine rw_iconst E (v := 1) (by decide) dX10_nextToken_182 ?_
        refine rw_iadd E dX10_nextToken_183 ?_
        refine rw_putI E hh (C := RX10) (T := TX10) (N := 8) (ty0 := tyX10) rfl tyX10_ok nmX10 (by decide) i_X10_nextToken_10 (by decide) rfl (List.mem_of_getElem? (i := 1) (by decide +kernel)) rfl (Or.inl rfl) rfl dX10_nextToken_184 (fun S12 hh => ?_)
        refine rw_goto E (tgt := 194) (by decide) dX10_nextToken_187 ?_
        exact rw_vret E hrt hlk hh (by decide) (by decide) dX10_nextToken_194
    · refine rw_aload_n E (j0 := 0) rfl rfl dX10_nextToken_150 ?_
      refine rw_iconst E (v := 1) (by decide) dX10_nextToken_151 ?_
      refine rw_putI E hh (C := RX10) (T := TX10) (N := 8) (ty0 := tyX10) rfl tyX10_ok nmX10 (by decide) i_X10_nextToken_10 (by decide) rfl (List.mem_of_getElem? (i := 5) (by decide +kernel)) rfl (Or.inl rfl) rfl dX10_nextToken_152 (fun S13 hh => ?_)
      refine rw_goto E (tgt := 194) (by decide) dX10_nextToken_155 ?_
      exact rw_vret E hrt hlk hh (by decide) (by decide) dX10_nextToken_194
  · refine rw_aload_n E (j0 := 0) rfl rfl dX10_nextToken_131 ?_
    refine rw_iconst E (v := 0) (by decide) dX10_nextToken_132 ?_
    refine rw_putI E hh (C := RX10) (T := TX10) (N := 8) (ty0 := tyX10) rfl tyX10_ok nmX10 (by decide) i_X10_nextToken_10 (by decide) rfl (List.mem_of_getElem? (i := 5) (by decide +kernel)) rfl (Or.inl rfl) rfl dX10_nextToken_133 (fun S14 hh => ?_)
    refine rw_goto E (tgt := 194) (by decide) dX10_nextToken_136 ?_
    exact rw_vret E hrt hlk hh (by decide) (by decide) dX10_nextToken_194
def s_X10_nextToken_b68 (j68 : HS → Option (HS)) (h : Nat) (S : HS) : Option (HS) := kI S ((some h)) 10 6 (fun v1 => kI S ((some h)) 10 1 (fun v2 => if v2 ≤ v1 then (s_X10_nextToken_b120 h S) else (kP S ((some h)) 10 0 (fun v3 => kI S ((some h)) 10 6 (fun v4 => kA S v3 13 v4 (fun v5 => if v5 < 97 then (s_X10_nextToken_b120 h S) else (kP S ((some h)) 10 0 (fun v6 => kI S ((some h)) 10 6 (fun v7 => kA S v6 13 v7 (fun v8 => if 122 < v8 then (s_X10_nextToken_b120 h S) else (kI S ((some h)) 10 6 (fun v9 => kwI S ((some h)) 10 6 (v9 + 1) (fun S10 => j68 S10)))))))))))))
set_option maxHeartbeats 4000000 in
set_option maxRecDepth 100000 in
theorem w_X10_nextToken_b68 {p : Program} {l : Launch} {e : Env} {s : State} {m : MethodId} {args : Array Value} {below : List Frame} {meth : Method} {c : Code} {b0 : Nat} {G : hG} {S1 : HS} {j68 : HS → Option (HS)} {h : Nat} {S : HS} (E : hE p s m args c b0 G cX10_nextToken RX10 1 wsX10_nextToken) (hrt : meth.sig.returnType = none) (hlk : meth.locks = false) (hj68 : ∀ (S : HS), j68 S = some S1 → WH p l e rm_X10_nextToken s m args below meth c b0 G 1 0 0 (MQ below (hQ b0 G none S1) args s 0 0 (hA b0)) S 68 [(0, hrf b0 ((some h)))] []) (hh : s_X10_nextToken_b68 j68 h S = some S1) : WH p l e rm_X10_nextToken s m args below meth c b0 G 1 0 0 (MQ below (hQ b0 G none S1) args s 0 0 (hA b0)) S 68 [(0, hrf b0 ((some h)))] [] := by
  have hh : (kI S ((some h)) 10 6 (fun v1 => kI S ((some h)) 10 1 (fun v2 => if v2 ≤ v1 then (s_X10_nextToken_b120 h S) else (kP S ((some h)) 10 0 (fun v3 => kI S ((some h)) 10 6 (fun v4 => kA S v3 13 v4 (fun v5 => if v5 < 97 then (s_X10_nextToken_b120 h S) else (kP S ((some h)) 10 0 (fun v6 => kI S ((some h)) 10 6 (fun v7 => kA S v6 13 v7 (fun v8 => if 122 < v8 then (s_X10_nextToken_b120 h S) else (kI S ((some h)) 10 6 (fun v9 => kwI S ((some h)) 10 6 (v9 + 1) (fun S10 => j68 S10)))))))))))))) = some S1 := hh
  refine rw_aload_n E (j0 := 0) rfl rfl dX10_nextToken_68 ?_
  refine rw_getI E hh (C := RX10) (T := TX10) (N := 8) rfl (by decide) i_X10_nextToken_10 (by decide) rfl (List.mem_of_getElem? (i := 1) (by decide +kernel)) rfl dX10_nextToken_69 (fun v1 hh => ?_)
  refine rw_aload_n E (j0 := 0) rfl rfl dX10_nextToken_72 ?_
  refine rw_getI E hh (C := RX10) (T := TX10) (N := 8) rfl (by decide) i_X10_nextToken_10 (by decide) rfl (List.mem_of_getElem? (i := 3) (by decide +kernel)) rfl dX10_nextToken_73 (fun v2 hh => ?_)
  refine rw_icmp_ge E hh (tgt := 120) (by decide) dX10_nextToken_76 (fun hh => ?_) (fun hh => ?_)
  · refine WH.pick [0] rfl ?_
    exact w_X10_nextToken_b120 E hrt hlk hh
  · refine rw_aload_n E (j0 := 0) rfl rfl dX10_nextToken_79 ?_
    refine rw_getP E hh (C := RX10) (T := TX10) (N := 8) rfl (by decide) i_X10_nextToken_10 (by decide) rfl (List.mem_of_getElem? (i := 4) (by decide +kernel)) rfl dX10_nextToken_80 (fun v3 hh => ?_)
    refine rw_aload_n E (j0 := 0) rfl rfl dX10_nextToken_83 ?_
    refine rw_getI E hh (C := RX10) (T := TX10) (N := 8) rfl (by decide) i_X10_nextToken_10 (by decide) rfl (List.mem_of_getElem? (i := 1) (by decide +kernel)) rfl dX10_nextToken_84 (fun v4 hh => ?_)
    refine rw_bald E hh dX10_nextToken_87 (fun v5 hh => ?_)
    refine rw_bipush E (v := 97) (by decide) dX10_nextToken_88 ?_
    refine rw_icmp_lt E hh (tgt := 120) (by decide) dX10_nextToken_90 (fun hh => ?_) (fun hh => ?_)
    · refine WH.pick [0] rfl ?_
      exact w_X10_nextToken_b120 E hrt hlk hh
    · refine rw_aload_n E (j0 := 0) rfl rfl dX10_nextToken_93 ?_
      refine rw_getP E hh (C := RX10) (T := TX10) (N := 8) rfl (by decide) i_X10_nextToken_10 (by decide) rfl (List.mem_of_getElem? (i := 4) (by decide +kernel)) rfl dX10_nextToken_94 (fun v6 hh => ?_)
      refine rw_aload_n E (j0 := 0) rfl rfl dX10_nextToken_97 ?_
      refine rw_getI E hh (C := RX10) (T := TX10) (N := 8) rfl (by decide) i_X10_nextToken_10 (by decide) rfl (List.mem_of_getElem? (i := 1) (by decide +kernel)) rfl dX10_nextToken_98 (fun v7 hh => ?_)
      refine rw_bald E hh dX10_nextToken_101 (fun v8 hh => ?_)
      refine rw_bipush E (v := 122) (by decide) dX10_nextToken_102 ?_
      refine rw_icmp_gt E hh (tgt := 120) (by decide) dX10_nextToken_104 (fun hh => ?_) (fun hh => ?_)
      · refine WH.pick [0] rfl ?_
        exact w_X10_nextToken_b120 E hrt hlk hh
      · refine rw_aload_n E (j0 := 0) rfl rfl dX10_nextToken_107 ?_
        refine rw_dup E (hrf_cat _ _) dX10_nextToken_108 ?_
        refine rw_getI E hh (C := RX10) (T := TX10) (N := 8) rfl (by decide) i_X10_nextToken_10 (by decide) rfl (List.mem_of_getElem? (i := 1) (by decide +kernel)) rfl dX10_nextToken_109 (fun v9 hh => ?_)
        refine rw_iconst E (v := 1) (by decide) dX10_nextToken_112 ?_
        refine rw_iadd E dX10_nextToken_113 ?_
        refine rw_putI E hh (C := RX10) (T := TX10) (N := 8) (ty0 := tyX10) rfl tyX10_ok nmX10 (by decide) i_X10_nextToken_10 (by decide) rfl (List.mem_of_getElem? (i := 1) (by decide +kernel)) rfl (Or.inl rfl) rfl dX10_nextToken_114 (fun S10 hh => ?_)
        refine rw_goto E (tgt := 68) (by decide) dX10_nextToken_117 ?_
        refine WH.pick [0] rfl ?_
        exact hj68 _ hh
def s_X10_nextToken_L68 (h : Nat) : Nat → HS → Option (HS)
  | 0 => fun _ => none
  | n + 1 => s_X10_nextToken_b68 (s_X10_nextToken_L68 h n) h
set_option maxHeartbeats 4000000 in
set_option maxRecDepth 100000 in
theorem w_X10_nextToken_L68 {p : Program} {l : Launch} {e : Env} {s : State} {m : MethodId} {args : Array Value} {below : List Frame} {meth : Method} {c : Code} {b0 : Nat} {G : hG} {S1 : HS} {h : Nat} (E : hE p s m args c b0 G cX10_nextToken RX10 1 wsX10_nextToken) (hrt : meth.sig.returnType = none) (hlk : meth.locks = false) : ∀ (n : Nat) (S : HS), s_X10_nextToken_L68 h n S = some S1 → WH p l e rm_X10_nextToken s m args below meth c b0 G 1 0 0 (MQ below (hQ b0 G none S1) args s 0 0 (hA b0)) S 68 [(0, hrf b0 ((some h)))] [] := by
  intro n
  induction n with
  | zero => intro _ hh; exact absurd hh (by simp [s_X10_nextToken_L68])
  | succ n ih => intro _ hh; exact w_X10_nextToken_b68 E hrt hlk  ih hh
def s_X10_nextToken_b60 (h : Nat) (S : HS) : Option (HS) := kI S ((some h)) 10 5 (fun v1 => kwI S ((some h)) 10 6 v1 (fun S2 => s_X10_nextToken_L68 h 100000 S2))
set_option maxHeartbeats 4000000 in
set_option maxRecDepth 100000 in
theorem w_X10_nextToken_b60 {p : Program} {l : Launch} {e : Env} {s : State} {m : MethodId} {args : Array Value} {below : List Frame} {meth : Method} {c : Code} {b0 : Nat} {G : hG} {S1 : HS} {h : Nat} {S : HS} (E : hE p s m args c b0 G cX10_nextToken RX10 1 wsX10_nextToken) (hrt : meth.sig.returnType = none) (hlk : meth.locks = false) (hh : s_X10_nextToken_b60 h S = some S1) : WH p l e rm_X10_nextToken s m args below meth c b0 G 1 0 0 (MQ below (hQ b0 G none S1) args s 0 0 (hA b0)) S 60 [(0, hrf b0 ((some h)))] [] := by
  have hh : (kI S ((some h)) 10 5 (fun v1 => kwI S ((some h)) 10 6 v1 (fun S2 => s_X10_nextToken_L68 h 100000 S2))) = some S1 := hh
  refine rw_aload_n E (j0 := 0) rfl rfl dX10_nextToken_60 ?_
  refine rw_aload_n E (j0 := 0) rfl rfl dX10_nextToken_61 ?_
  refine rw_getI E hh (C := RX10) (T := TX10) (N := 8) rfl (by decide) i_X10_nextToken_10 (by decide) rfl (List.mem_of_getElem? (i := 2) (by decide +kernel)) rfl dX10_nextToken_62 (fun v1 hh => ?_)
  refine rw_putI E hh (C := RX10) (T := TX10) (N := 8) (ty0 := tyX10) rfl tyX10_ok nmX10 (by decide) i_X10_nextToken_10 (by decide) rfl (List.mem_of_getElem? (i := 1) (by decide +kernel)) rfl (Or.inl rfl) rfl dX10_nextToken_65 (fun S2 hh => ?_)
  refine WH.pick [0] rfl ?_
  exact w_X10_nextToken_L68 E hrt hlk 100000 _ hh
def s_X10_nextToken_b8 (j8 : HS → Option (HS)) (h : Nat) (S : HS) : Option (HS) := kI S ((some h)) 10 5 (fun v1 => kI S ((some h)) 10 1 (fun v2 => if v2 ≤ v1 then (s_X10_nextToken_b60 h S) else (kP S ((some h)) 10 0 (fun v3 => kI S ((some h)) 10 5 (fun v4 => kA S v3 13 v4 (fun v5 => if v5 = 32 then (s_X10_nextToken_b47 j8 h S) else (kP S ((some h)) 10 0 (fun v6 => kI S ((some h)) 10 5 (fun v7 => kA S v6 13 v7 (fun v8 => if v8 = 10 then (s_X10_nextToken_b47 j8 h S) else (s_X10_nextToken_b60 h S)))))))))))
set_option maxHeartbeats 4000000 in
set_option maxRecDepth 100000 in
theorem w_X10_nextToken_b8 {p : Program} {l : Launch} {e : Env} {s : State} {m : MethodId} {args : Array Value} {below : List Frame} {meth : Method} {c : Code} {b0 : Nat} {G : hG} {S1 : HS} {j8 : HS → Option (HS)} {h : Nat} {S : HS} (E : hE p s m args c b0 G cX10_nextToken RX10 1 wsX10_nextToken) (hrt : meth.sig.returnType = none) (hlk : meth.locks = false) (hj8 : ∀ (S : HS), j8 S = some S1 → WH p l e rm_X10_nextToken s m args below meth c b0 G 1 0 0 (MQ below (hQ b0 G none S1) args s 0 0 (hA b0)) S 8 [(0, hrf b0 ((some h)))] []) (hh : s_X10_nextToken_b8 j8 h S = some S1) : WH p l e rm_X10_nextToken s m args below meth c b0 G 1 0 0 (MQ below (hQ b0 G none S1) args s 0 0 (hA b0)) S 8 [(0, hrf b0 ((some h)))] [] := by
  have hh : (kI S ((some h)) 10 5 (fun v1 => kI S ((some h)) 10 1 (fun v2 => if v2 ≤ v1 then (s_X10_nextToken_b60 h S) else (kP S ((some h)) 10 0 (fun v3 => kI S ((some h)) 10 5 (fun v4 => kA S v3 13 v4 (fun v5 => if v5 = 32 then (s_X10_nextToken_b47 j8 h S) else (kP S ((some h)) 10 0 (fun v6 => kI S ((some h)) 10 5 (fun v7 => kA S v6 13 v7 (fun v8 => if v8 = 10 then (s_X10_nextToken_b47 j8 h S) else (s_X10_nextToken_b60 h S)))))))))))) = some S1 := hh
  refine rw_aload_n E (j0 := 0) rfl rfl dX10_nextToken_8 ?_
  refine rw_getI E hh (C := RX10) (T := TX10) (N := 8) rfl (by decide) i_X10_nextToken_10 (by decide) rfl (List.mem_of_getElem? (i := 2) (by decide +kernel)) rfl dX10_nextToken_9 (fun v1 hh => ?_)
  refine rw_aload_n E (j0 := 0) rfl rfl dX10_nextToken_12 ?_
  refine rw_getI E hh (C := RX10) (T := TX10) (N := 8) rfl (by decide) i_X10_nextToken_10 (by decide) rfl (List.mem_of_getElem? (i := 3) (by decide +kernel)) rfl dX10_nextToken_13 (fun v2 hh => ?_)
  refine rw_icmp_ge E hh (tgt := 60) (by decide) dX10_nextToken_16 (fun hh => ?_) (fun hh => ?_)
  · refine WH.pick [0] rfl ?_
    exact w_X10_nextToken_b60 E hrt hlk hh
  · refine rw_aload_n E (j0 := 0) rfl rfl dX10_nextToken_19 ?_
    refine rw_getP E hh (C := RX10) (T := TX10) (N := 8) rfl (by decide) i_X10_nextToken_10 (by decide) rfl (List.mem_of_getElem? (i := 4) (by decide +kernel)) rfl dX10_nextToken_20 (fun v3 hh => ?_)
    refine rw_aload_n E (j0 := 0) rfl rfl dX10_nextToken_23 ?_
    refine rw_getI E hh (C := RX10) (T := TX10) (N := 8) rfl (by decide) i_X10_nextToken_10 (by decide) rfl (List.mem_of_getElem? (i := 2) (by decide +kernel)) rfl dX10_nextToken_24 (fun v4 hh => ?_)
    refine rw_bald E hh dX10_nextToken_27 (fun v5 hh => ?_)
    refine rw_bipush E (v := 32) (by decide) dX10_nextToken_28 ?_
    refine rw_icmp_eq E hh (tgt := 47) (by decide) dX10_nextToken_30 (fun hh => ?_) (fun hh => ?_)
    · refine WH.pick [0] rfl ?_
      exact w_X10_nextToken_b47 E hrt hlk hj8 hh
    · refine rw_aload_n E (j0 := 0) rfl rfl dX10_nextToken_33 ?_
      refine rw_getP E hh (C := RX10) (T := TX10) (N := 8) rfl (by decide) i_X10_nextToken_10 (by decide) rfl (List.mem_of_getElem? (i := 4) (by decide +kernel)) rfl dX10_nextToken_34 (fun v6 hh => ?_)
      refine rw_aload_n E (j0 := 0) rfl rfl dX10_nextToken_37 ?_
      refine rw_getI E hh (C := RX10) (T := TX10) (N := 8) rfl (by decide) i_X10_nextToken_10 (by decide) rfl (List.mem_of_getElem? (i := 2) (by decide +kernel)) rfl dX10_nextToken_38 (fun v7 hh => ?_)
      refine rw_bald E hh dX10_nextToken_41 (fun v8 hh => ?_)
      refine rw_bipush E (v := 10) (by decide) dX10_nextToken_42 ?_
      refine rw_icmp_ne E hh (tgt := 60) (by decide) dX10_nextToken_44 (fun hh => ?_) (fun hh => ?_)
      · refine WH.pick [0] rfl ?_
        exact w_X10_nextToken_b60 E hrt hlk hh
      · refine WH.pick [0] rfl ?_
        exact w_X10_nextToken_b47 E hrt hlk hj8 hh
def s_X10_nextToken_L8 (h : Nat) : Nat → HS → Option (HS)
  | 0 => fun _ => none
  | n + 1 => s_X10_nextToken_b8 (s_X10_nextToken_L8 h n) h
set_option maxHeartbeats 4000000 in
set_option maxRecDepth 100000 in
theorem w_X10_nextToken_L8 {p : Program} {l : Launch} {e : Env} {s : State} {m : MethodId} {args : Array Value} {below : List Frame} {meth : Method} {c : Code} {b0 : Nat} {G : hG} {S1 : HS} {h : Nat} (E : hE p s m args c b0 G cX10_nextToken RX10 1 wsX10_nextToken) (hrt : meth.sig.returnType = none) (hlk : meth.locks = false) : ∀ (n : Nat) (S : HS), s_X10_nextToken_L8 h n S = some S1 → WH p l e rm_X10_nextToken s m args below meth c b0 G 1 0 0 (MQ below (hQ b0 G none S1) args s 0 0 (hA b0)) S 8 [(0, hrf b0 ((some h)))] [] := by
  intro n
  induction n with
  | zero => intro _ hh; exact absurd hh (by simp [s_X10_nextToken_L8])
  | succ n ih => intro _ hh; exact w_X10_nextToken_b8 E hrt hlk  ih hh
def s_X10_nextToken (S : HS) (h : Nat) : Option (HS) := kI S ((some h)) 10 6 (fun v1 => kwI S ((some h)) 10 5 v1 (fun S2 => s_X10_nextToken_L8 h 100000 S2))
set_option maxHeartbeats 4000000 in
set_option maxRecDepth 100000 in
theorem c_X10_nextToken (l : Launch) (b0 : Nat) (G : hG) (S S1 : HS) (h : Nat) (hh : s_X10_nextToken S h  = some S1) : MH l yX10_nextToken wsX10_nextToken rm_X10_nextToken b0 G S [hrf b0 (some h)] none S1 0 0 := by
  refine MH.ofW (cc := cX10_nextToken) (maxL := 1) (ret := none) (own := RX10) (lv0 := [(0, hrf b0 ((some h)))]) (by decide) rfl rfl (Nat.le_of_ble_eq_true rfl) rfl ?_
  intro p e s m args below meth c E hrt hlk hnm
  have hh : (kI S ((some h)) 10 6 (fun v1 => kwI S ((some h)) 10 5 v1 (fun S2 => s_X10_nextToken_L8 h 100000 S2))) = some S1 := hh
  refine rw_aload_n E (j0 := 0) rfl rfl dX10_nextToken_0 ?_
  refine rw_aload_n E (j0 := 0) rfl rfl dX10_nextToken_1 ?_
  refine rw_getI E hh (C := RX10) (T := TX10) (N := 8) rfl (by decide) i_X10_nextToken_10 (by decide) rfl (List.mem_of_getElem? (i := 1) (by decide +kernel)) rfl dX10_nextToken_2 (fun v1 hh => ?_)
  refine rw_putI E hh (C := RX10) (T := TX10) (N := 8) (ty0 := tyX10) rfl tyX10_ok nmX10 (by decide) i_X10_nextToken_10 (by decide) rfl (List.mem_of_getElem? (i := 2) (by decide +kernel)) rfl (Or.inl rfl) rfl dX10_nextToken_5 (fun S2 hh => ?_)
  refine WH.pick [0] rfl ?_
  exact w_X10_nextToken_L8 E hrt hlk 100000 _ hh

/-! HummingDisc$Tape.stands(Ljava/lang/String;)Z -/
abbrev rm_X10_stands : Room := { frames := 4, cells := 0, slots := 0, locals := 85 }
theorem i_X10_stands_10 : ∀ w ∈ wsX100, w ∈ wsX10_stands := fun _ h => List.mem_cons_of_mem _ (List.mem_append_right _ (h))
def s_X10_stands_b35 (j35 : HS → Nat → Int32 → Option (Int32 × HS)) (h : Nat) (S : HS) (l1 : Nat) (l2 : Int32) : Option (Int32 × HS) := kK l1 (kc (s_J0_length_8abf5 S l1 ) (fun v2 S1 => if v2 ≤ l2 then (kzr 1 S1) else (kP S1 ((some h)) 10 0 (fun v3 => kI S1 ((some h)) 10 5 (fun v4 => kA S1 v3 13 (v4 + l2) (fun v5 => kK l1 (kc (s_J0_charAt_5068e S1 l1 l2) (fun v7 S6 => if v5 = v7 then (j35 S6 l1 (l2 + 1)) else (kzr 0 S6)))))))))
set_option maxHeartbeats 4000000 in
set_option maxRecDepth 100000 in
theorem w_X10_stands_b35 {p : Program} {l : Launch} {e : Env} {s : State} {m : MethodId} {args : Array Value} {below : List Frame} {meth : Method} {c : Code} {b0 : Nat} {G : hG} {S1 : HS} {r : Int32} {j35 : HS → Nat → Int32 → Option (Int32 × HS)} {h : Nat} {S : HS} {l1 : Nat} {l2 : Int32} (E : hE p s m args c b0 G cX10_stands RX10 3 wsX10_stands) (hrt : meth.sig.returnType = (some .boolean)) (hlk : meth.locks = false) (hj35 : ∀ (S : HS) (l1 : Nat) (l2 : Int32), j35 S l1 l2 = some (r, S1) → WH p l e rm_X10_stands s m args below meth c b0 G 3 0 0 (MQ below (hQ b0 G (some (.int r)) S1) args s 0 0 (hA b0)) S 35 [(0, hrf b0 ((some h))), (1, .ref (G.2.1 l1)), (2, .int l2)] []) (hh : s_X10_stands_b35 j35 h S l1 l2 = some (r, S1)) : WH p l e rm_X10_stands s m args below meth c b0 G 3 0 0 (MQ below (hQ b0 G (some (.int r)) S1) args s 0 0 (hA b0)) S 35 [(0, hrf b0 ((some h))), (1, .ref (G.2.1 l1)), (2, .int l2)] [] := by
  have hh : (kK l1 (kc (s_J0_length_8abf5 S l1 ) (fun v2 S1 => if v2 ≤ l2 then (kzr 1 S1) else (kP S1 ((some h)) 10 0 (fun v3 => kI S1 ((some h)) 10 5 (fun v4 => kA S1 v3 13 (v4 + l2) (fun v5 => kK l1 (kc (s_J0_charAt_5068e S1 l1 l2) (fun v7 S6 => if v5 = v7 then (j35 S6 l1 (l2 + 1)) else (kzr 0 S6)))))))))) = some (r, S1) := hh
  refine rw_iload_n E (j0 := 2) rfl rfl dX10_stands_35 ?_
  refine rw_aloadr_n E (j0 := 1) rfl rfl dX10_stands_36 ?_
  refine rw_cKi E (As := []) hh (fun _ _ hq => c_J0_length_8abf5 l b0 G _ _ _ _ hq) (cwV 0 E.2.2.2.2.1 gX10_stands_J0_length_8abf5 rfl rfl rfl (by decide +kernel) ⟨Nat.le_of_ble_eq_true rfl, Nat.le_of_ble_eq_true rfl⟩) rfl rfl (by (try simp only [List.map_cons, List.map_nil, List.sum_cons, List.sum_nil, hrf_cat, cat_i, cat_l, cat_r]) <;> decide) ⟨Nat.le_of_ble_eq_true rfl, Nat.le_of_ble_eq_true rfl⟩ dX10_stands_37 (fun v2 S1 hh => ?_)
  refine rw_icmp_ge E hh (tgt := 70) (by decide) dX10_stands_40 (fun hh => ?_) (fun hh => ?_)
  · refine rw_iconst E (v := 1) (by decide) dX10_stands_70 ?_
    exact rw_zret E hrt hlk hh (by decide) (by decide) dX10_stands_71
  · refine rw_aload_n E (j0 := 0) rfl rfl dX10_stands_43 ?_
    refine rw_getP E hh (C := RX10) (T := TX10) (N := 8) rfl (by decide) i_X10_stands_10 (by decide) rfl (List.mem_of_getElem? (i := 5) (by decide +kernel)) rfl dX10_stands_44 (fun v3 hh => ?_)
    refine rw_aload_n E (j0 := 0) rfl rfl dX10_stands_47 ?_
    refine rw_getI E hh (C := RX10) (T := TX10) (N := 8) rfl (by decide) i_X10_stands_10 (by decide) rfl (List.mem_of_getElem? (i := 4) (by decide +kernel)) rfl dX10_stands_48 (fun v4 hh => ?_)
    refine rw_iload_n E (j0 := 2) rfl rfl dX10_stands_51 ?_
    refine rw_iadd E dX10_stands_52 ?_
    refine rw_bald E hh dX10_stands_53 (fun v5 hh => ?_)
    refine rw_aloadr_n E (j0 := 1) rfl rfl dX10_stands_54 ?_
    refine rw_iload_n E (j0 := 2) rfl rfl dX10_stands_55 ?_
    refine rw_cKi E (As := [.int l2]) hh (fun _ _ hq => c_J0_charAt_5068e l b0 G _ _ _ _ _ hq) (cwV 1 E.2.2.2.2.1 gX10_stands_J0_charAt_5068e rfl rfl rfl (by decide +kernel) ⟨Nat.le_of_ble_eq_true rfl, Nat.le_of_ble_eq_true rfl⟩) rfl rfl (by (try simp only [List.map_cons, List.map_nil, List.sum_cons, List.sum_nil, hrf_cat, cat_i, cat_l, cat_r]) <;> decide) ⟨Nat.le_of_ble_eq_true rfl, Nat.le_of_ble_eq_true rfl⟩ dX10_stands_56 (fun v7 S6 hh => ?_)
    refine rw_icmp_eq E hh (tgt := 64) (by decide) dX10_stands_59 (fun hh => ?_) (fun hh => ?_)
    · refine rw_iinc E (v := l2 + 1) (lv2 := [(2, .int (l2 + 1)), (0, hrf b0 ((some h))), (1, .ref (G.2.1 l1))]) (j0 := 2) rfl rfl (by decide) rfl dX10_stands_64 ?_
      refine rw_goto E (tgt := 35) (by decide) dX10_stands_67 ?_
      refine WH.pick [1, 2, 0] rfl ?_
      exact hj35 _ _ _ hh
    · refine rw_iconst E (v := 0) (by decide) dX10_stands_62 ?_
      exact rw_zret E hrt hlk hh (by decide) (by decide) dX10_stands_63
def s_X10_stands_L35 (h : Nat) : Nat → HS → Nat → Int32 → Option (Int32 × HS)
  | 0 => fun _ _ _ => none
  | n + 1 => s_X10_stands_b35 (s_X10_stands_L35 h n) h
set_option maxHeartbeats 4000000 in
set_option maxRecDepth 100000 in
theorem w_X10_stands_L35 {p : Program} {l : Launch} {e : Env} {s : State} {m : MethodId} {args : Array Value} {below : List Frame} {meth : Method} {c : Code} {b0 : Nat} {G : hG} {S1 : HS} {r : Int32} {h : Nat} (E : hE p s m args c b0 G cX10_stands RX10 3 wsX10_stands) (hrt : meth.sig.returnType = (some .boolean)) (hlk : meth.locks = false) : ∀ (n : Nat) (S : HS) (l1 : Nat) (l2 : Int32), s_X10_stands_L35 h n S l1 l2 = some (r, S1) → WH p l e rm_X10_stands s m args below meth c b0 G 3 0 0 (MQ below (hQ b0 G (some (.int r)) S1) args s 0 0 (hA b0)) S 35 [(0, hrf b0 ((some h))), (1, .ref (G.2.1 l1)), (2, .int l2)] [] := by
  intro n
  induction n with
  | zero => intro _ _ _ hh; exact absurd hh (by simp [s_X10_stands_L35])
  | succ n ih => intro _ _ _ hh; exact w_X10_stands_b35 E hrt hlk  ih hh
def s_X10_stands (S : HS) (h : Nat) (l1 : Nat) : Option (Int32 × HS) := kI S ((some h)) 10 2 (fun v1 => if v1 = 0 then (kI S ((some h)) 10 4 (fun v2 => if v2 = 1 then (kI S ((some h)) 10 6 (fun v3 => kI S ((some h)) 10 5 (fun v4 => kK l1 (kc (s_J0_length_8abf5 S l1 ) (fun v6 S5 => if v3 - v4 = v6 then (s_X10_stands_L35 h 100000 S5 l1 0) else (kzr 0 S5)))))) else (kzr 0 S))) else (kzr 0 S))
set_option maxHeartbeats 4000000 in
set_option maxRecDepth 100000 in
theorem c_X10_stands (l : Launch) (b0 : Nat) (G : hG) (S S1 : HS) (h : Nat) (l1 : Nat) (r : Int32) (hh : s_X10_stands S h l1 = some (r, S1)) : MH l yX10_stands wsX10_stands rm_X10_stands b0 G S [hrf b0 (some h), .ref (G.2.1 l1)] (some (.int r)) S1 0 0 := by
  refine MH.ofW (cc := cX10_stands) (maxL := 3) (ret := (some .boolean)) (own := RX10) (lv0 := [(0, hrf b0 ((some h))), (1, .ref (G.2.1 l1))]) (by decide) rfl rfl (Nat.le_of_ble_eq_true rfl) rfl ?_
  intro p e s m args below meth c E hrt hlk hnm
  have hh : (kI S ((some h)) 10 2 (fun v1 => if v1 = 0 then (kI S ((some h)) 10 4 (fun v2 => if v2 = 1 then (kI S ((some h)) 10 6 (fun v3 => kI S ((some h)) 10 5 (fun v4 => kK l1 (kc (s_J0_length_8abf5 S l1 ) (fun v6 S5 => if v3 - v4 = v6 then (s_X10_stands_L35 h 100000 S5 l1 0) else (kzr 0 S5)))))) else (kzr 0 S))) else (kzr 0 S))) = some (r, S1) := hh
  refine rw_aload_n E (j0 := 0) rfl rfl dX10_stands_0 ?_
  refine rw_getI E hh (C := RX10) (T := TX10) (N := 8) rfl (by decide) i_X10_stands_10 (by decide) rfl (List.mem_of_getElem? (i := 1) (by decide +kernel)) rfl dX10_stands_1 (fun v1 hh => ?_)
  refine rw_if_ne E hh (tgt := 31) (by decide) dX10_stands_4 (fun hh => ?_) (fun hh => ?_)
  · refine rw_iconst E (v := 0) (by decide) dX10_stands_31 ?_
    exact rw_zret E hrt hlk hh (by decide) (by decide) dX10_stands_32
  · refine rw_aload_n E (j0 := 0) rfl rfl dX10_stands_7 ?_
    refine rw_getI E hh (C := RX10) (T := TX10) (N := 8) rfl (by decide) i_X10_stands_10 (by decide) rfl (List.mem_of_getElem? (i := 2) (by decide +kernel)) rfl dX10_stands_8 (fun v2 hh => ?_)
    refine rw_iconst E (v := 1) (by decide) dX10_stands_11 ?_
    refine rw_icmp_ne E hh (tgt := 31) (by decide) dX10_stands_12 (fun hh => ?_) (fun hh => ?_)
    · refine rw_iconst E (v := 0) (by decide) dX10_stands_31 ?_
      exact rw_zret E hrt hlk hh (by decide) (by decide) dX10_stands_32
    · refine rw_aload_n E (j0 := 0) rfl rfl dX10_stands_15 ?_
      refine rw_getI E hh (C := RX10) (T := TX10) (N := 8) rfl (by decide) i_X10_stands_10 (by decide) rfl (List.mem_of_getElem? (i := 3) (by decide +kernel)) rfl dX10_stands_16 (fun v3 hh => ?_)
      refine rw_aload_n E (j0 := 0) rfl rfl dX10_stands_19 ?_
      refine rw_getI E hh (C := RX10) (T := TX10) (N := 8) rfl (by decide) i_X10_stands_10 (by decide) rfl (List.mem_of_getElem? (i := 4) (by decide +kernel)) rfl dX10_stands_20 (fun v4 hh => ?_)
      refine rw_isub E dX10_stands_23 ?_
      refine rw_aloadr_n E (j0 := 1) rfl rfl dX10_stands_24 ?_
      refine rw_cKi E (As := []) hh (fun _ _ hq => c_J0_length_8abf5 l b0 G _ _ _ _ hq) (cwV 0 E.2.2.2.2.1 gX10_stands_J0_length_8abf5 rfl rfl rfl (by decide +kernel) ⟨Nat.le_of_ble_eq_true rfl, Nat.le_of_ble_eq_true rfl⟩) rfl rfl (by (try simp only [List.map_cons, List.map_nil, List.sum_cons, List.sum_nil, hrf_cat, cat_i, cat_l, cat_r]) <;> decide) ⟨Nat.le_of_ble_eq_true rfl, Nat.le_of_ble_eq_true rfl⟩ dX10_stands_25 (fun v6 S5 hh => ?_)
      refine rw_icmp_eq E hh (tgt := 33) (by decide) dX10_stands_28 (fun hh => ?_) (fun hh => ?_)
      · refine rw_iconst E (v := 0) (by decide) dX10_stands_33 ?_
        refine rw_istore_n E (lv2 := [(2, .int 0), (0, hrf b0 ((some h))), (1, .ref (G.2.1 l1))]) rfl (by decide) rfl dX10_stands_34 ?_
        refine WH.pick [1, 2, 0] rfl ?_
        exact w_X10_stands_L35 E hrt hlk 100000 _ _ _ hh
      · refine rw_iconst E (v := 0) (by decide) dX10_stands_31 ?_
        exact rw_zret E hrt hlk hh (by decide) (by decide) dX10_stands_32

/-! HummingDisc$Tape.fail(I)V -/
abbrev rm_X10_fail : Room := { frames := 0, cells := 0, slots := 0, locals := 0 }
theorem i_X10_fail_10 : ∀ w ∈ wsX100, w ∈ wsX10_fail := fun _ h => List.mem_cons_of_mem _ (List.mem_append_right _ (h))
def s_X10_fail (S : HS) (h : Nat) (l1 : Int32) : Option (HS) := kI S ((some h)) 10 2 (fun v1 => if v1 = 0 then (kwI S ((some h)) 10 2 l1 (fun S2 => kI S2 ((some h)) 10 5 (fun v3 => kwI S2 ((some h)) 10 3 v3 (fun S4 => some S4)))) else (some S))
set_option maxHeartbeats 4000000 in
set_option maxRecDepth 100000 in
theorem c_X10_fail (l : Launch) (b0 : Nat) (G : hG) (S S1 : HS) (h : Nat) (l1 : Int32) (hh : s_X10_fail S h l1 = some S1) : MH l yX10_fail wsX10_fail rm_X10_fail b0 G S [hrf b0 (some h), .int l1] none S1 0 0 := by
  refine MH.ofW (cc := cX10_fail) (maxL := 2) (ret := none) (own := RX10) (lv0 := [(0, hrf b0 ((some h))), (1, .int l1)]) (by decide) rfl rfl (Nat.le_of_ble_eq_true rfl) rfl ?_
  intro p e s m args below meth c E hrt hlk hnm
  have hh : (kI S ((some h)) 10 2 (fun v1 => if v1 = 0 then (kwI S ((some h)) 10 2 l1 (fun S2 => kI S2 ((some h)) 10 5 (fun v3 => kwI S2 ((some h)) 10 3 v3 (fun S4 => some S4)))) else (some S))) = some S1 := hh
  refine rw_aload_n E (j0 := 0) rfl rfl dX10_fail_0 ?_
  refine rw_getI E hh (C := RX10) (T := TX10) (N := 8) rfl (by decide) i_X10_fail_10 (by decide) rfl (List.mem_of_getElem? (i := 1) (by decide +kernel)) rfl dX10_fail_1 (fun v1 hh => ?_)
  refine rw_if_eq E hh (tgt := 8) (by decide) dX10_fail_4 (fun hh => ?_) (fun hh => ?_)
  · refine rw_aload_n E (j0 := 0) rfl rfl dX10_fail_8 ?_
    refine rw_iload_n E (j0 := 1) rfl rfl dX10_fail_9 ?_
    refine rw_putI E hh (C := RX10) (T := TX10) (N := 8) (ty0 := tyX10) rfl tyX10_ok nmX10 (by decide) i_X10_fail_10 (by decide) rfl (List.mem_of_getElem? (i := 1) (by decide +kernel)) rfl (Or.inl rfl) rfl dX10_fail_10 (fun S2 hh => ?_)
    refine rw_aload_n E (j0 := 0) rfl rfl dX10_fail_13 ?_
    refine rw_aload_n E (j0 := 0) rfl rfl dX10_fail_14 ?_
    refine rw_getI E hh (C := RX10) (T := TX10) (N := 8) rfl (by decide) i_X10_fail_10 (by decide) rfl (List.mem_of_getElem? (i := 2) (by decide +kernel)) rfl dX10_fail_15 (fun v3 hh => ?_)
    refine rw_putI E hh (C := RX10) (T := TX10) (N := 8) (ty0 := tyX10) rfl tyX10_ok nmX10 (by decide) i_X10_fail_10 (by decide) rfl (List.mem_of_getElem? (i := 3) (by decide +kernel)) rfl (Or.inl rfl) rfl dX10_fail_18 (fun S4 hh => ?_)
    exact rw_vret E hrt hlk hh (by decide) (by decide) dX10_fail_21
  · exact rw_vret E hrt hlk hh (by decide) (by decide) dX10_fail_7

/-! HummingDisc$Tape.take(ZZ)V -/
abbrev rm_X10_take : Room := { frames := 2, cells := 0, slots := 0, locals := 42 }
theorem i_X10_take_10 : ∀ w ∈ wsX100, w ∈ wsX10_take := fun _ h => List.mem_cons_of_mem _ (List.mem_append_right _ (h))
def s_X10_take (S : HS) (h : Nat) (l1 : Int32) (l2 : Int32) : Option (HS) := if l1 = 0 then (kO S ((some h)) 10 (fun a7 => kcv (s_X10_fail S a7 1) (fun S6 => some S6))) else (if l2 = 0 then (kO S ((some h)) 10 (fun a5 => kcv (s_X10_fail S a5 3) (fun S4 => some S4))) else (kI S ((some h)) 10 2 (fun v1 => if v1 = 0 then (kO S ((some h)) 10 (fun a3 => kcv (s_X10_nextToken S a3 ) (fun S2 => some S2))) else (some S))))
set_option maxHeartbeats 4000000 in
set_option maxRecDepth 100000 in
theorem c_X10_take (l : Launch) (b0 : Nat) (G : hG) (S S1 : HS) (h : Nat) (l1 : Int32) (l2 : Int32) (hh : s_X10_take S h l1 l2 = some S1) : MH l yX10_take wsX10_take rm_X10_take b0 G S [hrf b0 (some h), .int l1, .int l2] none S1 0 0 := by
  refine MH.ofW (cc := cX10_take) (maxL := 3) (ret := none) (own := RX10) (lv0 := [(0, hrf b0 ((some h))), (1, .int l1), (2, .int l2)]) (by decide) rfl rfl (Nat.le_of_ble_eq_true rfl) rfl ?_
  intro p e s m args below meth c E hrt hlk hnm
  have hh : (if l1 = 0 then (kO S ((some h)) 10 (fun a7 => kcv (s_X10_fail S a7 1) (fun S6 => some S6))) else (if l2 = 0 then (kO S ((some h)) 10 (fun a5 => kcv (s_X10_fail S a5 3) (fun S4 => some S4))) else (kI S ((some h)) 10 2 (fun v1 => if v1 = 0 then (kO S ((some h)) 10 (fun a3 => kcv (s_X10_nextToken S a3 ) (fun S2 => some S2))) else (some S))))) = some S1 := hh
  refine rw_iload_n E (j0 := 1) rfl rfl dX10_take_0 ?_
  refine rw_if_ne E hh (tgt := 12) (by decide) dX10_take_1 (fun hh => ?_) (fun hh => ?_)
  · refine rw_iload_n E (j0 := 2) rfl rfl dX10_take_12 ?_
    refine rw_if_ne E hh (tgt := 24) (by decide) dX10_take_13 (fun hh => ?_) (fun hh => ?_)
    · refine rw_aload_n E (j0 := 0) rfl rfl dX10_take_24 ?_
      refine rw_getI E hh (C := RX10) (T := TX10) (N := 8) rfl (by decide) i_X10_take_10 (by decide) rfl (List.mem_of_getElem? (i := 1) (by decide +kernel)) rfl dX10_take_25 (fun v1 hh => ?_)
      refine rw_if_ne E hh (tgt := 35) (by decide) dX10_take_28 (fun hh => ?_) (fun hh => ?_)
      · exact rw_vret E hrt hlk hh (by decide) (by decide) dX10_take_35
      · refine rw_aload_n E (j0 := 0) rfl rfl dX10_take_31 ?_
        refine rw_cVv E (As := []) hh (by decide) rfl (fun _ _ hq => c_X10_nextToken l b0 G _ _ _ hq) (cwV 0 E.2.2.2.2.1 gX10_take_X10_nextToken rfl rfl rfl (by decide +kernel) ⟨Nat.le_of_ble_eq_true rfl, Nat.le_of_ble_eq_true rfl⟩) rfl rfl (by (try simp only [List.map_cons, List.map_nil, List.sum_cons, List.sum_nil, hrf_cat, cat_i, cat_l, cat_r]) <;> decide) ⟨Nat.le_of_ble_eq_true rfl, Nat.le_of_ble_eq_true rfl⟩ dX10_take_32 (fun S2 hh => ?_)
        exact rw_vret E hrt hlk hh (by decide) (by decide) dX10_take_35
    · refine rw_aload_n E (j0 := 0) rfl rfl dX10_take_16 ?_
      refine rw_iconst E (v := 3) (by decide) dX10_take_17 ?_
      refine rw_cVv E (As := [.int 3]) hh (by decide) rfl (fun _ _ hq => c_X10_fail l b0 G _ _ _ _ hq) (cwV 1 E.2.2.2.2.1 gX10_take_X10_fail rfl rfl rfl (by decide +kernel) ⟨Nat.le_of_ble_eq_true rfl, Nat.le_of_ble_eq_true rfl⟩) rfl rfl (by (try simp only [List.map_cons, List.map_nil, List.sum_cons, List.sum_nil, hrf_cat, cat_i, cat_l, cat_r]) <;> decide) ⟨Nat.le_of_ble_eq_true rfl, Nat.le_of_ble_eq_true rfl⟩ dX10_take_18 (fun S4 hh => ?_)
      refine rw_goto E (tgt := 35) (by decide) dX10_take_21 ?_
      exact rw_vret E hrt hlk hh (by decide) (by decide) dX10_take_35
  · refine rw_aload_n E (j0 := 0) rfl rfl dX10_take_4 ?_
    refine rw_iconst E (v := 1) (by decide) dX10_take_5 ?_
    refine rw_cVv E (As := [.int 1]) hh (by decide) rfl (fun _ _ hq => c_X10_fail l b0 G _ _ _ _ hq) (cwV 1 E.2.2.2.2.1 gX10_take_X10_fail rfl rfl rfl (by decide +kernel) ⟨Nat.le_of_ble_eq_true rfl, Nat.le_of_ble_eq_true rfl⟩) rfl rfl (by (try simp only [List.map_cons, List.map_nil, List.sum_cons, List.sum_nil, hrf_cat, cat_i, cat_l, cat_r]) <;> decide) ⟨Nat.le_of_ble_eq_true rfl, Nat.le_of_ble_eq_true rfl⟩ dX10_take_6 (fun S6 hh => ?_)
    refine rw_goto E (tgt := 35) (by decide) dX10_take_9 ?_
    exact rw_vret E hrt hlk hh (by decide) (by decide) dX10_take_35

/-! HummingDisc$Tape.takeNumber(II)I -/
abbrev rm_X10_takeNumber : Room := { frames := 2, cells := 0, slots := 0, locals := 42 }
theorem i_X10_takeNumber_10 : ∀ w ∈ wsX100, w ∈ wsX10_takeNumber := fun _ h => List.mem_cons_of_mem _ (List.mem_append_right _ (h))
def s_X10_takeNumber_b40 (h : Nat) (S : HS) (l3 : Int32) : Option (Int32 × HS) := kO S ((some h)) 10 (fun a2 => kcv (s_X10_fail S a2 2) (fun S1 => some (l3, S1)))
set_option maxHeartbeats 4000000 in
set_option maxRecDepth 100000 in
theorem w_X10_takeNumber_b40 {p : Program} {l : Launch} {e : Env} {s : State} {m : MethodId} {args : Array Value} {below : List Frame} {meth : Method} {c : Code} {b0 : Nat} {G : hG} {S1 : HS} {r : Int32} {h : Nat} {S : HS} {l3 : Int32} (E : hE p s m args c b0 G cX10_takeNumber RX10 4 wsX10_takeNumber) (hrt : meth.sig.returnType = (some .int)) (hlk : meth.locks = false) (hh : s_X10_takeNumber_b40 h S l3 = some (r, S1)) : WH p l e rm_X10_takeNumber s m args below meth c b0 G 4 0 0 (MQ below (hQ b0 G (some (.int r)) S1) args s 0 0 (hA b0)) S 40 [(0, hrf b0 ((some h))), (3, .int l3)] [] := by
  have hh : (kO S ((some h)) 10 (fun a2 => kcv (s_X10_fail S a2 2) (fun S1 => some (l3, S1)))) = some (r, S1) := hh
  refine rw_aload_n E (j0 := 0) rfl rfl dX10_takeNumber_40 ?_
  refine rw_iconst E (v := 2) (by decide) dX10_takeNumber_41 ?_
  refine rw_cVv E (As := [.int 2]) hh (by decide) rfl (fun _ _ hq => c_X10_fail l b0 G _ _ _ _ hq) (cwV 1 E.2.2.2.2.1 gX10_takeNumber_X10_fail rfl rfl rfl (by decide +kernel) ⟨Nat.le_of_ble_eq_true rfl, Nat.le_of_ble_eq_true rfl⟩) rfl rfl (by (try simp only [List.map_cons, List.map_nil, List.sum_cons, List.sum_nil, hrf_cat, cat_i, cat_l, cat_r]) <;> decide) ⟨Nat.le_of_ble_eq_true rfl, Nat.le_of_ble_eq_true rfl⟩ dX10_takeNumber_42 (fun S1 hh => ?_)
  refine rw_goto E (tgt := 52) (by decide) dX10_takeNumber_45 ?_
  refine rw_iload_n E (j0 := 1) rfl rfl dX10_takeNumber_52 ?_
  exact rw_iret E hrt hlk hh (by decide) (by decide) dX10_takeNumber_53
def s_X10_takeNumber (S : HS) (h : Nat) (l1 : Int32) (l2 : Int32) : Option (Int32 × HS) := kI S ((some h)) 10 2 (fun v1 => if v1 = 0 then (kI S ((some h)) 10 7 (fun v2 => kI S ((some h)) 10 4 (fun v3 => if v3 = 2 then (if v2 < l1 then (s_X10_takeNumber_b40 h S v2) else (if v2 ≤ l2 then (kO S ((some h)) 10 (fun a5 => kcv (s_X10_nextToken S a5 ) (fun S4 => some (v2, S4)))) else (s_X10_takeNumber_b40 h S v2))) else (kO S ((some h)) 10 (fun a7 => kcv (s_X10_fail S a7 1) (fun S6 => some (v2, S6))))))) else (some (0, S)))
set_option maxHeartbeats 4000000 in
set_option maxRecDepth 100000 in
theorem c_X10_takeNumber (l : Launch) (b0 : Nat) (G : hG) (S S1 : HS) (h : Nat) (l1 : Int32) (l2 : Int32) (r : Int32) (hh : s_X10_takeNumber S h l1 l2 = some (r, S1)) : MH l yX10_takeNumber wsX10_takeNumber rm_X10_takeNumber b0 G S [hrf b0 (some h), .int l1, .int l2] (some (.int r)) S1 0 0 := by
  refine MH.ofW (cc := cX10_takeNumber) (maxL := 4) (ret := (some .int)) (own := RX10) (lv0 := [(0, hrf b0 ((some h))), (1, .int l1), (2, .int l2)]) (by decide) rfl rfl (Nat.le_of_ble_eq_true rfl) rfl ?_
  intro p e s m args below meth c E hrt hlk hnm
  have hh : (kI S ((some h)) 10 2 (fun v1 => if v1 = 0 then (kI S ((some h)) 10 7 (fun v2 => kI S ((some h)) 10 4 (fun v3 => if v3 = 2 then (if v2 < l1 then (s_X10_takeNumber_b40 h S v2) else (if v2 ≤ l2 then (kO S ((some h)) 10 (fun a5 => kcv (s_X10_nextToken S a5 ) (fun S4 => some (v2, S4)))) else (s_X10_takeNumber_b40 h S v2))) else (kO S ((some h)) 10 (fun a7 => kcv (s_X10_fail S a7 1) (fun S6 => some (v2, S6))))))) else (some (0, S)))) = some (r, S1) := hh
  refine rw_aload_n E (j0 := 0) rfl rfl dX10_takeNumber_0 ?_
  refine rw_getI E hh (C := RX10) (T := TX10) (N := 8) rfl (by decide) i_X10_takeNumber_10 (by decide) rfl (List.mem_of_getElem? (i := 1) (by decide +kernel)) rfl dX10_takeNumber_1 (fun v1 hh => ?_)
  refine rw_if_eq E hh (tgt := 9) (by decide) dX10_takeNumber_4 (fun hh => ?_) (fun hh => ?_)
  · refine rw_aload_n E (j0 := 0) rfl rfl dX10_takeNumber_9 ?_
    refine rw_getI E hh (C := RX10) (T := TX10) (N := 8) rfl (by decide) i_X10_takeNumber_10 (by decide) rfl (List.mem_of_getElem? (i := 2) (by decide +kernel)) rfl dX10_takeNumber_10 (fun v2 hh => ?_)
    refine rw_istore_n E (lv2 := [(3, .int v2), (0, hrf b0 ((some h))), (1, .int l1), (2, .int l2)]) rfl (by decide) rfl dX10_takeNumber_13 ?_
    refine rw_aload_n E (j0 := 1) rfl rfl dX10_takeNumber_14 ?_
    refine rw_getI E hh (C := RX10) (T := TX10) (N := 8) rfl (by decide) i_X10_takeNumber_10 (by decide) rfl (List.mem_of_getElem? (i := 3) (by decide +kernel)) rfl dX10_takeNumber_15 (fun v3 hh => ?_)
    refine rw_iconst E (v := 2) (by decide) dX10_takeNumber_18 ?_
    refine rw_icmp_eq E hh (tgt := 30) (by decide) dX10_takeNumber_19 (fun hh => ?_) (fun hh => ?_)
    · refine rw_iload_n E (j0 := 0) rfl rfl dX10_takeNumber_30 ?_
      refine rw_iload_n E (j0 := 2) rfl rfl dX10_takeNumber_31 ?_
      refine rw_icmp_lt E hh (tgt := 40) (by decide) dX10_takeNumber_32 (fun hh => ?_) (fun hh => ?_)
      · refine WH.pick [1, 0] rfl ?_
        exact w_X10_takeNumber_b40 E hrt hlk hh
      · refine rw_iload_n E (j0 := 0) rfl rfl dX10_takeNumber_35 ?_
        refine rw_iload_n E (j0 := 3) rfl rfl dX10_takeNumber_36 ?_
        refine rw_icmp_le E hh (tgt := 48) (by decide) dX10_takeNumber_37 (fun hh => ?_) (fun hh => ?_)
        · refine rw_aload_n E (j0 := 1) rfl rfl dX10_takeNumber_48 ?_
          refine rw_cVv E (As := []) hh (by decide) rfl (fun _ _ hq => c_X10_nextToken l b0 G _ _ _ hq) (cwV 0 E.2.2.2.2.1 gX10_takeNumber_X10_nextToken rfl rfl rfl (by decide +kernel) ⟨Nat.le_of_ble_eq_true rfl, Nat.le_of_ble_eq_true rfl⟩) rfl rfl (by (try simp only [List.map_cons, List.map_nil, List.sum_cons, List.sum_nil, hrf_cat, cat_i, cat_l, cat_r]) <;> decide) ⟨Nat.le_of_ble_eq_true rfl, Nat.le_of_ble_eq_true rfl⟩ dX10_takeNumber_49 (fun S4 hh => ?_)
          refine rw_iload_n E (j0 := 0) rfl rfl dX10_takeNumber_52 ?_
          exact rw_iret E hrt hlk hh (by decide) (by decide) dX10_takeNumber_53
        · refine WH.pick [1, 0] rfl ?_
          exact w_X10_takeNumber_b40 E hrt hlk hh
    · refine rw_aload_n E (j0 := 1) rfl rfl dX10_takeNumber_22 ?_
      refine rw_iconst E (v := 1) (by decide) dX10_takeNumber_23 ?_
      refine rw_cVv E (As := [.int 1]) hh (by decide) rfl (fun _ _ hq => c_X10_fail l b0 G _ _ _ _ hq) (cwV 1 E.2.2.2.2.1 gX10_takeNumber_X10_fail rfl rfl rfl (by decide +kernel) ⟨Nat.le_of_ble_eq_true rfl, Nat.le_of_ble_eq_true rfl⟩) rfl rfl (by (try simp only [List.map_cons, List.map_nil, List.sum_cons, List.sum_nil, hrf_cat, cat_i, cat_l, cat_r]) <;> decide) ⟨Nat.le_of_ble_eq_true rfl, Nat.le_of_ble_eq_true rfl⟩ dX10_takeNumber_24 (fun S6 hh => ?_)
      refine rw_goto E (tgt := 52) (by decide) dX10_takeNumber_27 ?_
      refine rw_iload_n E (j0 := 0) rfl rfl dX10_takeNumber_52 ?_
      exact rw_iret E hrt hlk hh (by decide) (by decide) dX10_takeNumber_53
  · refine rw_iconst E (v := 0) (by decide) dX10_takeNumber_7 ?_
    exact rw_iret E hrt hlk hh (by decide) (by decide) dX10_takeNumber_8

/-! HummingDisc$Tape.readDisc(LHummingDisc$Box;)V -/
abbrev rm_X10_readDisc : Room := { frames := 5, cells := 1, slots := 3, locals := 107 }
theorem i_X10_readDisc_1 : ∀ w ∈ wsX10, w ∈ wsX10_readDisc := fun _ h => List.mem_cons_of_mem _ (List.mem_append_left _ (List.mem_append_left _ (List.mem_append_right _ (h))))
theorem i_X10_readDisc_3 : ∀ w ∈ wsX30, w ∈ wsX10_readDisc := fun _ h => List.mem_cons_of_mem _ (List.mem_append_right _ (h))
theorem i_X10_readDisc_10 : ∀ w ∈ wsX100, w ∈ wsX10_readDisc := fun _ h => List.mem_cons_of_mem _ (List.mem_append_left _ (List.mem_append_right _ (h)))
def s_X10_readDisc_b63 (h : Nat) (S : HS) (l1 : Option Nat) (l2 : Int32) (l3 : Int32) (l4 : Int32) (k0 : Option Nat) (k1 : Int32) : Option (HS) := kO S k0 10 (fun a2 => kcv (s_X10_take S a2 k1 1) (fun S1 => kI S1 ((some h)) 10 2 (fun v3 => if v3 = 0 then (knew S1 3 (fun o4 S5 => kO S5 o4 3 (fun a7 => kcv (s_X3_init S5 a7 l2 l3 l4) (fun S6 => kO S6 l1 1 (fun a9 => kcv (s_X1_addDisc S6 a9 o4) (fun S8 => some S8)))))) else (some S1))))
set_option maxHeartbeats 4000000 in
set_option maxRecDepth 100000 in
theorem w_X10_readDisc_b63 {p : Program} {l : Launch} {e : Env} {s : State} {m : MethodId} {args : Array Value} {below : List Frame} {meth : Method} {c : Code} {b0 : Nat} {G : hG} {S1 : HS} {h : Nat} {S : HS} {l1 : Option Nat} {l2 : Int32} {l3 : Int32} {l4 : Int32} {k0 : Option Nat} {k1 : Int32} (E : hE p s m args c b0 G cX10_readDisc RX10 5 wsX10_readDisc) (hrt : meth.sig.returnType = none) (hlk : meth.locks = false) {cells slots : Nat} (hc : cells + 1 ≤ 1) (hs : slots + 3 ≤ 3) (hh : s_X10_readDisc_b63 h S l1 l2 l3 l4 k0 k1 = some S1) : WH p l e rm_X10_readDisc s m args below meth c b0 G 5 cells slots (MQ below (hQ b0 G none S1) args s 1 3 (hA b0)) S 63 [(0, hrf b0 ((some h))), (1, hrf b0 l1), (2, .int l2), (3, .int l3), (4, .int l4)] [.int k1, hrf b0 k0] := by
  have hh : (kO S k0 10 (fun a2 => kcv (s_X10_take S a2 k1 1) (fun S1 => kI S1 ((some h)) 10 2 (fun v3 => if v3 = 0 then (knew S1 3 (fun o4 S5 => kO S5 o4 3 (fun a7 => kcv (s_X3_init S5 a7 l2 l3 l4) (fun S6 => kO S6 l1 1 (fun a9 => kcv (s_X1_addDisc S6 a9 o4) (fun S8 => some S8)))))) else (some S1))))) = some S1 := hh
  refine rw_iconst E (v := 1) (by decide) dX10_readDisc_63 ?_
  refine rw_cVv E (As := [.int k1, .int 1]) hh (by decide) rfl (fun _ _ hq => c_X10_take l b0 G _ _ _ _ _ hq) (cwV 2 E.2.2.2.2.1 gX10_readDisc_X10_take rfl rfl rfl (by decide +kernel) ⟨Nat.le_of_ble_eq_true rfl, Nat.le_of_ble_eq_true rfl⟩) rfl rfl (by (try simp only [List.map_cons, List.map_nil, List.sum_cons, List.sum_nil, hrf_cat, cat_i, cat_l, cat_r]) <;> decide) ⟨(show _ ≤ 1 by omega), (show _ ≤ 3 by omega)⟩ dX10_readDisc_64 (fun S1 hh => ?_)
  refine rw_aload_n E (j0 := 0) rfl rfl dX10_readDisc_67 ?_
  refine rw_getI E hh (C := RX10) (T := TX10) (N := 8) rfl (by decide) i_X10_readDisc_10 (by decide) rfl (List.mem_of_getElem? (i := 3) (by decide +kernel)) rfl dX10_readDisc_68 (fun v3 hh => ?_)
  refine rw_if_ne E hh (tgt := 89) (by decide) dX10_readDisc_71 (fun hh => ?_) (fun hh => ?_)
  · exact rw_vret E hrt hlk hh (show _ ≤ 1 by omega) (show _ ≤ 3 by omega) dX10_readDisc_89
  · refine rw_aload_n E (j0 := 1) rfl rfl dX10_readDisc_74 ?_
    refine rw_new E hh (C := RX3) (T := TX3) (N := 3) (ty0 := tyX3) rfl tyX3_ok (by decide) i_X10_readDisc_3 (List.mem_of_getElem? (i := 4) (by decide +kernel)) (List.mem_of_getElem? (i := 5) (by decide +kernel)) (List.mem_of_getElem? (i := 6) (by decide +kernel)) rfl hdv_3 (show _ ≤ 1 by omega) (show _ ≤ 3 by omega) dX10_readDisc_75 (fun o4 S5 hh => ?_)
    refine rw_dup E (hrf_cat _ _) dX10_readDisc_78 ?_
    refine rw_iload_n E (j0 := 2) rfl rfl dX10_readDisc_79 ?_
    refine rw_iload_n E (j0 := 3) rfl rfl dX10_readDisc_80 ?_
    refine rw_iload E (j0 := 4) rfl dX10_readDisc_81 ?_
    refine rw_cIv E (As := [.int l2, .int l3, .int l4]) hh (fun _ _ hq => c_X3_init l b0 G _ _ _ _ _ _ hq) (cwI 3 E.2.2.2.2.1 gX10_readDisc_X3_init rfl rfl rfl (E.2.2.2.2.1 _ (List.mem_of_getElem? (i := 6) (by decide +kernel))) (E.2.2.2.2.1 _ (List.mem_of_getElem? (i := 87) (by decide +kernel))) (E.2.2.2.2.1 _ (List.mem_of_getElem? (i := 88) (by decide +kernel))) rfl (by decide +kernel) ⟨Nat.le_of_ble_eq_true rfl, Nat.le_of_ble_eq_true rfl⟩) rfl rfl (by (try simp only [List.map_cons, List.map_nil, List.sum_cons, List.sum_nil, hrf_cat, cat_i, cat_l, cat_r]) <;> decide) ⟨(show _ ≤ 1 by omega), (show _ ≤ 3 by omega)⟩ dX10_readDisc_83 (fun S6 hh => ?_)
    refine rw_cVv E (As := [hrf b0 o4]) hh (by decide) rfl (fun _ _ hq => c_X1_addDisc l b0 G _ _ _ _ hq) (cwV 1 E.2.2.2.2.1 gX10_readDisc_X1_addDisc rfl rfl rfl (by decide +kernel) ⟨Nat.le_of_ble_eq_true rfl, Nat.le_of_ble_eq_true rfl⟩) rfl rfl (by (try simp only [List.map_cons, List.map_nil, List.sum_cons, List.sum_nil, hrf_cat, cat_i, cat_l, cat_r]) <;> decide) ⟨(show _ ≤ 1 by omega), (show _ ≤ 3 by omega)⟩ dX10_readDisc_86 (fun S8 hh => ?_)
    exact rw_vret E hrt hlk hh (show _ ≤ 1 by omega) (show _ ≤ 3 by omega) dX10_readDisc_89
def s_X10_readDisc_b20 (h : Nat) (S : HS) (l1 : Option Nat) (k0 : Option Nat) (k1 : Int32) (k2 : Int32) : Option (HS) := kO S k0 10 (fun a2 => kcv (s_X10_take S a2 k1 k2) (fun S1 => kO S1 ((some h)) 10 (fun a5 => kc (s_X10_takeNumber S1 a5 1 999) (fun v4 S3 => kO S3 ((some h)) 10 (fun a8 => kc (s_X10_takeNumber S3 a8 0 99) (fun v7 S6 => kO S6 ((some h)) 10 (fun a11 => kc (s_X10_takeNumber S6 a11 1 60) (fun v10 S9 => kI S9 ((some h)) 10 4 (fun v12 => if v12 = 3 then (s_X10_readDisc_b63 h S9 l1 v4 v7 v10 ((some h)) 1) else (s_X10_readDisc_b63 h S9 l1 v4 v7 v10 ((some h)) 0))))))))))
set_option maxHeartbeats 4000000 in
set_option maxRecDepth 100000 in
theorem w_X10_readDisc_b20 {p : Program} {l : Launch} {e : Env} {s : State} {m : MethodId} {args : Array Value} {below : List Frame} {meth : Method} {c : Code} {b0 : Nat} {G : hG} {S1 : HS} {h : Nat} {S : HS} {l1 : Option Nat} {k0 : Option Nat} {k1 : Int32} {k2 : Int32} (E : hE p s m args c b0 G cX10_readDisc RX10 5 wsX10_readDisc) (hrt : meth.sig.returnType = none) (hlk : meth.locks = false) {cells slots : Nat} (hc : cells + 1 ≤ 1) (hs : slots + 3 ≤ 3) (hh : s_X10_readDisc_b20 h S l1 k0 k1 k2 = some S1) : WH p l e rm_X10_readDisc s m args below meth c b0 G 5 cells slots (MQ below (hQ b0 G none S1) args s 1 3 (hA b0)) S 20 [(0, hrf b0 ((some h))), (1, hrf b0 l1)] [.int k2, .int k1, hrf b0 k0] := by
  have hh : (kO S k0 10 (fun a2 => kcv (s_X10_take S a2 k1 k2) (fun S1 => kO S1 ((some h)) 10 (fun a5 => kc (s_X10_takeNumber S1 a5 1 999) (fun v4 S3 => kO S3 ((some h)) 10 (fun a8 => kc (s_X10_takeNumber S3 a8 0 99) (fun v7 S6 => kO S6 ((some h)) 10 (fun a11 => kc (s_X10_takeNumber S6 a11 1 60) (fun v10 S9 => kI S9 ((some h)) 10 4 (fun v12 => if v12 = 3 then (s_X10_readDisc_b63 h S9 l1 v4 v7 v10 ((some h)) 1) else (s_X10_readDisc_b63 h S9 l1 v4 v7 v10 ((some h)) 0))))))))))) = some S1 := hh
  refine rw_cVv E (As := [.int k1, .int k2]) hh (by decide) rfl (fun _ _ hq => c_X10_take l b0 G _ _ _ _ _ hq) (cwV 2 E.2.2.2.2.1 gX10_readDisc_X10_take rfl rfl rfl (by decide +kernel) ⟨Nat.le_of_ble_eq_true rfl, Nat.le_of_ble_eq_true rfl⟩) rfl rfl (by (try simp only [List.map_cons, List.map_nil, List.sum_cons, List.sum_nil, hrf_cat, cat_i, cat_l, cat_r]) <;> decide) ⟨(show _ ≤ 1 by omega), (show _ ≤ 3 by omega)⟩ dX10_readDisc_20 (fun S1 hh => ?_)
  refine rw_aload_n E (j0 := 0) rfl rfl dX10_readDisc_23 ?_
  refine rw_iconst E (v := 1) (by decide) dX10_readDisc_24 ?_
  refine rw_sipush E (v := 999) (by decide) dX10_readDisc_25 ?_
  refine rw_cVi E (As := [.int 1, .int 999]) hh (by decide) rfl (fun _ _ _ hq => c_X10_takeNumber l b0 G _ _ _ _ _ _ hq) (cwV 2 E.2.2.2.2.1 gX10_readDisc_X10_takeNumber rfl rfl rfl (by decide +kernel) ⟨Nat.le_of_ble_eq_true rfl, Nat.le_of_ble_eq_true rfl⟩) rfl rfl (by (try simp only [List.map_cons, List.map_nil, List.sum_cons, List.sum_nil, hrf_cat, cat_i, cat_l, cat_r]) <;> decide) ⟨(show _ ≤ 1 by omega), (show _ ≤ 3 by omega)⟩ dX10_readDisc_28 (fun v4 S3 hh => ?_)
  refine rw_istore_n E (i := 2) (lv2 := [(2, .int v4), (0, hrf b0 ((some h))), (1, hrf b0 l1)]) rfl (by decide) (by simp [lvs, lvs2, hrf_cat]) dX10_readDisc_31 ?_
  refine rw_aload_n E (j0 := 1) rfl rfl dX10_readDisc_32 ?_
  refine rw_iconst E (v := 0) (by decide) dX10_readDisc_33 ?_
  refine rw_bipush E (v := 99) (by decide) dX10_readDisc_34 ?_
  refine rw_cVi E (As := [.int 0, .int 99]) hh (by decide) rfl (fun _ _ _ hq => c_X10_takeNumber l b0 G _ _ _ _ _ _ hq) (cwV 2 E.2.2.2.2.1 gX10_readDisc_X10_takeNumber rfl rfl rfl (by decide +kernel) ⟨Nat.le_of_ble_eq_true rfl, Nat.le_of_ble_eq_true rfl⟩) rfl rfl (by (try simp only [List.map_cons, List.map_nil, List.sum_cons, List.sum_nil, hrf_cat, cat_i, cat_l, cat_r]) <;> decide) ⟨(show _ ≤ 1 by omega), (show _ ≤ 3 by omega)⟩ dX10_readDisc_36 (fun v7 S6 hh => ?_)
  refine rw_istore_n E (lv2 := [(3, .int v7), (2, .int v4), (0, hrf b0 ((some h))), (1, hrf b0 l1)]) rfl (by decide) rfl dX10_readDisc_39 ?_
  refine rw_aload_n E (j0 := 2) rfl rfl dX10_readDisc_40 ?_
  refine rw_iconst E (v := 1) (by decide) dX10_readDisc_41 ?_
  refine rw_bipush E (v := 60) (by decide) dX10_readDisc_42 ?_
  refine rw_cVi E (As := [.int 1, .int 60]) hh (by decide) rfl (fun _ _ _ hq => c_X10_takeNumber l b0 G _ _ _ _ _ _ hq) (cwV 2 E.2.2.2.2.1 gX10_readDisc_X10_takeNumber rfl rfl rfl (by decide +kernel) ⟨Nat.le_of_ble_eq_true rfl, Nat.le_of_ble_eq_true rfl⟩) rfl rfl (by (try simp only [List.map_cons, List.map_nil, List.sum_cons, List.sum_nil, hrf_cat, cat_i, cat_l, cat_r]) <;> decide) ⟨(show _ ≤ 1 by omega), (show _ ≤ 3 by omega)⟩ dX10_readDisc_44 (fun v10 S9 hh => ?_)
  refine rw_istore E (lv2 := [(4, .int v10), (3, .int v7), (2, .int v4), (0, hrf b0 ((some h))), (1, hrf b0 l1)]) (by decide) rfl dX10_readDisc_47 ?_
  refine rw_aload_n E (j0 := 3) rfl rfl dX10_readDisc_49 ?_
  refine rw_aload_n E (j0 := 3) rfl rfl dX10_readDisc_50 ?_
  refine rw_getI E hh (C := RX10) (T := TX10) (N := 8) rfl (by decide) i_X10_readDisc_10 (by decide) rfl (List.mem_of_getElem? (i := 2) (by decide +kernel)) rfl dX10_readDisc_51 (fun v12 hh => ?_)
  refine rw_iconst E (v := 3) (by decide) dX10_readDisc_54 ?_
  refine rw_icmp_ne E hh (tgt := 62) (by decide) dX10_readDisc_55 (fun hh => ?_) (fun hh => ?_)
  · refine rw_iconst E (v := 0) (by decide) dX10_readDisc_62 ?_
    refine WH.pick [3, 4, 2, 1, 0] rfl ?_
    exact w_X10_readDisc_b63 E hrt hlk (by omega) (by omega) hh
  · refine rw_iconst E (v := 1) (by decide) dX10_readDisc_58 ?_
    refine rw_goto E (tgt := 63) (by decide) dX10_readDisc_59 ?_
    refine WH.pick [3, 4, 2, 1, 0] rfl ?_
    exact w_X10_readDisc_b63 E hrt hlk (by omega) (by omega) hh
def s_X10_readDisc (S : HS) (h : Nat) (l1 : Option Nat) : Option (HS) := kO S ((some h)) 10 (fun a3 => kc (s_X10_stands S a3 0) (fun v2 S1 => kI S1 l1 1 3 (fun v4 => if 4 ≤ v4 then (s_X10_readDisc_b20 h S1 l1 ((some h)) v2 0) else (s_X10_readDisc_b20 h S1 l1 ((some h)) v2 1))))
set_option maxHeartbeats 4000000 in
set_option maxRecDepth 100000 in
theorem c_X10_readDisc (l : Launch) (b0 : Nat) (G : hG) (S S1 : HS) (h : Nat) (l1 : Option Nat) (hh : s_X10_readDisc S h l1 = some S1) : MH l yX10_readDisc wsX10_readDisc rm_X10_readDisc b0 G S [hrf b0 (some h), hrf b0 l1] none S1 1 3 := by
  refine MH.ofW (cc := cX10_readDisc) (maxL := 5) (ret := none) (own := RX10) (lv0 := [(0, hrf b0 ((some h))), (1, hrf b0 l1)]) (by decide) rfl rfl (by simp [lg_sl, hrf_cat, cat_i, cat_l, cat_r]) (by simp only [lv_args, hrf_cat, cat_i, cat_l, cat_r]; rfl) ?_
  intro p e s m args below meth c E hrt hlk hnm
  have hh : (kO S ((some h)) 10 (fun a3 => kc (s_X10_stands S a3 0) (fun v2 S1 => kI S1 l1 1 3 (fun v4 => if 4 ≤ v4 then (s_X10_readDisc_b20 h S1 l1 ((some h)) v2 0) else (s_X10_readDisc_b20 h S1 l1 ((some h)) v2 1))))) = some S1 := hh
  have hc : 0 + 1 ≤ 1 := by decide
  have hs : 0 + 3 ≤ 3 := by decide
  refine rw_aload_n E (j0 := 0) rfl rfl dX10_readDisc_0 ?_
  refine rw_aload_n E (j0 := 0) rfl rfl dX10_readDisc_1 ?_
  refine rw_ldcS E (i := 0) dX10_readDisc_2 (by decide) rfl rfl ?_
  refine rw_cVi E (As := [.ref (G.2.1 0)]) hh (by decide) rfl (fun _ _ _ hq => c_X10_stands l b0 G _ _ _ _ _ hq) (cwV 1 E.2.2.2.2.1 gX10_readDisc_X10_stands rfl rfl rfl (by decide +kernel) ⟨Nat.le_of_ble_eq_true rfl, Nat.le_of_ble_eq_true rfl⟩) rfl rfl (by (try simp only [List.map_cons, List.map_nil, List.sum_cons, List.sum_nil, hrf_cat, cat_i, cat_l, cat_r]) <;> decide) ⟨(show _ ≤ 1 by omega), (show _ ≤ 3 by omega)⟩ dX10_readDisc_4 (fun v2 S1 hh => ?_)
  refine rw_aload_n E (j0 := 1) rfl rfl dX10_readDisc_7 ?_
  refine rw_getI E hh (C := RX1) (T := TX1) (N := 6) rfl (by decide) i_X10_readDisc_1 (by decide) rfl (List.mem_of_getElem? (i := 1) (by decide +kernel)) rfl dX10_readDisc_8 (fun v4 hh => ?_)
  refine rw_iconst E (v := 4) (by decide) dX10_readDisc_11 ?_
  refine rw_icmp_ge E hh (tgt := 19) (by decide) dX10_readDisc_12 (fun hh => ?_) (fun hh => ?_)
  · refine rw_iconst E (v := 0) (by decide) dX10_readDisc_19 ?_
    refine WH.pick [0, 1] rfl ?_
    exact w_X10_readDisc_b20 E hrt hlk (by omega) (by omega) hh
  · refine rw_iconst E (v := 1) (by decide) dX10_readDisc_15 ?_
    refine rw_goto E (tgt := 20) (by decide) dX10_readDisc_16 ?_
    refine WH.pick [0, 1] rfl ?_
    exact w_X10_readDisc_b20 E hrt hlk (by omega) (by omega) hh

/-! HummingDisc$Tape.readThread(LHummingDisc$Box;)V -/
abbrev rm_X10_readThread : Room := { frames := 5, cells := 1, slots := 4, locals := 107 }
theorem i_X10_readThread_1 : ∀ w ∈ wsX10, w ∈ wsX10_readThread := fun _ h => List.mem_cons_of_mem _ (List.mem_append_left _ (List.mem_append_left _ (List.mem_append_right _ (h))))
theorem i_X10_readThread_2 : ∀ w ∈ wsX20, w ∈ wsX10_readThread := fun _ h => List.mem_cons_of_mem _ (List.mem_append_right _ (h))
theorem i_X10_readThread_10 : ∀ w ∈ wsX100, w ∈ wsX10_readThread := fun _ h => List.mem_cons_of_mem _ (List.mem_append_left _ (List.mem_append_right _ (h)))
def s_X10_readThread_b74 (h : Nat) (S : HS) (l1 : Option Nat) (l2 : Int32) (l3 : Int32) (l4 : Int32) (l5 : Int32) (k0 : Option Nat) (k1 : Int32) : Option (HS) := kO S k0 10 (fun a2 => kcv (s_X10_take S a2 k1 1) (fun S1 => kI S1 ((some h)) 10 2 (fun v3 => if v3 = 0 then (knew S1 2 (fun o4 S5 => kO S5 o4 2 (fun a7 => kcv (s_X2_init S5 a7 l2 l3 l4 l5) (fun S6 => kO S6 l1 1 (fun a9 => kcv (s_X1_addCord S6 a9 o4) (fun S8 => some S8)))))) else (some S1))))
set_option maxHeartbeats 4000000 in
set_option maxRecDepth 100000 in
theorem w_X10_readThread_b74 {p : Program} {l : Launch} {e : Env} {s : State} {m : MethodId} {args : Array Value} {below : List Frame} {meth : Method} {c : Code} {b0 : Nat} {G : hG} {S1 : HS} {h : Nat} {S : HS} {l1 : Option Nat} {l2 : Int32} {l3 : Int32} {l4 : Int32} {l5 : Int32} {k0 : Option Nat} {k1 : Int32} (E : hE p s m args c b0 G cX10_readThread RX10 6 wsX10_readThread) (hrt : meth.sig.returnType = none) (hlk : meth.locks = false) {cells slots : Nat} (hc : cells + 1 ≤ 1) (hs : slots + 4 ≤ 4) (hh : s_X10_readThread_b74 h S l1 l2 l3 l4 l5 k0 k1 = some S1) : WH p l e rm_X10_readThread s m args below meth c b0 G 6 cells slots (MQ below (hQ b0 G none S1) args s 1 4 (hA b0)) S 74 [(0, hrf b0 ((some h))), (1, hrf b0 l1), (2, .int l2), (3, .int l3), (4, .int l4), (5, .int l5)] [.int k1, hrf b0 k0] := by
  have hh : (kO S k0 10 (fun a2 => kcv (s_X10_take S a2 k1 1) (fun S1 => kI S1 ((some h)) 10 2 (fun v3 => if v3 = 0 then (knew S1 2 (fun o4 S5 => kO S5 o4 2 (fun a7 => kcv (s_X2_init S5 a7 l2 l3 l4 l5) (fun S6 => kO S6 l1 1 (fun a9 => kcv (s_X1_addCord S6 a9 o4) (fun S8 => some S8)))))) else (some S1))))) = some S1 := hh
  refine rw_iconst E (v := 1) (by decide) dX10_readThread_74 ?_
  refine rw_cVv E (As := [.int k1, .int 1]) hh (by decide) rfl (fun _ _ hq => c_X10_take l b0 G _ _ _ _ _ hq) (cwV 2 E.2.2.2.2.1 gX10_readThread_X10_take rfl rfl rfl (by decide +kernel) ⟨Nat.le_of_ble_eq_true rfl, Nat.le_of_ble_eq_true rfl⟩) rfl rfl (by (try simp only [List.map_cons, List.map_nil, List.sum_cons, List.sum_nil, hrf_cat, cat_i, cat_l, cat_r]) <;> decide) ⟨(show _ ≤ 1 by omega), (show _ ≤ 4 by omega)⟩ dX10_readThread_75 (fun S1 hh => ?_)
  refine rw_aload_n E (j0 := 0) rfl rfl dX10_readThread_78 ?_
  refine rw_getI E hh (C := RX10) (T := TX10) (N := 8) rfl (by decide) i_X10_readThread_10 (by decide) rfl (List.mem_of_getElem? (i := 3) (by decide +kernel)) rfl dX10_readThread_79 (fun v3 hh => ?_)
  refine rw_if_ne E hh (tgt := 102) (by decide) dX10_readThread_82 (fun hh => ?_) (fun hh => ?_)
  · exact rw_vret E hrt hlk hh (show _ ≤ 1 by omega) (show _ ≤ 4 by omega) dX10_readThread_102
  · refine rw_aload_n E (j0 := 1) rfl rfl dX10_readThread_85 ?_
    refine rw_new E hh (C := RX2) (T := TX2) (N := 4) (ty0 := tyX2) rfl tyX2_ok (by decide) i_X10_readThread_2 (List.mem_of_getElem? (i := 4) (by decide +kernel)) (List.mem_of_getElem? (i := 5) (by decide +kernel)) (List.mem_of_getElem? (i := 6) (by decide +kernel)) rfl hdv_2 (show _ ≤ 1 by omega) (show _ ≤ 4 by omega) dX10_readThread_86 (fun o4 S5 hh => ?_)
    refine rw_dup E (hrf_cat _ _) dX10_readThread_89 ?_
    refine rw_iload_n E (j0 := 2) rfl rfl dX10_readThread_90 ?_
    refine rw_iload_n E (j0 := 3) rfl rfl dX10_readThread_91 ?_
    refine rw_iload E (j0 := 4) rfl dX10_readThread_92 ?_
    refine rw_iload E (j0 := 5) rfl dX10_readThread_94 ?_
    refine rw_cIv E (As := [.int l2, .int l3, .int l4, .int l5]) hh (fun _ _ hq => c_X2_init l b0 G _ _ _ _ _ _ _ hq) (cwI 4 E.2.2.2.2.1 gX10_readThread_X2_init rfl rfl rfl (E.2.2.2.2.1 _ (List.mem_of_getElem? (i := 6) (by decide +kernel))) (E.2.2.2.2.1 _ (List.mem_of_getElem? (i := 87) (by decide +kernel))) (E.2.2.2.2.1 _ (List.mem_of_getElem? (i := 88) (by decide +kernel))) rfl (by decide +kernel) ⟨Nat.le_of_ble_eq_true rfl, Nat.le_of_ble_eq_true rfl⟩) rfl rfl (by (try simp only [List.map_cons, List.map_nil, List.sum_cons, List.sum_nil, hrf_cat, cat_i, cat_l, cat_r]) <;> decide) ⟨(show _ ≤ 1 by omega), (show _ ≤ 4 by omega)⟩ dX10_readThread_96 (fun S6 hh => ?_)
    refine rw_cVv E (As := [hrf b0 o4]) hh (by decide) rfl (fun _ _ hq => c_X1_addCord l b0 G _ _ _ _ hq) (cwV 1 E.2.2.2.2.1 gX10_readThread_X1_addCord rfl rfl rfl (by decide +kernel) ⟨Nat.le_of_ble_eq_true rfl, Nat.le_of_ble_eq_true rfl⟩) rfl rfl (by (try simp only [List.map_cons, List.map_nil, List.sum_cons, List.sum_nil, hrf_cat, cat_i, cat_l, cat_r]) <;> decide) ⟨(show _ ≤ 1 by omega), (show _ ≤ 4 by omega)⟩ dX10_readThread_99 (fun S8 hh => ?_)
    exact rw_vret E hrt hlk hh (show _ ≤ 1 by omega) (show _ ≤ 4 by omega) dX10_readThread_102
def s_X10_readThread_b20 (h : Nat) (S : HS) (l1 : Option Nat) (k0 : Option Nat) (k1 : Int32) (k2 : Int32) : Option (HS) := kO S k0 10 (fun a2 => kcv (s_X10_take S a2 k1 k2) (fun S1 => kO S1 ((some h)) 10 (fun a5 => kc (s_X10_takeNumber S1 a5 1 99) (fun v4 S3 => kO S3 ((some h)) 10 (fun a8 => kc (s_X10_takeNumber S3 a8 1 400) (fun v7 S6 => kO S6 ((some h)) 10 (fun a11 => kc (s_X10_takeNumber S6 a11 v7 800) (fun v10 S9 => kO S9 ((some h)) 10 (fun a14 => kc (s_X10_takeNumber S9 a14 1 999) (fun v13 S12 => kI S12 ((some h)) 10 4 (fun v15 => if v15 = 3 then (s_X10_readThread_b74 h S12 l1 v4 v7 v10 v13 ((some h)) 1) else (s_X10_readThread_b74 h S12 l1 v4 v7 v10 v13 ((some h)) 0))))))))))))
set_option maxHeartbeats 4000000 in
set_option maxRecDepth 100000 in
theorem w_X10_readThread_b20 {p : Program} {l : Launch} {e : Env} {s : State} {m : MethodId} {args : Array Value} {below : List Frame} {meth : Method} {c : Code} {b0 : Nat} {G : hG} {S1 : HS} {h : Nat} {S : HS} {l1 : Option Nat} {k0 : Option Nat} {k1 : Int32} {k2 : Int32} (E : hE p s m args c b0 G cX10_readThread RX10 6 wsX10_readThread) (hrt : meth.sig.returnType = none) (hlk : meth.locks = false) {cells slots : Nat} (hc : cells + 1 ≤ 1) (hs : slots + 4 ≤ 4) (hh : s_X10_readThread_b20 h S l1 k0 k1 k2 = some S1) : WH p l e rm_X10_readThread s m args below meth c b0 G 6 cells slots (MQ below (hQ b0 G none S1) args s 1 4 (hA b0)) S 20 [(0, hrf b0 ((some h))), (1, hrf b0 l1)] [.int k2, .int k1, hrf b0 k0] := by
  have hh : (kO S k0 10 (fun a2 => kcv (s_X10_take S a2 k1 k2) (fun S1 => kO S1 ((some h)) 10 (fun a5 => kc (s_X10_takeNumber S1 a5 1 99) (fun v4 S3 => kO S3 ((some h)) 10 (fun a8 => kc (s_X10_takeNumber S3 a8 1 400) (fun v7 S6 => kO S6 ((some h)) 10 (fun a11 => kc (s_X10_takeNumber S6 a11 v7 800) (fun v10 S9 => kO S9 ((some h)) 10 (fun a14 => kc (s_X10_takeNumber S9 a14 1 999) (fun v13 S12 => kI S12 ((some h)) 10 4 (fun v15 => if v15 = 3 then (s_X10_readThread_b74 h S12 l1 v4 v7 v10 v13 ((some h)) 1) else (s_X10_readThread_b74 h S12 l1 v4 v7 v10 v13 ((some h)) 0))))))))))))) = some S1 := hh
  refine rw_cVv E (As := [.int k1, .int k2]) hh (by decide) rfl (fun _ _ hq => c_X10_take l b0 G _ _ _ _ _ hq) (cwV 2 E.2.2.2.2.1 gX10_readThread_X10_take rfl rfl rfl (by decide +kernel) ⟨Nat.le_of_ble_eq_true rfl, Nat.le_of_ble_eq_true rfl⟩) rfl rfl (by (try simp only [List.map_cons, List.map_nil, List.sum_cons, List.sum_nil, hrf_cat, cat_i, cat_l, cat_r]) <;> decide) ⟨(show _ ≤ 1 by omega), (show _ ≤ 4 by omega)⟩ dX10_readThread_20 (fun S1 hh => ?_)
  refine rw_aload_n E (j0 := 0) rfl rfl dX10_readThread_23 ?_
  refine rw_iconst E (v := 1) (by decide) dX10_readThread_24 ?_
  refine rw_bipush E (v := 99) (by decide) dX10_readThread_25 ?_
  refine rw_cVi E (As := [.int 1, .int 99]) hh (by decide) rfl (fun _ _ _ hq => c_X10_takeNumber l b0 G _ _ _ _ _ _ hq) (cwV 2 E.2.2.2.2.1 gX10_readThread_X10_takeNumber rfl rfl rfl (by decide +kernel) ⟨Nat.le_of_ble_eq_true rfl, Nat.le_of_ble_eq_true rfl⟩) rfl rfl (by (try simp only [List.map_cons, List.map_nil, List.sum_cons, List.sum_nil, hrf_cat, cat_i, cat_l, cat_r]) <;> decide) ⟨(show _ ≤ 1 by omega), (show _ ≤ 4 by omega)⟩ dX10_readThread_27 (fun v4 S3 hh => ?_)
  refine rw_istore_n E (i := 2) (lv2 := [(2, .int v4), (0, hrf b0 ((some h))), (1, hrf b0 l1)]) rfl (by decide) (by simp [lvs, lvs2, hrf_cat]) dX10_readThread_30 ?_
  refine rw_aload_n E (j0 := 1) rfl rfl dX10_readThread_31 ?_
  refine rw_iconst E (v := 1) (by decide) dX10_readThread_32 ?_
  refine rw_sipush E (v := 400) (by decide) dX10_readThread_33 ?_
  refine rw_cVi E (As := [.int 1, .int 400]) hh (by decide) rfl (fun _ _ _ hq => c_X10_takeNumber l b0 G _ _ _ _ _ _ hq) (cwV 2 E.2.2.2.2.1 gX10_readThread_X10_takeNumber rfl rfl rfl (by decide +kernel) ⟨Nat.le_of_ble_eq_true rfl, Nat.le_of_ble_eq_true rfl⟩) rfl rfl (by (try simp only [List.map_cons, List.map_nil, List.sum_cons, List.sum_nil, hrf_cat, cat_i, cat_l, cat_r]) <;> decide) ⟨(show _ ≤ 1 by omega), (show _ ≤ 4 by omega)⟩ dX10_readThread_36 (fun v7 S6 hh => ?_)
  refine rw_istore_n E (lv2 := [(3, .int v7), (2, .int v4), (0, hrf b0 ((some h))), (1, hrf b0 l1)]) rfl (by decide) rfl dX10_readThread_39 ?_
  refine rw_aload_n E (j0 := 2) rfl rfl dX10_readThread_40 ?_
  refine rw_iload_n E (j0 := 0) rfl rfl dX10_readThread_41 ?_
  refine rw_sipush E (v := 800) (by decide) dX10_readThread_42 ?_
  refine rw_cVi E (As := [.int v7, .int 800]) hh (by decide) rfl (fun _ _ _ hq => c_X10_takeNumber l b0 G _ _ _ _ _ _ hq) (cwV 2 E.2.2.2.2.1 gX10_readThread_X10_takeNumber rfl rfl rfl (by decide +kernel) ⟨Nat.le_of_ble_eq_true rfl, Nat.le_of_ble_eq_true rfl⟩) rfl rfl (by (try simp only [List.map_cons, List.map_nil, List.sum_cons, List.sum_nil, hrf_cat, cat_i, cat_l, cat_r]) <;> decide) ⟨(show _ ≤ 1 by omega), (show _ ≤ 4 by omega)⟩ dX10_readThread_45 (fun v10 S9 hh => ?_)
  refine rw_istore E (lv2 := [(4, .int v10), (3, .int v7), (2, .int v4), (0, hrf b0 ((some h))), (1, hrf b0 l1)]) (by decide) rfl dX10_readThread_48 ?_
  refine rw_aload_n E (j0 := 3) rfl rfl dX10_readThread_50 ?_
  refine rw_iconst E (v := 1) (by decide) dX10_readThread_51 ?_
  refine rw_sipush E (v := 999) (by decide) dX10_readThread_52 ?_
  refine rw_cVi E (As := [.int 1, .int 999]) hh (by decide) rfl (fun _ _ _ hq => c_X10_takeNumber l b0 G _ _ _ _ _ _ hq) (cwV 2 E.2.2.2.2.1 gX10_readThread_X10_takeNumber rfl rfl rfl (by decide +kernel) ⟨Nat.le_of_ble_eq_true rfl, Nat.le_of_ble_eq_true rfl⟩) rfl rfl (by (try simp only [List.map_cons, List.map_nil, List.sum_cons, List.sum_nil, hrf_cat, cat_i, cat_l, cat_r]) <;> decide) ⟨(show _ ≤ 1 by omega), (show _ ≤ 4 by omega)⟩ dX10_readThread_55 (fun v13 S12 hh => ?_)
  refine rw_istore E (lv2 := [(5, .int v13), (4, .int v10), (3, .int v7), (2, .int v4), (0, hrf b0 ((some h))), (1, hrf b0 l1)]) (by decide) rfl dX10_readThread_58 ?_
  refine rw_aload_n E (j0 := 4) rfl rfl dX10_readThread_60 ?_
  refine rw_aload_n E (j0 := 4) rfl rfl dX10_readThread_61 ?_
  refine rw_getI E hh (C := RX10) (T := TX10) (N := 8) rfl (by decide) i_X10_readThread_10 (by decide) rfl (List.mem_of_getElem? (i := 2) (by decide +kernel)) rfl dX10_readThread_62 (fun v15 hh => ?_)
  refine rw_iconst E (v := 3) (by decide) dX10_readThread_65 ?_
  refine rw_icmp_ne E hh (tgt := 73) (by decide) dX10_readThread_66 (fun hh => ?_) (fun hh => ?_)
  · refine rw_iconst E (v := 0) (by decide) dX10_readThread_73 ?_
    refine WH.pick [4, 5, 3, 2, 1, 0] rfl ?_
    exact w_X10_readThread_b74 E hrt hlk (by omega) (by omega) hh
  · refine rw_iconst E (v := 1) (by decide) dX10_readThread_69 ?_
    refine rw_goto E (tgt := 74) (by decide) dX10_readThread_70 ?_
    refine WH.pick [4, 5, 3, 2, 1, 0] rfl ?_
    exact w_X10_readThread_b74 E hrt hlk (by omega) (by omega) hh
def s_X10_readThread (S : HS) (h : Nat) (l1 : Option Nat) : Option (HS) := kO S ((some h)) 10 (fun a3 => kc (s_X10_stands S a3 1) (fun v2 S1 => kI S1 l1 1 4 (fun v4 => if 4 ≤ v4 then (s_X10_readThread_b20 h S1 l1 ((some h)) v2 0) else (s_X10_readThread_b20 h S1 l1 ((some h)) v2 1))))
set_option maxHeartbeats 4000000 in
set_option maxRecDepth 100000 in
theorem c_X10_readThread (l : Launch) (b0 : Nat) (G : hG) (S S1 : HS) (h : Nat) (l1 : Option Nat) (hh : s_X10_readThread S h l1 = some S1) : MH l yX10_readThread wsX10_readThread rm_X10_readThread b0 G S [hrf b0 (some h), hrf b0 l1] none S1 1 4 := by
  refine MH.ofW (cc := cX10_readThread) (maxL := 6) (ret := none) (own := RX10) (lv0 := [(0, hrf b0 ((some h))), (1, hrf b0 l1)]) (by decide) rfl rfl (by simp [lg_sl, hrf_cat, cat_i, cat_l, cat_r]) (by simp only [lv_args, hrf_cat, cat_i, cat_l, cat_r]; rfl) ?_
  intro p e s m args below meth c E hrt hlk hnm
  have hh : (kO S ((some h)) 10 (fun a3 => kc (s_X10_stands S a3 1) (fun v2 S1 => kI S1 l1 1 4 (fun v4 => if 4 ≤ v4 then (s_X10_readThread_b20 h S1 l1 ((some h)) v2 0) else (s_X10_readThread_b20 h S1 l1 ((some h)) v2 1))))) = some S1 := hh
  have hc : 0 + 1 ≤ 1 := by decide
  have hs : 0 + 4 ≤ 4 := by decide
  refine rw_aload_n E (j0 := 0) rfl rfl dX10_readThread_0 ?_
  refine rw_aload_n E (j0 := 0) rfl rfl dX10_readThread_1 ?_
  refine rw_ldcS E (i := 1) dX10_readThread_2 (by decide) rfl rfl ?_
  refine rw_cVi E (As := [.ref (G.2.1 1)]) hh (by decide) rfl (fun _ _ _ hq => c_X10_stands l b0 G _ _ _ _ _ hq) (cwV 1 E.2.2.2.2.1 gX10_readThread_X10_stands rfl rfl rfl (by decide +kernel) ⟨Nat.le_of_ble_eq_true rfl, Nat.le_of_ble_eq_true rfl⟩) rfl rfl (by (try simp only [List.map_cons, List.map_nil, List.sum_cons, List.sum_nil, hrf_cat, cat_i, cat_l, cat_r]) <;> decide) ⟨(show _ ≤ 1 by omega), (show _ ≤ 4 by omega)⟩ dX10_readThread_4 (fun v2 S1 hh => ?_)
  refine rw_aload_n E (j0 := 1) rfl rfl dX10_readThread_7 ?_
  refine rw_getI E hh (C := RX1) (T := TX1) (N := 6) rfl (by decide) i_X10_readThread_1 (by decide) rfl (List.mem_of_getElem? (i := 1) (by decide +kernel)) rfl dX10_readThread_8 (fun v4 hh => ?_)
  refine rw_iconst E (v := 4) (by decide) dX10_readThread_11 ?_
  refine rw_icmp_ge E hh (tgt := 19) (by decide) dX10_readThread_12 (fun hh => ?_) (fun hh => ?_)
  · refine rw_iconst E (v := 0) (by decide) dX10_readThread_19 ?_
    refine WH.pick [0, 1] rfl ?_
    exact w_X10_readThread_b20 E hrt hlk (by omega) (by omega) hh
  · refine rw_iconst E (v := 1) (by decide) dX10_readThread_15 ?_
    refine rw_goto E (tgt := 20) (by decide) dX10_readThread_16 ?_
    refine WH.pick [0, 1] rfl ?_
    exact w_X10_readThread_b20 E hrt hlk (by omega) (by omega) hh

/-! HummingDisc$Tape.whatStands()I -/
abbrev rm_X10_whatStands : Room := { frames := 5, cells := 0, slots := 0, locals := 107 }
def s_X10_whatStands (S : HS) (h : Nat) : Option (Int32 × HS) := kO S ((some h)) 10 (fun a3 => kc (s_X10_stands S a3 7) (fun v2 S1 => if v2 = 0 then (kO S1 ((some h)) 10 (fun a6 => kc (s_X10_stands S1 a6 8) (fun v5 S4 => if v5 = 0 then (kO S4 ((some h)) 10 (fun a9 => kc (s_X10_stands S4 a9 9) (fun v8 S7 => if v8 = 0 then (kO S7 ((some h)) 10 (fun a12 => kc (s_X10_stands S7 a12 10) (fun v11 S10 => if v11 = 0 then (some ((-1000000), S10)) else (some (3, S10))))) else (some (2, S7))))) else (some (1, S4))))) else (some (0, S1))))
set_option maxHeartbeats 4000000 in
set_option maxRecDepth 100000 in
theorem c_X10_whatStands (l : Launch) (b0 : Nat) (G : hG) (S S1 : HS) (h : Nat) (r : Int32) (hh : s_X10_whatStands S h  = some (r, S1)) : MH l yX10_whatStands wsX10_whatStands rm_X10_whatStands b0 G S [hrf b0 (some h)] (some (.int r)) S1 0 0 := by
  refine MH.ofW (cc := cX10_whatStands) (maxL := 1) (ret := (some .int)) (own := RX10) (lv0 := [(0, hrf b0 ((some h)))]) (by decide) rfl rfl (Nat.le_of_ble_eq_true rfl) rfl ?_
  intro p e s m args below meth c E hrt hlk hnm
  have hh : (kO S ((some h)) 10 (fun a3 => kc (s_X10_stands S a3 7) (fun v2 S1 => if v2 = 0 then (kO S1 ((some h)) 10 (fun a6 => kc (s_X10_stands S1 a6 8) (fun v5 S4 => if v5 = 0 then (kO S4 ((some h)) 10 (fun a9 => kc (s_X10_stands S4 a9 9) (fun v8 S7 => if v8 = 0 then (kO S7 ((some h)) 10 (fun a12 => kc (s_X10_stands S7 a12 10) (fun v11 S10 => if v11 = 0 then (some ((-1000000), S10)) else (some (3, S10))))) else (some (2, S7))))) else (some (1, S4))))) else (some (0, S1))))) = some (r, S1) := hh
  refine rw_aload_n E (j0 := 0) rfl rfl dX10_whatStands_0 ?_
  refine rw_ldcS E (i := 7) dX10_whatStands_1 (by decide) rfl rfl ?_
  refine rw_cVi E (As := [.ref (G.2.1 7)]) hh (by decide) rfl (fun _ _ _ hq => c_X10_stands l b0 G _ _ _ _ _ hq) (cwV 1 E.2.2.2.2.1 gX10_whatStands_X10_stands rfl rfl rfl (by decide +kernel) ⟨Nat.le_of_ble_eq_true rfl, Nat.le_of_ble_eq_true rfl⟩) rfl rfl (by (try simp only [List.map_cons, List.map_nil, List.sum_cons, List.sum_nil, hrf_cat, cat_i, cat_l, cat_r]) <;> decide) ⟨Nat.le_of_ble_eq_true rfl, Nat.le_of_ble_eq_true rfl⟩ dX10_whatStands_3 (fun v2 S1 hh => ?_)
  refine rw_if_eq E hh (tgt := 11) (by decide) dX10_whatStands_6 (fun hh => ?_) (fun hh => ?_)
  · refine rw_aload_n E (j0 := 0) rfl rfl dX10_whatStands_11 ?_
    refine rw_ldcS E (i := 8) dX10_whatStands_12 (by decide) rfl rfl ?_
    refine rw_cVi E (As := [.ref (G.2.1 8)]) hh (by decide) rfl (fun _ _ _ hq => c_X10_stands l b0 G _ _ _ _ _ hq) (cwV 1 E.2.2.2.2.1 gX10_whatStands_X10_stands rfl rfl rfl (by decide +kernel) ⟨Nat.le_of_ble_eq_true rfl, Nat.le_of_ble_eq_true rfl⟩) rfl rfl (by (try simp only [List.map_cons, List.map_nil, List.sum_cons, List.sum_nil, hrf_cat, cat_i, cat_l, cat_r]) <;> decide) ⟨Nat.le_of_ble_eq_true rfl, Nat.le_of_ble_eq_true rfl⟩ dX10_whatStands_14 (fun v5 S4 hh => ?_)
    refine rw_if_eq E hh (tgt := 22) (by decide) dX10_whatStands_17 (fun hh => ?_) (fun hh => ?_)
    · refine rw_aload_n E (j0 := 0) rfl rfl dX10_whatStands_22 ?_
      refine rw_ldcS E (i := 9) dX10_whatStands_23 (by decide) rfl rfl ?_
      refine rw_cVi E (As := [.ref (G.2.1 9)]) hh (by decide) rfl (fun _ _ _ hq => c_X10_stands l b0 G _ _ _ _ _ hq) (cwV 1 E.2.2.2.2.1 gX10_whatStands_X10_stands rfl rfl rfl (by decide +kernel) ⟨Nat.le_of_ble_eq_true rfl, Nat.le_of_ble_eq_true rfl⟩) rfl rfl (by (try simp only [List.map_cons, List.map_nil, List.sum_cons, List.sum_nil, hrf_cat, cat_i, cat_l, cat_r]) <;> decide) ⟨Nat.le_of_ble_eq_true rfl, Nat.le_of_ble_eq_true rfl⟩ dX10_whatStands_25 (fun v8 S7 hh => ?_)
      refine rw_if_eq E hh (tgt := 33) (by decide) dX10_whatStands_28 (fun hh => ?_) (fun hh => ?_)
      · refine rw_aload_n E (j0 := 0) rfl rfl dX10_whatStands_33 ?_
        refine rw_ldcS E (i := 10) dX10_whatStands_34 (by decide) rfl rfl ?_
        refine rw_cVi E (As := [.ref (G.2.1 10)]) hh (by decide) rfl (fun _ _ _ hq => c_X10_stands l b0 G _ _ _ _ _ hq) (cwV 1 E.2.2.2.2.1 gX10_whatStands_X10_stands rfl rfl rfl (by decide +kernel) ⟨Nat.le_of_ble_eq_true rfl, Nat.le_of_ble_eq_true rfl⟩) rfl rfl (by (try simp only [List.map_cons, List.map_nil, List.sum_cons, List.sum_nil, hrf_cat, cat_i, cat_l, cat_r]) <;> decide) ⟨Nat.le_of_ble_eq_true rfl, Nat.le_of_ble_eq_true rfl⟩ dX10_whatStands_36 (fun v11 S10 hh => ?_)
        refine rw_if_eq E hh (tgt := 46) (by decide) dX10_whatStands_39 (fun hh => ?_) (fun hh => ?_)
        · refine rw_ldc E (v := (-1000000)) (List.mem_of_getElem? (i := 1) (by decide +kernel)) dX10_whatStands_46 ?_
          exact rw_iret E hrt hlk hh (by decide) (by decide) dX10_whatStands_48
        · refine rw_iconst E (v := 3) (by decide) dX10_whatStands_42 ?_
          refine rw_goto E (tgt := 48) (by decide) dX10_whatStands_43 ?_
          exact rw_iret E hrt hlk hh (by decide) (by decide) dX10_whatStands_48
      · refine rw_iconst E (v := 2) (by decide) dX10_whatStands_31 ?_
        exact rw_iret E hrt hlk hh (by decide) (by decide) dX10_whatStands_32
    · refine rw_iconst E (v := 1) (by decide) dX10_whatStands_20 ?_
      exact rw_iret E hrt hlk hh (by decide) (by decide) dX10_whatStands_21
  · refine rw_iconst E (v := 0) (by decide) dX10_whatStands_9 ?_
    exact rw_iret E hrt hlk hh (by decide) (by decide) dX10_whatStands_10

/-! HummingDisc$Tape.readRule(LHummingDisc$Hand;)V -/
abbrev rm_X10_readRule : Room := { frames := 6, cells := 1, slots := 4, locals := 127 }
theorem i_X10_readRule_7 : ∀ w ∈ wsX70, w ∈ wsX10_readRule := fun _ h => List.mem_cons_of_mem _ (List.mem_append_left _ (List.mem_append_right _ (h)))
theorem i_X10_readRule_10 : ∀ w ∈ wsX100, w ∈ wsX10_readRule := fun _ h => List.mem_cons_of_mem _ (List.mem_append_left _ (List.mem_append_left _ (List.mem_append_right _ (h))))
def s_X10_readRule_b111 (h : Nat) (S : HS) (l1 : Option Nat) (l2 : Int32) (l3 : Int32) (l4 : Int32) (l5 : Int32) (k0 : Option Nat) (k1 : Int32) : Option (HS) := kO S k0 10 (fun a2 => kcv (s_X10_take S a2 k1 1) (fun S1 => kI S1 ((some h)) 10 2 (fun v3 => if v3 = 0 then (knew S1 7 (fun o4 S5 => kO S5 o4 7 (fun a7 => kcv (s_X7_init S5 a7 l2 l3 l4 l5) (fun S6 => kO S6 l1 5 (fun a9 => kcv (s_X5_add S6 a9 o4) (fun S8 => some S8)))))) else (some S1))))
set_option maxHeartbeats 4000000 in
set_option maxRecDepth 100000 in
theorem w_X10_readRule_b111 {p : Program} {l : Launch} {e : Env} {s : State} {m : MethodId} {args : Array Value} {below : List Frame} {meth : Method} {c : Code} {b0 : Nat} {G : hG} {S1 : HS} {h : Nat} {S : HS} {l1 : Option Nat} {l2 : Int32} {l3 : Int32} {l4 : Int32} {l5 : Int32} {k0 : Option Nat} {k1 : Int32} (E : hE p s m args c b0 G cX10_readRule RX10 6 wsX10_readRule) (hrt : meth.sig.returnType = none) (hlk : meth.locks = false) {cells slots : Nat} (hc : cells + 1 ≤ 1) (hs : slots + 4 ≤ 4) (hh : s_X10_readRule_b111 h S l1 l2 l3 l4 l5 k0 k1 = some S1) : WH p l e rm_X10_readRule s m args below meth c b0 G 6 cells slots (MQ below (hQ b0 G none S1) args s 1 4 (hA b0)) S 111 [(0, hrf b0 ((some h))), (1, hrf b0 l1), (2, .int l2), (3, .int l3), (4, .int l4), (5, .int l5)] [.int k1, hrf b0 k0] := by
  have hh : (kO S k0 10 (fun a2 => kcv (s_X10_take S a2 k1 1) (fun S1 => kI S1 ((some h)) 10 2 (fun v3 => if v3 = 0 then (knew S1 7 (fun o4 S5 => kO S5 o4 7 (fun a7 => kcv (s_X7_init S5 a7 l2 l3 l4 l5) (fun S6 => kO S6 l1 5 (fun a9 => kcv (s_X5_add S6 a9 o4) (fun S8 => some S8)))))) else (some S1))))) = some S1 := hh
  refine rw_iconst E (v := 1) (by decide) dX10_readRule_111 ?_
  refine rw_cVv E (As := [.int k1, .int 1]) hh (by decide) rfl (fun _ _ hq => c_X10_take l b0 G _ _ _ _ _ hq) (cwV 2 E.2.2.2.2.1 gX10_readRule_X10_take rfl rfl rfl (by decide +kernel) ⟨Nat.le_of_ble_eq_true rfl, Nat.le_of_ble_eq_true rfl⟩) rfl rfl (by (try simp only [List.map_cons, List.map_nil, List.sum_cons, List.sum_nil, hrf_cat, cat_i, cat_l, cat_r]) <;> decide) ⟨(show _ ≤ 1 by omega), (show _ ≤ 4 by omega)⟩ dX10_readRule_112 (fun S1 hh => ?_)
  refine rw_aload_n E (j0 := 0) rfl rfl dX10_readRule_115 ?_
  refine rw_getI E hh (C := RX10) (T := TX10) (N := 8) rfl (by decide) i_X10_readRule_10 (by decide) rfl (List.mem_of_getElem? (i := 3) (by decide +kernel)) rfl dX10_readRule_116 (fun v3 hh => ?_)
  refine rw_if_ne E hh (tgt := 139) (by decide) dX10_readRule_119 (fun hh => ?_) (fun hh => ?_)
  · exact rw_vret E hrt hlk hh (show _ ≤ 1 by omega) (show _ ≤ 4 by omega) dX10_readRule_139
  · refine rw_aload_n E (j0 := 1) rfl rfl dX10_readRule_122 ?_
    refine rw_new E hh (C := RX7) (T := TX7) (N := 4) (ty0 := tyX7) rfl tyX7_ok (by decide) i_X10_readRule_7 (List.mem_of_getElem? (i := 4) (by decide +kernel)) (List.mem_of_getElem? (i := 5) (by decide +kernel)) (List.mem_of_getElem? (i := 6) (by decide +kernel)) rfl hdv_7 (show _ ≤ 1 by omega) (show _ ≤ 4 by omega) dX10_readRule_123 (fun o4 S5 hh => ?_)
    refine rw_dup E (hrf_cat _ _) dX10_readRule_126 ?_
    refine rw_iload_n E (j0 := 2) rfl rfl dX10_readRule_127 ?_
    refine rw_iload_n E (j0 := 3) rfl rfl dX10_readRule_128 ?_
    refine rw_iload E (j0 := 4) rfl dX10_readRule_129 ?_
    refine rw_iload E (j0 := 5) rfl dX10_readRule_131 ?_
    refine rw_cIv E (As := [.int l2, .int l3, .int l4, .int l5]) hh (fun _ _ hq => c_X7_init l b0 G _ _ _ _ _ _ _ hq) (cwI 4 E.2.2.2.2.1 gX10_readRule_X7_init rfl rfl rfl (E.2.2.2.2.1 _ (List.mem_of_getElem? (i := 6) (by decide +kernel))) (E.2.2.2.2.1 _ (List.mem_of_getElem? (i := 97) (by decide +kernel))) (E.2.2.2.2.1 _ (List.mem_of_getElem? (i := 98) (by decide +kernel))) rfl (by decide +kernel) ⟨Nat.le_of_ble_eq_true rfl, Nat.le_of_ble_eq_true rfl⟩) rfl rfl (by (try simp only [List.map_cons, List.map_nil, List.sum_cons, List.sum_nil, hrf_cat, cat_i, cat_l, cat_r]) <;> decide) ⟨(show _ ≤ 1 by omega), (show _ ≤ 4 by omega)⟩ dX10_readRule_133 (fun S6 hh => ?_)
    refine rw_cVv E (As := [hrf b0 o4]) hh (by decide) rfl (fun _ _ hq => c_X5_add l b0 G _ _ _ _ hq) (cwV 1 E.2.2.2.2.1 gX10_readRule_X5_add rfl rfl rfl (by decide +kernel) ⟨Nat.le_of_ble_eq_true rfl, Nat.le_of_ble_eq_true rfl⟩) rfl rfl (by (try simp only [List.map_cons, List.map_nil, List.sum_cons, List.sum_nil, hrf_cat, cat_i, cat_l, cat_r]) <;> decide) ⟨(show _ ≤ 1 by omega), (show _ ≤ 4 by omega)⟩ dX10_readRule_136 (fun S8 hh => ?_)
    exact rw_vret E hrt hlk hh (show _ ≤ 1 by omega) (show _ ≤ 4 by omega) dX10_readRule_139
def s_X10_readRule_b61 (h : Nat) (S : HS) (l1 : Option Nat) (l2 : Int32) (l3 : Int32) (k0 : Option Nat) (k1 : Int32) : Option (HS) := kO S k0 10 (fun a2 => kcv (s_X10_take S a2 k1 1) (fun S1 => kO S1 ((some h)) 10 (fun a5 => kc (s_X10_takeNumber S1 a5 ((-999)) 9999) (fun v4 S3 => kO S3 ((some h)) 10 (fun a8 => kc (s_X10_stands S3 a8 6) (fun v7 S6 => kO S6 ((some h)) 10 (fun a10 => kcv (s_X10_take S6 a10 v7 1) (fun S9 => kO S9 ((some h)) 10 (fun a13 => kc (s_X10_takeNumber S9 a13 0 99) (fun v12 S11 => kI S11 ((some h)) 10 4 (fun v14 => if v14 = 3 then (s_X10_readRule_b111 h S11 l1 l2 l3 v4 v12 ((some h)) 1) else (s_X10_readRule_b111 h S11 l1 l2 l3 v4 v12 ((some h)) 0))))))))))))
set_option maxHeartbeats 4000000 in
set_option maxRecDepth 100000 in
theorem w_X10_readRule_b61 {p : Program} {l : Launch} {e : Env} {s : State} {m : MethodId} {args : Array Value} {below : List Frame} {meth : Method} {c : Code} {b0 : Nat} {G : hG} {S1 : HS} {h : Nat} {S : HS} {l1 : Option Nat} {l2 : Int32} {l3 : Int32} {k0 : Option Nat} {k1 : Int32} (E : hE p s m args c b0 G cX10_readRule RX10 6 wsX10_readRule) (hrt : meth.sig.returnType = none) (hlk : meth.locks = false) {cells slots : Nat} (hc : cells + 1 ≤ 1) (hs : slots + 4 ≤ 4) (hh : s_X10_readRule_b61 h S l1 l2 l3 k0 k1 = some S1) : WH p l e rm_X10_readRule s m args below meth c b0 G 6 cells slots (MQ below (hQ b0 G none S1) args s 1 4 (hA b0)) S 61 [(0, hrf b0 ((some h))), (1, hrf b0 l1), (2, .int l2), (3, .int l3)] [.int k1, hrf b0 k0] := by
  have hh : (kO S k0 10 (fun a2 => kcv (s_X10_take S a2 k1 1) (fun S1 => kO S1 ((some h)) 10 (fun a5 => kc (s_X10_takeNumber S1 a5 ((-999)) 9999) (fun v4 S3 => kO S3 ((some h)) 10 (fun a8 => kc (s_X10_stands S3 a8 6) (fun v7 S6 => kO S6 ((some h)) 10 (fun a10 => kcv (s_X10_take S6 a10 v7 1) (fun S9 => kO S9 ((some h)) 10 (fun a13 => kc (s_X10_takeNumber S9 a13 0 99) (fun v12 S11 => kI S11 ((some h)) 10 4 (fun v14 => if v14 = 3 then (s_X10_readRule_b111 h S11 l1 l2 l3 v4 v12 ((some h)) 1) else (s_X10_readRule_b111 h S11 l1 l2 l3 v4 v12 ((some h)) 0))))))))))))) = some S1 := hh
  refine rw_iconst E (v := 1) (by decide) dX10_readRule_61 ?_
  refine rw_cVv E (As := [.int k1, .int 1]) hh (by decide) rfl (fun _ _ hq => c_X10_take l b0 G _ _ _ _ _ hq) (cwV 2 E.2.2.2.2.1 gX10_readRule_X10_take rfl rfl rfl (by decide +kernel) ⟨Nat.le_of_ble_eq_true rfl, Nat.le_of_ble_eq_true rfl⟩) rfl rfl (by (try simp only [List.map_cons, List.map_nil, List.sum_cons, List.sum_nil, hrf_cat, cat_i, cat_l, cat_r]) <;> decide) ⟨(show _ ≤ 1 by omega), (show _ ≤ 4 by omega)⟩ dX10_readRule_62 (fun S1 hh => ?_)
  refine rw_aload_n E (j0 := 0) rfl rfl dX10_readRule_65 ?_
  refine rw_sipush E (v := (-999)) (by decide) dX10_readRule_66 ?_
  refine rw_sipush E (v := 9999) (by decide) dX10_readRule_69 ?_
  refine rw_cVi E (As := [.int ((-999)), .int 9999]) hh (by decide) rfl (fun _ _ _ hq => c_X10_takeNumber l b0 G _ _ _ _ _ _ hq) (cwV 2 E.2.2.2.2.1 gX10_readRule_X10_takeNumber rfl rfl rfl (by decide +kernel) ⟨Nat.le_of_ble_eq_true rfl, Nat.le_of_ble_eq_true rfl⟩) rfl rfl (by (try simp only [List.map_cons, List.map_nil, List.sum_cons, List.sum_nil, hrf_cat, cat_i, cat_l, cat_r]) <;> decide) ⟨(show _ ≤ 1 by omega), (show _ ≤ 4 by omega)⟩ dX10_readRule_72 (fun v4 S3 hh => ?_)
  refine rw_istore E (lv2 := [(4, .int v4), (0, hrf b0 ((some h))), (1, hrf b0 l1), (2, .int l2), (3, .int l3)]) (by decide) rfl dX10_readRule_75 ?_
  refine rw_aload_n E (j0 := 1) rfl rfl dX10_readRule_77 ?_
  refine rw_aload_n E (j0 := 1) rfl rfl dX10_readRule_78 ?_
  refine rw_ldcS E (i := 6) dX10_readRule_79 (by decide) rfl rfl ?_
  refine rw_cVi E (As := [.ref (G.2.1 6)]) hh (by decide) rfl (fun _ _ _ hq => c_X10_stands l b0 G _ _ _ _ _ hq) (cwV 1 E.2.2.2.2.1 gX10_readRule_X10_stands rfl rfl rfl (by decide +kernel) ⟨Nat.le_of_ble_eq_true rfl, Nat.le_of_ble_eq_true rfl⟩) rfl rfl (by (try simp only [List.map_cons, List.map_nil, List.sum_cons, List.sum_nil, hrf_cat, cat_i, cat_l, cat_r]) <;> decide) ⟨(show _ ≤ 1 by omega), (show _ ≤ 4 by omega)⟩ dX10_readRule_81 (fun v7 S6 hh => ?_)
  refine rw_iconst E (v := 1) (by decide) dX10_readRule_84 ?_
  refine rw_cVv E (As := [.int v7, .int 1]) hh (by decide) rfl (fun _ _ hq => c_X10_take l b0 G _ _ _ _ _ hq) (cwV 2 E.2.2.2.2.1 gX10_readRule_X10_take rfl rfl rfl (by decide +kernel) ⟨Nat.le_of_ble_eq_true rfl, Nat.le_of_ble_eq_true rfl⟩) rfl rfl (by (try simp only [List.map_cons, List.map_nil, List.sum_cons, List.sum_nil, hrf_cat, cat_i, cat_l, cat_r]) <;> decide) ⟨(show _ ≤ 1 by omega), (show _ ≤ 4 by omega)⟩ dX10_readRule_85 (fun S9 hh => ?_)
  refine rw_aload_n E (j0 := 1) rfl rfl dX10_readRule_88 ?_
  refine rw_iconst E (v := 0) (by decide) dX10_readRule_89 ?_
  refine rw_bipush E (v := 99) (by decide) dX10_readRule_90 ?_
  refine rw_cVi E (As := [.int 0, .int 99]) hh (by decide) rfl (fun _ _ _ hq => c_X10_takeNumber l b0 G _ _ _ _ _ _ hq) (cwV 2 E.2.2.2.2.1 gX10_readRule_X10_takeNumber rfl rfl rfl (by decide +kernel) ⟨Nat.le_of_ble_eq_true rfl, Nat.le_of_ble_eq_true rfl⟩) rfl rfl (by (try simp only [List.map_cons, List.map_nil, List.sum_cons, List.sum_nil, hrf_cat, cat_i, cat_l, cat_r]) <;> decide) ⟨(show _ ≤ 1 by omega), (show _ ≤ 4 by omega)⟩ dX10_readRule_92 (fun v12 S11 hh => ?_)
  refine rw_istore E (lv2 := [(5, .int v12), (4, .int v4), (0, hrf b0 ((some h))), (1, hrf b0 l1), (2, .int l2), (3, .int l3)]) (by decide) rfl dX10_readRule_95 ?_
  refine rw_aload_n E (j0 := 2) rfl rfl dX10_readRule_97 ?_
  refine rw_aload_n E (j0 := 2) rfl rfl dX10_readRule_98 ?_
  refine rw_getI E hh (C := RX10) (T := TX10) (N := 8) rfl (by decide) i_X10_readRule_10 (by decide) rfl (List.mem_of_getElem? (i := 2) (by decide +kernel)) rfl dX10_readRule_99 (fun v14 hh => ?_)
  refine rw_iconst E (v := 3) (by decide) dX10_readRule_102 ?_
  refine rw_icmp_ne E hh (tgt := 110) (by decide) dX10_readRule_103 (fun hh => ?_) (fun hh => ?_)
  · refine rw_iconst E (v := 0) (by decide) dX10_readRule_110 ?_
    refine WH.pick [2, 3, 4, 5, 1, 0] rfl ?_
    exact w_X10_readRule_b111 E hrt hlk (by omega) (by omega) hh
  · refine rw_iconst E (v := 1) (by decide) dX10_readRule_106 ?_
    refine rw_goto E (tgt := 111) (by decide) dX10_readRule_107 ?_
    refine WH.pick [2, 3, 4, 5, 1, 0] rfl ?_
    exact w_X10_readRule_b111 E hrt hlk (by omega) (by omega) hh
def s_X10_readRule_b56 (h : Nat) (S : HS) (l1 : Option Nat) (l2 : Int32) (l3 : Int32) (k0 : Option Nat) : Option (HS) := s_X10_readRule_b61 h S l1 l2 l3 k0 1
set_option maxHeartbeats 4000000 in
set_option maxRecDepth 100000 in
theorem w_X10_readRule_b56 {p : Program} {l : Launch} {e : Env} {s : State} {m : MethodId} {args : Array Value} {below : List Frame} {meth : Method} {c : Code} {b0 : Nat} {G : hG} {S1 : HS} {h : Nat} {S : HS} {l1 : Option Nat} {l2 : Int32} {l3 : Int32} {k0 : Option Nat} (E : hE p s m args c b0 G cX10_readRule RX10 6 wsX10_readRule) (hrt : meth.sig.returnType = none) (hlk : meth.locks = false) {cells slots : Nat} (hc : cells + 1 ≤ 1) (hs : slots + 4 ≤ 4) (hh : s_X10_readRule_b56 h S l1 l2 l3 k0 = some S1) : WH p l e rm_X10_readRule s m args below meth c b0 G 6 cells slots (MQ below (hQ b0 G none S1) args s 1 4 (hA b0)) S 56 [(0, hrf b0 ((some h))), (1, hrf b0 l1), (2, .int l2), (3, .int l3)] [hrf b0 k0] := by
  have hh : (s_X10_readRule_b61 h S l1 l2 l3 k0 1) = some S1 := hh
  refine rw_iconst E (v := 1) (by decide) dX10_readRule_56 ?_
  refine rw_goto E (tgt := 61) (by decide) dX10_readRule_57 ?_
  refine WH.pick [0, 1, 2, 3] rfl ?_
  exact w_X10_readRule_b61 E hrt hlk (by omega) (by omega) hh
def s_X10_readRule_b31 (h : Nat) (S : HS) (l1 : Option Nat) (l2 : Int32) (k0 : Option Nat) (k1 : Int32) : Option (HS) := kO S k0 10 (fun a2 => kcv (s_X10_take S a2 k1 1) (fun S1 => kO S1 ((some h)) 10 (fun a5 => kc (s_X10_stands S1 a5 4) (fun v4 S3 => if v4 = 0 then (kO S3 ((some h)) 10 (fun a8 => kc (s_X10_stands S3 a8 5) (fun v7 S6 => if v7 = 0 then (s_X10_readRule_b61 h S6 l1 l2 v4 ((some h)) 0) else (s_X10_readRule_b56 h S6 l1 l2 v4 ((some h)))))) else (s_X10_readRule_b56 h S3 l1 l2 v4 ((some h)))))))
set_option maxHeartbeats 4000000 in
set_option maxRecDepth 100000 in
theorem w_X10_readRule_b31 {p : Program} {l : Launch} {e : Env} {s : State} {m : MethodId} {args : Array Value} {below : List Frame} {meth : Method} {c : Code} {b0 : Nat} {G : hG} {S1 : HS} {h : Nat} {S : HS} {l1 : Option Nat} {l2 : Int32} {k0 : Option Nat} {k1 : Int32} (E : hE p s m args c b0 G cX10_readRule RX10 6 wsX10_readRule) (hrt : meth.sig.returnType = none) (hlk : meth.locks = false) {cells slots : Nat} (hc : cells + 1 ≤ 1) (hs : slots + 4 ≤ 4) (hh : s_X10_readRule_b31 h S l1 l2 k0 k1 = some S1) : WH p l e rm_X10_readRule s m args below meth c b0 G 6 cells slots (MQ below (hQ b0 G none S1) args s 1 4 (hA b0)) S 31 [(0, hrf b0 ((some h))), (1, hrf b0 l1), (2, .int l2)] [.int k1, hrf b0 k0] := by
  have hh : (kO S k0 10 (fun a2 => kcv (s_X10_take S a2 k1 1) (fun S1 => kO S1 ((some h)) 10 (fun a5 => kc (s_X10_stands S1 a5 4) (fun v4 S3 => if v4 = 0 then (kO S3 ((some h)) 10 (fun a8 => kc (s_X10_stands S3 a8 5) (fun v7 S6 => if v7 = 0 then (s_X10_readRule_b61 h S6 l1 l2 v4 ((some h)) 0) else (s_X10_readRule_b56 h S6 l1 l2 v4 ((some h)))))) else (s_X10_readRule_b56 h S3 l1 l2 v4 ((some h)))))))) = some S1 := hh
  refine rw_iconst E (v := 1) (by decide) dX10_readRule_31 ?_
  refine rw_cVv E (As := [.int k1, .int 1]) hh (by decide) rfl (fun _ _ hq => c_X10_take l b0 G _ _ _ _ _ hq) (cwV 2 E.2.2.2.2.1 gX10_readRule_X10_take rfl rfl rfl (by decide +kernel) ⟨Nat.le_of_ble_eq_true rfl, Nat.le_of_ble_eq_true rfl⟩) rfl rfl (by (try simp only [List.map_cons, List.map_nil, List.sum_cons, List.sum_nil, hrf_cat, cat_i, cat_l, cat_r]) <;> decide) ⟨(show _ ≤ 1 by omega), (show _ ≤ 4 by omega)⟩ dX10_readRule_32 (fun S1 hh => ?_)
  refine rw_aload_n E (j0 := 0) rfl rfl dX10_readRule_35 ?_
  refine rw_ldcS E (i := 4) dX10_readRule_36 (by decide) rfl rfl ?_
  refine rw_cVi E (As := [.ref (G.2.1 4)]) hh (by decide) rfl (fun _ _ _ hq => c_X10_stands l b0 G _ _ _ _ _ hq) (cwV 1 E.2.2.2.2.1 gX10_readRule_X10_stands rfl rfl rfl (by decide +kernel) ⟨Nat.le_of_ble_eq_true rfl, Nat.le_of_ble_eq_true rfl⟩) rfl rfl (by (try simp only [List.map_cons, List.map_nil, List.sum_cons, List.sum_nil, hrf_cat, cat_i, cat_l, cat_r]) <;> decide) ⟨(show _ ≤ 1 by omega), (show _ ≤ 4 by omega)⟩ dX10_readRule_38 (fun v4 S3 hh => ?_)
  refine rw_istore_n E (lv2 := [(3, .int v4), (0, hrf b0 ((some h))), (1, hrf b0 l1), (2, .int l2)]) rfl (by decide) rfl dX10_readRule_41 ?_
  refine rw_aload_n E (j0 := 1) rfl rfl dX10_readRule_42 ?_
  refine rw_iload_n E (j0 := 0) rfl rfl dX10_readRule_43 ?_
  refine rw_if_ne E hh (tgt := 56) (by decide) dX10_readRule_44 (fun hh => ?_) (fun hh => ?_)
  · refine WH.pick [1, 2, 3, 0] rfl ?_
    exact w_X10_readRule_b56 E hrt hlk (by omega) (by omega) hh
  · refine rw_aload_n E (j0 := 1) rfl rfl dX10_readRule_47 ?_
    refine rw_ldcS E (i := 5) dX10_readRule_48 (by decide) rfl rfl ?_
    refine rw_cVi E (As := [.ref (G.2.1 5)]) hh (by decide) rfl (fun _ _ _ hq => c_X10_stands l b0 G _ _ _ _ _ hq) (cwV 1 E.2.2.2.2.1 gX10_readRule_X10_stands rfl rfl rfl (by decide +kernel) ⟨Nat.le_of_ble_eq_true rfl, Nat.le_of_ble_eq_true rfl⟩) rfl rfl (by (try simp only [List.map_cons, List.map_nil, List.sum_cons, List.sum_nil, hrf_cat, cat_i, cat_l, cat_r]) <;> decide) ⟨(show _ ≤ 1 by omega), (show _ ≤ 4 by omega)⟩ dX10_readRule_50 (fun v7 S6 hh => ?_)
    refine rw_if_eq E hh (tgt := 60) (by decide) dX10_readRule_53 (fun hh => ?_) (fun hh => ?_)
    · refine rw_iconst E (v := 0) (by decide) dX10_readRule_60 ?_
      refine WH.pick [1, 2, 3, 0] rfl ?_
      exact w_X10_readRule_b61 E hrt hlk (by omega) (by omega) hh
    · refine WH.pick [1, 2, 3, 0] rfl ?_
      exact w_X10_readRule_b56 E hrt hlk (by omega) (by omega) hh
def s_X10_readRule (S : HS) (h : Nat) (l1 : Option Nat) : Option (HS) := kO S ((some h)) 10 (fun a3 => kc (s_X10_stands S a3 3) (fun v2 S1 => kO S1 l1 5 (fun a6 => kc (s_X5_hasRoom S1 a6 ) (fun v5 S4 => kO S4 ((some h)) 10 (fun a8 => kcv (s_X10_take S4 a8 v2 v5) (fun S7 => kO S7 ((some h)) 10 (fun a11 => kc (s_X10_whatStands S7 a11 ) (fun v10 S9 => if v10 = (-1000000) then (s_X10_readRule_b31 h S9 l1 v10 ((some h)) 0) else (s_X10_readRule_b31 h S9 l1 v10 ((some h)) 1)))))))))
set_option maxHeartbeats 4000000 in
set_option maxRecDepth 100000 in
theorem c_X10_readRule (l : Launch) (b0 : Nat) (G : hG) (S S1 : HS) (h : Nat) (l1 : Option Nat) (hh : s_X10_readRule S h l1 = some S1) : MH l yX10_readRule wsX10_readRule rm_X10_readRule b0 G S [hrf b0 (some h), hrf b0 l1] none S1 1 4 := by
  refine MH.ofW (cc := cX10_readRule) (maxL := 6) (ret := none) (own := RX10) (lv0 := [(0, hrf b0 ((some h))), (1, hrf b0 l1)]) (by decide) rfl rfl (by simp [lg_sl, hrf_cat, cat_i, cat_l, cat_r]) (by simp only [lv_args, hrf_cat, cat_i, cat_l, cat_r]; rfl) ?_
  intro p e s m args below meth c E hrt hlk hnm
  have hh : (kO S ((some h)) 10 (fun a3 => kc (s_X10_stands S a3 3) (fun v2 S1 => kO S1 l1 5 (fun a6 => kc (s_X5_hasRoom S1 a6 ) (fun v5 S4 => kO S4 ((some h)) 10 (fun a8 => kcv (s_X10_take S4 a8 v2 v5) (fun S7 => kO S7 ((some h)) 10 (fun a11 => kc (s_X10_whatStands S7 a11 ) (fun v10 S9 => if v10 = (-1000000) then (s_X10_readRule_b31 h S9 l1 v10 ((some h)) 0) else (s_X10_readRule_b31 h S9 l1 v10 ((some h)) 1)))))))))) = some S1 := hh
  have hc : 0 + 1 ≤ 1 := by decide
  have hs : 0 + 4 ≤ 4 := by decide
  refine rw_aload_n E (j0 := 0) rfl rfl dX10_readRule_0 ?_
  refine rw_aload_n E (j0 := 0) rfl rfl dX10_readRule_1 ?_
  refine rw_ldcS E (i := 3) dX10_readRule_2 (by decide) rfl rfl ?_
  refine rw_cVi E (As := [.ref (G.2.1 3)]) hh (by decide) rfl (fun _ _ _ hq => c_X10_stands l b0 G _ _ _ _ _ hq) (cwV 1 E.2.2.2.2.1 gX10_readRule_X10_stands rfl rfl rfl (by decide +kernel) ⟨Nat.le_of_ble_eq_true rfl, Nat.le_of_ble_eq_true rfl⟩) rfl rfl (by (try simp only [List.map_cons, List.map_nil, List.sum_cons, List.sum_nil, hrf_cat, cat_i, cat_l, cat_r]) <;> decide) ⟨(show _ ≤ 1 by omega), (show _ ≤ 4 by omega)⟩ dX10_readRule_4 (fun v2 S1 hh => ?_)
  refine rw_aload_n E (j0 := 1) rfl rfl dX10_readRule_7 ?_
  refine rw_cVi E (As := []) hh (by decide) rfl (fun _ _ _ hq => c_X5_hasRoom l b0 G _ _ _ _ hq) (cwV 0 E.2.2.2.2.1 gX10_readRule_X5_hasRoom rfl rfl rfl (by decide +kernel) ⟨Nat.le_of_ble_eq_true rfl, Nat.le_of_ble_eq_true rfl⟩) rfl rfl (by (try simp only [List.map_cons, List.map_nil, List.sum_cons, List.sum_nil, hrf_cat, cat_i, cat_l, cat_r]) <;> decide) ⟨(show _ ≤ 1 by omega), (show _ ≤ 4 by omega)⟩ dX10_readRule_8 (fun v5 S4 hh => ?_)
  refine rw_cVv E (As := [.int v2, .int v5]) hh (by decide) rfl (fun _ _ hq => c_X10_take l b0 G _ _ _ _ _ hq) (cwV 2 E.2.2.2.2.1 gX10_readRule_X10_take rfl rfl rfl (by decide +kernel) ⟨Nat.le_of_ble_eq_true rfl, Nat.le_of_ble_eq_true rfl⟩) rfl rfl (by (try simp only [List.map_cons, List.map_nil, List.sum_cons, List.sum_nil, hrf_cat, cat_i, cat_l, cat_r]) <;> decide) ⟨(show _ ≤ 1 by omega), (show _ ≤ 4 by omega)⟩ dX10_readRule_11 (fun S7 hh => ?_)
  refine rw_aload_n E (j0 := 0) rfl rfl dX10_readRule_14 ?_
  refine rw_cVi E (As := []) hh (by decide) rfl (fun _ _ _ hq => c_X10_whatStands l b0 G _ _ _ _ hq) (cwV 0 E.2.2.2.2.1 gX10_readRule_X10_whatStands rfl rfl rfl (by decide +kernel) ⟨Nat.le_of_ble_eq_true rfl, Nat.le_of_ble_eq_true rfl⟩) rfl rfl (by (try simp only [List.map_cons, List.map_nil, List.sum_cons, List.sum_nil, hrf_cat, cat_i, cat_l, cat_r]) <;> decide) ⟨(show _ ≤ 1 by omega), (show _ ≤ 4 by omega)⟩ dX10_readRule_15 (fun v10 S9 hh => ?_)
  refine rw_istore_n E (i := 2) (lv2 := [(2, .int v10), (0, hrf b0 ((some h))), (1, hrf b0 l1)]) rfl (by decide) (by simp [lvs, lvs2, hrf_cat]) dX10_readRule_18 ?_
  refine rw_aload_n E (j0 := 1) rfl rfl dX10_readRule_19 ?_
  refine rw_iload_n E (j0 := 0) rfl rfl dX10_readRule_20 ?_
  refine rw_ldc E (v := (-1000000)) (List.mem_of_getElem? (i := 1) (by decide +kernel)) dX10_readRule_21 ?_
  refine rw_icmp_eq E hh (tgt := 30) (by decide) dX10_readRule_23 (fun hh => ?_) (fun hh => ?_)
  · refine rw_iconst E (v := 0) (by decide) dX10_readRule_30 ?_
    refine WH.pick [1, 2, 0] rfl ?_
    exact w_X10_readRule_b31 E hrt hlk (by omega) (by omega) hh
  · refine rw_iconst E (v := 1) (by decide) dX10_readRule_26 ?_
    refine rw_goto E (tgt := 31) (by decide) dX10_readRule_27 ?_
    refine WH.pick [1, 2, 0] rfl ?_
    exact w_X10_readRule_b31 E hrt hlk (by omega) (by omega) hh

/-! HummingDisc$Tape.readHand(LHummingDisc$Box;)V -/
abbrev rm_X10_readHand : Room := { frames := 7, cells := 10, slots := 40, locals := 152 }
theorem i_X10_readHand_1 : ∀ w ∈ wsX10, w ∈ wsX10_readHand := fun _ h => List.mem_cons_of_mem _ (List.mem_append_left _ (List.mem_append_left _ (List.mem_append_left _ (List.mem_append_right _ (h)))))
theorem i_X10_readHand_5 : ∀ w ∈ wsX50, w ∈ wsX10_readHand := fun _ h => List.mem_cons_of_mem _ (List.mem_append_left _ (List.mem_append_right _ (h)))
theorem i_X10_readHand_10 : ∀ w ∈ wsX100, w ∈ wsX10_readHand := fun _ h => List.mem_cons_of_mem _ (List.mem_append_left _ (List.mem_append_left _ (List.mem_append_right _ (h))))
def s_X10_readHand_b85 (h : Nat) (S : HS) (l1 : Option Nat) (l2 : Option Nat) : Option (HS) := kO S l1 1 (fun a2 => kcv (s_X1_addHand S a2 l2) (fun S1 => some S1))
set_option maxHeartbeats 4000000 in
set_option maxRecDepth 100000 in
theorem w_X10_readHand_b85 {p : Program} {l : Launch} {e : Env} {s : State} {m : MethodId} {args : Array Value} {below : List Frame} {meth : Method} {c : Code} {b0 : Nat} {G : hG} {S1 : HS} {h : Nat} {S : HS} {l1 : Option Nat} {l2 : Option Nat} (E : hE p s m args c b0 G cX10_readHand RX10 4 wsX10_readHand) (hrt : meth.sig.returnType = none) (hlk : meth.locks = false) {cells slots : Nat} (hc : cells + 0 ≤ 10) (hs : slots + 0 ≤ 40) (hh : s_X10_readHand_b85 h S l1 l2 = some S1) : WH p l e rm_X10_readHand s m args below meth c b0 G 4 cells slots (MQ below (hQ b0 G none S1) args s 10 40 (hA b0)) S 85 [(1, hrf b0 l1), (2, hrf b0 l2)] [] := by
  have hh : (kO S l1 1 (fun a2 => kcv (s_X1_addHand S a2 l2) (fun S1 => some S1))) = some S1 := hh
  refine rw_aload_n E (j0 := 0) rfl rfl dX10_readHand_85 ?_
  refine rw_aload_n E (j0 := 1) rfl rfl dX10_readHand_86 ?_
  refine rw_cVv E (As := [hrf b0 l2]) hh (by decide) rfl (fun _ _ hq => c_X1_addHand l b0 G _ _ _ _ hq) (cwV 1 E.2.2.2.2.1 gX10_readHand_X1_addHand rfl rfl rfl (by decide +kernel) ⟨Nat.le_of_ble_eq_true rfl, Nat.le_of_ble_eq_true rfl⟩) rfl rfl (by (try simp only [List.map_cons, List.map_nil, List.sum_cons, List.sum_nil, hrf_cat, cat_i, cat_l, cat_r]) <;> decide) ⟨(show _ ≤ 10 by omega), (show _ ≤ 40 by omega)⟩ dX10_readHand_87 (fun S1 hh => ?_)
  exact rw_vret E hrt hlk hh (show _ ≤ 10 by omega) (show _ ≤ 40 by omega) dX10_readHand_90
def s_X10_readHand_b59 (j59 : HS → Option Nat → Option Nat → Int32 → Option (HS)) (h : Nat) (S : HS) (l1 : Option Nat) (l2 : Option Nat) (l3 : Int32) : Option (HS) := if 6 < l3 then (s_X10_readHand_b85 h S l1 l2) else (kO S ((some h)) 10 (fun a3 => kc (s_X10_stands S a3 3) (fun v2 S1 => if v2 = 0 then (s_X10_readHand_b85 h S1 l1 l2) else (kO S1 ((some h)) 10 (fun a5 => kcv (s_X10_readRule S1 a5 l2) (fun S4 => j59 S4 l1 l2 (l3 + 1)))))))
set_option maxHeartbeats 4000000 in
set_option maxRecDepth 100000 in
theorem w_X10_readHand_b59 {p : Program} {l : Launch} {e : Env} {s : State} {m : MethodId} {args : Array Value} {below : List Frame} {meth : Method} {c : Code} {b0 : Nat} {G : hG} {S1 : HS} {j59 : HS → Option Nat → Option Nat → Int32 → Option (HS)} {h : Nat} {S : HS} {l1 : Option Nat} {l2 : Option Nat} {l3 : Int32} (E : hE p s m args c b0 G cX10_readHand RX10 4 wsX10_readHand) (hrt : meth.sig.returnType = none) (hlk : meth.locks = false) {cells slots nc ns : Nat} (hnc : 0 ≤ nc) (hns : 0 ≤ ns) (hc : cells + (1 + nc) ≤ 10) (hs : slots + (4 + ns) ≤ 40) (hj59 : ∀ (S : HS) (l1 : Option Nat) (l2 : Option Nat) (l3 : Int32) (cells slots : Nat), cells + nc ≤ 10 → slots + ns ≤ 40 → j59 S l1 l2 l3 = some S1 → WH p l e rm_X10_readHand s m args below meth c b0 G 4 cells slots (MQ below (hQ b0 G none S1) args s 10 40 (hA b0)) S 59 [(0, hrf b0 ((some h))), (1, hrf b0 l1), (2, hrf b0 l2), (3, .int l3)] []) (hh : s_X10_readHand_b59 j59 h S l1 l2 l3 = some S1) : WH p l e rm_X10_readHand s m args below meth c b0 G 4 cells slots (MQ below (hQ b0 G none S1) args s 10 40 (hA b0)) S 59 [(0, hrf b0 ((some h))), (1, hrf b0 l1), (2, hrf b0 l2), (3, .int l3)] [] := by
  have hh : (if 6 < l3 then (s_X10_readHand_b85 h S l1 l2) else (kO S ((some h)) 10 (fun a3 => kc (s_X10_stands S a3 3) (fun v2 S1 => if v2 = 0 then (s_X10_readHand_b85 h S1 l1 l2) else (kO S1 ((some h)) 10 (fun a5 => kcv (s_X10_readRule S1 a5 l2) (fun S4 => j59 S4 l1 l2 (l3 + 1)))))))) = some S1 := hh
  refine rw_iload_n E (j0 := 3) rfl rfl dX10_readHand_59 ?_
  refine rw_bipush E (v := 6) (by decide) dX10_readHand_60 ?_
  refine rw_icmp_gt E hh (tgt := 85) (by decide) dX10_readHand_62 (fun hh => ?_) (fun hh => ?_)
  · refine WH.pick [1, 2] rfl ?_
    exact w_X10_readHand_b85 E hrt hlk (by omega) (by omega) hh
  · refine rw_aload_n E (j0 := 0) rfl rfl dX10_readHand_65 ?_
    refine rw_ldcS E (i := 3) dX10_readHand_66 (by decide) rfl rfl ?_
    refine rw_cVi E (As := [.ref (G.2.1 3)]) hh (by decide) rfl (fun _ _ _ hq => c_X10_stands l b0 G _ _ _ _ _ hq) (cwV 1 E.2.2.2.2.1 gX10_readHand_X10_stands rfl rfl rfl (by decide +kernel) ⟨Nat.le_of_ble_eq_true rfl, Nat.le_of_ble_eq_true rfl⟩) rfl rfl (by (try simp only [List.map_cons, List.map_nil, List.sum_cons, List.sum_nil, hrf_cat, cat_i, cat_l, cat_r]) <;> decide) ⟨(show _ ≤ 10 by omega), (show _ ≤ 40 by omega)⟩ dX10_readHand_68 (fun v2 S1 hh => ?_)
    refine rw_if_eq E hh (tgt := 85) (by decide) dX10_readHand_71 (fun hh => ?_) (fun hh => ?_)
    · refine WH.pick [1, 2] rfl ?_
      exact w_X10_readHand_b85 E hrt hlk (by omega) (by omega) hh
    · refine rw_aload_n E (j0 := 0) rfl rfl dX10_readHand_74 ?_
      refine rw_aload_n E (j0 := 2) rfl rfl dX10_readHand_75 ?_
      refine rw_cVv E (As := [hrf b0 l2]) hh (by decide) rfl (fun _ _ hq => c_X10_readRule l b0 G _ _ _ _ hq) (cwV 1 E.2.2.2.2.1 gX10_readHand_X10_readRule rfl rfl rfl (by decide +kernel) ⟨Nat.le_of_ble_eq_true rfl, Nat.le_of_ble_eq_true rfl⟩) rfl rfl (by (try simp only [List.map_cons, List.map_nil, List.sum_cons, List.sum_nil, hrf_cat, cat_i, cat_l, cat_r]) <;> decide) ⟨(show _ ≤ 10 by omega), (show _ ≤ 40 by omega)⟩ dX10_readHand_76 (fun S4 hh => ?_)
      refine rw_iinc E (v := l3 + 1) (lv2 := [(3, .int (l3 + 1)), (0, hrf b0 ((some h))), (1, hrf b0 l1), (2, hrf b0 l2)]) (j0 := 3) rfl rfl (by decide) (by simp [lvs, lvs2, hrf_cat]) dX10_readHand_79 ?_
      refine rw_goto E (tgt := 59) (by decide) dX10_readHand_82 ?_
      refine WH.pick [1, 2, 3, 0] rfl ?_
      exact hj59 _ _ _ _ _ _ (by omega) (by omega) hh
def s_X10_readHand_L59 (h : Nat) : Nat → HS → Option Nat → Option Nat → Int32 → Option (HS)
  | 0 => fun _ _ _ _ => none
  | n + 1 => s_X10_readHand_b59 (s_X10_readHand_L59 h n) h
set_option maxHeartbeats 4000000 in
set_option maxRecDepth 100000 in
theorem w_X10_readHand_L59 {p : Program} {l : Launch} {e : Env} {s : State} {m : MethodId} {args : Array Value} {below : List Frame} {meth : Method} {c : Code} {b0 : Nat} {G : hG} {S1 : HS} {h : Nat} (E : hE p s m args c b0 G cX10_readHand RX10 4 wsX10_readHand) (hrt : meth.sig.returnType = none) (hlk : meth.locks = false) : ∀ (n : Nat) (S : HS) (l1 : Option Nat) (l2 : Option Nat) (l3 : Int32) (cells slots : Nat), cells + (n * 1 + 0) ≤ 10 → slots + (n * 4 + 0) ≤ 40 → s_X10_readHand_L59 h n S l1 l2 l3 = some S1 → WH p l e rm_X10_readHand s m args below meth c b0 G 4 cells slots (MQ below (hQ b0 G none S1) args s 10 40 (hA b0)) S 59 [(0, hrf b0 ((some h))), (1, hrf b0 l1), (2, hrf b0 l2), (3, .int l3)] [] := by
  intro n
  induction n with
  | zero => intro _ _ _ _ _ _ _ _ hh; exact absurd hh (by simp [s_X10_readHand_L59])
  | succ n ih => intro _ _ _ _ cells slots hc hs hh; exact w_X10_readHand_b59 E hrt hlk (nc := n * 1 + 0) (ns := n * 4 + 0) (by omega) (by omega) (by omega) (by omega) ih hh
def s_X10_readHand_b37 (h : Nat) (S : HS) (l1 : Option Nat) (k0 : Option Nat) (k1 : Int32) : Option (HS) := kO S k0 10 (fun a2 => kcv (s_X10_take S a2 k1 1) (fun S1 => kI S1 ((some h)) 10 2 (fun v3 => if v3 = 0 then (knew S1 5 (fun o4 S5 => kO S5 o4 5 (fun a7 => kcv (s_X5_init S5 a7 ) (fun S6 => s_X10_readHand_L59 h 8 S6 l1 o4 0)))) else (some S1))))
set_option maxHeartbeats 4000000 in
set_option maxRecDepth 100000 in
theorem w_X10_readHand_b37 {p : Program} {l : Launch} {e : Env} {s : State} {m : MethodId} {args : Array Value} {below : List Frame} {meth : Method} {c : Code} {b0 : Nat} {G : hG} {S1 : HS} {h : Nat} {S : HS} {l1 : Option Nat} {k0 : Option Nat} {k1 : Int32} (E : hE p s m args c b0 G cX10_readHand RX10 4 wsX10_readHand) (hrt : meth.sig.returnType = none) (hlk : meth.locks = false) {cells slots : Nat} (hc : cells + 10 ≤ 10) (hs : slots + 40 ≤ 40) (hh : s_X10_readHand_b37 h S l1 k0 k1 = some S1) : WH p l e rm_X10_readHand s m args below meth c b0 G 4 cells slots (MQ below (hQ b0 G none S1) args s 10 40 (hA b0)) S 37 [(0, hrf b0 ((some h))), (1, hrf b0 l1)] [.int k1, hrf b0 k0] := by
  have hh : (kO S k0 10 (fun a2 => kcv (s_X10_take S a2 k1 1) (fun S1 => kI S1 ((some h)) 10 2 (fun v3 => if v3 = 0 then (knew S1 5 (fun o4 S5 => kO S5 o4 5 (fun a7 => kcv (s_X5_init S5 a7 ) (fun S6 => s_X10_readHand_L59 h 8 S6 l1 o4 0)))) else (some S1))))) = some S1 := hh
  refine rw_iconst E (v := 1) (by decide) dX10_readHand_37 ?_
  refine rw_cVv E (As := [.int k1, .int 1]) hh (by decide) rfl (fun _ _ hq => c_X10_take l b0 G _ _ _ _ _ hq) (cwV 2 E.2.2.2.2.1 gX10_readHand_X10_take rfl rfl rfl (by decide +kernel) ⟨Nat.le_of_ble_eq_true rfl, Nat.le_of_ble_eq_true rfl⟩) rfl rfl (by (try simp only [List.map_cons, List.map_nil, List.sum_cons, List.sum_nil, hrf_cat, cat_i, cat_l, cat_r]) <;> decide) ⟨(show _ ≤ 10 by omega), (show _ ≤ 40 by omega)⟩ dX10_readHand_38 (fun S1 hh => ?_)
  refine rw_aload_n E (j0 := 0) rfl rfl dX10_readHand_41 ?_
  refine rw_getI E hh (C := RX10) (T := TX10) (N := 8) rfl (by decide) i_X10_readHand_10 (by decide) rfl (List.mem_of_getElem? (i := 3) (by decide +kernel)) rfl dX10_readHand_42 (fun v3 hh => ?_)
  refine rw_if_eq E hh (tgt := 49) (by decide) dX10_readHand_45 (fun hh => ?_) (fun hh => ?_)
  · refine rw_new E hh (C := RX5) (T := TX5) (N := 2) (ty0 := tyX5) rfl tyX5_ok (by decide) i_X10_readHand_5 (List.mem_of_getElem? (i := 4) (by decide +kernel)) (List.mem_of_getElem? (i := 5) (by decide +kernel)) (List.mem_of_getElem? (i := 6) (by decide +kernel)) rfl hdv_5 (show _ ≤ 10 by omega) (show _ ≤ 40 by omega) dX10_readHand_49 (fun o4 S5 hh => ?_)
    refine rw_dup E (hrf_cat _ _) dX10_readHand_52 ?_
    refine rw_cNv E (As := []) hh (fun _ _ hq => c_X5_init l b0 G _ _ _ hq) (by simp [hNw]) gX10_readHand_X5_init_n95 rfl rfl rfl (List.mem_of_getElem? (i := 6) (by decide +kernel)) (List.mem_of_getElem? (i := 83) (by decide +kernel)) rfl (by decide +kernel) ⟨Nat.le_of_ble_eq_true rfl, Nat.le_of_ble_eq_true rfl⟩ rfl rfl (by (try simp only [List.map_cons, List.map_nil, List.sum_cons, List.sum_nil, hrf_cat, cat_i, cat_l, cat_r]) <;> decide) ⟨(show _ ≤ 10 by omega), (show _ ≤ 40 by omega)⟩ dX10_readHand_53 (fun S6 hh => ?_)
    refine rw_astore_n E (i := 2) (lv2 := [(2, hrf b0 o4), (0, hrf b0 ((some h))), (1, hrf b0 l1)]) rfl (by decide) (by simp [lvs, lvs2, hrf_cat]) dX10_readHand_56 ?_
    refine rw_iconst E (v := 0) (by decide) dX10_readHand_57 ?_
    refine rw_istore_n E (i := 3) (lv2 := [(3, .int 0), (2, hrf b0 o4), (0, hrf b0 ((some h))), (1, hrf b0 l1)]) rfl (by decide) (by simp [lvs, lvs2, hrf_cat]) dX10_readHand_58 ?_
    refine WH.pick [2, 3, 1, 0] rfl ?_
    exact w_X10_readHand_L59 E hrt hlk 8 _ _ _ _ _ _ (by omega) (by omega) hh
  · exact rw_vret E hrt hlk hh (show _ ≤ 10 by omega) (show _ ≤ 40 by omega) dX10_readHand_48
def s_X10_readHand_b20 (h : Nat) (S : HS) (l1 : Option Nat) (k0 : Option Nat) (k1 : Int32) (k2 : Int32) : Option (HS) := kO S k0 10 (fun a2 => kcv (s_X10_take S a2 k1 k2) (fun S1 => kI S1 ((some h)) 10 4 (fun v3 => if v3 = 3 then (s_X10_readHand_b37 h S1 l1 ((some h)) 1) else (s_X10_readHand_b37 h S1 l1 ((some h)) 0))))
set_option maxHeartbeats 4000000 in
set_option maxRecDepth 100000 in
theorem w_X10_readHand_b20 {p : Program} {l : Launch} {e : Env} {s : State} {m : MethodId} {args : Array Value} {below : List Frame} {meth : Method} {c : Code} {b0 : Nat} {G : hG} {S1 : HS} {h : Nat} {S : HS} {l1 : Option Nat} {k0 : Option Nat} {k1 : Int32} {k2 : Int32} (E : hE p s m args c b0 G cX10_readHand RX10 4 wsX10_readHand) (hrt : meth.sig.returnType = none) (hlk : meth.locks = false) {cells slots : Nat} (hc : cells + 10 ≤ 10) (hs : slots + 40 ≤ 40) (hh : s_X10_readHand_b20 h S l1 k0 k1 k2 = some S1) : WH p l e rm_X10_readHand s m args below meth c b0 G 4 cells slots (MQ below (hQ b0 G none S1) args s 10 40 (hA b0)) S 20 [(0, hrf b0 ((some h))), (1, hrf b0 l1)] [.int k2, .int k1, hrf b0 k0] := by
  have hh : (kO S k0 10 (fun a2 => kcv (s_X10_take S a2 k1 k2) (fun S1 => kI S1 ((some h)) 10 4 (fun v3 => if v3 = 3 then (s_X10_readHand_b37 h S1 l1 ((some h)) 1) else (s_X10_readHand_b37 h S1 l1 ((some h)) 0))))) = some S1 := hh
  refine rw_cVv E (As := [.int k1, .int k2]) hh (by decide) rfl (fun _ _ hq => c_X10_take l b0 G _ _ _ _ _ hq) (cwV 2 E.2.2.2.2.1 gX10_readHand_X10_take rfl rfl rfl (by decide +kernel) ⟨Nat.le_of_ble_eq_true rfl, Nat.le_of_ble_eq_true rfl⟩) rfl rfl (by (try simp only [List.map_cons, List.map_nil, List.sum_cons, List.sum_nil, hrf_cat, cat_i, cat_l, cat_r]) <;> decide) ⟨(show _ ≤ 10 by omega), (show _ ≤ 40 by omega)⟩ dX10_readHand_20 (fun S1 hh => ?_)
  refine rw_aload_n E (j0 := 0) rfl rfl dX10_readHand_23 ?_
  refine rw_aload_n E (j0 := 0) rfl rfl dX10_readHand_24 ?_
  refine rw_getI E hh (C := RX10) (T := TX10) (N := 8) rfl (by decide) i_X10_readHand_10 (by decide) rfl (List.mem_of_getElem? (i := 2) (by decide +kernel)) rfl dX10_readHand_25 (fun v3 hh => ?_)
  refine rw_iconst E (v := 3) (by decide) dX10_readHand_28 ?_
  refine rw_icmp_ne E hh (tgt := 36) (by decide) dX10_readHand_29 (fun hh => ?_) (fun hh => ?_)
  · refine rw_iconst E (v := 0) (by decide) dX10_readHand_36 ?_
    refine WH.pick [0, 1] rfl ?_
    exact w_X10_readHand_b37 E hrt hlk (by omega) (by omega) hh
  · refine rw_iconst E (v := 1) (by decide) dX10_readHand_32 ?_
    refine rw_goto E (tgt := 37) (by decide) dX10_readHand_33 ?_
    refine WH.pick [0, 1] rfl ?_
    exact w_X10_readHand_b37 E hrt hlk (by omega) (by omega) hh
def s_X10_readHand (S : HS) (h : Nat) (l1 : Option Nat) : Option (HS) := kO S ((some h)) 10 (fun a3 => kc (s_X10_stands S a3 2) (fun v2 S1 => kI S1 l1 1 5 (fun v4 => if 4 ≤ v4 then (s_X10_readHand_b20 h S1 l1 ((some h)) v2 0) else (s_X10_readHand_b20 h S1 l1 ((some h)) v2 1))))
set_option maxHeartbeats 4000000 in
set_option maxRecDepth 100000 in
theorem c_X10_readHand (l : Launch) (b0 : Nat) (G : hG) (S S1 : HS) (h : Nat) (l1 : Option Nat) (hh : s_X10_readHand S h l1 = some S1) : MH l yX10_readHand wsX10_readHand rm_X10_readHand b0 G S [hrf b0 (some h), hrf b0 l1] none S1 10 40 := by
  refine MH.ofW (cc := cX10_readHand) (maxL := 4) (ret := none) (own := RX10) (lv0 := [(0, hrf b0 ((some h))), (1, hrf b0 l1)]) (by decide) rfl rfl (by simp [lg_sl, hrf_cat, cat_i, cat_l, cat_r]) (by simp only [lv_args, hrf_cat, cat_i, cat_l, cat_r]; rfl) ?_
  intro p e s m args below meth c E hrt hlk hnm
  have hh : (kO S ((some h)) 10 (fun a3 => kc (s_X10_stands S a3 2) (fun v2 S1 => kI S1 l1 1 5 (fun v4 => if 4 ≤ v4 then (s_X10_readHand_b20 h S1 l1 ((some h)) v2 0) else (s_X10_readHand_b20 h S1 l1 ((some h)) v2 1))))) = some S1 := hh
  have hc : 0 + 10 ≤ 10 := by decide
  have hs : 0 + 40 ≤ 40 := by decide
  refine rw_aload_n E (j0 := 0) rfl rfl dX10_readHand_0 ?_
  refine rw_aload_n E (j0 := 0) rfl rfl dX10_readHand_1 ?_
  refine rw_ldcS E (i := 2) dX10_readHand_2 (by decide) rfl rfl ?_
  refine rw_cVi E (As := [.ref (G.2.1 2)]) hh (by decide) rfl (fun _ _ _ hq => c_X10_stands l b0 G _ _ _ _ _ hq) (cwV 1 E.2.2.2.2.1 gX10_readHand_X10_stands rfl rfl rfl (by decide +kernel) ⟨Nat.le_of_ble_eq_true rfl, Nat.le_of_ble_eq_true rfl⟩) rfl rfl (by (try simp only [List.map_cons, List.map_nil, List.sum_cons, List.sum_nil, hrf_cat, cat_i, cat_l, cat_r]) <;> decide) ⟨(show _ ≤ 10 by omega), (show _ ≤ 40 by omega)⟩ dX10_readHand_4 (fun v2 S1 hh => ?_)
  refine rw_aload_n E (j0 := 1) rfl rfl dX10_readHand_7 ?_
  refine rw_getI E hh (C := RX1) (T := TX1) (N := 6) rfl (by decide) i_X10_readHand_1 (by decide) rfl (List.mem_of_getElem? (i := 1) (by decide +kernel)) rfl dX10_readHand_8 (fun v4 hh => ?_)
  refine rw_iconst E (v := 4) (by decide) dX10_readHand_11 ?_
  refine rw_icmp_ge E hh (tgt := 19) (by decide) dX10_readHand_12 (fun hh => ?_) (fun hh => ?_)
  · refine rw_iconst E (v := 0) (by decide) dX10_readHand_19 ?_
    refine WH.pick [0, 1] rfl ?_
    exact w_X10_readHand_b20 E hrt hlk (by omega) (by omega) hh
  · refine rw_iconst E (v := 1) (by decide) dX10_readHand_15 ?_
    refine rw_goto E (tgt := 20) (by decide) dX10_readHand_16 ?_
    refine WH.pick [0, 1] rfl ?_
    exact w_X10_readHand_b20 E hrt hlk (by omega) (by omega) hh

/-! HummingDisc$Tape.readBox()LHummingDisc$Box; -/
abbrev rm_X10_readBox : Room := { frames := 8, cells := 76, slots := 300, locals := 175 }
theorem i_X10_readBox_1 : ∀ w ∈ wsX10, w ∈ wsX10_readBox := fun _ h => List.mem_cons_of_mem _ (List.mem_append_left _ (List.mem_append_left _ (List.mem_append_left _ (List.mem_append_left _ (List.mem_append_left _ (List.mem_append_right _ (h)))))))
theorem i_X10_readBox_10 : ∀ w ∈ wsX100, w ∈ wsX10_readBox := fun _ h => List.mem_cons_of_mem _ (List.mem_append_left _ (List.mem_append_left _ (List.mem_append_left _ (List.mem_append_left _ (List.mem_append_right _ (h))))))
def s_X10_readBox_b42 (j24 : HS → Option Nat → Int32 → Option (Option Nat × HS)) (h : Nat) (S : HS) (l1 : Option Nat) (l2 : Int32) : Option (Option Nat × HS) := kO S ((some h)) 10 (fun a2 => kcv (s_X10_readDisc S a2 l1) (fun S1 => j24 S1 l1 (l2 + 1)))
set_option maxHeartbeats 4000000 in
set_option maxRecDepth 100000 in
theorem w_X10_readBox_b42 {p : Program} {l : Launch} {e : Env} {s : State} {m : MethodId} {args : Array Value} {below : List Frame} {meth : Method} {c : Code} {b0 : Nat} {G : hG} {S1 : HS} {r : Option Nat} {j24 : HS → Option Nat → Int32 → Option (Option Nat × HS)} {h : Nat} {S : HS} {l1 : Option Nat} {l2 : Int32} (E : hE p s m args c b0 G cX10_readBox RX10 3 wsX10_readBox) (hrt : meth.sig.returnType = (some (.object "HummingDisc$Box"))) (hlk : meth.locks = false) {cells slots nc ns : Nat} (hnc : 66 ≤ nc) (hns : 264 ≤ ns) (hc : cells + (1 + nc) ≤ 76) (hs : slots + (3 + ns) ≤ 300) (hj24 : ∀ (S : HS) (l1 : Option Nat) (l2 : Int32) (cells slots : Nat), cells + nc ≤ 76 → slots + ns ≤ 300 → j24 S l1 l2 = some (r, S1) → WH p l e rm_X10_readBox s m args below meth c b0 G 3 cells slots (MQ below (hQ b0 G (some (hrf b0 r)) S1) args s 76 300 (hA b0)) S 24 [(0, hrf b0 ((some h))), (1, hrf b0 l1), (2, .int l2)] []) (hh : s_X10_readBox_b42 j24 h S l1 l2 = some (r, S1)) : WH p l e rm_X10_readBox s m args below meth c b0 G 3 cells slots (MQ below (hQ b0 G (some (hrf b0 r)) S1) args s 76 300 (hA b0)) S 42 [(0, hrf b0 ((some h))), (1, hrf b0 l1), (2, .int l2)] [] := by
  have hh : (kO S ((some h)) 10 (fun a2 => kcv (s_X10_readDisc S a2 l1) (fun S1 => j24 S1 l1 (l2 + 1)))) = some (r, S1) := hh
  refine rw_aload_n E (j0 := 0) rfl rfl dX10_readBox_42 ?_
  refine rw_aload_n E (j0 := 1) rfl rfl dX10_readBox_43 ?_
  refine rw_cVv E (As := [hrf b0 l1]) hh (by decide) rfl (fun _ _ hq => c_X10_readDisc l b0 G _ _ _ _ hq) (cwV 1 E.2.2.2.2.1 gX10_readBox_X10_readDisc rfl rfl rfl (by decide +kernel) ⟨Nat.le_of_ble_eq_true rfl, Nat.le_of_ble_eq_true rfl⟩) rfl rfl (by (try simp only [List.map_cons, List.map_nil, List.sum_cons, List.sum_nil, hrf_cat, cat_i, cat_l, cat_r]) <;> decide) ⟨(show _ ≤ 76 by omega), (show _ ≤ 300 by omega)⟩ dX10_readBox_44 (fun S1 hh => ?_)
  refine rw_iinc E (v := l2 + 1) (lv2 := [(2, .int (l2 + 1)), (0, hrf b0 ((some h))), (1, hrf b0 l1)]) (j0 := 2) rfl rfl (by decide) (by simp [lvs, lvs2, hrf_cat]) dX10_readBox_47 ?_
  refine rw_goto E (tgt := 24) (by decide) dX10_readBox_50 ?_
  refine WH.pick [1, 2, 0] rfl ?_
  exact hj24 _ _ _ _ _ (by omega) (by omega) hh
def s_X10_readBox_b73 (j55 : HS → Option Nat → Int32 → Option (Option Nat × HS)) (h : Nat) (S : HS) (l1 : Option Nat) (l2 : Int32) : Option (Option Nat × HS) := kO S ((some h)) 10 (fun a2 => kcv (s_X10_readThread S a2 l1) (fun S1 => j55 S1 l1 (l2 + 1)))
set_option maxHeartbeats 4000000 in
set_option maxRecDepth 100000 in
theorem w_X10_readBox_b73 {p : Program} {l : Launch} {e : Env} {s : State} {m : MethodId} {args : Array Value} {below : List Frame} {meth : Method} {c : Code} {b0 : Nat} {G : hG} {S1 : HS} {r : Option Nat} {j55 : HS → Option Nat → Int32 → Option (Option Nat × HS)} {h : Nat} {S : HS} {l1 : Option Nat} {l2 : Int32} (E : hE p s m args c b0 G cX10_readBox RX10 3 wsX10_readBox) (hrt : meth.sig.returnType = (some (.object "HummingDisc$Box"))) (hlk : meth.locks = false) {cells slots nc ns : Nat} (hnc : 60 ≤ nc) (hns : 240 ≤ ns) (hc : cells + (1 + nc) ≤ 76) (hs : slots + (4 + ns) ≤ 300) (hj55 : ∀ (S : HS) (l1 : Option Nat) (l2 : Int32) (cells slots : Nat), cells + nc ≤ 76 → slots + ns ≤ 300 → j55 S l1 l2 = some (r, S1) → WH p l e rm_X10_readBox s m args below meth c b0 G 3 cells slots (MQ below (hQ b0 G (some (hrf b0 r)) S1) args s 76 300 (hA b0)) S 55 [(0, hrf b0 ((some h))), (1, hrf b0 l1), (2, .int l2)] []) (hh : s_X10_readBox_b73 j55 h S l1 l2 = some (r, S1)) : WH p l e rm_X10_readBox s m args below meth c b0 G 3 cells slots (MQ below (hQ b0 G (some (hrf b0 r)) S1) args s 76 300 (hA b0)) S 73 [(0, hrf b0 ((some h))), (1, hrf b0 l1), (2, .int l2)] [] := by
  have hh : (kO S ((some h)) 10 (fun a2 => kcv (s_X10_readThread S a2 l1) (fun S1 => j55 S1 l1 (l2 + 1)))) = some (r, S1) := hh
  refine rw_aload_n E (j0 := 0) rfl rfl dX10_readBox_73 ?_
  refine rw_aload_n E (j0 := 1) rfl rfl dX10_readBox_74 ?_
  refine rw_cVv E (As := [hrf b0 l1]) hh (by decide) rfl (fun _ _ hq => c_X10_readThread l b0 G _ _ _ _ hq) (cwV 1 E.2.2.2.2.1 gX10_readBox_X10_readThread rfl rfl rfl (by decide +kernel) ⟨Nat.le_of_ble_eq_true rfl, Nat.le_of_ble_eq_true rfl⟩) rfl rfl (by (try simp only [List.map_cons, List.map_nil, List.sum_cons, List.sum_nil, hrf_cat, cat_i, cat_l, cat_r]) <;> decide) ⟨(show _ ≤ 76 by omega), (show _ ≤ 300 by omega)⟩ dX10_readBox_75 (fun S1 hh => ?_)
  refine rw_iinc E (v := l2 + 1) (lv2 := [(2, .int (l2 + 1)), (0, hrf b0 ((some h))), (1, hrf b0 l1)]) (j0 := 2) rfl rfl (by decide) (by simp [lvs, lvs2, hrf_cat]) dX10_readBox_78 ?_
  refine rw_goto E (tgt := 55) (by decide) dX10_readBox_81 ?_
  refine WH.pick [1, 2, 0] rfl ?_
  exact hj55 _ _ _ _ _ (by omega) (by omega) hh
def s_X10_readBox_b104 (j86 : HS → Option Nat → Int32 → Option (Option Nat × HS)) (h : Nat) (S : HS) (l1 : Option Nat) (l2 : Int32) : Option (Option Nat × HS) := kO S ((some h)) 10 (fun a2 => kcv (s_X10_readHand S a2 l1) (fun S1 => j86 S1 l1 (l2 + 1)))
set_option maxHeartbeats 4000000 in
set_option maxRecDepth 100000 in
theorem w_X10_readBox_b104 {p : Program} {l : Launch} {e : Env} {s : State} {m : MethodId} {args : Array Value} {below : List Frame} {meth : Method} {c : Code} {b0 : Nat} {G : hG} {S1 : HS} {r : Option Nat} {j86 : HS → Option Nat → Int32 → Option (Option Nat × HS)} {h : Nat} {S : HS} {l1 : Option Nat} {l2 : Int32} (E : hE p s m args c b0 G cX10_readBox RX10 3 wsX10_readBox) (hrt : meth.sig.returnType = (some (.object "HummingDisc$Box"))) (hlk : meth.locks = false) {cells slots nc ns : Nat} (hnc : 0 ≤ nc) (hns : 0 ≤ ns) (hc : cells + (10 + nc) ≤ 76) (hs : slots + (40 + ns) ≤ 300) (hj86 : ∀ (S : HS) (l1 : Option Nat) (l2 : Int32) (cells slots : Nat), cells + nc ≤ 76 → slots + ns ≤ 300 → j86 S l1 l2 = some (r, S1) → WH p l e rm_X10_readBox s m args below meth c b0 G 3 cells slots (MQ below (hQ b0 G (some (hrf b0 r)) S1) args s 76 300 (hA b0)) S 86 [(0, hrf b0 ((some h))), (1, hrf b0 l1), (2, .int l2)] []) (hh : s_X10_readBox_b104 j86 h S l1 l2 = some (r, S1)) : WH p l e rm_X10_readBox s m args below meth c b0 G 3 cells slots (MQ below (hQ b0 G (some (hrf b0 r)) S1) args s 76 300 (hA b0)) S 104 [(0, hrf b0 ((some h))), (1, hrf b0 l1), (2, .int l2)] [] := by
  have hh : (kO S ((some h)) 10 (fun a2 => kcv (s_X10_readHand S a2 l1) (fun S1 => j86 S1 l1 (l2 + 1)))) = some (r, S1) := hh
  refine rw_aload_n E (j0 := 0) rfl rfl dX10_readBox_104 ?_
  refine rw_aload_n E (j0 := 1) rfl rfl dX10_readBox_105 ?_
  refine rw_cVv E (As := [hrf b0 l1]) hh (by decide) rfl (fun _ _ hq => c_X10_readHand l b0 G _ _ _ _ hq) (cwV 1 E.2.2.2.2.1 gX10_readBox_X10_readHand rfl rfl rfl (by decide +kernel) ⟨Nat.le_of_ble_eq_true rfl, Nat.le_of_ble_eq_true rfl⟩) rfl rfl (by (try simp only [List.map_cons, List.map_nil, List.sum_cons, List.sum_nil, hrf_cat, cat_i, cat_l, cat_r]) <;> decide) ⟨(show _ ≤ 76 by omega), (show _ ≤ 300 by omega)⟩ dX10_readBox_106 (fun S1 hh => ?_)
  refine rw_iinc E (v := l2 + 1) (lv2 := [(2, .int (l2 + 1)), (0, hrf b0 ((some h))), (1, hrf b0 l1)]) (j0 := 2) rfl rfl (by decide) (by simp [lvs, lvs2, hrf_cat]) dX10_readBox_109 ?_
  refine rw_goto E (tgt := 86) (by decide) dX10_readBox_112 ?_
  refine WH.pick [1, 2, 0] rfl ?_
  exact hj86 _ _ _ _ _ (by omega) (by omega) hh
def s_X10_readBox_b127 (h : Nat) (S : HS) (l1 : Option Nat) : Option (Option Nat × HS) := kwI S ((some h)) 10 1 0 (fun S1 => kI S1 ((some h)) 10 2 (fun v2 => if v2 = 0 then (some (l1, S1)) else (some (none, S1))))
set_option maxHeartbeats 4000000 in
set_option maxRecDepth 100000 in
theorem w_X10_readBox_b127 {p : Program} {l : Launch} {e : Env} {s : State} {m : MethodId} {args : Array Value} {below : List Frame} {meth : Method} {c : Code} {b0 : Nat} {G : hG} {S1 : HS} {r : Option Nat} {h : Nat} {S : HS} {l1 : Option Nat} (E : hE p s m args c b0 G cX10_readBox RX10 3 wsX10_readBox) (hrt : meth.sig.returnType = (some (.object "HummingDisc$Box"))) (hlk : meth.locks = false) {cells slots : Nat} (hc : cells + 0 ≤ 76) (hs : slots + 0 ≤ 300) (hh : s_X10_readBox_b127 h S l1 = some (r, S1)) : WH p l e rm_X10_readBox s m args below meth c b0 G 3 cells slots (MQ below (hQ b0 G (some (hrf b0 r)) S1) args s 76 300 (hA b0)) S 127 [(0, hrf b0 ((some h))), (1, hrf b0 l1)] [] := by
  have hh : (kwI S ((some h)) 10 1 0 (fun S1 => kI S1 ((some h)) 10 2 (fun v2 => if v2 = 0 then (some (l1, S1)) else (some (none, S1))))) = some (r, S1) := hh
  refine rw_aload_n E (j0 := 0) rfl rfl dX10_readBox_127 ?_
  refine rw_iconst E (v := 0) (by decide) dX10_readBox_128 ?_
  refine rw_putI E hh (C := RX10) (T := TX10) (N := 8) (ty0 := tyX10) rfl tyX10_ok nmX10 (by decide) i_X10_readBox_10 (by decide) rfl (List.mem_of_getElem? (i := 7) (by decide +kernel)) rfl (Or.inl rfl) rfl dX10_readBox_129 (fun S1 hh => ?_)
  refine rw_aload_n E (j0 := 0) rfl rfl dX10_readBox_132 ?_
  refine rw_getI E hh (C := RX10) (T := TX10) (N := 8) rfl (by decide) i_X10_readBox_10 (by decide) rfl (List.mem_of_getElem? (i := 4) (by decide +kernel)) rfl dX10_readBox_133 (fun v2 hh => ?_)
  refine rw_if_ne E hh (tgt := 143) (by decide) dX10_readBox_136 (fun hh => ?_) (fun hh => ?_)
  · refine rw_null E dX10_readBox_143 ?_
    exact rw_aret E hrt hlk hh (show _ ≤ 76 by omega) (show _ ≤ 300 by omega) dX10_readBox_144
  · refine rw_aload_n E (j0 := 1) rfl rfl dX10_readBox_139 ?_
    refine rw_goto E (tgt := 144) (by decide) dX10_readBox_140 ?_
    exact rw_aret E hrt hlk hh (show _ ≤ 76 by omega) (show _ ≤ 300 by omega) dX10_readBox_144
def s_X10_readBox_b115 (h : Nat) (S : HS) (l1 : Option Nat) : Option (Option Nat × HS) := kI S ((some h)) 10 4 (fun v1 => if v1 = 0 then (s_X10_readBox_b127 h S l1) else (kO S ((some h)) 10 (fun a3 => kcv (s_X10_fail S a3 1) (fun S2 => s_X10_readBox_b127 h S2 l1))))
set_option maxHeartbeats 4000000 in
set_option maxRecDepth 100000 in
theorem w_X10_readBox_b115 {p : Program} {l : Launch} {e : Env} {s : State} {m : MethodId} {args : Array Value} {below : List Frame} {meth : Method} {c : Code} {b0 : Nat} {G : hG} {S1 : HS} {r : Option Nat} {h : Nat} {S : HS} {l1 : Option Nat} (E : hE p s m args c b0 G cX10_readBox RX10 3 wsX10_readBox) (hrt : meth.sig.returnType = (some (.object "HummingDisc$Box"))) (hlk : meth.locks = false) {cells slots : Nat} (hc : cells + 0 ≤ 76) (hs : slots + 0 ≤ 300) (hh : s_X10_readBox_b115 h S l1 = some (r, S1)) : WH p l e rm_X10_readBox s m args below meth c b0 G 3 cells slots (MQ below (hQ b0 G (some (hrf b0 r)) S1) args s 76 300 (hA b0)) S 115 [(0, hrf b0 ((some h))), (1, hrf b0 l1)] [] := by
  have hh : (kI S ((some h)) 10 4 (fun v1 => if v1 = 0 then (s_X10_readBox_b127 h S l1) else (kO S ((some h)) 10 (fun a3 => kcv (s_X10_fail S a3 1) (fun S2 => s_X10_readBox_b127 h S2 l1))))) = some (r, S1) := hh
  refine rw_aload_n E (j0 := 0) rfl rfl dX10_readBox_115 ?_
  refine rw_getI E hh (C := RX10) (T := TX10) (N := 8) rfl (by decide) i_X10_readBox_10 (by decide) rfl (List.mem_of_getElem? (i := 6) (by decide +kernel)) rfl dX10_readBox_116 (fun v1 hh => ?_)
  refine rw_if_eq E hh (tgt := 127) (by decide) dX10_readBox_119 (fun hh => ?_) (fun hh => ?_)
  · refine WH.pick [0, 1] rfl ?_
    exact w_X10_readBox_b127 E hrt hlk (by omega) (by omega) hh
  · refine rw_aload_n E (j0 := 0) rfl rfl dX10_readBox_122 ?_
    refine rw_iconst E (v := 1) (by decide) dX10_readBox_123 ?_
    refine rw_cVv E (As := [.int 1]) hh (by decide) rfl (fun _ _ hq => c_X10_fail l b0 G _ _ _ _ hq) (cwV 1 E.2.2.2.2.1 gX10_readBox_X10_fail rfl rfl rfl (by decide +kernel) ⟨Nat.le_of_ble_eq_true rfl, Nat.le_of_ble_eq_true rfl⟩) rfl rfl (by (try simp only [List.map_cons, List.map_nil, List.sum_cons, List.sum_nil, hrf_cat, cat_i, cat_l, cat_r]) <;> decide) ⟨(show _ ≤ 76 by omega), (show _ ≤ 300 by omega)⟩ dX10_readBox_124 (fun S2 hh => ?_)
    refine WH.pick [0, 1] rfl ?_
    exact w_X10_readBox_b127 E hrt hlk (by omega) (by omega) hh
def s_X10_readBox_b86 (j86 : HS → Option Nat → Int32 → Option (Option Nat × HS)) (h : Nat) (S : HS) (l1 : Option Nat) (l2 : Int32) : Option (Option Nat × HS) := if 4 < l2 then (s_X10_readBox_b115 h S l1) else (if l2 = 0 then (s_X10_readBox_b104 j86 h S l1 l2) else (kO S ((some h)) 10 (fun a3 => kc (s_X10_stands S a3 2) (fun v2 S1 => if v2 = 0 then (s_X10_readBox_b115 h S1 l1) else (s_X10_readBox_b104 j86 h S1 l1 l2)))))
set_option maxHeartbeats 4000000 in
set_option maxRecDepth 100000 in
theorem w_X10_readBox_b86 {p : Program} {l : Launch} {e : Env} {s : State} {m : MethodId} {args : Array Value} {below : List Frame} {meth : Method} {c : Code} {b0 : Nat} {G : hG} {S1 : HS} {r : Option Nat} {j86 : HS → Option Nat → Int32 → Option (Option Nat × HS)} {h : Nat} {S : HS} {l1 : Option Nat} {l2 : Int32} (E : hE p s m args c b0 G cX10_readBox RX10 3 wsX10_readBox) (hrt : meth.sig.returnType = (some (.object "HummingDisc$Box"))) (hlk : meth.locks = false) {cells slots nc ns : Nat} (hnc : 0 ≤ nc) (hns : 0 ≤ ns) (hc : cells + (10 + nc) ≤ 76) (hs : slots + (40 + ns) ≤ 300) (hj86 : ∀ (S : HS) (l1 : Option Nat) (l2 : Int32) (cells slots : Nat), cells + nc ≤ 76 → slots + ns ≤ 300 → j86 S l1 l2 = some (r, S1) → WH p l e rm_X10_readBox s m args below meth c b0 G 3 cells slots (MQ below (hQ b0 G (some (hrf b0 r)) S1) args s 76 300 (hA b0)) S 86 [(0, hrf b0 ((some h))), (1, hrf b0 l1), (2, .int l2)] []) (hh : s_X10_readBox_b86 j86 h S l1 l2 = some (r, S1)) : WH p l e rm_X10_readBox s m args below meth c b0 G 3 cells slots (MQ below (hQ b0 G (some (hrf b0 r)) S1) args s 76 300 (hA b0)) S 86 [(0, hrf b0 ((some h))), (1, hrf b0 l1), (2, .int l2)] [] := by
  have hh : (if 4 < l2 then (s_X10_readBox_b115 h S l1) else (if l2 = 0 then (s_X10_readBox_b104 j86 h S l1 l2) else (kO S ((some h)) 10 (fun a3 => kc (s_X10_stands S a3 2) (fun v2 S1 => if v2 = 0 then (s_X10_readBox_b115 h S1 l1) else (s_X10_readBox_b104 j86 h S1 l1 l2)))))) = some (r, S1) := hh
  refine rw_iload_n E (j0 := 2) rfl rfl dX10_readBox_86 ?_
  refine rw_iconst E (v := 4) (by decide) dX10_readBox_87 ?_
  refine rw_icmp_gt E hh (tgt := 115) (by decide) dX10_readBox_88 (fun hh => ?_) (fun hh => ?_)
  · refine WH.pick [0, 1] rfl ?_
    exact w_X10_readBox_b115 E hrt hlk (by omega) (by omega) hh
  · refine rw_iload_n E (j0 := 2) rfl rfl dX10_readBox_91 ?_
    refine rw_if_eq E hh (tgt := 104) (by decide) dX10_readBox_92 (fun hh => ?_) (fun hh => ?_)
    · refine WH.pick [0, 1, 2] rfl ?_
      exact w_X10_readBox_b104 E hrt hlk hnc hns (by omega) (by omega) hj86 hh
    · refine rw_aload_n E (j0 := 0) rfl rfl dX10_readBox_95 ?_
      refine rw_ldcS E (i := 2) dX10_readBox_96 (by decide) rfl rfl ?_
      refine rw_cVi E (As := [.ref (G.2.1 2)]) hh (by decide) rfl (fun _ _ _ hq => c_X10_stands l b0 G _ _ _ _ _ hq) (cwV 1 E.2.2.2.2.1 gX10_readBox_X10_stands rfl rfl rfl (by decide +kernel) ⟨Nat.le_of_ble_eq_true rfl, Nat.le_of_ble_eq_true rfl⟩) rfl rfl (by (try simp only [List.map_cons, List.map_nil, List.sum_cons, List.sum_nil, hrf_cat, cat_i, cat_l, cat_r]) <;> decide) ⟨(show _ ≤ 76 by omega), (show _ ≤ 300 by omega)⟩ dX10_readBox_98 (fun v2 S1 hh => ?_)
      refine rw_if_eq E hh (tgt := 115) (by decide) dX10_readBox_101 (fun hh => ?_) (fun hh => ?_)
      · refine WH.pick [0, 1] rfl ?_
        exact w_X10_readBox_b115 E hrt hlk (by omega) (by omega) hh
      · refine WH.pick [0, 1, 2] rfl ?_
        exact w_X10_readBox_b104 E hrt hlk hnc hns (by omega) (by omega) hj86 hh
def s_X10_readBox_L86 (h : Nat) : Nat → HS → Option Nat → Int32 → Option (Option Nat × HS)
  | 0 => fun _ _ _ => none
  | n + 1 => s_X10_readBox_b86 (s_X10_readBox_L86 h n) h
set_option maxHeartbeats 4000000 in
set_option maxRecDepth 100000 in
theorem w_X10_readBox_L86 {p : Program} {l : Launch} {e : Env} {s : State} {m : MethodId} {args : Array Value} {below : List Frame} {meth : Method} {c : Code} {b0 : Nat} {G : hG} {S1 : HS} {r : Option Nat} {h : Nat} (E : hE p s m args c b0 G cX10_readBox RX10 3 wsX10_readBox) (hrt : meth.sig.returnType = (some (.object "HummingDisc$Box"))) (hlk : meth.locks = false) : ∀ (n : Nat) (S : HS) (l1 : Option Nat) (l2 : Int32) (cells slots : Nat), cells + (n * 10 + 0) ≤ 76 → slots + (n * 40 + 0) ≤ 300 → s_X10_readBox_L86 h n S l1 l2 = some (r, S1) → WH p l e rm_X10_readBox s m args below meth c b0 G 3 cells slots (MQ below (hQ b0 G (some (hrf b0 r)) S1) args s 76 300 (hA b0)) S 86 [(0, hrf b0 ((some h))), (1, hrf b0 l1), (2, .int l2)] [] := by
  intro n
  induction n with
  | zero => intro _ _ _ _ _ _ _ hh; exact absurd hh (by simp [s_X10_readBox_L86])
  | succ n ih => intro _ _ _ cells slots hc hs hh; exact w_X10_readBox_b86 E hrt hlk (nc := n * 10 + 0) (ns := n * 40 + 0) (by omega) (by omega) (by omega) (by omega) ih hh
def s_X10_readBox_b84 (h : Nat) (S : HS) (l1 : Option Nat) : Option (Option Nat × HS) := s_X10_readBox_L86 h 6 S l1 0
set_option maxHeartbeats 4000000 in
set_option maxRecDepth 100000 in
theorem w_X10_readBox_b84 {p : Program} {l : Launch} {e : Env} {s : State} {m : MethodId} {args : Array Value} {below : List Frame} {meth : Method} {c : Code} {b0 : Nat} {G : hG} {S1 : HS} {r : Option Nat} {h : Nat} {S : HS} {l1 : Option Nat} (E : hE p s m args c b0 G cX10_readBox RX10 3 wsX10_readBox) (hrt : meth.sig.returnType = (some (.object "HummingDisc$Box"))) (hlk : meth.locks = false) {cells slots : Nat} (hc : cells + 60 ≤ 76) (hs : slots + 240 ≤ 300) (hh : s_X10_readBox_b84 h S l1 = some (r, S1)) : WH p l e rm_X10_readBox s m args below meth c b0 G 3 cells slots (MQ below (hQ b0 G (some (hrf b0 r)) S1) args s 76 300 (hA b0)) S 84 [(0, hrf b0 ((some h))), (1, hrf b0 l1)] [] := by
  have hh : (s_X10_readBox_L86 h 6 S l1 0) = some (r, S1) := hh
  refine rw_iconst E (v := 0) (by decide) dX10_readBox_84 ?_
  refine rw_istore_n E (i := 2) (lv2 := [(2, .int 0), (0, hrf b0 ((some h))), (1, hrf b0 l1)]) rfl (by decide) (by simp [lvs, lvs2, hrf_cat]) dX10_readBox_85 ?_
  refine WH.pick [1, 2, 0] rfl ?_
  exact w_X10_readBox_L86 E hrt hlk 6 _ _ _ _ _ (by omega) (by omega) hh
def s_X10_readBox_b55 (j55 : HS → Option Nat → Int32 → Option (Option Nat × HS)) (h : Nat) (S : HS) (l1 : Option Nat) (l2 : Int32) : Option (Option Nat × HS) := if 4 < l2 then (s_X10_readBox_b84 h S l1) else (if l2 = 0 then (s_X10_readBox_b73 j55 h S l1 l2) else (kO S ((some h)) 10 (fun a3 => kc (s_X10_stands S a3 1) (fun v2 S1 => if v2 = 0 then (s_X10_readBox_b84 h S1 l1) else (s_X10_readBox_b73 j55 h S1 l1 l2)))))
set_option maxHeartbeats 4000000 in
set_option maxRecDepth 100000 in
theorem w_X10_readBox_b55 {p : Program} {l : Launch} {e : Env} {s : State} {m : MethodId} {args : Array Value} {below : List Frame} {meth : Method} {c : Code} {b0 : Nat} {G : hG} {S1 : HS} {r : Option Nat} {j55 : HS → Option Nat → Int32 → Option (Option Nat × HS)} {h : Nat} {S : HS} {l1 : Option Nat} {l2 : Int32} (E : hE p s m args c b0 G cX10_readBox RX10 3 wsX10_readBox) (hrt : meth.sig.returnType = (some (.object "HummingDisc$Box"))) (hlk : meth.locks = false) {cells slots nc ns : Nat} (hnc : 60 ≤ nc) (hns : 240 ≤ ns) (hc : cells + (1 + nc) ≤ 76) (hs : slots + (4 + ns) ≤ 300) (hj55 : ∀ (S : HS) (l1 : Option Nat) (l2 : Int32) (cells slots : Nat), cells + nc ≤ 76 → slots + ns ≤ 300 → j55 S l1 l2 = some (r, S1) → WH p l e rm_X10_readBox s m args below meth c b0 G 3 cells slots (MQ below (hQ b0 G (some (hrf b0 r)) S1) args s 76 300 (hA b0)) S 55 [(0, hrf b0 ((some h))), (1, hrf b0 l1), (2, .int l2)] []) (hh : s_X10_readBox_b55 j55 h S l1 l2 = some (r, S1)) : WH p l e rm_X10_readBox s m args below meth c b0 G 3 cells slots (MQ below (hQ b0 G (some (hrf b0 r)) S1) args s 76 300 (hA b0)) S 55 [(0, hrf b0 ((some h))), (1, hrf b0 l1), (2, .int l2)] [] := by
  have hh : (if 4 < l2 then (s_X10_readBox_b84 h S l1) else (if l2 = 0 then (s_X10_readBox_b73 j55 h S l1 l2) else (kO S ((some h)) 10 (fun a3 => kc (s_X10_stands S a3 1) (fun v2 S1 => if v2 = 0 then (s_X10_readBox_b84 h S1 l1) else (s_X10_readBox_b73 j55 h S1 l1 l2)))))) = some (r, S1) := hh
  refine rw_iload_n E (j0 := 2) rfl rfl dX10_readBox_55 ?_
  refine rw_iconst E (v := 4) (by decide) dX10_readBox_56 ?_
  refine rw_icmp_gt E hh (tgt := 84) (by decide) dX10_readBox_57 (fun hh => ?_) (fun hh => ?_)
  · refine WH.pick [0, 1] rfl ?_
    exact w_X10_readBox_b84 E hrt hlk (by omega) (by omega) hh
  · refine rw_iload_n E (j0 := 2) rfl rfl dX10_readBox_60 ?_
    refine rw_if_eq E hh (tgt := 73) (by decide) dX10_readBox_61 (fun hh => ?_) (fun hh => ?_)
    · refine WH.pick [0, 1, 2] rfl ?_
      exact w_X10_readBox_b73 E hrt hlk hnc hns (by omega) (by omega) hj55 hh
    · refine rw_aload_n E (j0 := 0) rfl rfl dX10_readBox_64 ?_
      refine rw_ldcS E (i := 1) dX10_readBox_65 (by decide) rfl rfl ?_
      refine rw_cVi E (As := [.ref (G.2.1 1)]) hh (by decide) rfl (fun _ _ _ hq => c_X10_stands l b0 G _ _ _ _ _ hq) (cwV 1 E.2.2.2.2.1 gX10_readBox_X10_stands rfl rfl rfl (by decide +kernel) ⟨Nat.le_of_ble_eq_true rfl, Nat.le_of_ble_eq_true rfl⟩) rfl rfl (by (try simp only [List.map_cons, List.map_nil, List.sum_cons, List.sum_nil, hrf_cat, cat_i, cat_l, cat_r]) <;> decide) ⟨(show _ ≤ 76 by omega), (show _ ≤ 300 by omega)⟩ dX10_readBox_67 (fun v2 S1 hh => ?_)
      refine rw_if_eq E hh (tgt := 84) (by decide) dX10_readBox_70 (fun hh => ?_) (fun hh => ?_)
      · refine WH.pick [0, 1] rfl ?_
        exact w_X10_readBox_b84 E hrt hlk (by omega) (by omega) hh
      · refine WH.pick [0, 1, 2] rfl ?_
        exact w_X10_readBox_b73 E hrt hlk hnc hns (by omega) (by omega) hj55 hh
def s_X10_readBox_L55 (h : Nat) : Nat → HS → Option Nat → Int32 → Option (Option Nat × HS)
  | 0 => fun _ _ _ => none
  | n + 1 => s_X10_readBox_b55 (s_X10_readBox_L55 h n) h
set_option maxHeartbeats 4000000 in
set_option maxRecDepth 100000 in
theorem w_X10_readBox_L55 {p : Program} {l : Launch} {e : Env} {s : State} {m : MethodId} {args : Array Value} {below : List Frame} {meth : Method} {c : Code} {b0 : Nat} {G : hG} {S1 : HS} {r : Option Nat} {h : Nat} (E : hE p s m args c b0 G cX10_readBox RX10 3 wsX10_readBox) (hrt : meth.sig.returnType = (some (.object "HummingDisc$Box"))) (hlk : meth.locks = false) : ∀ (n : Nat) (S : HS) (l1 : Option Nat) (l2 : Int32) (cells slots : Nat), cells + (n * 1 + 60) ≤ 76 → slots + (n * 4 + 240) ≤ 300 → s_X10_readBox_L55 h n S l1 l2 = some (r, S1) → WH p l e rm_X10_readBox s m args below meth c b0 G 3 cells slots (MQ below (hQ b0 G (some (hrf b0 r)) S1) args s 76 300 (hA b0)) S 55 [(0, hrf b0 ((some h))), (1, hrf b0 l1), (2, .int l2)] [] := by
  intro n
  induction n with
  | zero => intro _ _ _ _ _ _ _ hh; exact absurd hh (by simp [s_X10_readBox_L55])
  | succ n ih => intro _ _ _ cells slots hc hs hh; exact w_X10_readBox_b55 E hrt hlk (nc := n * 1 + 60) (ns := n * 4 + 240) (by omega) (by omega) (by omega) (by omega) ih hh
def s_X10_readBox_b53 (h : Nat) (S : HS) (l1 : Option Nat) : Option (Option Nat × HS) := s_X10_readBox_L55 h 6 S l1 0
set_option maxHeartbeats 4000000 in
set_option maxRecDepth 100000 in
theorem w_X10_readBox_b53 {p : Program} {l : Launch} {e : Env} {s : State} {m : MethodId} {args : Array Value} {below : List Frame} {meth : Method} {c : Code} {b0 : Nat} {G : hG} {S1 : HS} {r : Option Nat} {h : Nat} {S : HS} {l1 : Option Nat} (E : hE p s m args c b0 G cX10_readBox RX10 3 wsX10_readBox) (hrt : meth.sig.returnType = (some (.object "HummingDisc$Box"))) (hlk : meth.locks = false) {cells slots : Nat} (hc : cells + 66 ≤ 76) (hs : slots + 264 ≤ 300) (hh : s_X10_readBox_b53 h S l1 = some (r, S1)) : WH p l e rm_X10_readBox s m args below meth c b0 G 3 cells slots (MQ below (hQ b0 G (some (hrf b0 r)) S1) args s 76 300 (hA b0)) S 53 [(0, hrf b0 ((some h))), (1, hrf b0 l1)] [] := by
  have hh : (s_X10_readBox_L55 h 6 S l1 0) = some (r, S1) := hh
  refine rw_iconst E (v := 0) (by decide) dX10_readBox_53 ?_
  refine rw_istore_n E (i := 2) (lv2 := [(2, .int 0), (0, hrf b0 ((some h))), (1, hrf b0 l1)]) rfl (by decide) (by simp [lvs, lvs2, hrf_cat]) dX10_readBox_54 ?_
  refine WH.pick [1, 2, 0] rfl ?_
  exact w_X10_readBox_L55 E hrt hlk 6 _ _ _ _ _ (by omega) (by omega) hh
def s_X10_readBox_b24 (j24 : HS → Option Nat → Int32 → Option (Option Nat × HS)) (h : Nat) (S : HS) (l1 : Option Nat) (l2 : Int32) : Option (Option Nat × HS) := if 4 < l2 then (s_X10_readBox_b53 h S l1) else (if l2 = 0 then (s_X10_readBox_b42 j24 h S l1 l2) else (kO S ((some h)) 10 (fun a3 => kc (s_X10_stands S a3 0) (fun v2 S1 => if v2 = 0 then (s_X10_readBox_b53 h S1 l1) else (s_X10_readBox_b42 j24 h S1 l1 l2)))))
set_option maxHeartbeats 4000000 in
set_option maxRecDepth 100000 in
theorem w_X10_readBox_b24 {p : Program} {l : Launch} {e : Env} {s : State} {m : MethodId} {args : Array Value} {below : List Frame} {meth : Method} {c : Code} {b0 : Nat} {G : hG} {S1 : HS} {r : Option Nat} {j24 : HS → Option Nat → Int32 → Option (Option Nat × HS)} {h : Nat} {S : HS} {l1 : Option Nat} {l2 : Int32} (E : hE p s m args c b0 G cX10_readBox RX10 3 wsX10_readBox) (hrt : meth.sig.returnType = (some (.object "HummingDisc$Box"))) (hlk : meth.locks = false) {cells slots nc ns : Nat} (hnc : 66 ≤ nc) (hns : 264 ≤ ns) (hc : cells + (1 + nc) ≤ 76) (hs : slots + (3 + ns) ≤ 300) (hj24 : ∀ (S : HS) (l1 : Option Nat) (l2 : Int32) (cells slots : Nat), cells + nc ≤ 76 → slots + ns ≤ 300 → j24 S l1 l2 = some (r, S1) → WH p l e rm_X10_readBox s m args below meth c b0 G 3 cells slots (MQ below (hQ b0 G (some (hrf b0 r)) S1) args s 76 300 (hA b0)) S 24 [(0, hrf b0 ((some h))), (1, hrf b0 l1), (2, .int l2)] []) (hh : s_X10_readBox_b24 j24 h S l1 l2 = some (r, S1)) : WH p l e rm_X10_readBox s m args below meth c b0 G 3 cells slots (MQ below (hQ b0 G (some (hrf b0 r)) S1) args s 76 300 (hA b0)) S 24 [(0, hrf b0 ((some h))), (1, hrf b0 l1), (2, .int l2)] [] := by
  have hh : (if 4 < l2 then (s_X10_readBox_b53 h S l1) else (if l2 = 0 then (s_X10_readBox_b42 j24 h S l1 l2) else (kO S ((some h)) 10 (fun a3 => kc (s_X10_stands S a3 0) (fun v2 S1 => if v2 = 0 then (s_X10_readBox_b53 h S1 l1) else (s_X10_readBox_b42 j24 h S1 l1 l2)))))) = some (r, S1) := hh
  refine rw_iload_n E (j0 := 2) rfl rfl dX10_readBox_24 ?_
  refine rw_iconst E (v := 4) (by decide) dX10_readBox_25 ?_
  refine rw_icmp_gt E hh (tgt := 53) (by decide) dX10_readBox_26 (fun hh => ?_) (fun hh => ?_)
  · refine WH.pick [0, 1] rfl ?_
    exact w_X10_readBox_b53 E hrt hlk (by omega) (by omega) hh
  · refine rw_iload_n E (j0 := 2) rfl rfl dX10_readBox_29 ?_
    refine rw_if_eq E hh (tgt := 42) (by decide) dX10_readBox_30 (fun hh => ?_) (fun hh => ?_)
    · refine WH.pick [0, 1, 2] rfl ?_
      exact w_X10_readBox_b42 E hrt hlk hnc hns (by omega) (by omega) hj24 hh
    · refine rw_aload_n E (j0 := 0) rfl rfl dX10_readBox_33 ?_
      refine rw_ldcS E (i := 0) dX10_readBox_34 (by decide) rfl rfl ?_
      refine rw_cVi E (As := [.ref (G.2.1 0)]) hh (by decide) rfl (fun _ _ _ hq => c_X10_stands l b0 G _ _ _ _ _ hq) (cwV 1 E.2.2.2.2.1 gX10_readBox_X10_stands rfl rfl rfl (by decide +kernel) ⟨Nat.le_of_ble_eq_true rfl, Nat.le_of_ble_eq_true rfl⟩) rfl rfl (by (try simp only [List.map_cons, List.map_nil, List.sum_cons, List.sum_nil, hrf_cat, cat_i, cat_l, cat_r]) <;> decide) ⟨(show _ ≤ 76 by omega), (show _ ≤ 300 by omega)⟩ dX10_readBox_36 (fun v2 S1 hh => ?_)
      refine rw_if_eq E hh (tgt := 53) (by decide) dX10_readBox_39 (fun hh => ?_) (fun hh => ?_)
      · refine WH.pick [0, 1] rfl ?_
        exact w_X10_readBox_b53 E hrt hlk (by omega) (by omega) hh
      · refine WH.pick [0, 1, 2] rfl ?_
        exact w_X10_readBox_b42 E hrt hlk hnc hns (by omega) (by omega) hj24 hh
def s_X10_readBox_L24 (h : Nat) : Nat → HS → Option Nat → Int32 → Option (Option Nat × HS)
  | 0 => fun _ _ _ => none
  | n + 1 => s_X10_readBox_b24 (s_X10_readBox_L24 h n) h
set_option maxHeartbeats 4000000 in
set_option maxRecDepth 100000 in
theorem w_X10_readBox_L24 {p : Program} {l : Launch} {e : Env} {s : State} {m : MethodId} {args : Array Value} {below : List Frame} {meth : Method} {c : Code} {b0 : Nat} {G : hG} {S1 : HS} {r : Option Nat} {h : Nat} (E : hE p s m args c b0 G cX10_readBox RX10 3 wsX10_readBox) (hrt : meth.sig.returnType = (some (.object "HummingDisc$Box"))) (hlk : meth.locks = false) : ∀ (n : Nat) (S : HS) (l1 : Option Nat) (l2 : Int32) (cells slots : Nat), cells + (n * 1 + 66) ≤ 76 → slots + (n * 3 + 264) ≤ 300 → s_X10_readBox_L24 h n S l1 l2 = some (r, S1) → WH p l e rm_X10_readBox s m args below meth c b0 G 3 cells slots (MQ below (hQ b0 G (some (hrf b0 r)) S1) args s 76 300 (hA b0)) S 24 [(0, hrf b0 ((some h))), (1, hrf b0 l1), (2, .int l2)] [] := by
  intro n
  induction n with
  | zero => intro _ _ _ _ _ _ _ hh; exact absurd hh (by simp [s_X10_readBox_L24])
  | succ n ih => intro _ _ _ cells slots hc hs hh; exact w_X10_readBox_b24 E hrt hlk (nc := n * 1 + 66) (ns := n * 3 + 264) (by omega) (by omega) (by omega) (by omega) ih hh
def s_X10_readBox (S : HS) (h : Nat) : Option (Option Nat × HS) := knew S 1 (fun o1 S2 => kO S2 o1 1 (fun a4 => kcv (s_X1_init S2 a4 ) (fun S3 => kwI S3 ((some h)) 10 2 0 (fun S5 => kwI S5 ((some h)) 10 6 0 (fun S6 => kO S6 ((some h)) 10 (fun a8 => kcv (s_X10_nextToken S6 a8 ) (fun S7 => s_X10_readBox_L24 h 6 S7 o1 0)))))))
set_option maxHeartbeats 4000000 in
set_option maxRecDepth 100000 in
theorem c_X10_readBox (l : Launch) (b0 : Nat) (G : hG) (S S1 : HS) (h : Nat) (r : Option Nat) (hh : s_X10_readBox S h  = some (r, S1)) : MH l yX10_readBox wsX10_readBox rm_X10_readBox b0 G S [hrf b0 (some h)] (some (hrf b0 r)) S1 76 300 := by
  refine MH.ofW (cc := cX10_readBox) (maxL := 3) (ret := (some (.object "HummingDisc$Box"))) (own := RX10) (lv0 := [(0, hrf b0 ((some h)))]) (by decide) rfl rfl (Nat.le_of_ble_eq_true rfl) rfl ?_
  intro p e s m args below meth c E hrt hlk hnm
  have hh : (knew S 1 (fun o1 S2 => kO S2 o1 1 (fun a4 => kcv (s_X1_init S2 a4 ) (fun S3 => kwI S3 ((some h)) 10 2 0 (fun S5 => kwI S5 ((some h)) 10 6 0 (fun S6 => kO S6 ((some h)) 10 (fun a8 => kcv (s_X10_nextToken S6 a8 ) (fun S7 => s_X10_readBox_L24 h 6 S7 o1 0)))))))) = some (r, S1) := hh
  have hc : 0 + 76 ≤ 76 := by decide
  have hs : 0 + 300 ≤ 300 := by decide
  refine rw_new E hh (C := RX1) (T := TX1) (N := 6) (ty0 := tyX1) rfl tyX1_ok (by decide) i_X10_readBox_1 (List.mem_of_getElem? (i := 1) (by decide +kernel)) (List.mem_of_getElem? (i := 2) (by decide +kernel)) (List.mem_of_getElem? (i := 3) (by decide +kernel)) rfl hdv_1 (show _ ≤ 76 by omega) (show _ ≤ 300 by omega) dX10_readBox_0 (fun o1 S2 hh => ?_)
  refine rw_dup E (hrf_cat _ _) dX10_readBox_3 ?_
  refine rw_cNv E (As := []) hh (fun _ _ hq => c_X1_init l b0 G _ _ _ hq) (by simp [hNw]) gX10_readBox_X1_init_n21 rfl rfl rfl (List.mem_of_getElem? (i := 3) (by decide +kernel)) (List.mem_of_getElem? (i := 8) (by decide +kernel)) rfl (by decide +kernel) ⟨Nat.le_of_ble_eq_true rfl, Nat.le_of_ble_eq_true rfl⟩ rfl rfl (by (try simp only [List.map_cons, List.map_nil, List.sum_cons, List.sum_nil, hrf_cat, cat_i, cat_l, cat_r]) <;> decide) ⟨(show _ ≤ 76 by omega), (show _ ≤ 300 by omega)⟩ dX10_readBox_4 (fun S3 hh => ?_)
  refine rw_astore_n E (lv2 := [(1, hrf b0 o1), (0, hrf b0 ((some h)))]) rfl (by decide) rfl dX10_readBox_7 ?_
  refine rw_aload_n E (j0 := 1) rfl rfl dX10_readBox_8 ?_
  refine rw_iconst E (v := 0) (by decide) dX10_readBox_9 ?_
  refine rw_putI E hh (C := RX10) (T := TX10) (N := 8) (ty0 := tyX10) rfl tyX10_ok nmX10 (by decide) i_X10_readBox_10 (by decide) rfl (List.mem_of_getElem? (i := 4) (by decide +kernel)) rfl (Or.inl rfl) rfl dX10_readBox_10 (fun S5 hh => ?_)
  refine rw_aload_n E (j0 := 1) rfl rfl dX10_readBox_13 ?_
  refine rw_iconst E (v := 0) (by decide) dX10_readBox_14 ?_
  refine rw_putI E hh (C := RX10) (T := TX10) (N := 8) (ty0 := tyX10) rfl tyX10_ok nmX10 (by decide) i_X10_readBox_10 (by decide) rfl (List.mem_of_getElem? (i := 5) (by decide +kernel)) rfl (Or.inl rfl) rfl dX10_readBox_15 (fun S6 hh => ?_)
  refine rw_aload_n E (j0 := 1) rfl rfl dX10_readBox_18 ?_
  refine rw_cVv E (As := []) hh (by decide) rfl (fun _ _ hq => c_X10_nextToken l b0 G _ _ _ hq) (cwV 0 E.2.2.2.2.1 gX10_readBox_X10_nextToken rfl rfl rfl (by decide +kernel) ⟨Nat.le_of_ble_eq_true rfl, Nat.le_of_ble_eq_true rfl⟩) rfl rfl (by (try simp only [List.map_cons, List.map_nil, List.sum_cons, List.sum_nil, hrf_cat, cat_i, cat_l, cat_r]) <;> decide) ⟨(show _ ≤ 76 by omega), (show _ ≤ 300 by omega)⟩ dX10_readBox_19 (fun S7 hh => ?_)
  refine rw_iconst E (v := 0) (by decide) dX10_readBox_22 ?_
  refine rw_istore_n E (i := 2) (lv2 := [(2, .int 0), (1, hrf b0 o1), (0, hrf b0 ((some h)))]) rfl (by decide) (by simp [lvs, lvs2, hrf_cat]) dX10_readBox_23 ?_
  refine WH.pick [2, 1, 0] rfl ?_
  exact w_X10_readBox_L24 E hrt hlk 6 _ _ _ _ _ (by omega) (by omega) hh
