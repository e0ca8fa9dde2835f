/-! ===== THE TEXTS: String.length, charAt over the eleven constants ===== -/
abbrev rm_J0_coder_7d493 : Room := { frames := 0, cells := 0, slots := 0, locals := 0 }
abbrev rm_J0_isLatin1_aae02 : Room := { frames := 0, cells := 0, slots := 0, locals := 0 }
abbrev rm_J0_length_8abf5 : Room := { frames := 1, cells := 0, slots := 0, locals := 20 }
abbrev rm_J3_checkIndex_8e157 : Room := { frames := 0, cells := 0, slots := 0, locals := 0 }
abbrev rm_J0_checkIndex_df160 : Room := { frames := 1, cells := 0, slots := 0, locals := 22 }
abbrev rm_J1_charAt_3b067 : Room := { frames := 2, cells := 0, slots := 0, locals := 43 }
abbrev rm_J0_charAt_5068e : Room := { frames := 3, cells := 0, slots := 0, locals := 64 }
def hCh (i : Nat) (k : Int32) : Int32 := (hSb.getD i []).getD k.toNatClampNeg 0
def s_J0_length_8abf5 (S : HS) (i : Nat) : Option (Int32 × HS) := if i < 11 then some (nI (hSl.getD i 0), S) else none
def s_J0_charAt_5068e (S : HS) (i : Nat) (k : Int32) : Option (Int32 × HS) := if i < 11 then if k < 0 ∨ hSl.getD i 0 ≤ k.toNatClampNeg then none else some (hCh i k, S) else none
theorem tx_shr : ∀ i, i < 11 → Int32.ofNat (hSl.getD i 0) >>> ((0 : Int32) &&& 31) = nI (hSl.getD i 0) := by decide +kernel
theorem tx_ch : ∀ i, i < 11 → ∀ j, j < hSl.getD i 0 → (((hSb.getD i []).getD j 0 &&& 255).toUInt32 % 65536).toInt32 = (hSb.getD i []).getD j 0 := by decide +kernel
theorem tx_len : ∀ i, i < 11 → hSl.getD i 0 < 2 ^ 31 := by decide +kernel
set_option maxHeartbeats 4000000 in
set_option maxRecDepth 100000 in
theorem c_J0_coder_7d493 (l : Launch) (b0 : Nat) (G : hG) (S : HS) (i : Nat) (hi : i < 11) : MH l yJ0_coder_7d493 wsJ0_coder_7d493 rm_J0_coder_7d493 b0 G S [.ref (G.2.1 i)] (some (.int 0)) S 0 0 := by
  refine MH.ofW (cc := cJ0_coder_7d493) (maxL := 1) (ret := (some .byte)) (own := RJ0) (lv0 := [(0, .ref (G.2.1 i))]) (by decide) rfl rfl (Nat.le_of_ble_eq_true rfl) rfl ?_
  intro p e s m args below meth c E hrt hlk hnm
  refine rw_gets E (fun q => q.2.2.2.1) (List.mem_of_getElem? (i := 1) (by decide +kernel)) dJ0_coder_7d493_0 ?_
  refine rw_if_eq E (t := none) (f := some ()) (res := ()) (by decide) (tgt := 13) (by decide) dJ0_coder_7d493_3 (fun q => by cases q) (fun _ => ?_)
  refine rw_aloadr_n E (j0 := 0) rfl rfl dJ0_coder_7d493_6 ?_
  refine rw_kget E (fun q => (q.2.2.1.1 i hi).2.1) (List.mem_of_getElem? (i := 2) (by decide +kernel)) dJ0_coder_7d493_7 ?_
  refine rw_goto E (tgt := 14) (by decide) dJ0_coder_7d493_10 ?_
  exact rw_tret E hrt rfl hlk (by decide) (by decide) dJ0_coder_7d493_14
set_option maxHeartbeats 4000000 in
set_option maxRecDepth 100000 in
theorem c_J0_isLatin1_aae02 (l : Launch) (b0 : Nat) (G : hG) (S : HS) (i : Nat) (hi : i < 11) : MH l yJ0_isLatin1_aae02 wsJ0_isLatin1_aae02 rm_J0_isLatin1_aae02 b0 G S [.ref (G.2.1 i)] (some (.int 1)) S 0 0 := by
  refine MH.ofW (cc := cJ0_isLatin1_aae02) (maxL := 1) (ret := (some .boolean)) (own := RJ0) (lv0 := [(0, .ref (G.2.1 i))]) (by decide) rfl rfl (Nat.le_of_ble_eq_true rfl) rfl ?_
  intro p e s m args below meth c E hrt hlk hnm
  refine rw_gets E (fun q => q.2.2.2.1) (List.mem_of_getElem? (i := 1) (by decide +kernel)) dJ0_isLatin1_aae02_0 ?_
  refine rw_if_eq E (t := none) (f := some ()) (res := ()) (by decide) (tgt := 17) (by decide) dJ0_isLatin1_aae02_3 (fun q => by cases q) (fun _ => ?_)
  refine rw_aloadr_n E (j0 := 0) rfl rfl dJ0_isLatin1_aae02_6 ?_
  refine rw_kget E (fun q => (q.2.2.1.1 i hi).2.1) (List.mem_of_getElem? (i := 2) (by decide +kernel)) dJ0_isLatin1_aae02_7 ?_
  refine rw_if_ne E (t := none) (f := some ()) (res := ()) (by decide) (tgt := 17) (by decide) dJ0_isLatin1_aae02_10 (fun q => by cases q) (fun _ => ?_)
  refine rw_iconst E (v := 1) (by decide) dJ0_isLatin1_aae02_13 ?_
  refine rw_goto E (tgt := 18) (by decide) dJ0_isLatin1_aae02_14 ?_
  exact rw_tret E hrt rfl hlk (by decide) (by decide) dJ0_isLatin1_aae02_18
set_option maxHeartbeats 4000000 in
set_option maxRecDepth 100000 in
theorem c_J0_length_8abf5 (l : Launch) (b0 : Nat) (G : hG) (S S1 : HS) (i : Nat) (r : Int32) (hh : s_J0_length_8abf5 S i = some (r, S1)) : MH l yJ0_length_8abf5 wsJ0_length_8abf5 rm_J0_length_8abf5 b0 G S [.ref (G.2.1 i)] (some (.int r)) S1 0 0 := by
  unfold s_J0_length_8abf5 at hh
  split at hh
  · next hi =>
    cases hh
    refine MH.ofW (cc := cJ0_length_8abf5) (maxL := 1) (ret := (some .int)) (own := RJ0) (lv0 := [(0, .ref (G.2.1 i))]) (by decide) rfl rfl (Nat.le_of_ble_eq_true rfl) rfl ?_
    intro p e s m args below meth c E hrt hlk hnm
    refine rw_aloadr_n E (j0 := 0) rfl rfl dJ0_length_8abf5_0 ?_
    refine rw_kget E (fun q => (q.2.2.1.1 i hi).2.2.1) (List.mem_of_getElem? (i := 1) (by decide +kernel)) dJ0_length_8abf5_1 ?_
    refine rw_tlen E (fun q => (q.2.2.1.1 i hi).2.2.2) rfl dJ0_length_8abf5_4 ?_
    refine rw_aloadr_n E (j0 := 0) rfl rfl dJ0_length_8abf5_5 ?_
    refine rw_callK E (As := []) (rest := [.int (Int32.ofNat (hSl.getD i 0))]) (c_J0_coder_7d493 l b0 G S i hi) (cwV 0 E.2.2.2.2.1 gJ0_length_8abf5_J0_coder_7d493 rfl rfl rfl (by decide +kernel) ⟨Nat.le_of_ble_eq_true rfl, Nat.le_of_ble_eq_true rfl⟩) hi rfl rfl (Nat.le_of_ble_eq_true rfl) ⟨Nat.le_of_ble_eq_true rfl, Nat.le_of_ble_eq_true rfl⟩ dJ0_length_8abf5_6 ?_
    refine rw_ishr E (x := Int32.ofNat (hSl.getD i 0)) (y := 0) (st := []) dJ0_length_8abf5_9 ?_
    rw [tx_shr i hi]
    exact rw_tret E hrt rfl hlk (by decide) (by decide) dJ0_length_8abf5_10
  · cases hh
set_option maxHeartbeats 4000000 in
set_option maxRecDepth 100000 in
theorem c_J3_checkIndex_8e157 (l : Launch) (b0 : Nat) (G : hG) (S : HS) (k n : Int32) (v : Value) (hv : v.category = 1) (h0 : ¬ k < 0) (h1 : k < n) : MH l yJ3_checkIndex_8e157 wsJ3_checkIndex_8e157 rm_J3_checkIndex_8e157 b0 G S [.int k, .int n, v] (some (.int k)) S 0 0 := by
  refine MH.ofW (cc := cJ3_checkIndex_8e157) (maxL := 3) (ret := (some .int)) (own := RJ3) (lv0 := [(0, .int k), (1, .int n), (2, v)]) (by decide) rfl rfl (by simp [lg_sl, hv, cat_i]) (by simp only [lv_args, hv, cat_i]; rfl) ?_
  intro p e s m args below meth c E hrt hlk hnm
  refine rw_iload_n E (j0 := 0) rfl rfl dJ3_checkIndex_8e157_0 ?_
  refine rw_if_lt E (t := none) (f := some ()) (res := ()) (by rw [if_neg h0]) (tgt := 9) (by decide) dJ3_checkIndex_8e157_1 (fun q => by cases q) (fun _ => ?_)
  refine rw_iload_n E (j0 := 0) rfl rfl dJ3_checkIndex_8e157_4 ?_
  refine rw_iload_n E (j0 := 1) rfl rfl dJ3_checkIndex_8e157_5 ?_
  refine rw_icmp_lt E (t := some ()) (f := none) (res := ()) (by rw [if_pos h1]) (tgt := 16) (by decide) dJ3_checkIndex_8e157_6 (fun _ => ?_) (fun q => by cases q)
  refine rw_iload_n E (j0 := 0) rfl rfl dJ3_checkIndex_8e157_16 ?_
  exact rw_tret E hrt rfl hlk (by decide) (by decide) dJ3_checkIndex_8e157_17
set_option maxHeartbeats 4000000 in
set_option maxRecDepth 100000 in
theorem c_J0_checkIndex_df160 (l : Launch) (b0 : Nat) (G : hG) (S : HS) (k n : Int32) (h0 : ¬ k < 0) (h1 : k < n) : MH l yJ0_checkIndex_df160 wsJ0_checkIndex_df160 rm_J0_checkIndex_df160 b0 G S [.int k, .int n] none S 0 0 := by
  refine MH.ofW (cc := cJ0_checkIndex_df160) (maxL := 2) (ret := none) (own := RJ0) (lv0 := [(0, .int k), (1, .int n)]) (by decide) rfl rfl (Nat.le_of_ble_eq_true rfl) rfl ?_
  intro p e s m args below meth c E hrt hlk hnm
  refine rw_iload_n E (j0 := 0) rfl rfl dJ0_checkIndex_df160_0 ?_
  refine rw_iload_n E (j0 := 1) rfl rfl dJ0_checkIndex_df160_1 ?_
  have go : ∀ v : Value, v.category = 1 → WH p l e rm_J0_checkIndex_df160 s m args below meth c b0 G 2 0 0 (MQ below (hQ b0 G none S) args s 0 0 (hA b0)) S 5 [(0, .int k), (1, .int n)] [v, .int n, .int k] := by
    intro v hv
    refine rw_run (y := yJ3_checkIndex_8e157) (v := some (.int k)) (S1 := S) (mc := 0) (ms := 0) (rest := []) (a := #[.int k, .int n, v]) (fun H locs ls hR0 hS hl => va_runS (As := [.int k, .int n, v]) (rest := []) ⟨E.1, E.2.1, E.2.2.1, E.2.2.2.1, E.2.2.2.2.1⟩ (c_J3_checkIndex_8e157 l b0 G S k n v hv h0 h1) (va_cwS 3 E.2.2.2.2.1 gJ0_checkIndex_df160_J3_checkIndex_8e157 rfl rfl rfl (by decide +kernel) ⟨Nat.le_of_ble_eq_true rfl, Nat.le_of_ble_eq_true rfl⟩) ⟨hB.blind, fun U hU hW2 => ⟨rfl, E.B hR0 hS U hU hW2⟩⟩ rfl rfl hl.1 rfl (lv_room (by decide)) dJ0_checkIndex_df160_5 ⟨Nat.le_of_ble_eq_true rfl, Nat.le_of_ble_eq_true rfl⟩) ?_
    refine rw_pop E (v := .int k) (st := []) rfl dJ0_checkIndex_df160_8 ?_
    exact rw_vret E hrt hlk rfl (by decide) (by decide) dJ0_checkIndex_df160_9
  rcases E.2.2.2.2.2.2.2.2.2.2.1 with hz | ⟨t, hz⟩
  · exact rw_gets E (fun _ => hz) (List.mem_of_getElem? (i := 1) (by decide +kernel)) dJ0_checkIndex_df160_2 (go _ rfl)
  · exact rw_gets E (fun _ => hz) (List.mem_of_getElem? (i := 1) (by decide +kernel)) dJ0_checkIndex_df160_2 (go _ rfl)
set_option maxHeartbeats 4000000 in
set_option maxRecDepth 100000 in
theorem c_J1_charAt_3b067 (l : Launch) (b0 : Nat) (G : hG) (S : HS) (i : Nat) (k : Int32) (hi : i < 11) (h0 : ¬ k < 0) (h1 : k.toNatClampNeg < hSl.getD i 0) : MH l yJ1_charAt_3b067 wsJ1_charAt_3b067 rm_J1_charAt_3b067 b0 G S [.ref (G.2.2 i), .int k] (some (.int (hCh i k))) S 0 0 := by
  refine MH.ofW (cc := cJ1_charAt_3b067) (maxL := 2) (ret := (some .char)) (own := RJ1) (lv0 := [(0, .ref (G.2.2 i)), (1, .int k)]) (by decide) rfl rfl (Nat.le_of_ble_eq_true rfl) rfl ?_
  intro p e s m args below meth c E hrt hlk hnm
  have hk : k < Int32.ofNat (hSl.getD i 0) := by
    have h2 := tx_len i hi
    have h3 := i32_nn h0
    rw [Int32.lt_iff_toInt_lt, h3]
    have h4 := nI_toInt h2
    unfold nI at h4
    omega
  refine rw_iload_n E (j0 := 1) rfl rfl dJ1_charAt_3b067_0 ?_
  refine rw_aloadr_n E (j0 := 0) rfl rfl dJ1_charAt_3b067_1 ?_
  refine rw_tlen E (fun q => (q.2.2.1.1 i hi).2.2.2) rfl dJ1_charAt_3b067_2 ?_
  refine rw_run (y := yJ0_checkIndex_df160) (v := none) (S1 := S) (mc := 0) (ms := 0) (rest := []) (a := #[.int k, .int (Int32.ofNat (hSl.getD i 0))]) (fun H locs ls hR0 hS hl => va_runS (As := [.int k, .int (Int32.ofNat (hSl.getD i 0))]) (rest := []) ⟨E.1, E.2.1, E.2.2.1, E.2.2.2.1, E.2.2.2.2.1⟩ (c_J0_checkIndex_df160 l b0 G S k _ h0 hk) (va_cwS 2 E.2.2.2.2.1 gJ1_charAt_3b067_J0_checkIndex_df160 rfl rfl rfl (by decide +kernel) ⟨Nat.le_of_ble_eq_true rfl, Nat.le_of_ble_eq_true rfl⟩) ⟨hB.blind, fun U hU hW2 => ⟨rfl, E.B hR0 hS U hU hW2⟩⟩ rfl rfl hl.1 rfl (lv_room (by decide)) dJ1_charAt_3b067_3 ⟨Nat.le_of_ble_eq_true rfl, Nat.le_of_ble_eq_true rfl⟩) ?_
  refine rw_aloadr_n E (j0 := 0) (st := []) rfl rfl dJ1_charAt_3b067_6 ?_
  refine rw_iload_n E (j0 := 1) rfl rfl dJ1_charAt_3b067_7 ?_
  refine rw_tb E (fun q => (q.2.2.1.1 i hi).2.2.2) (fun q => q.elim h0 (fun z => Nat.not_le.mpr h1 z)) (v := .int (hCh i k)) rfl dJ1_charAt_3b067_8 ?_
  refine rw_sipush E (v := 255) (by decide) dJ1_charAt_3b067_9 ?_
  refine rw_iand E dJ1_charAt_3b067_12 ?_
  refine rw_i2c E dJ1_charAt_3b067_13 ?_
  have e : ((hCh i k &&& 255).toUInt32 % 65536).toInt32 = hCh i k := tx_ch i hi _ h1
  have hnar : narrow .char (.int ((hCh i k &&& 255).toUInt32 % 65536).toInt32) = .int ((hCh i k &&& 255).toUInt32 % 65536).toInt32 := pk_nc _
  rw [e] at hnar ⊢
  exact rw_tret E hrt hnar hlk (by decide) (by decide) dJ1_charAt_3b067_14
set_option maxHeartbeats 4000000 in
set_option maxRecDepth 100000 in
theorem c_J0_charAt_5068e (l : Launch) (b0 : Nat) (G : hG) (S S1 : HS) (i : Nat) (k r : Int32) (hh : s_J0_charAt_5068e S i k = some (r, S1)) : MH l yJ0_charAt_5068e wsJ0_charAt_5068e rm_J0_charAt_5068e b0 G S [.ref (G.2.1 i), .int k] (some (.int r)) S1 0 0 := by
  unfold s_J0_charAt_5068e at hh
  split at hh
  · next hi =>
    split at hh
    · cases hh
    · next hk =>
      cases hh
      have h0 : ¬ k < 0 := fun q => hk (Or.inl q)
      have h1 : k.toNatClampNeg < hSl.getD i 0 := Nat.not_le.mp fun q => hk (Or.inr q)
      refine MH.ofW (cc := cJ0_charAt_5068e) (maxL := 2) (ret := (some .char)) (own := RJ0) (lv0 := [(0, .ref (G.2.1 i)), (1, .int k)]) (by decide) rfl rfl (Nat.le_of_ble_eq_true rfl) rfl ?_
      intro p e s m args below meth c E hrt hlk hnm
      refine rw_aloadr_n E (j0 := 0) rfl rfl dJ0_charAt_5068e_0 ?_
      refine rw_callK E (As := []) (rest := []) (c_J0_isLatin1_aae02 l b0 G S i hi) (cwV 0 E.2.2.2.2.1 gJ0_charAt_5068e_J0_isLatin1_aae02 rfl rfl rfl (by decide +kernel) ⟨Nat.le_of_ble_eq_true rfl, Nat.le_of_ble_eq_true rfl⟩) hi rfl rfl (by decide) ⟨Nat.le_of_ble_eq_true rfl, Nat.le_of_ble_eq_true rfl⟩ dJ0_charAt_5068e_1 ?_
      refine rw_if_eq E (x := 1) (st := []) (t := none) (f := some ()) (res := ()) (by decide) (tgt := 16) (by decide) dJ0_charAt_5068e_4 (fun q => by cases q) (fun _ => ?_)
      refine rw_aloadr_n E (j0 := 0) rfl rfl dJ0_charAt_5068e_7 ?_
      refine rw_kget E (fun q => (q.2.2.1.1 i hi).2.2.1) (List.mem_of_getElem? (i := 1) (by decide +kernel)) dJ0_charAt_5068e_8 ?_
      refine rw_iload_n E (j0 := 1) rfl rfl dJ0_charAt_5068e_11 ?_
      refine rw_run (y := yJ1_charAt_3b067) (v := some (.int (hCh i k))) (S1 := S) (mc := 0) (ms := 0) (rest := []) (a := #[.ref (G.2.2 i), .int k]) (fun H locs ls hR0 hS hl => va_runS (As := [.ref (G.2.2 i), .int k]) (rest := []) ⟨E.1, E.2.1, E.2.2.1, E.2.2.2.1, E.2.2.2.2.1⟩ (c_J1_charAt_3b067 l b0 G S i k hi h0 h1) (va_cwS 2 E.2.2.2.2.1 gJ0_charAt_5068e_J1_charAt_3b067 rfl rfl rfl (by decide +kernel) ⟨Nat.le_of_ble_eq_true rfl, Nat.le_of_ble_eq_true rfl⟩) ⟨hB.blind, fun U hU hW2 => ⟨rfl, E.B hR0 hS U hU hW2⟩⟩ rfl rfl hl.1 rfl (lv_room (by decide)) dJ0_charAt_5068e_12 ⟨Nat.le_of_ble_eq_true rfl, Nat.le_of_ble_eq_true rfl⟩) ?_
      have e : ((hCh i k &&& 255).toUInt32 % 65536).toInt32 = hCh i k := tx_ch i hi _ h1
      have hnar : narrow .char (.int ((hCh i k &&& 255).toUInt32 % 65536).toInt32) = .int ((hCh i k &&& 255).toUInt32 % 65536).toInt32 := pk_nc _
      rw [e] at hnar
      exact rw_tret E hrt hnar hlk (by decide) (by decide) dJ0_charAt_5068e_15
  · cases hh
