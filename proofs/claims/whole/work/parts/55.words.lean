/-! ===== NAMES: what the class compares, what the reference puts into a number ===== -/
theorem wb_tb (n : Nat) : (lN n).toBitVec = BitVec.ofNat 64 n := rfl
theorem wb_inj {a b : Int64} (h : a.toBitVec = b.toBitVec) : a = b := Int64.toBitVec_inj.mp h
theorem wb_c : ∀ k, k < 64 → ((nI k).toInt64 &&& 63) = lN k := by decide +kernel
theorem wb_sm : ∀ k, k < 64 → (BitVec.ofNat 64 k).smod 64 = BitVec.ofNat 64 k := by decide +kernel
theorem wb_shl (n : Nat) {k : Nat} (hk : k < 64) : lN n <<< ((nI k).toInt64 &&& 63) = lN (n * 2 ^ k) := by
  rw [wb_c k hk]
  apply wb_inj
  rw [Int64.toBitVec_shiftLeft, wb_tb, wb_tb, wb_tb, wb_sm k hk]
  apply BitVec.eq_of_toNat_eq
  rw [BitVec.shiftLeft_eq', BitVec.toNat_shiftLeft, BitVec.toNat_ofNat, BitVec.toNat_ofNat, BitVec.toNat_ofNat, Nat.mod_eq_of_lt (show k < 2 ^ 64 by omega), Nat.shiftLeft_eq, Nat.mul_mod, Nat.mod_mod, ← Nat.mul_mod]
theorem u_tn {n : Nat} (h : n < 2 ^ 64) : (UInt64.ofNat n).toNat = n := Nat.mod_eq_of_lt h
theorem g_or {k p a b : Nat} (hp : 2 ^ k = p) (ha : a < p) (h : b * p + a < 2 ^ 64) : lN (b * p) ||| lN a = lN (b * p + a) := by
  subst hp
  have h1 : b * 2 ^ k ||| a = b * 2 ^ k + a := by rw [← Nat.shiftLeft_eq, Nat.shiftLeft_add_eq_or_of_lt ha]
  have h3 : UInt64.ofNat (b * 2 ^ k) ||| UInt64.ofNat a = UInt64.ofNat (b * 2 ^ k + a) := UInt64.toNat_inj.mp (by rw [UInt64.toNat_or, u_tn (by omega), u_tn (by omega), u_tn h, h1])
  have h2 := congrArg UInt64.toInt64 h3
  exact h2
def enc (a : Nat → Nat) : Nat → Nat
  | 0 => 0
  | n + 1 => enc a n * 256 + a n
theorem enc_lt {a : Nat → Nat} : ∀ n, (∀ j, j < n → a j < 256) → enc a n < 256 ^ n := by
  intro n
  induction n with
  | zero => intro _; exact (by decide : 0 < 256 ^ 0)
  | succ n ih =>
    intro h
    have h1 := ih (fun j hj => h j (by omega))
    have h2 := h n (by omega)
    show enc a n * 256 + a n < 256 ^ (n + 1)
    rw [Nat.pow_succ]
    omega
theorem enc_inj : ∀ (n m : Nat) (a b : Nat → Nat), (∀ j, j < n → 1 ≤ a j ∧ a j < 256) → (∀ j, j < m → 1 ≤ b j ∧ b j < 256) → enc a n = enc b m → n = m ∧ ∀ j, j < n → a j = b j := by
  intro n
  induction n with
  | zero =>
    intro m a b ha hb e
    cases m with
    | zero => exact ⟨rfl, fun j hj => absurd hj (by omega)⟩
    | succ m =>
      have h1 := (hb m (by omega)).1
      have e2 : 0 = enc b m * 256 + b m := e
      omega
  | succ n ih =>
    intro m a b ha hb e
    cases m with
    | zero =>
      have h1 := (ha n (by omega)).1
      have e2 : enc a n * 256 + a n = 0 := e
      omega
    | succ m =>
      have e2 : enc a n * 256 + a n = enc b m * 256 + b m := e
      have h1 := (ha n (by omega)).2
      have h2 := (hb m (by omega)).2
      obtain ⟨i1, i2⟩ := ih m a b (fun j hj => ha j (by omega)) (fun j hj => hb j (by omega)) (by omega)
      subst i1
      refine ⟨rfl, fun j hj => ?_⟩
      by_cases z : j = n
      · subst z; omega
      · exact i2 j (by omega)
def tN : List (List Nat) := [[100, 105, 115, 99], [116, 104, 114, 101, 97, 100], [104, 97, 110, 100], [119, 104, 101, 110], [97, 98, 111, 118, 101], [98, 101, 108, 111, 119], [112, 117, 108, 108], [119, 111, 117, 110, 100], [112, 97, 99, 101], [103, 105, 118, 101], [116, 105, 99, 107]]
def tn (w j : Nat) : Nat := (tN.getD w []).getD j 0
def tl (w : Nat) : Nat := hSl.getD w 0
def wvN : List Nat := [1684632419, 127991944667492, 1751215716, 2003330414, 418263299685, 422608400247, 1886743660, 512971075172, 1885430629, 1734964837, 1953063787]
def wv (w : Nat) : Int64 := lN (wvN.getD w 0)
theorem tn_ch : ∀ w, w < 11 → ∀ j, j < tl w → hCh w (nI j) = nI (tn w j) := by decide +kernel
theorem tn_rg : ∀ w, w < 11 → ∀ j, j < tl w → 1 ≤ tn w j ∧ tn w j < 256 := by decide +kernel
theorem tl_rg : ∀ w, w < 11 → 1 ≤ tl w ∧ tl w ≤ 6 := by decide +kernel
theorem wv_enc : ∀ w, w < 11 → wvN.getD w 0 = enc (tn w) (tl w) := by decide +kernel
theorem wv_ne : ∀ w, w < 11 → ¬ (0 : Int64) = wv w := by decide +kernel
theorem kK_lt {α : Type} {w : Nat} (hw : w < 11) (o : Option α) : kK w o = o := if_pos hw
theorem s_len (S : HS) {w : Nat} (hw : w < 11) : s_J0_length_8abf5 S w = some (nI (tl w), S) := if_pos hw
theorem s_char (S : HS) {w j : Nat} (hw : w < 11) (hj : j < tl w) : s_J0_charAt_5068e S w (nI j) = some (nI (tn w j), S) := by
  have h6 := (tl_rg w hw).2
  unfold s_J0_charAt_5068e
  rw [if_pos hw, if_neg (ix_ok (i := nI j) (k := j) (n := hSl.getD w 0) rfl hj (by show tl w < _; omega)), tn_ch w hw j hj]
section L2WD
variable {N : Nat} {B : Nat → Nat}
theorem c_st {S : HS} {w f : Nat} (hw : w < 11) (h : BC S N B) (f5 : hI S 2 5 = nI f) (hf : f + tl w ≤ N) : ∀ (m F k : Nat), k + m = tl w → m < F → ((∀ j, k ≤ j → j < tl w → cb (B (f + j)) = nI (tn w j)) ∧ s_X10_stands_L35 2 F S w (nI k) = some (1, S)) ∨ (¬ (∀ j, k ≤ j → j < tl w → cb (B (f + j)) = nI (tn w j)) ∧ s_X10_stands_L35 2 F S w (nI k) = some (0, S)) := by
  have h6 := (tl_rg w hw).2
  have hN := h.2.2.1
  intro m
  induction m with
  | zero =>
    intro F k hk hF
    obtain ⟨F, rfl⟩ : ∃ z, F = z + 1 := ⟨F - 1, by omega⟩
    refine Or.inl ⟨fun j h1 h2 => by omega, ?_⟩
    show s_X10_stands_b35 _ 2 S w (nI k) = _
    unfold s_X10_stands_b35
    rw [kK_lt hw, s_len S hw, kc_some, if_pos ((nI_le_iff (by omega) (by omega)).mpr (by omega)), kzr_1]
  | succ m ih =>
    intro F k hk hF
    obtain ⟨F, rfl⟩ : ∃ z, F = z + 1 := ⟨F - 1, by omega⟩
    obtain ⟨b1, b2⟩ := h.2.2.2 (f + k) (by omega)
    have e : s_X10_stands_L35 2 (F + 1) S w (nI k) = (if cb (B (f + k)) = nI (tn w k) then s_X10_stands_L35 2 F S w (nI (k + 1)) else some (0, S)) := by
      show s_X10_stands_b35 _ 2 S w (nI k) = _
      unfold s_X10_stands_b35
      rw [kK_lt hw, s_len S hw, kc_some, if_neg (fun z => by have := (nI_le_iff (by omega) (by omega)).mp z; omega), kP_c2_0 h.1, kI_c2 h.1, f5, nI_add, kA_c3 h.1 rfl (by omega), b2, kK_lt hw, s_char S hw (by omega), kc_some, kzr_0, nI_1]
    rw [e]
    by_cases c : cb (B (f + k)) = nI (tn w k)
    · rw [if_pos c]
      rcases ih F (k + 1) (by omega) (by omega) with ⟨i1, i2⟩ | ⟨i1, i2⟩
      · refine Or.inl ⟨fun j h1 h2 => ?_, i2⟩
        by_cases z : j = k
        · subst z; exact c
        · exact i1 j (by omega) h2
      · exact Or.inr ⟨fun z => i1 (fun j h1 h2 => z j (by omega) h2), i2⟩
    · rw [if_neg c]
      exact Or.inr ⟨fun z => c (z k (Nat.le_refl _) (by omega)), rfl⟩
theorem m_word_loop {T : HS} {f p : Nat} (h : BM T N B) (h14 : hI T 33 14 = nI f) (h15 : hI T 33 15 = nI p) (h13 : hI T 33 13 = 2) (hfp : f ≤ p) (hp : p ≤ N) (h8 : p - f < 8) : ∀ (m F i : Nat), i + m = p - f → m < F → s_X12_word_L7 33 F T (lN (enc (fun j => B (f + j)) i)) (nI (f + i)) = s_X12_word_b56 33 T (lN (enc (fun j => B (f + j)) (p - f))) := by
  have hN := h.2.2.1
  intro m
  induction m with
  | zero =>
    intro F i hi hF
    obtain ⟨F, rfl⟩ : ∃ z, F = z + 1 := ⟨F - 1, by omega⟩
    have ei : i = p - f := by omega
    subst ei
    show s_X12_word_b7 _ 33 T _ (nI (f + (p - f))) = _
    unfold s_X12_word_b7
    rw [kI_m h.1, h15, if_pos ((nI_le_iff (by omega) (by omega)).mpr (by omega))]
  | succ m ih =>
    intro F i hi hF
    obtain ⟨F, rfl⟩ : ∃ z, F = z + 1 := ⟨F - 1, by omega⟩
    obtain ⟨b1, b2⟩ := h.2.2.2 (f + i) (by omega)
    have hl : enc (fun j => B (f + j)) i < 256 ^ i := enc_lt i (fun j hj => (h.2.2.2 (f + j) (by omega)).1)
    have hl2 : enc (fun j => B (f + j)) i < 256 ^ 6 := Nat.lt_of_lt_of_le hl (Nat.pow_le_pow_right (by decide) (by omega))
    have e8 : (lN (enc (fun j => B (f + j)) i) <<< ((8 : Int32).toInt64 &&& 63)) ||| (nI (B (f + i))).toInt64 = lN (enc (fun j => B (f + j)) (i + 1)) := by
      have s1 : lN (enc (fun j => B (f + j)) i) <<< ((8 : Int32).toInt64 &&& 63) = lN (enc (fun j => B (f + j)) i * 2 ^ 8) := wb_shl _ (k := 8) (by decide)
      rw [s1, nI_l (by omega)]
      exact g_or (k := 8) (p := 2 ^ 8) rfl (by omega) (by omega)
    show s_X12_word_b7 _ 33 T _ (nI (f + i)) = _
    unfold s_X12_word_b7
    rw [kI_m h.1, h15, if_neg (fun z => by have := (nI_le_iff (by omega) (by omega)).mp z; omega), kI_m h.1, h13, if_pos rfl, kI_m h.1, h15, kI_m h.1, h14, nI_sub hfp, if_neg (show ¬ (8 : Int32) ≤ nI (p - f) from fun z => by have := (nI_le_iff (a := 8) (by omega) (by omega)).mp z; omega), kP_m8 h.1, kA_m39 h.1 rfl (by omega), b2, e8, nI_1]
    exact ih F (i + 1) (by omega) (by omega)
/-- what both have read so far -/
def RD (S T : HS) (N : Nat) (B : Nat → Nat) : Prop := BC S N B ∧ BM T N B ∧ TKR S T N B ∧ ∃ φ : Nat, φ ≤ 3 ∧ hI S 2 2 = nI φ ∧ hI T 33 17 = nI φ ∧ (φ ≠ 0 → hI S 2 3 = hI T 33 18)
theorem RD.f0 {S T : HS} (h : RD S T N B) : (hI S 2 2 = 0 ∧ hI T 33 17 = 0) ∨ (¬ hI S 2 2 = 0 ∧ ¬ hI T 33 17 = 0 ∧ ¬ hI T 33 17 ≤ 0) := by
  obtain ⟨-, -, -, φ, h1, h2, h3, -⟩ := h
  rw [h2, h3]
  by_cases c : φ = 0
  · subst c
    exact Or.inl ⟨rfl, rfl⟩
  · exact Or.inr ⟨nI_ne0 (by omega) (by omega), nI_ne0 (by omega) (by omega), fun z => by have := (nI_le_iff (b := 0) (by omega) (by omega)).mp z; omega⟩
theorem r_word {S T : HS} (h : RD S T N B) : ∃ V, s_X12_word T 33 = some (V, T) ∧ ∀ w, w < 11 → s_X10_stands S 2 w = some ((if V = wv w then 1 else 0), S) ∧ (V = wv w → hI S 2 2 = 0 ∧ hI S 2 4 = 1 ∧ hI T 33 17 = 0) := by
  have hC := h.1.1
  have hM := h.2.1.1
  have hN := h.1.2.2.1
  obtain ⟨f, f1, f5, f14, hk⟩ := h.2.2.1
  -- no such one: the number is 0
  have none_ : (∀ w, w < 11 → s_X10_stands S 2 w = some (0, S)) → s_X12_word T 33 = some (0, T) → ∃ V, s_X12_word T 33 = some (V, T) ∧ ∀ w, w < 11 → s_X10_stands S 2 w = some ((if V = wv w then 1 else 0), S) ∧ (V = wv w → hI S 2 2 = 0 ∧ hI S 2 4 = 1 ∧ hI T 33 17 = 0) := by
    intro a b
    refine ⟨0, b, fun w hw => ?_⟩
    rw [if_neg (wv_ne w hw)]
    exact ⟨a w hw, fun z => absurd z (wv_ne w hw)⟩
  have b56 : ∀ v : Int64, s_X12_word_b56 33 T v = some ((if hI T 33 17 = 0 then v else 0), T) := by
    intro v
    unfold s_X12_word_b56
    rw [kI_m hM]
    by_cases z : hI T 33 17 = 0
    · rw [if_pos z, if_pos z]
    · rw [if_neg z, if_neg z]
  have b560 : s_X12_word_b56 33 T 0 = some (0, T) := by
    rw [b56]
    split <;> rfl
  have w0 : s_X12_word T 33 = s_X12_word_b7 (s_X12_word_L7 33 99999) 33 T 0 (nI f) := by
    unfold s_X12_word
    rw [kI_m hM, f14]
    rfl
  have notName : ¬ hI S 2 4 = 1 → ¬ hI T 33 13 = 2 → ∃ V, s_X12_word T 33 = some (V, T) ∧ ∀ w, w < 11 → s_X10_stands S 2 w = some ((if V = wv w then 1 else 0), S) ∧ (V = wv w → hI S 2 2 = 0 ∧ hI S 2 4 = 1 ∧ hI T 33 17 = 0) := by
    intro n1 n2
    refine none_ (fun w hw => ?_) ?_
    · unfold s_X10_stands
      rw [kI_c2 hC, kI_c2 hC, if_neg n1, kzr_0]
      split <;> rfl
    · rw [w0]
      unfold s_X12_word_b7
      rw [kI_m hM, kI_m hM, if_neg n2, b560]
      split <;> rfl
  rcases hk with ⟨k1, k2⟩ | ⟨p, p1, p6, p12, p15, hk⟩
  · exact notName (by rw [k1]; decide) (by rw [k2]; decide)
  · rcases hk with ⟨k1, k2⟩ | ⟨k1, k2, k3, k4⟩ | ⟨k1, k2, -⟩ | ⟨k1, k2⟩
    · exact notName (by rw [k1]; decide) (by rw [k2]; decide)
    · -- a NAME
      by_cases h8 : 8 ≤ p - f
      · refine none_ (fun w hw => ?_) ?_
        · have h6 := (tl_rg w hw).2
          unfold s_X10_stands
          rw [kI_c2 hC, kI_c2 hC, k1, if_pos rfl, kI_c2 hC, p6, kI_c2 hC, f5, kK_lt hw, s_len S hw, kc_some, nI_sub (by omega), if_neg (show ¬ nI (p - f) = nI (tl w) from fun z => by have := (nI_eqI (by omega) (by omega)).mp z; omega), kzr_0]
          all_goals (split <;> rfl)
        · rw [w0]
          unfold s_X12_word_b7
          rw [kI_m hM, p15, if_neg (fun z => by have := (nI_le_iff (by omega) (by omega)).mp z; omega), kI_m hM, k2, if_pos rfl, kI_m hM, p15, kI_m hM, f14, nI_sub (by omega), if_pos (show (8 : Int32) ≤ nI (p - f) from (nI_le_iff (a := 8) (by omega) (by omega)).mpr h8), b560]
      · have wl := m_word_loop h.2.1 f14 p15 k2 (by omega) p1 (by omega) (p - f) 100000 0 (by omega) (by omega)
        have wv0 : s_X12_word T 33 = s_X12_word_b56 33 T (lN (enc (fun j => B (f + j)) (p - f))) := by
          unfold s_X12_word
          rw [kI_m hM, f14]
          exact wl
        refine ⟨_, wv0.trans (b56 _), fun w hw => ?_⟩
        have h6 := tl_rg w hw
        have hne : ¬ (if hI T 33 17 = 0 then lN (enc (fun j => B (f + j)) (p - f)) else 0) = wv w ∨ hI T 33 17 = 0 := by
          by_cases z : hI T 33 17 = 0
          · exact Or.inr z
          · rw [if_neg z]; exact Or.inl (wv_ne w hw)
        have iff1 : lN (enc (fun j => B (f + j)) (p - f)) = wv w ↔ (p - f = tl w ∧ ∀ j, j < tl w → cb (B (f + j)) = nI (tn w j)) := by
          have l1 : enc (fun j => B (f + j)) (p - f) < 2 ^ 63 := Nat.lt_of_lt_of_le (enc_lt (p - f) (fun j hj => (h.1.2.2.2 (f + j) (by omega)).1)) (Nat.le_trans (Nat.pow_le_pow_right (by decide) (show p - f ≤ 7 by omega)) (by decide))
          have l2 : enc (tn w) (tl w) < 2 ^ 63 := Nat.lt_of_lt_of_le (enc_lt (tl w) (fun j hj => (tn_rg w hw j hj).2)) (Nat.le_trans (Nat.pow_le_pow_right (by decide) h6.2) (by decide))
          have cbe : ∀ j, j < p - f → cb (B (f + j)) = nI (B (f + j)) := fun j hj => cbNL _ (h.1.2.2.2 (f + j) (by omega)).1 (k4 (f + j) (by omega) (by omega))
          unfold wv
          rw [wv_enc w hw, pk_lEQ l1 l2]
          constructor
          · intro e
            obtain ⟨i1, i2⟩ := enc_inj (p - f) (tl w) (fun j => B (f + j)) (tn w) (fun j hj => ⟨(bLS _ (h.1.2.2.2 (f + j) (by omega)).1 (k4 (f + j) (by omega) (by omega))).2.2.2, (h.1.2.2.2 (f + j) (by omega)).1⟩) (tn_rg w hw) e
            refine ⟨i1, fun j hj => ?_⟩
            have e3 : B (f + j) = tn w j := i2 j (by omega)
            rw [cbe j (by omega), e3]
          · rintro ⟨e, e2⟩
            have : ∀ n, n ≤ tl w → enc (fun j => B (f + j)) n = enc (tn w) n := by
              intro n
              induction n with
              | zero => intro _; rfl
              | succ n ih =>
                intro hn
                have e4 := e2 n (by omega)
                rw [cbe n (by omega)] at e4
                have e5 : B (f + n) = tn w n := (nI_eqI (by have := (h.1.2.2.2 (f + n) (by omega)).1; omega) (by have := (tn_rg w hw n (by omega)).2; omega)).mp e4
                show enc (fun j => B (f + j)) n * 256 + B (f + n) = enc (tn w) n * 256 + tn w n
                rw [ih (by omega), e5]
            rw [e]
            exact this (tl w) (Nat.le_refl _)
        have st : s_X10_stands S 2 w = some ((if hI S 2 2 = 0 ∧ (p - f = tl w ∧ ∀ j, j < tl w → cb (B (f + j)) = nI (tn w j)) then 1 else 0), S) := by
          unfold s_X10_stands
          rw [kI_c2 hC, kI_c2 hC, k1, if_pos rfl, kI_c2 hC, p6, kI_c2 hC, f5, kK_lt hw, s_len S hw, kc_some, nI_sub (by omega), kzr_0]
          by_cases z0 : hI S 2 2 = 0
          · rw [if_pos z0]
            by_cases z1 : p - f = tl w
            · rw [if_pos (congrArg nI z1)]
              rcases c_st hw h.1 f5 (by omega) (tl w) 100000 0 (by omega) (by omega) with ⟨i1, i2⟩ | ⟨i1, i2⟩
              · rw [if_pos ⟨z0, z1, fun j hj => i1 j (Nat.zero_le _) hj⟩]
                exact i2
              · rw [if_neg (fun q => i1 (fun j _ hj => q.2.2 j hj))]
                exact i2
            · rw [if_neg (fun q => z1 ((nI_eqI (by omega) (by omega)).mp q)), if_neg (fun q => z1 q.2.1)]
          · rw [if_neg z0, if_neg (fun q => z0 q.1)]
        rw [st]
        rcases h.f0 with ⟨a1, a2⟩ | ⟨a1, a2, -⟩
        · rw [if_pos a2]
          refine ⟨?_, fun _ => ⟨a1, k1, a2⟩⟩
          by_cases z : lN (enc (fun j => B (f + j)) (p - f)) = wv w
          · rw [if_pos ⟨a1, iff1.mp z⟩, if_pos z]
          · rw [if_neg (fun q => z (iff1.mpr q.2)), if_neg z]
        · rw [if_neg a2, if_neg (fun q => a1 q.1), if_neg (wv_ne w hw)]
          exact ⟨rfl, fun z => absurd z (wv_ne w hw)⟩
    · exact notName (by rw [k1]; decide) (by rw [k2]; decide)
    · exact notName (by rw [k1]; decide) (by rw [k2]; decide)
end L2WD
