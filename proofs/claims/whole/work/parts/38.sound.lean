/-! ===== tones; sound; wobble; shorter ===== -/
theorem nI_eqI {a b : Nat} (ha : a < 2 ^ 31) (hb : b < 2 ^ 31) : nI a = nI b ↔ a = b := by rw [i32_eq, nI_toInt ha, nI_toInt hb]; omega
section L2U
variable {S : HS}
theorem within_loop (h : LC S) {r I N : Nat} {mo : Int32} (hr : r < 8) (hIN : I + N ≤ 40) : ∀ (m F k : Nat), m < F → k + m = N → ((∀ x, k ≤ x → x < N → 0 ≤ (hI S (14 + 2 * r) (I + x)).toInt ∧ (hI S (14 + 2 * r) (I + x)).toInt ≤ mo.toInt) ∧ s_X6_areWithin_L14 (13 + 2 * r) F S (nI I) (nI N) mo (nI (I + k)) = some (1, S)) ∨ ((∃ x, k ≤ x ∧ x < N ∧ ¬ (0 ≤ (hI S (14 + 2 * r) (I + x)).toInt ∧ (hI S (14 + 2 * r) (I + x)).toInt ≤ mo.toInt)) ∧ s_X6_areWithin_L14 (13 + 2 * r) F S (nI I) (nI N) mo (nI (I + k)) = some (0, S)) := by
  intro m
  induction m with
  | zero =>
    intro F k hF hk
    obtain ⟨F, rfl⟩ : ∃ z, F = z + 1 := ⟨F - 1, by omega⟩
    refine Or.inl ⟨fun x hx hx2 => by omega, ?_⟩
    show s_X6_areWithin_b14 _ (13 + 2 * r) S (nI I) (nI N) mo (nI (I + k)) = _
    unfold s_X6_areWithin_b14
    rw [nI_add, if_pos ((nI_le_iff (by omega) (by omega)).mpr (by omega)), kzr_1]
  | succ m ih =>
    intro F k hF hk
    obtain ⟨F, rfl⟩ : ∃ z, F = z + 1 := ⟨F - 1, by omega⟩
    have e : s_X6_areWithin_L14 (13 + 2 * r) (F + 1) S (nI I) (nI N) mo (nI (I + k)) = (if hI S (14 + 2 * r) (I + k) < 0 then kzr 0 S else if hI S (14 + 2 * r) (I + k) ≤ mo then s_X6_areWithin_L14 (13 + 2 * r) F S (nI I) (nI N) mo (nI (I + (k + 1))) else kzr 0 S) := by
      show s_X6_areWithin_b14 _ (13 + 2 * r) S (nI I) (nI N) mo (nI (I + k)) = _
      unfold s_X6_areWithin_b14
      rw [nI_add, if_neg (fun z => by have := (nI_le_iff (by omega) (by omega)).mp z; omega), kP_row0 h hr, kA_items h hr (k := I + k) rfl (by omega), kP_row0 h hr, kA_items h hr (k := I + k) rfl (by omega), nI_1]
      rfl
    rw [e]
    by_cases c1 : hI S (14 + 2 * r) (I + k) < 0
    · have := i32_lt.mp c1
      rw [i32_0] at this
      rw [if_pos c1, kzr_0]
      exact Or.inr ⟨⟨k, Nat.le_refl _, by omega, by omega⟩, rfl⟩
    · have d1 : ¬ _ := fun z => c1 (i32_lt.mpr z)
      rw [i32_0] at d1
      rw [if_neg c1]
      by_cases c2 : hI S (14 + 2 * r) (I + k) ≤ mo
      · have d2 := i32_le.mp c2
        rw [if_pos c2]
        rcases ih F (k + 1) (by omega) (by omega) with ⟨i1, i2⟩ | ⟨⟨x, x1, x2, x3⟩, i2⟩
        · refine Or.inl ⟨?_, i2⟩
          intro x hx hx2
          by_cases y : x = k
          · subst y
            omega
          · exact i1 x (by omega) hx2
        · exact Or.inr ⟨⟨x, by omega, x2, x3⟩, i2⟩
      · have d2 : ¬ _ := fun z => c2 (i32_le.mpr z)
        rw [if_neg c2, kzr_0]
        exact Or.inr ⟨⟨k, Nat.le_refl _, by omega, by omega⟩, rfl⟩
/-- all n of them stand between 0 and mo -/
def WI (S : HS) (r I N : Nat) (mo : Int) : Prop := ∀ x, x < N → 0 ≤ (hI S (14 + 2 * r) (I + x)).toInt ∧ (hI S (14 + 2 * r) (I + x)).toInt ≤ mo
theorem c_within (h : LC S) {r I N : Nat} {i n mo : Int32} (hr : r < 8) (hi : i = nI I) (hn : n = nI N) (hIN : I + N ≤ 40) (hs : (I : Int) + N ≤ (hI S (13 + 2 * r) 3).toInt) : (WI S r I N mo.toInt ∧ s_X6_areWithin S (13 + 2 * r) i n mo = some (1, S)) ∨ (¬ WI S r I N mo.toInt ∧ s_X6_areWithin S (13 + 2 * r) i n mo = some (0, S)) := by
  have ii : i.toInt = (I : Int) := by rw [hi]; exact nI_toInt (by omega)
  have i_n : n.toInt = (N : Int) := by rw [hn]; exact nI_toInt (by omega)
  have e : s_X6_areWithin S (13 + 2 * r) i n mo = s_X6_areWithin_L14 (13 + 2 * r) 100000 S (nI I) (nI N) mo (nI (I + 0)) := by
    unfold s_X6_areWithin
    have hc : 0 ≤ i.toInt ∧ 0 ≤ n.toInt ∧ i.toInt + n.toInt ≤ (hI S (13 + 2 * r) 3).toInt := by omega
    rw [kO_row h hr, c_holds h hr, kc_some, if_pos hc, if_neg (by decide), hi, hn]
    rfl
  rw [e]
  rcases within_loop h (I := I) (N := N) (mo := mo) hr hIN N 100000 0 (by omega) (by omega) with ⟨i1, i2⟩ | ⟨⟨x, x1, x2, x3⟩, i2⟩
  · exact Or.inl ⟨fun x hx => i1 x (by omega) hx, i2⟩
  · exact Or.inr ⟨fun z => x3 (z x x2), i2⟩
theorem noT_loop (h : LM S) {r I N : Nat} {l1 l2 l3 : Int32} (h1 : l1 = nI r) (h2 : l2 = nI I) (h3 : l3 = nI N) (hr : r < 8) (hIN : I + N ≤ 40) : ∀ (m F k : Nat), m < F → k + m = N → s_X12_noTones_L39 33 F S l1 l2 l3 0 (nI k) = some (-1, S) := by
  intro m
  induction m with
  | zero =>
    intro F k hF hk
    obtain ⟨F, rfl⟩ : ∃ z, F = z + 1 := ⟨F - 1, by omega⟩
    show s_X12_noTones_b39 _ 33 S l1 l2 l3 0 (nI k) = _
    unfold s_X12_noTones_b39
    rw [h3, if_pos ((nI_le_iff (by omega) (by omega)).mpr (by omega)), if_pos rfl]
  | succ m ih =>
    intro F k hF hk
    obtain ⟨F, rfl⟩ : ∃ z, F = z + 1 := ⟨F - 1, by omega⟩
    show s_X12_noTones_b39 _ 33 S l1 l2 l3 0 (nI k) = _
    unfold s_X12_noTones_b39 s_X12_noTones_b79 s_X12_noTones_b80
    rw [if_neg (fun z => by rw [h3] at z; have := (nI_le_iff (by omega) (by omega)).mp z; omega), if_pos rfl, nI_1]
    exact ih F (k + 1) (by omega) (by omega)
theorem noT_loop1 (h : LM S) {r I N : Nat} {l1 l2 l3 : Int32} (h1 : l1 = nI r) (h2 : l2 = nI I) (h3 : l3 = nI N) (hr : r < 8) (hIN : I + N ≤ 40) (hit : ∀ j, j < 40 → hI S 36 (40 * r + j) = hI S (14 + 2 * r) j) : ∀ (m F k : Nat), m < F → k + m = N → ((∀ x, k ≤ x → x < N → 0 ≤ (hI S (14 + 2 * r) (I + x)).toInt ∧ (hI S (14 + 2 * r) (I + x)).toInt ≤ 32767) ∧ s_X12_noTones_L39 33 F S l1 l2 l3 1 (nI k) = some (0, S)) ∨ ((∃ x, k ≤ x ∧ x < N ∧ ¬ (0 ≤ (hI S (14 + 2 * r) (I + x)).toInt ∧ (hI S (14 + 2 * r) (I + x)).toInt ≤ 32767)) ∧ s_X12_noTones_L39 33 F S l1 l2 l3 1 (nI k) = some (-1, S)) := by
  intro m
  induction m with
  | zero =>
    intro F k hF hk
    obtain ⟨F, rfl⟩ : ∃ z, F = z + 1 := ⟨F - 1, by omega⟩
    refine Or.inl ⟨fun x hx hx2 => by omega, ?_⟩
    show s_X12_noTones_b39 _ 33 S l1 l2 l3 1 (nI k) = _
    unfold s_X12_noTones_b39
    rw [h3, if_pos ((nI_le_iff (by omega) (by omega)).mpr (by omega)), if_neg (by decide)]
  | succ m ih =>
    intro F k hF hk
    obtain ⟨F, rfl⟩ : ∃ z, F = z + 1 := ⟨F - 1, by omega⟩
    have e36 : 40 * l1 + l2 + nI k = nI (40 * r + (I + k)) := by rw [n40 h1 h2, nI_add, Nat.add_assoc]
    have e : s_X12_noTones_L39 33 (F + 1) S l1 l2 l3 1 (nI k) = (if 0 ≤ (hI S (14 + 2 * r) (I + k)).toInt ∧ (hI S (14 + 2 * r) (I + k)).toInt ≤ 32767 then s_X12_noTones_L39 33 F S l1 l2 l3 1 (nI (k + 1)) else s_X12_noTones_L39 33 F S l1 l2 l3 0 (nI (k + 1))) := by
      show s_X12_noTones_b39 _ 33 S l1 l2 l3 1 (nI k) = _
      unfold s_X12_noTones_b39 s_X12_noTones_b79 s_X12_noTones_b80
      rw [if_neg (fun z => by rw [h3] at z; have := (nI_le_iff (by omega) (by omega)).mp z; omega), if_neg (by decide), kP_m4 h, kA_m36 h e36 (by omega), hit (I + k) (by omega), m_inI _ (a := 0) (b := 32767) rfl rfl, kc_some, nI_1]
      by_cases c : 0 ≤ (hI S (14 + 2 * r) (I + k)).toInt ∧ (hI S (14 + 2 * r) (I + k)).toInt ≤ 32767
      · rw [if_pos c, if_pos c, if_neg (by decide)]
      · rw [if_neg c, if_neg c, if_pos rfl]
    rw [e]
    by_cases c : 0 ≤ (hI S (14 + 2 * r) (I + k)).toInt ∧ (hI S (14 + 2 * r) (I + k)).toInt ≤ 32767
    · rw [if_pos c]
      rcases ih F (k + 1) (by omega) (by omega) with ⟨i1, i2⟩ | ⟨⟨x, x1, x2, x3⟩, i2⟩
      · refine Or.inl ⟨?_, i2⟩
        intro x hx hx2
        by_cases y : x = k
        · subst y
          exact c
        · exact i1 x (by omega) hx2
      · exact Or.inr ⟨⟨x, by omega, x2, x3⟩, i2⟩
    · rw [if_neg c]
      exact Or.inr ⟨⟨k, Nat.le_refl _, by omega, c⟩, noT_loop h h1 h2 h3 hr hIN m F (k + 1) (by omega) (by omega)⟩
end L2U
theorem m_noTones {S T : HS} (h : LM T) {r N : Nat} {l1 l2 l3 : Int32} (h1 : l1 = nI r) (h3 : l3 = nI N) (hr : r < 8) (hN1 : 1 ≤ N) (hN2 : N ≤ 40) (hs : RS S r) (e34 : hI T 34 = hI S 34) (e35 : hI T 35 = hI S 35) (e36 : hI T 36 = hI S 36) (eit : hI T (14 + 2 * r) = hI S (14 + 2 * r)) :
    (hI S (13 + 2 * r) 1 = 0 ∧ s_X12_noTones T 33 l1 l2 l3 = some (1, T)) ∨ (hI S (13 + 2 * r) 1 = 1 ∧ ¬ (0 ≤ l2.toInt ∧ l2.toInt + l3.toInt ≤ (hI S (13 + 2 * r) 3).toInt) ∧ s_X12_noTones T 33 l1 l2 l3 = some (2, T)) ∨ (∃ I : Nat, hI S (13 + 2 * r) 1 = 1 ∧ l2 = nI I ∧ I + N ≤ 40 ∧ (I : Int) + N ≤ (hI S (13 + 2 * r) 3).toInt ∧ ((WI S r I N 32767 ∧ s_X12_noTones T 33 l1 l2 l3 = some (0, T)) ∨ (¬ WI S r I N 32767 ∧ s_X12_noTones T 33 l1 l2 l3 = some (-1, T)))) := by
  obtain ⟨sz1, n, sz2, sz3⟩ := hs.sz
  have szi : (hI S (13 + 2 * r) 3).toInt = (n : Int) := by rw [sz2]; exact nI_toInt (by omega)
  have i3 : l3.toInt = (N : Int) := by rw [h3]; exact nI_toInt (by omega)
  unfold s_X12_noTones
  rw [kP_m2 h, kA_m34 h h1 hr, e34]
  rcases hs.two with ⟨a1, a2⟩ | ⟨a1, a2, q, a3, a4⟩
  · rw [a2, if_neg (by decide)]
    exact Or.inl ⟨a1, rfl⟩
  · have nn : (0 : Int32) ≤ hI S 34 r := by rw [a2, a3]; exact z_le (by omega)
    rw [if_pos nn]
    by_cases c1 : l2 < 0
    · have := i32_lt.mp c1
      rw [i32_0] at this
      rw [if_pos c1]
      exact Or.inr (Or.inl ⟨a1, by omega, rfl⟩)
    · have d1 : ¬ _ := fun z => c1 (i32_lt.mpr z)
      rw [i32_0] at d1
      rw [if_neg c1, kP_m3 h, kA_m35 h h1 hr, e35, sz1]
      by_cases c2 : l2.toInt64 + l3.toInt64 ≤ (hI S (13 + 2 * r) 3).toInt64
      · have d2 := i64_le.mp c2
        rw [i64_add32, i64_of32] at d2
        rw [if_pos c2]
        obtain ⟨I, hI1, -, hI3⟩ := I_N (n := l2) (a := 0) (b := 40) (by omega) (by omega) (by decide)
        have i2 : l2.toInt = (I : Int) := by rw [hI1]; exact nI_toInt (by omega)
        refine Or.inr (Or.inr ⟨I, a1, hI1, by omega, by omega, ?_⟩)
        rcases noT_loop1 h (I := I) (N := N) h1 hI1 h3 hr (by omega) (fun j hj => by rw [e36, eit]; exact hs.it hj) N 100000 0 (by omega) (by omega) with ⟨i1, i2⟩ | ⟨⟨x, x1, x2, x3⟩, i2⟩
        · rw [eit] at i1
          exact Or.inl ⟨fun x hx => i1 x (by omega) hx, i2⟩
        · rw [eit] at x3
          exact Or.inr ⟨fun z => x3 (z x x2), i2⟩
      · have d2 : ¬ _ := fun z => c2 (i64_le.mpr z)
        rw [i64_add32, i64_of32] at d2
        rw [if_neg c2]
        exact Or.inr (Or.inl ⟨a1, by omega, rfl⟩)
/-! sound -/
def PH (v : Nat → Nat) : Nat → Nat → Int32 → Int32 → Int32
  | 0, _, p, _ => p
  | m + 1, k, p, f => PH v m (k + 1) (if v k ≤ v (k - 1) then p else if f = 0 then p else p + 1) (if v k = v (k - 1) then f else if v (k - 1) ≤ v k then 0 else 1)
def MX (v : Nat → Nat) : Nat → Nat → Int32 → Int32
  | 0, _, g => g
  | m + 1, k, g => MX v m (k + 1) (if nI (v k) ≤ g then g else nI (v k))
def GR (a : Nat → Nat) : Nat → Nat → Int32 → Int32
  | 0, _, g => g
  | m + 1, k, g => GR a m (k + 1) (fmax g (nI (a k)))
theorem MX_GR {a : Nat → Nat} {T N : Nat} (hT : 1 ≤ T) (hT2 : T ≤ 60) (ha : ∀ k, k < N → a k ≤ 32767) : ∀ (m k γ : Nat), k + m = N → γ ≤ 32767 → MX (fun x => a x / T) m k (nI (γ / T)) = GR a m k (nI γ) / nI T := by
  intro m
  induction m with
  | zero =>
    intro k γ _ hγ
    show nI (γ / T) = nI γ / nI T
    rw [pk_div (by omega) (by omega) (by omega)]
  | succ m ih =>
    intro k γ hk hγ
    have hak := ha k (by omega)
    have h1 : a k / T ≤ 32767 := Nat.le_trans (Nat.div_le_self _ _) hak
    have h2 : γ / T ≤ 32767 := Nat.le_trans (Nat.div_le_self _ _) hγ
    show MX (fun x => a x / T) m (k + 1) (if nI (a k / T) ≤ nI (γ / T) then nI (γ / T) else nI (a k / T)) = GR a m (k + 1) (fmax (nI γ) (nI (a k))) / nI T
    rw [fmax_alt]
    by_cases c : a k ≤ γ
    · have c2 : a k / T ≤ γ / T := Nat.div_le_div_right c
      rw [if_pos ((nI_le_iff (by omega) (by omega)).mpr c2), if_pos ((nI_le_iff (by omega) (by omega)).mpr c)]
      exact ih (k + 1) γ (by omega) hγ
    · have c2 : γ / T ≤ a k / T := Nat.div_le_div_right (by omega)
      rw [if_neg (fun z => c ((nI_le_iff (by omega) (by omega)).mp z))]
      by_cases c3 : a k / T ≤ γ / T
      · rw [if_pos ((nI_le_iff (by omega) (by omega)).mpr c3), show γ / T = a k / T by omega]
        exact ih (k + 1) (a k) (by omega) hak
      · rw [if_neg (fun z => c3 ((nI_le_iff (by omega) (by omega)).mp z))]
        exact ih (k + 1) (a k) (by omega) hak
theorem c_phLoop {S : HS} (h : LC S) {r c I N T : Nat} {a : Nat → Nat} (hr : r < 8) (hc : c < hN S) (kc3 : hK S c = 3) (hT : hI S c 2 = nI T) (hT1 : 1 ≤ T) (hT2 : T ≤ 60) (hIN : I + N ≤ 40) (ha : ∀ k, k < N → hI S (14 + 2 * r) (I + k) = nI (a k) ∧ a k ≤ 32767) : ∀ (m F k : Nat) (p f : Int32), m < F → k + m = N → 1 ≤ k → s_X3_pullsHeard_L11 c F S (some (14 + 2 * r)) (nI I) (nI N) p f (nI (I + k)) = some (PH (fun x => a x / T) m k p f, S) := by
  intro m
  induction m with
  | zero =>
    intro F k p f hF hk hk1
    obtain ⟨F, rfl⟩ : ∃ z, F = z + 1 := ⟨F - 1, by omega⟩
    show s_X3_pullsHeard_b11 _ c S (some (14 + 2 * r)) (nI I) (nI N) p f (nI (I + k)) = _
    unfold s_X3_pullsHeard_b11
    rw [nI_add, if_pos ((nI_le_iff (by omega) (by omega)).mpr (by omega))]
    rfl
  | succ m ih =>
    intro F k p f hF hk hk1
    obtain ⟨F, rfl⟩ : ∃ z, F = z + 1 := ⟨F - 1, by omega⟩
    obtain ⟨a1, a2⟩ := ha k (by omega)
    obtain ⟨b1, b2⟩ := ha (k - 1) (by omega)
    have h1 : a k / T ≤ 32767 := Nat.le_trans (Nat.div_le_self _ _) a2
    have h2 : a (k - 1) / T ≤ 32767 := Nat.le_trans (Nat.div_le_self _ _) b2
    have hT0 : ¬ nI T = 0 := nI_ne0 (by omega) (by omega)
    show s_X3_pullsHeard_b11 (s_X3_pullsHeard_L11 c F) c S (some (14 + 2 * r)) (nI I) (nI N) p f (nI (I + k)) = some (PH (fun x => a x / T) m (k + 1) (if a k / T ≤ a (k - 1) / T then p else if f = 0 then p else p + 1) (if a k / T = a (k - 1) / T then f else if a (k - 1) / T ≤ a k / T then 0 else 1), S)
    have b58 : ∀ p2 : Int32, s_X3_pullsHeard_b58 (s_X3_pullsHeard_L11 c F) c S (some (14 + 2 * r)) (nI I) (nI N) p2 f (nI (I + k)) (nI (a (k - 1) / T)) (nI (a k / T)) = some (PH (fun x => a x / T) m (k + 1) p2 (if a k / T = a (k - 1) / T then f else if a (k - 1) / T ≤ a k / T then 0 else 1), S) := by
      intro p2
      unfold s_X3_pullsHeard_b58 s_X3_pullsHeard_b77 s_X3_pullsHeard_b79
      rw [nI_1, show I + k + 1 = I + (k + 1) by omega]
      by_cases c1 : a k / T = a (k - 1) / T
      · rw [if_pos ((nI_eqI (by omega) (by omega)).mpr c1), if_pos c1]
        exact ih F (k + 1) p2 f (by omega) (by omega) (by omega)
      · rw [if_neg (fun z => c1 ((nI_eqI (by omega) (by omega)).mp z)), if_neg c1]
        by_cases c2 : a (k - 1) / T ≤ a k / T
        · rw [if_pos ((nI_le_iff (by omega) (by omega)).mpr c2), if_pos c2]
          exact ih F (k + 1) p2 0 (by omega) (by omega) (by omega)
        · rw [if_neg (fun z => c2 ((nI_le_iff (by omega) (by omega)).mp z)), if_neg c2]
          exact ih F (k + 1) p2 1 (by omega) (by omega) (by omega)
    have em : nI (I + k) - 1 = nI (I + (k - 1)) := by rw [show (1 : Int32) = nI 1 from rfl, nI_sub (by omega), show I + k - 1 = I + (k - 1) by omega]
    unfold s_X3_pullsHeard_b11
    rw [nI_add, if_neg (fun z => by have := (nI_le_iff (by omega) (by omega)).mp z; omega), em, kA_items h hr (k := I + (k - 1)) rfl (by omega), kI_some hc kc3, hT, kdiv_ne hT0, kA_items h hr (k := I + k) rfl (by omega), kI_some hc kc3, hT, kdiv_ne hT0, a1, b1, pk_div (by omega) (by omega) (by omega), pk_div (by omega) (by omega) (by omega), b58, b58]
    by_cases c1 : a k / T ≤ a (k - 1) / T
    · rw [if_pos ((nI_le_iff (by omega) (by omega)).mpr c1), if_pos c1]
    · rw [if_neg (fun z => c1 ((nI_le_iff (by omega) (by omega)).mp z)), if_neg c1]
      by_cases c2 : f = 0
      · rw [if_pos c2, if_pos c2]
      · rw [if_neg c2, if_neg c2]
theorem c_grLoop {S : HS} (h : LC S) {r I N : Nat} {a : Nat → Nat} (hr : r < 8) (hIN : I + N ≤ 40) (ha : ∀ k, k < N → hI S (14 + 2 * r) (I + k) = nI (a k) ∧ a k ≤ 32767) : ∀ (m F k : Nat) (g : Int32), m < F → k + m = N → s_X6_greatestItem_L16 (13 + 2 * r) F S (nI I) (nI N) g (nI (I + k)) = some (GR a m k g, S) := by
  intro m
  induction m with
  | zero =>
    intro F k g hF hk
    obtain ⟨F, rfl⟩ : ∃ z, F = z + 1 := ⟨F - 1, by omega⟩
    show s_X6_greatestItem_b16 _ (13 + 2 * r) S (nI I) (nI N) g (nI (I + k)) = _
    unfold s_X6_greatestItem_b16
    rw [nI_add, if_pos ((nI_le_iff (by omega) (by omega)).mpr (by omega))]
    rfl
  | succ m ih =>
    intro F k g hF hk
    obtain ⟨F, rfl⟩ : ∃ z, F = z + 1 := ⟨F - 1, by omega⟩
    obtain ⟨a1, a2⟩ := ha k (by omega)
    show s_X6_greatestItem_b16 (s_X6_greatestItem_L16 (13 + 2 * r) F) (13 + 2 * r) S (nI I) (nI N) g (nI (I + k)) = some (GR a m (k + 1) (fmax g (nI (a k))), S)
    unfold s_X6_greatestItem_b16
    rw [nI_add, if_neg (fun z => by have := (nI_le_iff (by omega) (by omega)).mp z; omega), kP_row0 h hr, kA_items h hr (k := I + k) rfl (by omega), a1, nI_1, show I + k + 1 = I + (k + 1) by omega]
    exact ih F (k + 1) _ (by omega) (by omega)
theorem m_soundLoop {S : HS} (h : LM S) {r d I N T : Nat} {a : Nat → Nat} {l1 l2 l3 l5 : Int32} (h1 : l1 = nI d) (h2 : l2 = nI r) (h3 : l3 = nI I) (hd : d < 4) (hr : r < 8) (hT : hI S 37 (3 + 3 * d + 2) = nI T) (hT1 : 1 ≤ T) (hT2 : T ≤ 60) (hIN : I + N ≤ 40) (ha : ∀ k, k < N → hI S 36 (40 * r + (I + k)) = nI (a k) ∧ a k ≤ 32767) : ∀ (m F k : Nat) (p mo f : Int32), m < F → k + m = N → 1 ≤ k → (f = 0 ∨ f = 1) → s_X12_sound_L101 33 F S l1 l2 l3 (nI N) l5 p mo (nI (a (k - 1) / T)) f (nI k) = some ((if l5 = 0 then PH (fun x => a x / T) m k p f else MX (fun x => a x / T) m k mo), S) := by
  intro m
  induction m with
  | zero =>
    intro F k p mo f hF hk hk1 hf
    obtain ⟨F, rfl⟩ : ∃ z, F = z + 1 := ⟨F - 1, by omega⟩
    show s_X12_sound_b101 _ 33 S l1 l2 l3 (nI N) l5 p mo (nI (a (k - 1) / T)) f (nI k) = _
    unfold s_X12_sound_b101
    rw [if_pos ((nI_le_iff (by omega) (by omega)).mpr (by omega))]
    by_cases c : l5 = 0
    · rw [if_pos c, if_pos c]; rfl
    · rw [if_neg c, if_neg c]; rfl
  | succ m ih =>
    intro F k p mo f hF hk hk1 hf
    obtain ⟨F, rfl⟩ : ∃ z, F = z + 1 := ⟨F - 1, by omega⟩
    obtain ⟨a1, a2⟩ := ha k (by omega)
    obtain ⟨b1, b2⟩ := ha (k - 1) (by omega)
    have q1 : a k / T ≤ 32767 := Nat.le_trans (Nat.div_le_self _ _) a2
    have q2 : a (k - 1) / T ≤ 32767 := Nat.le_trans (Nat.div_le_self _ _) b2
    have hT0 : ¬ nI T = 0 := nI_ne0 (by omega) (by omega)
    have nk : ¬ nI k ≤ 0 := fun z => by have := (nI_le_iff (b := 0) (by omega) (by decide)).mp z; omega
    have e36 : 40 * l2 + l3 + nI k = nI (40 * r + (I + k)) := by rw [n40 h2 h3, nI_add, Nat.add_assoc]
    have b187 : ∀ p2 f2 : Int32, (f2 = 0 ∨ f2 = 1) → s_X12_sound_b187 (s_X12_sound_L101 33 F) 33 S l1 l2 l3 (nI N) l5 p2 mo (nI k) (nI (a k / T)) f2 = some ((if l5 = 0 then PH (fun x => a x / T) m (k + 1) p2 f2 else MX (fun x => a x / T) m (k + 1) (if nI (a k / T) ≤ mo then mo else nI (a k / T))), S) := by
      intro p2 f2 hf2
      unfold s_X12_sound_b187 s_X12_sound_b203
      rw [nI_1]
      by_cases c : nI (a k / T) ≤ mo
      · rw [if_pos c, if_pos c]
        exact ih F (k + 1) p2 mo f2 (by omega) (by omega) (by omega) hf2
      · rw [if_neg c, if_neg c]
        exact ih F (k + 1) p2 (nI (a k / T)) f2 (by omega) (by omega) (by omega) hf2
    have b155 : ∀ p2 q : Int32, s_X12_sound_b155 (s_X12_sound_L101 33 F) 33 S l1 l2 l3 (nI N) l5 mo (nI (a (k - 1) / T)) f (nI k) (nI (a k / T)) p2 q = some ((if l5 = 0 then PH (fun x => a x / T) m (k + 1) (p2 + q) (if a k / T = a (k - 1) / T then f else if a (k - 1) / T ≤ a k / T then 0 else 1) else MX (fun x => a x / T) m (k + 1) (if nI (a k / T) ≤ mo then mo else nI (a k / T))), S) := by
      intro p2 q
      unfold s_X12_sound_b155 s_X12_sound_b182 s_X12_sound_b186
      rw [if_neg nk]
      by_cases c1 : a k / T < a (k - 1) / T
      · rw [if_pos ((nI_ltI (by omega) (by omega)).mpr c1), if_neg (show ¬ a k / T = a (k - 1) / T by omega), if_neg (show ¬ a (k - 1) / T ≤ a k / T by omega)]
        exact b187 _ 1 (Or.inr rfl)
      · rw [if_neg (fun z => c1 ((nI_ltI (by omega) (by omega)).mp z))]
        by_cases c2 : a k / T = a (k - 1) / T
        · rw [if_pos ((nI_eqI (by omega) (by omega)).mpr c2), if_pos c2]
          rcases hf with rfl | rfl
          · rw [if_pos rfl]
            exact b187 _ 0 (Or.inl rfl)
          · rw [if_neg (by decide)]
            exact b187 _ 1 (Or.inr rfl)
        · rw [if_neg (fun z => c2 ((nI_eqI (by omega) (by omega)).mp z)), if_neg c2, if_pos (show a (k - 1) / T ≤ a k / T by omega)]
          exact b187 _ 0 (Or.inl rfl)
    show s_X12_sound_b101 (s_X12_sound_L101 33 F) 33 S l1 l2 l3 (nI N) l5 p mo (nI (a (k - 1) / T)) f (nI k) = some ((if l5 = 0 then PH (fun x => a x / T) m (k + 1) (if a k / T ≤ a (k - 1) / T then p else if f = 0 then p else p + 1) (if a k / T = a (k - 1) / T then f else if a (k - 1) / T ≤ a k / T then 0 else 1) else MX (fun x => a x / T) m (k + 1) (if nI (a k / T) ≤ mo then mo else nI (a k / T))), S)
    unfold s_X12_sound_b101 s_X12_sound_b154
    rw [if_neg (fun z => by have := (nI_le_iff (by omega) (by omega)).mp z; omega), kP_m4 h, kA_m36 h e36 (by omega), a1, kO_m h, m_discOf h h1 (l2 := 2) (j := 2) rfl hd (by decide), kc_some, hT, kdiv_ne hT0, pk_div (by omega) (by omega) (by omega), if_neg nk, b155, b155, Int32.add_zero]
    by_cases c1 : a k / T ≤ a (k - 1) / T
    · rw [if_pos ((nI_le_iff (by omega) (by omega)).mpr c1), if_pos c1]
    · rw [if_neg (fun z => c1 ((nI_le_iff (by omega) (by omega)).mp z)), if_neg c1]
      by_cases c2 : f = 0
      · rw [if_pos c2, if_pos c2]
      · rw [if_neg c2, if_neg c2]
theorem m_sound0 {S : HS} (h : LM S) {r d I N T : Nat} {a : Nat → Nat} {l1 l2 l3 l5 : Int32} (h1 : l1 = nI d) (h2 : l2 = nI r) (h3 : l3 = nI I) (hd : d < 4) (hr : r < 8) (hT : hI S 37 (3 + 3 * d + 2) = nI T) (hT1 : 1 ≤ T) (hT2 : T ≤ 60) (hIN : I + N ≤ 40) (hN2 : 2 ≤ N) (ha : ∀ k, k < N → hI S 36 (40 * r + (I + k)) = nI (a k) ∧ a k ≤ 32767) : s_X12_sound_L101 33 100000 S l1 l2 l3 (nI N) l5 0 0 0 0 0 = some ((if l5 = 0 then PH (fun x => a x / T) (N - 1) 1 0 0 else MX (fun x => a x / T) N 0 (nI 0)), S) := by
  obtain ⟨a1, a2⟩ := ha 0 (by omega)
  have q1 : a 0 / T ≤ 32767 := Nat.le_trans (Nat.div_le_self _ _) a2
  have hT0 : ¬ nI T = 0 := nI_ne0 (by omega) (by omega)
  have e36 : 40 * l2 + l3 + 0 = nI (40 * r + (I + 0)) := by rw [n40 h2 h3, Int32.add_zero]; rfl
  have lo := fun mo => m_soundLoop h (l5 := l5) h1 h2 h3 hd hr hT hT1 hT2 hIN ha (N - 1) 99999 1 0 mo 0 (by omega) (by omega) (by omega) (Or.inl rfl)
  have eM : MX (fun x => a x / T) N 0 (nI 0) = MX (fun x => a x / T) (N - 1) 1 (if nI (a 0 / T) ≤ nI 0 then nI 0 else nI (a 0 / T)) := by
    obtain ⟨N, rfl⟩ : ∃ z, N = z + 1 := ⟨N - 1, by omega⟩
    rfl
  have b203 : ∀ mo, s_X12_sound_b203 (s_X12_sound_L101 33 99999) 33 S l1 l2 l3 (nI N) l5 (0 + 0) 0 0 (nI (a 0 / T)) mo = some ((if l5 = 0 then PH (fun x => a x / T) (N - 1) 1 0 0 else MX (fun x => a x / T) (N - 1) 1 mo), S) := by
    intro mo
    unfold s_X12_sound_b203
    exact lo mo
  show s_X12_sound_b101 (s_X12_sound_L101 33 99999) 33 S l1 l2 l3 (nI N) l5 0 0 0 0 0 = _
  unfold s_X12_sound_b101 s_X12_sound_b154 s_X12_sound_b155 s_X12_sound_b186 s_X12_sound_b187
  rw [if_neg (fun z => by have := (nI_le_iff (b := 0) (by omega) (by decide)).mp z; omega), kP_m4 h, kA_m36 h e36 (by omega), a1, kO_m h, m_discOf h h1 (l2 := 2) (j := 2) rfl hd (by decide), kc_some, hT, kdiv_ne hT0, pk_div (by omega) (by omega) (by omega), if_pos (show (0 : Int32) ≤ 0 by decide), if_pos (show (0 : Int32) ≤ 0 by decide), b203, b203, eM]
  by_cases c : nI (a 0 / T) ≤ nI 0
  · rw [if_pos c]
    rw [if_pos (show nI (a 0 / T) ≤ 0 from c)]
    rfl
  · rw [if_neg c]
    rw [if_neg (show ¬ nI (a 0 / T) ≤ 0 from c)]
