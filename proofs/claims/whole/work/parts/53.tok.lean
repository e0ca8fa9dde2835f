/-! ===== TOKENS ===== -/
def cb (z : Nat) : Int32 := (nI z).toInt8.toInt32
def bW (z : Nat) : Bool := z == 32 || z == 10
def bL (z : Nat) : Bool := Nat.ble 97 z && Nat.ble z 122
def bD (z : Nat) : Bool := Nat.ble 48 z && Nat.ble z 57
theorem cbL : ∀ z, z < 256 → (bL z = true → ¬ cb z < 97 ∧ ¬ (122 : Int32) < cb z) ∧ (bL z = false → cb z < 97 ∨ (122 : Int32) < cb z) := by decide +kernel
theorem nbL : ∀ z, z < 256 → (bL z = true → ¬ nI z < 97 ∧ ¬ (122 : Int32) < nI z) ∧ (bL z = false → nI z < 97 ∨ (122 : Int32) < nI z) := by decide +kernel
theorem cbD : ∀ z, z < 256 → (bD z = true → ¬ cb z < 48 ∧ ¬ (57 : Int32) < cb z) ∧ (bD z = false → cb z < 48 ∨ (57 : Int32) < cb z) := by decide +kernel
theorem nbD : ∀ z, z < 256 → (bD z = true → ¬ nI z < 48 ∧ ¬ (57 : Int32) < nI z) ∧ (bD z = false → nI z < 48 ∨ (57 : Int32) < nI z) := by decide +kernel
theorem cbE : ∀ z, z < 256 → (cb z = 32 ↔ z = 32) ∧ (cb z = 10 ↔ z = 10) ∧ (cb z = 59 ↔ z = 59) ∧ (cb z = 45 ↔ z = 45) := by decide +kernel
theorem nbE : ∀ z, z < 256 → (nI z = 32 ↔ z = 32) ∧ (nI z = 10 ↔ z = 10) ∧ (nI z = 59 ↔ z = 59) ∧ (nI z = 45 ↔ z = 45) ∧ ¬ nI z = -1000000 := by decide +kernel
theorem cbN : ∀ z, z < 256 → bD z = true → cb z = nI z := by decide +kernel
theorem cbNL : ∀ z, z < 256 → bL z = true → cb z = nI z := by decide +kernel
theorem bLS : ∀ z, z < 256 → bL z = true → ¬ z = 59 ∧ ¬ z = 45 ∧ bD z = false ∧ 1 ≤ z := by decide +kernel
theorem bDS : ∀ z, z < 256 → bD z = true → ¬ z = 59 ∧ ¬ z = 45 := by decide +kernel
/-- the first place from i on, of m, where P doesn't hold -/
def run (P : Nat → Bool) (B : Nat → Nat) : Nat → Nat → Nat
  | 0, i => i
  | m + 1, i => if P (B i) = true then run P B m (i + 1) else i
theorem run_rng (P : Nat → Bool) (B : Nat → Nat) : ∀ m i, i ≤ run P B m i ∧ run P B m i ≤ i + m := by
  intro m
  induction m with
  | zero => intro i; exact ⟨Nat.le_refl _, Nat.le_refl _⟩
  | succ m ih =>
    intro i
    show i ≤ (if P (B i) = true then run P B m (i + 1) else i) ∧ (if P (B i) = true then run P B m (i + 1) else i) ≤ i + (m + 1)
    have := ih (i + 1)
    split <;> omega
theorem run_all (P : Nat → Bool) (B : Nat → Nat) : ∀ m i j, i ≤ j → j < run P B m i → P (B j) = true := by
  intro m
  induction m with
  | zero =>
    intro i j h1 h2
    have h3 : j < i := h2
    omega
  | succ m ih =>
    intro i j h1 h2
    have h3 : j < (if P (B i) = true then run P B m (i + 1) else i) := h2
    by_cases c : P (B i) = true
    · rw [if_pos c] at h3
      by_cases e : j = i
      · rw [e]; exact c
      · exact ih (i + 1) j (by omega) h3
    · rw [if_neg c] at h3
      omega
theorem run_end (P : Nat → Bool) (B : Nat → Nat) : ∀ m i, run P B m i < i + m → P (B (run P B m i)) = false := by
  intro m
  induction m with
  | zero =>
    intro i h
    have h3 : i < i + 0 := h
    omega
  | succ m ih =>
    intro i h
    have e : run P B (m + 1) i = (if P (B i) = true then run P B m (i + 1) else i) := rfl
    rw [e] at h ⊢
    by_cases c : P (B i) = true
    · rw [if_pos c] at h ⊢
      exact ih (i + 1) (by omega)
    · rw [if_neg c]
      exact Bool.eq_false_iff.mpr c
/-- the number so far -/
def nv (B : Nat → Nat) (fg : Nat) : Nat → Nat → Int32 → Int32
  | 0, _, v => v
  | m + 1, i, v => if bD (B i) = true then nv B fg m (i + 1) (if fg + 4 ≤ i then v else 10 * v + nI (B i) - 48) else v
theorem wI_self {S : HS} {c j : Nat} {v : Int32} (h : hI S c j = v) : wI S c j v = S := by
  refine HS_ext rfl (fun a b => ?_) (fun _ _ => rfl)
  rw [hI_wI]
  split
  · next e => rw [e.1, e.2, h]
  · rfl
theorem wI_wI (S : HS) (c j : Nat) (v w : Int32) : wI (wI S c j v) c j w = wI S c j w := by
  refine HS_ext rfl (fun a b => ?_) (fun _ _ => rfl)
  rw [hI_wI, hI_wI, hI_wI]
  split
  · rfl
  · rfl
/-- the bytes of both -/
def BC (S : HS) (N : Nat) (B : Nat → Nat) : Prop := LC S ∧ hI S 2 1 = nI N ∧ N ≤ 500 ∧ ∀ j, j < N → B j < 256 ∧ hI S 3 j = cb (B j)
def BM (T : HS) (N : Nat) (B : Nat → Nat) : Prop := LM T ∧ hI T 33 11 = nI N ∧ N ≤ 500 ∧ ∀ j, j < N → B j < 256 ∧ hI T 39 j = nI (B j)
def K2 (S S2 : HS) : Prop := S2.1 = S.1 ∧ hP S2 = hP S ∧ (∀ a, a ≠ 2 → hI S2 a = hI S a) ∧ ∀ j, j < 4 ∨ 7 < j → hI S2 2 j = hI S 2 j
def K33 (T T2 : HS) : Prop := T2.1 = T.1 ∧ hP T2 = hP T ∧ (∀ a, a ≠ 33 → hI T2 a = hI T a) ∧ ∀ j, j < 12 ∨ 16 < j → hI T2 33 j = hI T 33 j
theorem K2.rf (S : HS) : K2 S S := ⟨rfl, rfl, fun _ _ => rfl, fun _ _ => rfl⟩
theorem K33.rf (S : HS) : K33 S S := ⟨rfl, rfl, fun _ _ => rfl, fun _ _ => rfl⟩
theorem K2.tr {S T U : HS} (h : K2 S T) (g : K2 T U) : K2 S U := ⟨g.1.trans h.1, g.2.1.trans h.2.1, fun a ha => (g.2.2.1 a ha).trans (h.2.2.1 a ha), fun j hj => (g.2.2.2 j hj).trans (h.2.2.2 j hj)⟩
theorem K33.tr {S T U : HS} (h : K33 S T) (g : K33 T U) : K33 S U := ⟨g.1.trans h.1, g.2.1.trans h.2.1, fun a ha => (g.2.2.1 a ha).trans (h.2.2.1 a ha), fun j hj => (g.2.2.2 j hj).trans (h.2.2.2 j hj)⟩
theorem K2.w (S : HS) {j : Nat} (v : Int32) (h : 4 ≤ j ∧ j ≤ 7) : K2 S (wI S 2 j v) := ⟨rfl, rfl, fun _ ha => hI_wI_ne ha, fun i hi => hI_wI_j (by omega)⟩
theorem K33.w (S : HS) {j : Nat} (v : Int32) (h : 12 ≤ j ∧ j ≤ 16) : K33 S (wI S 33 j v) := ⟨rfl, rfl, fun _ ha => hI_wI_ne ha, fun i hi => hI_wI_j (by omega)⟩
theorem BC.k {S S2 : HS} {N : Nat} {B : Nat → Nat} (h : BC S N B) (g : K2 S S2) : BC S2 N B := ⟨LC_of h.1 g.1 g.2.1, by rw [g.2.2.2 1 (by decide)]; exact h.2.1, h.2.2.1, by rw [g.2.2.1 3 (by decide)]; exact h.2.2.2⟩
theorem BM.k {S S2 : HS} {N : Nat} {B : Nat → Nat} (h : BM S N B) (g : K33 S S2) : BM S2 N B := ⟨LM_of h.1 g.1 g.2.1, by rw [g.2.2.2 11 (by decide)]; exact h.2.1, h.2.2.1, by rw [g.2.2.1 39 (by decide)]; exact h.2.2.2⟩
section L2TK
variable {N : Nat} {B : Nat → Nat}
theorem m_byte {T : HS} (h : BM T N B) {i : Nat} (hi : i < N) : s_X12_byteAt T 33 (nI i) = some (nI (B i), T) := by
  have hN := h.2.2.1
  unfold s_X12_byteAt
  rw [kI_m h.1, h.2.1, if_neg (fun z => by have := (nI_le_iff (by omega) (by omega)).mp z; omega), kP_m8 h.1, kA_m39 h.1 rfl (by omega), (h.2.2.2 i hi).2]
theorem m_byteN {T : HS} (h : BM T N B) : s_X12_byteAt T 33 (nI N) = some (-1000000, T) := by
  have hN := h.2.2.1
  unfold s_X12_byteAt
  rw [kI_m h.1, h.2.1, if_pos ((nI_le_iff (by omega) (by omega)).mpr (Nat.le_refl _))]
theorem m_isLetter (S : HS) {z : Nat} (hz : z < 256) : s_X12_isLetter S (nI z) = some ((if bL z = true then 1 else 0), S) := by
  unfold s_X12_isLetter
  by_cases c : bL z = true
  · obtain ⟨c1, c2⟩ := (nbL z hz).1 c
    rw [if_neg c1, if_neg c2, if_pos c, kzr_1]
  · rw [if_neg c]
    rcases (nbL z hz).2 (Bool.eq_false_iff.mpr c) with c1 | c1
    · rw [if_pos c1, kzr_0]
    · by_cases c2 : nI z < 97
      · rw [if_pos c2, kzr_0]
      · rw [if_neg c2, if_pos c1, kzr_0]
theorem m_isFigure (S : HS) {z : Nat} (hz : z < 256) : s_X12_isFigure S (nI z) = some ((if bD z = true then 1 else 0), S) := by
  unfold s_X12_isFigure
  by_cases c : bD z = true
  · obtain ⟨c1, c2⟩ := (nbD z hz).1 c
    rw [if_neg c1, if_neg c2, if_pos c, kzr_1]
  · rw [if_neg c]
    rcases (nbD z hz).2 (Bool.eq_false_iff.mpr c) with c1 | c1
    · rw [if_pos c1, kzr_0]
    · by_cases c2 : nI z < 48
      · rw [if_pos c2, kzr_0]
      · rw [if_neg c2, if_pos c1, kzr_0]
theorem c_skip : ∀ (m F i : Nat) (S : HS), BC S N B → hI S 2 5 = nI i → i + m = N → m < F → s_X10_nextToken_L8 2 F S = s_X10_nextToken_b60 2 (wI S 2 5 (nI (run bW B m i))) := by
  intro m
  induction m with
  | zero =>
    intro F i S h e hi hF
    obtain ⟨F, rfl⟩ : ∃ z, F = z + 1 := ⟨F - 1, by omega⟩
    have hN := h.2.2.1
    show s_X10_nextToken_b8 _ 2 S = s_X10_nextToken_b60 2 (wI S 2 5 (nI i))
    rw [wI_self e]
    unfold s_X10_nextToken_b8
    rw [kI_c2 h.1, kI_c2 h.1, e, h.2.1, if_pos ((nI_le_iff (by omega) (by omega)).mpr (by omega))]
  | succ m ih =>
    intro F i S h e hi hF
    obtain ⟨F, rfl⟩ : ∃ z, F = z + 1 := ⟨F - 1, by omega⟩
    have hN := h.2.2.1
    obtain ⟨b1, b2⟩ := h.2.2.2 i (by omega)
    obtain ⟨x1, x2, -⟩ := cbE (B i) b1
    have er : run bW B (m + 1) i = (if bW (B i) = true then run bW B m (i + 1) else i) := rfl
    have st : s_X10_nextToken_b47 (s_X10_nextToken_L8 2 F) 2 S = s_X10_nextToken_b60 2 (wI S 2 5 (nI (run bW B m (i + 1)))) := by
      unfold s_X10_nextToken_b47
      rw [kI_c2 h.1, e, kwI_c2 h.1, nI_1, ih F (i + 1) (wI S 2 5 (nI (i + 1))) (h.k (K2.w S _ (by decide))) (hI_wI_self _ _ _ _) (by omega) (by omega), wI_wI]
    rw [er]
    show s_X10_nextToken_b8 _ 2 S = _
    unfold s_X10_nextToken_b8
    rw [kI_c2 h.1, kI_c2 h.1, e, h.2.1, if_neg (fun z => by have := (nI_le_iff (by omega) (by omega)).mp z; omega), kP_c2_0 h.1, kI_c2 h.1, e, kA_c3 h.1 rfl (by omega), b2, kP_c2_0 h.1, kI_c2 h.1, e, kA_c3 h.1 rfl (by omega), b2, st]
    by_cases c1 : B i = 32
    · rw [if_pos (x1.mpr c1), if_pos (show bW (B i) = true by rw [c1]; rfl)]
    · rw [if_neg (fun z => c1 (x1.mp z))]
      by_cases c2 : B i = 10
      · rw [if_pos (x2.mpr c2), if_pos (show bW (B i) = true by rw [c2]; rfl)]
      · rw [if_neg (fun z => c2 (x2.mp z)), if_neg (show ¬ bW (B i) = true from fun z => by
          unfold bW at z
          rcases (Bool.or_eq_true _ _).mp z with z | z
          · exact c1 (eq_of_beq z)
          · exact c2 (eq_of_beq z)), wI_self e]
theorem c_ltr : ∀ (m F i : Nat) (S : HS), BC S N B → hI S 2 6 = nI i → i + m = N → m < F → s_X10_nextToken_L68 2 F S = s_X10_nextToken_b120 2 (wI S 2 6 (nI (run bL B m i))) := by
  intro m
  induction m with
  | zero =>
    intro F i S h e hi hF
    obtain ⟨F, rfl⟩ : ∃ z, F = z + 1 := ⟨F - 1, by omega⟩
    have hN := h.2.2.1
    show s_X10_nextToken_b68 _ 2 S = s_X10_nextToken_b120 2 (wI S 2 6 (nI i))
    rw [wI_self e]
    unfold s_X10_nextToken_b68
    rw [kI_c2 h.1, kI_c2 h.1, e, h.2.1, if_pos ((nI_le_iff (by omega) (by omega)).mpr (by omega))]
  | succ m ih =>
    intro F i S h e hi hF
    obtain ⟨F, rfl⟩ : ∃ z, F = z + 1 := ⟨F - 1, by omega⟩
    have hN := h.2.2.1
    obtain ⟨b1, b2⟩ := h.2.2.2 i (by omega)
    have er : run bL B (m + 1) i = (if bL (B i) = true then run bL B m (i + 1) else i) := rfl
    rw [er]
    show s_X10_nextToken_b68 _ 2 S = _
    unfold s_X10_nextToken_b68
    rw [kI_c2 h.1, kI_c2 h.1, e, h.2.1, if_neg (fun z => by have := (nI_le_iff (by omega) (by omega)).mp z; omega), kP_c2_0 h.1, kI_c2 h.1, e, kA_c3 h.1 rfl (by omega), b2, kP_c2_0 h.1, kI_c2 h.1, e, kA_c3 h.1 rfl (by omega), b2, kI_c2 h.1, e, kwI_c2 h.1, nI_1, ih F (i + 1) (wI S 2 6 (nI (i + 1))) (h.k (K2.w S _ (by decide))) (hI_wI_self _ _ _ _) (by omega) (by omega), wI_wI]
    by_cases c : bL (B i) = true
    · obtain ⟨c1, c2⟩ := (cbL _ b1).1 c
      rw [if_neg c1, if_neg c2, if_pos c]
    · rw [if_neg c, wI_self e]
      rcases (cbL _ b1).2 (Bool.eq_false_iff.mpr c) with c1 | c1
      · rw [if_pos c1]
      · by_cases c2 : cb (B i) < 97
        · rw [if_pos c2]
        · rw [if_neg c2, if_pos c1]
theorem c_num {fg : Nat} {l1 : Int32} (hfg : fg ≤ 501) : ∀ (m F i : Nat) (S : HS) (v : Int32), BC S N B → hI S 2 6 = nI i → hI S 2 7 = v → i + m = N → fg ≤ i → m < F → ∃ S2, s_X10_nextNumber_L48 2 F S l1 (nI fg) = s_X10_nextNumber_b134 2 S2 l1 (nI fg) ∧ K2 S S2 ∧ hI S2 2 6 = nI (run bD B m i) ∧ hI S2 2 7 = nv B fg m i v ∧ ∀ j, j ≠ 6 → j ≠ 7 → hI S2 2 j = hI S 2 j := by
  intro m
  induction m with
  | zero =>
    intro F i S v h e ev hi hg hF
    obtain ⟨F, rfl⟩ : ∃ z, F = z + 1 := ⟨F - 1, by omega⟩
    have hN := h.2.2.1
    refine ⟨S, ?_, K2.rf S, e, ev, fun _ _ _ => rfl⟩
    show s_X10_nextNumber_b48 _ 2 S l1 (nI fg) = _
    unfold s_X10_nextNumber_b48
    rw [kI_c2 h.1, kI_c2 h.1, e, h.2.1, if_pos ((nI_le_iff (by omega) (by omega)).mpr (by omega))]
  | succ m ih =>
    intro F i S v h e ev hi hg hF
    obtain ⟨F, rfl⟩ : ∃ z, F = z + 1 := ⟨F - 1, by omega⟩
    have hN := h.2.2.1
    obtain ⟨b1, b2⟩ := h.2.2.2 i (by omega)
    have er : run bD B (m + 1) i = (if bD (B i) = true then run bD B m (i + 1) else i) := rfl
    have en : nv B fg (m + 1) i v = (if bD (B i) = true then nv B fg m (i + 1) (if fg + 4 ≤ i then v else 10 * v + nI (B i) - 48) else v) := rfl
    have hd : s_X10_nextNumber_L48 2 (F + 1) S l1 (nI fg) = (if cb (B i) < 48 then s_X10_nextNumber_b134 2 S l1 (nI fg) else if 57 < cb (B i) then s_X10_nextNumber_b134 2 S l1 (nI fg) else if 4 ≤ nI i - nI fg then s_X10_nextNumber_b121 (s_X10_nextNumber_L48 2 F) 2 S l1 (nI fg) else s_X10_nextNumber_b121 (s_X10_nextNumber_L48 2 F) 2 (wI S 2 7 (10 * v + cb (B i) - 48)) l1 (nI fg)) := by
      show s_X10_nextNumber_b48 _ 2 S l1 (nI fg) = _
      unfold s_X10_nextNumber_b48
      rw [kI_c2 h.1, kI_c2 h.1, e, h.2.1, if_neg (fun z => by have := (nI_le_iff (by omega) (by omega)).mp z; omega), kP_c2_0 h.1, kI_c2 h.1, e, kA_c3 h.1 rfl (by omega), b2, kP_c2_0 h.1, kI_c2 h.1, e, kA_c3 h.1 rfl (by omega), b2, kI_c2 h.1, e, kI_c2 h.1, ev, kP_c2_0 h.1, kI_c2 h.1, e, kA_c3 h.1 rfl (by omega), b2, kwI_c2 h.1]
    by_cases c : bD (B i) = true
    · obtain ⟨c1, c2⟩ := (cbD _ b1).1 c
      rw [er, en, if_pos c, if_pos c, hd, if_neg c1, if_neg c2, nI_sub hg]
      by_cases c4 : fg + 4 ≤ i
      · have z4 : (4 : Int32) ≤ nI (i - fg) := (nI_le_iff (a := 4) (by omega) (by omega)).mpr (by omega)
        obtain ⟨S2, i1, i2, i3, i4, i5⟩ := ih F (i + 1) (wI S 2 6 (nI (i + 1))) v (h.k (K2.w S _ (by decide))) (hI_wI_self _ _ _ _) (by rw [hI_wI_j (by decide)]; exact ev) (by omega) (by omega) (by omega)
        rw [if_pos z4, if_pos c4]
        refine ⟨S2, ?_, (K2.w S _ (by decide)).tr i2, i3, i4, fun j j6 j7 => by rw [i5 j j6 j7, hI_wI_j j6]⟩
        unfold s_X10_nextNumber_b121
        rw [kI_c2 h.1, e, kwI_c2 h.1, nI_1]
        exact i1
      · have z4 : ¬ (4 : Int32) ≤ nI (i - fg) := fun z => by have := (nI_le_iff (a := 4) (by omega) (by omega)).mp z; omega
        rw [if_neg z4, if_neg c4, cbN _ b1 c]
        have hb7 : BC (wI S 2 7 (10 * v + nI (B i) - 48)) N B := h.k (K2.w S _ (by decide))
        obtain ⟨S2, i1, i2, i3, i4, i5⟩ := ih F (i + 1) (wI (wI S 2 7 (10 * v + nI (B i) - 48)) 2 6 (nI (i + 1))) _ (hb7.k (K2.w _ _ (by decide))) (hI_wI_self _ _ _ _) (by rw [hI_wI_j (by decide), hI_wI_self]) (by omega) (by omega) (by omega)
        refine ⟨S2, ?_, ((K2.w S _ (by decide)).tr (K2.w _ _ (by decide))).tr i2, i3, i4, fun j j6 j7 => by rw [i5 j j6 j7, hI_wI_j j6, hI_wI_j j7]⟩
        unfold s_X10_nextNumber_b121
        rw [kI_c2 hb7.1, hI_wI_j (by decide), e, kwI_c2 hb7.1, nI_1]
        exact i1
    · refine ⟨S, ?_, K2.rf S, by rw [er, if_neg c]; exact e, by rw [en, if_neg c]; exact ev, fun _ _ _ => rfl⟩
      rw [hd]
      rcases (cbD _ b1).2 (Bool.eq_false_iff.mpr c) with c1 | c1
      · rw [if_pos c1]
      · by_cases c2 : cb (B i) < 48
        · rw [if_pos c2]
        · rw [if_neg c2, if_pos c1]
end L2TK
