/-! ===== the two that are made ===== -/
def SE : HS := ((0, fun _ => (0, 0)), (fun _ _ => 0, fun _ _ => none))
theorem SA_ok : (s_X11_init (wN SE 11 0) 0).isSome = true := by decide +kernel
def SA : HS := (s_X11_init (wN SE 11 0) 0).get SA_ok
theorem SA_eq : s_X11_init (wN SE 11 0) 0 = some SA := (Option.some_get SA_ok).symm
theorem SA_n : hN SA = 33 := by decide +kernel
theorem SI_ok : (s_X12_init (wN SA 12 0) 33).isSome = true := by decide +kernel
def SI : HS := (s_X12_init (wN SA 12 0) 33).get SI_ok
theorem SI_eq : s_X12_init (wN SA 12 0) 33 = some SI := (Option.some_get SI_ok).symm
theorem SI_n : hN SI = 46 := by decide +kernel
theorem SI_LM : LM SI := by
  unfold LM
  decide +kernel
theorem SI_LC : LC SI := by
  unfold LC
  decide +kernel
theorem SI_row : ∀ r, r < 8 → hI SI (13 + 2 * r) 1 = 0 ∧ hI SI (13 + 2 * r) 3 = 0 ∧ hI SI 34 r = -1 ∧ hI SI 35 r = 0 ∧ ∀ j, j < 40 → hI SI 36 (40 * r + j) = hI SI (14 + 2 * r) j := by decide +kernel
theorem SI_one : (hI SI 2 1 = 0 ∧ hI SI 33 9 = 0 ∧ hI SI 0 6 = hI SI 33 10 ∧ hI SI 0 7 = hI SI 33 1 ∧ hI SI 0 8 = hI SI 33 25 ∧ hI SI 11 1 = 0 ∧ hI SI 33 31 = 0) ∧ (hP SI 4 1 = none ∧ hI SI 33 7 = 0 ∧ hP SI 5 2 = none ∧ hI SI 40 0 = 0 ∧ hI SI 37 0 = 0 ∧ hI SI 37 1 = 0 ∧ hI SI 37 2 = 0 ∧ hI SI 5 11 = 0) := by decide +kernel
theorem SI_img : ∀ k, k < 2 → hP SI (29 + 2 * k) 1 = none ∧ hI SI 42 k = 0 ∧ hP SI (30 + 2 * k) 2 = none ∧ hI SI 44 (12 * k + 0) = 0 ∧ hI SI 43 (131 * k + 0) = 0 ∧ hI SI 43 (131 * k + 1) = 0 ∧ hI SI 43 (131 * k + 2) = 0 ∧ hI SI (30 + 2 * k) 11 = 0 := by decide +kernel
theorem RR_SI : RR SI := by
  obtain ⟨⟨a1, a2, a3, a4, a5, a6, a7⟩, b1, b2, b3, b4, b5, b6, b7, b8⟩ := SI_one
  refine ⟨SI_LM, SI_LC, ?_, ⟨0, by decide, a1, a2, fun j hj => absurd hj (by omega)⟩, ⟨a3, a4, a5⟩, ?_, ?_, ⟨0, by decide, a6, a7, fun j hj => absurd hj (by omega)⟩⟩
  · intro r hr
    obtain ⟨c1, c2, c3, c4, c5⟩ := SI_row r hr
    exact ⟨Or.inl c1, fun _ => c3, fun q => absurd (c1.symm.trans q) (by decide), c4.trans c2.symm, ⟨0, c2, by decide⟩, c5⟩
  · rw [b1]
    exact ⟨b2, b3, b4, b5, b6, b7, Or.inl b8⟩
  · intro k hk
    obtain ⟨c1, c2, c3, c4, c5, c6, c7, c8⟩ := SI_img k hk
    rw [c1]
    exact ⟨⟨c2, c3, c4, c5, c6, c7, Or.inl c8⟩, Or.inl c2⟩
