/-! ===== the class's cells, by name ===== -/
section L2F
variable {α : Type} {S : HS}
theorem kO_c0 (h : LC S) {g : Nat → Option α} : kO S (some 0) 11 g = g 0 := kO_some (h.lt (by decide)) (h.k (by decide) rfl)
theorem kI_c0 (h : LC S) {j : Nat} {f : Int32 → Option α} : kI S (some 0) 11 j f = f (hI S 0 j) := kI_some (h.lt (by decide)) (h.k (by decide) rfl)
theorem kP_c0 (h : LC S) {j : Nat} {f : Option Nat → Option α} : kP S (some 0) 11 j f = f (hP S 0 j) := kP_some (h.lt (by decide)) (h.k (by decide) rfl)
theorem kwI_c0 (h : LC S) {j : Nat} {v : Int32} {f : HS → Option α} : kwI S (some 0) 11 j v f = f (wI S 0 j v) := kwI_some (h.lt (by decide)) (h.k (by decide) rfl)
theorem kwP_c0 (h : LC S) {j : Nat} {v : Option Nat} {f : HS → Option α} : kwP S (some 0) 11 j v f = f (wP S 0 j v) := kwP_some (h.lt (by decide)) (h.k (by decide) rfl)
theorem kwZ_c0 (h : LC S) {j : Nat} {v : Int32} {f : HS → Option α} (hv : v = 0 ∨ v = 1) : kwZ S (some 0) 11 j v f = f (wI S 0 j v) := kwZ_v (h.lt (by decide)) (h.k (by decide) rfl) hv
theorem kO_c2 (h : LC S) {g : Nat → Option α} : kO S (some 2) 10 g = g 2 := kO_some (h.lt (by decide)) (h.k (by decide) rfl)
theorem kI_c2 (h : LC S) {j : Nat} {f : Int32 → Option α} : kI S (some 2) 10 j f = f (hI S 2 j) := kI_some (h.lt (by decide)) (h.k (by decide) rfl)
theorem kP_c2 (h : LC S) {j : Nat} {f : Option Nat → Option α} : kP S (some 2) 10 j f = f (hP S 2 j) := kP_some (h.lt (by decide)) (h.k (by decide) rfl)
theorem kwI_c2 (h : LC S) {j : Nat} {v : Int32} {f : HS → Option α} : kwI S (some 2) 10 j v f = f (wI S 2 j v) := kwI_some (h.lt (by decide)) (h.k (by decide) rfl)
theorem kwP_c2 (h : LC S) {j : Nat} {v : Option Nat} {f : HS → Option α} : kwP S (some 2) 10 j v f = f (wP S 2 j v) := kwP_some (h.lt (by decide)) (h.k (by decide) rfl)
theorem kwZ_c2 (h : LC S) {j : Nat} {v : Int32} {f : HS → Option α} (hv : v = 0 ∨ v = 1) : kwZ S (some 2) 10 j v f = f (wI S 2 j v) := kwZ_v (h.lt (by decide)) (h.k (by decide) rfl) hv
theorem kO_c4 (h : LC S) {g : Nat → Option α} : kO S (some 4) 9 g = g 4 := kO_some (h.lt (by decide)) (h.k (by decide) rfl)
theorem kI_c4 (h : LC S) {j : Nat} {f : Int32 → Option α} : kI S (some 4) 9 j f = f (hI S 4 j) := kI_some (h.lt (by decide)) (h.k (by decide) rfl)
theorem kP_c4 (h : LC S) {j : Nat} {f : Option Nat → Option α} : kP S (some 4) 9 j f = f (hP S 4 j) := kP_some (h.lt (by decide)) (h.k (by decide) rfl)
theorem kwI_c4 (h : LC S) {j : Nat} {v : Int32} {f : HS → Option α} : kwI S (some 4) 9 j v f = f (wI S 4 j v) := kwI_some (h.lt (by decide)) (h.k (by decide) rfl)
theorem kwP_c4 (h : LC S) {j : Nat} {v : Option Nat} {f : HS → Option α} : kwP S (some 4) 9 j v f = f (wP S 4 j v) := kwP_some (h.lt (by decide)) (h.k (by decide) rfl)
theorem kwZ_c4 (h : LC S) {j : Nat} {v : Int32} {f : HS → Option α} (hv : v = 0 ∨ v = 1) : kwZ S (some 4) 9 j v f = f (wI S 4 j v) := kwZ_v (h.lt (by decide)) (h.k (by decide) rfl) hv
theorem kO_c5 (h : LC S) {g : Nat → Option α} : kO S (some 5) 8 g = g 5 := kO_some (h.lt (by decide)) (h.k (by decide) rfl)
theorem kI_c5 (h : LC S) {j : Nat} {f : Int32 → Option α} : kI S (some 5) 8 j f = f (hI S 5 j) := kI_some (h.lt (by decide)) (h.k (by decide) rfl)
theorem kP_c5 (h : LC S) {j : Nat} {f : Option Nat → Option α} : kP S (some 5) 8 j f = f (hP S 5 j) := kP_some (h.lt (by decide)) (h.k (by decide) rfl)
theorem kwI_c5 (h : LC S) {j : Nat} {v : Int32} {f : HS → Option α} : kwI S (some 5) 8 j v f = f (wI S 5 j v) := kwI_some (h.lt (by decide)) (h.k (by decide) rfl)
theorem kwP_c5 (h : LC S) {j : Nat} {v : Option Nat} {f : HS → Option α} : kwP S (some 5) 8 j v f = f (wP S 5 j v) := kwP_some (h.lt (by decide)) (h.k (by decide) rfl)
theorem kwZ_c5 (h : LC S) {j : Nat} {v : Int32} {f : HS → Option α} (hv : v = 0 ∨ v = 1) : kwZ S (some 5) 8 j v f = f (wI S 5 j v) := kwZ_v (h.lt (by decide)) (h.k (by decide) rfl) hv
theorem kO_c7 (h : LC S) {g : Nat → Option α} : kO S (some 7) 4 g = g 7 := kO_some (h.lt (by decide)) (h.k (by decide) rfl)
theorem kI_c7 (h : LC S) {j : Nat} {f : Int32 → Option α} : kI S (some 7) 4 j f = f (hI S 7 j) := kI_some (h.lt (by decide)) (h.k (by decide) rfl)
theorem kP_c7 (h : LC S) {j : Nat} {f : Option Nat → Option α} : kP S (some 7) 4 j f = f (hP S 7 j) := kP_some (h.lt (by decide)) (h.k (by decide) rfl)
theorem kwI_c7 (h : LC S) {j : Nat} {v : Int32} {f : HS → Option α} : kwI S (some 7) 4 j v f = f (wI S 7 j v) := kwI_some (h.lt (by decide)) (h.k (by decide) rfl)
theorem kwP_c7 (h : LC S) {j : Nat} {v : Option Nat} {f : HS → Option α} : kwP S (some 7) 4 j v f = f (wP S 7 j v) := kwP_some (h.lt (by decide)) (h.k (by decide) rfl)
theorem kwZ_c7 (h : LC S) {j : Nat} {v : Int32} {f : HS → Option α} (hv : v = 0 ∨ v = 1) : kwZ S (some 7) 4 j v f = f (wI S 7 j v) := kwZ_v (h.lt (by decide)) (h.k (by decide) rfl) hv
theorem kO_c8 (h : LC S) {g : Nat → Option α} : kO S (some 8) 8 g = g 8 := kO_some (h.lt (by decide)) (h.k (by decide) rfl)
theorem kI_c8 (h : LC S) {j : Nat} {f : Int32 → Option α} : kI S (some 8) 8 j f = f (hI S 8 j) := kI_some (h.lt (by decide)) (h.k (by decide) rfl)
theorem kP_c8 (h : LC S) {j : Nat} {f : Option Nat → Option α} : kP S (some 8) 8 j f = f (hP S 8 j) := kP_some (h.lt (by decide)) (h.k (by decide) rfl)
theorem kwI_c8 (h : LC S) {j : Nat} {v : Int32} {f : HS → Option α} : kwI S (some 8) 8 j v f = f (wI S 8 j v) := kwI_some (h.lt (by decide)) (h.k (by decide) rfl)
theorem kwP_c8 (h : LC S) {j : Nat} {v : Option Nat} {f : HS → Option α} : kwP S (some 8) 8 j v f = f (wP S 8 j v) := kwP_some (h.lt (by decide)) (h.k (by decide) rfl)
theorem kwZ_c8 (h : LC S) {j : Nat} {v : Int32} {f : HS → Option α} (hv : v = 0 ∨ v = 1) : kwZ S (some 8) 8 j v f = f (wI S 8 j v) := kwZ_v (h.lt (by decide)) (h.k (by decide) rfl) hv
theorem kO_c11 (h : LC S) {g : Nat → Option α} : kO S (some 11) 0 g = g 11 := kO_some (h.lt (by decide)) (h.k (by decide) rfl)
theorem kI_c11 (h : LC S) {j : Nat} {f : Int32 → Option α} : kI S (some 11) 0 j f = f (hI S 11 j) := kI_some (h.lt (by decide)) (h.k (by decide) rfl)
theorem kP_c11 (h : LC S) {j : Nat} {f : Option Nat → Option α} : kP S (some 11) 0 j f = f (hP S 11 j) := kP_some (h.lt (by decide)) (h.k (by decide) rfl)
theorem kwI_c11 (h : LC S) {j : Nat} {v : Int32} {f : HS → Option α} : kwI S (some 11) 0 j v f = f (wI S 11 j v) := kwI_some (h.lt (by decide)) (h.k (by decide) rfl)
theorem kwP_c11 (h : LC S) {j : Nat} {v : Option Nat} {f : HS → Option α} : kwP S (some 11) 0 j v f = f (wP S 11 j v) := kwP_some (h.lt (by decide)) (h.k (by decide) rfl)
theorem kwZ_c11 (h : LC S) {j : Nat} {v : Int32} {f : HS → Option α} (hv : v = 0 ∨ v = 1) : kwZ S (some 11) 0 j v f = f (wI S 11 j v) := kwZ_v (h.lt (by decide)) (h.k (by decide) rfl) hv
theorem kP_c0_0 (h : LC S) {f : Option Nat → Option α} : kP S (some 0) 11 0 f = f (some 1) := (kP_c0 h).trans (congrArg f (h.2.2.2.1.1))
theorem kP_c0_1 (h : LC S) {f : Option Nat → Option α} : kP S (some 0) 11 1 f = f (some 2) := (kP_c0 h).trans (congrArg f (h.2.2.2.1.2.1))
theorem kP_c0_2 (h : LC S) {f : Option Nat → Option α} : kP S (some 0) 11 2 f = f (some 4) := (kP_c0 h).trans (congrArg f (h.2.2.2.1.2.2.1))
theorem kP_c0_3 (h : LC S) {f : Option Nat → Option α} : kP S (some 0) 11 3 f = f (some 6) := (kP_c0 h).trans (congrArg f (h.2.2.2.1.2.2.2.1))
theorem kP_c0_4 (h : LC S) {f : Option Nat → Option α} : kP S (some 0) 11 4 f = f (some 7) := (kP_c0 h).trans (congrArg f (h.2.2.2.1.2.2.2.2.1))
theorem kP_c0_5 (h : LC S) {f : Option Nat → Option α} : kP S (some 0) 11 5 f = f (some 11) := (kP_c0 h).trans (congrArg f (h.2.2.2.1.2.2.2.2.2))
theorem kP_c2_0 (h : LC S) {f : Option Nat → Option α} : kP S (some 2) 10 0 f = f (some 3) := (kP_c2 h).trans (congrArg f (h.2.2.2.2.2.1))
theorem kP_c4_0 (h : LC S) {f : Option Nat → Option α} : kP S (some 4) 9 0 f = f (some 5) := (kP_c4 h).trans (congrArg f (h.2.2.2.2.2.2.1))
theorem kP_c7_0 (h : LC S) {f : Option Nat → Option α} : kP S (some 7) 4 0 f = f (some 8) := (kP_c7 h).trans (congrArg f (h.2.2.2.2.2.2.2.2.2.1))
theorem kP_c7_1 (h : LC S) {f : Option Nat → Option α} : kP S (some 7) 4 1 f = f (some 9) := (kP_c7 h).trans (congrArg f (h.2.2.2.2.2.2.2.2.2.2.1))
theorem kP_c7_2 (h : LC S) {f : Option Nat → Option α} : kP S (some 7) 4 2 f = f (some 10) := (kP_c7 h).trans (congrArg f (h.2.2.2.2.2.2.2.2.2.2.2.1))
theorem kP_c11_0 (h : LC S) {f : Option Nat → Option α} : kP S (some 11) 0 0 f = f (some 12) := (kP_c11 h).trans (congrArg f (h.2.2.2.2.2.2.2.2.2.2.2.2.1))
theorem kA_c3 (h : LC S) {i : Int32} {k : Nat} {f : Int32 → Option α} (hi : i = nI k) (hk : k < 500) : kA S (some 3) 13 i f = f (hI S 3 k) := (kA_in (h.lt (by decide)) (h.k (by decide) rfl) (by rw [h.l (c := 3) (k := 500) (by decide) rfl]; exact ix_ok hi hk (by decide))).trans (by rw [hi, nI_clamp (by omega)])
theorem kwA_c3 (h : LC S) {i v : Int32} {k : Nat} {f : HS → Option α} (hi : i = nI k) (hk : k < 500) : kwA S (some 3) 13 i v f = f (wI S 3 k v) := (kwA_in (h.lt (by decide)) (h.k (by decide) rfl) (by rw [h.l (c := 3) (k := 500) (by decide) rfl]; exact ix_ok hi hk (by decide))).trans (by rw [hi, nI_clamp (by omega)])
theorem kA_c9 (h : LC S) {i : Int32} {k : Nat} {f : Int32 → Option α} (hi : i = nI k) (hk : k < 3) : kA S (some 9) 14 i f = f (hI S 9 k) := (kA_in (h.lt (by decide)) (h.k (by decide) rfl) (by rw [h.l (c := 9) (k := 3) (by decide) rfl]; exact ix_ok hi hk (by decide))).trans (by rw [hi, nI_clamp (by omega)])
theorem kwA_c9 (h : LC S) {i v : Int32} {k : Nat} {f : HS → Option α} (hi : i = nI k) (hk : k < 3) : kwA S (some 9) 14 i v f = f (wI S 9 k v) := (kwA_in (h.lt (by decide)) (h.k (by decide) rfl) (by rw [h.l (c := 9) (k := 3) (by decide) rfl]; exact ix_ok hi hk (by decide))).trans (by rw [hi, nI_clamp (by omega)])
theorem kA_c10 (h : LC S) {i : Int32} {k : Nat} {f : Int32 → Option α} (hi : i = nI k) (hk : k < 3) : kA S (some 10) 14 i f = f (hI S 10 k) := (kA_in (h.lt (by decide)) (h.k (by decide) rfl) (by rw [h.l (c := 10) (k := 3) (by decide) rfl]; exact ix_ok hi hk (by decide))).trans (by rw [hi, nI_clamp (by omega)])
theorem kwA_c10 (h : LC S) {i v : Int32} {k : Nat} {f : HS → Option α} (hi : i = nI k) (hk : k < 3) : kwA S (some 10) 14 i v f = f (wI S 10 k v) := (kwA_in (h.lt (by decide)) (h.k (by decide) rfl) (by rw [h.l (c := 10) (k := 3) (by decide) rfl]; exact ix_ok hi hk (by decide))).trans (by rw [hi, nI_clamp (by omega)])
theorem kA_c12 (h : LC S) {i : Int32} {k : Nat} {f : Int32 → Option α} (hi : i = nI k) (hk : k < 16) : kA S (some 12) 14 i f = f (hI S 12 k) := (kA_in (h.lt (by decide)) (h.k (by decide) rfl) (by rw [h.l (c := 12) (k := 16) (by decide) rfl]; exact ix_ok hi hk (by decide))).trans (by rw [hi, nI_clamp (by omega)])
theorem kwA_c12 (h : LC S) {i v : Int32} {k : Nat} {f : HS → Option α} (hi : i = nI k) (hk : k < 16) : kwA S (some 12) 14 i v f = f (wI S 12 k v) := (kwA_in (h.lt (by decide)) (h.k (by decide) rfl) (by rw [h.l (c := 12) (k := 16) (by decide) rfl]; exact ix_ok hi hk (by decide))).trans (by rw [hi, nI_clamp (by omega)])
theorem kAP_c1 (h : LC S) {i : Int32} {r : Nat} {f : Option Nat → Option α} (hi : i = nI r) (hr : r < 8) : kAP S (some 1) 19 i f = f (some (13 + 2 * r)) := (kAP_in (h.lt (by decide)) (h.k (by decide) rfl) (by rw [h.l (c := 1) (k := 8) (by decide) rfl]; exact ix_ok hi hr (by decide))).trans (by rw [hi, nI_clamp (by omega), (h.2.2.2.2.1 r hr).1])
theorem kAP_c6 (h : LC S) {i : Int32} {r : Nat} {f : Option Nat → Option α} (hi : i = nI r) (hr : r < 2) : kAP S (some 6) 21 i f = f (some (29 + 2 * r)) := (kAP_in (h.lt (by decide)) (h.k (by decide) rfl) (by rw [h.l (c := 6) (k := 2) (by decide) rfl]; exact ix_ok hi hr (by decide))).trans (by rw [hi, nI_clamp (by omega)]; rcases (by omega : r = 0 ∨ r = 1) with rfl | rfl; exact congrArg f h.2.2.2.2.2.2.2.1; exact congrArg f h.2.2.2.2.2.2.2.2.1)
theorem LC.k_row (h : LC S) {r : Nat} (hr : r < 8) : hK S (13 + 2 * r) = 6 := by
  rcases (by omega : r = 0 ∨ r = 1 ∨ r = 2 ∨ r = 3 ∨ r = 4 ∨ r = 5 ∨ r = 6 ∨ r = 7) with rfl | rfl | rfl | rfl | rfl | rfl | rfl | rfl
  all_goals exact h.k (by decide) rfl
theorem LC.k_items (h : LC S) {r : Nat} (hr : r < 8) : hK S (14 + 2 * r) = 14 := by
  rcases (by omega : r = 0 ∨ r = 1 ∨ r = 2 ∨ r = 3 ∨ r = 4 ∨ r = 5 ∨ r = 6 ∨ r = 7) with rfl | rfl | rfl | rfl | rfl | rfl | rfl | rfl
  all_goals exact h.k (by decide) rfl
theorem LC.k_img (h : LC S) {r : Nat} (hr : r < 2) : hK S (29 + 2 * r) = 9 := by
  rcases (by omega : r = 0 ∨ r = 1) with rfl | rfl
  all_goals exact h.k (by decide) rfl
theorem LC.k_irun (h : LC S) {r : Nat} (hr : r < 2) : hK S (30 + 2 * r) = 8 := by
  rcases (by omega : r = 0 ∨ r = 1) with rfl | rfl
  all_goals exact h.k (by decide) rfl
theorem LC.l_items (h : LC S) {r : Nat} (hr : r < 8) : hL S (14 + 2 * r) = 40 := by
  rcases (by omega : r = 0 ∨ r = 1 ∨ r = 2 ∨ r = 3 ∨ r = 4 ∨ r = 5 ∨ r = 6 ∨ r = 7) with rfl | rfl | rfl | rfl | rfl | rfl | rfl | rfl
  all_goals exact h.l (by decide) rfl
theorem kO_row (h : LC S) {r : Nat} (hr : r < 8) {g : Nat → Option α} : kO S (some (13 + 2 * r)) 6 g = g (13 + 2 * r) := kO_some (h.lt (by omega)) (h.k_row hr)
theorem kI_row (h : LC S) {r : Nat} (hr : r < 8) {j : Nat} {f : Int32 → Option α} : kI S (some (13 + 2 * r)) 6 j f = f (hI S (13 + 2 * r) j) := kI_some (h.lt (by omega)) (h.k_row hr)
theorem kP_row (h : LC S) {r : Nat} (hr : r < 8) {j : Nat} {f : Option Nat → Option α} : kP S (some (13 + 2 * r)) 6 j f = f (hP S (13 + 2 * r) j) := kP_some (h.lt (by omega)) (h.k_row hr)
theorem kwI_row (h : LC S) {r : Nat} (hr : r < 8) {j : Nat} {v : Int32} {f : HS → Option α} : kwI S (some (13 + 2 * r)) 6 j v f = f (wI S (13 + 2 * r) j v) := kwI_some (h.lt (by omega)) (h.k_row hr)
theorem kwP_row (h : LC S) {r : Nat} (hr : r < 8) {j : Nat} {v : Option Nat} {f : HS → Option α} : kwP S (some (13 + 2 * r)) 6 j v f = f (wP S (13 + 2 * r) j v) := kwP_some (h.lt (by omega)) (h.k_row hr)
theorem kwZ_row (h : LC S) {r : Nat} (hr : r < 8) {j : Nat} {v : Int32} {f : HS → Option α} (hv : v = 0 ∨ v = 1) : kwZ S (some (13 + 2 * r)) 6 j v f = f (wI S (13 + 2 * r) j v) := kwZ_v (h.lt (by omega)) (h.k_row hr) hv
theorem kO_img (h : LC S) {r : Nat} (hr : r < 2) {g : Nat → Option α} : kO S (some (29 + 2 * r)) 9 g = g (29 + 2 * r) := kO_some (h.lt (by omega)) (h.k_img hr)
theorem kI_img (h : LC S) {r : Nat} (hr : r < 2) {j : Nat} {f : Int32 → Option α} : kI S (some (29 + 2 * r)) 9 j f = f (hI S (29 + 2 * r) j) := kI_some (h.lt (by omega)) (h.k_img hr)
theorem kP_img (h : LC S) {r : Nat} (hr : r < 2) {j : Nat} {f : Option Nat → Option α} : kP S (some (29 + 2 * r)) 9 j f = f (hP S (29 + 2 * r) j) := kP_some (h.lt (by omega)) (h.k_img hr)
theorem kwI_img (h : LC S) {r : Nat} (hr : r < 2) {j : Nat} {v : Int32} {f : HS → Option α} : kwI S (some (29 + 2 * r)) 9 j v f = f (wI S (29 + 2 * r) j v) := kwI_some (h.lt (by omega)) (h.k_img hr)
theorem kwP_img (h : LC S) {r : Nat} (hr : r < 2) {j : Nat} {v : Option Nat} {f : HS → Option α} : kwP S (some (29 + 2 * r)) 9 j v f = f (wP S (29 + 2 * r) j v) := kwP_some (h.lt (by omega)) (h.k_img hr)
theorem kwZ_img (h : LC S) {r : Nat} (hr : r < 2) {j : Nat} {v : Int32} {f : HS → Option α} (hv : v = 0 ∨ v = 1) : kwZ S (some (29 + 2 * r)) 9 j v f = f (wI S (29 + 2 * r) j v) := kwZ_v (h.lt (by omega)) (h.k_img hr) hv
theorem kO_irun (h : LC S) {r : Nat} (hr : r < 2) {g : Nat → Option α} : kO S (some (30 + 2 * r)) 8 g = g (30 + 2 * r) := kO_some (h.lt (by omega)) (h.k_irun hr)
theorem kI_irun (h : LC S) {r : Nat} (hr : r < 2) {j : Nat} {f : Int32 → Option α} : kI S (some (30 + 2 * r)) 8 j f = f (hI S (30 + 2 * r) j) := kI_some (h.lt (by omega)) (h.k_irun hr)
theorem kP_irun (h : LC S) {r : Nat} (hr : r < 2) {j : Nat} {f : Option Nat → Option α} : kP S (some (30 + 2 * r)) 8 j f = f (hP S (30 + 2 * r) j) := kP_some (h.lt (by omega)) (h.k_irun hr)
theorem kwI_irun (h : LC S) {r : Nat} (hr : r < 2) {j : Nat} {v : Int32} {f : HS → Option α} : kwI S (some (30 + 2 * r)) 8 j v f = f (wI S (30 + 2 * r) j v) := kwI_some (h.lt (by omega)) (h.k_irun hr)
theorem kwP_irun (h : LC S) {r : Nat} (hr : r < 2) {j : Nat} {v : Option Nat} {f : HS → Option α} : kwP S (some (30 + 2 * r)) 8 j v f = f (wP S (30 + 2 * r) j v) := kwP_some (h.lt (by omega)) (h.k_irun hr)
theorem kwZ_irun (h : LC S) {r : Nat} (hr : r < 2) {j : Nat} {v : Int32} {f : HS → Option α} (hv : v = 0 ∨ v = 1) : kwZ S (some (30 + 2 * r)) 8 j v f = f (wI S (30 + 2 * r) j v) := kwZ_v (h.lt (by omega)) (h.k_irun hr) hv
theorem kP_row0 (h : LC S) {r : Nat} (hr : r < 8) {f : Option Nat → Option α} : kP S (some (13 + 2 * r)) 6 0 f = f (some (14 + 2 * r)) := (kP_row h hr).trans (congrArg f (h.2.2.2.2.1 r hr).2)
theorem kP_img0 (h : LC S) {r : Nat} (hr : r < 2) {f : Option Nat → Option α} : kP S (some (29 + 2 * r)) 9 0 f = f (some (30 + 2 * r)) := (kP_img h hr).trans (by rcases (by omega : r = 0 ∨ r = 1) with rfl | rfl; exact congrArg f h.2.2.2.2.2.2.2.2.2.2.2.2.2.1; exact congrArg f h.2.2.2.2.2.2.2.2.2.2.2.2.2.2)
theorem kA_items (h : LC S) {r : Nat} (hr : r < 8) {i : Int32} {k : Nat} {f : Int32 → Option α} (hi : i = nI k) (hk : k < 40) : kA S (some (14 + 2 * r)) 14 i f = f (hI S (14 + 2 * r) k) := (kA_in (h.lt (by omega)) (h.k_items hr) (by rw [h.l_items hr]; exact ix_ok hi hk (by decide))).trans (by rw [hi, nI_clamp (by omega)])
theorem kwA_items (h : LC S) {r : Nat} (hr : r < 8) {i v : Int32} {k : Nat} {f : HS → Option α} (hi : i = nI k) (hk : k < 40) : kwA S (some (14 + 2 * r)) 14 i v f = f (wI S (14 + 2 * r) k v) := (kwA_in (h.lt (by omega)) (h.k_items hr) (by rw [h.l_items hr]; exact ix_ok hi hk (by decide))).trans (by rw [hi, nI_clamp (by omega)])
end L2F
/-- class and reference answer the same, and stand as they should behind it -/
def CK (P Q : HS → Option (Int32 × HS)) (S : HS) : Prop := ∃ r S1 S2, P S = some (r, S1) ∧ Q S1 = some (r, S2) ∧ RR S2
theorem SX.w0 (S : HS) : SX S (wI S 33 0 0) := by
  rw [wI_wC]
  exact SX.w33 _ (fun j hj => rup_ne (by omega))
theorem SX.m37 {S T : HS} (g : SX S T) : hI T 37 = hI S 37 := g.2.2.2.1 37 (by decide) (by decide) (by decide) (by decide) (by decide) (by decide) (by decide)
theorem SX.lm {S T : HS} (g : SX S T) (h : LM S) : LM T := h.to g.1 g.2.1 g.2.2.1 (g.2.2.2.2.2.1 33 (by decide) (by decide))
theorem SX.ge {S T : HS} (g : SX S T) {c : Nat} (hc : 46 ≤ c) : hI T c = hI S c := g.2.2.2.1 c (by omega) (by omega) (by omega) (by omega) (by omega) (by omega) (by omega)
theorem isD.ne {S : HS} {c d : Nat} (h : isD S c d) : ¬ hI S c 0 = 0 := by
  obtain ⟨-, -, -, -, -, W, C, T, e0, -, -, hW, hW2, -⟩ := h
  rw [e0]
  exact nI_ne0 (by omega) (by omega)
theorem isD.mw {S : HS} {c d : Nat} (h : isD S c d) : ¬ hI S 37 (3 + 3 * d) = 0 := by
  have e : hI S c 0 = hI S 37 (3 + 3 * d) := h.2.2.2.2.1 0 (by decide)
  rw [← e]
  exact h.ne
theorem FR_start (ρ σ : Nat → Int32) (t0 : Int32) : FR (c0 ρ t0) (rup (rup (rup σ 19 t0) 20 0) 21 0) := ⟨rfl, rfl, rfl⟩
theorem TOK_start {S : HS} {q : Nat} {t0 : Int32} (h0 : 1 ≤ t0.toInt) (h1 : t0.toInt ≤ (hI S q 2).toInt) : TOK (hI S q 2) t0 0 := ⟨by omega, by decide⟩
theorem mTk_21b {ρ β : Nat → Int32} {d k : Nat} {f lamp : Int32} (h : ρ 21 = 0 ∨ ρ 21 = 1) : (mTk ρ β d k f lamp) 21 = 0 ∨ (mTk ρ β d k f lamp) 21 = 1 := by
  rw [mTk_21]
  unfold tkSn
  split
  · exact h
  · split
    · exact Or.inl rfl
    · exact Or.inr rfl
theorem mG_21b {β : Nat → Int32} {d k : Nat} {f fr : Int32} : ∀ (n : Nat) (ρ : Nat → Int32) (m : Int32), (ρ 21 = 0 ∨ ρ 21 = 1) → ((mG β d k f fr n ρ m).2 21 = 0 ∨ (mG β d k f fr n ρ m).2 21 = 1) := by
  intro n
  induction n with
  | zero => intro ρ m h; exact h
  | succ n ih =>
    intro ρ m h
    rw [mG_succ]
    by_cases c : ρ 21 = 0
    · rw [if_pos c]
      exact ih _ _ (mTk_21b h)
    · rw [if_neg c]
      exact h
/-- what mG leaves alone -/
theorem mTk_fr (ρ β : Nat → Int32) (d k : Nat) (f lamp : Int32) {j : Nat} (h : j < 19 ∨ 23 < j) : (mTk ρ β d k f lamp) j = ρ j := by
  show rup (rup (rup (rup (rup ρ 19 _) 20 _) 21 _) 22 _) 23 _ j = ρ j
  rw [rup_ne (by omega), rup_ne (by omega), rup_ne (by omega), rup_ne (by omega), rup_ne (by omega)]
theorem mG_fr (β : Nat → Int32) (d k : Nat) (f fr : Int32) {j : Nat} (h : j < 19 ∨ 23 < j) : ∀ (n : Nat) (ρ : Nat → Int32) (m : Int32), (mG β d k f fr n ρ m).2 j = ρ j := by
  intro n
  induction n with
  | zero => intro ρ m; rfl
  | succ n ih =>
    intro ρ m
    rw [mG_succ]
    split
    · rw [ih, mTk_fr _ _ _ _ _ _ h]
    · rfl
theorem w33_fr {S : HS} {f : Nat → Int32} (h : ∀ j, j < 19 ∨ 23 < j → f j = hI S 33 j) : SX S (wC S 33 f) := SX.w33 _ (fun j hj => h j (by omega))
theorem I_N {n : Int32} {a b : Int} (h0 : a ≤ n.toInt) (h1 : n.toInt ≤ b) (ha : 0 ≤ a) : ∃ N : Nat, n = nI N ∧ a ≤ (N : Int) ∧ (N : Int) ≤ b := ⟨n.toInt.toNat, (ix_to (i := n) (lo := a) (hi := b + 1) h0 (by omega) ha).1, by omega, by omega⟩
