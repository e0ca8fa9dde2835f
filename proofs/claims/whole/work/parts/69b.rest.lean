/-! ===== the texts apart from one another; the texts' places, the nest mates ===== -/
def st_ix : List (Nat × Nat × Nat) := [(0, 1, 105), (0, 2, 114), (1, 2, 115), (0, 3, 124), (1, 3, 125), (2, 3, 126), (0, 7, 136), (1, 7, 137), (2, 7, 138), (3, 7, 139), (0, 8, 148), (1, 8, 149), (2, 8, 150), (3, 8, 151), (7, 8, 152), (0, 9, 161), (1, 9, 162), (2, 9, 163), (3, 9, 164), (7, 9, 165), (8, 9, 166), (0, 10, 175), (1, 10, 176), (2, 10, 177), (3, 10, 178), (7, 10, 179), (8, 10, 180), (9, 10, 181), (0, 4, 191), (1, 4, 192), (2, 4, 193), (3, 4, 194), (7, 4, 195), (8, 4, 196), (9, 4, 197), (10, 4, 198), (0, 5, 208), (1, 5, 209), (2, 5, 210), (3, 5, 211), (7, 5, 212), (8, 5, 213), (9, 5, 214), (10, 5, 215), (4, 5, 216), (0, 6, 225), (1, 6, 226), (2, 6, 227), (3, 6, 228), (7, 6, 229), (8, 6, 230), (9, 6, 231), (10, 6, 232), (4, 6, 233), (5, 6, 234)]
theorem st_ne : ∀ q ∈ st_ix, st_F[q.2.2]? = some (Cond.not (Cond.eq (.string RX10 (hSi.getD q.1 0)) (.string RX10 (hSi.getD q.2.1 0)))) := by decide +kernel
theorem st_any : ∀ i, i < 11 → ∀ j, j < 11 → i ≠ j → ∃ q ∈ st_ix, (q.1 = i ∧ q.2.1 = j) ∨ (q.1 = j ∧ q.2.1 = i) := by decide +kernel
theorem st_m6 (i : Nat) (hi : i < 11) (j : Nat) (hj : j < 11) (hij : i ≠ j) : Cond.not (Cond.eq (.string RX10 (hSi.getD i 0)) (.string RX10 (hSi.getD j 0))) ∈ st_F ∨ Cond.not (Cond.eq (.string RX10 (hSi.getD j 0)) (.string RX10 (hSi.getD i 0))) ∈ st_F := by
  obtain ⟨q, hq, h⟩ := st_any i hi j hj hij
  have e := List.mem_of_getElem? (st_ne q hq)
  rcases h with ⟨h1, h2⟩ | ⟨h1, h2⟩
  · rw [h1, h2] at e
    exact Or.inl e
  · rw [h1, h2] at e
    exact Or.inr e
theorem st_m7 : ∀ i, i < 11 → hSl.getD i 0 < 2 ^ 31 := by decide +kernel
theorem st_m8 : ∀ i, i < 11 → Cond.stringRef RX10 (hSi.getD i 0) (hSt.getD i "") ∈ lw_tbl := by decide +kernel
theorem st_m9 : ∀ q ∈ hNw, Cond.methodLinkNest q.1 q.2.1 q.2.2 RX11 ∈ lw_tbl := by decide +kernel
theorem st_ma : Cond.eq (.static "java/lang/String" "COMPACT_STRINGS" "Z") (.int 1) ∈ st_F ∧ Cond.isRef (.static "jdk/internal/util/Preconditions" "SIOOBE_FORMATTER" "Ljava/util/function/BiFunction;") ∈ st_F := by decide +kernel
