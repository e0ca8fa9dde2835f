/-! ===== set, drop, copy ===== -/
theorem RR.rs {S : HS} (h : RR S) {r : Nat} (hr : r < 8) : RS S r := h.2.2.1 r hr
theorem RS.two {S : HS} {r : Nat} (h : RS S r) : (hI S (13 + 2 * r) 1 = 0 ∧ hI S 34 r = -1) ∨ (hI S (13 + 2 * r) 1 = 1 ∧ hI S 34 r = hI S (13 + 2 * r) 2 ∧ ∃ q : Nat, hI S (13 + 2 * r) 2 = nI q ∧ q ≤ 2) := by
  obtain ⟨a1, a2, a3, -⟩ := h
  rcases a1 with a1 | a1
  · exact Or.inl ⟨a1, a2 a1⟩
  · exact Or.inr ⟨a1, a3 a1⟩
theorem RS.sz {S : HS} {r : Nat} (h : RS S r) : hI S 35 r = hI S (13 + 2 * r) 3 ∧ ∃ q : Nat, hI S (13 + 2 * r) 3 = nI q ∧ q ≤ 40 := ⟨h.2.2.2.1, h.2.2.2.2.1⟩
theorem RS.it {S : HS} {r : Nat} (h : RS S r) {j : Nat} (hj : j < 40) : hI S 36 (40 * r + j) = hI S (14 + 2 * r) j := h.2.2.2.2.2 j hj
theorem n40 {r k : Nat} {l1 l2 : Int32} (h1 : l1 = nI r) (h2 : l2 = nI k) : 40 * l1 + l2 = nI (40 * r + k) := by rw [h1, h2, show (40 : Int32) = nI 40 from rfl, nI_mul, nI_add]
section L2V
variable {S : HS}
theorem c_finding (h : LC S) {r : Nat} (hr : r < 8) (i n : Int32) : s_X6_findingAt S (13 + 2 * r) i n = some ((if hI S (13 + 2 * r) 1 = 0 then 1 else if 0 ≤ i.toInt ∧ 0 ≤ n.toInt ∧ i.toInt + n.toInt ≤ (hI S (13 + 2 * r) 3).toInt then 0 else 2), S) := by
  unfold s_X6_findingAt
  rw [kI_row h hr]
  by_cases c1 : hI S (13 + 2 * r) 1 = 0
  · rw [if_pos c1, if_pos c1]
  · rw [if_neg c1, if_neg c1, kO_row h hr, c_holds h hr, kc_some]
    by_cases c2 : 0 ≤ i.toInt ∧ 0 ≤ n.toInt ∧ i.toInt + n.toInt ≤ (hI S (13 + 2 * r) 3).toInt
    · rw [if_pos c2, if_pos c2, if_neg (by decide)]
    · rw [if_neg c2, if_neg c2, if_pos rfl]
def pv (ln v : Int32) : Int32 := if ln = 0 then v.toInt8.toInt32 else if ln = 1 then v.toInt16.toInt32 else v
theorem c_put (h : LC S) {r k : Nat} (hr : r < 8) (hk : k < 40) {i v : Int32} (hi : i = nI k) (hh : 0 ≤ i.toInt ∧ 0 ≤ (1 : Int32).toInt ∧ i.toInt + (1 : Int32).toInt ≤ (hI S (13 + 2 * r) 3).toInt) : s_X6_put S (13 + 2 * r) i v = some (pv (hI S (13 + 2 * r) 2) v, wI S (14 + 2 * r) k (pv (hI S (13 + 2 * r) 2) v)) := by
  have b42 : ∀ w : Int32, s_X6_put_b42 (13 + 2 * r) S i (some (14 + 2 * r)) i w = some (w, wI S (14 + 2 * r) k w) := by
    intro w
    unfold s_X6_put_b42
    rw [kwA_items h hr hi hk, kP_row0 (by exact h) hr, kA_items (S := wI S (14 + 2 * r) k w) h hr hi hk, hI_wI_self]
  unfold s_X6_put pv
  rw [kO_row h hr, c_holds h hr, kc_some, if_pos hh, if_neg (by decide), kP_row0 h hr, kI_row h hr]
  by_cases c1 : hI S (13 + 2 * r) 2 = 0
  · rw [if_pos c1, if_pos c1, b42]
  · rw [if_neg c1, if_neg c1, kI_row h hr]
    by_cases c2 : hI S (13 + 2 * r) 2 = 1
    · rw [if_pos c2, if_pos c2, b42]
    · rw [if_neg c2, if_neg c2, b42]
end L2V
theorem ok_set {S : HS} (h : RR S) (l1 l2 l3 : Int32) : CK (fun S => s_X11_set S 0 l1 l2 l3) (fun S => s_X12_set S 33 l1 l2 l3) S := by
  have hC := h.2.1
  have hM := h.1
  have t1 : (1 : Int32).toInt = 1 := rfl
  show ∃ r S1 S2, s_X11_set S 0 l1 l2 l3 = some (r, S1) ∧ s_X12_set S1 33 l1 l2 l3 = some (r, S2) ∧ RR S2
  unfold s_X11_set
  rw [kO_c0 hC]
  rcases c_rowAt hC l1 with ⟨r, hr, e1, e⟩ | ⟨nr, e⟩
  · have z : 0 ≤ l1.toInt ∧ l1.toInt ≤ 7 := by rw [e1, nI_toInt (by omega)]; omega
    have hs := h.rs hr
    obtain ⟨sz1, n, sz2, sz3⟩ := hs.sz
    have szi : (hI S (13 + 2 * r) 3).toInt = (n : Int) := by rw [sz2]; exact nI_toInt (by omega)
    rw [e, kc_some, if_neg (by simp), kO_row hC hr, c_finding hC hr, kc_some]
    -- the reference up to the finding
    have mo : ∀ X : HS, LM X → hI X 34 = hI S 34 → hI X 35 = hI S 35 → s_X12_set X 33 l1 l2 l3 = (if 0 ≤ hI S 34 r then (if 0 ≤ l2.toInt ∧ l2.toInt + 1 ≤ n then kP (wI (wI X 33 0 0) 33 1 0) (some 33) 12 4 (fun v11 => if hI S 34 r = 0 then s_X12_set_b99 33 (wI (wI X 33 0 0) 33 1 0) l1 l2 v11 ((40 * l1) + l2) l3.toInt8.toInt32 else (if hI S 34 r = 1 then s_X12_set_b99 33 (wI (wI X 33 0 0) 33 1 0) l1 l2 v11 ((40 * l1) + l2) l3.toInt16.toInt32 else s_X12_set_b99 33 (wI (wI X 33 0 0) 33 1 0) l1 l2 v11 ((40 * l1) + l2) l3)) else some (-1000010 - 2, wI (wI (wI X 33 0 0) 33 1 0) 33 1 2)) else some (-1000010 - 1, wI (wI (wI X 33 0 0) 33 1 0) 33 1 1)) := by
      intro X hX e34 e35
      have hX2 : LM (wI (wI X 33 0 0) 33 1 0) := hX
      have f34 : hI (wI (wI X 33 0 0) 33 1 0) 34 = hI S 34 := by rw [hI_wI_ne (by decide), hI_wI_ne (by decide)]; exact e34
      have f35 : hI (wI (wI X 33 0 0) 33 1 0) 35 = hI S 35 := by rw [hI_wI_ne (by decide), hI_wI_ne (by decide)]; exact e35
      have em : (hI S 35 r - 1 : Int32).toInt64.toInt = (n : Int) - 1 := by
        rw [i64_of32, sz1, i32_sub (by omega) (by omega), szi, t1]
      unfold s_X12_set
      rw [kwI_m hX, m_isRow, kc_some, if_pos z, if_neg (by decide), kwI_m (by exact hX), kP_m2 hX2, kA_m34 hX2 e1 hr, f34]
      by_cases c1 : 0 ≤ hI S 34 r
      · rw [if_pos c1, if_pos c1, kP_m3 hX2, kA_m35 hX2 e1 hr, f35, m_inI _ (a := 0) (b := (n : Int) - 1) rfl em, kc_some]
        by_cases c2 : 0 ≤ l2.toInt ∧ l2.toInt + 1 ≤ n
        · rw [if_pos c2, if_pos (show 0 ≤ l2.toInt ∧ l2.toInt ≤ (n : Int) - 1 by omega), if_neg (by decide)]
          rw [kP_m4 hX2, kP_m4 hX2, kP_m2 hX2, kA_m34 hX2 e1 hr, f34, kP_m2 hX2, kA_m34 hX2 e1 hr, f34]
        · rw [if_neg c2, if_neg (show ¬ (0 ≤ l2.toInt ∧ l2.toInt ≤ (n : Int) - 1) by omega), if_pos rfl, kO_m hX2, m_finding hX2, kc_some]
      · rw [if_neg c1, if_neg c1, kO_m hX2, m_finding hX2, kc_some]
    rcases hs.two with ⟨a1, a2⟩ | ⟨a1, a2, q, a3, a4⟩
    · rw [if_pos a1, if_neg (by decide), kO_c0 hC, c_found hC, kc_some]
      refine ⟨_, _, _, rfl, ?_, h.fnd2 1⟩
      rw [mo (wI S 0 7 1) hM rfl rfl, a2, if_neg (by decide)]
      rfl
    · rw [a1, if_neg (show ¬ (1 : Int32) = 0 by decide)]
      have nn : (0 : Int32) ≤ hI S 34 r := by rw [a2, a3]; exact z_le (by omega)
      by_cases c2 : 0 ≤ l2.toInt ∧ l2.toInt + 1 ≤ n
      · have hh : 0 ≤ l2.toInt ∧ 0 ≤ (1 : Int32).toInt ∧ l2.toInt + (1 : Int32).toInt ≤ (hI S (13 + 2 * r) 3).toInt := by rw [t1, szi]; omega
        obtain ⟨k, hk, -, hk2⟩ := I_N (n := l2) (a := 0) (b := 39) c2.1 (by omega) (by decide)
        have hk40 : k < 40 := by omega
        rw [if_pos hh, if_pos rfl, kO_row hC hr, c_put hC hr hk40 hk hh, kc_some, kO_c0 (by exact hC), c_fine (by exact hC), kc_some]
        generalize hw : pv (hI S (13 + 2 * r) 2) l3 = w
        have hX : LM (wI (wI S (14 + 2 * r) k w) 0 7 0) := hM
        have f34 : hI (wI (wI S (14 + 2 * r) k w) 0 7 0) 34 = hI S 34 := by rw [hI_wI_ne (by omega), hI_wI_ne (by omega)]
        have f35 : hI (wI (wI S (14 + 2 * r) k w) 0 7 0) 35 = hI S 35 := by rw [hI_wI_ne (by omega), hI_wI_ne (by omega)]
        have b99 : ∀ w2 : Int32, s_X12_set_b99 33 (wI (wI (wI (wI S (14 + 2 * r) k w) 0 7 0) 33 0 0) 33 1 0) l1 l2 (some 36) ((40 * l1) + l2) w2 = some (w2, wI (wI (wI (wI (wI S (14 + 2 * r) k w) 0 7 0) 33 0 0) 33 1 0) 36 (40 * r + k) w2) := by
          intro w2
          unfold s_X12_set_b99
          rw [kwA_m36 (by exact hX) (n40 e1 hk) (by omega), kP_m4 (by exact hX), kA_m36 (by exact hX) (n40 e1 hk) (by omega), hI_wI_self]
        refine ⟨w, _, wI (wI (wI (wI (wI S (14 + 2 * r) k w) 0 7 0) 33 0 0) 33 1 0) 36 (40 * r + k) w, rfl, ?_, ?_⟩
        · rw [mo _ hX f34 f35, if_pos nn, if_pos c2, kP_m4 (by exact hX)]
          rw [a2]
          rw [← hw]
          rw [hw]
          unfold pv at hw
          by_cases d1 : hI S (13 + 2 * r) 2 = 0
          · rw [if_pos d1] at hw ⊢
            rw [b99, hw]
          · rw [if_neg d1] at hw ⊢
            by_cases d2 : hI S (13 + 2 * r) 2 = 1
            · rw [if_pos d2] at hw ⊢
              rw [b99, hw]
            · rw [if_neg d2] at hw ⊢
              rw [b99, hw]
        · refine h.rows rfl rfl ?_ ⟨?_, ?_⟩ ?_ ?_ ?_
          · intro c b0 b33 b34 b35 b36 b13
            simp (disch := omega) only [hI_wI_ne]
          · simp (disch := omega) only [hI_wI_ne, hI_wI_j]
          · simp (disch := omega) only [hI_wI_ne, hI_wI_j]
          · intro j hj
            simp (disch := omega) only [hI_wI_ne, hI_wI_j]
          · simp (disch := omega) only [hI_wI_ne, hI_wI_j, hI_wI_self]
          · intro r2 hr2
            by_cases y : r2 = r
            · subst y
              unfold RS RW
              simp (disch := omega) only [hI_wI_ne (a := 13 + 2 * r2), hI_wI_ne (a := 34), hI_wI_ne (a := 35), hI_wI_ne (c := 33), hI_wI_ne (c := 0), hI_wI_ne (a := 36) (c := 14 + 2 * r2), hI_wI_ne (a := 14 + 2 * r2) (c := 36)]
              obtain ⟨u1, u2, u3, u4, u5, u6⟩ := hs
              refine ⟨u1, u2, u3, u4, u5, ?_⟩
              intro j hj
              by_cases x : j = k
              · subst x
                rw [hI_wI_self, hI_wI_self]
              · rw [hI_wI_j (by omega), hI_wI_j x]
                simp (disch := omega) only [hI_wI_ne (a := 36)]
                exact u6 j hj
            · refine (h.rs hr2).keep ?_ ?_ ?_ ?_ ?_
              · simp (disch := omega) only [hI_wI_ne]
              · simp (disch := omega) only [hI_wI_ne]
              · simp (disch := omega) only [hI_wI_ne]
              · simp (disch := omega) only [hI_wI_ne]
              · intro j hj
                simp (disch := omega) only [hI_wI_ne, hI_wI_j]
      · have hh : ¬ (0 ≤ l2.toInt ∧ 0 ≤ (1 : Int32).toInt ∧ l2.toInt + (1 : Int32).toInt ≤ (hI S (13 + 2 * r) 3).toInt) := by rw [t1, szi]; omega
        rw [if_neg hh, if_neg (by decide), kO_c0 hC, c_found hC, kc_some]
        refine ⟨_, _, _, rfl, ?_, h.fnd2 2⟩
        rw [mo (wI S 0 7 2) hM rfl rfl, if_pos nn, if_neg c2]
        rfl
  · rw [e, kc_some, if_pos rfl]
    refine ⟨_, S, _, rfl, ?_, h.w0⟩
    unfold s_X12_set
    rw [kwI_m hM, m_isRow, kc_some, if_neg nr, if_pos rfl]
theorem ok_drop {S : HS} (h : RR S) (l1 : Int32) : CK (fun S => s_X11_drop S 0 l1) (fun S => s_X12_drop S 33 l1) S := by
  have hC := h.2.1
  have hM := h.1
  show ∃ r S1 S2, s_X11_drop S 0 l1 = some (r, S1) ∧ s_X12_drop S1 33 l1 = some (r, S2) ∧ RR S2
  unfold s_X11_drop
  rw [kO_c0 hC]
  rcases c_rowAt hC l1 with ⟨r, hr, e1, e⟩ | ⟨nr, e⟩
  · have z : 0 ≤ l1.toInt ∧ l1.toInt ≤ 7 := by rw [e1, nI_toInt (by omega)]; omega
    have hs := h.rs hr
    obtain ⟨sz1, n, sz2, sz3⟩ := hs.sz
    rw [e, kc_some, if_neg (by simp), kI_row hC hr]
    rcases hs.two with ⟨a1, a2⟩ | ⟨a1, a2, q, a3, a4⟩
    · rw [if_pos a1, kO_c0 hC, c_found hC, kc_some]
      refine ⟨_, _, _, rfl, ?_, h.fnd2 1⟩
      have hX : LM (wI S 0 7 1) := hM
      unfold s_X12_drop fdg
      rw [kwI_m hX, m_isRow, kc_some, if_pos z, if_neg (by decide), kwI_m (by exact hX), kP_m2 (by exact hX), kA_m34 (by exact hX) e1 hr]
      simp (disch := omega) only [hI_wI_ne (a := 34)]
      rw [a2, if_neg (by decide), kO_m (by exact hX), m_finding (by exact hX), kc_some]
    · have nn : (0 : Int32) ≤ hI S 34 r := by rw [a2, a3]; exact z_le (by omega)
      rw [a1, if_neg (show ¬ (1 : Int32) = 0 by decide), kwZ_row hC hr (Or.inl rfl), kI_row (by exact hC) hr, hI_wI_j (by decide), kO_c0 (by exact hC), c_fine (by exact hC), kc_some]
      have hX : LM (wI (wI S (13 + 2 * r) 1 0) 0 7 0) := hM
      refine ⟨_, _, wI (wI (wI (wI (wI S (13 + 2 * r) 1 0) 0 7 0) 33 0 0) 33 1 0) 34 r (-1), rfl, ?_, ?_⟩
      · unfold s_X12_drop
        rw [kwI_m hX, m_isRow, kc_some, if_pos z, if_neg (by decide), kwI_m (by exact hX), kP_m2 (by exact hX), kA_m34 (by exact hX) e1 hr]
        simp (disch := omega) only [hI_wI_ne (a := 34)]
        rw [if_pos nn, kP_m2 (by exact hX), kwA_m34 (by exact hX) e1 hr, kP_m3 (by exact hX), kA_m35 (by exact hX) e1 hr]
        simp (disch := omega) only [hI_wI_ne (a := 35)]
        rw [sz1]
      · refine h.rows rfl rfl ?_ ⟨?_, ?_⟩ ?_ ?_ ?_
        · intro c b0 b33 b34 b35 b36 b13
          simp (disch := omega) only [hI_wI_ne]
        · simp (disch := omega) only [hI_wI_ne, hI_wI_j]
        · simp (disch := omega) only [hI_wI_ne, hI_wI_j]
        · intro j hj
          simp (disch := omega) only [hI_wI_ne, hI_wI_j]
        · simp (disch := omega) only [hI_wI_ne, hI_wI_j, hI_wI_self]
        · intro r2 hr2
          by_cases y : r2 = r
          · subst y
            unfold RS RW
            simp (disch := omega) only [hI_wI_ne (c := 33), hI_wI_ne (c := 0), hI_wI_ne (a := 13 + 2 * r2) (c := 34), hI_wI_ne (a := 34) (c := 13 + 2 * r2), hI_wI_ne (a := 35), hI_wI_ne (a := 36), hI_wI_ne (a := 14 + 2 * r2), hI_wI_self, hI_wI_j (b := 2), hI_wI_j (b := 3)]
            obtain ⟨u1, u2, u3, u4, u5, u6⟩ := hs
            exact ⟨Or.inl trivial, fun _ => trivial, fun z => absurd z (by decide), u4, u5, u6⟩
          · refine (h.rs hr2).keep ?_ ?_ ?_ ?_ ?_
            · simp (disch := omega) only [hI_wI_ne]
            · simp (disch := omega) only [hI_wI_ne]
            · simp (disch := omega) only [hI_wI_ne, hI_wI_j]
            · simp (disch := omega) only [hI_wI_ne]
            · intro j hj
              simp (disch := omega) only [hI_wI_ne]
  · rw [e, kc_some, if_pos rfl]
    refine ⟨_, S, _, rfl, ?_, h.w0⟩
    unfold s_X12_drop
    rw [kwI_m hM, m_isRow, kc_some, if_neg nr, if_pos rfl]
