/-! ===== copy; status, fault, forces ===== -/
/-- what the reference's copying loop does -/
def cpf (g : Nat → Int32) (p q n : Nat) : Nat → Int32 := fun x => if q ≤ x ∧ x < q + n then g (p + (x - q)) else g x
theorem copy_up {ra rb i j n : Nat} {l1 l2 l3 l4 l5 : Int32} (h1 : l1 = nI ra) (h2 : l2 = nI i) (h3 : l3 = nI rb) (h4 : l4 = nI j) (h5 : l5 = nI n) (ha : ra < 8) (hb : rb < 8) (hi : i + n ≤ 40) (hj : j + n ≤ 40) (hd : ra = rb → j ≤ i) (g : Nat → Int32) : ∀ (m F k : Nat) (S : HS), LM S → m < F → k + m = n → hI S 36 = cpf g (40 * ra + i) (40 * rb + j) k → s_X12_copy_L143 33 F S l1 l2 l3 l4 l5 1 (nI k) = some (l5, wC S 36 (cpf g (40 * ra + i) (40 * rb + j) n)) := by
  intro m
  induction m with
  | zero =>
    intro F k S h hF hk hg
    obtain ⟨F, rfl⟩ : ∃ z, F = z + 1 := ⟨F - 1, by omega⟩
    obtain rfl : k = n := by omega
    show s_X12_copy_b143 _ 33 S l1 l2 l3 l4 l5 1 (nI k) = _
    unfold s_X12_copy_b143
    rw [h5, if_pos ((nI_le_iff (by omega) (by omega)).mpr (Nat.le_refl _)), ← hg, wC_self]
  | succ m ih =>
    intro F k S h hF hk hg
    obtain ⟨F, rfl⟩ : ∃ z, F = z + 1 := ⟨F - 1, by omega⟩
    show s_X12_copy_b143 _ 33 S l1 l2 l3 l4 l5 1 (nI k) = _
    unfold s_X12_copy_b143 s_X12_copy_b167
    have e1 : 40 * l1 + l2 + nI k = nI (40 * ra + i + k) := by rw [n40 h1 h2, nI_add]
    have e2 : 40 * l3 + l4 + nI k = nI (40 * rb + j + k) := by rw [n40 h3 h4, nI_add]
    rw [if_neg (fun z => by rw [h5] at z; have := (nI_le_iff (by omega) (by omega)).mp z; omega), if_neg (by decide), kP_m4 h, kP_m4 h, kA_m36 h e1 (by omega), kwA_m36 h e2 (by omega), nI_1]
    have e : hI (wI S 36 (40 * rb + j + k) (hI S 36 (40 * ra + i + k))) 36 = cpf g (40 * ra + i) (40 * rb + j) (k + 1) := by
      funext x
      rw [hI_wI, hg]
      unfold cpf
      by_cases z : x = 40 * rb + j + k
      · rw [if_pos ⟨rfl, z⟩, if_neg (by omega), if_pos (by omega), z]
        congr 1
        omega
      · rw [if_neg (fun y => z y.2)]
        by_cases y : 40 * rb + j ≤ x ∧ x < 40 * rb + j + k
        · rw [if_pos y, if_pos (by omega)]
        · rw [if_neg y, if_neg (by omega)]
    have e9 := ih F (k + 1) (wI S 36 (40 * rb + j + k) (hI S 36 (40 * ra + i + k))) h (by omega) (by omega) e
    rw [e9, wI_wC, wC_wC]
theorem nI_s1 {n k : Nat} (h : k < n) : nI n - 1 - nI k = nI (n - 1 - k) := by rw [show (1 : Int32) = nI 1 from rfl, nI_sub (by omega), nI_sub (by omega)]
theorem copy_dn {ra rb i j n : Nat} {l1 l2 l3 l4 l5 : Int32} (h1 : l1 = nI ra) (h2 : l2 = nI i) (h3 : l3 = nI rb) (h4 : l4 = nI j) (h5 : l5 = nI n) (ha : ra < 8) (hb : rb < 8) (hi : i + n ≤ 40) (hj : j + n ≤ 40) (hd : ra = rb → i ≤ j) (g : Nat → Int32) : ∀ (m F k : Nat) (S : HS), LM S → m < F → k + m = n → (hI S 36 = fun x => if 40 * rb + j + (n - k) ≤ x ∧ x < 40 * rb + j + n then g (40 * ra + i + (x - (40 * rb + j))) else g x) → s_X12_copy_L143 33 F S l1 l2 l3 l4 l5 0 (nI k) = some (l5, wC S 36 (cpf g (40 * ra + i) (40 * rb + j) n)) := by
  intro m
  induction m with
  | zero =>
    intro F k S h hF hk hg
    obtain ⟨F, rfl⟩ : ∃ z, F = z + 1 := ⟨F - 1, by omega⟩
    obtain rfl : k = n := by omega
    show s_X12_copy_b143 _ 33 S l1 l2 l3 l4 l5 0 (nI k) = _
    unfold s_X12_copy_b143
    have e : cpf g (40 * ra + i) (40 * rb + j) k = hI S 36 := by
      rw [hg]
      funext x
      unfold cpf
      rw [show k - k = 0 by omega, Nat.add_zero]
    rw [h5, if_pos ((nI_le_iff (by omega) (by omega)).mpr (Nat.le_refl _)), e, wC_self]
  | succ m ih =>
    intro F k S h hF hk hg
    obtain ⟨F, rfl⟩ : ∃ z, F = z + 1 := ⟨F - 1, by omega⟩
    show s_X12_copy_b143 _ 33 S l1 l2 l3 l4 l5 0 (nI k) = _
    unfold s_X12_copy_b143 s_X12_copy_b167
    have e0 : l5 - 1 - nI k = nI (n - 1 - k) := by rw [h5]; exact nI_s1 (by omega)
    have e1 : 40 * l1 + l2 + nI (n - 1 - k) = nI (40 * ra + i + (n - 1 - k)) := by rw [n40 h1 h2, nI_add]
    have e2 : 40 * l3 + l4 + nI (n - 1 - k) = nI (40 * rb + j + (n - 1 - k)) := by rw [n40 h3 h4, nI_add]
    rw [if_neg (fun z => by rw [h5] at z; have := (nI_le_iff (by omega) (by omega)).mp z; omega), if_pos rfl, e0, kP_m4 h, kP_m4 h, kA_m36 h e1 (by omega), kwA_m36 h e2 (by omega), nI_1]
    have e : hI (wI S 36 (40 * rb + j + (n - 1 - k)) (hI S 36 (40 * ra + i + (n - 1 - k)))) 36 = fun x => if 40 * rb + j + (n - (k + 1)) ≤ x ∧ x < 40 * rb + j + n then g (40 * ra + i + (x - (40 * rb + j))) else g x := by
      funext x
      rw [hI_wI, hg]
      dsimp only
      by_cases z : x = 40 * rb + j + (n - 1 - k)
      · rw [if_pos ⟨rfl, z⟩, if_neg (by omega), if_pos (by omega), z]
        congr 1
        omega
      · rw [if_neg (fun y => z y.2)]
        by_cases y : 40 * rb + j + (n - k) ≤ x ∧ x < 40 * rb + j + n
        · rw [if_pos y, if_pos (by omega)]
        · rw [if_neg y, if_neg (by omega)]
    have e9 := ih F (k + 1) (wI S 36 (40 * rb + j + (n - 1 - k)) (hI S 36 (40 * ra + i + (n - 1 - k)))) h (by omega) (by omega) e
    rw [e9, wI_wC, wC_wC]
theorem ok_copy {S : HS} (h : RR S) (l1 l2 l3 l4 l5 : Int32) : CK (fun S => s_X11_copy S 0 l1 l2 l3 l4 l5) (fun S => s_X12_copy S 33 l1 l2 l3 l4 l5) S := by
  have hC := h.2.1
  have hM := h.1
  show ∃ r S1 S2, s_X11_copy S 0 l1 l2 l3 l4 l5 = some (r, S1) ∧ s_X12_copy S1 33 l1 l2 l3 l4 l5 = some (r, S2) ∧ RR S2
  unfold s_X11_copy
  rw [kO_c0 hC]
  rcases c_rowAt hC l1 with ⟨ra, ha, e1, e⟩ | ⟨nr, e⟩
  · have z1 : 0 ≤ l1.toInt ∧ l1.toInt ≤ 7 := by rw [e1, nI_toInt (by omega)]; omega
    rw [e, kc_some, kO_c0 hC]
    rcases c_rowAt hC l3 with ⟨rb, hb, e3, e'⟩ | ⟨nr, e'⟩
    · have z3 : 0 ≤ l3.toInt ∧ l3.toInt ≤ 7 := by rw [e3, nI_toInt (by omega)]; omega
      rw [e', kc_some, if_neg (by simp), if_neg (by simp), kI_row hC ha]
      have hsa := h.rs ha
      have hsb := h.rs hb
      obtain ⟨sa1, na, sa2, sa3⟩ := hsa.sz
      obtain ⟨sb1, nb, sb2, sb3⟩ := hsb.sz
      have sai : (hI S (13 + 2 * ra) 3).toInt = (na : Int) := by rw [sa2]; exact nI_toInt (by omega)
      have sbi : (hI S (13 + 2 * rb) 3).toInt = (nb : Int) := by rw [sb2]; exact nI_toInt (by omega)
      -- the reference: its finding
      have mf : ∀ X v, LM X → hI X 34 = hI S 34 → hI X 35 = hI S 35 → (v = 1 ∧ (hI S 34 ra < 0 ∨ hI S 34 rb < 0) ∨ v = 5 ∧ 0 ≤ hI S 34 ra ∧ 0 ≤ hI S 34 rb ∧ ¬ hI S 34 ra = hI S 34 rb ∨ v = 2 ∧ 0 ≤ hI S 34 ra ∧ 0 ≤ hI S 34 rb ∧ hI S 34 ra = hI S 34 rb ∧ ¬ ((0 ≤ l2.toInt ∧ 0 ≤ l5.toInt ∧ l2.toInt + l5.toInt ≤ na) ∧ (0 ≤ l4.toInt ∧ 0 ≤ l5.toInt ∧ l4.toInt + l5.toInt ≤ nb))) → s_X12_copy X 33 l1 l2 l3 l4 l5 = some (-1000010 - v, wI (wI (wI X 33 0 0) 33 1 0) 33 1 v) := by
        intro X v hX f34 f35 hv
        have g34 : hI (wI (wI X 33 0 0) 33 1 0) 34 = hI S 34 := by simp (disch := omega) only [hI_wI_ne]; exact f34
        have g35 : hI (wI (wI X 33 0 0) 33 1 0) 35 = hI S 35 := by simp (disch := omega) only [hI_wI_ne]; exact f35
        have hX2 : LM (wI (wI X 33 0 0) 33 1 0) := hX
        have i45 : s_X12_copy_b45 33 (wI (wI X 33 0 0) 33 1 0) = some (-1000010 - 1, wI (wI (wI X 33 0 0) 33 1 0) 33 1 1) := by
          unfold s_X12_copy_b45
          rw [kO_m hX2, m_finding hX2, kc_some]
        have i121 : s_X12_copy_b121 33 (wI (wI X 33 0 0) 33 1 0) = some (-1000010 - 2, wI (wI (wI X 33 0 0) 33 1 0) 33 1 2) := by
          unfold s_X12_copy_b121
          rw [kO_m hX2, m_finding hX2, kc_some]
        unfold s_X12_copy
        rw [kwI_m hX, m_isRow, kc_some, if_pos z1, if_neg (by decide), m_isRow, kc_some, if_pos z3, if_neg (by decide), kwI_m (by exact hX), kP_m2 hX2, kA_m34 hX2 e1 ha, g34]
        rcases hv with ⟨rfl, hv⟩ | ⟨rfl, v1, v2, v3⟩ | ⟨rfl, v1, v2, v3, v4⟩
        · by_cases d1 : hI S 34 ra < 0
          · rw [if_pos d1, i45]
          · have d2 : ¬ 0 ≤ hI S 34 rb := fun y => by
              rcases hv with q | q
              · exact d1 q
              · have := i32_lt.mp q; have := i32_le.mp y; omega
            rw [if_neg d1, kP_m2 hX2, kA_m34 hX2 e3 hb, g34, if_neg d2, i45]
        · have d1 : ¬ hI S 34 ra < 0 := fun y => by have := i32_lt.mp y; have := i32_le.mp v1; omega
          rw [if_neg d1, kP_m2 hX2, kA_m34 hX2 e3 hb, g34, if_pos v2, kP_m2 hX2, kA_m34 hX2 e1 ha, g34, kP_m2 hX2, kA_m34 hX2 e3 hb, g34, if_neg v3, kO_m hX2, m_finding hX2, kc_some]
        · have d1 : ¬ hI S 34 ra < 0 := fun y => by have := i32_lt.mp y; have := i32_le.mp v1; omega
          rw [if_neg d1, kP_m2 hX2, kA_m34 hX2 e3 hb, g34, if_pos v2, kP_m2 hX2, kA_m34 hX2 e1 ha, g34, kP_m2 hX2, kA_m34 hX2 e3 hb, g34, if_pos v3]
          simp only [kP_m3 hX2, kA_m35 hX2 e1 ha, kA_m35 hX2 e3 hb, g35, i121, i32_lt, i64_lt, i64_le, i64_of32, i64_add32, i32_0, sa1, sb1, sai, sbi]
          repeat' split
          all_goals first | rfl | (exfalso; omega)
      rcases hsa.two with ⟨a1, a2⟩ | ⟨a1, a2, qa, a3, a4⟩
      · unfold s_X11_copy_b43
        rw [if_pos a1, kO_c0 hC, c_found hC, kc_some]
        refine ⟨_, _, _, rfl, ?_, h.fnd2 1⟩
        exact mf (wI S 0 7 1) 1 hM rfl rfl (Or.inl ⟨rfl, Or.inl (by rw [a2]; decide)⟩)
      · have na0 : (0 : Int32) ≤ hI S 34 ra := by rw [a2, a3]; exact z_le (by omega)
        rw [a1, if_neg (show ¬ (1 : Int32) = 0 by decide), kI_row hC hb]
        rcases hsb.two with ⟨b1, b2⟩ | ⟨b1, b2, qb, b3, b4⟩
        · unfold s_X11_copy_b43
          rw [if_pos b1, kO_c0 hC, c_found hC, kc_some]
          refine ⟨_, _, _, rfl, ?_, h.fnd2 1⟩
          exact mf (wI S 0 7 1) 1 hM rfl rfl (Or.inl ⟨rfl, Or.inr (by rw [b2]; decide)⟩)
        · have nb0 : (0 : Int32) ≤ hI S 34 rb := by rw [b2, b3]; exact z_le (by omega)
          rw [b1, if_neg (show ¬ (1 : Int32) = 0 by decide), kI_row hC ha, kI_row hC hb]
          by_cases c1 : hI S (13 + 2 * ra) 2 = hI S (13 + 2 * rb) 2
          · have c1' : hI S 34 ra = hI S 34 rb := by rw [a2, b2, c1]
            rw [if_pos c1, kO_row hC ha, c_holds hC ha, kc_some, sai]
            have i91 : s_X11_copy_b91 0 S = some (-1000010 - 2, wI S 0 7 2) := by
              unfold s_X11_copy_b91
              rw [kO_c0 hC, c_found hC, kc_some]
            by_cases c2 : 0 ≤ l2.toInt ∧ 0 ≤ l5.toInt ∧ l2.toInt + l5.toInt ≤ (na : Int)
            · rw [if_pos c2, if_neg (by decide), kO_row hC hb, c_holds hC hb, kc_some, sbi]
              by_cases c3 : 0 ≤ l4.toInt ∧ 0 ≤ l5.toInt ∧ l4.toInt + l5.toInt ≤ (nb : Int)
              · rw [if_pos c3, if_neg (by decide), kP_row0 hC ha, kP_row0 hC hb]
                obtain ⟨i, hi, -, hi2⟩ := I_N (n := l2) (a := 0) (b := 40) c2.1 (by omega) (by decide)
                obtain ⟨j, hj, -, hj2⟩ := I_N (n := l4) (a := 0) (b := 40) c3.1 (by omega) (by decide)
                obtain ⟨n, hn, -, hn2⟩ := I_N (n := l5) (a := 0) (b := 40) c2.2.1 (by omega) (by decide)
                have ii : l2.toInt = (i : Int) := by rw [hi]; exact nI_toInt (by omega)
                have ij : l4.toInt = (j : Int) := by rw [hj]; exact nI_toInt (by omega)
                have i_n : l5.toInt = (n : Int) := by rw [hn]; exact nI_toInt (by omega)
                have hin : i + n ≤ 40 := by omega
                have hjn : j + n ≤ 40 := by omega
                have kc : ∀ f : HS → Option (Int32 × HS), kcopy S (some (14 + 2 * ra)) l2 (some (14 + 2 * rb)) l4 l5 f = f (wC S (14 + 2 * rb) (va_cpy (hI S (14 + 2 * ra)) (hI S (14 + 2 * rb)) i j n)) := by
                  intro f
                  unfold kcopy
                  rw [kO_some (hC.lt (by omega)) (hC.k_items ha), kO_some (hC.lt (by omega)) (hC.k_items hb), hC.l_items ha, hC.l_items hb, hi, hj, hn, nI_clamp (by omega), nI_clamp (by omega), nI_clamp (by omega), if_neg (by
                    rintro (q | q | q | q | q)
                    · exact nI_pos (by omega) q
                    · exact nI_pos (by omega) q
                    · exact nI_pos (by omega) q
                    · omega
                    · omega)]
                rw [kc, kO_c0 (by exact hC), c_fine (by exact hC), kc_some]
                generalize hf : va_cpy (hI S (14 + 2 * ra)) (hI S (14 + 2 * rb)) i j n = f
                have hX : LM (wI (wC S (14 + 2 * rb) f) 0 7 0) := hM
                have hX2 : LM (wI (wI (wI (wC S (14 + 2 * rb) f) 0 7 0) 33 0 0) 33 1 0) := hM
                have g34 : hI (wI (wI (wI (wC S (14 + 2 * rb) f) 0 7 0) 33 0 0) 33 1 0) 34 = hI S 34 := by simp (disch := omega) only [hI_wI_ne, hI_wC_ne]
                have g35 : hI (wI (wI (wI (wC S (14 + 2 * rb) f) 0 7 0) 33 0 0) 33 1 0) 35 = hI S 35 := by simp (disch := omega) only [hI_wI_ne, hI_wC_ne]
                have g36 : hI (wI (wI (wI (wC S (14 + 2 * rb) f) 0 7 0) 33 0 0) 33 1 0) 36 = hI S 36 := by simp (disch := omega) only [hI_wI_ne, hI_wC_ne]
                refine ⟨l5, _, wC (wI (wI (wI (wC S (14 + 2 * rb) f) 0 7 0) 33 0 0) 33 1 0) 36 (cpf (hI S 36) (40 * ra + i) (40 * rb + j) n), rfl, ?_, ?_⟩
                · have d1 : ¬ hI S 34 ra < 0 := fun y => by have := i32_lt.mp y; have := i32_le.mp na0; omega
                  have d2 : ¬ l2 < 0 := fun y => by have := i32_lt.mp y; rw [i32_0] at this; omega
                  have d3 : ¬ l4 < 0 := fun y => by have := i32_lt.mp y; rw [i32_0] at this; omega
                  have d4 : ¬ l5 < 0 := fun y => by have := i32_lt.mp y; rw [i32_0] at this; omega
                  have d5 : ¬ (hI S 35 ra).toInt64 < l2.toInt64 + l5.toInt64 := fun y => by
                    have := i64_lt.mp y
                    rw [i64_of32, i64_add32, sa1, sai] at this
                    omega
                  have d6 : l4.toInt64 + l5.toInt64 ≤ (hI S 35 rb).toInt64 := i64_le.mpr (by
                    rw [i64_of32, i64_add32, sb1, sbi]
                    omega)
                  unfold s_X12_copy
                  rw [kwI_m hX, m_isRow, kc_some, if_pos z1, if_neg (by decide), m_isRow, kc_some, if_pos z3, if_neg (by decide), kwI_m (by exact hX), kP_m2 hX2, kA_m34 hX2 e1 ha, g34, if_neg d1, kP_m2 hX2, kA_m34 hX2 e3 hb, g34, if_pos nb0, kP_m2 hX2, kA_m34 hX2 e1 ha, g34, kP_m2 hX2, kA_m34 hX2 e3 hb, g34, if_pos c1', if_neg d2, if_neg d3, if_neg d4, kP_m3 hX2, kA_m35 hX2 e1 ha, g35, if_neg d5, kP_m3 hX2, kA_m35 hX2 e3 hb, g35, if_pos d6]
                  unfold s_X12_copy_b138
                  by_cases u : l2 < l4
                  · have := i32_lt.mp u
                    rw [if_pos u]
                    exact copy_dn e1 hi e3 hj hn ha hb hin hjn (fun _ => by omega) (hI S 36) n 100000 0 _ hX2 (by omega) (by omega) (by
                      rw [g36]
                      funext x
                      rw [if_neg (by omega)])
                  · have : ¬ _ := fun y => u (i32_lt.mpr y)
                    rw [if_neg u]
                    exact copy_up e1 hi e3 hj hn ha hb hin hjn (fun _ => by omega) (hI S 36) n 100000 0 _ hX2 (by omega) (by omega) (by
                      rw [g36]
                      funext x
                      unfold cpf
                      rw [if_neg (by omega)])
                · refine h.rows rfl rfl ?_ ⟨?_, ?_⟩ ?_ ?_ ?_
                  · intro c b0 b33 b34 b35 b36 b13
                    simp (disch := omega) only [hI_wI_ne, hI_wC_ne]
                  · simp (disch := omega) only [hI_wI_ne, hI_wC_ne, hI_wI_j]
                  · simp (disch := omega) only [hI_wI_ne, hI_wC_ne, hI_wI_j]
                  · intro j hj
                    simp (disch := omega) only [hI_wI_ne, hI_wC_ne, hI_wI_j]
                  · simp (disch := omega) only [hI_wI_ne, hI_wC_ne, hI_wI_j, hI_wI_self]
                  · intro r2 hr2
                    by_cases y : r2 = rb
                    · subst y
                      unfold RS RW
                      simp (disch := omega) only [hI_wC_self, hI_wC_ne (a := 13 + 2 * r2), hI_wI_ne (c := 33), hI_wI_ne (c := 0), hI_wC_ne (a := 14 + 2 * r2) (c := 36), hI_wC_ne (a := 34), hI_wC_ne (a := 35)]
                      obtain ⟨u1, u2, u3, u4, u5, u6⟩ := hsb
                      refine ⟨u1, u2, u3, u4, u5, ?_⟩
                      intro x hx
                      rw [← hf]
                      unfold va_cpy cpf
                      by_cases w : j ≤ x ∧ x < j + n
                      · rw [if_pos w, if_pos (by omega), ← hsa.it (show i + (x - j) < 40 by omega)]
                        congr 1
                        omega
                      · rw [if_neg w, if_neg (by omega)]
                        exact u6 x hx
                    · refine (h.rs hr2).keep ?_ ?_ ?_ ?_ ?_
                      · simp (disch := omega) only [hI_wI_ne, hI_wC_ne]
                      · simp (disch := omega) only [hI_wI_ne, hI_wC_ne]
                      · simp (disch := omega) only [hI_wI_ne, hI_wC_ne]
                      · simp (disch := omega) only [hI_wI_ne, hI_wC_ne]
                      · intro x hx
                        rw [hI_wC_self]
                        unfold cpf
                        rw [if_neg (by omega)]
              · rw [if_neg c3, if_pos rfl, i91]
                refine ⟨_, _, _, rfl, ?_, h.fnd2 2⟩
                exact mf (wI S 0 7 2) 2 hM rfl rfl (Or.inr (Or.inr ⟨rfl, na0, nb0, c1', fun q => c3 q.2⟩))
            · rw [if_neg c2, if_pos rfl, i91]
              refine ⟨_, _, _, rfl, ?_, h.fnd2 2⟩
              exact mf (wI S 0 7 2) 2 hM rfl rfl (Or.inr (Or.inr ⟨rfl, na0, nb0, c1', fun q => c2 q.1⟩))
          · rw [if_neg c1, kO_c0 hC, c_found hC, kc_some]
            refine ⟨_, _, _, rfl, ?_, h.fnd2 5⟩
            exact mf (wI S 0 7 5) 5 hM rfl rfl (Or.inr (Or.inl ⟨rfl, na0, nb0, by rw [a2, b2]; exact c1⟩))
    · rw [e', kc_some, if_neg (by simp), if_pos rfl]
      refine ⟨_, S, _, rfl, ?_, h.w0⟩
      unfold s_X12_copy
      rw [kwI_m hM, m_isRow, kc_some, if_pos z1, if_neg (by decide), m_isRow, kc_some, if_neg nr, if_pos rfl]
  · rw [e, kc_some, kO_c0 hC]
    have ne : ∃ o, s_X11_rowAt S 0 l3 = some (o, S) := by
      rcases c_rowAt hC l3 with ⟨rb, hb, e3, e'⟩ | ⟨nr, e'⟩
      · exact ⟨_, e'⟩
      · exact ⟨_, e'⟩
    obtain ⟨o, e'⟩ := ne
    rw [e', kc_some, if_pos rfl]
    refine ⟨_, S, _, rfl, ?_, h.w0⟩
    unfold s_X12_copy
    rw [kwI_m hM, m_isRow, kc_some, if_neg nr, if_pos rfl]
theorem m_w0 {S : HS} {j : Nat} (hj : j ≠ 0) : hI (wI S 33 0 0) 33 j = hI S 33 j := hI_wI_j hj
theorem ok_status {S : HS} (h : RR S) : CK (fun S => s_X11_status S 0) (fun S => s_X12_status S 33) S := by
  refine ⟨hI S 0 7, S, _, ?_, ?_, h.w0⟩
  · show s_X11_status S 0 = _
    unfold s_X11_status
    rw [kI_c0 h.2.1]
  · show s_X12_status S 33 = _
    unfold s_X12_status
    rw [kwI_m h.1, kI_m (by exact h.1), m_w0 (by decide), h.2.2.2.2.1.2.1]
theorem ok_fault {S : HS} (h : RR S) : CK (fun S => s_X11_fault S 0) (fun S => s_X12_fault S 33) S := by
  refine ⟨hI S 0 6, S, _, ?_, ?_, h.w0⟩
  · show s_X11_fault S 0 = _
    unfold s_X11_fault
    rw [kI_c0 h.2.1]
  · show s_X12_fault S 33 = _
    unfold s_X12_fault
    rw [kwI_m h.1, kI_m (by exact h.1), m_w0 (by decide), h.2.2.2.2.1.1]
theorem ok_forces {S : HS} (h : RR S) : CK (fun S => s_X11_forces S 0) (fun S => s_X12_forces S 33) S := by
  refine ⟨hI S 0 8, S, _, ?_, ?_, h.w0⟩
  · show s_X11_forces S 0 = _
    unfold s_X11_forces
    rw [kI_c0 h.2.1]
  · show s_X12_forces S 33 = _
    unfold s_X12_forces
    rw [kwI_m h.1, kI_m (by exact h.1), m_w0 (by decide), h.2.2.2.2.1.2.2]
