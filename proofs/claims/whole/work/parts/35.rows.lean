/-! ===== ROWS ===== -/
theorem hI_wI_ne {S : HS} {c j a : Nat} {v : Int32} (h : a ≠ c) : hI (wI S c j v) a = hI S a := by rw [wI_wC, hI_wC_ne h]
theorem hI_wI_self (S : HS) (c j : Nat) (v : Int32) : hI (wI S c j v) c j = v := by rw [hI_wI, if_pos ⟨rfl, rfl⟩]
theorem hI_wI_j {S : HS} {c j a b : Nat} {v : Int32} (h : b ≠ j) : hI (wI S c j v) a b = hI S a b := by rw [hI_wI, if_neg (fun z => h z.2)]
/-- row r of both -/
def RS (T : HS) (r : Nat) : Prop := RW (hI T (13 + 2 * r) 1) (hI T (13 + 2 * r) 2) (hI T (13 + 2 * r) 3) (hI T 34 r) (hI T 35 r) (hI T (14 + 2 * r)) (hI T 36) r
theorem RS.keep {S T : HS} {r : Nat} (h : RS S r) (h1 : hI T (13 + 2 * r) = hI S (13 + 2 * r)) (h2 : hI T (14 + 2 * r) = hI S (14 + 2 * r)) (h3 : hI T 34 r = hI S 34 r) (h4 : hI T 35 r = hI S 35 r) (h5 : ∀ j, j < 40 → hI T 36 (40 * r + j) = hI S 36 (40 * r + j)) : RS T r := by
  unfold RS at h ⊢
  rw [h1, h2, h3, h4]
  obtain ⟨a1, a2, a3, a4, a5, a6⟩ := h
  exact ⟨a1, a2, a3, a4, a5, fun j hj => by rw [h5 j hj]; exact a6 j hj⟩
theorem AG_of {S T : HS} (e1 : T.1 = S.1) (eP : hP T = hP S) (hi : ∀ c, 46 ≤ c → hI T c = hI S c) : AG S T := by
  have en : hN T = hN S := congrArg (fun x => x.1) e1
  have ek : ∀ c, hK T c = hK S c := fun c => congrArg (fun x => (x.2 c).1) e1
  have el : ∀ c, hL T c = hL S c := fun c => congrArg (fun x => (x.2 c).2) e1
  exact ⟨Nat.le_of_eq en.symm, fun c hc _ => ⟨ek c, el c, hi c hc, by rw [eP]⟩⟩
theorem LM_of {S T : HS} (h : LM S) (e1 : T.1 = S.1) (eP : hP T = hP S) : LM T := h.to (congrArg (fun x => x.1) e1) (fun c => congrArg (fun x => (x.2 c).1) e1) (fun c => congrArg (fun x => (x.2 c).2) e1) (by rw [eP])
theorem LC_of {S T : HS} (h : LC S) (e1 : T.1 = S.1) (eP : hP T = hP S) : LC T := h.to (congrArg (fun x => x.1) e1) (fun c => congrArg (fun x => (x.2 c).1) e1) (fun c => congrArg (fun x => (x.2 c).2) e1) (fun c _ _ => by rw [eP]) (fun j _ => by rw [eP])
theorem RR.rows {S T : HS} (h : RR S) (e1 : T.1 = S.1) (eP : hP T = hP S) (hi : ∀ c, c ≠ 0 → c ≠ 33 → c ≠ 34 → c ≠ 35 → c ≠ 36 → (c < 13 ∨ 28 < c) → hI T c = hI S c) (h0 : hI T 0 6 = hI S 0 6 ∧ hI T 0 8 = hI S 0 8) (h33 : ∀ j, j = 7 ∨ j = 9 ∨ j = 10 ∨ j = 25 ∨ j = 31 → hI T 33 j = hI S 33 j) (h7 : hI T 0 7 = hI T 33 1) (h3 : ∀ r, r < 8 → RS T r) : RR T := by
  obtain ⟨r1, r2, r3, r4, r5, r6, r7, r8⟩ := h
  have hag : AG S T := AG_of e1 eP (fun c hc => hi c (by omega) (by omega) (by omega) (by omega) (by omega) (by omega))
  refine ⟨LM_of r1 e1 eP, LC_of r2 e1 eP, h3, ?_, ⟨?_, h7, ?_⟩, ?_, ?_, ?_⟩
  · rw [hi 2 (by decide) (by decide) (by decide) (by decide) (by decide) (by omega), hi 3 (by decide) (by decide) (by decide) (by decide) (by decide) (by omega), hi 39 (by decide) (by decide) (by decide) (by decide) (by decide) (by omega), h33 9 (by omega)]
    exact r4
  · rw [h0.1, h33 10 (by omega)]; exact r5.1
  · rw [h0.2, h33 25 (by omega)]; exact r5.2.2
  · rw [eP, hi 5 (by decide) (by decide) (by decide) (by decide) (by decide) (by omega), h33 7 (by omega), hi 37 (by decide) (by decide) (by decide) (by decide) (by decide) (by omega), hi 40 (by decide) (by decide) (by decide) (by decide) (by decide) (by omega)]
    exact r6.keep hag
  · intro k hk
    rw [eP, hi (30 + 2 * k) (by omega) (by omega) (by omega) (by omega) (by omega) (by omega), hi 42 (by decide) (by decide) (by decide) (by decide) (by decide) (by omega), hi 43 (by decide) (by decide) (by decide) (by decide) (by decide) (by omega), hi 44 (by decide) (by decide) (by decide) (by decide) (by decide) (by omega), h33 7 (by omega)]
    exact ⟨(r7 k hk).1.keep hag, (r7 k hk).2⟩
  · rw [hi 11 (by decide) (by decide) (by decide) (by decide) (by decide) (by omega), hi 12 (by decide) (by decide) (by decide) (by decide) (by decide) (by omega), hi 45 (by decide) (by decide) (by decide) (by decide) (by decide) (by omega), h33 31 (by omega)]
    exact r8
theorem RR.stat {S T : HS} (h : RR S) (e1 : T.1 = S.1) (eP : hP T = hP S) (hi : ∀ c, c ≠ 0 → c ≠ 33 → hI T c = hI S c) (h0 : hI T 0 6 = hI S 0 6 ∧ hI T 0 8 = hI S 0 8) (h33 : ∀ j, j = 7 ∨ j = 9 ∨ j = 10 ∨ j = 25 ∨ j = 31 → hI T 33 j = hI S 33 j) (h7 : hI T 0 7 = hI T 33 1) : RR T :=
  h.rows e1 eP (fun c a b _ _ _ _ => hi c a b) h0 h33 h7 (fun r hr => (show RS S r from h.2.2.1 r hr).keep (hi _ (by omega) (by omega)) (hi _ (by omega) (by omega)) (by rw [hi 34 (by decide) (by decide)]) (by rw [hi 35 (by decide) (by decide)]) (fun j _ => by rw [hi 36 (by decide) (by decide)]))
/-- a finding of both -/
def fdg (S : HS) (v : Int32) : HS := wI (wI S 0 7 v) 33 0 0
theorem RR.fnd {S : HS} (h : RR S) (v : Int32) : RR (wI (fdg S v) 33 1 v) := by
  unfold fdg
  refine h.stat rfl rfl (fun c a b => ?_) ⟨rfl, rfl⟩ (fun j hj => ?_) rfl
  · rw [hI_wI_ne b, hI_wI_ne b, hI_wI_ne a]
  · rw [hI_wI_j (by omega), hI_wI_j (by omega), hI_wI_ne (by decide)]
theorem RR.fnd2 {S : HS} (h : RR S) (v : Int32) : RR (wI (wI (fdg S v) 33 1 0) 33 1 v) := by
  unfold fdg
  refine h.stat rfl rfl (fun c a b => ?_) ⟨rfl, rfl⟩ (fun j hj => ?_) rfl
  · rw [hI_wI_ne b, hI_wI_ne b, hI_wI_ne b, hI_wI_ne a]
  · rw [hI_wI_j (by omega), hI_wI_j (by omega), hI_wI_j (by omega), hI_wI_ne (by decide)]
theorem RR.w0 {S : HS} (h : RR S) : RR (wI S 33 0 0) := h.to (SX.w0 S)
section L2W
variable {α : Type} {S : HS}
theorem c_rowAt (h : LC S) (i : Int32) : (∃ r : Nat, r < 8 ∧ i = nI r ∧ s_X11_rowAt S 0 i = some (some (13 + 2 * r), S)) ∨ (¬ (0 ≤ i.toInt ∧ i.toInt ≤ 7) ∧ s_X11_rowAt S 0 i = some (none, S)) := by
  unfold s_X11_rowAt s_X11_rowAt_b10
  by_cases c1 : i < 0
  · exact Or.inr ⟨by have := i32_lt.mp c1; rw [i32_0] at this; omega, by rw [if_pos c1]⟩
  · have c2 : ¬ _ := fun z => c1 (i32_lt.mpr z)
    rw [i32_0] at c2
    rw [if_neg c1]
    by_cases c3 : i < 8
    · have c4 := i32_lt.mp c3
      rw [show (8 : Int32).toInt = 8 from rfl] at c4
      obtain ⟨r, hr, h0, h7⟩ := I_N (n := i) (a := 0) (b := 7) (by omega) (by omega) (by decide)
      refine Or.inl ⟨r, by omega, hr, ?_⟩
      rw [if_pos c3, kP_c0_0 h, kAP_c1 h hr (by omega)]
    · have c4 : ¬ _ := fun z => c3 (i32_lt.mpr z)
      rw [show (8 : Int32).toInt = 8 from rfl] at c4
      exact Or.inr ⟨by omega, by rw [if_neg c3]⟩
theorem m_isRow (S : HS) (i : Int32) : s_X12_isRow S i = some ((if 0 ≤ i.toInt ∧ i.toInt ≤ 7 then 1 else 0), S) := by
  unfold s_X12_isRow
  rw [m_inI _ (a := 0) (b := 7) rfl rfl, kc_some, kzr_b]
theorem i64_add32 (a b : Int32) : (a.toInt64 + b.toInt64).toInt = a.toInt + b.toInt := by
  have h1 := i32_rng a
  have h2 := i32_rng b
  rw [Int64.toInt_add, i64_of32, i64_of32, Int.bmod_eq_of_le (by omega) (by omega)]
theorem c_holds (h : LC S) {r : Nat} (hr : r < 8) (i n : Int32) : s_X6_holds S (13 + 2 * r) i n = some ((if 0 ≤ i.toInt ∧ 0 ≤ n.toInt ∧ i.toInt + n.toInt ≤ (hI S (13 + 2 * r) 3).toInt then 1 else 0), S) := by
  unfold s_X6_holds
  by_cases c1 : i < 0
  · have := i32_lt.mp c1
    rw [i32_0] at this
    rw [if_pos c1, if_neg (by omega), kzr_0]
  · have c2 : ¬ _ := fun z => c1 (i32_lt.mpr z)
    rw [i32_0] at c2
    rw [if_neg c1]
    by_cases c3 : n < 0
    · have := i32_lt.mp c3
      rw [i32_0] at this
      rw [if_pos c3, if_neg (by omega), kzr_0]
    · have c4 : ¬ _ := fun z => c3 (i32_lt.mpr z)
      rw [i32_0] at c4
      rw [if_neg c3, kI_row h hr]
      by_cases c5 : (hI S (13 + 2 * r) 3).toInt64 < i.toInt64 + n.toInt64
      · have := i64_lt.mp c5
        rw [i64_of32, i64_add32] at this
        rw [if_pos c5, if_neg (by omega), kzr_0]
      · have c6 : ¬ _ := fun z => c5 (i64_lt.mpr z)
        rw [i64_of32, i64_add32] at c6
        rw [if_neg c5, if_pos (by omega), kzr_1]
theorem fill_loop {a L : Nat} {v : Int32} (hL31 : L < 2 ^ 31) : ∀ (n F i : Nat) (S : HS), a < hN S → hK S a = 14 → hL S a = L → n < F → i + n = L → s_J7_fill_53178_L5 F S (some a) v (nI i) (nI L) = some (wC S a (fun j => if i ≤ j ∧ j < L then v else hI S a j)) := by
  intro n
  induction n with
  | zero =>
    intro F i S h1 h2 h3 hF hi
    obtain ⟨F, rfl⟩ : ∃ z, F = z + 1 := ⟨F - 1, by omega⟩
    show s_J7_fill_53178_b5 _ S (some a) v (nI i) (nI L) = _
    unfold s_J7_fill_53178_b5
    rw [if_pos ((nI_le_iff hL31 (by omega)).mpr (by omega))]
    rw [show (fun j => if i ≤ j ∧ j < L then v else hI S a j) = hI S a from funext fun j => if_neg (by omega), wC_self]
  | succ n ih =>
    intro F i S h1 h2 h3 hF hi
    obtain ⟨F, rfl⟩ : ∃ z, F = z + 1 := ⟨F - 1, by omega⟩
    show s_J7_fill_53178_b5 _ S (some a) v (nI i) (nI L) = _
    unfold s_J7_fill_53178_b5
    rw [if_neg (fun z => by have := (nI_le_iff hL31 (by omega)).mp z; omega), kwA_in h1 h2 (by rw [h3]; exact ix_ok rfl (by omega) hL31), nI_clamp (by omega), nI_1, ih F (i + 1) (wI S a i v) h1 h2 h3 (by omega) (by omega)]
    congr 1
    rw [wI_wC, wC_wC, hI_wC_self]
    congr 1
    funext j
    unfold rup
    by_cases z : j = i
    · rw [if_neg (by omega), if_pos z, if_pos (by omega)]
    · rw [if_neg z]
      by_cases y : i + 1 ≤ j ∧ j < L
      · rw [if_pos y, if_pos (by omega)]
      · rw [if_neg y, if_neg (by omega)]
theorem m_rowLoop {r : Nat} {l1 l3 : Int32} (h1 : l1 = nI r) (hr : r < 8) : ∀ (n F i : Nat) (S : HS), LM S → n < F → i + n = 40 → s_X12_row_L65 33 F S l1 l3 (nI i) = some (l3, wC S 36 (fun b => if 40 * r + i ≤ b ∧ b < 40 * r + 40 then 0 else hI S 36 b)) := by
  intro n
  induction n with
  | zero =>
    intro F i S h hF hi
    obtain ⟨F, rfl⟩ : ∃ z, F = z + 1 := ⟨F - 1, by omega⟩
    obtain rfl : i = 40 := by omega
    show s_X12_row_b65 _ 33 S l1 l3 (nI 40) = _
    unfold s_X12_row_b65
    rw [if_pos (by decide), show (fun b => if 40 * r + 40 ≤ b ∧ b < 40 * r + 40 then (0 : Int32) else hI S 36 b) = hI S 36 from funext fun j => if_neg (by omega), wC_self]
  | succ n ih =>
    intro F i S h hF hi
    obtain ⟨F, rfl⟩ : ∃ z, F = z + 1 := ⟨F - 1, by omega⟩
    show s_X12_row_b65 _ 33 S l1 l3 (nI i) = _
    unfold s_X12_row_b65
    rw [if_neg (fun z => by have := (nI_le_iff (a := 40) (by decide) (by omega)).mp z; omega), kP_m4 h, kwA_m36 h (k := 40 * r + i) (by rw [h1, show (40 : Int32) = nI 40 from rfl, nI_mul, nI_add]) (by omega), nI_1, ih F (i + 1) (wI S 36 (40 * r + i) 0) h (by omega) (by omega)]
    congr 2
    rw [wI_wC, wC_wC, hI_wC_self]
    congr 1
    funext j
    unfold rup
    by_cases z : j = 40 * r + i
    · rw [if_neg (by omega), if_pos z, if_pos (by omega)]
    · rw [if_neg z]
      by_cases y : 40 * r + (i + 1) ≤ j ∧ j < 40 * r + 40
      · rw [if_pos y, if_pos (by omega)]
      · rw [if_neg y, if_neg (by omega)]
end L2W
theorem c_found {S : HS} (h : LC S) (v : Int32) : s_X11_found S 0 v = some (-1000010 - v, wI S 0 7 v) := by
  unfold s_X11_found
  rw [kwI_c0 h]
theorem c_fine {S : HS} (h : LC S) (v : Int32) : s_X11_fine S 0 v = some (v, wI S 0 7 0) := by
  unfold s_X11_fine
  rw [kwI_c0 h]
theorem m_finding {S : HS} (h : LM S) (v : Int32) : s_X12_finding S 33 v = some (-1000010 - v, wI S 33 1 v) := by
  unfold s_X12_finding
  rw [kwI_m h]
theorem ok_row {S : HS} (h : RR S) (l1 l2 l3 : Int32) : CK (fun S => s_X11_row S 0 l1 l2 l3) (fun S => s_X12_row S 33 l1 l2 l3) S := by
  have hC := h.2.1
  have hM := h.1
  have hM0 : LM (wI S 33 0 0) := hM
  show ∃ r S1 S2, s_X11_row S 0 l1 l2 l3 = some (r, S1) ∧ s_X12_row S1 33 l1 l2 l3 = some (r, S2) ∧ RR S2
  have badm : (¬ ((0 ≤ l1.toInt ∧ l1.toInt ≤ 7) ∧ (0 ≤ l2.toInt ∧ l2.toInt ≤ 2) ∧ l3 ≤ 40)) → s_X12_row S 33 l1 l2 l3 = some (-1000001, wI S 33 0 0) := by
    intro hb
    unfold s_X12_row
    rw [kwI_m hM, m_isRow, kc_some]
    by_cases z : 0 ≤ l1.toInt ∧ l1.toInt ≤ 7
    · rw [if_pos z, if_neg (by decide), m_inI _ (a := 0) (b := 2) rfl rfl, kc_some]
      by_cases y : 0 ≤ l2.toInt ∧ l2.toInt ≤ 2
      · rw [if_pos y, if_neg (by decide), if_neg (fun x => hb ⟨z, y, x⟩)]
      · rw [if_neg y, if_pos rfl]
    · rw [if_neg z, if_pos rfl]
  unfold s_X11_row
  rw [kO_c0 hC]
  rcases c_rowAt hC l1 with ⟨r, hr, e1, e⟩ | ⟨nr, e⟩
  · have z : 0 ≤ l1.toInt ∧ l1.toInt ≤ 7 := by rw [e1, nI_toInt (by omega)]; omega
    rw [e, kc_some, if_neg (by simp)]
    by_cases c1 : l2 < 0
    · have := i32_lt.mp c1
      rw [i32_0] at this
      rw [if_pos c1]
      exact ⟨_, S, _, rfl, badm (fun q => by omega), h.w0⟩
    · have d1 : ¬ _ := fun q => c1 (i32_lt.mpr q)
      rw [i32_0] at d1
      rw [if_neg c1]
      by_cases c2 : 3 ≤ l2
      · have := i32_le.mp c2
        rw [show (3 : Int32).toInt = 3 from rfl] at this
        rw [if_pos c2]
        exact ⟨_, S, _, rfl, badm (fun q => by omega), h.w0⟩
      · have d2 : ¬ _ := fun q => c2 (i32_le.mpr q)
        rw [show (3 : Int32).toInt = 3 from rfl] at d2
        rw [if_neg c2]
        by_cases c3 : l3 ≤ 40
        · rw [if_pos c3]
          have y : 0 ≤ l2.toInt ∧ l2.toInt ≤ 2 := by omega
          by_cases c4 : 0 ≤ l3
          · rw [if_pos c4]
            have d3 := i32_le.mp c3
            have d4 := i32_le.mp c4
            rw [show (40 : Int32).toInt = 40 from rfl] at d3
            rw [i32_0] at d4
            obtain ⟨n, hn, -, hn2⟩ := I_N (n := l3) (a := 0) (b := 40) d4 d3 (by decide)
            obtain ⟨ln, hln, -, hln2⟩ := I_N (n := l2) (a := 0) (b := 2) y.1 y.2 (by decide)
            have e5 := fill_loop (a := 14 + 2 * r) (L := 40) (v := 0) (by decide) 40 100000 0 (wI (wI (wI S (13 + 2 * r) 1 1) (13 + 2 * r) 2 l2) (13 + 2 * r) 3 l3) (hC.lt (by omega)) (hC.k_items hr) (hC.l_items hr) (by decide) (by decide)
            have hC3 : LC (wI (wI (wI S (13 + 2 * r) 1 1) (13 + 2 * r) 2 l2) (13 + 2 * r) 3 l3) := hC
            have mk : s_X6_make S (13 + 2 * r) l2 l3 = some (wC (wI (wI (wI S (13 + 2 * r) 1 1) (13 + 2 * r) 2 l2) (13 + 2 * r) 3 l3) (14 + 2 * r) (fun j => if 0 ≤ j ∧ j < 40 then 0 else hI (wI (wI (wI S (13 + 2 * r) 1 1) (13 + 2 * r) 2 l2) (13 + 2 * r) 3 l3) (14 + 2 * r) j)) := by
              unfold s_X6_make
              rw [kwZ_row hC hr (Or.inr rfl), kwI_row (S := wI S (13 + 2 * r) 1 1) hC hr, kwI_row (S := wI (wI S (13 + 2 * r) 1 1) (13 + 2 * r) 2 l2) hC hr, kP_row0 hC3 hr]
              unfold s_J7_fill_53178
              rw [kLen_some (hC3.lt (by omega)) (hC3.k_items hr), hC3.l_items hr, show (0 : Int32) = nI 0 from rfl]
              rw [show (nI 0 : Int32) = 0 from rfl] at *
              rw [show s_J7_fill_53178_L5 100000 (wI (wI (wI S (13 + 2 * r) 1 1) (13 + 2 * r) 2 l2) (13 + 2 * r) 3 l3) (some (14 + 2 * r)) 0 0 (nI 40) = _ from e5, kcv_some]
            rw [kO_row hC hr, mk, kcv_some, kO_c0 (by exact hC), c_fine (by exact hC), kc_some]
            generalize hX : wC (wI (wI (wI S (13 + 2 * r) 1 1) (13 + 2 * r) 2 l2) (13 + 2 * r) 3 l3) (14 + 2 * r) (fun j => if 0 ≤ j ∧ j < 40 then 0 else hI (wI (wI (wI S (13 + 2 * r) 1 1) (13 + 2 * r) 2 l2) (13 + 2 * r) 3 l3) (14 + 2 * r) j) = X
            have hMX : LM (wI X 0 7 0) := by rw [← hX]; exact hM
            have e6 := m_rowLoop (l3 := l3) e1 hr 40 100000 0 (wI (wI (wI (wI (wI X 0 7 0) 33 0 0) 33 1 0) 34 r l2) 35 r l3) hMX (by decide) (by decide)
            refine ⟨l3, wI X 0 7 0, _, rfl, Eq.trans ?_ e6, ?_⟩
            · unfold s_X12_row
              rw [kwI_m hMX, m_isRow, kc_some, if_pos z, if_neg (by decide), m_inI _ (a := 0) (b := 2) rfl rfl, kc_some, if_pos y, if_neg (by decide), if_pos c3, kwI_m (by exact hMX), if_pos c4, kP_m2 (by exact hMX), kwA_m34 (by exact hMX) e1 hr, kP_m3 (by exact hMX), kwA_m35 (by exact hMX) e1 hr]
              rfl
            · subst hX
              refine h.rows rfl rfl ?_ ⟨?_, ?_⟩ ?_ ?_ ?_
              · intro c b0 b33 b34 b35 b36 b13
                rw [hI_wC_ne b36, hI_wI_ne b35, hI_wI_ne b34, hI_wI_ne b33, hI_wI_ne b33, hI_wI_ne b0, hI_wC_ne (by omega), hI_wI_ne (by omega), hI_wI_ne (by omega), hI_wI_ne (by omega)]
              · rw [hI_wC_ne (by decide), hI_wI_ne (by decide), hI_wI_ne (by decide), hI_wI_ne (by decide), hI_wI_ne (by decide), hI_wI_j (by decide), hI_wC_ne (by omega), hI_wI_ne (by omega), hI_wI_ne (by omega), hI_wI_ne (by omega)]
              · rw [hI_wC_ne (by decide), hI_wI_ne (by decide), hI_wI_ne (by decide), hI_wI_ne (by decide), hI_wI_ne (by decide), hI_wI_j (by decide), hI_wC_ne (by omega), hI_wI_ne (by omega), hI_wI_ne (by omega), hI_wI_ne (by omega)]
              · intro j hj
                rw [hI_wC_ne (by decide), hI_wI_ne (by decide), hI_wI_ne (by decide), hI_wI_j (by omega), hI_wI_j (by omega), hI_wI_ne (by decide), hI_wC_ne (by omega), hI_wI_ne (by omega), hI_wI_ne (by omega), hI_wI_ne (by omega)]
              · rw [hI_wC_ne (by decide), hI_wI_ne (by decide), hI_wI_ne (by decide), hI_wI_ne (by decide), hI_wI_ne (by decide), hI_wI_self, hI_wC_ne (by decide), hI_wI_ne (by decide), hI_wI_ne (by decide), hI_wI_self]
              · intro r2 hr2
                by_cases q : r2 = r
                · subst q
                  unfold RS RW
                  rw [hI_wC_ne (a := 13 + 2 * r2) (by omega), hI_wI_ne (a := 13 + 2 * r2) (by omega), hI_wI_ne (a := 13 + 2 * r2) (by omega), hI_wI_ne (a := 13 + 2 * r2) (by omega), hI_wI_ne (a := 13 + 2 * r2) (by omega), hI_wI_ne (a := 13 + 2 * r2) (by omega), hI_wC_ne (a := 13 + 2 * r2) (by omega)]
                  rw [hI_wC_ne (a := 34) (by decide), hI_wI_ne (a := 34) (by decide), hI_wI_self (j := r2) (v := l2), hI_wC_ne (a := 35) (by decide), hI_wI_self (j := r2) (v := l3)]
                  refine ⟨Or.inr ?_, ?_, ?_, ?_, ⟨n, ?_, by omega⟩, ?_⟩
                  · rw [hI_wI_j (by decide), hI_wI_j (by decide), hI_wI_self]
                  · rw [hI_wI_j (by decide), hI_wI_j (by decide), hI_wI_self]
                    intro z
                    exact absurd z (by decide)
                  · intro _
                    rw [hI_wI_j (by decide), hI_wI_self]
                    exact ⟨rfl, ln, hln, by omega⟩
                  · rw [hI_wI_self]
                  · rw [hI_wI_self]; exact hn
                  · intro j hj
                    rw [hI_wC_self, if_pos (by omega), hI_wC_ne (by omega), hI_wI_ne (by omega), hI_wI_ne (by omega), hI_wI_ne (by omega), hI_wI_ne (by omega), hI_wI_ne (by omega), hI_wC_self, if_pos (by omega)]
                · refine (show RS S r2 from h.2.2.1 r2 hr2).keep ?_ ?_ ?_ ?_ ?_
                  · rw [hI_wC_ne (by omega), hI_wI_ne (by omega), hI_wI_ne (by omega), hI_wI_ne (by omega), hI_wI_ne (by omega), hI_wI_ne (by omega), hI_wC_ne (by omega), hI_wI_ne (by omega), hI_wI_ne (by omega), hI_wI_ne (by omega)]
                  · rw [hI_wC_ne (by omega), hI_wI_ne (by omega), hI_wI_ne (by omega), hI_wI_ne (by omega), hI_wI_ne (by omega), hI_wI_ne (by omega), hI_wC_ne (by omega), hI_wI_ne (by omega), hI_wI_ne (by omega), hI_wI_ne (by omega)]
                  · rw [hI_wC_ne (by omega), hI_wI_ne (by omega), hI_wI_j q, hI_wI_ne (by omega), hI_wI_ne (by omega), hI_wI_ne (by omega), hI_wC_ne (by omega), hI_wI_ne (by omega), hI_wI_ne (by omega), hI_wI_ne (by omega)]
                  · rw [hI_wC_ne (by omega), hI_wI_j q, hI_wI_ne (by omega), hI_wI_ne (by omega), hI_wI_ne (by omega), hI_wI_ne (by omega), hI_wC_ne (by omega), hI_wI_ne (by omega), hI_wI_ne (by omega), hI_wI_ne (by omega)]
                  · intro j hj
                    rw [hI_wC_self, if_neg (by omega), hI_wI_ne (by omega), hI_wI_ne (by omega), hI_wI_ne (by omega), hI_wI_ne (by omega), hI_wI_ne (by omega), hI_wC_ne (by omega), hI_wI_ne (by omega), hI_wI_ne (by omega), hI_wI_ne (by omega)]
          · rw [if_neg c4, kO_c0 hC, c_found hC, kc_some]
            refine ⟨_, _, _, rfl, ?_, h.fnd2 4⟩
            have hM1 : LM (wI S 0 7 4) := hM
            unfold s_X12_row fdg
            rw [kwI_m hM1, m_isRow, kc_some, if_pos z, if_neg (by decide), m_inI _ (a := 0) (b := 2) rfl rfl, kc_some, if_pos y, if_neg (by decide), if_pos c3, kwI_m (by exact hM1), if_neg c4, kO_m (by exact hM1), m_finding (by exact hM1), kc_some]
        · rw [if_neg c3]
          exact ⟨_, S, _, rfl, badm (fun q => c3 q.2.2), h.w0⟩
  · rw [e, kc_some, if_pos rfl]
    exact ⟨_, S, _, rfl, badm (fun q => nr q.1), h.w0⟩
