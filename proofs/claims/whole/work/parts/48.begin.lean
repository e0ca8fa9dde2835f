/-! ===== begin, image, restore ===== -/
theorem LM.lo {S T : HS} (h : LM S) (hn : hN S ≤ hN T) (hk : ∀ c, c < 46 → hK T c = hK S c ∧ hL T c = hL S c) (hp : hP T 33 = hP S 33) : LM T := by
  unfold LM at h ⊢
  rw [hp, (hk 33 (by decide)).1, (hk 34 (by decide)).1, (hk 35 (by decide)).1, (hk 36 (by decide)).1, (hk 37 (by decide)).1, (hk 38 (by decide)).1, (hk 39 (by decide)).1, (hk 40 (by decide)).1, (hk 41 (by decide)).1, (hk 42 (by decide)).1, (hk 43 (by decide)).1, (hk 44 (by decide)).1, (hk 45 (by decide)).1, (hk 34 (by decide)).2, (hk 35 (by decide)).2, (hk 36 (by decide)).2, (hk 37 (by decide)).2, (hk 38 (by decide)).2, (hk 39 (by decide)).2, (hk 40 (by decide)).2, (hk 41 (by decide)).2, (hk 42 (by decide)).2, (hk 43 (by decide)).2, (hk 44 (by decide)).2, (hk 45 (by decide)).2]
  exact ⟨Nat.le_trans h.1 hn, h.2⟩
theorem LC.lo {S T : HS} (h : LC S) (hn : hN S ≤ hN T) (hk : ∀ c, c < 46 → hK T c = hK S c ∧ hL T c = hL S c) (hp : ∀ c, c < 33 → c ≠ 4 → c ≠ 5 → c ≠ 30 → c ≠ 32 → hP T c 0 = hP S c 0) (hp4 : hP T 4 0 = hP S 4 0) (hp0 : hP T 0 = hP S 0) (hp1 : hP T 1 = hP S 1) (hp6 : hP T 6 = hP S 6) (hp7 : ∀ j, j < 3 → hP T 7 j = hP S 7 j) : LC T := by
  obtain ⟨h0, h1, h2, h3, h4, h5, h6, h7, h8, h9, h10, h11, h12, h13, h14⟩ := h
  refine ⟨Nat.le_trans h0 hn, fun c hc => by rw [(hk c (by omega)).1]; exact h1 c hc, fun c hc => by rw [(hk c (by omega)).2]; exact h2 c hc, by rw [hp0]; exact h3, fun r hr => ?_, by rw [hp 2 (by decide) (by decide) (by decide) (by decide) (by decide)]; exact h5, by rw [hp4]; exact h6, by rw [hp6]; exact h7, by rw [hp6]; exact h8, by rw [hp7 0 (by decide)]; exact h9, by rw [hp7 1 (by decide)]; exact h10, by rw [hp7 2 (by decide)]; exact h11, by rw [hp 11 (by decide) (by decide) (by decide) (by decide) (by decide)]; exact h12, by rw [hp 29 (by decide) (by decide) (by decide) (by decide) (by decide)]; exact h13, by rw [hp 31 (by decide) (by decide) (by decide) (by decide) (by decide)]; exact h14⟩
  rw [hp1, hp (13 + 2 * r) (by omega) (by omega) (by omega) (by omega) (by omega)]
  exact h4 r hr
/-- the tape of both -/
def TP (T : HS) : Prop := ∃ n : Nat, n ≤ 500 ∧ hI T 2 1 = nI n ∧ hI T 33 9 = nI n ∧ ∀ j, j < n → ∃ z : Nat, z < 256 ∧ hI T 39 j = nI z ∧ hI T 3 j = (nI z).toInt8.toInt32
theorem RR.scene {S T : HS} (h : RR S) (hn : hN S ≤ hN T) (hk : ∀ c, c < 46 → hK T c = hK S c ∧ hL T c = hL S c) (hag : AG S T) (eP : ∀ a, a < 46 → a ≠ 4 → a ≠ 5 → hP T a = hP S a) (eP4 : hP T 4 0 = hP S 4 0) (i : ∀ a, a < 46 ∧ a ≠ 0 ∧ a ≠ 2 ∧ a ≠ 3 ∧ a ≠ 5 ∧ a ≠ 33 ∧ a ≠ 37 ∧ a ≠ 38 ∧ a ≠ 39 ∧ a ≠ 40 → hI T a = hI S a) (h4 : TP T) (h5 : hI T 0 6 = hI T 33 10 ∧ hI T 0 7 = hI T 33 1 ∧ hI T 0 8 = hI T 33 25) (h31 : hI T 33 31 = hI S 33 31) (h77 : hI T 33 7 = hI S 33 7 ∨ hI T 33 7 = 1) (hR : SR T (hP T 4 1) (hP T 5) (hI T 5) (hI T 33 7) (hI T 37) (hI T 40)) : RR T := by
  obtain ⟨r1, r2, r3, r4, r5, r6, r7, r8⟩ := h
  refine ⟨r1.lo hn hk (eP 33 (by decide) (by decide) (by decide)), r2.lo hn hk (fun c hc c4 c5 _ _ => by rw [eP c (by omega) c4 c5]) eP4 (eP 0 (by decide) (by decide) (by decide)) (eP 1 (by decide) (by decide) (by decide)) (eP 6 (by decide) (by decide) (by decide)) (fun j _ => by rw [eP 7 (by decide) (by decide) (by decide)]), ?_, h4, h5, hR, ?_, ?_⟩
  · intro r hr
    exact (show RS S r from r3 r hr).keep (i _ (by omega)) (i _ (by omega)) (by rw [i 34 (by decide)]) (by rw [i 35 (by decide)]) (fun j _ => by rw [i 36 (by decide)])
  · intro k hk
    rw [eP (29 + 2 * k) (by omega) (by omega) (by omega), eP (30 + 2 * k) (by omega) (by omega) (by omega), i (30 + 2 * k) (by omega), i 42 (by decide), i 43 (by decide), i 44 (by decide)]
    refine ⟨(r7 k hk).1.keep hag, ?_⟩
    rcases h77 with z | z
    · rw [z]; exact (r7 k hk).2
    · exact Or.inr z
  · rw [i 11 (by decide), i 12 (by decide), i 45 (by decide), h31]
    exact r8
theorem c_discB {S : HS} (hC : LC S) {b n a0 : Nat} (hb : hP S 4 1 = some b) (b2 : b < hN S) (b3 : hK S b = 1) (e : hI S b 3 = nI n) (n4 : n ≤ 4) (p0 : hP S b 0 = some a0) (p2 : a0 < hN S) (p3 : hK S a0 = 17) (p4 : hL S a0 = 4) (i : Int32) : (∃ d, d < n ∧ i = nI d ∧ s_X11_discAt S 0 i = some (hP S a0 d, S)) ∨ (¬ (0 ≤ i.toInt ∧ i.toInt < n) ∧ s_X11_discAt S 0 i = some (none, S)) := by
  have t0 : (0 : Int32).toInt = 0 := rfl
  have hn : (nI n).toInt = (n : Int) := nI_toInt (by omega)
  unfold s_X11_discAt s_X11_discAt_b24
  rw [kP_c0_2 hC, kP_c4 hC, hb, if_neg (by simp)]
  by_cases c1 : i < 0
  · have d1 := i32_lt.mp c1
    exact Or.inr ⟨by omega, if_pos c1⟩
  · have d1 : ¬ _ := fun z => c1 (i32_lt.mpr z)
    rw [if_neg c1, kI_some b2 b3, e]
    by_cases c2 : i < nI n
    · have d2 := i32_lt.mp c2
      obtain ⟨d, hd, -, hd2⟩ := I_N (n := i) (a := 0) (b := 4) (by omega) (by omega) (by decide)
      have id : i.toInt = (d : Int) := by rw [hd]; exact nI_toInt (by omega)
      refine Or.inl ⟨d, by omega, hd, ?_⟩
      rw [if_pos c2, kP_some b2 b3, p0, kAP_in p2 p3 (by rw [p4]; exact ix_ok hd (by omega) (by decide)), hd, nI_clamp (by omega)]
    · have d2 : ¬ _ := fun z => c2 (i32_lt.mpr z)
      exact Or.inr ⟨by omega, if_neg c2⟩
theorem c_cordB {S : HS} (hC : LC S) {b n a0 : Nat} (hb : hP S 4 1 = some b) (b2 : b < hN S) (b3 : hK S b = 1) (e : hI S b 4 = nI n) (n4 : n ≤ 4) (p0 : hP S b 1 = some a0) (p2 : a0 < hN S) (p3 : hK S a0 = 16) (p4 : hL S a0 = 4) (i : Int32) : (∃ d, d < n ∧ i = nI d ∧ s_X11_cordAt S 0 i = some (hP S a0 d, S)) ∨ (¬ (0 ≤ i.toInt ∧ i.toInt < n) ∧ s_X11_cordAt S 0 i = some (none, S)) := by
  have t0 : (0 : Int32).toInt = 0 := rfl
  have hn : (nI n).toInt = (n : Int) := nI_toInt (by omega)
  unfold s_X11_cordAt s_X11_cordAt_b24
  rw [kP_c0_2 hC, kP_c4 hC, hb, if_neg (by simp)]
  by_cases c1 : i < 0
  · have d1 := i32_lt.mp c1
    exact Or.inr ⟨by omega, if_pos c1⟩
  · have d1 : ¬ _ := fun z => c1 (i32_lt.mpr z)
    rw [if_neg c1, kI_some b2 b3, e]
    by_cases c2 : i < nI n
    · have d2 := i32_lt.mp c2
      obtain ⟨d, hd, -, hd2⟩ := I_N (n := i) (a := 0) (b := 4) (by omega) (by omega) (by decide)
      have id : i.toInt = (d : Int) := by rw [hd]; exact nI_toInt (by omega)
      refine Or.inl ⟨d, by omega, hd, ?_⟩
      rw [if_pos c2, kP_some b2 b3, p0, kAP_in p2 p3 (by rw [p4]; exact ix_ok hd (by omega) (by decide)), hd, nI_clamp (by omega)]
    · have d2 : ¬ _ := fun z => c2 (i32_lt.mpr z)
      exact Or.inr ⟨by omega, if_neg c2⟩
theorem c_handB {S : HS} (hC : LC S) {b n a0 : Nat} (hb : hP S 4 1 = some b) (b2 : b < hN S) (b3 : hK S b = 1) (e : hI S b 5 = nI n) (n4 : n ≤ 4) (p0 : hP S b 2 = some a0) (p2 : a0 < hN S) (p3 : hK S a0 = 18) (p4 : hL S a0 = 4) (i : Int32) : (∃ d, d < n ∧ i = nI d ∧ s_X11_handAt S 0 i = some (hP S a0 d, S)) ∨ (¬ (0 ≤ i.toInt ∧ i.toInt < n) ∧ s_X11_handAt S 0 i = some (none, S)) := by
  have t0 : (0 : Int32).toInt = 0 := rfl
  have hn : (nI n).toInt = (n : Int) := nI_toInt (by omega)
  unfold s_X11_handAt s_X11_handAt_b24
  rw [kP_c0_2 hC, kP_c4 hC, hb, if_neg (by simp)]
  by_cases c1 : i < 0
  · have d1 := i32_lt.mp c1
    exact Or.inr ⟨by omega, if_pos c1⟩
  · have d1 : ¬ _ := fun z => c1 (i32_lt.mpr z)
    rw [if_neg c1, kI_some b2 b3, e]
    by_cases c2 : i < nI n
    · have d2 := i32_lt.mp c2
      obtain ⟨d, hd, -, hd2⟩ := I_N (n := i) (a := 0) (b := 4) (by omega) (by omega) (by decide)
      have id : i.toInt = (d : Int) := by rw [hd]; exact nI_toInt (by omega)
      refine Or.inl ⟨d, by omega, hd, ?_⟩
      rw [if_pos c2, kP_some b2 b3, p0, kAP_in p2 p3 (by rw [p4]; exact ix_ok hd (by omega) (by decide)), hd, nI_clamp (by omega)]
    · have d2 : ¬ _ := fun z => c2 (i32_lt.mpr z)
      exact Or.inr ⟨by omega, if_neg c2⟩
/-- a new RUN of the reference -/
def nw0 (t0 d k g : Int32) : Nat → Int32 := fun j => if j = 0 then 1 else if j = 1 then d else if j = 2 then k else if j = 3 then g else if j = 4 then t0 else if j = 8 then -1000000 else if j = 11 then -1 else 0
theorem m_beginL {l1 l2 l3 l4 : Int32} : ∀ (m F i : Nat) (T : HS), LM T → m < F → i + m = 12 → ∃ T2, s_X12_begin_L69 33 F T l1 l2 l3 l4 (nI i) = some (1, T2) ∧ T2.1 = T.1 ∧ hP T2 = hP T ∧ (∀ a, a ≠ 40 → hI T2 a = hI T a) ∧ ∀ j, j < 12 → (j < i → hI T 40 j = 0) → hI T2 40 j = nw0 l4 l1 l2 l3 j := by
  intro m
  induction m with
  | zero =>
    intro F i T h hF hi
    obtain ⟨F, rfl⟩ : ∃ z, F = z + 1 := ⟨F - 1, by omega⟩
    have i12 : i = 12 := by omega
    subst i12
    refine ⟨wI (wI (wI (wI (wI (wI (wI T 40 0 1) 40 1 l1) 40 2 l2) 40 3 l3) 40 4 l4) 40 8 (-1000000)) 40 11 (-1), ?_, rfl, rfl, ?_, ?_⟩
    · show s_X12_begin_b69 _ 33 T l1 l2 l3 l4 (nI 12) = _
      unfold s_X12_begin_b69
      rw [if_pos (show (12 : Int32) ≤ nI 12 by decide), kP_m24 h, kwA_m40 h (i := 0) (k := 0) rfl (by decide), kP_m24 (by exact h), kwA_m40 (by exact h) (i := 1) (k := 1) rfl (by decide), kP_m24 (by exact h), kwA_m40 (by exact h) (i := 2) (k := 2) rfl (by decide), kP_m24 (by exact h), kwA_m40 (by exact h) (i := 3) (k := 3) rfl (by decide), kP_m24 (by exact h), kwA_m40 (by exact h) (i := 4) (k := 4) rfl (by decide), kP_m24 (by exact h), kwA_m40 (by exact h) (i := 8) (k := 8) rfl (by decide), kP_m24 (by exact h), kwA_m40 (by exact h) (i := 11) (k := 11) rfl (by decide)]
    · intro a ha
      rw [hI_wI_ne ha, hI_wI_ne ha, hI_wI_ne ha, hI_wI_ne ha, hI_wI_ne ha, hI_wI_ne ha, hI_wI_ne ha]
    · intro j hj h0
      have z := h0 hj
      unfold nw0
      simp only [hI_wI, true_and]
      by_cases c11 : j = 11
      · subst c11; rfl
      · by_cases c8 : j = 8
        · subst c8; rfl
        · by_cases c4 : j = 4
          · subst c4; rfl
          · by_cases c3 : j = 3
            · subst c3; rfl
            · by_cases c2 : j = 2
              · subst c2; rfl
              · by_cases c1 : j = 1
                · subst c1; rfl
                · by_cases c0 : j = 0
                  · subst c0; rfl
                  · rw [if_neg c11, if_neg c8, if_neg c4, if_neg c3, if_neg c2, if_neg c1, if_neg c0, if_neg c0, if_neg c1, if_neg c2, if_neg c3, if_neg c4, if_neg c8, if_neg c11]
                    exact z
  | succ m ih =>
    intro F i T h hF hi
    obtain ⟨F, rfl⟩ : ∃ z, F = z + 1 := ⟨F - 1, by omega⟩
    obtain ⟨T2, i1, i2, i3, i4, i5⟩ := ih F (i + 1) (wI T 40 i 0) h (by omega) (by omega)
    refine ⟨T2, ?_, i2, i3, fun a ha => (i4 a ha).trans (hI_wI_ne ha), fun j hj h0 => i5 j hj ?_⟩
    · show s_X12_begin_b69 _ 33 T l1 l2 l3 l4 (nI i) = _
      unfold s_X12_begin_b69
      rw [if_neg (fun z => by have : 12 ≤ i := (nI_le_iff (a := 12) (by omega) (by omega)).mp z; omega), kP_m24 h, kwA_m40 h rfl (by omega), nI_1]
      exact i1
    · intro hj2
      by_cases e : j = i
      · rw [e, hI_wI_self]
      · rw [hI_wI_j e]
        exact h0 (by omega)
theorem ok_begin {S : HS} (h : RR S) (l1 l2 l3 l4 : Int32) : CK (fun S => s_X11_begin S 0 l1 l2 l3 l4) (fun S => s_X12_begin S 33 l1 l2 l3 l4) S := by
  have hC := h.2.1
  have hM := h.1
  have t0 : (0 : Int32).toInt = 0 := rfl
  obtain ⟨nd, nc, nh, e37d, e37c, e37h, nd4, nc4, nh4⟩ := h.cnt
  have hh : ((nI nh - 1 : Int32).toInt64).toInt = (nh : Int) - 1 := by
    rw [i64_of32, i32_sub (by rw [nI_toInt (by omega)]; show _ ≤ (nh : Int) - 1; omega) (by rw [nI_toInt (by omega)]; show (nh : Int) - 1 < _; omega), nI_toInt (by omega)]
    rfl
  show ∃ r S1 S2, s_X11_begin S 0 l1 l2 l3 l4 = some (r, S1) ∧ s_X12_begin S1 33 l1 l2 l3 l4 = some (r, S2) ∧ RR S2
  -- the reference
  have mo1 : ∀ X, LM X → hI X 37 = hI S 37 → ¬ ((0 ≤ l1.toInt ∧ l1.toInt < nd) ∧ (0 ≤ l2.toInt ∧ l2.toInt < nc) ∧ (0 ≤ l3.toInt ∧ l3.toInt ≤ (nh : Int) - 1)) → s_X12_begin X 33 l1 l2 l3 l4 = some (-1000001, wI X 33 0 0) := by
    intro X hX e hb
    have hX2 : LM (wI X 33 0 0) := hX
    have f : hI (wI X 33 0 0) 37 = hI S 37 := by rw [hI_wI_ne (by decide)]; exact e
    unfold s_X12_begin
    rw [kwI_m hX, kO_m hX2, m_isDisc hX2 (by rw [f]; exact e37d) nd4, kc_some]
    by_cases c1 : 0 ≤ l1.toInt ∧ l1.toInt < nd
    · rw [if_pos c1, if_neg (by decide), kO_m hX2, m_isThread hX2 (by rw [f]; exact e37c) nc4, kc_some]
      by_cases c2 : 0 ≤ l2.toInt ∧ l2.toInt < nc
      · rw [if_pos c2, if_neg (by decide), kP_m5 hX2, kA_m37 hX2 (i := 2) (k := 2) rfl (by decide), f, e37h, m_inI _ (a := 0) (b := (nh : Int) - 1) rfl hh, kc_some, if_neg (fun z => hb ⟨c1, c2, z⟩), if_pos rfl]
      · rw [if_neg c2, if_pos rfl]
    · rw [if_neg c1, if_pos rfl]
  cases hb : hP S 4 1 with
  | none =>
    have h6 := h.2.2.2.2.2.1
    rw [hb] at h6
    obtain ⟨-, -, -, y0, y1, y2, -⟩ := h6
    have nd0 : nd = 0 := (nI_eqI (b := 0) (by omega) (by decide)).mp (e37d.symm.trans y0)
    have e1 : s_X11_discAt S 0 l1 = some (none, S) := by
      unfold s_X11_discAt s_X11_discAt_b24
      rw [kP_c0_2 hC, kP_c4 hC, hb, if_pos rfl]
    have e2 : s_X11_cordAt S 0 l2 = some (none, S) := by
      unfold s_X11_cordAt s_X11_cordAt_b24
      rw [kP_c0_2 hC, kP_c4 hC, hb, if_pos rfl]
    have e3 : s_X11_handAt S 0 l3 = some (none, S) := by
      unfold s_X11_handAt s_X11_handAt_b24
      rw [kP_c0_2 hC, kP_c4 hC, hb, if_pos rfl]
    unfold s_X11_begin
    rw [kO_c0 hC, e1, kc_some, kO_c0 hC, e2, kc_some, kO_c0 hC, e3, kc_some, if_pos rfl]
    exact ⟨_, S, _, rfl, mo1 S hM rfl (by omega), h.w0⟩
  | some b =>
    obtain ⟨nd', nc', a0, a1, b1, b2, b3, x4, y4, eA, eB, eA2, eB2, p0, p1, p2, p3, p4, q0, q1, q2, q3, q4, hD, hQ⟩ := h.bx hb
    obtain ⟨nh', a2, nh1, nh4', eH, eH2, r0, r1, r2, r3, r4, hH⟩ := h.hand hb
    have E1 : nd' = nd := (nI_eqI (by omega) (by omega)).mp (eA.symm.trans e37d)
    have E2 : nc' = nc := (nI_eqI (by omega) (by omega)).mp (eB.symm.trans e37c)
    have E3 : nh' = nh := (nI_eqI (by omega) (by omega)).mp (eH.symm.trans e37h)
    subst E1
    subst E2
    subst E3
    unfold s_X11_begin
    rw [kO_c0 hC]
    rcases c_discB hC hb b2 b3 eA2 nd4 p0 p2 p3 p4 l1 with ⟨d, d1, d2, d3⟩ | ⟨d1, d3⟩
    · have i1 : l1.toInt = (d : Int) := by rw [d2]; exact nI_toInt (by omega)
      obtain ⟨c, c1, hc⟩ := hD d d1
      rw [d3, c1, kc_some, kO_c0 hC]
      rcases c_cordB hC hb b2 b3 eB2 nc4 q0 q2 q3 q4 l2 with ⟨k, k1, k2, k3⟩ | ⟨k1, k3⟩
      · have i2 : l2.toInt = (k : Int) := by rw [k2]; exact nI_toInt (by omega)
        obtain ⟨q, q5, hq⟩ := hQ k k1
        rw [k3, q5, kc_some, kO_c0 hC]
        rcases c_handB hC hb b2 b3 eH2 nh4 r0 r2 r3 r4 l3 with ⟨g, g1, g2, g3⟩ | ⟨g1, g3⟩
        · have i3 : l3.toInt = (g : Int) := by rw [g2]; exact nI_toInt (by omega)
          obtain ⟨hd, hd1, hd2, hhd⟩ := hH g g1
          rw [g3, hd1, kc_some, if_neg (by simp), if_neg (by simp), if_neg (by simp), kI_some hq.2.1 hq.2.2.1]
          have hmo := hq.2.2.2.2.2.most
          have em : hI S 37 (15 + 4 * k + 2) = hI S q 2 := (hq.2.2.2.2.1 2 (by decide)).symm
          have nm : (-(hI S q 2)).toInt = -(hI S q 2).toInt := i32_neg (by omega)
          have hn1 : ((-(hI S q 2) : Int32).toInt64).toInt = -(hI S q 2).toInt := by rw [i64_of32, nm]
          have good : (0 ≤ l1.toInt ∧ l1.toInt < nd') ∧ (0 ≤ l2.toInt ∧ l2.toInt < nc') ∧ (0 ≤ l3.toInt ∧ l3.toInt ≤ (nh' : Int) - 1) := by omega
          have mo2 : ∀ X, LM X → hI X 37 = hI S 37 → s_X12_begin X 33 l1 l2 l3 l4 = (if -(hI S q 2).toInt ≤ l4.toInt ∧ l4.toInt ≤ (hI S q 2).toInt then s_X12_begin_L69 33 100000 (wI X 33 0 0) l1 l2 l3 l4 0 else some (-1000001, wI X 33 0 0)) := by
            intro X hX e
            have hX2 : LM (wI X 33 0 0) := hX
            have f : hI (wI X 33 0 0) 37 = hI S 37 := by rw [hI_wI_ne (by decide)]; exact e
            unfold s_X12_begin
            rw [kwI_m hX, kO_m hX2, m_isDisc hX2 (by rw [f]; exact e37d) nd4, kc_some, if_pos good.1, if_neg (by decide), kO_m hX2, m_isThread hX2 (by rw [f]; exact e37c) nc4, kc_some, if_pos good.2.1, if_neg (by decide), kP_m5 hX2, kA_m37 hX2 (i := 2) (k := 2) rfl (by decide), f, e37h, m_inI _ (a := 0) (b := (nh' : Int) - 1) rfl hh, kc_some, if_pos good.2.2, if_neg (by decide), kO_m hX2, m_threadOf hX2 k2 (l2 := 2) (j := 2) rfl (by omega) (by decide), kc_some, f, em, kO_m hX2, m_threadOf hX2 k2 (l2 := 2) (j := 2) rfl (by omega) (by decide), kc_some, f, em, m_inI _ hn1 (i64_of32 _), kc_some]
            by_cases z : -(hI S q 2).toInt ≤ l4.toInt ∧ l4.toInt ≤ (hI S q 2).toInt
            · rw [if_pos z, if_neg (by decide), if_pos z]
            · rw [if_neg z, if_pos rfl, if_neg z]
          by_cases u1 : l4 < -(hI S q 2)
          · have w1 := i32_lt.mp u1
            rw [if_pos u1]
            exact ⟨_, S, _, rfl, by rw [mo2 S hM rfl, if_neg (by omega)], h.w0⟩
          · have w1 : ¬ _ := fun z => u1 (i32_lt.mpr z)
            rw [if_neg u1, kI_some hq.2.1 hq.2.2.1]
            by_cases u2 : l4 ≤ hI S q 2
            · have w2 := i32_le.mp u2
              rw [if_pos u2, kP_c0_2 hC, kP_c4_0 hC, kO_c5 hC, k_runStart (hC.lt (by decide)) (hC.k (by decide) rfl), kcv_some]
              have hS1 : LM (st8 S 5 (some c) (some q) (some hd) l4) := hM.to rfl (fun _ => rfl) (fun _ => rfl) (by
                funext j
                show hP (wP (wP (wP S 5 0 (some c)) 5 1 (some q)) 5 2 (some hd)) 33 j = _
                rw [hP_wP, if_neg (by omega), hP_wP, if_neg (by omega), hP_wP, if_neg (by omega)])
              have s5 : hI (st8 S 5 (some c) (some q) (some hd) l4) 5 = c0 (hI S 5) l4 := hI_wC_self _ _ _
              have sn : ∀ a, a ≠ 5 → hI (st8 S 5 (some c) (some q) (some hd) l4) a = hI S a := fun a ha => hI_wC_ne ha
              have sp : ∀ a, a ≠ 5 → hP (st8 S 5 (some c) (some q) (some hd) l4) a = hP S a := fun a ha => by
                funext j
                show hP (wP (wP (wP S 5 0 (some c)) 5 1 (some q)) 5 2 (some hd)) a j = _
                rw [hP_wP, if_neg (fun z => ha z.1), hP_wP, if_neg (fun z => ha z.1), hP_wP, if_neg (fun z => ha z.1)]
              have sp0 : hP (st8 S 5 (some c) (some q) (some hd) l4) 5 0 = some c ∧ hP (st8 S 5 (some c) (some q) (some hd) l4) 5 1 = some q ∧ hP (st8 S 5 (some c) (some q) (some hd) l4) 5 2 = some hd := by
                refine ⟨?_, ?_, ?_⟩
                · show hP (wP (wP (wP S 5 0 (some c)) 5 1 (some q)) 5 2 (some hd)) 5 0 = _
                  rw [hP_wP, if_neg (by decide), hP_wP, if_neg (by decide), hP_wP, if_pos (by decide)]
                · show hP (wP (wP (wP S 5 0 (some c)) 5 1 (some q)) 5 2 (some hd)) 5 1 = _
                  rw [hP_wP, if_neg (by decide), hP_wP, if_pos (by decide)]
                · show hP (wP (wP (wP S 5 0 (some c)) 5 1 (some q)) 5 2 (some hd)) 5 2 = _
                  rw [hP_wP, if_pos (by decide)]
              have s1 : (st8 S 5 (some c) (some q) (some hd) l4).1 = S.1 := rfl
              generalize st8 S 5 (some c) (some q) (some hd) l4 = S1 at hS1 s5 sn sp sp0 s1
              have e40 : hI (wI S1 33 0 0) 40 = hI S 40 := by rw [hI_wI_ne (by decide), sn 40 (by decide)]
              obtain ⟨T2, i1', t1, tP, ti, t40⟩ := m_beginL (l1 := l1) (l2 := l2) (l3 := l3) (l4 := l4) 12 100000 0 (wI S1 33 0 0) hS1 (by decide) (by decide)
              have T1 : T2.1 = S.1 := t1.trans s1
              have TPe : ∀ a, a ≠ 5 → hP T2 a = hP S a := fun a ha => by rw [tP]; exact sp a ha
              have TP5 : hP T2 5 = hP S1 5 := by rw [tP]; rfl
              have TI : ∀ a, a ≠ 5 → a ≠ 33 → a ≠ 40 → hI T2 a = hI S a := fun a a5 a33 a40 => by rw [ti a a40, hI_wI_ne a33, sn a a5]
              have T33 : ∀ j, j ≠ 0 → hI T2 33 j = hI S 33 j := fun j hj => by rw [ti 33 (by decide), hI_wI_j hj, sn 33 (by decide)]
              have T5 : hI T2 5 = c0 (hI S 5) l4 := by rw [ti 5 (by decide), hI_wI_ne (by decide), s5]
              have en : hN T2 = hN S := congrArg (fun x => x.1) T1
              have ek : ∀ c, hK T2 c = hK S c := fun c => congrArg (fun x => (x.2 c).1) T1
              have el : ∀ c, hL T2 c = hL S c := fun c => congrArg (fun x => (x.2 c).2) T1
              have hag : AG S T2 := ⟨Nat.le_of_eq en.symm, fun c hc _ => ⟨ek c, el c, TI c (by omega) (by omega) (by omega), TPe c (by omega)⟩⟩
              have N : ∀ j, j < 12 → hI T2 40 j = nw0 l4 l1 l2 l3 j := fun j hj => t40 j hj (fun z => by omega)
              refine ⟨1, S1, T2, rfl, ?_, ?_⟩
              · rw [mo2 S1 hS1 (sn 37 (by decide)), if_pos (by omega)]
                exact i1'
              · refine h.scene (Nat.le_of_eq en.symm) (fun c _ => ⟨ek c, el c⟩) hag (fun a _ _ a5 => TPe a a5) (by rw [TPe 4 (by decide)]) (fun a ha => TI a (by omega) (by omega) (by omega)) ?_ ⟨?_, ?_, ?_⟩ ?_ ?_ ?_
                · unfold TP
                  rw [TI 2 (by decide) (by decide) (by decide), TI 3 (by decide) (by decide) (by decide), TI 39 (by decide) (by decide) (by decide), T33 9 (by decide)]
                  exact h.2.2.2.1
                · rw [TI 0 (by decide) (by decide) (by decide), T33 10 (by decide)]; exact h.2.2.2.2.1.1
                · rw [TI 0 (by decide) (by decide) (by decide), T33 1 (by decide)]; exact h.2.2.2.2.1.2.1
                · rw [TI 0 (by decide) (by decide) (by decide), T33 25 (by decide)]; exact h.2.2.2.2.1.2.2
                · exact T33 31 (by decide)
                · exact Or.inl (T33 7 (by decide))
                · rw [TPe 4 (by decide), hb, TP5, T33 7 (by decide), TI 37 (by decide) (by decide) (by decide)]
                  have h6 := h.2.2.2.2.2.1
                  rw [hb] at h6
                  refine ⟨h6.1, h6.2.1.keep hag, ?_⟩
                  unfold RN
                  rw [sp0.2.2]
                  dsimp only
                  have f0 : hI T2 q = hI S q := TI q (by have := hq.1; omega) (by have := hq.1; omega) (by have := hq.1; omega)
                  refine ⟨N 0 (by decide), a0, a1, a2, d, k, g, c, q, by rw [TPe b (by omega)]; exact p0, by rw [TPe b (by omega)]; exact q0, by rw [TPe b (by omega)]; exact r0, ⟨?_, ?_, ?_⟩, ⟨by omega, by omega, by omega⟩, ⟨(N 1 (by decide)).trans d2, (N 2 (by decide)).trans k2, (N 3 (by decide)).trans g2⟩, ⟨sp0.1, by rw [TPe a0 (by omega)]; exact c1⟩, ⟨sp0.2.1, by rw [TPe a1 (by omega)]; exact q5⟩, by rw [TPe a2 (by omega)]; exact hd1, ?_⟩
                  · rw [eA]; exact nI_lt d1 (by omega)
                  · rw [eB]; exact nI_lt k1 (by omega)
                  · rw [eH]; exact nI_lt g1 (by omega)
                  · rw [T5, f0, N 4 (by decide), N 5 (by decide), N 6 (by decide), N 7 (by decide), N 8 (by decide), N 9 (by decide), N 10 (by decide), N 11 (by decide)]
                    refine ⟨rfl, rfl, rfl, rfl, Or.inl rfl, rfl, rfl, rfl, ⟨?_, (show (0 : Int32).toInt.natAbs ≤ 1600 by decide)⟩, ⟨?_, by decide⟩, Or.inl ⟨rfl, rfl⟩⟩
                    · show (l4.toInt.natAbs : Int) ≤ _
                      omega
                    · show (l4.toInt.natAbs : Int) ≤ _
                      omega
            · have w2 : ¬ _ := fun z => u2 (i32_le.mpr z)
              rw [if_neg u2]
              exact ⟨_, S, _, rfl, by rw [mo2 S hM rfl, if_neg (by omega)], h.w0⟩
        · rw [g3, kc_some, if_neg (by simp), if_neg (by simp), if_pos rfl]
          exact ⟨_, S, _, rfl, mo1 S hM rfl (fun z => g1 ⟨z.2.2.1, by omega⟩), h.w0⟩
      · rw [k3, kc_some, kO_c0 hC]
        rcases c_handB hC hb b2 b3 eH2 nh4 r0 r2 r3 r4 l3 with ⟨g, g1, g2, g3⟩ | ⟨g1, g3⟩
        · rw [g3, kc_some, if_neg (by simp), if_pos rfl]
          exact ⟨_, S, _, rfl, mo1 S hM rfl (fun z => k1 z.2.1), h.w0⟩
        · rw [g3, kc_some, if_neg (by simp), if_pos rfl]
          exact ⟨_, S, _, rfl, mo1 S hM rfl (fun z => k1 z.2.1), h.w0⟩
    · rw [d3, kc_some, kO_c0 hC]
      rcases c_cordB hC hb b2 b3 eB2 nc4 q0 q2 q3 q4 l2 with ⟨k, k1, k2, k3⟩ | ⟨k1, k3⟩
      · rw [k3, kc_some, kO_c0 hC]
        rcases c_handB hC hb b2 b3 eH2 nh4 r0 r2 r3 r4 l3 with ⟨g, g1, g2, g3⟩ | ⟨g1, g3⟩
        · rw [g3, kc_some, if_pos rfl]
          exact ⟨_, S, _, rfl, mo1 S hM rfl (fun z => d1 z.1), h.w0⟩
        · rw [g3, kc_some, if_pos rfl]
          exact ⟨_, S, _, rfl, mo1 S hM rfl (fun z => d1 z.1), h.w0⟩
      · rw [k3, kc_some, kO_c0 hC]
        rcases c_handB hC hb b2 b3 eH2 nh4 r0 r2 r3 r4 l3 with ⟨g, g1, g2, g3⟩ | ⟨g1, g3⟩
        · rw [g3, kc_some, if_pos rfl]
          exact ⟨_, S, _, rfl, mo1 S hM rfl (fun z => d1 z.1), h.w0⟩
        · rw [g3, kc_some, if_pos rfl]
          exact ⟨_, S, _, rfl, mo1 S hM rfl (fun z => d1 z.1), h.w0⟩
