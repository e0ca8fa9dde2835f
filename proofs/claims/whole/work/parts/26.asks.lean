/-! ===== what a foretold RUN changes; who is asked ===== -/
/-- T is S but for what only foretold RUNS and readings use -/
def SX (S T : HS) : Prop := hN T = hN S ∧ (∀ c, hK T c = hK S c) ∧ (∀ c, hL T c = hL S c) ∧
  (∀ c, c ≠ 7 → c ≠ 8 → c ≠ 9 → c ≠ 10 → c ≠ 33 → c ≠ 38 → c ≠ 41 → hI T c = hI S c) ∧
  (∀ j, j = 1 ∨ j = 7 ∨ j = 9 ∨ j = 10 ∨ j = 25 ∨ j = 31 → hI T 33 j = hI S 33 j) ∧ (∀ c, c ≠ 7 → c ≠ 8 → hP T c = hP S c) ∧ ∀ j, j < 3 → hP T 7 j = hP S 7 j
theorem SX.rf (S : HS) : SX S S := ⟨rfl, fun _ => rfl, fun _ => rfl, fun _ _ _ _ _ _ _ _ => rfl, fun _ _ => rfl, fun _ _ _ => rfl, fun _ _ => rfl⟩
theorem SX.tr {S T U : HS} (h : SX S T) (g : SX T U) : SX S U :=
  ⟨g.1.trans h.1, fun c => (g.2.1 c).trans (h.2.1 c), fun c => (g.2.2.1 c).trans (h.2.2.1 c), fun c a1 a2 a3 a4 a5 a6 a7 => (g.2.2.2.1 c a1 a2 a3 a4 a5 a6 a7).trans (h.2.2.2.1 c a1 a2 a3 a4 a5 a6 a7), fun j hj => (g.2.2.2.2.1 j hj).trans (h.2.2.2.2.1 j hj), fun c a1 a2 => (g.2.2.2.2.2.1 c a1 a2).trans (h.2.2.2.2.2.1 c a1 a2), fun j hj => (g.2.2.2.2.2.2 j hj).trans (h.2.2.2.2.2.2 j hj)⟩
theorem SX.cw {S : HS} {c : Nat} (f : Nat → Int32) (hc : c = 7 ∨ c = 8 ∨ c = 9 ∨ c = 10 ∨ c = 38 ∨ c = 41) : SX S (wC S c f) :=
  ⟨rfl, fun _ => rfl, fun _ => rfl, fun a _ _ _ _ _ _ _ => hI_wC_ne (by omega), fun j _ => by rw [hI_wC_ne (by omega)], fun _ _ _ => rfl, fun _ _ => rfl⟩
theorem SX.w33 {S : HS} (f : Nat → Int32) (hf : ∀ j, j = 1 ∨ j = 7 ∨ j = 9 ∨ j = 10 ∨ j = 25 ∨ j = 31 → f j = hI S 33 j) : SX S (wC S 33 f) :=
  ⟨rfl, fun _ => rfl, fun _ => rfl, fun a _ _ _ _ h _ _ => hI_wC_ne h, fun j hj => by rw [hI_wC_self]; exact hf j hj, fun _ _ _ => rfl, fun _ _ => rfl⟩
theorem SX.iw {S : HS} {c j : Nat} (v : Int32) (hc : c = 7 ∨ c = 8 ∨ c = 9 ∨ c = 10 ∨ c = 38 ∨ c = 41) : SX S (wI S c j v) := by
  rw [wI_wC]
  exact SX.cw _ hc
theorem SX.pw {S : HS} {c j : Nat} (v : Option Nat) (hc : c = 7 ∨ c = 8) (hj : c = 7 → 3 ≤ j) : SX S (wP S c j v) :=
  ⟨rfl, fun _ => rfl, fun _ => rfl, fun _ _ _ _ _ _ _ _ => rfl, fun _ _ => rfl, fun a h1 h2 => funext fun b => by rw [hP_wP, if_neg (by omega)], fun i hi => by rw [hP_wP, if_neg (by omega)]⟩
theorem SX.AG {S T : HS} (h : SX S T) : AG S T := ⟨Nat.le_of_eq h.1.symm, fun c h1 _ => ⟨h.2.1 c, h.2.2.1 c, h.2.2.2.1 c (by omega) (by omega) (by omega) (by omega) (by omega) (by omega) (by omega), h.2.2.2.2.2.1 c (by omega) (by omega)⟩⟩
theorem LM.to {S T : HS} (h : LM S) (hn : hN T = hN S) (hk : ∀ c, hK T c = hK S c) (hl : ∀ c, hL T c = hL S c) (hp : hP T 33 = hP S 33) : LM T := by
  unfold LM at h ⊢
  rw [hn, hp]
  simp only [hk, hl]
  exact h
theorem LC.to {S T : HS} (h : LC S) (hn : hN T = hN S) (hk : ∀ c, hK T c = hK S c) (hl : ∀ c, hL T c = hL S c) (hp : ∀ c, c ≠ 7 → c ≠ 8 → hP T c = hP S c) (hp7 : ∀ j, j < 3 → hP T 7 j = hP S 7 j) : LC T := by
  obtain ⟨h0, h1, h2, h3, h4, h5, h6, h7, h8, h9, h10, h11, h12, h13, h14⟩ := h
  refine ⟨by rw [hn]; exact h0, fun c hc => by rw [hk]; exact h1 c hc, fun c hc => by rw [hl]; exact h2 c hc, by rw [hp 0 (by decide) (by decide)]; exact h3, fun r hr => ?_, by rw [hp 2 (by decide) (by decide)]; exact h5, by rw [hp 4 (by decide) (by decide)]; exact h6, by rw [hp 6 (by decide) (by decide)]; exact h7, by rw [hp 6 (by decide) (by decide)]; exact h8, by rw [hp7 0 (by decide)]; exact h9, by rw [hp7 1 (by decide)]; exact h10, by rw [hp7 2 (by decide)]; exact h11, by rw [hp 11 (by decide) (by decide)]; exact h12, by rw [hp 29 (by decide) (by decide)]; exact h13, by rw [hp 31 (by decide) (by decide)]; exact h14⟩
  rw [hp 1 (by decide) (by decide), hp (13 + 2 * r) (by omega) (by omega)]
  exact h4 r hr
theorem RR.to {S T : HS} (h : RR S) (g : SX S T) : RR T := by
  have hag := g.AG
  obtain ⟨hn, hk, hl, hi, h33, hp, hp7⟩ := g
  obtain ⟨r1, r2, r3, r4, r5, r6, r7, r8⟩ := h
  have i : ∀ c, c ≠ 7 ∧ c ≠ 8 ∧ c ≠ 9 ∧ c ≠ 10 ∧ c ≠ 33 ∧ c ≠ 38 ∧ c ≠ 41 → hI T c = hI S c := fun c hc => hi c hc.1 hc.2.1 hc.2.2.1 hc.2.2.2.1 hc.2.2.2.2.1 hc.2.2.2.2.2.1 hc.2.2.2.2.2.2
  refine ⟨r1.to hn hk hl (hp 33 (by decide) (by decide)), r2.to hn hk hl hp hp7, fun r hr => ?_, ?_, ?_, ?_, fun k hk2 => ?_, ?_⟩
  · rw [i (13 + 2 * r) (by omega), i (14 + 2 * r) (by omega), i 34 (by decide), i 35 (by decide), i 36 (by decide)]
    exact r3 r hr
  · rw [i 2 (by decide), i 3 (by decide), i 39 (by decide), h33 9 (by decide)]
    exact r4
  · rw [i 0 (by decide), h33 10 (by decide), h33 1 (by decide), h33 25 (by decide)]
    exact r5
  · rw [hp 4 (by decide) (by decide), hp 5 (by decide) (by decide), i 5 (by decide), h33 7 (by decide), i 37 (by decide), i 40 (by decide)]
    exact r6.keep hag
  · rw [hp (29 + 2 * k) (by omega) (by omega), hp (30 + 2 * k) (by omega) (by omega), i (30 + 2 * k) (by omega), i 42 (by decide), i 43 (by decide), i 44 (by decide), h33 7 (by decide)]
    exact ⟨(r7 k hk2).1.keep hag, (r7 k hk2).2⟩
  · rw [i 11 (by decide), h33 31 (by decide), i 12 (by decide), i 45 (by decide)]
    exact r8
theorem i64_of32 (a : Int32) : a.toInt64.toInt = a.toInt := Int32.toInt_toInt64 a
theorem m_in (S : HS) (x lo hi : Int64) : s_X12_in S x lo hi = some ((if x < lo then 0 else if hi < x then 0 else 1), S) := by
  unfold s_X12_in
  split
  · rfl
  · split <;> rfl
/-- in() of ints, by ints -/
theorem m_inI (S : HS) {x : Int32} {lo hi : Int64} {a b : Int} (h1 : lo.toInt = a) (h2 : hi.toInt = b) : s_X12_in S x.toInt64 lo hi = some ((if a ≤ x.toInt ∧ x.toInt ≤ b then 1 else 0), S) := by
  rw [m_in]
  simp only [i64_lt, i64_of32, h1, h2]
  by_cases c : a ≤ x.toInt ∧ x.toInt ≤ b
  · rw [if_pos c, if_neg (by omega), if_neg (by omega)]
  · rw [if_neg c]
    split
    · rfl
    · rw [if_pos (by omega)]
theorem kzr_b (S : HS) (p : Prop) [Decidable p] : kzr (if p then 1 else 0) S = some ((if p then 1 else 0), S) := by split <;> rfl
theorem m_isDisc {S : HS} (h : LM S) {n : Nat} (hn : hI S 37 0 = nI n) (hn2 : n ≤ 4) (i : Int32) : s_X12_isDisc S 33 i = some ((if 0 ≤ i.toInt ∧ i.toInt < n then 1 else 0), S) := by
  unfold s_X12_isDisc
  have e : (hI S 37 0 - 1 : Int32).toInt64.toInt = (n : Int) - 1 := by
    rw [i64_of32, hn]
    have h1 : (nI n).toInt = (n : Int) := nI_toInt (by omega)
    have h2 : (1 : Int32).toInt = 1 := rfl
    rw [i32_sub (by omega) (by omega), h1, h2]
  rw [kP_m5 h, kA_m37 h (i := 0) (k := 0) rfl (by decide), m_inI S (a := 0) (b := (n : Int) - 1) rfl e, kc_some, kzr_b]
  have e2 : (0 ≤ i.toInt ∧ i.toInt ≤ (n : Int) - 1) = (0 ≤ i.toInt ∧ i.toInt < n) := propext (by omega)
  simp only [e2]
theorem m_isThread {S : HS} (h : LM S) {n : Nat} (hn : hI S 37 1 = nI n) (hn2 : n ≤ 4) (i : Int32) : s_X12_isThread S 33 i = some ((if 0 ≤ i.toInt ∧ i.toInt < n then 1 else 0), S) := by
  unfold s_X12_isThread
  have e : (hI S 37 1 - 1 : Int32).toInt64.toInt = (n : Int) - 1 := by
    rw [i64_of32, hn]
    have h1 : (nI n).toInt = (n : Int) := nI_toInt (by omega)
    have h2 : (1 : Int32).toInt = 1 := rfl
    rw [i32_sub (by omega) (by omega), h1, h2]
  rw [kP_m5 h, kA_m37 h (i := 1) (k := 1) rfl (by decide), m_inI S (a := 0) (b := (n : Int) - 1) rfl e, kc_some, kzr_b]
  have e2 : (0 ≤ i.toInt ∧ i.toInt ≤ (n : Int) - 1) = (0 ≤ i.toInt ∧ i.toInt < n) := propext (by omega)
  simp only [e2]
/-- how many DISCS, THREADS, HANDS there are -/
theorem RR.cnt {S : HS} (h : RR S) : ∃ nd nc nh : Nat, hI S 37 0 = nI nd ∧ hI S 37 1 = nI nc ∧ hI S 37 2 = nI nh ∧ nd ≤ 4 ∧ nc ≤ 4 ∧ nh ≤ 4 := by
  have h6 := h.2.2.2.2.2.1
  cases hb : hP S 4 1 with
  | none =>
    rw [hb] at h6
    obtain ⟨-, -, -, e0, e1, e2, -⟩ := h6
    exact ⟨0, 0, 0, e0, e1, e2, by decide, by decide, by decide⟩
  | some b =>
    rw [hb] at h6
    obtain ⟨-, ⟨-, -, -, nd, nc, nh, -, -, -, h4, h5, -⟩, -⟩ := h6
    exact ⟨nd, nc, nh, h5.1, h5.2.1, h5.2.2, by omega, by omega, by omega⟩
/-- a DISC of both -/
def isD (S : HS) (c d : Nat) : Prop := 46 ≤ c ∧ c < hN S ∧ hK S c = 3 ∧ d < 4 ∧ (∀ j, j < 3 → hI S c j = hI S 37 (3 + 3 * d + j)) ∧ DOK (hI S c 0) (hI S c 1) (hI S c 2)
def isC (S : HS) (q k : Nat) : Prop := 46 ≤ q ∧ q < hN S ∧ hK S q = 2 ∧ k < 4 ∧ (∀ j, j < 4 → hI S q j = hI S 37 (15 + 4 * k + j)) ∧ COK (hI S q 0) (hI S q 1) (hI S q 2) (hI S q 3)
theorem c_discAt_ {S : HS} (h : RR S) {n : Nat} (hn : hI S 37 0 = nI n) (hn2 : n ≤ 4) (i : Int32) : (0 ≤ i.toInt ∧ i.toInt < n ∧ ∃ c d, i = nI d ∧ s_X11_discAt S 0 i = some (some c, S) ∧ isD S c d) ∨ (¬ (0 ≤ i.toInt ∧ i.toInt < n) ∧ s_X11_discAt S 0 i = some (none, S)) := by
  have hLC := h.2.1
  have h6 := h.2.2.2.2.2.1
  have x2 : hP S 0 2 = some 4 := hLC.2.2.2.1.2.2.1
  unfold s_X11_discAt s_X11_discAt_b24
  rw [kP_some (a := 0) (kd := 11) (hLC.lt (by decide)) (hLC.k (by decide) rfl), x2, kP_some (a := 4) (kd := 9) (hLC.lt (by decide)) (hLC.k (by decide) rfl)]
  cases hb : hP S 4 1 with
  | none =>
    rw [hb] at h6
    obtain ⟨-, -, -, e0, -⟩ := h6
    have n0 : n = 0 := by
      have h1 : (nI n).toInt = (n : Int) := nI_toInt (by omega)
      rw [← hn, e0] at h1
      have : (0 : Int32).toInt = 0 := rfl
      omega
    refine Or.inr ⟨by omega, ?_⟩
    rw [if_pos rfl]
  | some b =>
    rw [hb] at h6
    obtain ⟨-, ⟨b1, b2, b3, nd, nc, nh, a0, a1, a2, h4, h5, e3, ⟨p0, p1, p2, p3, p4⟩, -, -, hD, -⟩, -⟩ := h6
    have nn : nd = n := by
      have h1 : (nI n).toInt = (n : Int) := nI_toInt (by omega)
      have h2 : (nI nd).toInt = (nd : Int) := nI_toInt (by omega)
      rw [← hn, h5.1] at h1
      omega
    subst nn
    rw [if_neg (by simp)]
    have hd3 : (nI nd).toInt = (nd : Int) := nI_toInt (by omega)
    by_cases c1 : i < 0
    · have c2 := i32_lt.mp c1
      rw [i32_0] at c2
      exact Or.inr ⟨by omega, by rw [if_pos c1]⟩
    · have c2 : ¬ i.toInt < (0 : Int32).toInt := fun q => c1 (i32_lt.mpr q)
      rw [i32_0] at c2
      rw [if_neg c1, kI_some b2 b3, e3.1]
      by_cases c3 : i < nI nd
      · have c4 := i32_lt.mp c3
        rw [hd3] at c4
        refine Or.inl ⟨by omega, c4, ?_⟩
        obtain ⟨d, hd, hdi⟩ : ∃ d : Nat, d < nd ∧ i = nI d := ⟨i.toInt.toNat, by omega, (ix_to (lo := 0) (hi := (nd : Int)) (by omega) c4 (by decide)).1⟩
        obtain ⟨c, q1, q2, q3, q4, q5, q6⟩ := hD d hd
        refine ⟨c, d, hdi, ?_, q2, q3, q4, by omega, q5, q6⟩
        rw [if_pos c3, kP_some b2 b3, p0, kAP_in p2 p3 (by rw [p4]; exact ix_ok hdi (by omega) (by decide)), hdi, nI_clamp (by omega), q1]
      · have c4 : ¬ i.toInt < (nI nd).toInt := fun q => c3 (i32_lt.mpr q)
        rw [hd3] at c4
        exact Or.inr ⟨by omega, by rw [if_neg c3]⟩
theorem c_cordAt_ {S : HS} (h : RR S) {n : Nat} (hn : hI S 37 1 = nI n) (hn2 : n ≤ 4) (i : Int32) : (0 ≤ i.toInt ∧ i.toInt < n ∧ ∃ c d, i = nI d ∧ s_X11_cordAt S 0 i = some (some c, S) ∧ isC S c d) ∨ (¬ (0 ≤ i.toInt ∧ i.toInt < n) ∧ s_X11_cordAt S 0 i = some (none, S)) := by
  have hLC := h.2.1
  have h6 := h.2.2.2.2.2.1
  have x2 : hP S 0 2 = some 4 := hLC.2.2.2.1.2.2.1
  unfold s_X11_cordAt s_X11_cordAt_b24
  rw [kP_some (a := 0) (kd := 11) (hLC.lt (by decide)) (hLC.k (by decide) rfl), x2, kP_some (a := 4) (kd := 9) (hLC.lt (by decide)) (hLC.k (by decide) rfl)]
  cases hb : hP S 4 1 with
  | none =>
    rw [hb] at h6
    obtain ⟨-, -, -, -, e0, -⟩ := h6
    have n0 : n = 0 := by
      have h1 : (nI n).toInt = (n : Int) := nI_toInt (by omega)
      rw [← hn, e0] at h1
      have : (0 : Int32).toInt = 0 := rfl
      omega
    refine Or.inr ⟨by omega, ?_⟩
    rw [if_pos rfl]
  | some b =>
    rw [hb] at h6
    obtain ⟨-, ⟨b1, b2, b3, nd, nc, nh, a0, a1, a2, h4, h5, e3, -, ⟨p0, p1, p2, p3, p4⟩, -, -, hD, -⟩, -⟩ := h6
    have nn : nc = n := by
      have h1 : (nI n).toInt = (n : Int) := nI_toInt (by omega)
      have h2 : (nI nc).toInt = (nc : Int) := nI_toInt (by omega)
      rw [← hn, h5.2.1] at h1
      omega
    subst nn
    rw [if_neg (by simp)]
    have hd3 : (nI nc).toInt = (nc : Int) := nI_toInt (by omega)
    by_cases c1 : i < 0
    · have c2 := i32_lt.mp c1
      rw [i32_0] at c2
      exact Or.inr ⟨by omega, by rw [if_pos c1]⟩
    · have c2 : ¬ i.toInt < (0 : Int32).toInt := fun q => c1 (i32_lt.mpr q)
      rw [i32_0] at c2
      rw [if_neg c1, kI_some b2 b3, e3.2.1]
      by_cases c3 : i < nI nc
      · have c4 := i32_lt.mp c3
        rw [hd3] at c4
        refine Or.inl ⟨by omega, c4, ?_⟩
        obtain ⟨d, hd, hdi⟩ : ∃ d : Nat, d < nc ∧ i = nI d := ⟨i.toInt.toNat, by omega, (ix_to (lo := 0) (hi := (nc : Int)) (by omega) c4 (by decide)).1⟩
        obtain ⟨c, q1, q2, q3, q4, q5, q6⟩ := hD d hd
        refine ⟨c, d, hdi, ?_, q2, q3, q4, by omega, q5, q6⟩
        rw [if_pos c3, kP_some b2 b3, p0, kAP_in p2 p3 (by rw [p4]; exact ix_ok hdi (by omega) (by decide)), hdi, nI_clamp (by omega), q1]
      · have c4 : ¬ i.toInt < (nI nc).toInt := fun q => c3 (i32_lt.mpr q)
        rw [hd3] at c4
        exact Or.inr ⟨by omega, by rw [if_neg c3]⟩
theorem c_isPull_ (S : HS) (f n : Int32) : s_X11_isPull S f n = some ((if (0 ≤ f.toInt ∧ f.toInt ≤ 99) ∧ (1 ≤ n.toInt ∧ n.toInt ≤ 300) then 1 else 0), S) := by
  unfold s_X11_isPull
  simp only [i32_lt, i32_0, kzr_0, kzr_1, show (99 : Int32).toInt = 99 from rfl, show (1 : Int32).toInt = 1 from rfl, show (300 : Int32).toInt = 300 from rfl]
  repeat' split
  all_goals first | rfl | (exfalso; omega)
