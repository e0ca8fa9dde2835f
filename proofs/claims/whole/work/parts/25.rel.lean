/-! ===== what stands between the calls ===== -/
def ckt : List Nat := [11, 19, 10, 13, 9, 8, 21, 4, 8, 14, 14, 0, 14, 6, 14, 6, 14, 6, 14, 6, 14, 6, 14, 6, 14, 6, 14, 6, 14, 9, 8, 9, 8]
def clt : List Nat := [0, 8, 0, 500, 0, 0, 2, 0, 0, 3, 3, 0, 16, 0, 40, 0, 40, 0, 40, 0, 40, 0, 40, 0, 40, 0, 40, 0, 40, 0, 0, 0, 0]
/-- the class's object stands at 0, what it made at 1 .. 32 -/
def LC (S : HS) : Prop := 46 ≤ hN S ∧ (∀ c, c < 33 → hK S c = ckt.getD c 0) ∧ (∀ c, c < 33 → hL S c = clt.getD c 0) ∧
  (hP S 0 0 = some 1 ∧ hP S 0 1 = some 2 ∧ hP S 0 2 = some 4 ∧ hP S 0 3 = some 6 ∧ hP S 0 4 = some 7 ∧ hP S 0 5 = some 11) ∧
  (∀ r, r < 8 → hP S 1 r = some (13 + 2 * r) ∧ hP S (13 + 2 * r) 0 = some (14 + 2 * r)) ∧
  hP S 2 0 = some 3 ∧ hP S 4 0 = some 5 ∧ hP S 6 0 = some 29 ∧ hP S 6 1 = some 31 ∧ hP S 7 0 = some 8 ∧ hP S 7 1 = some 9 ∧ hP S 7 2 = some 10 ∧ hP S 11 0 = some 12 ∧ hP S 29 0 = some 30 ∧ hP S 31 0 = some 32
theorem LC.lt {S : HS} (h : LC S) {c : Nat} (hc : c < 46) : c < hN S := Nat.lt_of_lt_of_le hc h.1
theorem LC.k {S : HS} (h : LC S) {c k : Nat} (hc : c < 33) (hk : ckt.getD c 0 = k) : hK S c = k := (h.2.1 c hc).trans hk
theorem LC.l {S : HS} (h : LC S) {c k : Nat} (hc : c < 33) (hk : clt.getD c 0 = k) : hL S c = k := (h.2.2.1 c hc).trans hk
theorem LC_wI (S : HS) (c j : Nat) (v : Int32) : LC (wI S c j v) ↔ LC S := Iff.rfl
theorem LC_wC (S : HS) (c : Nat) (f : Nat → Int32) : LC (wC S c f) ↔ LC S := Iff.rfl
/-- a BOX that was read: the class's cells, and the reference's row β -/
def BX (S : HS) (b : Nat) (β : Nat → Int32) : Prop := 46 ≤ b ∧ b < hN S ∧ hK S b = 1 ∧ ∃ nd nc nh a0 a1 a2 : Nat,
  (1 ≤ nd ∧ nd ≤ 4 ∧ 1 ≤ nc ∧ nc ≤ 4 ∧ 1 ≤ nh ∧ nh ≤ 4) ∧ (β 0 = nI nd ∧ β 1 = nI nc ∧ β 2 = nI nh) ∧ (hI S b 3 = nI nd ∧ hI S b 4 = nI nc ∧ hI S b 5 = nI nh) ∧
  (hP S b 0 = some a0 ∧ 46 ≤ a0 ∧ a0 < hN S ∧ hK S a0 = 17 ∧ hL S a0 = 4) ∧ (hP S b 1 = some a1 ∧ 46 ≤ a1 ∧ a1 < hN S ∧ hK S a1 = 16 ∧ hL S a1 = 4) ∧ (hP S b 2 = some a2 ∧ 46 ≤ a2 ∧ a2 < hN S ∧ hK S a2 = 18 ∧ hL S a2 = 4) ∧
  (∀ i, i < nd → ∃ c, hP S a0 i = some c ∧ 46 ≤ c ∧ c < hN S ∧ hK S c = 3 ∧ (∀ j, j < 3 → hI S c j = β (3 + 3 * i + j)) ∧ DOK (hI S c 0) (hI S c 1) (hI S c 2)) ∧
  (∀ i, i < nc → ∃ c, hP S a1 i = some c ∧ 46 ≤ c ∧ c < hN S ∧ hK S c = 2 ∧ (∀ j, j < 4 → hI S c j = β (15 + 4 * i + j)) ∧ COK (hI S c 0) (hI S c 1) (hI S c 2) (hI S c 3)) ∧
  (∀ i, i < nh → ∃ c ra m, hP S a2 i = some c ∧ 46 ≤ c ∧ c < hN S ∧ hK S c = 5 ∧ m ≤ 6 ∧ hI S c 1 = nI m ∧ β (31 + 25 * i) = nI m ∧ hP S c 0 = some ra ∧ 46 ≤ ra ∧ ra < hN S ∧ hK S ra = 20 ∧ hL S ra = 6 ∧
    ∀ u, u < m → ∃ z F, hP S ra u = some z ∧ 46 ≤ z ∧ z < hN S ∧ hK S z = 7 ∧ (∀ j, j < 4 → hI S z j = β (31 + 25 * i + 1 + 4 * u + j)) ∧ hI S z 3 = nI F ∧ F ≤ 99)
/-- nothing from 46 on was changed -/
def AG (S T : HS) : Prop := hN S ≤ hN T ∧ ∀ c, 46 ≤ c → c < hN S → hK T c = hK S c ∧ hL T c = hL S c ∧ hI T c = hI S c ∧ hP T c = hP S c
theorem AG.rf (S : HS) : AG S S := ⟨Nat.le_refl _, fun _ _ _ => ⟨rfl, rfl, rfl, rfl⟩⟩
theorem AG.tr {S T U : HS} (h : AG S T) (g : AG T U) : AG S U := ⟨Nat.le_trans h.1 g.1, fun c h1 h2 => by
  obtain ⟨a1, a2, a3, a4⟩ := h.2 c h1 h2
  obtain ⟨b1, b2, b3, b4⟩ := g.2 c h1 (Nat.lt_of_lt_of_le h2 h.1)
  exact ⟨b1.trans a1, b2.trans a2, b3.trans a3, b4.trans a4⟩⟩
theorem AG.wC {S : HS} {c : Nat} (f : Nat → Int32) (h : c < 46) : AG S (wC S c f) := ⟨Nat.le_refl _, fun a h1 _ => ⟨rfl, rfl, hI_wC_ne (by omega), rfl⟩⟩
theorem AG.wI {S : HS} {c j : Nat} (v : Int32) (h : c < 46) : AG S (wI S c j v) := by
  rw [wI_wC]
  exact AG.wC _ h
theorem AG.wP {S : HS} {c j : Nat} (v : Option Nat) (h : c < 46) : AG S (wP S c j v) := ⟨Nat.le_refl _, fun a h1 _ => ⟨rfl, rfl, rfl, funext fun b => by rw [hP_wP, if_neg (by omega)]⟩⟩
theorem BX.keep {S T : HS} {b : Nat} {β : Nat → Int32} (h : BX S b β) (g : AG S T) : BX T b β := by
  obtain ⟨h1, h2, h3, nd, nc, nh, a0, a1, a2, h4, h5, h6, ⟨p0, p1, p2, p3, p4⟩, ⟨q0, q1, q2, q3, q4⟩, ⟨r0, r1, r2, r3, r4⟩, hD, hC, hH⟩ := h
  obtain ⟨hn, hg⟩ := g
  have up : ∀ {c : Nat}, c < hN S → c < hN T := fun hc => Nat.lt_of_lt_of_le hc hn
  refine ⟨h1, up h2, by rw [(hg b h1 h2).1]; exact h3, nd, nc, nh, a0, a1, a2, h4, h5, by rw [(hg b h1 h2).2.2.1]; exact h6, ⟨by rw [(hg b h1 h2).2.2.2]; exact p0, p1, up p2, by rw [(hg a0 p1 p2).1]; exact p3, by rw [(hg a0 p1 p2).2.1]; exact p4⟩, ⟨by rw [(hg b h1 h2).2.2.2]; exact q0, q1, up q2, by rw [(hg a1 q1 q2).1]; exact q3, by rw [(hg a1 q1 q2).2.1]; exact q4⟩, ⟨by rw [(hg b h1 h2).2.2.2]; exact r0, r1, up r2, by rw [(hg a2 r1 r2).1]; exact r3, by rw [(hg a2 r1 r2).2.1]; exact r4⟩, ?_, ?_, ?_⟩
  · intro i hi
    obtain ⟨c, c1, c2, c3, c4, c5, c6⟩ := hD i hi
    refine ⟨c, by rw [(hg a0 p1 p2).2.2.2]; exact c1, c2, up c3, by rw [(hg c c2 c3).1]; exact c4, by rw [(hg c c2 c3).2.2.1]; exact c5, by rw [(hg c c2 c3).2.2.1]; exact c6⟩
  · intro i hi
    obtain ⟨c, c1, c2, c3, c4, c5, c6⟩ := hC i hi
    refine ⟨c, by rw [(hg a1 q1 q2).2.2.2]; exact c1, c2, up c3, by rw [(hg c c2 c3).1]; exact c4, by rw [(hg c c2 c3).2.2.1]; exact c5, by rw [(hg c c2 c3).2.2.1]; exact c6⟩
  · intro i hi
    obtain ⟨c, ra, m, c1, c2, c3, c4, c5, c6, c7, c8, c9, c10, c11, c12, c13⟩ := hH i hi
    refine ⟨c, ra, m, by rw [(hg a2 r1 r2).2.2.2]; exact c1, c2, up c3, by rw [(hg c c2 c3).1]; exact c4, c5, by rw [(hg c c2 c3).2.2.1]; exact c6, c7, by rw [(hg c c2 c3).2.2.2]; exact c8, c9, up c10, by rw [(hg ra c9 c10).1]; exact c11, by rw [(hg ra c9 c10).2.1]; exact c12, ?_⟩
    intro u hu
    obtain ⟨z, F, z1, z2, z3, z4, z5, z6⟩ := c13 u hu
    exact ⟨z, F, by rw [(hg ra c9 c10).2.2.2]; exact z1, z2, up z3, by rw [(hg z z2 z3).1]; exact z4, by rw [(hg z z2 z3).2.2.1]; exact z5, by rw [(hg z z2 z3).2.2.1]; exact z6⟩
/-- a RUN that is: the Run's references ro and row ρ, the reference's row ν -/
def RN (S : HS) (b : Nat) (β : Nat → Int32) (ro : Nat → Option Nat) (ρ ν : Nat → Int32) : Prop := match ro 2 with
  | none => ν 0 = 0 ∧ (ρ 11 = 0 ∨ ρ 11 = 1)
  | some hd => ν 0 = 1 ∧ ∃ a0 a1 a2 d k g c q : Nat, hP S b 0 = some a0 ∧ hP S b 1 = some a1 ∧ hP S b 2 = some a2 ∧ (nI d < β 0 ∧ nI k < β 1 ∧ nI g < β 2) ∧ (d < 4 ∧ k < 4 ∧ g < 4) ∧ (ν 1 = nI d ∧ ν 2 = nI k ∧ ν 3 = nI g) ∧ (ro 0 = some c ∧ hP S a0 d = some c) ∧ (ro 1 = some q ∧ hP S a1 k = some q) ∧ hP S a2 g = some hd ∧
      ν 4 = ρ 3 ∧ ν 5 = ρ 5 ∧ ν 6 = ρ 8 ∧ ν 7 = ρ 11 ∧ (ρ 11 = 0 ∨ ρ 11 = 1) ∧ ν 8 = ρ 9 ∧ ν 9 = ρ 7 ∧ ν 10 = ρ 10 ∧ TOK (hI S q 2) (ρ 3) (ρ 5) ∧ TOK (hI S q 2) (ρ 4) 0 ∧ ((ν 11 = -1 ∧ ρ 4 = ρ 3) ∨ ν 11 = fSh (hI S q 0) (hI S q 1) (fsz (ρ 4)))
/-- BOX and RUN of a Scene: its box o, its Run's references and row; of the reference: whether it is there, its rows -/
def SR (S : HS) (o : Option Nat) (ro : Nat → Option Nat) (ρ : Nat → Int32) (there : Int32) (β ν : Nat → Int32) : Prop := match o with
  | none => there = 0 ∧ ro 2 = none ∧ ν 0 = 0 ∧ β 0 = 0 ∧ β 1 = 0 ∧ β 2 = 0 ∧ (ρ 11 = 0 ∨ ρ 11 = 1)
  | some b => there = 1 ∧ BX S b β ∧ RN S b β ro ρ ν
theorem RN.keep {S T : HS} {b : Nat} {β : Nat → Int32} {ro : Nat → Option Nat} {ρ ν : Nat → Int32} (h : RN S b β ro ρ ν) (hb : BX S b β) (g : AG S T) : RN T b β ro ρ ν := by
  unfold RN at h ⊢
  cases hr : ro 2 with
  | none =>
    rw [hr] at h
    exact h
  | some hd =>
    rw [hr] at h
    dsimp only at h ⊢
    obtain ⟨h0, a0, a1, a2, d, k, gg, c, q, e0, e1, e2, h1, h2, h3, h4, h5, h6, h7⟩ := h
    obtain ⟨b1, b2, b3, nd, nc, nh, a0', a1', a2', -, b5, -, ⟨p0, p1, p2, -⟩, ⟨q0, q1, q2, -⟩, ⟨r0, r1, r2, -⟩, -, hC, -⟩ := hb
    obtain ⟨hn, hg⟩ := g
    have E0 : a0' = a0 := Option.some.inj (p0.symm.trans e0)
    have E1 : a1' = a1 := Option.some.inj (q0.symm.trans e1)
    have E2 : a2' = a2 := Option.some.inj (r0.symm.trans e2)
    subst E0; subst E1; subst E2
    obtain ⟨-, -, -, fb⟩ := hg b b1 b2
    obtain ⟨-, -, -, f0⟩ := hg a0' p1 p2
    obtain ⟨-, -, -, f1⟩ := hg a1' q1 q2
    obtain ⟨-, -, -, f2⟩ := hg a2' r1 r2
    have hk : k < nc := by
      have := h1.2.1
      rw [b5.2.1] at this
      exact Nat.not_le.mp fun z => nI_nlt z (by omega) this
    obtain ⟨c', c1, c2, c3, -⟩ := hC k hk
    have eq : c' = q := Option.some.inj (c1.symm.trans h5.2)
    subst eq
    obtain ⟨-, -, fq, -⟩ := hg c' c2 c3
    refine ⟨h0, a0', a1', a2', d, k, gg, c, c', by rw [fb]; exact p0, by rw [fb]; exact q0, by rw [fb]; exact r0, h1, h2, h3, ⟨h4.1, by rw [f0]; exact h4.2⟩, ⟨h5.1, by rw [f1]; exact h5.2⟩, by rw [f2]; exact h6, ?_⟩
    rw [fq]
    exact h7
theorem SR.keep {S T : HS} {o : Option Nat} {ro : Nat → Option Nat} {ρ : Nat → Int32} {there : Int32} {β ν : Nat → Int32} (h : SR S o ro ρ there β ν) (g : AG S T) : SR T o ro ρ there β ν := by
  cases o with
  | none => exact h
  | some b => exact ⟨h.1, h.2.1.keep g, h.2.2.keep h.2.1 g⟩
/-- a ROW of both -/
def RW (here ln sz ml mm : Int32) (a : Nat → Int32) (b : Nat → Int32) (r : Nat) : Prop := (here = 0 ∨ here = 1) ∧ (here = 0 → ml = -1) ∧ (here = 1 → ml = ln ∧ ∃ q : Nat, ln = nI q ∧ q ≤ 2) ∧ mm = sz ∧ (∃ q : Nat, sz = nI q ∧ q ≤ 40) ∧ ∀ j, j < 40 → b (40 * r + j) = a j
/-- what stands between the calls -/
def RR (S : HS) : Prop := LM S ∧ LC S ∧
  (∀ r, r < 8 → RW (hI S (13 + 2 * r) 1) (hI S (13 + 2 * r) 2) (hI S (13 + 2 * r) 3) (hI S 34 r) (hI S 35 r) (hI S (14 + 2 * r)) (hI S 36) r) ∧
  (∃ n : Nat, n ≤ 500 ∧ hI S 2 1 = nI n ∧ hI S 33 9 = nI n ∧ ∀ j, j < n → ∃ z : Nat, z < 256 ∧ hI S 39 j = nI z ∧ hI S 3 j = (nI z).toInt8.toInt32) ∧
  (hI S 0 6 = hI S 33 10 ∧ hI S 0 7 = hI S 33 1 ∧ hI S 0 8 = hI S 33 25) ∧
  SR S (hP S 4 1) (hP S 5) (hI S 5) (hI S 33 7) (hI S 37) (hI S 40) ∧
  (∀ k, k < 2 → SR S (hP S (29 + 2 * k) 1) (hP S (30 + 2 * k)) (hI S (30 + 2 * k)) (hI S 42 k) (fun j => hI S 43 (131 * k + j)) (fun j => hI S 44 (12 * k + j)) ∧ (hI S 42 k = 0 ∨ hI S 33 7 = 1)) ∧
  (∃ n : Nat, n ≤ 16 ∧ hI S 11 1 = nI n ∧ hI S 33 31 = nI n ∧ ∀ j, j < n → hI S 12 j = hI S 45 j)
