/-! ===== a BOX that is being read: the class's new cells, the reference's row 38 ===== -/
/-- the class's cells below b, but its tape's own numbers, are as they were -/
def FB (b : Nat) (S S2 : HS) : Prop := hN S ≤ hN S2 ∧ (∀ x, x < b → hK S2 x = hK S x ∧ hL S2 x = hL S x ∧ hP S2 x = hP S x) ∧ (∀ x, x < b → x ≠ 2 → hI S2 x = hI S x) ∧ ∀ j, j < 2 ∨ 7 < j → hI S2 2 j = hI S 2 j
def FU (T T2 : HS) : Prop := T2.1 = T.1 ∧ hP T2 = hP T ∧ (∀ a, a ≠ 33 → a ≠ 38 → hI T2 a = hI T a) ∧ ∀ j, j < 12 ∨ 18 < j → hI T2 33 j = hI T 33 j
theorem FB.rf (b : Nat) (S : HS) : FB b S S := ⟨Nat.le_refl _, fun _ _ => ⟨rfl, rfl, rfl⟩, fun _ _ _ => rfl, fun _ _ => rfl⟩
theorem FU.rf (S : HS) : FU S S := ⟨rfl, rfl, fun _ _ _ => rfl, fun _ _ => rfl⟩
theorem FB.tr {b : Nat} {S T U : HS} (h : FB b S T) (g : FB b T U) : FB b S U := ⟨Nat.le_trans h.1 g.1, fun x hx => ⟨(g.2.1 x hx).1.trans (h.2.1 x hx).1, (g.2.1 x hx).2.1.trans (h.2.1 x hx).2.1, (g.2.1 x hx).2.2.trans (h.2.1 x hx).2.2⟩, fun x hx h2 => (g.2.2.1 x hx h2).trans (h.2.2.1 x hx h2), fun j hj => (g.2.2.2 j hj).trans (h.2.2.2 j hj)⟩
theorem FU.tr {S T U : HS} (h : FU S T) (g : FU T U) : FU S U := ⟨g.1.trans h.1, g.2.1.trans h.2.1, fun a a1 a2 => (g.2.2.1 a a1 a2).trans (h.2.2.1 a a1 a2), fun j hj => (g.2.2.2 j hj).trans (h.2.2.2 j hj)⟩
theorem eqN {S S2 : HS} (h : S2.1 = S.1) : hN S2 = hN S := congrArg (fun x => x.1) h
theorem eqK {S S2 : HS} (h : S2.1 = S.1) (c : Nat) : hK S2 c = hK S c := congrArg (fun x => (x.2 c).1) h
theorem eqL {S S2 : HS} (h : S2.1 = S.1) (c : Nat) : hL S2 c = hL S c := congrArg (fun x => (x.2 c).2) h
theorem QS.fb {S S2 : HS} (h : QS S S2) (b : Nat) : FB b S S2 := ⟨Nat.le_of_eq (eqN h.1).symm, fun x _ => ⟨eqK h.1 x, eqL h.1 x, by rw [h.2.1]⟩, fun x _ h2 => h.2.2.1 x h2, h.2.2.2⟩
theorem QT.fu {S S2 : HS} (h : QT S S2) : FU S S2 := ⟨h.1, h.2.1, fun a a1 _ => h.2.2.1 a a1, h.2.2.2⟩
theorem LC.fb {b : Nat} {S S2 : HS} (h : LC S) (g : FB b S S2) (hb : 46 ≤ b) : LC S2 := h.lo g.1 (fun c hc => ⟨(g.2.1 c (by omega)).1, (g.2.1 c (by omega)).2.1⟩) (fun c hc _ _ _ _ => by rw [(g.2.1 c (by omega)).2.2]) (by rw [(g.2.1 4 (by omega)).2.2]) ((g.2.1 0 (by omega)).2.2) ((g.2.1 1 (by omega)).2.2) ((g.2.1 6 (by omega)).2.2) (fun j _ => by rw [(g.2.1 7 (by omega)).2.2])
theorem RD.fb {b N : Nat} {B : Nat → Nat} {S T S2 T2 : HS} (h : RD S T N B) (g : FB b S S2) (hb : 46 ≤ b) (e2 : hI S2 2 = hI S 2) (u : FU T T2) (e33 : hI T2 33 = hI T 33) : RD S2 T2 N B := by
  obtain ⟨⟨c1, c2, c3, c4⟩, ⟨m1, m2, m3, m4⟩, tk, fl⟩ := h
  refine ⟨⟨c1.fb g hb, by rw [e2]; exact c2, c3, by rw [g.2.2.1 3 (by omega) (by decide)]; exact c4⟩, ⟨LM_of m1 u.1 u.2.1, by rw [e33]; exact m2, m3, by rw [u.2.2.1 39 (by decide) (by decide)]; exact m4⟩, tk.keep (fun j _ _ => by rw [e2]) (fun j _ _ => by rw [e33]), ?_⟩
  rw [e2, e33]
  exact fl
def CBM (S : HS) (b a0 a1 a2 nd nc nh M : Nat) : Prop := (46 ≤ b ∧ b < a0 ∧ b < a1 ∧ b < a2 ∧ b < M ∧ a0 < M ∧ a1 < M ∧ a2 < M ∧ M ≤ hN S) ∧ hK S b = 1 ∧ (hI S b 3 = nI nd ∧ hI S b 4 = nI nc ∧ hI S b 5 = nI nh) ∧ (nd ≤ 4 ∧ nc ≤ 4 ∧ nh ≤ 4) ∧ (hP S b 0 = some a0 ∧ hK S a0 = 17 ∧ hL S a0 = 4) ∧ (hP S b 1 = some a1 ∧ hK S a1 = 16 ∧ hL S a1 = 4) ∧ (hP S b 2 = some a2 ∧ hK S a2 = 18 ∧ hL S a2 = 4)
def Dx (S : HS) (β : Nat → Int32) (a n M : Nat) : Prop := ∀ i, i < n → ∃ c, hP S a i = some c ∧ 46 ≤ c ∧ c < M ∧ hK S c = 3 ∧ (∀ j, j < 3 → hI S c j = β (3 + 3 * i + j)) ∧ DOK (hI S c 0) (hI S c 1) (hI S c 2)
def Cx (S : HS) (β : Nat → Int32) (a n M : Nat) : Prop := ∀ i, i < n → ∃ c, hP S a i = some c ∧ 46 ≤ c ∧ c < M ∧ hK S c = 2 ∧ (∀ j, j < 4 → hI S c j = β (15 + 4 * i + j)) ∧ COK (hI S c 0) (hI S c 1) (hI S c 2) (hI S c 3)
/-- a HAND's cell with m rules, the reference's row from at on -/
def Hh (S : HS) (β : Nat → Int32) (c ra m bt M : Nat) : Prop := 46 ≤ c ∧ c < M ∧ hK S c = 5 ∧ m ≤ 6 ∧ hI S c 1 = nI m ∧ β bt = nI m ∧ hP S c 0 = some ra ∧ 46 ≤ ra ∧ ra < M ∧ hK S ra = 20 ∧ hL S ra = 6 ∧ ∀ u, u < m → ∃ z F, hP S ra u = some z ∧ 46 ≤ z ∧ z < M ∧ hK S z = 7 ∧ (∀ j, j < 4 → hI S z j = β (bt + 1 + 4 * u + j)) ∧ hI S z 3 = nI F ∧ F ≤ 99
def Hx (S : HS) (β : Nat → Int32) (a n M : Nat) : Prop := ∀ i, i < n → ∃ c ra m, hP S a i = some c ∧ Hh S β c ra m (31 + 25 * i) M
def PBM (S : HS) (β : Nat → Int32) (a0 a1 a2 nd nc nh M z : Nat) : Prop := (β 0 = nI nd ∧ β 1 = nI nc ∧ β 2 = nI nh) ∧ Dx S β a0 nd M ∧ Cx S β a1 nc M ∧ Hx S β a2 nh M ∧ ∀ i, z ≤ i → i < 4 → β (31 + 25 * i) = 0
/-- below M nothing changed but the numbers of one cell d, the references of one cell a -/
def EX (S S2 : HS) (M d a : Nat) : Prop := (∀ x, x < M → hK S2 x = hK S x ∧ hL S2 x = hL S x) ∧ (∀ x, x < M → x ≠ d → x ≠ 2 → hI S2 x = hI S x) ∧ ∀ x, x < M → x ≠ a → hP S2 x = hP S x
theorem EX.of {b : Nat} {S S2 : HS} (h : QS S S2) (M d a : Nat) : EX S S2 M d a := ⟨fun x _ => ⟨eqK h.1 x, eqL h.1 x⟩, fun x _ _ h2 => h.2.2.1 x h2, fun x _ _ => by rw [h.2.1]⟩
section L2CE
variable {S S2 : HS} {β γ : Nat → Int32} {M M2 d a e n : Nat}
theorem Dx.keep (h : Dx S β a n M) (g : EX S S2 M d e) (hM : M ≤ M2) (kd : hK S d ≠ 3) (ha : ∀ i, i < n → hP S2 a i = hP S a i) (hb : ∀ i, 3 ≤ i → i < 3 + 3 * n → γ i = β i) : Dx S2 γ a n M2 := by
  intro i hi
  obtain ⟨c, c1, c2, c3, c4, c5, c6⟩ := h i hi
  have ec : hI S2 c = hI S c := g.2.1 c c3 (fun z => kd (by rw [← z]; exact c4)) (by omega)
  refine ⟨c, by rw [ha i hi]; exact c1, c2, by omega, by rw [(g.1 c c3).1]; exact c4, fun j hj => ?_, by rw [ec]; exact c6⟩
  rw [ec, hb _ (by omega) (by omega)]
  exact c5 j hj
theorem Cx.keep (h : Cx S β a n M) (g : EX S S2 M d e) (hM : M ≤ M2) (kd : hK S d ≠ 2) (ha : ∀ i, i < n → hP S2 a i = hP S a i) (hb : ∀ i, 15 ≤ i → i < 15 + 4 * n → γ i = β i) : Cx S2 γ a n M2 := by
  intro i hi
  obtain ⟨c, c1, c2, c3, c4, c5, c6⟩ := h i hi
  have ec : hI S2 c = hI S c := g.2.1 c c3 (fun z => kd (by rw [← z]; exact c4)) (by omega)
  refine ⟨c, by rw [ha i hi]; exact c1, c2, by omega, by rw [(g.1 c c3).1]; exact c4, fun j hj => ?_, by rw [ec]; exact c6⟩
  rw [ec, hb _ (by omega) (by omega)]
  exact c5 j hj
theorem Hh.keep {c ra m bt : Nat} (h : Hh S β c ra m bt M) (g : EX S S2 M d e) (hM : M ≤ M2) (kd : hK S d ≠ 5 ∧ hK S d ≠ 7) (ke : hK S e ≠ 5 ∧ hK S e ≠ 20) (hb : ∀ i, bt ≤ i → i < bt + 25 → γ i = β i) : Hh S2 γ c ra m bt M2 := by
  obtain ⟨c2, c3, c4, c5, c6, c7, c8, c9, c10, c11, c12, c13⟩ := h
  have ec : hI S2 c = hI S c := g.2.1 c c3 (fun z => kd.1 (by rw [← z]; exact c4)) (by omega)
  have pc : hP S2 c = hP S c := g.2.2 c c3 (fun z => ke.1 (by rw [← z]; exact c4))
  have pr : hP S2 ra = hP S ra := g.2.2 ra c10 (fun z => ke.2 (by rw [← z]; exact c11))
  refine ⟨c2, by omega, by rw [(g.1 c c3).1]; exact c4, c5, by rw [ec]; exact c6, by rw [hb _ (by omega) (by omega)]; exact c7, by rw [pc]; exact c8, c9, by omega, by rw [(g.1 ra c10).1]; exact c11, by rw [(g.1 ra c10).2]; exact c12, ?_⟩
  intro u hu
  obtain ⟨z, F, z1, z2, z3, z4, z5, z6, z7⟩ := c13 u hu
  have ez : hI S2 z = hI S z := g.2.1 z z3 (fun y => kd.2 (by rw [← y]; exact z4)) (by omega)
  refine ⟨z, F, by rw [pr]; exact z1, z2, by omega, by rw [(g.1 z z3).1]; exact z4, fun j hj => ?_, by rw [ez]; exact z6, z7⟩
  rw [ez, hb _ (by omega) (by omega)]
  exact z5 j hj
theorem Hx.keep (h : Hx S β a n M) (g : EX S S2 M d e) (hM : M ≤ M2) (kd : hK S d ≠ 5 ∧ hK S d ≠ 7) (ke : hK S e ≠ 5 ∧ hK S e ≠ 20) (ha : ∀ i, i < n → hP S2 a i = hP S a i) (hb : ∀ i, 31 ≤ i → i < 31 + 25 * n → γ i = β i) : Hx S2 γ a n M2 := by
  intro i hi
  obtain ⟨c, ra, m, c1, c2⟩ := h i hi
  exact ⟨c, ra, m, by rw [ha i hi]; exact c1, c2.keep g hM kd ke (fun j h1 h2 => hb j (by omega) (by omega))⟩
end L2CE
theorem CBM.b {S : HS} {b a0 a1 a2 nd nc nh M : Nat} (h : CBM S b a0 a1 a2 nd nc nh M) : b < hN S := by have := h.1; omega
/-- what stands while a BOX is read -/
def RX (S T : HS) (N : Nat) (B : Nat → Nat) (b a0 a1 a2 nd nc nh M z : Nat) : Prop := RD S T N B ∧ CBM S b a0 a1 a2 nd nc nh M ∧ (hI S 2 2 = 0 → PBM S (hI T 38) a0 a1 a2 nd nc nh M z)
theorem CBM.q {S S2 : HS} {b a0 a1 a2 nd nc nh M : Nat} (h : CBM S b a0 a1 a2 nd nc nh M) (g : QS S S2) : CBM S2 b a0 a1 a2 nd nc nh M := by
  obtain ⟨h1, h2, h3, h4, ⟨p0, p1, p2⟩, ⟨q0, q1, q2⟩, ⟨r0, r1, r2⟩⟩ := h
  have ei : hI S2 b = hI S b := g.2.2.1 b (by omega)
  refine ⟨by rw [eqN g.1]; exact h1, by rw [eqK g.1]; exact h2, by rw [ei]; exact h3, h4, ⟨by rw [g.2.1]; exact p0, by rw [eqK g.1]; exact p1, by rw [eqL g.1]; exact p2⟩, ⟨by rw [g.2.1]; exact q0, by rw [eqK g.1]; exact q1, by rw [eqL g.1]; exact q2⟩, by rw [g.2.1]; exact r0, by rw [eqK g.1]; exact r1, by rw [eqL g.1]; exact r2⟩
theorem PBM.q {S S2 : HS} {β : Nat → Int32} {a0 a1 a2 nd nc nh M z : Nat} (h : PBM S β a0 a1 a2 nd nc nh M z) (g : QS S S2) (k2 : hK S 2 = 10) : PBM S2 β a0 a1 a2 nd nc nh M z := by
  have e : EX S S2 M 2 2 := EX.of (b := 0) g M 2 2
  have ep : ∀ a i, hP S2 a i = hP S a i := fun a i => by rw [g.2.1]
  exact ⟨h.1, h.2.1.keep e (Nat.le_refl _) (by rw [k2]; decide) (fun i _ => ep _ i) (fun _ _ _ => rfl), h.2.2.1.keep e (Nat.le_refl _) (by rw [k2]; decide) (fun i _ => ep _ i) (fun _ _ _ => rfl), h.2.2.2.1.keep e (Nat.le_refl _) (by rw [k2]; decide) (by rw [k2]; decide) (fun i _ => ep _ i) (fun _ _ _ => rfl), h.2.2.2.2⟩
theorem RX.op {S T S2 T2 : HS} {N b a0 a1 a2 nd nc nh M z : Nat} {B : Nat → Nat} (h : RX S T N B b a0 a1 a2 nd nc nh M z) (r : RD S2 T2 N B) (g : QS S S2) (u : QT T T2) (f : hI S2 2 2 = 0 → hI S 2 2 = 0) : RX S2 T2 N B b a0 a1 a2 nd nc nh M z := by
  refine ⟨r, h.2.1.q g, fun y => ?_⟩
  rw [u.2.2.1 38 (by decide)]
  exact (h.2.2 (f y)).q g (h.1.1.1.k (by decide) rfl)
/-! new cells -/
theorem hP_wN_ne {S : HS} {kd ln a : Nat} (h : a ≠ hN S) : hP (wN S kd ln) a = hP S a := funext fun b => by rw [hP_wN, if_neg h]
theorem hI_wN_ne {S : HS} {kd ln a : Nat} (h : a ≠ hN S) : hI (wN S kd ln) a = hI S a := funext fun b => by rw [hI_wN, if_neg h]
theorem hP_wP_ne {S : HS} {c j a : Nat} {v : Option Nat} (h : a ≠ c) : hP (wP S c j v) a = hP S a := funext fun b => by rw [hP_wP, if_neg (fun z => h z.1)]
theorem hP_wP_self (S : HS) (c j : Nat) (v : Option Nat) : hP (wP S c j v) c j = v := by rw [hP_wP, if_pos ⟨rfl, rfl⟩]
theorem hP_wP_j {S : HS} {c j a b : Nat} {v : Option Nat} (h : b ≠ j) : hP (wP S c j v) a b = hP S a b := by rw [hP_wP, if_neg (fun z => h z.2)]
theorem knew_eq {α : Type} {S : HS} {kd : Nat} {f : Option Nat → HS → Option α} : knew S kd f = f (some (hN S)) (wN S kd 0) := rfl
theorem knewA_eq {α : Type} {S : HS} {kd N : Nat} {n : Int32} {f : Option Nat → HS → Option α} (h : n = nI N) : knewA S kd n N f = f (some (hN S)) (wN S kd N) := if_pos h
