/-! ===== the RUN ===== -/
/-- a HAND of the class, and of the reference's row β -/
def isH (S : HS) (β : Nat → Int32) (hd g : Nat) : Prop := hd < hN S ∧ hK S hd = 5 ∧ g < 4 ∧ ∃ ra m : Nat, m ≤ 6 ∧ hI S hd 1 = nI m ∧ β (31 + 25 * g) = nI m ∧ hP S hd 0 = some ra ∧ ra < hN S ∧ hK S ra = 20 ∧ hL S ra = 6 ∧
    ∀ u, u < m → ∃ z F, hP S ra u = some z ∧ 46 ≤ z ∧ z < hN S ∧ hK S z = 7 ∧ (∀ j, j < 4 → hI S z j = β (31 + 25 * g + 1 + 4 * u + j)) ∧ hI S z 3 = nI F ∧ F ≤ 99
/-- the rows of a RUN of both: ρ the class's, ν the reference's -/
def RQ (Q ρ ν : Nat → Int32) : Prop := ν 4 = ρ 3 ∧ ν 5 = ρ 5 ∧ ν 6 = ρ 8 ∧ ν 7 = ρ 11 ∧ (ρ 11 = 0 ∨ ρ 11 = 1) ∧ ν 8 = ρ 9 ∧ ν 9 = ρ 7 ∧ ν 10 = ρ 10 ∧ TOK (Q 2) (ρ 3) (ρ 5) ∧ TOK (Q 2) (ρ 4) 0 ∧ ((ν 11 = -1 ∧ ρ 4 = ρ 3) ∨ ν 11 = fSh (Q 0) (Q 1) (fsz (ρ 4)))
theorem RR.hand {S : HS} (h : RR S) {b : Nat} (hb : hP S 4 1 = some b) : ∃ nh a2 : Nat, 1 ≤ nh ∧ nh ≤ 4 ∧ hI S 37 2 = nI nh ∧ hI S b 5 = nI nh ∧ hP S b 2 = some a2 ∧ 46 ≤ a2 ∧ a2 < hN S ∧ hK S a2 = 18 ∧ hL S a2 = 4 ∧ ∀ i, i < nh → ∃ c, hP S a2 i = some c ∧ 46 ≤ c ∧ isH S (hI S 37) c i := by
  have h6 := h.2.2.2.2.2.1
  rw [hb] at h6
  obtain ⟨-, ⟨b1, b2, b3, nd, nc, nh, a0, a1, a2, h4, h5, e3, -, -, ⟨r0, r1, r2, r3, r4⟩, -, -, hH⟩, -⟩ := h6
  refine ⟨nh, a2, by omega, by omega, h5.2.2, e3.2.2, r0, r1, r2, r3, r4, ?_⟩
  intro i hi
  obtain ⟨c, ra, m, c1, c2, c3, c4, c5, c6, c7, c8, c9, c10, c11, c12, c13⟩ := hH i hi
  exact ⟨c, c1, c2, c3, c4, by omega, ra, m, c5, c6, c7, c8, c10, c11, c12, c13⟩
/-- what a RUN of the class on S and one of the reference on T have in common -/
def GW (S T : HS) (c q hd d k g : Nat) : Prop := LC S ∧ LM T ∧ (hP S 5 0 = some c ∧ hP S 5 1 = some q ∧ hP S 5 2 = some hd) ∧ (46 ≤ c ∧ 46 ≤ q ∧ 46 ≤ hd) ∧ (c < hN S ∧ hK S c = 3 ∧ q < hN S ∧ hK S q = 2) ∧ (d < 4 ∧ k < 4) ∧ (hI T 40 1 = nI d ∧ hI T 40 2 = nI k ∧ hI T 40 3 = nI g) ∧ (∀ j, j < 3 → hI S c j = hI T 37 (3 + 3 * d + j)) ∧ (∀ j, j < 4 → hI S q j = hI T 37 (15 + 4 * k + j)) ∧ DOK (hI S c 0) (hI S c 1) (hI S c 2) ∧ COK (hI S q 0) (hI S q 1) (hI S q 2) (hI S q 3) ∧ isH S (hI T 37) hd g ∧ RQ (hI S q) (hI S 5) (hI T 40)
theorem RR.run {S : HS} (h : RR S) : (hP S 5 2 = none ∧ hI S 40 0 = 0) ∨ (∃ b c q hd d k g, hP S 4 1 = some b ∧ hI S 40 0 = 1 ∧ isD S c d ∧ isC S q k ∧ GW S S c q hd d k g) := by
  have h6 := h.2.2.2.2.2.1
  cases hb : hP S 4 1 with
  | none =>
    rw [hb] at h6
    exact Or.inl ⟨h6.2.1, h6.2.2.1⟩
  | some b =>
    obtain ⟨nd, nc, a0, a1, b1, b2, b3, nd4, nc4, eA, eB, eA2, eC, p0, p1, p2, p3, p4, q0, q1, q2, q3, q4, hD, hC⟩ := h.bx hb
    obtain ⟨nh, a2, nh1, nh4, eH, eH2, r0, r1, r2, r3, r4, hH⟩ := h.hand hb
    rw [hb] at h6
    obtain ⟨-, -, hR⟩ := h6
    unfold RN at hR
    cases ho : hP S 5 2 with
    | none =>
      rw [ho] at hR
      exact Or.inl ⟨rfl, And.left hR⟩
    | some hd =>
      rw [ho] at hR
      obtain ⟨h0, a0', a1', a2', d, k, g, c, q, e0, e1, e2, ⟨u1, u2, u3⟩, ⟨u4, u5, u6⟩, ⟨u7, u8, u9⟩, ⟨v1, v2⟩, ⟨v3, v4⟩, v5, v6⟩ := hR
      have E0 : a0' = a0 := Option.some.inj (e0.symm.trans p0)
      have E1 : a1' = a1 := Option.some.inj (e1.symm.trans q0)
      have E2 : a2' = a2 := Option.some.inj (e2.symm.trans r0)
      subst E0; subst E1; subst E2
      rw [eA] at u1
      rw [eB] at u2
      rw [eH] at u3
      have w1 := (nI_ltI (by omega) (by omega)).mp u1
      have w2 := (nI_ltI (by omega) (by omega)).mp u2
      have w3 := (nI_ltI (by omega) (by omega)).mp u3
      obtain ⟨c', x1, hDc⟩ := hD d w1
      obtain ⟨q', x2, hCq⟩ := hC k w2
      obtain ⟨hd', x3, x4, hHg⟩ := hH g w3
      have E3 : c' = c := Option.some.inj (x1.symm.trans v2)
      have E4 : q' = q := Option.some.inj (x2.symm.trans v4)
      have E5 : hd' = hd := Option.some.inj (x3.symm.trans v5)
      subst E3; subst E4; subst E5
      exact Or.inr ⟨b, c', q', hd', d, k, g, rfl, h0, hDc, hCq, h.2.1, h.1, ⟨v1, v3, ho⟩, ⟨hDc.1, hCq.1, x4⟩, ⟨hDc.2.1, hDc.2.2.1, hCq.2.1, hCq.2.2.1⟩, ⟨u4, u5⟩, ⟨u7, u8, u9⟩, hDc.2.2.2.2.1, hCq.2.2.2.2.1, hDc.2.2.2.2.2, hCq.2.2.2.2.2, hHg, v6⟩
section L2R
variable {α : Type} {S T : HS} {c q hd d k g : Nat}
theorem GW.o5 (h : GW S T c q hd d k g) {f : Nat → Option α} : kO S (some 5) 8 f = f 5 := kO_c5 h.1
theorem GW.i5 (h : GW S T c q hd d k g) {j : Nat} {f : Int32 → Option α} : kI S (some 5) 8 j f = f (hI S 5 j) := kI_c5 h.1
theorem GW.p50 (h : GW S T c q hd d k g) {f : Option Nat → Option α} : kP S (some 5) 8 0 f = f (some c) := (kP_c5 h.1).trans (congrArg f h.2.2.1.1)
theorem GW.p51 (h : GW S T c q hd d k g) {f : Option Nat → Option α} : kP S (some 5) 8 1 f = f (some q) := (kP_c5 h.1).trans (congrArg f h.2.2.1.2.1)
theorem GW.p52 (h : GW S T c q hd d k g) {f : Option Nat → Option α} : kP S (some 5) 8 2 f = f (some hd) := (kP_c5 h.1).trans (congrArg f h.2.2.1.2.2)
theorem GW.oq (h : GW S T c q hd d k g) {f : Nat → Option α} : kO S (some q) 2 f = f q := kO_some h.2.2.2.2.1.2.2.1 h.2.2.2.2.1.2.2.2
theorem GW.iq (h : GW S T c q hd d k g) {j : Nat} {f : Int32 → Option α} : kI S (some q) 2 j f = f (hI S q j) := kI_some h.2.2.2.2.1.2.2.1 h.2.2.2.2.1.2.2.2
theorem GW.ic (h : GW S T c q hd d k g) {j : Nat} {f : Int32 → Option α} : kI S (some c) 3 j f = f (hI S c j) := kI_some h.2.2.2.2.1.1 h.2.2.2.2.1.2.1
theorem GW.rq (h : GW S T c q hd d k g) : RQ (hI S q) (hI S 5) (hI T 40) := h.2.2.2.2.2.2.2.2.2.2.2.2
theorem GW.cok (h : GW S T c q hd d k g) : COK (hI S q 0) (hI S q 1) (hI S q 2) (hI S q 3) := h.2.2.2.2.2.2.2.2.2.2.1
theorem GW.q37 (h : GW S T c q hd d k g) {j : Nat} (hj : j < 4) : hI S q j = hI T 37 (15 + 4 * k + j) := h.2.2.2.2.2.2.2.2.1 j hj
theorem GW.c37 (h : GW S T c q hd d k g) {j : Nat} (hj : j < 3) : hI S c j = hI T 37 (3 + 3 * d + j) := h.2.2.2.2.2.2.2.1 j hj
theorem GW.m1 (h : GW S T c q hd d k g) : hI T 40 1 = nI d := h.2.2.2.2.2.2.1.1
theorem GW.m2 (h : GW S T c q hd d k g) : hI T 40 2 = nI k := h.2.2.2.2.2.2.1.2.1
theorem GW.m3 (h : GW S T c q hd d k g) : hI T 40 3 = nI g := h.2.2.2.2.2.2.1.2.2
theorem GW.nw (h : GW S T c q hd d k g) (j : Nat) (hj : j < 12) {i : Int32} (hi : i = nI j) {f : Int32 → Option α} : kP T (some 33) 12 24 (fun v => kA T v 14 i f) = f (hI T 40 j) := by rw [kP_m24 h.2.1, kA_m40 h.2.1 hi hj]
theorem GW.shorts (h : GW S T c q hd d k g) (w : Int32) : s_X2_shortBy S q w = some (fSh (hI S q 0) (hI S q 1) w, S) ∧ s_X12_shortOf T 33 (nI k) w = some (fSh (hI S q 0) (hI S q 1) w, T) := by
  refine ⟨k_shortBy h.2.2.2.2.1.2.2.1 h.2.2.2.2.1.2.2.2 w, ?_⟩
  rw [m_shortOf h.2.1 rfl h.2.2.2.2.2.1.2, show hI S q 0 = hI T 37 (15 + 4 * k) from h.q37 (j := 0) (by decide), h.q37 (j := 1) (by decide)]
theorem GW.shortNow (h : GW S T c q hd d k g) : s_X12_shortNow T 33 = some (fSh (hI S q 0) (hI S q 1) (fsz (hI S 5 3)), T) := by
  unfold s_X12_shortNow
  rw [h.nw 2 (by decide) (i := 2) rfl, h.nw 4 (by decide) (i := 4) rfl, h.m2, m_sz, kO_m h.2.1, (h.shorts _).2, kc_some, h.rq.1]
end L2R
theorem fSh_nn {a b m s t : Int32} (h : COK a b m s) (ht : TOK m t 0) : ∃ n : Nat, fSh a b (fsz t) = nI n ∧ n < 2 ^ 30 := by
  obtain ⟨A, B, M, N, rfl, rfl, rfl, rfl, hA, hA2, hB, hB2, hBM, hM, hN1, hN2⟩ := h
  obtain ⟨h1, -⟩ := ht
  rw [nI_toInt (by omega)] at h1
  rw [fsz_n (by omega), fSh_n hA2 hB hB2 (by omega)]
  exact ⟨_, rfl, Nat.lt_of_le_of_lt (shN_le hA2 hB hB2) (by omega)⟩
/-- what is felt -/
def fl (Q ρ : Nat → Int32) (w : Int32) : Int32 := if w = 0 then fsz (ρ 3) else if w = 1 then fsz (ρ 5) else if w = 2 then fSh (Q 0) (Q 1) (fsz (ρ 3)) - fSh (Q 0) (Q 1) (fsz (ρ 4)) else ρ 8
theorem c_felt {S T : HS} {c q hd d k g : Nat} (h : GW S T c q hd d k g) (w : Int32) : s_X8_felt S 5 w = some (fl (hI S q) (hI S 5) w, S) := by
  unfold s_X8_felt fl
  by_cases c0 : w = 0
  · rw [if_pos c0, if_pos c0, h.i5, fabs_sz]
  · rw [if_neg c0, if_neg c0]
    by_cases c1 : w = 1
    · rw [if_pos c1, if_pos c1, h.i5, fabs_sz]
    · rw [if_neg c1, if_neg c1]
      by_cases c2 : w = 2
      · rw [if_pos c2, if_pos c2, h.p51, h.i5, h.oq, (h.shorts _).1, kc_some, h.p51, h.i5, h.oq, (h.shorts _).1, kc_some, fabs_sz, fabs_sz]
      · rw [if_neg c2, if_neg c2, h.i5]
theorem ruled_loop {S T : HS} {c q hd d k g : Nat} (h : GW S T c q hd d k g) {ra m : Nat} (hm : m ≤ 6) (e1 : hI S hd 1 = nI m) (e2 : hI T 37 (31 + 25 * g) = nI m) (hg : g < 4) (n1 : hd < hN S) (n2 : hK S hd = 5) (e3 : hP S hd 0 = some ra) (n3 : ra < hN S) (n4 : hK S ra = 20) (n5 : hL S ra = 6) (hz : ∀ u, u < m → ∃ z F, hP S ra u = some z ∧ 46 ≤ z ∧ z < hN S ∧ hK S z = 7 ∧ (∀ j, j < 4 → hI S z j = hI T 37 (31 + 25 * g + 1 + 4 * u + j)) ∧ hI S z 3 = nI F ∧ F ≤ 99) : ∀ (n F1 F2 u : Nat), n < F1 → n < F2 → u + n = m → ∃ F, F ≤ 99 ∧ s_X5_pullIn_L2 hd F1 S (some 5) (nI u) = some (nI F, S) ∧ s_X12_ruled_L15 33 F2 T (nI (31 + 25 * g)) (nI u) = some (nI F, T) := by
  have hM := h.2.1
  intro n
  induction n with
  | zero =>
    intro F1 F2 u hF1 hF2 hu
    obtain ⟨F1, rfl⟩ : ∃ z, F1 = z + 1 := ⟨F1 - 1, by omega⟩
    obtain ⟨F2, rfl⟩ : ∃ z, F2 = z + 1 := ⟨F2 - 1, by omega⟩
    have le : nI m ≤ nI u := (nI_le_iff (by omega) (by omega)).mpr (by omega)
    refine ⟨0, by decide, ?_, ?_⟩
    · show s_X5_pullIn_b2 _ hd S (some 5) (nI u) = _
      unfold s_X5_pullIn_b2
      rw [kI_some n1 n2, e1, if_pos le]
      rfl
    · show s_X12_ruled_b15 _ 33 T (nI (31 + 25 * g)) (nI u) = _
      unfold s_X12_ruled_b15
      rw [kP_m5 hM, kA_m37 hM rfl (by omega), e2, if_pos le]
      rfl
  | succ n ih =>
    intro F1 F2 u hF1 hF2 hu
    obtain ⟨F1, rfl⟩ : ∃ z, F1 = z + 1 := ⟨F1 - 1, by omega⟩
    obtain ⟨F2, rfl⟩ : ∃ z, F2 = z + 1 := ⟨F2 - 1, by omega⟩
    have nle : ¬ nI m ≤ nI u := fun z => by have := (nI_le_iff (by omega) (by omega)).mp z; omega
    obtain ⟨z, F, z1, z2, z3, z4, z5, z6, z7⟩ := hz u (by omega)
    obtain ⟨F', i1, i2, i3⟩ := ih F1 F2 (u + 1) (by omega) (by omega) (by omega)
    rw [← nI_1] at i2 i3
    have ex : ∀ j, nI (31 + 25 * g) + 1 + 4 * nI u + nI j = nI (31 + 25 * g + 1 + 4 * u + j) := by
      intro j
      rw [show (1 : Int32) = nI 1 from rfl, show (4 : Int32) = nI 4 from rfl, nI_mul, nI_add, nI_add, nI_add]
    have ex0 : nI (31 + 25 * g) + 1 + 4 * nI u = nI (31 + 25 * g + 1 + 4 * u + 0) := by
      rw [show (1 : Int32) = nI 1 from rfl, show (4 : Int32) = nI 4 from rfl, nI_mul, nI_add, nI_add]
      rfl
    have zf : ∀ {α : Type} {j : Nat} {f : Int32 → Option α}, kI S (some z) 7 j f = f (hI S z j) := fun {_ _ _} => kI_some z3 z4
    -- what is felt, what it comes to
    have cm : s_X7_isMetBy S z (some 5) = some ((if hI S z 1 = 0 then (if hI S z 2 ≤ fl (hI S q) (hI S 5) (hI S z 0) then 0 else 1) else (if fl (hI S q) (hI S 5) (hI S z 0) ≤ hI S z 2 then 0 else 1)), S) := by
      unfold s_X7_isMetBy
      rw [zf, h.o5, c_felt h, kc_some, zf, zf, zf]
      by_cases y1 : hI S z 1 = 0
      · rw [if_pos y1, if_pos y1]
        by_cases y2 : hI S z 2 ≤ fl (hI S q) (hI S 5) (hI S z 0)
        · rw [if_pos y2, if_pos y2, kzr_0]
        · rw [if_neg y2, if_neg y2, kzr_1]
      · rw [if_neg y1, if_neg y1]
        by_cases y2 : fl (hI S q) (hI S 5) (hI S z 0) ≤ hI S z 2
        · rw [if_pos y2, if_pos y2, kzr_0]
        · rw [if_neg y2, if_neg y2, kzr_1]
    have c_all : s_X5_pullIn_b2 (s_X5_pullIn_L2 hd F1) hd S (some 5) (nI u) = (if (if hI S z 1 = 0 then (if hI S z 2 ≤ fl (hI S q) (hI S 5) (hI S z 0) then (0 : Int32) else 1) else (if fl (hI S q) (hI S 5) (hI S z 0) ≤ hI S z 2 then 0 else 1)) = 0 then some (nI F', S) else some (nI F, S)) := by
      unfold s_X5_pullIn_b2
      rw [kI_some n1 n2, e1, if_neg nle, kP_some n1 n2, e3, kAP_in n3 n4 (by rw [n5]; exact ix_ok (k := u) rfl (by omega) (by decide)), nI_clamp (by omega), z1, kO_some z3 z4, cm, kc_some, i2, kP_some n1 n2, e3, kAP_in n3 n4 (by rw [n5]; exact ix_ok (k := u) rfl (by omega) (by decide)), nI_clamp (by omega), z1, zf, z6]
    have b126 : ∀ v : Int32, v = fl (hI S q) (hI S 5) (hI S z 0) → s_X12_ruled_b126 (s_X12_ruled_L15 33 F2) 33 T (nI (31 + 25 * g)) (nI u) (nI (31 + 25 * g) + 1 + 4 * nI u) v = (if (if hI S z 1 = 0 then (if hI S z 2 ≤ fl (hI S q) (hI S 5) (hI S z 0) then (0 : Int32) else 1) else (if fl (hI S q) (hI S 5) (hI S z 0) ≤ hI S z 2 then 0 else 1)) = 0 then some (nI F', T) else some (nI F, T)) := by
      intro v hv
      have e168 : s_X12_ruled_b168 33 T (nI (31 + 25 * g) + 1 + 4 * nI u) = some (nI F, T) := by
        unfold s_X12_ruled_b168
        rw [kP_m5 hM, kA_m37 hM (show nI (31 + 25 * g) + 1 + 4 * nI u + 3 = nI (31 + 25 * g + 1 + 4 * u + 3) from ex 3) (by omega), ← z5 3 (by decide), z6]
      unfold s_X12_ruled_b126 s_X12_ruled_b177
      rw [kP_m5 hM, kA_m37 hM (show nI (31 + 25 * g) + 1 + 4 * nI u + 1 = nI (31 + 25 * g + 1 + 4 * u + 1) from ex 1) (by omega), kP_m5 hM, kA_m37 hM (show nI (31 + 25 * g) + 1 + 4 * nI u + 2 = nI (31 + 25 * g + 1 + 4 * u + 2) from ex 2) (by omega), kP_m5 hM, kA_m37 hM (show nI (31 + 25 * g) + 1 + 4 * nI u + 2 = nI (31 + 25 * g + 1 + 4 * u + 2) from ex 2) (by omega), ← z5 1 (by decide), ← z5 2 (by decide), e168, i3, hv]
      by_cases y1 : hI S z 1 = 0
      · rw [if_pos y1, if_pos y1]
        by_cases y2 : hI S z 2 ≤ fl (hI S q) (hI S 5) (hI S z 0)
        · rw [if_pos y2, if_pos y2, if_pos rfl]
        · rw [if_neg y2, if_neg y2, if_neg (by decide)]
      · rw [if_neg y1, if_neg y1]
        by_cases y2 : fl (hI S q) (hI S 5) (hI S z 0) ≤ hI S z 2
        · rw [if_pos y2, if_pos y2, if_pos rfl]
        · rw [if_neg y2, if_neg y2, if_neg (by decide)]
    have b59 : ∀ gv : Int32, gv = fSh (hI S q 0) (hI S q 1) (fsz (hI S 5 3)) - fSh (hI S q 0) (hI S q 1) (fsz (hI S 5 4)) → s_X12_ruled_b59 (s_X12_ruled_L15 33 F2) 33 T (nI (31 + 25 * g)) (nI u) (nI (31 + 25 * g) + 1 + 4 * nI u) gv = (if (if hI S z 1 = 0 then (if hI S z 2 ≤ fl (hI S q) (hI S 5) (hI S z 0) then (0 : Int32) else 1) else (if fl (hI S q) (hI S 5) (hI S z 0) ≤ hI S z 2 then 0 else 1)) = 0 then some (nI F', T) else some (nI F, T)) := by
      intro gv hgv
      unfold s_X12_ruled_b59
      rw [kP_m5 hM, kA_m37 hM ex0 (by omega), ← z5 0 (by decide), h.nw 4 (by decide) (i := 4) rfl, m_sz, kP_m5 hM, kA_m37 hM ex0 (by omega), ← z5 0 (by decide), h.nw 5 (by decide) (i := 5) rfl, m_sz, kP_m5 hM, kA_m37 hM ex0 (by omega), ← z5 0 (by decide), h.nw 6 (by decide) (i := 6) rfl, h.rq.1, h.rq.2.1, h.rq.2.2.1]
      by_cases y0 : hI S z 0 = 0
      · rw [if_pos y0]
        exact b126 _ (by unfold fl; rw [if_pos y0])
      · rw [if_neg y0]
        by_cases y1 : hI S z 0 = 1
        · rw [if_pos y1]
          exact b126 _ (by unfold fl; rw [if_neg y0, if_pos y1])
        · rw [if_neg y1]
          by_cases y2 : hI S z 0 = 2
          · rw [if_pos y2]
            exact b126 _ (by unfold fl; rw [if_neg y0, if_neg y1, if_pos y2]; exact hgv)
          · rw [if_neg y2]
            exact b126 _ (by unfold fl; rw [if_neg y0, if_neg y1, if_neg y2])
    have m_all : s_X12_ruled_b15 (s_X12_ruled_L15 33 F2) 33 T (nI (31 + 25 * g)) (nI u) = (if (if hI S z 1 = 0 then (if hI S z 2 ≤ fl (hI S q) (hI S 5) (hI S z 0) then (0 : Int32) else 1) else (if fl (hI S q) (hI S 5) (hI S z 0) ≤ hI S z 2 then 0 else 1)) = 0 then some (nI F', T) else some (nI F, T)) := by
      unfold s_X12_ruled_b15
      rw [kP_m5 hM, kA_m37 hM rfl (by omega), e2, if_neg nle, h.nw 11 (by decide) (i := 11) rfl]
      obtain ⟨n9, y9, y10⟩ := fSh_nn h.cok h.rq.2.2.2.2.2.2.2.2.2.1
      rcases h.rq.2.2.2.2.2.2.2.2.2.2 with ⟨x1, x2⟩ | x1
      · rw [x1, if_neg (by decide)]
        exact b59 0 (by rw [x2, Int32.sub_self])
      · rw [x1, y9, if_pos (z_le (by omega)), kO_m hM, h.shortNow, kc_some, h.nw 11 (by decide) (i := 11) rfl, x1]
        exact b59 _ rfl
    by_cases y : (if hI S z 1 = 0 then (if hI S z 2 ≤ fl (hI S q) (hI S 5) (hI S z 0) then (0 : Int32) else 1) else (if fl (hI S q) (hI S 5) (hI S z 0) ≤ hI S z 2 then 0 else 1)) = 0
    · exact ⟨F', i1, c_all.trans (if_pos y), m_all.trans (if_pos y)⟩
    · exact ⟨F, z7, c_all.trans (if_neg y), m_all.trans (if_neg y)⟩
theorem ruled_eq {S T : HS} {c q hd d k g : Nat} (h : GW S T c q hd d k g) : ∃ F, F ≤ 99 ∧ s_X5_pullIn S hd (some 5) = some (nI F, S) ∧ s_X12_ruled T 33 = some (nI F, T) := by
  obtain ⟨n1, n2, hg, ra, m, hm, e1, e2, e3, n3, n4, n5, hz⟩ := h.2.2.2.2.2.2.2.2.2.2.2.1
  obtain ⟨F, i1, i2, i3⟩ := ruled_loop h hm e1 e2 hg n1 n2 e3 n3 n4 n5 hz m 100000 100000 0 (by omega) (by omega) (by omega)
  refine ⟨F, i1, ?_, ?_⟩
  · unfold s_X5_pullIn
    exact i2
  · unfold s_X12_ruled
    rw [h.nw 3 (by decide) (i := 3) rfl, h.m3, show (25 : Int32) = nI 25 from rfl, show (31 : Int32) = nI 31 from rfl, nI_mul, nI_add]
    exact i3
