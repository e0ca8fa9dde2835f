/-! ===== tune ===== -/
theorem pl_SX (m left : Nat) (S : HS) : SX S (pl m left S) := by
  obtain ⟨e1, eP, hi⟩ := pl_1 m left S
  exact ⟨congrArg (fun x => x.1) e1, fun c => congrArg (fun x => (x.2 c).1) e1, fun c => congrArg (fun x => (x.2 c).2) e1, fun c _ _ h9 h10 _ _ _ => hi c h9 h10, fun j _ => by rw [hi 33 (by decide) (by decide)], fun c _ _ => by rw [eP], fun j _ => by rw [eP]⟩
theorem pl_KS (m left : Nat) (S : HS) : KS S (pl m left S) := ⟨pl_SX m left S, (pl_1 m left S).2.2 7 (by decide) (by decide), by rw [(pl_1 m left S).2.1]⟩
theorem LC.sx {S T : HS} (h : LC S) (g : SX S T) : LC T := h.to g.1 g.2.1 g.2.2.1 g.2.2.2.2.2.1 g.2.2.2.2.2.2
theorem play_one {c q d k code kk : Nat} {l1 l2 t0 : Int32} (h1 : l1 = nI d) (h2 : l2 = nI k) (hkk : kk = 1 ∧ code < 10 ∨ kk = 2 ∧ code < 100 ∨ kk = 3 ∧ code < 1000) {S T : HS} (hC : LC S) (h : AT S T c q d k) (g5 : hI S 7 5 = t0) (ht : TOK (hI S q 2) t0 0) : ∃ S2 T2, s_X4_playBy S 7 (nI code) (nI kk) = some S2 ∧ s_X12_playTune T 33 l1 l2 t0 (nI code) (nI kk) = some T2 ∧ KS S S2 ∧ SX T T2 ∧ (∀ j, j < kk → hI S2 10 j = hI T2 41 j ∧ ∃ P : Nat, P ≤ 161000 ∧ hI S2 10 j = nI P) := by
  have kS := pl_KS kk code S
  have xT : SX T (wI (wI (wI T 41 0 0) 41 1 0) 41 2 0) := ((SX.iw (c := 41) _ (by omega)).tr (SX.iw (c := 41) _ (by omega))).tr (SX.iw (c := 41) _ (by omega))
  have hA := h.keep kS xT
  obtain ⟨S1, T1, s1, s2, s3, s4, s5, s6, s7, s8⟩ := TW.start hA (t0 := t0) (by rw [kS.2.1]; exact g5) (by rw [kS.1.ge h.2.2.2.2.2.1]; exact ht)
  have hC1 : LC S1 := (hC.sx kS.1).sx s4.1
  obtain ⟨S2, T2, i1, i2, i3, i4, i5⟩ := play_loop h1 h2 hkk 120 100000 100000 0 S1 T1 0 hC1 s3 (by
    intro j hj
    rw [s8 9 (by decide)]
    exact pl_dg S hkk hj) (by rw [s6]; rfl) (by decide) (by
    intro j hj
    rw [s8 10 (by decide), s7 41 (by decide), (pl_9 kk code S j).2, if_pos hj]
    refine ⟨?_, 0, by decide, rfl⟩
    rcases (by omega : j = 0 ∨ j = 1 ∨ j = 2) with rfl | rfl | rfl
    · rfl
    · rfl
    · rfl) (by decide) (by decide) (by decide)
  refine ⟨S2, T2, ?_, ?_, (kS.tr s4).tr i3, (xT.tr s5).tr i4, i5⟩
  · unfold s_X4_playBy
    have e := plLoop (k := k) (l2 := nI kk) kk (100000 - kk) code S hC (by omega) (by omega)
    rw [show 100000 - kk + kk = 100000 by omega] at e
    rw [show nI kk - 1 = nI kk + (-1) from Int32.sub_eq_add_neg _ _, e, show 100000 - kk = (99999 - kk) + 1 by omega]
    show s_X4_playBy_b7 _ 7 (pl kk code S) (nI kk) _ (-1) = _
    unfold s_X4_playBy_b7
    rw [if_pos (by decide), hA.1.o7, kv_some s1]
    exact i1
  · have hM := h.2.1
    unfold s_X12_playTune
    show s_X12_playTune_b3 (s_X12_playTune_L3 33 99999) 33 T l1 l2 t0 (nI code) (nI kk) (nI 0) = _
    unfold s_X12_playTune_b3
    rw [if_neg (by decide), kP_m26 hM, kwA_m41 hM (k := 0) rfl (by decide)]
    show s_X12_playTune_b3 (s_X12_playTune_L3 33 99998) 33 (wI T 41 0 0) l1 l2 t0 (nI code) (nI kk) (nI 1) = _
    unfold s_X12_playTune_b3
    rw [if_neg (by decide), kP_m26 (by exact hM), kwA_m41 (by exact hM) (k := 1) rfl (by decide)]
    show s_X12_playTune_b3 (s_X12_playTune_L3 33 99997) 33 (wI (wI T 41 0 0) 41 1 0) l1 l2 t0 (nI code) (nI kk) (nI 2) = _
    unfold s_X12_playTune_b3
    rw [if_neg (by decide), kP_m26 (by exact hM), kwA_m41 (by exact hM) (k := 2) rfl (by decide)]
    show s_X12_playTune_b3 (s_X12_playTune_L3 33 99996) 33 (wI (wI (wI T 41 0 0) 41 1 0) 41 2 0) l1 l2 t0 (nI code) (nI kk) (nI 3) = _
    unfold s_X12_playTune_b3
    rw [if_pos (by decide), kO_m (by exact hM), kv_some s2]
    exact i2
def OF (P a : Nat → Nat) (T : Nat) : Nat → Nat → Nat → Nat
  | 0, _, O => O
  | m + 1, j, O => OF P a T m (j + 1) (O + ((P j * T : Nat) - (a j : Nat) : Int).natAbs)
theorem OF_le {P a : Nat → Nat} {T kk : Nat} (hT : T ≤ 60) (hP : ∀ j, j < kk → P j ≤ 161000) (ha : ∀ j, j < kk → a j ≤ 32767) : ∀ (m j O : Nat), j + m = kk → OF P a T m j O ≤ O + m * 9700000 := by
  intro m
  induction m with
  | zero => intro j O _; exact Nat.le_add_right _ _
  | succ m ih =>
    intro j O hj
    have h1 : P j * T ≤ 161000 * 60 := Nat.mul_le_mul (hP j (by omega)) hT
    have h2 := ha j (by omega)
    have := ih (j + 1) (O + ((P j * T : Nat) - (a j : Nat) : Int).natAbs) (by omega)
    show OF P a T m (j + 1) _ ≤ _
    omega
theorem c_off {S : HS} (hC : LC S) {c q r I kk T code : Nat} {P a : Nat → Nat} {bt al : Int32} {J : HS → Option Nat → Int32 → Int32 → Int32 → Int32 → Int32 → Option (Int32 × HS)} (hL : LF S c q) (hr : r < 8) (hkk : kk ≤ 3) (hI40 : I + kk ≤ 40) (hT : hI S c 2 = nI T) (hT2 : T ≤ 60) (hP : ∀ j, j < kk → hI S 10 j = nI (P j) ∧ P j ≤ 161000) (ha : ∀ j, j < kk → hI S (14 + 2 * r) (I + j) = nI (a j) ∧ a j ≤ 32767) : ∀ (m F j O : Nat), m < F → j + m = kk → O ≤ j * 9700000 → s_X4_forcesFor_L51 J 7 F S (some (14 + 2 * r)) (nI I) (nI kk) bt al (nI code) (nI O) (nI j) = (if nI code ≤ 0 then s_X4_forcesFor_b110 J 7 S (some (14 + 2 * r)) (nI I) (nI kk) al (nI code) (nI (OF P a T m j O)) else (if nI (OF P a T m j O) < hI S 7 8 then s_X4_forcesFor_b110 J 7 S (some (14 + 2 * r)) (nI I) (nI kk) al (nI code) (nI (OF P a T m j O)) else s_X4_forcesFor_b120 J 7 S (some (14 + 2 * r)) (nI I) (nI kk) bt al (nI code))) := by
  intro m
  induction m with
  | zero =>
    intro F j O hF hj hO
    obtain ⟨F, rfl⟩ : ∃ z, F = z + 1 := ⟨F - 1, by omega⟩
    show s_X4_forcesFor_b51 J _ 7 S (some (14 + 2 * r)) (nI I) (nI kk) bt al (nI code) (nI O) (nI j) = _
    unfold s_X4_forcesFor_b51
    rw [if_pos ((nI_le_iff (by omega) (by omega)).mpr (by omega)), kI_c7 hC]
    rfl
  | succ m ih =>
    intro F j O hF hj hO
    obtain ⟨F, rfl⟩ : ∃ z, F = z + 1 := ⟨F - 1, by omega⟩
    obtain ⟨p1, p2⟩ := hP j (by omega)
    obtain ⟨a1, a2⟩ := ha j (by omega)
    have h1 : P j * T ≤ 161000 * 60 := Nat.mul_le_mul p2 hT2
    have es : nI (P j) * nI T - nI (a j) = nI (P j * T) - nI (a j) := by rw [nI_mul]
    have ei : (nI (P j * T) - nI (a j)).toInt = ((P j * T : Nat) : Int) - (a j : Nat) := by
      have x1 : (nI (P j * T)).toInt = ((P j * T : Nat) : Int) := nI_toInt (by omega)
      have x2 : (nI (a j)).toInt = (a j : Int) := nI_toInt (by omega)
      rw [i32_sub (by omega) (by omega), x1, x2]
    show s_X4_forcesFor_b51 J (s_X4_forcesFor_L51 J 7 F) 7 S (some (14 + 2 * r)) (nI I) (nI kk) bt al (nI code) (nI O) (nI j) = _
    unfold s_X4_forcesFor_b51
    rw [if_neg (fun z => by have := (nI_le_iff (by omega) (by omega)).mp z; omega), kP_c7_2 hC, kA_c10 hC (k := j) rfl (by omega), p1, hL.p73, hL.id, hT, nI_add, kA_items hC hr (k := I + j) rfl (by omega), a1, es, fabs_sz, fsz_n (by rw [ei]; omega), ei, nI_add, nI_1]
    exact ih F (j + 1) (O + ((P j * T : Nat) - (a j : Nat) : Int).natAbs) (by omega) (by omega) (by omega)
theorem lN_add2 (a b : Nat) : lN a + lN b = lN (a + b) := (Int64.ofNat_add a b).symm
theorem m_off {S : HS} (hM : LM S) {d r I kk T : Nat} {P a : Nat → Nat} {l1 l2 t0 l4 l5 al cd : Int32} {le : Int64} {J : HS → Int32 → Int32 → Int32 → Int32 → Int32 → Int32 → Int64 → Int32 → Int32 → Option (Int32 × HS)} (h1 : l1 = nI d) (h4 : l4 = nI r) (h5 : l5 = nI I) (hd : d < 4) (hr : r < 8) (hkk : kk ≤ 3) (hI40 : I + kk ≤ 40) (hT : hI S 37 (3 + 3 * d + 2) = nI T) (hT2 : T ≤ 60) (hP : ∀ j, j < kk → hI S 41 j = nI (P j) ∧ P j ≤ 161000) (ha : ∀ j, j < kk → hI S 36 (40 * r + (I + j)) = nI (a j) ∧ a j ≤ 32767) : ∀ (m F j O : Nat), m < F → j + m = kk → O ≤ j * 9700000 → s_X12_tune_L159 J 33 F S l1 l2 t0 l4 l5 (nI kk) le al cd (lN O) (nI j) = (if le < 0 then s_X12_tune_b243 J 33 S l1 l2 t0 l4 l5 (nI kk) al cd (lN (OF P a T m j O)) else (if le ≤ lN (OF P a T m j O) then s_X12_tune_b253 J 33 S l1 l2 t0 l4 l5 (nI kk) le al cd else s_X12_tune_b243 J 33 S l1 l2 t0 l4 l5 (nI kk) al cd (lN (OF P a T m j O)))) := by
  intro m
  induction m with
  | zero =>
    intro F j O hF hj hO
    obtain ⟨F, rfl⟩ : ∃ z, F = z + 1 := ⟨F - 1, by omega⟩
    show s_X12_tune_b159 J _ 33 S l1 l2 t0 l4 l5 (nI kk) le al cd (lN O) (nI j) = _
    unfold s_X12_tune_b159
    rw [if_pos ((nI_le_iff (by omega) (by omega)).mpr (by omega))]
    rfl
  | succ m ih =>
    intro F j O hF hj hO
    obtain ⟨F, rfl⟩ : ∃ z, F = z + 1 := ⟨F - 1, by omega⟩
    obtain ⟨p1, p2⟩ := hP j (by omega)
    obtain ⟨a1, a2⟩ := ha j (by omega)
    have h1' : P j * T ≤ 161000 * 60 := Nat.mul_le_mul p2 hT2
    have e36 : 40 * l4 + l5 + nI j = nI (40 * r + (I + j)) := by rw [n40 h4 h5, nI_add, Nat.add_assoc]
    have es : (nI (P j)).toInt64 * (nI T).toInt64 - (nI (a j)).toInt64 = lN (P j * T) - lN (a j) := by rw [nI_l (by omega), nI_l (by omega), nI_l (by omega), lN_mul]
    have ei : (lN (P j * T) - lN (a j)).toInt = ((P j * T : Nat) : Int) - (a j : Nat) := lN_subI (by omega) (by omega)
    have ea := lN_absI (x := lN (P j * T) - lN (a j)) (n := ((P j * T : Nat) - (a j : Nat) : Int).natAbs) (by rw [ei]) (by omega)
    show s_X12_tune_b159 J (s_X12_tune_L159 J 33 F) 33 S l1 l2 t0 l4 l5 (nI kk) le al cd (lN O) (nI j) = _
    unfold s_X12_tune_b159 s_X12_tune_b219
    rw [if_neg (fun z => by have := (nI_le_iff (by omega) (by omega)).mp z; omega), kP_m26 hM, kA_m41 hM (k := j) rfl (by omega), p1, kO_m hM, m_discOf hM h1 (l2 := 2) (j := 2) rfl hd (by decide), kc_some, hT, kP_m4 hM, kA_m36 hM e36 (by omega), a1, es, nI_1]
    have e9 := ih F (j + 1) (O + ((P j * T : Nat) - (a j : Nat) : Int).natAbs) (by omega) (by omega) (by omega)
    rw [← lN_add2, ← ea] at e9
    by_cases z : 0 ≤ lN (P j * T) - lN (a j)
    · rw [if_pos z] at e9 ⊢
      exact e9
    · rw [if_neg z] at e9 ⊢
      exact e9
/-- SX, but FORCES may change -/
def SF (S T : HS) : Prop := hN T = hN S ∧ (∀ c, hK T c = hK S c) ∧ (∀ c, hL T c = hL S c) ∧ (∀ c, c ≠ 7 → c ≠ 8 → c ≠ 9 → c ≠ 10 → c ≠ 33 → c ≠ 38 → c ≠ 41 → hI T c = hI S c) ∧ (∀ j, j = 1 ∨ j = 7 ∨ j = 9 ∨ j = 10 ∨ j = 31 → hI T 33 j = hI S 33 j) ∧ (∀ c, c ≠ 7 → c ≠ 8 → hP T c = hP S c) ∧ ∀ j, j < 3 → hP T 7 j = hP S 7 j
theorem SX.sf {S T : HS} (h : SX S T) : SF S T := ⟨h.1, h.2.1, h.2.2.1, h.2.2.2.1, fun j hj => h.2.2.2.2.1 j (by omega), h.2.2.2.2.2.1, h.2.2.2.2.2.2⟩
theorem SF.tr {S T U : HS} (h : SF S T) (g : SF T U) : SF S U :=
  ⟨g.1.trans h.1, fun c => (g.2.1 c).trans (h.2.1 c), fun c => (g.2.2.1 c).trans (h.2.2.1 c), fun c a1 a2 a3 a4 a5 a6 a7 => (g.2.2.2.1 c a1 a2 a3 a4 a5 a6 a7).trans (h.2.2.2.1 c a1 a2 a3 a4 a5 a6 a7), fun j hj => (g.2.2.2.2.1 j hj).trans (h.2.2.2.2.1 j hj), fun c a1 a2 => (g.2.2.2.2.2.1 c a1 a2).trans (h.2.2.2.2.2.1 c a1 a2), fun j hj => (g.2.2.2.2.2.2 j hj).trans (h.2.2.2.2.2.2 j hj)⟩
theorem SF.w25 (S : HS) (v : Int32) : SF S (wI S 33 25 v) := ⟨rfl, fun _ => rfl, fun _ => rfl, fun c _ _ _ _ h _ _ => hI_wI_ne h, fun j hj => hI_wI_j (by omega), fun _ _ _ => rfl, fun _ _ => rfl⟩
theorem SF.ge {S T : HS} (g : SF S T) {c : Nat} (h : c ≠ 7 ∧ c ≠ 8 ∧ c ≠ 9 ∧ c ≠ 10 ∧ c ≠ 33 ∧ c ≠ 38 ∧ c ≠ 41) : hI T c = hI S c := g.2.2.2.1 c h.1 h.2.1 h.2.2.1 h.2.2.2.1 h.2.2.2.2.1 h.2.2.2.2.2.1 h.2.2.2.2.2.2
theorem SF.lm {S T : HS} (g : SF S T) (h : LM S) : LM T := h.to g.1 g.2.1 g.2.2.1 (g.2.2.2.2.2.1 33 (by decide) (by decide))
/-- KS, but what is told of the forces may change -/
def KT (S S2 : HS) : Prop := SX S S2 ∧ hI S2 7 5 = hI S 7 5 ∧ hP S2 7 = hP S 7
theorem KT.rf (S : HS) : KT S S := ⟨SX.rf S, rfl, rfl⟩
theorem KS.kt {S T : HS} (h : KS S T) : KT S T := ⟨h.1, by rw [h.2.1], h.2.2⟩
theorem KT.tr {S T U : HS} (h : KT S T) (g : KT T U) : KT S U := ⟨h.1.tr g.1, g.2.1.trans h.2.1, g.2.2.trans h.2.2⟩
theorem KT.w8 (S : HS) (v : Int32) : KT S (wI S 7 8 v) := ⟨SX.iw _ (by omega), hI_wI_j (by decide), rfl⟩
theorem AT.keep2 {S T S2 T2 : HS} {c q d k : Nat} (h : AT S T c q d k) (g : KT S S2) (g2 : SF T T2) : AT S2 T2 c q d k := by
  obtain ⟨⟨h0, k7, k8, q0, q3, q4, dn, dk, qn, qk⟩, hM, hd, hk, hc, hq, hD, hQ, h1, h2⟩ := h
  have ec := g.1.ge hc
  have eq := g.1.ge hq
  obtain ⟨⟨gn, gk, -⟩, -, gp⟩ := g
  have e37 := g2.ge (c := 37) (by decide)
  refine ⟨?_, g2.lm hM, hd, hk, hc, hq, ?_, ?_, ?_, ?_⟩
  · unfold LF
    rw [gn, gp]
    simp only [gk]
    exact ⟨h0, k7, k8, q0, q3, q4, dn, dk, qn, qk⟩
  · intro j hj
    rw [ec, e37]
    exact hD j hj
  · intro j hj
    rw [eq, e37]
    exact hQ j hj
  · rw [ec]; exact h1
  · rw [eq]; exact h2
theorem lN_ltz (n : Nat) (h : n < 2 ^ 62) : ¬ lN n < 0 := fun z => by
  have := i64_lt.mp z
  rw [lN_toI (by omega), show (0 : Int64).toInt = 0 from rfl] at this
  omega
theorem lN_leI {a b : Nat} (ha : a < 2 ^ 62) (hb : b < 2 ^ 62) : lN a ≤ lN b ↔ a ≤ b := by
  rw [i64_le, lN_toI (by omega), lN_toI (by omega)]
  omega
theorem tune_out {c q d k r I kk al Te : Nat} {l1 l2 t0 l4 l5 : Int32} {a : Nat → Nat} (h1 : l1 = nI d) (h2 : l2 = nI k) (h4 : l4 = nI r) (h5 : l5 = nI I) (hr : r < 8) (hI40 : I + kk ≤ 40) (hal : kk = 1 ∧ al = 10 ∨ kk = 2 ∧ al = 100 ∨ kk = 3 ∧ al = 1000) (hT2 : Te ≤ 60) (ha2 : ∀ j, j < kk → a j ≤ 32767) : ∀ (n F1 F2 cc : Nat) (S T : HS) (bt : Int32) (le : Int64), LC S → AT S T c q d k → hI S 7 5 = t0 → TOK (hI S q 2) t0 0 → hI S c 2 = nI Te → (∀ j, j < kk → hI S (14 + 2 * r) (I + j) = nI (a j)) → (∀ j, j < kk → hI T 36 (40 * r + (I + j)) = nI (a j)) → n < F1 → n < F2 → cc + n = al → ((cc = 0 ∧ le = -1) ∨ (0 < cc ∧ ∃ Lo, Lo < 2 ^ 30 ∧ hI S 7 8 = nI Lo ∧ le = lN Lo ∧ hI T 33 25 = bt)) → ∃ b2 Lo S2 T2, s_X4_forcesFor_L31 7 F1 S (some (14 + 2 * r)) (nI I) (nI kk) bt (nI al) (nI cc) = some (b2, S2) ∧ s_X12_tune_L135 33 F2 T l1 l2 t0 l4 l5 (nI kk) le (nI al) (nI cc) = some (nI Lo, T2) ∧ hI S2 7 8 = nI Lo ∧ hI T2 33 25 = b2 ∧ KT S S2 ∧ SF T T2 := by
  intro n
  induction n with
  | zero =>
    intro F1 F2 cc S T bt le hC h g5 ht hTe hia him hF1 hF2 hcc inv
    obtain ⟨F1, rfl⟩ : ∃ z, F1 = z + 1 := ⟨F1 - 1, by omega⟩
    obtain ⟨F2, rfl⟩ : ∃ z, F2 = z + 1 := ⟨F2 - 1, by omega⟩
    obtain rfl : cc = al := by omega
    rcases inv with ⟨i1, i2⟩ | ⟨i1, Lo, i2, i3, i4, i5⟩
    · omega
    · refine ⟨bt, Lo, S, T, ?_, ?_, i3, i5, KT.rf S, (SX.rf T).sf⟩
      · show s_X4_forcesFor_b31 _ 7 S (some (14 + 2 * r)) (nI I) (nI kk) bt (nI cc) (nI cc) = _
        unfold s_X4_forcesFor_b31
        rw [if_pos ((nI_le_iff (by omega) (by omega)).mpr (Nat.le_refl _))]
      · show s_X12_tune_b135 _ 33 T l1 l2 t0 l4 l5 (nI kk) le (nI cc) (nI cc) = _
        unfold s_X12_tune_b135
        rw [if_pos ((nI_le_iff (by omega) (by omega)).mpr (Nat.le_refl _)), i4, lN_i]
  | succ n ih =>
    intro F1 F2 cc S T bt le hC h g5 ht hTe hia him hF1 hF2 hcc inv
    have hkk2 : kk = 1 ∧ cc < 10 ∨ kk = 2 ∧ cc < 100 ∨ kk = 3 ∧ cc < 1000 := by
      rcases hal with ⟨x, y⟩ | ⟨x, y⟩ | ⟨x, y⟩
      · exact Or.inl ⟨x, by omega⟩
      · exact Or.inr (Or.inl ⟨x, by omega⟩)
      · exact Or.inr (Or.inr ⟨x, by omega⟩)
    have al3 : al ≤ 1000 := by rcases hal with ⟨x, y⟩ | ⟨x, y⟩ | ⟨x, y⟩ <;> omega
    have kk3 : kk ≤ 3 := by rcases hal with ⟨x, y⟩ | ⟨x, y⟩ | ⟨x, y⟩ <;> omega
    have cal : cc < al := by omega
    have nle : ¬ nI al ≤ nI cc := fun z => by
      have h9 := (nI_le_iff (show al < 2 ^ 31 by omega) (show cc < 2 ^ 31 by omega)).mp z
      omega
    obtain ⟨F1, rfl⟩ : ∃ z, F1 = z + 1 := ⟨F1 - 1, by omega⟩
    obtain ⟨F2, rfl⟩ : ∃ z, F2 = z + 1 := ⟨F2 - 1, by omega⟩
    obtain ⟨S1, T1, p1, p2, p3, p4, p5⟩ := play_one (t0 := t0) (code := cc) (kk := kk) h1 h2 hkk2 hC h g5 ht
    have hC1 := hC.sx p3.1
    have hA1 := h.keep p3 p4
    obtain ⟨P, hP⟩ : ∃ P : Nat → Nat, ∀ j, j < kk → hI S1 10 j = nI (P j) ∧ P j ≤ 161000 := ⟨fun j => (hI S1 10 j).toInt.toNat, fun j hj => by
      obtain ⟨-, Q, q1, q2⟩ := p5 j hj
      dsimp only
      rw [q2, nI_toInt (by omega)]
      exact ⟨rfl, by omega⟩⟩
    have hP41 : ∀ j, j < kk → hI T1 41 j = nI (P j) ∧ P j ≤ 161000 := fun j hj => by rw [← (p5 j hj).1]; exact hP j hj
    have eit : hI S1 (14 + 2 * r) = hI S (14 + 2 * r) := p3.1.sf.ge (by omega)
    have e36 : hI T1 36 = hI T 36 := p4.sf.ge (by decide)
    have ec : hI S1 c 2 = nI Te := by rw [p3.1.ge h.2.2.2.2.1]; exact hTe
    have hT37 : hI T1 37 (3 + 3 * d + 2) = nI Te := by rw [← hA1.2.2.2.2.2.2.1 2 (by decide)]; exact ec
    have oc := c_off (S := S1) (code := cc) (bt := bt) (al := nI al) (J := s_X4_forcesFor_L31 7 F1) hC1 hA1.1 hr (by omega) hI40 ec hT2 hP (a := a) (by rw [eit]; exact fun j hj => ⟨hia j hj, ha2 j hj⟩) kk 100000 0 0 (by omega) (by omega) (by omega)
    have om := m_off (S := T1) (l2 := l2) (t0 := t0) (al := nI al) (cd := nI cc) (le := le) (J := s_X12_tune_L135 33 F2) hA1.2.1 h1 h4 h5 h.2.2.1 hr (by omega) hI40 hT37 hT2 hP41 (a := a) (by rw [e36]; exact fun j hj => ⟨him j hj, ha2 j hj⟩) kk 100000 0 0 (by omega) (by omega) (by omega)
    have hO := OF_le (P := P) (a := a) (T := Te) (kk := kk) hT2 (fun j hj => (hP j hj).2) ha2 kk 0 0 (by omega)
    have hO2 : OF P a Te kk 0 0 < 2 ^ 30 := by
      have : kk * 9700000 ≤ 3 * 9700000 := Nat.mul_le_mul (by omega) (Nat.le_refl _)
      omega
    -- taken
    have take : ∃ b2 Lo S2 T2, s_X4_forcesFor_b110 (s_X4_forcesFor_L31 7 F1) 7 S1 (some (14 + 2 * r)) (nI I) (nI kk) (nI al) (nI cc) (nI (OF P a Te kk 0 0)) = some (b2, S2) ∧ s_X12_tune_b243 (s_X12_tune_L135 33 F2) 33 T1 l1 l2 t0 l4 l5 (nI kk) (nI al) (nI cc) (lN (OF P a Te kk 0 0)) = some (nI Lo, T2) ∧ hI S2 7 8 = nI Lo ∧ hI T2 33 25 = b2 ∧ KT S S2 ∧ SF T T2 := by
      have kS := KT.w8 S1 (nI (OF P a Te kk 0 0))
      have xT := SF.w25 T1 (nI cc)
      obtain ⟨b2, Lo, S2, T2, i1, i2, i3, i4, i5, i6⟩ := ih F1 F2 (cc + 1) (wI S1 7 8 (nI (OF P a Te kk 0 0))) (wI T1 33 25 (nI cc)) (nI cc) (lN (OF P a Te kk 0 0)) (by exact hC1) (hA1.keep2 kS xT) (by rw [kS.2.1, p3.2.1]; exact g5) (by rw [kS.1.ge h.2.2.2.2.2.1, p3.1.ge h.2.2.2.2.2.1]; exact ht) (by rw [kS.1.ge h.2.2.2.2.1]; exact ec) (by rw [hI_wI_ne (by omega), eit]; exact hia) (by rw [hI_wI_ne (by decide), e36]; exact him) (by omega) (by omega) (by omega) (Or.inr ⟨by omega, _, hO2, hI_wI_self _ _ _ _, rfl, hI_wI_self _ _ _ _⟩)
      unfold s_X4_forcesFor_b110 s_X4_forcesFor_b120 s_X12_tune_b243 s_X12_tune_b253
      rw [kwI_c7 hC1, kwI_m hA1.2.1, nI_1]
      exact ⟨b2, Lo, S2, T2, i1, i2, i3, i4, (p3.kt.tr kS).tr i5, (p4.sf.tr xT).tr i6⟩
    show ∃ b2 Lo S2 T2, s_X4_forcesFor_b31 (s_X4_forcesFor_L31 7 F1) 7 S (some (14 + 2 * r)) (nI I) (nI kk) bt (nI al) (nI cc) = some (b2, S2) ∧ s_X12_tune_b135 (s_X12_tune_L135 33 F2) 33 T l1 l2 t0 l4 l5 (nI kk) le (nI al) (nI cc) = some (nI Lo, T2) ∧ hI S2 7 8 = nI Lo ∧ hI T2 33 25 = b2 ∧ KT S S2 ∧ SF T T2
    unfold s_X4_forcesFor_b31 s_X12_tune_b135
    rw [if_neg nle, if_neg nle, h.1.o7, kv_some p1, kO_m h.2.1, kv_some p2]
    rw [show s_X4_forcesFor_L51 (s_X4_forcesFor_L31 7 F1) 7 100000 S1 (some (14 + 2 * r)) (nI I) (nI kk) bt (nI al) (nI cc) 0 0 = _ from oc, show s_X12_tune_L159 (s_X12_tune_L135 33 F2) 33 100000 T1 l1 l2 t0 l4 l5 (nI kk) le (nI al) (nI cc) 0 0 = _ from om]
    rcases inv with ⟨i1, i2⟩ | ⟨i1, Lo, i2, i3, i4, i5⟩
    · subst i1
      rw [i2, if_pos (show nI 0 ≤ 0 by decide), if_pos (show (-1 : Int64) < 0 by decide)]
      exact take
    · have n0 : ¬ nI cc ≤ 0 := fun z => by have := (nI_le_iff (b := 0) (by omega) (by decide)).mp z; omega
      have e78 : hI S1 7 8 = nI Lo := by rw [p3.2.1]; exact i3
      rw [if_neg n0, i4, if_neg (lN_ltz Lo (by omega)), e78]
      by_cases y : Lo ≤ OF P a Te kk 0 0
      · rw [if_neg (fun z => by have := (nI_ltI (by omega) (by omega)).mp z; omega), if_pos ((lN_leI (by omega) (by omega)).mpr y)]
        have e25 : hI T1 33 25 = bt := by rw [p4.2.2.2.2.1 25 (by omega)]; exact i5
        obtain ⟨b2, Lo2, S2, T2, j1, j2, j3, j4, j5, j6⟩ := ih F1 F2 (cc + 1) S1 T1 bt (lN Lo) hC1 hA1 (by rw [p3.2.1]; exact g5) (by rw [p3.1.ge h.2.2.2.2.2.1]; exact ht) ec (by rw [eit]; exact hia) (by rw [e36]; exact him) (by omega) (by omega) (by omega) (Or.inr ⟨by omega, Lo, i2, e78, rfl, e25⟩)
        unfold s_X4_forcesFor_b120 s_X12_tune_b253
        rw [nI_1]
        exact ⟨b2, Lo2, S2, T2, j1, j2, j3, j4, p3.kt.tr j5, p4.sf.tr j6⟩
      · rw [if_pos ((nI_ltI (by omega) (by omega)).mpr (by omega)), if_neg (fun z => y ((lN_leI (by omega) (by omega)).mp z))]
        exact take
