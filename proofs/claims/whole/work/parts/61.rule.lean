/-! ===== a rule of both ===== -/
theorem r_rule {S T : HS} {N : Nat} {B : Nat → Nat} {b a0 a1 a2 nd nc nh M hd ra m : Nat} (h : RH S T N B b a0 a1 a2 nd nc nh M hd ra m) (st : s_X10_stands S 2 3 = some (1, S)) (f0 : hI S 2 2 = 0) (s1 : hI S 2 4 = 1) : ∃ S2 T2 m2, s_X10_readRule S 2 (some hd) = some S2 ∧ s_X12_readRule T 33 (nI (31 + 25 * nh)) = some T2 ∧ RH S2 T2 N B b a0 a1 a2 nd nc nh M hd ra m2 ∧ FB M S S2 ∧ FU T T2 ∧ (hI S2 2 2 = 0 → m2 = m + 1) := by
  obtain ⟨hRX, ⟨m1, m2, m3, m4, m5, m6⟩, ⟨k1, k2, k3, k4, k5⟩, hh⟩ := id h
  have hR := hRX.1
  have hC := hR.1.1
  have hM := hR.2.1.1
  obtain ⟨-, -, -, -, -, hβ, -⟩ := hh f0
  obtain ⟨S1, X, T1, a1', x1, x2, x3, c1, d1, e1, g1⟩ := r_begin6 hR f0 s1 m6
  obtain ⟨V, eV, hV⟩ := r_word c1
  obtain ⟨S2, T2, a2', b2, c2, d2, e2, g2⟩ := r_takeF c1 (c := if wS V = -1000000 then 0 else 1) (by split; exact Or.inl rfl; exact Or.inr rfl) (fun z _ => by
    have y : ¬ wS V = -1000000 := fun q => by rw [if_pos q] at z; exact absurd z (by decide)
    have y2 : hI S1 2 4 = 1 := by
      rcases wS_ne y with q | q | q | q
      · exact ((hV 7 (by decide)).2 q).2.1
      · exact ((hV 8 (by decide)).2 q).2.1
      · exact ((hV 9 (by decide)).2 q).2.1
      · exact ((hV 10 (by decide)).2 q).2.1
    rw [y2]; decide)
  obtain ⟨V2, eV2, hV2⟩ := r_word c2
  obtain ⟨S3, T3, a3', b3, c3, d3, e3, g3⟩ := r_takeF c2 (c := if V2 = wv 5 ∨ V2 = wv 4 then 1 else 0) (by split; exact Or.inr rfl; exact Or.inl rfl) (fun z _ => by
    have y2 : hI S2 2 4 = 1 := by
      by_cases q : V2 = wv 5 ∨ V2 = wv 4
      · rcases q with q | q
        · exact ((hV2 5 (by decide)).2 q).2.1
        · exact ((hV2 4 (by decide)).2 q).2.1
      · rw [if_neg q] at z
        exact absurd z (by decide)
    rw [y2]; decide)
  obtain ⟨v, w, S4, T4, a4', b4, c4, d4, e4, g4⟩ := r_number c3 (lo := -999) (lo2 := -999) (hi := 9999) (fun _ => rfl)
  obtain ⟨V3, eV3, hV3⟩ := r_word c4
  obtain ⟨S5, T5, a5', b5, c5, d5, e5, g5⟩ := r_takeF c4 (c := if V3 = wv 6 then 1 else 0) (by split; exact Or.inr rfl; exact Or.inl rfl) (fun z _ => by
    have y2 : hI S4 2 4 = 1 := by
      by_cases q : V3 = wv 6
      · exact ((hV3 6 (by decide)).2 q).2.1
      · rw [if_neg q] at z
        exact absurd z (by decide)
    rw [y2]; decide)
  obtain ⟨fv, fw, S6, T6, a6', b6, c6, d6, e6, g6⟩ := r_number c5 (lo := 0) (lo2 := 0) (hi := 99) (fun _ => rfl)
  obtain ⟨S9, T9, a9', b9, c9, d9, e9, g9⟩ := r_end c6
  have q9 : QS S S9 := (((((d1.tr d2).tr d3).tr d4).tr d5).tr d6).tr d9
  have u9 : QT T T9 := (((((e1.tr e2).tr e3).tr e4).tr e5).tr e6).tr e9
  have h9 : RH S9 T9 N B b a0 a1 a2 nd nc nh M hd ra m := h.op c9 q9 u9 (fun _ => f0)
  -- the class
  have e111 : (if hI S6 2 4 = 3 then (s_X10_readRule_b111 2 S6 (some hd) (wS V) (if V2 = wv 4 then 1 else 0) v fv (some 2) 1) else (s_X10_readRule_b111 2 S6 (some hd) (wS V) (if V2 = wv 4 then 1 else 0) v fv (some 2) 0)) = s_X10_readRule_b111 2 S6 (some hd) (wS V) (if V2 = wv 4 then 1 else 0) v fv (some 2) (if hI S6 2 4 = 3 then 1 else 0) := by split <;> rfl
  have c61 : s_X10_readRule_b61 2 S2 (some hd) (wS V) (if V2 = wv 4 then 1 else 0) (some 2) (if V2 = wv 5 ∨ V2 = wv 4 then 1 else 0) = (if hI S9 2 2 = 0 then knew S9 7 (fun o4 S5 => kO S5 o4 7 (fun a7 => kcv (s_X7_init S5 a7 (wS V) (if V2 = wv 4 then 1 else 0) v fv) (fun S6 => kO S6 (some hd) 5 (fun a9 => kcv (s_X5_add S6 a9 o4) (fun S8 => some S8))))) else some S9) := by
    unfold s_X10_readRule_b61
    rw [kO_c2 c2.1.1, a3', kcv_some, kO_c2 c3.1.1, a4', kc_some, kO_c2 c4.1.1, (hV3 6 (by decide)).1, kc_some, kO_c2 c4.1.1, a5', kcv_some, kO_c2 c5.1.1, a6', kc_some, kI_c2 c6.1.1, e111]
    unfold s_X10_readRule_b111
    rw [kO_c2 c6.1.1, a9', kcv_some, kI_c2 c9.1.1]
  have c31 : s_X10_readRule_b31 2 S1 (some hd) (wS V) (some 2) (if wS V = -1000000 then 0 else 1) = s_X10_readRule_b61 2 S2 (some hd) (wS V) (if V2 = wv 4 then 1 else 0) (some 2) (if V2 = wv 5 ∨ V2 = wv 4 then 1 else 0) := by
    unfold s_X10_readRule_b31 s_X10_readRule_b56
    rw [kO_c2 c1.1.1, a2', kcv_some, kO_c2 c2.1.1, (hV2 4 (by decide)).1, kc_some, kO_c2 c2.1.1, (hV2 5 (by decide)).1, kc_some]
    by_cases q4 : V2 = wv 4
    · rw [if_pos q4, if_neg (by decide), if_pos (Or.inr q4)]
    · rw [if_neg q4, if_pos rfl]
      by_cases q5 : V2 = wv 5
      · rw [if_pos q5, if_neg (by decide), if_pos (Or.inl q5)]
      · rw [if_neg q5, if_pos rfl, if_neg (fun z => z.elim q5 q4)]
  have cA : s_X10_readRule S 2 (some hd) = s_X10_readRule_b31 2 S1 (some hd) (wS V) (some 2) (if wS V = -1000000 then 0 else 1) := by
    have rm : s_X5_hasRoom S hd = some ((if 6 ≤ nI m then 0 else 1), S) := by
      unfold s_X5_hasRoom
      rw [kI_some m3 k1, k2]
      by_cases q : 6 ≤ nI m
      · rw [if_pos q, if_pos q, kzr_0]
      · rw [if_neg q, if_neg q, kzr_1]
    have e31 : (if wS V = -1000000 then (s_X10_readRule_b31 2 S1 (some hd) (wS V) (some 2) 0) else (s_X10_readRule_b31 2 S1 (some hd) (wS V) (some 2) 1)) = s_X10_readRule_b31 2 S1 (some hd) (wS V) (some 2) (if wS V = -1000000 then 0 else 1) := by split <;> rfl
    unfold s_X10_readRule
    rw [kO_c2 hC, st, kc_some, kO_some m3 k1, rm, kc_some, kO_c2 hC, a1', kcv_some, kO_c2 c1.1.1, c_what c1.1.1 hV, kc_some, e31]
  -- the reference
  have m88 : s_X12_readRule_b88 33 T3 (nI (31 + 25 * nh)) (wS V) V2 = (if hI T9 33 17 = 0 then (kP T9 (some 33) 12 6 (fun v12 => kA T9 v12 14 (nI (31 + 25 * nh)) (fun v13 => kP T9 (some 33) 12 6 (fun v14 => kwA T9 v14 14 ((nI (31 + 25 * nh) + 1) + (4 * v13)) (wS V) (fun S15 => kP S15 (some 33) 12 6 (fun v16 => s_X12_readRule_b170 33 S15 (nI (31 + 25 * nh)) w fw ((nI (31 + 25 * nh) + 1) + (4 * v13)) v16 (((nI (31 + 25 * nh) + 1) + (4 * v13)) + 1) (if V2 = wv 4 then 1 else 0))))))) else some T9) := by
    have eW : (1886743660 : Int64) = wv 6 := rfl
    have eA : (418263299685 : Int64) = wv 4 := rfl
    have mw : s_X12_mustWord T4 33 (wv 6) = some T5 := by
      unfold s_X12_mustWord s_X12_mustWord_b22
      rw [kI_m c4.2.1.1, kO_m c4.2.1.1, eV3, kc_some, kO_m c4.2.1.1, kcvid, kO_m c4.2.1.1, kcvid]
      rw [← b5]
      by_cases z : hI T4 33 17 = 0
      · rw [if_pos z, if_pos z]
        by_cases y : V3 = wv 6
        · rw [if_pos y, if_pos y]
        · rw [if_neg y, if_neg y]
      · rw [if_neg z, if_neg z]
    unfold s_X12_readRule_b88
    rw [kO_m c3.2.1.1, b4, kc_some, kO_m c4.2.1.1, eW, mw, kcv_some, kO_m c5.2.1.1, b6, kc_some, kO_m c6.2.1.1, b9, kcv_some, kI_m c9.2.1.1, eA]
    by_cases y : V2 = wv 4
    · simp only [if_pos y]
    · simp only [if_neg y]
  have m51 : s_X12_readRule_b51 33 T2 (nI (31 + 25 * nh)) (wS V) = s_X12_readRule_b88 33 T3 (nI (31 + 25 * nh)) (wS V) V2 := by
    have eB : (422608400247 : Int64) = wv 5 := rfl
    have eA : (418263299685 : Int64) = wv 4 := rfl
    unfold s_X12_readRule_b51 s_X12_readRule_b80 s_X12_readRule_b85
    rw [kO_m c2.2.1.1, eV2, kc_some, kI_m c2.2.1.1, eA, eB, kO_m c2.2.1.1, kO_m c2.2.1.1]
    by_cases z : hI T2 33 17 = 0
    · rw [if_pos z] at b3 ⊢
      by_cases y5 : V2 = wv 5
      · rw [if_pos (Or.inl y5)] at b3
        rw [if_pos y5, b3, kcv_some]
      · rw [if_neg y5]
        by_cases y4 : V2 = wv 4
        · rw [if_pos (Or.inr y4)] at b3
          rw [if_pos y4, b3, kcv_some]
        · rw [if_neg (fun q => q.elim y5 y4)] at b3
          rw [if_neg y4, b3, kcv_some]
    · rw [if_neg z] at b3 ⊢
      rw [Option.some.inj b3]
  have mA : s_X12_readRule T 33 (nI (31 + 25 * nh)) = s_X12_readRule_b51 33 T2 (nI (31 + 25 * nh)) (wS V) := by
    have m16 : s_X12_readRule_b16 33 X (nI (31 + 25 * nh)) = s_X12_readRule_b51 33 T2 (nI (31 + 25 * nh)) (wS V) := by
      unfold s_X12_readRule_b16 s_X12_readRule_b48
      rw [kO_m x2, x3, kcv_some, kO_m c1.2.1.1, eV, kc_some, m_whatOf, kc_some, kI_m c1.2.1.1, kO_m c1.2.1.1, kO_m c1.2.1.1]
      by_cases z : hI T1 33 17 = 0
      · rw [if_pos z] at b2 ⊢
        by_cases y : wS V = -1000000
        · rw [if_pos y] at b2 ⊢
          rw [b2, kcv_some]
        · rw [if_neg y] at b2 ⊢
          rw [b2, kcv_some]
      · rw [if_neg z] at b2 ⊢
        rw [Option.some.inj b2]
    unfold s_X12_readRule
    rw [kP_m6 hM, kA_m38 hM rfl (by omega), hβ]
    by_cases z : nI m = 6
    · rw [if_pos z] at x1 ⊢
      rw [kO_m hM, x1, kcv_some, m16]
    · rw [if_neg z] at x1 ⊢
      rw [Option.some.inj x1, m16]
  rcases c9.f0 with ⟨f1, f2⟩ | ⟨f1, f2, -⟩
  · obtain ⟨y6, w6, l6, n6⟩ := g6 (g9 f1)
    obtain ⟨-, y5⟩ := g5 y6
    obtain ⟨y4, w4, -, -⟩ := g4 y5
    obtain ⟨-, y3⟩ := g3 y4
    obtain ⟨-, y2⟩ := g2 y3
    have hm := g1 y2
    have t0 : (0 : Int32).toInt = 0 := rfl
    have t99 : (99 : Int32).toInt = 99 := rfl
    obtain ⟨F, hF, hF1, hF2⟩ := I_N (n := fv) (a := 0) (b := 99) (by omega) (by omega) (by decide)
    obtain ⟨r1, r2, r3⟩ := r_newRule (v0 := wS V) (v1 := if V2 = wv 4 then 1 else 0) (v2 := v) h9 f1 hm hF (by omega)
    obtain ⟨hRX9, ⟨-, -, p3, p4, -, -⟩, ⟨z1, z2, z3, z4, z5⟩, hh9⟩ := id h9
    obtain ⟨-, -, -, -, -, β9, -⟩ := hh9 f1
    have hM9 := c9.2.1.1
    have ix : ∀ j : Nat, nI (31 + 25 * nh) + 1 + 4 * nI m + nI j = nI (31 + 25 * nh + 1 + 4 * m + j) := fun j => by rw [show (1 : Int32) = nI 1 from rfl, show (4 : Int32) = nI 4 from rfl, nI_mul, nI_add, nI_add, nI_add]
    have ix0 : nI (31 + 25 * nh) + 1 + 4 * nI m = nI (31 + 25 * nh + 1 + 4 * m) := by rw [show (1 : Int32) = nI 1 from rfl, show (4 : Int32) = nI 4 from rfl, nI_mul, nI_add, nI_add]
    refine ⟨_, _, m + 1, (cA.trans (c31.trans c61)).trans ((if_pos f1).trans (c_newRule p3 z1 z2 hm z3 p4 z4 z5 (by split; exact Or.inr rfl; exact Or.inl rfl))), ?_, r1, (q9.fb M).tr r2, u9.fu.tr r3, fun _ => rfl⟩
    rw [mA, m51, m88, if_pos f2, kP_m6 hM9, kA_m38 hM9 rfl (by omega), β9, kP_m6 hM9, kwA_m38 hM9 ix0 (by omega), kP_m6 (by exact hM9)]
    unfold s_X12_readRule_b170
    rw [kwA_m38 (by exact hM9) (show nI (31 + 25 * nh) + 1 + 4 * nI m + 1 = nI (31 + 25 * nh + 1 + 4 * m + 1) from ix 1) (by omega), kP_m6 (by exact hM9), kwA_m38 (by exact hM9) (show nI (31 + 25 * nh) + 1 + 4 * nI m + 2 = nI (31 + 25 * nh + 1 + 4 * m + 2) from ix 2) (by omega), kP_m6 (by exact hM9), kwA_m38 (by exact hM9) (show nI (31 + 25 * nh) + 1 + 4 * nI m + 3 = nI (31 + 25 * nh + 1 + 4 * m + 3) from ix 3) (by omega), kP_m6 (by exact hM9), kA_m38 (by exact hM9) rfl (by omega), kwA_m38 (by exact hM9) rfl (by omega), hI_wI_j (by omega), hI_wI_j (by omega), hI_wI_j (by omega), hI_wI_j (by omega), β9, nI_1, w4, w6]
    rfl
  · exact ⟨S9, T9, m, (cA.trans (c31.trans c61)).trans (if_neg f1), (mA.trans (m51.trans m88)).trans (if_neg f2), h9, q9.fb M, u9.fu, fun z => absurd z f1⟩
