/-! ===== reading: faults, what is taken ===== -/
def QS (S S2 : HS) : Prop := S2.1 = S.1 ∧ hP S2 = hP S ∧ (∀ a, a ≠ 2 → hI S2 a = hI S a) ∧ ∀ j, j < 2 ∨ 7 < j → hI S2 2 j = hI S 2 j
def QT (T T2 : HS) : Prop := T2.1 = T.1 ∧ hP T2 = hP T ∧ (∀ a, a ≠ 33 → hI T2 a = hI T a) ∧ ∀ j, j < 12 ∨ 18 < j → hI T2 33 j = hI T 33 j
theorem QS.rf (S : HS) : QS S S := ⟨rfl, rfl, fun _ _ => rfl, fun _ _ => rfl⟩
theorem QT.rf (S : HS) : QT S S := ⟨rfl, rfl, fun _ _ => rfl, fun _ _ => rfl⟩
theorem QS.tr {S T U : HS} (h : QS S T) (g : QS T U) : QS S U := ⟨g.1.trans h.1, g.2.1.trans h.2.1, fun a ha => (g.2.2.1 a ha).trans (h.2.2.1 a ha), fun j hj => (g.2.2.2 j hj).trans (h.2.2.2 j hj)⟩
theorem QT.tr {S T U : HS} (h : QT S T) (g : QT T U) : QT S U := ⟨g.1.trans h.1, g.2.1.trans h.2.1, fun a ha => (g.2.2.1 a ha).trans (h.2.2.1 a ha), fun j hj => (g.2.2.2 j hj).trans (h.2.2.2 j hj)⟩
theorem K2.q {S S2 : HS} (h : K2 S S2) : QS S S2 := ⟨h.1, h.2.1, h.2.2.1, fun j hj => h.2.2.2 j (by omega)⟩
theorem K33.q {S S2 : HS} (h : K33 S S2) : QT S S2 := ⟨h.1, h.2.1, h.2.2.1, fun j hj => h.2.2.2 j (by omega)⟩
section L2OP
variable {N : Nat} {B : Nat → Nat}
theorem BC.q {S S2 : HS} (h : BC S N B) (g : QS S S2) : BC S2 N B := ⟨LC_of h.1 g.1 g.2.1, by rw [g.2.2.2 1 (by decide)]; exact h.2.1, h.2.2.1, by rw [g.2.2.1 3 (by decide)]; exact h.2.2.2⟩
theorem BM.q {S S2 : HS} (h : BM S N B) (g : QT S S2) : BM S2 N B := ⟨LM_of h.1 g.1 g.2.1, by rw [g.2.2.2 11 (by decide)]; exact h.2.1, h.2.2.1, by rw [g.2.2.1 39 (by decide)]; exact h.2.2.2⟩
theorem TKR.keep {S T S2 T2 : HS} (h : TKR S T N B) (a : ∀ j, 4 ≤ j → j ≤ 7 → hI S2 2 j = hI S 2 j) (b : ∀ j, 12 ≤ j → j ≤ 16 → hI T2 33 j = hI T 33 j) : TKR S2 T2 N B := by
  unfold TKR at h ⊢
  rw [a 4 (by decide) (by decide), a 5 (by decide) (by decide), a 6 (by decide) (by decide), a 7 (by decide) (by decide), b 12 (by decide) (by decide), b 13 (by decide) (by decide), b 14 (by decide) (by decide), b 15 (by decide) (by decide), b 16 (by decide) (by decide)]
  exact h
theorem r_fail {S T : HS} (h : RD S T N B) {k : Nat} (k1 : 1 ≤ k) (k3 : k ≤ 3) : ∃ S2 T2, s_X10_fail S 2 (nI k) = some S2 ∧ s_X12_bad T 33 (nI k) = some T2 ∧ RD S2 T2 N B ∧ QS S S2 ∧ QT T T2 ∧ ¬ hI S2 2 2 = 0 ∧ ¬ hI T2 33 17 = 0 ∧ (∀ j, j ≠ 2 → j ≠ 3 → hI S2 2 j = hI S 2 j) ∧ (∀ j, j ≠ 17 → j ≠ 18 → hI T2 33 j = hI T 33 j) := by
  have hC := h.1.1
  have hM := h.2.1.1
  have f5 : hI S 2 5 = hI T 33 14 := by
    obtain ⟨f, -, a, b, -⟩ := h.2.2.1
    rw [a, b]
  rcases h.f0 with ⟨a1, a2⟩ | ⟨a1, a2, a3⟩
  · refine ⟨wI (wI S 2 2 (nI k)) 2 3 (hI S 2 5), wI (wI T 33 17 (nI k)) 33 18 (hI T 33 14), ?_, ?_, ⟨?_, ?_, ?_, k, k3, ?_, ?_, fun _ => ?_⟩, ?_, ?_, ?_, ?_, ?_, ?_⟩
    · unfold s_X10_fail
      rw [kI_c2 hC, a1, if_pos rfl, kwI_c2 hC, kI_c2 (by exact hC), hI_wI_j (by decide), kwI_c2 (by exact hC)]
    · unfold s_X12_bad
      rw [kI_m hM, a2, if_pos rfl, kwI_m hM, kI_m (by exact hM), hI_wI_j (by decide), kwI_m (by exact hM)]
    · exact ⟨hC, by rw [hI_wI_j (by decide), hI_wI_j (by decide)]; exact h.1.2.1, h.1.2.2.1, by rw [hI_wI_ne (by decide), hI_wI_ne (by decide)]; exact h.1.2.2.2⟩
    · exact ⟨hM, by rw [hI_wI_j (by decide), hI_wI_j (by decide)]; exact h.2.1.2.1, h.2.1.2.2.1, by rw [hI_wI_ne (by decide), hI_wI_ne (by decide)]; exact h.2.1.2.2.2⟩
    · exact h.2.2.1.keep (fun j j4 j7 => by rw [hI_wI_j (by omega), hI_wI_j (by omega)]) (fun j j12 j16 => by rw [hI_wI_j (by omega), hI_wI_j (by omega)])
    · rw [hI_wI_j (by decide), hI_wI_self]
    · rw [hI_wI_j (by decide), hI_wI_self]
    · rw [hI_wI_self, hI_wI_self, f5]
    · exact ⟨rfl, rfl, fun a ha => by rw [hI_wI_ne ha, hI_wI_ne ha], fun j hj => by rw [hI_wI_j (by omega), hI_wI_j (by omega)]⟩
    · exact ⟨rfl, rfl, fun a ha => by rw [hI_wI_ne ha, hI_wI_ne ha], fun j hj => by rw [hI_wI_j (by omega), hI_wI_j (by omega)]⟩
    · rw [hI_wI_j (by decide), hI_wI_self]; exact nI_ne0 (by omega) (by omega)
    · rw [hI_wI_j (by decide), hI_wI_self]; exact nI_ne0 (by omega) (by omega)
    · intro j j2 j3
      rw [hI_wI_j j3, hI_wI_j j2]
    · intro j j2 j3
      rw [hI_wI_j j3, hI_wI_j j2]
  · refine ⟨S, T, ?_, ?_, h, QS.rf S, QT.rf T, a1, a2, fun _ _ _ => rfl, fun _ _ _ => rfl⟩
    · unfold s_X10_fail
      rw [kI_c2 hC, if_neg a1]
    · unfold s_X12_bad
      rw [kI_m hM, if_neg a2]
theorem r_next {S T : HS} (h : RD S T N B) (f0 : hI S 2 2 = 0) (h4 : ¬ hI S 2 4 = 4) : ∃ S2 T2, s_X10_nextToken S 2 = some S2 ∧ s_X12_next T 33 = some T2 ∧ RD S2 T2 N B ∧ QS S S2 ∧ QT T T2 ∧ hI S2 2 2 = 0 := by
  obtain ⟨f, f1, f5, f14, ⟨k1, -⟩ | ⟨p, p1, p6, p12, -⟩⟩ := h.2.2.1
  · exact absurd k1 h4
  · obtain ⟨S2, T2, a1, a2, a3, a4, a5⟩ := next_both h.1 h.2.1 p1 p6 p12
    obtain ⟨φ, φ3, e1, e2, e3⟩ := h.2.2.2
    refine ⟨S2, T2, a1, a2, ⟨h.1.k a3, h.2.1.k a4, a5, φ, φ3, ?_, ?_, fun z => ?_⟩, a3.q, a4.q, ?_⟩
    · rw [a3.2.2.2 2 (by decide)]; exact e1
    · rw [a4.2.2.2 17 (by decide)]; exact e2
    · rw [a3.2.2.2 3 (by decide), a4.2.2.2 18 (by decide)]; exact e3 z
    · rw [a3.2.2.2 2 (by decide)]; exact f0
theorem kcvid (o : Option HS) : kcv o (fun S => some S) = o := by
  cases o with
  | none => rfl
  | some x => rfl
theorem kcid (o : Option (Int32 × HS)) : kc o (fun v S => some (v, S)) = o := by
  cases o with
  | none => rfl
  | some x => rfl
/-- behind a FAULT nothing is taken -/
theorem c_take_no {S : HS} (hC : LC S) (f : ¬ hI S 2 2 = 0) {c : Int32} : ∀ r, s_X10_take S 2 c r = some S := by
  intro r
  have e : ∀ k, s_X10_fail S 2 k = some S := fun k => by
    unfold s_X10_fail
    rw [kI_c2 hC, if_neg f]
  unfold s_X10_take
  rw [kO_c2 hC, kO_c2 hC, kO_c2 hC, kI_c2 hC, kcvid, kcvid, kcvid, e, e, if_neg f]
  split
  · rfl
  · split <;> rfl
theorem m_must_no {T : HS} (hM : LM T) (f : ¬ hI T 33 17 = 0) (c : Int32) : s_X12_must T 33 c = some T := by
  unfold s_X12_must s_X12_must_b9 s_X12_bad
  rw [kO_m hM, kI_m hM, if_neg f, kcv_some, kI_m hM, if_neg f]
  split <;> rfl
theorem c_num_no {S : HS} (hC : LC S) (f : ¬ hI S 2 2 = 0) (lo hi : Int32) : s_X10_takeNumber S 2 lo hi = some (0, S) := by
  unfold s_X10_takeNumber
  rw [kI_c2 hC, if_neg f]
theorem c_stands_no {S : HS} (hC : LC S) (f : ¬ hI S 2 2 = 0) (w : Nat) : s_X10_stands S 2 w = some (0, S) := by
  unfold s_X10_stands
  rw [kI_c2 hC, if_neg f, kzr_0]
theorem c_take1 {S : HS} (hC : LC S) (f : hI S 2 2 = 0) {c : Int32} (hc : ¬ c = 0) : s_X10_take S 2 c 1 = s_X10_nextToken S 2 := by
  unfold s_X10_take
  rw [if_neg hc, if_neg (by decide), kI_c2 hC, f, if_pos rfl, kO_c2 hC, kcvid]
theorem c_take0 {S : HS} (hC : LC S) (r : Int32) : s_X10_take S 2 0 r = s_X10_fail S 2 1 := by
  unfold s_X10_take
  rw [if_pos rfl, kO_c2 hC, kcvid]
theorem m_must1 {T : HS} (hM : LM T) (f : hI T 33 17 = 0) {c : Int32} (hc : ¬ c = 0) : s_X12_must T 33 c = s_X12_next T 33 := by
  unfold s_X12_must s_X12_must_b9
  rw [if_neg hc, kI_m hM, f, if_pos rfl, kO_m hM, kcvid]
theorem m_must0 {T T2 : HS} (hM : LM T) (e : s_X12_bad T 33 1 = some T2) (hM2 : LM T2) (f : ¬ hI T2 33 17 = 0) : s_X12_must T 33 0 = some T2 := by
  unfold s_X12_must s_X12_must_b9
  rw [if_pos rfl, kO_m hM, e, kcv_some, kI_m hM2, if_neg f]
/-- a TOKEN is taken, where it may stand -/
theorem r_take {S T : HS} (h : RD S T N B) {c : Int32} (hc : c = 0 ∨ c = 1) (hs : c = 1 → hI S 2 2 = 0 → ¬ hI S 2 4 = 4) : ∃ S2 T2, s_X10_take S 2 c 1 = some S2 ∧ s_X12_must T 33 c = some T2 ∧ RD S2 T2 N B ∧ QS S S2 ∧ QT T T2 ∧ (hI S2 2 2 = 0 → c = 1 ∧ hI S 2 2 = 0) := by
  have hC := h.1.1
  have hM := h.2.1.1
  rcases hc with rfl | rfl
  · obtain ⟨S2, T2, a1, a2, a3, a4, a5, a6, a7, -⟩ := r_fail h (k := 1) (by decide) (by decide)
    exact ⟨S2, T2, by rw [c_take0 hC]; exact a1, m_must0 hM a2 a3.2.1.1 a7, a3, a4, a5, fun z => absurd z a6⟩
  · rcases h.f0 with ⟨f1, f2⟩ | ⟨f1, f2, -⟩
    · obtain ⟨S2, T2, a1, a2, a3, a4, a5, a6⟩ := r_next h f1 (hs rfl f1)
      exact ⟨S2, T2, by rw [c_take1 hC f1 (by decide)]; exact a1, by rw [m_must1 hM f2 (by decide)]; exact a2, a3, a4, a5, fun _ => ⟨rfl, f1⟩⟩
    · exact ⟨S, T, c_take_no hC f1 1, m_must_no hM f2 1, h, QS.rf S, QT.rf T, fun z => absurd z f1⟩
theorem r_number {S T : HS} (h : RD S T N B) {lo hi lo2 : Int32} (hlo : hI S 2 2 = 0 → lo2 = lo) : ∃ v v2 S2 T2, s_X10_takeNumber S 2 lo hi = some (v, S2) ∧ s_X12_number T 33 lo2 hi = some (v2, T2) ∧ RD S2 T2 N B ∧ QS S S2 ∧ QT T T2 ∧ (hI S2 2 2 = 0 → hI S 2 2 = 0 ∧ v2 = v ∧ lo.toInt ≤ v.toInt ∧ v.toInt ≤ hi.toInt) := by
  have hC := h.1.1
  have hM := h.2.1.1
  rcases h.f0 with ⟨f1, f2⟩ | ⟨f1, f2, f3⟩
  · have e := hlo f1
    subst e
    have f3 : hI T 33 17 ≤ 0 := by rw [f2]; exact i32_le.mpr (Int.le_refl _)
    by_cases k : hI S 2 4 = 2
    · have k2 : hI T 33 13 = 3 ∧ hI S 2 7 = hI T 33 16 := by
        obtain ⟨f, -, -, -, ⟨z, -⟩ | ⟨p, -, -, -, -, ⟨z, -⟩ | ⟨z, -⟩ | ⟨-, z1, z2⟩ | ⟨z, -⟩⟩⟩ := h.2.2.1
        · exact absurd (k.symm.trans z) (by decide)
        · exact absurd (k.symm.trans z) (by decide)
        · exact absurd (k.symm.trans z) (by decide)
        · exact ⟨z1, z2⟩
        · exact absurd (k.symm.trans z) (by decide)
      obtain ⟨t3, tv⟩ := k2
      have mo : s_X12_number T 33 lo2 hi = (if lo2.toInt ≤ (hI S 2 7).toInt ∧ (hI S 2 7).toInt ≤ hi.toInt then s_X12_number_b39 33 T (hI S 2 7) else kcv (s_X12_bad T 33 2) (fun S6 => s_X12_number_b39 33 S6 (hI S 2 7))) := by
        unfold s_X12_number
        rw [kI_m hM, if_pos f3, kI_m hM, ← tv, kI_m hM, t3, if_pos rfl, m_inI _ (a := lo2.toInt) (b := hi.toInt) (i64_of32 _) (i64_of32 _), kc_some, kO_m hM]
        by_cases z : lo2.toInt ≤ (hI S 2 7).toInt ∧ (hI S 2 7).toInt ≤ hi.toInt
        · rw [if_pos z, if_neg (by decide), if_pos z]
        · rw [if_neg z, if_pos rfl, if_neg z]
      have co : s_X10_takeNumber S 2 lo2 hi = (if lo2.toInt ≤ (hI S 2 7).toInt ∧ (hI S 2 7).toInt ≤ hi.toInt then kcv (s_X10_nextToken S 2) (fun S4 => some (hI S 2 7, S4)) else kcv (s_X10_fail S 2 2) (fun S1 => some (hI S 2 7, S1))) := by
        unfold s_X10_takeNumber s_X10_takeNumber_b40
        rw [kI_c2 hC, f1, if_pos rfl, kI_c2 hC, kI_c2 hC, k, if_pos rfl, kO_c2 hC, kO_c2 hC]
        by_cases z : hI S 2 7 < lo2
        · have z1 := i32_lt.mp z
          rw [if_pos z, if_neg (by omega)]
        · have z1 : ¬ _ := fun q => z (i32_lt.mpr q)
          rw [if_neg z]
          by_cases y : hI S 2 7 ≤ hi
          · have y1 := i32_le.mp y
            rw [if_pos y, if_pos (by omega)]
          · have y1 : ¬ _ := fun q => y (i32_le.mpr q)
            rw [if_neg y, if_neg (by omega)]
      by_cases z : lo2.toInt ≤ (hI S 2 7).toInt ∧ (hI S 2 7).toInt ≤ hi.toInt
      · obtain ⟨S2, T2, a1, a2, a3, a4, a5, a6⟩ := r_next h f1 (by rw [k]; decide)
        refine ⟨hI S 2 7, hI S 2 7, S2, T2, ?_, ?_, a3, a4, a5, fun _ => ⟨f1, rfl, z.1, z.2⟩⟩
        · rw [co, if_pos z, a1, kcv_some]
        · rw [mo, if_pos z]
          unfold s_X12_number_b39 s_X12_number_b53
          rw [kI_m hM, t3, if_pos rfl, kO_m hM, m_must1 hM f2 (by decide), a2, kcv_some]
      · obtain ⟨S2, T2, a1, a2, a3, a4, a5, a6, a7, a8, a9⟩ := r_fail h (k := 2) (by decide) (by decide)
        have a1' : s_X10_fail S 2 2 = some S2 := a1
        have a2' : s_X12_bad T 33 2 = some T2 := a2
        refine ⟨hI S 2 7, hI S 2 7, S2, T2, ?_, ?_, a3, a4, a5, fun q => absurd q a6⟩
        · rw [co, if_neg z, a1', kcv_some]
        · rw [mo, if_neg z, a2', kcv_some]
          unfold s_X12_number_b39 s_X12_number_b53
          rw [kI_m a3.2.1.1, a9 13 (by decide) (by decide), t3, if_pos rfl, kO_m a3.2.1.1, m_must_no a3.2.1.1 a7, kcv_some]
    · have k2 : ¬ hI T 33 13 = 3 := by
        obtain ⟨f, -, -, -, ⟨-, z⟩ | ⟨p, -, -, -, -, ⟨-, z⟩ | ⟨-, z, -⟩ | ⟨z, -⟩ | ⟨-, z⟩⟩⟩ := h.2.2.1
        · rw [z]; decide
        · rw [z]; decide
        · rw [z]; decide
        · exact absurd z k
        · rw [z]; decide
      obtain ⟨S2, T2, a1, a2, a3, a4, a5, a6, a7, a8, a9⟩ := r_fail h (k := 1) (by decide) (by decide)
      have a1' : s_X10_fail S 2 1 = some S2 := a1
      have a2' : s_X12_bad T 33 1 = some T2 := a2
      refine ⟨hI S 2 7, hI T 33 16, S2, T2, ?_, ?_, a3, a4, a5, fun q => absurd q a6⟩
      · unfold s_X10_takeNumber
        rw [kI_c2 hC, f1, if_pos rfl, kI_c2 hC, kI_c2 hC, if_neg k, kO_c2 hC, a1', kcv_some]
      · unfold s_X12_number s_X12_number_b39 s_X12_number_b53
        rw [kI_m hM, if_pos f3, kI_m hM, kI_m hM, if_neg k2, kI_m hM, if_neg k2, kO_m hM, m_must0 hM a2' a3.2.1.1 a7, kcv_some]
  · refine ⟨0, 0, S, T, c_num_no hC f1 lo hi, ?_, h, QS.rf S, QT.rf T, fun z => absurd z f1⟩
    unfold s_X12_number
    rw [kI_m hM, if_neg f3]
/-- the sign behind -/
theorem r_end {S T : HS} (h : RD S T N B) : ∃ S2 T2, s_X10_take S 2 (if hI S 2 4 = 3 then 1 else 0) 1 = some S2 ∧ s_X12_mustEnd T 33 = some T2 ∧ RD S2 T2 N B ∧ QS S S2 ∧ QT T T2 ∧ (hI S2 2 2 = 0 → hI S 2 2 = 0) := by
  have hC := h.1.1
  have hM := h.2.1.1
  rcases h.f0 with ⟨f1, f2⟩ | ⟨f1, f2, f3⟩
  · have k2 : hI S 2 4 = 3 ↔ hI T 33 13 = 4 := by
      obtain ⟨f, -, -, -, ⟨z, y⟩ | ⟨p, -, -, -, -, ⟨z, y⟩ | ⟨z, y, -⟩ | ⟨z, y, -⟩ | ⟨z, y⟩⟩⟩ := h.2.2.1
      all_goals (rw [z, y]; decide)
    obtain ⟨S2, T2, a1, a2, a3, a4, a5, a6⟩ := r_take h (c := if hI S 2 4 = 3 then 1 else 0) (by split; exact Or.inr rfl; exact Or.inl rfl) (fun z _ => by
      by_cases y : hI S 2 4 = 3
      · rw [y]; decide
      · rw [if_neg y] at z
        exact absurd z (by decide))
    refine ⟨S2, T2, a1, ?_, a3, a4, a5, fun z => (a6 z).2⟩
    unfold s_X12_mustEnd s_X12_mustEnd_b21
    rw [kI_m hM, f2, if_pos rfl, kI_m hM, kO_m hM, kO_m hM, kcvid, kcvid]
    by_cases y : hI S 2 4 = 3
    · rw [if_pos y] at a2
      rw [if_pos (k2.mp y)]
      exact a2
    · rw [if_neg y] at a2
      rw [if_neg (fun q => y (k2.mpr q))]
      exact a2
  · refine ⟨S, T, c_take_no hC f1 1, ?_, h, QS.rf S, QT.rf T, fun z => absurd z f1⟩
    unfold s_X12_mustEnd
    rw [kI_m hM, if_neg f2]
end L2OP
