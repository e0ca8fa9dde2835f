/-! ===== ask ===== -/
theorem LC_w11 {S : HS} (h : LC S) (v : Option Nat) : LC (wP S 11 2 v) := by
  have e : ∀ c j, c ≠ 11 ∨ j ≠ 2 → hP (wP S 11 2 v) c j = hP S c j := fun c j hh => by rw [hP_wP, if_neg (by omega)]
  exact h.lo (Nat.le_refl _) (fun _ _ => ⟨rfl, rfl⟩) (fun c _ _ _ _ _ => e c 0 (Or.inr (by decide))) (e 4 0 (Or.inl (by decide))) (funext fun j => e 0 j (Or.inl (by decide))) (funext fun j => e 1 j (Or.inl (by decide))) (funext fun j => e 6 j (Or.inl (by decide))) (fun j _ => e 7 j (Or.inl (by decide)))
/-- what both sides ask of: turns, pace, ticks; told -/
def ZZ (S T : HS) (t v n k : Int32) : Prop := LC S ∧ LM T ∧ hP S 11 2 = some 5 ∧ (hI S 5 3 = t ∧ hI S 5 5 = v ∧ hI S 5 8 = n) ∧ (hI T 40 4 = t ∧ hI T 40 5 = v ∧ hI T 40 6 = n) ∧ hI S 11 3 = k ∧ ∃ m : Nat, m ≤ 16 ∧ hI S 11 1 = nI m ∧ hI T 33 31 = nI m ∧ ∀ j, j < m → hI S 12 j = hI T 45 j
/-- what an ask changes -/
def AS (S S2 : HS) : Prop := S2.1 = S.1 ∧ hP S2 = hP S ∧ ∀ a, a ≠ 11 → a ≠ 12 → hI S2 a = hI S a
def AM (T T2 : HS) : Prop := T2.1 = T.1 ∧ hP T2 = hP T ∧ (∀ a, a ≠ 33 → a ≠ 45 → hI T2 a = hI T a) ∧ ∀ j, j ≠ 31 → hI T2 33 j = hI T 33 j
theorem AS.tr {S T U : HS} (h : AS S T) (g : AS T U) : AS S U := ⟨g.1.trans h.1, g.2.1.trans h.2.1, fun a a1 a2 => (g.2.2 a a1 a2).trans (h.2.2 a a1 a2)⟩
theorem AM.tr {S T U : HS} (h : AM S T) (g : AM T U) : AM S U := ⟨g.1.trans h.1, g.2.1.trans h.2.1, fun a a1 a2 => (g.2.2.1 a a1 a2).trans (h.2.2.1 a a1 a2), fun j hj => (g.2.2.2 j hj).trans (h.2.2.2 j hj)⟩
theorem AS.rf (S : HS) : AS S S := ⟨rfl, rfl, fun _ _ _ => rfl⟩
theorem AM.rf (S : HS) : AM S S := ⟨rfl, rfl, fun _ _ _ => rfl, fun _ _ => rfl⟩
/-- both do it, with the same answer -/
def Z2 (S T : HS) (t v n k : Int32) (P Q : Option (Int32 × HS)) (r : Int32) : Prop := ∃ S2 T2, P = some (r, S2) ∧ Q = some (r, T2) ∧ ZZ S2 T2 t v n k ∧ AS S S2 ∧ AM T T2
section L2Z
variable {S T : HS} {t v n k : Int32}
theorem z_leave (h : ZZ S T t v n k) (b : Int32) : ∃ S2 T2, s_X0_leave S 11 b = some S2 ∧ s_X12_began T 33 b = some T2 ∧ ZZ S2 T2 t v n k ∧ AS S S2 ∧ AM T T2 := by
  obtain ⟨hC, hM, h2, h3, h4, h5, m, m1, m2, m3, m4⟩ := id h
  have hl : hL S 12 = 16 := hC.l (by decide) rfl
  unfold s_X0_leave s_X12_began
  rw [kI_c11 hC, kP_c11_0 hC, kLen_some (a := 12) (kd := 14) (hC.lt (by decide)) (hC.k (by decide) rfl), hl, m2, kI_m hM, m3]
  by_cases c : 16 ≤ m
  · have e : m = 16 := by omega
    subst e
    rw [if_pos (show nI 16 ≤ nI 16 from (nI_le_iff (by omega) (by omega)).mpr (by omega)), if_pos (show (16 : Int32) ≤ nI 16 from (nI_le_iff (a := 16) (by omega) (by omega)).mpr (by omega))]
    exact ⟨S, T, rfl, rfl, h, AS.rf S, AM.rf T⟩
  · have nle : ¬ nI 16 ≤ nI m := fun z => by have := (nI_le_iff (by omega) (by omega)).mp z; omega
    have nle2 : ¬ (16 : Int32) ≤ nI m := nle
    rw [if_neg nle, if_neg nle2, kP_c11_0 hC, kI_c11 hC, m2, kwI_c11 hC, kwA_c12 (by exact hC) rfl (by omega), kP_m30 hM, kI_m hM, m3, kwA_m45 hM rfl (by omega), kI_m (by exact hM), kwI_m (by exact hM)]
    have e1 : hI (wI T 45 m b) 33 31 = nI m := by rw [hI_wI_ne (by decide)]; exact m3
    rw [e1]
    refine ⟨_, _, rfl, rfl, ⟨hC, hM, h2, ?_, ?_, ?_, m + 1, by omega, ?_, ?_, ?_⟩, ⟨rfl, rfl, ?_⟩, rfl, rfl, ?_, ?_⟩
    · rw [hI_wI_ne (by decide), hI_wI_ne (by decide)]; exact h3
    · rw [hI_wI_ne (by decide), hI_wI_ne (by decide)]; exact h4
    · rw [hI_wI_ne (by decide), hI_wI_j (by decide)]; exact h5
    · rw [hI_wI_ne (by decide), hI_wI_self, nI_1]
    · rw [hI_wI_self, nI_1]
    · intro j hj
      rw [hI_wI_ne (show (45 : Nat) ≠ 33 by decide)]
      by_cases e : j = m
      · subst e
        rw [hI_wI_self, hI_wI_self]
      · rw [hI_wI_j e, hI_wI_j e, hI_wI_ne (by decide)]
        exact m4 j (by omega)
    · intro a a1 a2
      rw [hI_wI_ne a2, hI_wI_ne a1]
    · intro a a1 a2
      rw [hI_wI_ne a1, hI_wI_ne a2]
    · intro j hj
      rw [hI_wI_j hj, hI_wI_ne (by decide)]
theorem z_lentSize (h : ZZ S T t v n k) : Z2 S T t v n k (s_X0_lentSize S 11) (s_X12_plainSize T 33) (fsz t) := by
  obtain ⟨S2, T2, a1, a2, a3, a4, a5⟩ := z_leave h 10
  refine ⟨S2, T2, ?_, ?_, a3, a4, a5⟩
  · unfold s_X0_lentSize
    rw [kO_c11 h.1, a1, kcv_some, kP_c11 a3.1, a3.2.2.1, kI_c5 a3.1, a3.2.2.2.1.1, fabs_sz]
  · unfold s_X12_plainSize
    rw [kO_m h.2.1, a2, kcv_some, nw40 a3.2.1 4 (by decide) (i := 4) rfl, a3.2.2.2.2.1.1, m_sz]
theorem z_lentMark (h : ZZ S T t v n k) : Z2 S T t v n k (s_X0_lentMark S 11) (s_X12_plainMark T 33) n := by
  obtain ⟨S2, T2, a1, a2, a3, a4, a5⟩ := z_leave h 20
  refine ⟨S2, T2, ?_, ?_, a3, a4, a5⟩
  · unfold s_X0_lentMark
    rw [kO_c11 h.1, a1, kcv_some, kP_c11 a3.1, a3.2.2.1, kI_c5 a3.1, a3.2.2.2.1.2.2]
  · unfold s_X12_plainMark
    rw [kO_m h.2.1, a2, kcv_some, nw40 a3.2.1 6 (by decide) (i := 6) rfl, a3.2.2.2.2.1.2.2]
theorem z_deadSize (h : ZZ S T t v n k) : Z2 S T t v n k (s_X0_deadSize S 11) (s_X12_deadSize T 33) (-(fsz t)) := by
  obtain ⟨S2, T2, a1, a2, a3, a4, a5⟩ := z_leave h 14
  obtain ⟨S3, T3, b1, b2, b3, b4, b5⟩ := z_lentSize a3
  refine ⟨S3, T3, ?_, ?_, b3, a4.tr b4, a5.tr b5⟩
  · unfold s_X0_deadSize
    rw [kO_c11 h.1, a1, kcv_some, kO_c11 a3.1, b1, kc_some]
  · unfold s_X12_deadSize
    rw [kO_m h.2.1, a2, kcv_some, kO_m a3.2.1, b2, kc_some]
theorem z_deadMark3 (h : ZZ S T t v n k) (hk : k = 3) : Z2 S T t v n k (s_X0_deadMark S 11) (s_X12_deadMark T 33 k) (n + -(fsz t)) := by
  obtain ⟨S2, T2, a1, a2, a3, a4, a5⟩ := z_leave h 23
  obtain ⟨S3, T3, b1, b2, b3, b4, b5⟩ := z_lentMark a3
  obtain ⟨S4, T4, c1, c2, c3, c4, c5⟩ := z_deadSize b3
  refine ⟨S4, T4, ?_, ?_, c3, (a4.tr b4).tr c4, (a5.tr b5).tr c5⟩
  · unfold s_X0_deadMark
    rw [kO_c11 h.1, a1, kcv_some, kO_c11 a3.1, b1, kc_some, kO_c11 b3.1, c1, kc_some]
  · unfold s_X12_deadMark s_X12_deadMark_b11
    rw [if_neg (by rw [hk]; decide), kO_m h.2.1, a2, kcv_some, kO_m a3.2.1, b2, kc_some, kO_m b3.2.1, c2, kc_some, if_neg (by rw [hk]; decide)]
theorem z_deadMark5 (h : ZZ S T t v n k) (hk : k = 5) : Z2 S T t v n k (kO S (some 11) 0 (fun a21 => kcv (s_X0_leave S a21 24) (fun S20 => kO S20 (some 11) 0 (fun a24 => kc (s_X0_deadMark S20 a24) (fun v23 S22 => some (-v23, S22)))))) (s_X12_deadMark T 33 k) (-(n + -(fsz t))) := by
  obtain ⟨S1, T1, y1, y2, y3, y4, y5⟩ := z_leave h 24
  obtain ⟨S2, T2, a1, a2, a3, a4, a5⟩ := z_leave y3 23
  obtain ⟨S3, T3, b1, b2, b3, b4, b5⟩ := z_lentMark a3
  obtain ⟨S4, T4, c1, c2, c3, c4, c5⟩ := z_deadSize b3
  refine ⟨S4, T4, ?_, ?_, c3, (y4.tr (a4.tr b4)).tr c4, (y5.tr (a5.tr b5)).tr c5⟩
  · have e : s_X0_deadMark S1 11 = some (n + -(fsz t), S4) := by
      unfold s_X0_deadMark
      rw [kO_c11 y3.1, a1, kcv_some, kO_c11 a3.1, b1, kc_some, kO_c11 b3.1, c1, kc_some]
    rw [kO_c11 h.1, y1, kcv_some, kO_c11 y3.1, e, kc_some]
  · unfold s_X12_deadMark s_X12_deadMark_b11
    rw [if_pos hk, kO_m h.2.1, y2, kcv_some, kO_m y3.2.1, a2, kcv_some, kO_m a3.2.1, b2, kc_some, kO_m b3.2.1, c2, kc_some, if_pos hk]
/-- MARK of one that isn't DEAD -/
theorem z_windMark (h : ZZ S T t v n k) (hk : k = 1 ∨ k = 2 ∨ k = 4) : ∃ r, Z2 S T t v n k (s_X0_mark S 11) (s_X12_windMark T 33 k) r := by
  have hk11 := h.2.2.2.2.2.1
  unfold s_X0_mark s_X12_windMark
  rw [kI_c11 h.1, hk11]
  rcases hk with e | e | e
  · obtain ⟨S2, T2, a1, a2, a3, a4, a5⟩ := z_leave h 21
    obtain ⟨S3, T3, b1, b2, b3, b4, b5⟩ := z_lentMark a3
    refine ⟨n + fsz v, S3, T3, ?_, ?_, b3, a4.tr b4, a5.tr b5⟩
    · rw [if_pos e, kO_c11 h.1, a1, kcv_some, kO_c11 a3.1, b1, kc_some, kP_c11 b3.1, b3.2.2.1, kI_c5 b3.1, b3.2.2.2.1.2.1, fabs_sz]
    · rw [if_neg (by rw [e]; decide), if_pos e, kO_m h.2.1, a2, kcv_some, kO_m a3.2.1, b2, kc_some, nw40 b3.2.1 5 (by decide) (i := 5) rfl, b3.2.2.2.2.1.2.1, m_sz]
  · obtain ⟨S3, T3, b1, b2, b3, b4, b5⟩ := z_lentMark h
    refine ⟨n, S3, T3, ?_, ?_, b3, b4, b5⟩
    · rw [if_neg (by rw [e]; decide), if_pos e, kO_c11 h.1, b1, kc_some]
    · rw [if_neg (by rw [e]; decide), if_neg (by rw [e]; decide), kO_m h.2.1, b2, kc_some]
  · obtain ⟨S2, T2, a1, a2, a3, a4, a5⟩ := z_leave h 22
    obtain ⟨S3, T3, b1, b2, b3, b4, b5⟩ := z_lentMark a3
    refine ⟨n + 1000, S3, T3, ?_, ?_, b3, a4.tr b4, a5.tr b5⟩
    · rw [if_neg (by rw [e]; decide), if_neg (by rw [e]; decide), if_neg (by rw [e]; decide), if_pos e, kO_c11 h.1, a1, kcv_some, kO_c11 a3.1, b1, kc_some]
    · rw [if_pos e, kO_m h.2.1, a2, kcv_some, kO_m a3.2.1, b2, kc_some]
theorem z_windSize (h : ZZ S T t v n k) (hk : k = 1 ∨ k = 2 ∨ k = 4) : ∃ r, Z2 S T t v n k (s_X0_size S 11) (s_X12_windSize T 33 k) r := by
  have hk11 := h.2.2.2.2.2.1
  unfold s_X0_size s_X12_windSize s_X12_windSize_b11 s_X12_windSize_b24
  rw [kI_c11 h.1, hk11]
  rcases hk with e | e | e
  · obtain ⟨S2, T2, a1, a2, a3, a4, a5⟩ := z_leave h 11
    obtain ⟨S3, T3, b1, b2, b3, b4, b5⟩ := z_lentSize a3
    obtain ⟨r, S4, T4, c1, c2, c3, c4, c5⟩ := z_windMark b3 (Or.inl e)
    refine ⟨fsz t + r, S4, T4, ?_, ?_, c3, (a4.tr b4).tr c4, (a5.tr b5).tr c5⟩
    · rw [if_pos e, kO_c11 h.1, a1, kcv_some, kO_c11 a3.1, b1, kc_some, kO_c11 b3.1, c1, kc_some]
    · rw [if_neg (by rw [e]; decide), if_pos e, kO_m h.2.1, a2, kcv_some, kO_m a3.2.1, b2, kc_some, kO_m b3.2.1, c2, kc_some, if_pos e]
  · obtain ⟨S2, T2, a1, a2, a3, a4, a5⟩ := z_leave h 12
    obtain ⟨S3, T3, b1, b2, b3, b4, b5⟩ := z_lentSize a3
    obtain ⟨r, S4, T4, c1, c2, c3, c4, c5⟩ := z_windMark b3 (Or.inr (Or.inl e))
    refine ⟨fsz t - r, S4, T4, ?_, ?_, c3, (a4.tr b4).tr c4, (a5.tr b5).tr c5⟩
    · rw [if_neg (by rw [e]; decide), if_pos e, kO_c11 h.1]
      unfold s_X0_windingSize
      rw [kO_c11 h.1, a1, kcv_some, kO_c11 a3.1, b1, kc_some, kO_c11 b3.1, c1, kc_some, kc_some]
    · rw [if_neg (by rw [e]; decide), if_neg (by rw [e]; decide), kO_m h.2.1, a2, kcv_some, kO_m a3.2.1, b2, kc_some, kO_m b3.2.1, c2, kc_some, if_neg (by rw [e]; decide), if_neg (by rw [e]; decide)]
  · obtain ⟨S1, T1, y1, y2, y3, y4, y5⟩ := z_leave h 13
    obtain ⟨S2, T2, a1, a2, a3, a4, a5⟩ := z_leave y3 12
    obtain ⟨S3, T3, b1, b2, b3, b4, b5⟩ := z_lentSize a3
    obtain ⟨r, S4, T4, c1, c2, c3, c4, c5⟩ := z_windMark b3 (Or.inr (Or.inr e))
    refine ⟨2 * (fsz t - r), S4, T4, ?_, ?_, c3, (y4.tr (a4.tr b4)).tr c4, (y5.tr (a5.tr b5)).tr c5⟩
    · rw [if_neg (by rw [e]; decide), if_neg (by rw [e]; decide), if_neg (by rw [e]; decide), if_pos e, kO_c11 h.1, y1, kcv_some, kO_c11 y3.1]
      unfold s_X0_windingSize
      rw [kO_c11 y3.1, a1, kcv_some, kO_c11 a3.1, b1, kc_some, kO_c11 b3.1, c1, kc_some, kc_some]
    · rw [if_pos e, kO_m h.2.1, y2, kcv_some, if_neg (by rw [e]; decide), kO_m y3.2.1, a2, kcv_some, kO_m a3.2.1, b2, kc_some, kO_m b3.2.1, c2, kc_some, if_neg (by rw [e]; decide), if_pos e]
/-- an ask, by what it is told as -/
def askM (T : HS) (l1 k : Int32) : Option (Int32 × HS) := if iO k 3 = 0 then (if l1 = 0 then s_X12_windSize T 33 k else s_X12_windMark T 33 k) else (if l1 = 0 then s_X12_deadSize T 33 else s_X12_deadMark T 33 k)
def askC (S : HS) (l1 : Int32) : Option (Int32 × HS) := if l1 = 0 then s_X0_size S 11 else s_X0_mark S 11
theorem z_ask (h : ZZ S T t v n k) (hk : k = 1 ∨ k = 2 ∨ k = 3 ∨ k = 4 ∨ k = 5) (l1 : Int32) : ∃ r, Z2 S T t v n k (askC S l1) (askM T l1 k) r := by
  have hk11 := h.2.2.2.2.2.1
  unfold askC askM
  by_cases z : l1 = 0
  · rw [if_pos z, if_pos z, if_pos z]
    rcases hk with e | e | e | e | e
    · rw [if_pos (by rw [e]; decide)]
      exact z_windSize h (Or.inl e)
    · rw [if_pos (by rw [e]; decide)]
      exact z_windSize h (Or.inr (Or.inl e))
    · rw [if_neg (by rw [e]; decide)]
      obtain ⟨S2, T2, a1, a2, a3, a4, a5⟩ := z_deadSize h
      refine ⟨_, S2, T2, ?_, a2, a3, a4, a5⟩
      unfold s_X0_size
      rw [kI_c11 h.1, hk11, if_neg (by rw [e]; decide), if_neg (by rw [e]; decide), if_pos e, kO_c11 h.1, a1, kc_some]
    · rw [if_pos (by rw [e]; decide)]
      exact z_windSize h (Or.inr (Or.inr e))
    · rw [if_neg (by rw [e]; decide)]
      obtain ⟨S2, T2, a1, a2, a3, a4, a5⟩ := z_deadSize h
      refine ⟨_, S2, T2, ?_, a2, a3, a4, a5⟩
      unfold s_X0_size
      rw [kI_c11 h.1, hk11, if_neg (by rw [e]; decide), if_neg (by rw [e]; decide), if_neg (by rw [e]; decide), if_neg (by rw [e]; decide), kO_c11 h.1, a1, kc_some]
  · rw [if_neg z, if_neg z, if_neg z]
    rcases hk with e | e | e | e | e
    · rw [if_pos (by rw [e]; decide)]
      exact z_windMark h (Or.inl e)
    · rw [if_pos (by rw [e]; decide)]
      exact z_windMark h (Or.inr (Or.inl e))
    · rw [if_neg (by rw [e]; decide)]
      obtain ⟨S2, T2, a1, a2, a3, a4, a5⟩ := z_deadMark3 h e
      refine ⟨_, S2, T2, ?_, a2, a3, a4, a5⟩
      unfold s_X0_mark
      rw [kI_c11 h.1, hk11, if_neg (by rw [e]; decide), if_neg (by rw [e]; decide), if_pos e, kO_c11 h.1, a1, kc_some]
    · rw [if_pos (by rw [e]; decide)]
      exact z_windMark h (Or.inr (Or.inr e))
    · rw [if_neg (by rw [e]; decide)]
      obtain ⟨S2, T2, a1, a2, a3, a4, a5⟩ := z_deadMark5 h e
      refine ⟨_, S2, T2, ?_, a2, a3, a4, a5⟩
      unfold s_X0_mark
      rw [kI_c11 h.1, hk11, if_neg (by rw [e]; decide), if_neg (by rw [e]; decide), if_neg (by rw [e]; decide), if_neg (by rw [e]; decide), if_pos e]
      exact a1
end L2Z
theorem c_about {S : HS} {c q hd d k g : Nat} (h : GW S S c q hd d k g) : s_X0_about S 11 (some 5) = some (wI (wI (wP S 11 2 (some 5)) 11 3 (tK (hI S 5 3) (hI S 5 5) (hI S 5 11) (hI S q 1))) 11 1 0) := by
  have hC := h.1
  have hW : LC (wP S 11 2 (some 5)) := LC_w11 hC _
  have hw : GW (wP S 11 2 (some 5)) S c q hd d k g := by
    obtain ⟨-, hM, ⟨p0, p1, p2⟩, ⟨x1, x2, x3⟩, n, dk, m, c37, q37, hD, hQ, hH, rq⟩ := h
    have e : ∀ a j, a ≠ 11 → hP (wP S 11 2 (some 5)) a j = hP S a j := fun a j ha => by rw [hP_wP, if_neg (fun z => ha z.1)]
    refine ⟨hW, hM, ⟨by rw [e 5 0 (by decide)]; exact p0, by rw [e 5 1 (by decide)]; exact p1, by rw [e 5 2 (by decide)]; exact p2⟩, ⟨x1, x2, x3⟩, n, dk, m, c37, q37, hD, hQ, ?_, rq⟩
    obtain ⟨h1, h2, h3, ra, w, h4, h5, h6, h7, h8, h9, h10, h11⟩ := hH
    refine ⟨h1, h2, h3, ra, w, h4, h5, h6, by rw [e hd 0 (by omega)]; exact h7, h8, h9, h10, ?_⟩
    intro u hu
    obtain ⟨z, F, z1, z2, z3⟩ := h11 u hu
    by_cases ea : ra = 11
    · exact absurd (hC.k (c := 11) (k := 0) (by decide) rfl) (by rw [← ea, h9]; decide)
    · exact ⟨z, F, by rw [e ra u ea]; exact z1, z2, z3⟩
  unfold s_X0_about
  rw [kwP_c11 hC, hw.o5, c_toldAs hw, kc_some, kwI_c11 (by exact hW), kwI_c11 (by exact hW)]
  rfl
theorem ok_ask {S : HS} (h : RR S) (l1 : Int32) : CK (fun S => s_X11_ask S 0 l1) (fun S => s_X12_ask S 33 l1) S := by
  have hC := h.2.1
  have hM := h.1
  have hX : LM (wI S 33 0 0) := hM
  have t0 : (0 : Int32).toInt = 0 := rfl
  have t1 : (1 : Int32).toInt = 1 := rfl
  have e40 : hI (wI S 33 0 0) 40 = hI S 40 := hI_wI_ne (by decide)
  show ∃ r S1 S2, s_X11_ask S 0 l1 = some (r, S1) ∧ s_X12_ask S1 33 l1 = some (r, S2) ∧ RR S2
  unfold s_X11_ask
  rw [kP_c0_2 hC, kP_c4_0 hC, kP_c5 hC]
  rcases h.run with ⟨n1, n2⟩ | ⟨b, c, q, hd, d, k, g, hb, h40, hD, hQ, hw⟩
  · rw [n1, if_pos rfl]
    refine ⟨_, S, wI S 33 0 0, rfl, ?_, h.w0⟩
    unfold s_X12_ask
    rw [kwI_m hM, nw40 hX 0 (by decide) (i := 0) rfl, e40, n2, if_pos rfl]
  · rw [hw.2.2.1.2.2, if_neg (by simp)]
    have bad : ¬ (0 ≤ l1.toInt ∧ l1.toInt ≤ 1) → ∃ r S1 S2, (some (-1000001, S) : Option (Int32 × HS)) = some (r, S1) ∧ s_X12_ask S1 33 l1 = some (r, S2) ∧ RR S2 := by
      intro hb
      refine ⟨_, S, wI S 33 0 0, rfl, ?_, h.w0⟩
      unfold s_X12_ask
      rw [kwI_m hM, nw40 hX 0 (by decide) (i := 0) rfl, e40, h40, if_neg (by decide), m_inI _ (a := 0) (b := 1) rfl rfl, kc_some, if_neg hb, if_pos rfl]
    by_cases c1 : l1 < 0
    · have d1 := i32_lt.mp c1
      rw [if_pos c1]
      exact bad (by omega)
    · have d1 : ¬ _ := fun z => c1 (i32_lt.mpr z)
      rw [if_neg c1]
      by_cases c2 : l1 ≤ 1
      · have d2 := i32_le.mp c2
        have good : 0 ≤ l1.toInt ∧ l1.toInt ≤ 1 := by omega
        rw [if_pos c2, kP_c0_5 hC, kP_c0_2 hC, kP_c4_0 hC, kO_c11 hC, c_about hw, kcv_some]
        have hkr := tK_rng (hI S 5 3) (hI S 5 5) (hI S 5 11) (hI S q 1)
        generalize hk : tK (hI S 5 3) (hI S 5 5) (hI S 5 11) (hI S q 1) = kd at hkr
        have hA : LC (wI (wI (wP S 11 2 (some 5)) 11 3 kd) 11 1 0) := LC_w11 hC _
        have aI : ∀ a, a ≠ 11 → hI (wI (wI (wP S 11 2 (some 5)) 11 3 kd) 11 1 0) a = hI S a := fun a ha => by rw [hI_wI_ne ha, hI_wI_ne ha]; rfl
        have a3 : hI (wI (wI (wP S 11 2 (some 5)) 11 3 kd) 11 1 0) 11 3 = kd := by rw [hI_wI_j (by decide), hI_wI_self]
        have a1 : hI (wI (wI (wP S 11 2 (some 5)) 11 3 kd) 11 1 0) 11 1 = 0 := hI_wI_self _ _ _ _
        have aP : ∀ a j, hP (wI (wI (wP S 11 2 (some 5)) 11 3 kd) 11 1 0) a j = if a = 11 ∧ j = 2 then some 5 else hP S a j := fun a j => by
          show hP (wP S 11 2 (some 5)) a j = _
          rw [hP_wP]
        have aH : (wI (wI (wP S 11 2 (some 5)) 11 3 kd) 11 1 0).1 = S.1 := rfl
        generalize wI (wI (wP S 11 2 (some 5)) 11 3 kd) 11 1 0 = A at hA aI a3 a1 aP aH
        have hs : (if l1 = 0 then kP A (some 0) 11 5 (fun v13 => kO A v13 0 (fun a16 => kc (s_X0_size A a16) (fun v15 S14 => some (v15, S14)))) else kP A (some 0) 11 5 (fun v9 => kO A v9 0 (fun a12 => kc (s_X0_mark A a12) (fun v11 S10 => some (v11, S10))))) = askC A l1 := by
          have ke : ∀ o : Option (Int32 × HS), kc o (fun v S => some (v, S)) = o := fun o => by
            cases o with
            | none => rfl
            | some x => rfl
          unfold askC
          by_cases z : l1 = 0
          · rw [if_pos z, if_pos z, kP_c0_5 hA, kO_c11 hA, ke]
          · rw [if_neg z, if_neg z, kP_c0_5 hA, kO_c11 hA, ke]
        have rq := hw.rq
        -- the reference, from any heap that the class may leave
        have mo : ∀ X, LM X → hI X 40 = hI S 40 → hI X 37 = hI S 37 → hP X = hP A → X.1 = S.1 → s_X12_ask X 33 l1 = askM (wI (wI X 33 0 0) 33 31 0) l1 kd := by
          intro X hX e4 e3 ep e1
          have hV2 : LM (wI X 33 0 0) := hX
          have hV3 : LM (wI (wI X 33 0 0) 33 31 0) := hX
          have f40 : hI (wI X 33 0 0) 40 = hI S 40 := by rw [hI_wI_ne (by decide)]; exact e4
          have g40 : hI (wI (wI X 33 0 0) 33 31 0) 40 = hI S 40 := by rw [hI_wI_ne (by decide)]; exact f40
          have g37 : hI (wI (wI X 33 0 0) 33 31 0) 37 = hI S 37 := by rw [hI_wI_ne (by decide), hI_wI_ne (by decide)]; exact e3
          have hw3 : GW S (wI (wI X 33 0 0) 33 31 0) c q hd d k g := by
            obtain ⟨z1, z2, z3, z4, z5, z6, z7, z8, z9, z10, z11, z12, z13⟩ := hw
            exact ⟨z1, hV3, z3, z4, z5, z6, by rw [g40]; exact z7, by rw [g37]; exact z8, by rw [g37]; exact z9, z10, z11, by rw [g37]; exact z12, by rw [g40]; exact z13⟩
          have mk : s_X12_kindNow (wI (wI X 33 0 0) 33 31 0) 33 = some (kd, wI (wI X 33 0 0) 33 31 0) := by rw [m_kindNow hw3, hk]
          have ke : ∀ o : Option (Int32 × HS), kc o (fun v S => some (v, S)) = o := fun o => by
            cases o with
            | none => rfl
            | some x => rfl
          unfold s_X12_ask askM
          rw [kwI_m hX, nw40 hV2 0 (by decide) (i := 0) rfl, f40, h40, if_neg (by decide), m_inI _ (a := 0) (b := 1) rfl rfl, kc_some, if_pos good, if_neg (by decide), kwI_m hV2, kO_m hV3, mk, kc_some, m_isOf, kc_some, kO_m hV3, ke, kO_m hV3, ke, kO_m hV3, ke, kO_m hV3, ke]
        have zz : ∀ X, LM X → hI X 40 = hI S 40 → ZZ A (wI (wI X 33 0 0) 33 31 0) (hI S 5 3) (hI S 5 5) (hI S 5 8) kd := by
          intro X hX e4
          refine ⟨hA, hX, by rw [aP, if_pos ⟨rfl, rfl⟩], by rw [aI 5 (by decide)]; exact ⟨rfl, rfl, rfl⟩, ?_, a3, 0, by decide, a1, hI_wI_self _ _ _ _, fun j hj => absurd hj (by omega)⟩
          rw [hI_wI_ne (by decide), hI_wI_ne (by decide), e4]
          exact ⟨rq.1, rq.2.1, rq.2.2.1⟩
        obtain ⟨r, S1, T1, y1, -, y3, y4, -⟩ := z_ask (zz S hM rfl) hkr l1
        have s40 : hI S1 40 = hI S 40 := by rw [y4.2.2 40 (by decide) (by decide), aI 40 (by decide)]
        have s37 : hI S1 37 = hI S 37 := by rw [y4.2.2 37 (by decide) (by decide), aI 37 (by decide)]
        have sH : S1.1 = S.1 := y4.1.trans aH
        have hM1 : LM S1 := by
          refine hM.to (congrArg (fun x => x.1) sH) (fun c => congrArg (fun x => (x.2 c).1) sH) (fun c => congrArg (fun x => (x.2 c).2) sH) (funext fun j => ?_)
          rw [y4.2.1, aP, if_neg (fun z => by have := z.1; omega)]
        obtain ⟨r', S1', T2, u1, u2, u3, u4, u5⟩ := z_ask (zz S1 hM1 s40) hkr l1
        obtain ⟨x1, x2⟩ := Prod.mk.inj (det y1 u1)
        subst x1
        subst x2
        refine ⟨r, S1, T2, hs.trans y1, ?_, ?_⟩
        · rw [mo S1 hM1 s40 s37 y4.2.1 sH]
          exact u2
        · have t1' : T2.1 = S.1 := u5.1.trans sH
          have tP : ∀ a j, hP T2 a j = if a = 11 ∧ j = 2 then some 5 else hP S a j := fun a j => by
            rw [u5.2.1]
            show hP S1 a j = _
            rw [y4.2.1, aP]
          have tI : ∀ a, a ≠ 11 → a ≠ 12 → a ≠ 33 → a ≠ 45 → hI T2 a = hI S a := fun a b1 b2 b3 b4 => by
            rw [u5.2.2.1 a b3 b4, hI_wI_ne b3, hI_wI_ne b3, y4.2.2 a b1 b2, aI a b1]
          have t33 : ∀ j, j ≠ 0 → j ≠ 31 → hI T2 33 j = hI S 33 j := fun j j0 j31 => by
            rw [u5.2.2.2 j j31, hI_wI_j j31, hI_wI_j j0, y4.2.2 33 (by decide) (by decide), aI 33 (by decide)]
          have t11 : hI T2 11 = hI S1 11 := by rw [u5.2.2.1 11 (by decide) (by decide), hI_wI_ne (by decide), hI_wI_ne (by decide)]
          have t12 : hI T2 12 = hI S1 12 := by rw [u5.2.2.1 12 (by decide) (by decide), hI_wI_ne (by decide), hI_wI_ne (by decide)]
          have n2 : hN T2 = hN S := congrArg (fun x => x.1) t1'
          have k2 : ∀ c, hK T2 c = hK S c := fun c => congrArg (fun x => (x.2 c).1) t1'
          have l2 : ∀ c, hL T2 c = hL S c := fun c => congrArg (fun x => (x.2 c).2) t1'
          have pT : ∀ a, a ≠ 11 → hP T2 a = hP S a := fun a a1 => funext fun j => by rw [tP, if_neg (fun z => a1 z.1)]
          have hag : AG S T2 := ⟨Nat.le_of_eq n2.symm, fun c hc _ => ⟨k2 c, l2 c, tI c (by omega) (by omega) (by omega) (by omega), pT c (by omega)⟩⟩
          refine ⟨hM.to n2 k2 l2 (pT 33 (by decide)), hC.lo (Nat.le_of_eq n2.symm) (fun c _ => ⟨k2 c, l2 c⟩) (fun c _ _ _ _ _ => by rw [tP, if_neg (fun z => by have := z.2; omega)]) (by rw [tP, if_neg (by decide)]) (pT 0 (by decide)) (pT 1 (by decide)) (pT 6 (by decide)) (fun j _ => by rw [pT 7 (by decide)]), ?_, ?_, ⟨?_, ?_, ?_⟩, ?_, ?_, ?_⟩
          · intro r hr
            exact (h.rs hr).keep (tI _ (by omega) (by omega) (by omega) (by omega)) (tI _ (by omega) (by omega) (by omega) (by omega)) (by rw [tI 34 (by decide) (by decide) (by decide) (by decide)]) (by rw [tI 35 (by decide) (by decide) (by decide) (by decide)]) (fun j _ => by rw [tI 36 (by decide) (by decide) (by decide) (by decide)])
          · rw [tI 2 (by decide) (by decide) (by decide) (by decide), tI 3 (by decide) (by decide) (by decide) (by decide), tI 39 (by decide) (by decide) (by decide) (by decide), t33 9 (by decide) (by decide)]
            exact h.2.2.2.1
          · rw [tI 0 (by decide) (by decide) (by decide) (by decide), t33 10 (by decide) (by decide)]; exact h.2.2.2.2.1.1
          · rw [tI 0 (by decide) (by decide) (by decide) (by decide), t33 1 (by decide) (by decide)]; exact h.2.2.2.2.1.2.1
          · rw [tI 0 (by decide) (by decide) (by decide) (by decide), t33 25 (by decide) (by decide)]; exact h.2.2.2.2.1.2.2
          · rw [pT 4 (by decide), pT 5 (by decide), tI 5 (by decide) (by decide) (by decide) (by decide), t33 7 (by decide) (by decide), tI 37 (by decide) (by decide) (by decide) (by decide), tI 40 (by decide) (by decide) (by decide) (by decide)]
            exact h.2.2.2.2.2.1.keep hag
          · intro k' hk'
            rw [pT (29 + 2 * k') (by omega), pT (30 + 2 * k') (by omega), tI (30 + 2 * k') (by omega) (by omega) (by omega) (by omega), tI 42 (by decide) (by decide) (by decide) (by decide), tI 43 (by decide) (by decide) (by decide) (by decide), tI 44 (by decide) (by decide) (by decide) (by decide), t33 7 (by decide) (by decide)]
            exact ⟨(h.2.2.2.2.2.2.1 k' hk').1.keep hag, (h.2.2.2.2.2.2.1 k' hk').2⟩
          · obtain ⟨-, -, -, -, -, -, m, m1, m2, m3, m4⟩ := u3
            exact ⟨m, m1, by rw [t11]; exact m2, m3, fun j hj => by rw [t12]; exact m4 j hj⟩
      · have d2 : ¬ _ := fun z => c2 (i32_le.mpr z)
        rw [if_neg c2]
        exact bad (by omega)
