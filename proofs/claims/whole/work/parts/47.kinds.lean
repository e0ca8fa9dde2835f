/-! ===== kind, as, trace, count ===== -/
def tB (t v : Int32) : Prop := (v < 0 ∧ 0 < t) ∨ (0 < v ∧ t < 0)
noncomputable def tK (t v sn tw : Int32) : Int32 := by
  classical
  exact if sn = 0 then (if v = 0 then 3 else if tB t v then 1 else if fsz t ≤ tw then 2 else 4) else 5
theorem tK_rng (t v sn tw : Int32) : tK t v sn tw = 1 ∨ tK t v sn tw = 2 ∨ tK t v sn tw = 3 ∨ tK t v sn tw = 4 ∨ tK t v sn tw = 5 := by
  unfold tK
  split
  · split
    · exact Or.inr (Or.inr (Or.inl rfl))
    · split
      · exact Or.inl rfl
      · split
        · exact Or.inr (Or.inl rfl)
        · exact Or.inr (Or.inr (Or.inr (Or.inl rfl)))
  · exact Or.inr (Or.inr (Or.inr (Or.inr rfl)))
theorem tK_5 {t v sn tw : Int32} (h : ¬ sn = 0) : tK t v sn tw = 5 := by unfold tK; rw [if_neg h]
theorem tK_3 {t v tw : Int32} (h : v = 0) : tK t v 0 tw = 3 := by unfold tK; rw [if_pos rfl, if_pos h]
theorem tK_1 {t v tw : Int32} (h : ¬ v = 0) (g : tB t v) : tK t v 0 tw = 1 := by unfold tK; rw [if_pos rfl, if_neg h, if_pos g]
theorem tK_2 {t v tw : Int32} (h : ¬ v = 0) (g : ¬ tB t v) (f : fsz t ≤ tw) : tK t v 0 tw = 2 := by unfold tK; rw [if_pos rfl, if_neg h, if_neg g, if_pos f]
theorem tK_4 {t v tw : Int32} (h : ¬ v = 0) (g : ¬ tB t v) (f : ¬ fsz t ≤ tw) : tK t v 0 tw = 4 := by unfold tK; rw [if_pos rfl, if_neg h, if_neg g, if_neg f]
section L2K
variable {S T : HS} {c q hd d k g : Nat}
theorem c_toldAs (h : GW S T c q hd d k g) : s_X8_toldAs S 5 = some (tK (hI S 5 3) (hI S 5 5) (hI S 5 11) (hI S q 1), S) := by
  have hC := h.1
  unfold s_X8_toldAs
  rw [h.i5]
  by_cases z : hI S 5 11 = 0
  · rw [if_pos z, h.i5, z]
    by_cases y : hI S 5 5 = 0
    · rw [if_pos y, tK_3 y]
    · rw [if_neg y, h.o5, k_turning (hC.lt (by decide)) (hC.k (by decide) rfl), kc_some]
      by_cases x : (hI S 5 5 < 0 ∧ 0 < hI S 5 3) ∨ (0 < hI S 5 5 ∧ hI S 5 3 < 0)
      · rw [if_pos x, if_neg (by decide), tK_1 y x]
      · rw [if_neg x, if_pos rfl, h.i5, h.p51, h.iq, fabs_sz]
        by_cases w : fsz (hI S 5 3) ≤ hI S q 1
        · rw [if_pos w, tK_2 y x w]
        · rw [if_neg w, tK_4 y x w]
  · rw [if_neg z, tK_5 z]
theorem m_kindNow (h : GW S T c q hd d k g) : s_X12_kindNow T 33 = some (tK (hI S 5 3) (hI S 5 5) (hI S 5 11) (hI S q 1), T) := by
  have hM := h.2.1
  have rq := h.rq
  have z5 : ∀ {v : Int32}, ¬ v ≤ 0 ↔ 0 < v := fun {v} => by rw [i32_le, i32_lt]; omega
  have z6 : ∀ {v : Int32}, ¬ 0 ≤ v ↔ v < 0 := fun {v} => by rw [i32_le, i32_lt]; omega
  have b53 : s_X12_kindNow_b53 33 T (hI S 5 3) = some ((if fsz (hI S 5 3) ≤ hI S q 1 then 2 else 4), T) := by
    unfold s_X12_kindNow_b53
    rw [m_sz, nw40 hM 2 (by decide) (i := 2) rfl, h.m2, kO_m hM, m_threadOf hM rfl (l2 := 1) (j := 1) rfl h.2.2.2.2.2.1.2 (by decide), kc_some, ← h.q37 (j := 1) (by decide)]
    by_cases w : fsz (hI S 5 3) ≤ hI S q 1
    · rw [if_pos w, if_pos w]
    · rw [if_neg w, if_neg w]
  unfold s_X12_kindNow s_X12_kindNow_b49
  rw [nw40 hM 4 (by decide) (i := 4) rfl, nw40 hM 5 (by decide) (i := 5) rfl, nw40 hM 7 (by decide) (i := 7) rfl, rq.1, rq.2.1, rq.2.2.2.1]
  rcases rq.2.2.2.2.1 with z | z
  · rw [z, if_neg (by decide)]
    by_cases y : hI S 5 5 = 0
    · rw [if_pos y, tK_3 y]
    · rw [if_neg y]
      have b41 : ¬ tB (hI S 5 3) (hI S 5 5) → some ((if fsz (hI S 5 3) ≤ hI S q 1 then (2 : Int32) else 4), T) = some (tK (hI S 5 3) (hI S 5 5) 0 (hI S q 1), T) := by
        intro x
        by_cases w : fsz (hI S 5 3) ≤ hI S q 1
        · rw [if_pos w, tK_2 y x w]
        · rw [if_neg w, tK_4 y x w]
      unfold s_X12_kindNow_b41 s_X12_kindNow_b49
      rw [b53]
      have y2 : ¬ (hI S 5 5).toInt = 0 := fun q => y (i32_eq.mpr q)
      have lt0 : ∀ {a b : Int32}, a < b ↔ a.toInt < b.toInt := i32_lt
      have e0 : (0 : Int32).toInt = 0 := rfl
      by_cases p1 : 0 ≤ hI S 5 5
      · rw [if_pos p1]
        have n1 := i32_le.mp p1
        have p2 : ¬ hI S 5 5 ≤ 0 := fun q => by have := i32_le.mp q; omega
        rw [if_neg p2]
        by_cases p3 : 0 ≤ hI S 5 3
        · have n3 := i32_le.mp p3
          rw [if_pos p3]
          refine b41 ?_
          rintro (⟨u1, u2⟩ | ⟨u1, u2⟩)
          · have := i32_lt.mp u1; omega
          · have := i32_lt.mp u2; omega
        · have n3 := i32_lt.mp (z6.mp p3)
          rw [if_neg p3, tK_1 y (Or.inr ⟨z5.mp p2, z6.mp p3⟩)]
      · have n1 := i32_lt.mp (z6.mp p1)
        rw [if_neg p1]
        by_cases p3 : 0 < hI S 5 3
        · rw [if_pos p3, tK_1 y (Or.inl ⟨z6.mp p1, p3⟩)]
        · have n3 : ¬ _ := fun q => p3 (i32_lt.mpr q)
          rw [if_neg p3, if_pos (i32_le.mpr (by omega))]
          refine b41 ?_
          rintro (⟨u1, u2⟩ | ⟨u1, u2⟩)
          · exact p3 u2
          · have := i32_lt.mp u1; omega
  · rw [z, if_pos rfl, tK_5 (by decide)]
end L2K
def iO (is kd : Int32) : Int32 := if kd = 0 then 1 else if is = kd then 1 else if kd = 2 ∧ is = 4 then 1 else if kd = 3 ∧ is = 5 then 1 else 0
theorem m_isOf (S : HS) (is kd : Int32) : s_X12_isOf S is kd = some (iO is kd, S) := by
  unfold s_X12_isOf s_X12_isOf_b19 s_X12_isOf_b29 iO
  by_cases a : kd = 0
  · rw [if_pos a, if_pos a, kzr_1]
  · rw [if_neg a, if_neg a]
    by_cases b : is = kd
    · rw [if_pos b, if_pos b, kzr_1]
    · rw [if_neg b, if_neg b]
      by_cases e : kd = 2
      · rw [if_pos e, if_neg (show ¬ kd = 3 by rw [e]; decide)]
        by_cases f : is = 4
        · rw [if_pos f, if_pos ⟨e, f⟩, kzr_1]
        · rw [if_neg f, if_neg (fun z => f z.2), if_neg (fun z => by have := e.symm.trans z.1; exact absurd this (by decide)), kzr_0]
      · rw [if_neg e, if_neg (show ¬ (kd = 2 ∧ is = 4) from fun z => e z.1)]
        by_cases f : kd = 3
        · rw [if_pos f]
          by_cases i : is = 5
          · rw [if_pos i, if_pos ⟨f, i⟩, kzr_1]
          · rw [if_neg i, if_neg (show ¬ (kd = 3 ∧ is = 5) from fun z => i z.2), kzr_0]
        · rw [if_neg f, if_neg (show ¬ (kd = 3 ∧ is = 5) from fun z => f z.1), kzr_0]
theorem c_isOne {S T : HS} {c q hd d k g : Nat} (h : GW S T c q hd d k g) (kd : Int32) : s_X8_isOne S 5 kd = some (iO (tK (hI S 5 3) (hI S 5 5) (hI S 5 11) (hI S q 1)) kd, S) := by
  unfold s_X8_isOne s_X8_isOne_b24 s_X8_isOne_b34
  rw [h.o5, c_toldAs h, kc_some]
  generalize tK (hI S 5 3) (hI S 5 5) (hI S 5 11) (hI S q 1) = is
  unfold iO
  by_cases a : kd = 0
  · rw [if_pos a, if_pos a, kzr_1]
  · rw [if_neg a, if_neg a]
    by_cases b : is = kd
    · rw [if_pos b.symm, if_pos b, kzr_1]
    · rw [if_neg (fun z => b z.symm), if_neg b]
      by_cases e : kd = 2
      · rw [if_pos e, if_neg (show ¬ kd = 3 by rw [e]; decide)]
        by_cases f : is = 4
        · rw [if_pos f, if_pos ⟨e, f⟩, kzr_1]
        · rw [if_neg f, if_neg (fun z => f z.2), if_neg (fun z => by have := e.symm.trans z.1; exact absurd this (by decide)), kzr_0]
      · rw [if_neg e, if_neg (show ¬ (kd = 2 ∧ is = 4) from fun z => e z.1)]
        by_cases f : kd = 3
        · rw [if_pos f]
          by_cases i : is = 5
          · rw [if_pos i, if_pos ⟨f, i⟩, kzr_1]
          · rw [if_neg i, if_neg (show ¬ (kd = 3 ∧ is = 5) from fun z => i z.2), kzr_0]
        · rw [if_neg f, if_neg (show ¬ (kd = 3 ∧ is = 5) from fun z => f z.1), kzr_0]
theorem ok_kind {S : HS} (h : RR S) : CK (fun S => s_X11_kind S 0) (fun S => s_X12_kind S 33) S := by
  have hC := h.2.1
  have hM := h.1
  have hX : LM (wI S 33 0 0) := hM
  have e40 : hI (wI S 33 0 0) 40 = hI S 40 := hI_wI_ne (by decide)
  have e37 : hI (wI S 33 0 0) 37 = hI S 37 := hI_wI_ne (by decide)
  show ∃ r S1 S2, s_X11_kind S 0 = some (r, S1) ∧ s_X12_kind S1 33 = some (r, S2) ∧ RR S2
  unfold s_X11_kind
  rw [kP_c0_2 hC, kP_c4_0 hC, kP_c5 hC]
  rcases h.run with ⟨n1, n2⟩ | ⟨b, c, q, hd, d, k, g, hb, h40, hD, hQ, hw⟩
  · rw [n1, if_pos rfl]
    refine ⟨_, S, wI S 33 0 0, rfl, ?_, h.w0⟩
    unfold s_X12_kind
    rw [kwI_m hM, nw40 hX 0 (by decide) (i := 0) rfl, e40, n2, if_pos rfl]
  · have hw2 : GW S (wI S 33 0 0) c q hd d k g := hw.to (TS.rf S) rfl rfl e37 e40
    rw [hw.2.2.1.2.2, if_neg (by simp), kP_c0_2 hC, kP_c4_0 hC, hw.o5, c_toldAs hw, kc_some]
    refine ⟨_, S, wI S 33 0 0, rfl, ?_, h.w0⟩
    unfold s_X12_kind
    rw [kwI_m hM, nw40 hX 0 (by decide) (i := 0) rfl, e40, h40, if_neg (by decide), kO_m hX, m_kindNow hw2, kc_some]
theorem ok_as {S : HS} (h : RR S) (l1 : Int32) : CK (fun S => s_X11_as S 0 l1) (fun S => s_X12_as S 33 l1) S := by
  have hC := h.2.1
  have hM := h.1
  have hX : LM (wI S 33 0 0) := hM
  have t0 : (0 : Int32).toInt = 0 := rfl
  have t5 : (5 : Int32).toInt = 5 := rfl
  have e40 : hI (wI S 33 0 0) 40 = hI S 40 := hI_wI_ne (by decide)
  show ∃ r S1 S2, s_X11_as S 0 l1 = some (r, S1) ∧ s_X12_as S1 33 l1 = some (r, S2) ∧ RR S2
  unfold s_X11_as
  rw [kP_c0_2 hC, kP_c4_0 hC, kP_c5 hC]
  rcases h.run with ⟨n1, n2⟩ | ⟨b, c, q, hd, d, k, g, hb, h40, hD, hQ, hw⟩
  · rw [n1, if_pos rfl]
    refine ⟨_, S, wI S 33 0 0, rfl, ?_, h.w0⟩
    unfold s_X12_as
    rw [kwI_m hM, nw40 hX 0 (by decide) (i := 0) rfl, e40, n2, if_pos rfl]
  · rw [hw.2.2.1.2.2, if_neg (by simp)]
    have bad : ¬ (0 ≤ l1.toInt ∧ l1.toInt ≤ 5) → ∃ r S1 S2, (some (-1000001, S) : Option (Int32 × HS)) = some (r, S1) ∧ s_X12_as S1 33 l1 = some (r, S2) ∧ RR S2 := by
      intro hb
      refine ⟨_, S, wI S 33 0 0, rfl, ?_, h.w0⟩
      unfold s_X12_as
      rw [kwI_m hM, nw40 hX 0 (by decide) (i := 0) rfl, e40, h40, if_neg (by decide), m_inI _ (a := 0) (b := 5) rfl rfl, kc_some, if_neg hb, if_pos rfl]
    by_cases c1 : l1 < 0
    · have d1 := i32_lt.mp c1
      rw [if_pos c1]
      exact bad (by omega)
    · have d1 : ¬ _ := fun z => c1 (i32_lt.mpr z)
      rw [if_neg c1]
      by_cases c2 : l1 ≤ 5
      · have d2 := i32_le.mp c2
        have good : 0 ≤ l1.toInt ∧ l1.toInt ≤ 5 := by omega
        rw [if_pos c2, hw.o5, c_isOne hw, kc_some]
        -- the reference up to what it is of
        have mo : ∀ v, s_X12_as (wI S 0 7 v) 33 l1 = (if iO (tK (hI S 5 3) (hI S 5 5) (hI S 5 11) (hI S q 1)) l1 = 0 then some (-1000010 - 3, wI (wI (wI (wI S 0 7 v) 33 0 0) 33 1 0) 33 1 3) else some (hI S 5 8, wI (wI (wI S 0 7 v) 33 0 0) 33 1 0)) := by
          intro v
          have hV : LM (wI S 0 7 v) := hM
          have hV2 : LM (wI (wI S 0 7 v) 33 0 0) := hM
          have hV3 : LM (wI (wI (wI S 0 7 v) 33 0 0) 33 1 0) := hM
          have f40 : hI (wI (wI S 0 7 v) 33 0 0) 40 = hI S 40 := by rw [hI_wI_ne (by decide), hI_wI_ne (by decide)]
          have g40 : hI (wI (wI (wI S 0 7 v) 33 0 0) 33 1 0) 40 = hI S 40 := by rw [hI_wI_ne (by decide), f40]
          have g37 : hI (wI (wI (wI S 0 7 v) 33 0 0) 33 1 0) 37 = hI S 37 := by rw [hI_wI_ne (by decide), hI_wI_ne (by decide), hI_wI_ne (by decide)]
          have hw3 : GW S (wI (wI (wI S 0 7 v) 33 0 0) 33 1 0) c q hd d k g := hw.to (TS.rf S) rfl rfl g37 g40
          unfold s_X12_as
          rw [kwI_m hV, nw40 hV2 0 (by decide) (i := 0) rfl, f40, h40, if_neg (by decide), m_inI _ (a := 0) (b := 5) rfl rfl, kc_some, if_pos good, if_neg (by decide), kwI_m hV2, kO_m hV3, m_kindNow hw3, kc_some, m_isOf, kc_some, kO_m hV3, m_finding hV3, kc_some, nw40 hV3 6 (by decide) (i := 6) rfl, g40, hw.rq.2.2.1]
        by_cases z : iO (tK (hI S 5 3) (hI S 5 5) (hI S 5 11) (hI S q 1)) l1 = 0
        · rw [if_pos z, kO_c0 hC, c_found hC, kc_some]
          exact ⟨_, _, _, rfl, by rw [mo]; exact if_pos z, h.fnd2 3⟩
        · rw [if_neg z, hw.i5, kO_c0 hC, c_fine hC, kc_some]
          exact ⟨_, _, _, rfl, by rw [mo]; exact if_neg z, h.fnd 0⟩
      · have d2 : ¬ _ := fun z => c2 (i32_le.mpr z)
        rw [if_neg c2]
        exact bad (by omega)
theorem ok_trace {S : HS} (h : RR S) (l1 : Int32) : CK (fun S => s_X11_trace S 0 l1) (fun S => s_X12_trace S 33 l1) S := by
  have hC := h.2.1
  have hM := h.1
  have hX : LM (wI S 33 0 0) := hM
  have t0 : (0 : Int32).toInt = 0 := rfl
  obtain ⟨n, hn, e1, e2, e3⟩ := h.2.2.2.2.2.2.2
  have f31 : hI (wI S 33 0 0) 33 31 = nI n := by rw [hI_wI_j (by decide)]; exact e2
  have f45 : hI (wI S 33 0 0) 45 = hI S 45 := hI_wI_ne (by decide)
  have hh : ((nI n - 1 : Int32).toInt64).toInt = (n : Int) - 1 := by
    rw [i64_of32, i32_sub (by rw [nI_toInt (by omega)]; show _ ≤ (n : Int) - 1; omega) (by rw [nI_toInt (by omega)]; show (n : Int) - 1 < _; omega), nI_toInt (by omega)]
    rfl
  show ∃ r S1 S2, s_X11_trace S 0 l1 = some (r, S1) ∧ s_X12_trace S1 33 l1 = some (r, S2) ∧ RR S2
  have mo : s_X12_trace S 33 l1 = (if 0 ≤ l1.toInt ∧ l1.toInt ≤ (n : Int) - 1 then kA (wI S 33 0 0) (some 45) 14 l1 (fun v6 => some (v6, wI S 33 0 0)) else some (-1000000, wI S 33 0 0)) := by
    unfold s_X12_trace
    rw [kwI_m hM, kI_m hX, f31, m_inI _ (a := 0) (b := (n : Int) - 1) rfl hh, kc_some]
    by_cases z : 0 ≤ l1.toInt ∧ l1.toInt ≤ (n : Int) - 1
    · rw [if_pos z, if_neg (by decide), if_pos z, kP_m30 hX]
    · rw [if_neg z, if_pos rfl, if_neg z]
  unfold s_X11_trace s_X11_trace_b15
  by_cases c1 : l1 < 0
  · have d1 := i32_lt.mp c1
    rw [if_pos c1]
    exact ⟨_, S, _, rfl, by rw [mo, if_neg (by omega)], h.w0⟩
  · have d1 : ¬ _ := fun z => c1 (i32_lt.mpr z)
    rw [if_neg c1, kP_c0_5 hC, kI_c11 hC, e1]
    by_cases c2 : l1 < nI n
    · have d2 := i32_lt.mp c2
      rw [nI_toInt (by omega)] at d2
      obtain ⟨I, hI1, -, hI3⟩ := I_N (n := l1) (a := 0) (b := 16) (by omega) (by omega) (by decide)
      have i1 : l1.toInt = (I : Int) := by rw [hI1]; exact nI_toInt (by omega)
      rw [if_pos c2, kP_c0_5 hC, kP_c11_0 hC, kA_c12 hC hI1 (by omega)]
      refine ⟨_, S, wI S 33 0 0, rfl, ?_, h.w0⟩
      rw [mo, if_pos (by omega), kA_m45 hX hI1 (by omega), f45, e3 I (by omega)]
    · have d2 : ¬ _ := fun z => c2 (i32_lt.mpr z)
      rw [nI_toInt (by omega)] at d2
      rw [if_neg c2]
      exact ⟨_, S, _, rfl, by rw [mo, if_neg (by omega)], h.w0⟩
theorem rows_loop {S T : HS} (h : RR S) (hT : LM T) (e34 : hI T 34 = hI S 34) : ∀ (m F1 F2 i : Nat) (a : Int32), m < F1 → m < F2 → i + m = 8 → ∃ v, s_X11_rowsHere_L13 0 F1 S a (some 1) (nI 8) (nI i) = some (v, S) ∧ s_X12_count_L50 33 F2 T a (nI i) = some (v, T) := by
  have hC := h.2.1
  intro m
  induction m with
  | zero =>
    intro F1 F2 i a hF1 hF2 hi
    obtain ⟨F1, rfl⟩ : ∃ z, F1 = z + 1 := ⟨F1 - 1, by omega⟩
    obtain ⟨F2, rfl⟩ : ∃ z, F2 = z + 1 := ⟨F2 - 1, by omega⟩
    have le : nI 8 ≤ nI i := (nI_le_iff (by omega) (by omega)).mpr (by omega)
    refine ⟨a, ?_, ?_⟩
    · show s_X11_rowsHere_b13 _ 0 S a (some 1) (nI 8) (nI i) = _
      unfold s_X11_rowsHere_b13
      rw [if_pos le]
    · show s_X12_count_b50 _ 33 T a (nI i) = _
      unfold s_X12_count_b50
      exact if_pos le
  | succ m ih =>
    intro F1 F2 i a hF1 hF2 hi
    obtain ⟨F1, rfl⟩ : ∃ z, F1 = z + 1 := ⟨F1 - 1, by omega⟩
    obtain ⟨F2, rfl⟩ : ∃ z, F2 = z + 1 := ⟨F2 - 1, by omega⟩
    have nle : ¬ nI 8 ≤ nI i := fun z => by have := (nI_le_iff (by omega) (by omega)).mp z; omega
    have nle2 : ¬ (8 : Int32) ≤ nI i := nle
    have c_ : s_X11_rowsHere_L13 0 (F1 + 1) S a (some 1) (nI 8) (nI i) = (if hI S (13 + 2 * i) 1 = 0 then s_X11_rowsHere_L13 0 F1 S a (some 1) (nI 8) (nI (i + 1)) else s_X11_rowsHere_L13 0 F1 S (a + 1) (some 1) (nI 8) (nI (i + 1))) := by
      show s_X11_rowsHere_b13 _ 0 S a (some 1) (nI 8) (nI i) = _
      unfold s_X11_rowsHere_b13 s_X11_rowsHere_b36
      rw [if_neg nle, kAP_c1 hC rfl (by omega), kI_row hC (by omega), nI_1]
    have m_ : s_X12_count_L50 33 (F2 + 1) T a (nI i) = (if hI S 34 i < 0 then s_X12_count_L50 33 F2 T a (nI (i + 1)) else s_X12_count_L50 33 F2 T (a + 1) (nI (i + 1))) := by
      show s_X12_count_b50 _ 33 T a (nI i) = _
      unfold s_X12_count_b50 s_X12_count_b71
      rw [if_neg nle2, kP_m2 hT, kA_m34 hT rfl (by omega), e34, nI_1, Int32.add_zero]
    rw [c_, m_]
    rcases (h.rs (r := i) (by omega)).two with ⟨a1, a2⟩ | ⟨a1, a2, q, a3, a4⟩
    · rw [a1, a2, if_pos rfl, if_pos (by decide)]
      exact ih F1 F2 (i + 1) a (by omega) (by omega) (by omega)
    · rw [a1, a2, a3, if_neg (by decide), if_neg (nI_pos (by omega))]
      exact ih F1 F2 (i + 1) (a + 1) (by omega) (by omega) (by omega)
theorem rules_loop {S T : HS} {b a2 nh : Nat} (hT : LM T) (b1 : b < hN S) (b2 : hK S b = 1) (b5 : hI S b 5 = nI nh) (nh4 : nh ≤ 4) (p2 : hP S b 2 = some a2) (p3 : a2 < hN S) (p4 : hK S a2 = 18) (p5 : hL S a2 = 4) (f2 : hI T 37 2 = nI nh) (hh : ∀ i, i < nh → ∃ c, hP S a2 i = some c ∧ 46 ≤ c ∧ isH S (hI T 37) c i) : ∀ (m F1 F2 i : Nat) (a : Int32), m < F1 → m < F2 → i + m = nh → ∃ v, s_X1_rulesOfAll_L4 b F1 S a (nI i) = some (v, S) ∧ s_X12_count_L92 33 F2 T a (nI i) = some (v, T) := by
  intro m
  induction m with
  | zero =>
    intro F1 F2 i a hF1 hF2 hi
    obtain ⟨F1, rfl⟩ : ∃ z, F1 = z + 1 := ⟨F1 - 1, by omega⟩
    obtain ⟨F2, rfl⟩ : ∃ z, F2 = z + 1 := ⟨F2 - 1, by omega⟩
    have le : nI nh ≤ nI i := (nI_le_iff (by omega) (by omega)).mpr (by omega)
    refine ⟨a, ?_, ?_⟩
    · show s_X1_rulesOfAll_b4 _ b S a (nI i) = _
      unfold s_X1_rulesOfAll_b4
      rw [kI_some b1 b2, b5, if_pos le]
    · show s_X12_count_b92 _ 33 T a (nI i) = _
      unfold s_X12_count_b92
      rw [kP_m5 hT, kA_m37 hT (i := 2) (k := 2) rfl (by decide), f2, if_pos le]
  | succ m ih =>
    intro F1 F2 i a hF1 hF2 hi
    obtain ⟨F1, rfl⟩ : ∃ z, F1 = z + 1 := ⟨F1 - 1, by omega⟩
    obtain ⟨F2, rfl⟩ : ∃ z, F2 = z + 1 := ⟨F2 - 1, by omega⟩
    have nle : ¬ nI nh ≤ nI i := fun z => by have := (nI_le_iff (by omega) (by omega)).mp z; omega
    obtain ⟨c, c1, c2, c3, c4, c5, ra, w, c6, c7, c8, -⟩ := hh i (by omega)
    have ix : (31 : Int32) + 25 * nI i = nI (31 + 25 * i) := by rw [show (31 : Int32) = nI 31 from rfl, show (25 : Int32) = nI 25 from rfl, nI_mul, nI_add]
    obtain ⟨v, v1, v2⟩ := ih F1 F2 (i + 1) (a + nI w) (by omega) (by omega) (by omega)
    refine ⟨v, ?_, ?_⟩
    · show s_X1_rulesOfAll_b4 _ b S a (nI i) = _
      unfold s_X1_rulesOfAll_b4
      rw [kI_some b1 b2, b5, if_neg nle, kP_some b1 b2, p2, kAP_in p3 p4 (by rw [p5]; exact ix_ok (k := i) rfl (by omega) (by decide)), nI_clamp (by omega), c1, kI_some c3 c4, c7, nI_1]
      exact v1
    · show s_X12_count_b92 _ 33 T a (nI i) = _
      unfold s_X12_count_b92
      rw [kP_m5 hT, kA_m37 hT (i := 2) (k := 2) rfl (by decide), f2, if_neg nle, kP_m5 hT, kA_m37 hT ix (by omega), c8, nI_1]
      exact v2
theorem ok_count {S : HS} (h : RR S) (l1 : Int32) : CK (fun S => s_X11_count S 0 l1) (fun S => s_X12_count S 33 l1) S := by
  have hC := h.2.1
  have hM := h.1
  have hX : LM (wI S 33 0 0) := hM
  have t0 : (0 : Int32).toInt = 0 := rfl
  have t5 : (5 : Int32).toInt = 5 := rfl
  have e37 : hI (wI S 33 0 0) 37 = hI S 37 := hI_wI_ne (by decide)
  show ∃ r S1 S2, s_X11_count S 0 l1 = some (r, S1) ∧ s_X12_count S1 33 l1 = some (r, S2) ∧ RR S2
  have fin : ∀ v : Int32, s_X12_count S 33 l1 = some (v, wI S 33 0 0) → ∃ r S1 S2, (some (v, S) : Option (Int32 × HS)) = some (r, S1) ∧ s_X12_count S1 33 l1 = some (r, S2) ∧ RR S2 := fun v hv => ⟨v, S, _, rfl, hv, h.w0⟩
  have bad : ¬ (0 ≤ l1.toInt ∧ l1.toInt ≤ 5) → ∃ r S1 S2, (some (-1000001, S) : Option (Int32 × HS)) = some (r, S1) ∧ s_X12_count S1 33 l1 = some (r, S2) ∧ RR S2 := by
    intro hb
    refine fin _ ?_
    have ne : ∀ v : Int32, 0 ≤ v.toInt ∧ v.toInt ≤ 5 → ¬ l1 = v := fun v hv e => hb (by rw [e]; exact hv)
    unfold s_X12_count
    rw [kwI_m hM, if_neg (ne 0 (by decide)), if_neg (ne 1 (by decide)), if_neg (ne 2 (by decide)), if_neg (ne 3 (by decide)), if_neg (ne 4 (by decide)), if_neg (ne 5 (by decide))]
  unfold s_X11_count
  by_cases c1 : l1 < 0
  · have d1 := i32_lt.mp c1
    rw [if_pos c1]
    exact bad (by omega)
  · have d1 : ¬ _ := fun z => c1 (i32_lt.mpr z)
    rw [if_neg c1]
    by_cases c2 : l1 ≤ 5
    · have d2 := i32_le.mp c2
      rw [if_pos c2]
      by_cases z0 : l1 = 0
      · have hl : hL S 1 = 8 := hC.l (by decide) rfl
        obtain ⟨v, v1, v2⟩ := rows_loop h hX (hI_wI_ne (by decide)) 8 100000 100000 0 0 (by decide) (by decide) (by decide)
        have v1' : s_X11_rowsHere_L13 0 100000 S 0 (some 1) (nI 8) 0 = some (v, S) := v1
        rw [if_pos z0, kO_c0 hC]
        unfold s_X11_rowsHere
        rw [kP_c0_0 hC, kLen_some (a := 1) (kd := 19) (hC.lt (by decide)) (hC.k (by decide) rfl), hl, v1', kc_some]
        refine fin v ?_
        unfold s_X12_count
        rw [kwI_m hM, if_pos z0]
        exact v2
      · rw [if_neg z0]
        by_cases z5 : l1 = 5
        · obtain ⟨n, -, n1, n2, -⟩ := h.2.2.2.1
          rw [if_pos z5, kP_c0_1 hC, kI_c2 hC, n1]
          refine fin _ ?_
          unfold s_X12_count
          subst z5
          rw [kwI_m hM, if_neg (by decide), if_neg (by decide), if_neg (by decide), if_neg (by decide), if_neg (by decide), if_pos rfl, kI_m hX, hI_wI_j (by decide), n2]
        · rw [if_neg z5, kP_c0_2 hC, kP_c4 hC]
          have m1 : ∀ j : Nat, j < 3 → l1 = nI (j + 1) → s_X12_count S 33 l1 = some (hI S 37 j, wI S 33 0 0) := by
            intro j hj hl
            unfold s_X12_count
            rw [kwI_m hM, if_neg z0]
            rcases (by omega : j = 0 ∨ j = 1 ∨ j = 2) with e | e | e
            · subst e
              have hl1 : l1 = 1 := hl
              subst hl1
              rw [if_pos rfl, kP_m5 hX, kA_m37 hX (i := 1 - 1) (k := 0) rfl (by decide), e37]
            · subst e
              have hl1 : l1 = 2 := hl
              subst hl1
              rw [if_neg (by decide), if_pos rfl, kP_m5 hX, kA_m37 hX (i := 2 - 1) (k := 1) rfl (by decide), e37]
            · subst e
              have hl1 : l1 = 3 := hl
              subst hl1
              rw [if_neg (by decide), if_neg (by decide), if_pos rfl, kP_m5 hX, kA_m37 hX (i := 3 - 1) (k := 2) rfl (by decide), e37]
          have four : ¬ l1 = 1 → ¬ l1 = 2 → ¬ l1 = 3 → l1 = 4 := by
            intro u1 u2 u3
            rw [i32_eq] at z0 z5 u1 u2 u3 ⊢
            have x1 : (1 : Int32).toInt = 1 := rfl
            have x2 : (2 : Int32).toInt = 2 := rfl
            have x3 : (3 : Int32).toInt = 3 := rfl
            have x4 : (4 : Int32).toInt = 4 := rfl
            omega
          have m4 : l1 = 4 → s_X12_count S 33 l1 = s_X12_count_L92 33 100000 (wI S 33 0 0) 0 0 := by
            intro e
            subst e
            unfold s_X12_count
            rw [kwI_m hM, if_neg (by decide), if_neg (by decide), if_neg (by decide), if_neg (by decide), if_pos rfl]
          cases hb : hP S 4 1 with
          | none =>
            have h6 := h.2.2.2.2.2.1
            rw [hb] at h6
            obtain ⟨-, -, -, y0, y1, y2, -⟩ := h6
            rw [if_pos rfl]
            refine fin _ ?_
            by_cases u1 : l1 = 1
            · rw [m1 0 (by decide) u1, y0]
            · by_cases u2 : l1 = 2
              · rw [m1 1 (by decide) u2, y1]
              · by_cases u3 : l1 = 3
                · rw [m1 2 (by decide) u3, y2]
                · rw [m4 (four u1 u2 u3)]
                  show s_X12_count_b92 _ 33 _ 0 0 = _
                  unfold s_X12_count_b92
                  rw [kP_m5 hX, kA_m37 hX (i := 2) (k := 2) rfl (by decide), e37, y2, if_pos (by decide)]
          | some b =>
            obtain ⟨nd, nc, a0, a1, b1, b2, b3, nd4, nc4, eA, eB, eA2, eB2, -⟩ := h.bx hb
            obtain ⟨nh, a2, nh1, nh4, eH, eH2, r0, r1, r2, r3, r4, hH⟩ := h.hand hb
            rw [if_neg (by simp)]
            by_cases u1 : l1 = 1
            · rw [if_pos u1, kI_some b2 b3, eA2]
              exact fin _ (by rw [m1 0 (by decide) u1, eA])
            · rw [if_neg u1]
              by_cases u2 : l1 = 2
              · rw [if_pos u2, kI_some b2 b3, eB2]
                exact fin _ (by rw [m1 1 (by decide) u2, eB])
              · rw [if_neg u2]
                by_cases u3 : l1 = 3
                · rw [if_pos u3, kI_some b2 b3, eH2]
                  exact fin _ (by rw [m1 2 (by decide) u3, eH])
                · rw [if_neg u3]
                  obtain ⟨v, v1, v2⟩ := rules_loop (S := S) (T := wI S 33 0 0) hX b2 b3 eH2 nh4 r0 r2 r3 r4 (by rw [e37]; exact eH) (by rw [e37]; exact hH) nh 100000 100000 0 0 (by omega) (by omega) (by omega)
                  have v1' : s_X1_rulesOfAll_L4 b 100000 S 0 0 = some (v, S) := v1
                  rw [kO_some b2 b3]
                  unfold s_X1_rulesOfAll
                  rw [v1', kc_some]
                  exact fin v (by rw [m4 (four u1 u2 u3)]; exact v2)
    · have d2 : ¬ _ := fun z => c2 (i32_le.mpr z)
      rw [if_neg c2]
      exact bad (by omega)
