/-! ===== TICKS of the RUN; go ===== -/
theorem nw40 {α : Type} {T : HS} (h : LM T) (j : Nat) (hj : j < 12) {i : Int32} (hi : i = nI j) {f : Int32 → Option α} : kP T (some 33) 12 24 (fun v => kA T v 14 i f) = f (hI T 40 j) := by rw [kP_m24 h, kA_m40 h hi hj]
theorem GW.upd {S T S2 T2 : HS} {c q hd d k g : Nat} (h : GW S T c q hd d k g) (s1 : S2.1 = S.1) (sP : hP S2 = hP S) (si : ∀ a, 46 ≤ a → hI S2 a = hI S a) (t1 : T2.1 = T.1) (tP : hP T2 = hP T) (t37 : hI T2 37 = hI T 37) (t40 : ∀ j, 1 ≤ j → j ≤ 3 → hI T2 40 j = hI T 40 j) (rq : RQ (hI S q) (hI S2 5) (hI T2 40)) : GW S2 T2 c q hd d k g := by
  obtain ⟨hC, hM, ⟨p0, p1, p2⟩, ⟨x1, x2, x3⟩, ⟨n1, n2, n3, n4⟩, dk, ⟨m1, m2, m3⟩, c37, q37, hD, hQ, hH, -⟩ := h
  have en : hN S2 = hN S := congrArg (fun x => x.1) s1
  have ek : ∀ c, hK S2 c = hK S c := fun c => congrArg (fun x => (x.2 c).1) s1
  have el : ∀ c, hL S2 c = hL S c := fun c => congrArg (fun x => (x.2 c).2) s1
  have ec := si c x1
  have eq := si q x2
  refine ⟨LC_of hC s1 sP, LM_of hM t1 tP, ⟨by rw [sP]; exact p0, by rw [sP]; exact p1, by rw [sP]; exact p2⟩, ⟨x1, x2, x3⟩, ⟨by rw [en]; exact n1, by rw [ek]; exact n2, by rw [en]; exact n3, by rw [ek]; exact n4⟩, dk, ⟨by rw [t40 1 (by decide) (by decide)]; exact m1, by rw [t40 2 (by decide) (by decide)]; exact m2, by rw [t40 3 (by decide) (by decide)]; exact m3⟩, by rw [ec, t37]; exact c37, by rw [eq, t37]; exact q37, by rw [ec]; exact hD, by rw [eq]; exact hQ, ?_, by rw [eq]; exact rq⟩
  obtain ⟨h1, h2, h3, ra, m, h4, h5, h6, h7, h8, h9, h10, h11⟩ := hH
  refine ⟨by rw [en]; exact h1, by rw [ek]; exact h2, h3, ra, m, h4, by rw [si hd x3]; exact h5, by rw [t37]; exact h6, by rw [sP]; exact h7, by rw [en]; exact h8, by rw [ek]; exact h9, by rw [el]; exact h10, ?_⟩
  intro u hu
  obtain ⟨z, F, z1, z2, z3, z4, z5, z6, z7⟩ := h11 u hu
  exact ⟨z, F, by rw [sP]; exact z1, z2, by rw [en]; exact z3, by rw [ek]; exact z4, by rw [si z z2, t37]; exact z5, by rw [si z z2]; exact z6, z7⟩
section L2S
variable {X : HS}
theorem m_b161 (h : LM X) (sh a b : Int32) : s_X12_runTick_b161 33 X sh (some 40) 10 a b = some (wI (wI X 40 10 (a + b)) 40 11 sh) := by
  unfold s_X12_runTick_b161
  rw [kwA_m40 h (i := 10) (k := 10) rfl (by decide), kP_m24 (by exact h), kwA_m40 (by exact h) (i := 11) (k := 11) rfl (by decide)]
theorem m_b140 (h : LM X) (sh w : Int32) : s_X12_runTick_b140 33 X sh (some 40) 9 w = some (wI (wI (wI X 40 9 w) 40 10 (hI X 40 10 + if hI X 33 23 = 0 then 0 else 1)) 40 11 sh) := by
  have hX : LM (wI X 40 9 w) := h
  have e1 : hI (wI X 40 9 w) 40 10 = hI X 40 10 := hI_wI_j (by decide)
  have e2 : hI (wI X 40 9 w) 33 23 = hI X 33 23 := by rw [hI_wI_ne (by decide)]
  unfold s_X12_runTick_b140
  rw [kwA_m40 h (i := 9) (k := 9) rfl (by decide), kP_m24 hX, kA_m40 hX (i := 10) (k := 10) rfl (by decide), kI_m hX, e1, e2, m_b161 hX, m_b161 hX]
  by_cases c : hI X 33 23 = 0
  · rw [if_pos c, if_pos c]
  · rw [if_neg c, if_neg c]
theorem m_b97 (h : LM X) (f sh z : Int32) : s_X12_runTick_b97 33 X f sh (some 40) 7 z = some (wI (wI (wI (wI (wI X 40 7 z) 40 8 f) 40 9 (if hI X 33 22 ≤ hI X 40 9 then hI X 40 9 else hI X 33 22)) 40 10 (hI X 40 10 + if hI X 33 23 = 0 then 0 else 1)) 40 11 sh) := by
  have h7 : LM (wI X 40 7 z) := h
  have h8 : LM (wI (wI X 40 7 z) 40 8 f) := h
  have e1 : hI (wI (wI X 40 7 z) 40 8 f) 40 9 = hI X 40 9 := by rw [hI_wI_j (by decide), hI_wI_j (by decide)]
  have e2 : hI (wI (wI X 40 7 z) 40 8 f) 40 10 = hI X 40 10 := by rw [hI_wI_j (by decide), hI_wI_j (by decide)]
  have e3 : hI (wI (wI X 40 7 z) 40 8 f) 33 = hI X 33 := by rw [hI_wI_ne (by decide), hI_wI_ne (by decide)]
  unfold s_X12_runTick_b97
  rw [kwA_m40 h (i := 7) (k := 7) rfl (by decide), kP_m24 h7, kwA_m40 h7 (i := 8) (k := 8) rfl (by decide), kP_m24 h8, kI_m h8, kP_m24 h8, kA_m40 h8 (i := 9) (k := 9) rfl (by decide), kP_m24 h8, kA_m40 h8 (i := 9) (k := 9) rfl (by decide), kI_m h8, m_b140 h8, m_b140 h8, e1, e2, e3]
  by_cases c : hI X 33 22 ≤ hI X 40 9
  · rw [if_pos c, if_pos c]
  · rw [if_neg c, if_neg c]
end L2S
def rtS (T : HS) (d k : Nat) (f t v : Int32) : Nat → Int32 := mTk (rup (rup (rup (hI T 33) 19 t) 20 v) 21 0) (hI T 37) d k f 0
theorem m_runTick {S T : HS} {c q hd d k g : Nat} (h : GW S T c q hd d k g) {f : Int32} {σ : Nat → Int32} (hσ : rtS T d k f (hI S 5 3) (hI S 5 5) = σ) : s_X12_runTick T 33 f = some (wI (wI (wI (wI (wI (wI (wI (wI (wC T 33 σ) 40 4 (σ 19)) 40 5 (σ 20)) 40 6 (hI T 40 6 + 1)) 40 7 (if σ 21 = 0 then 0 else 1)) 40 8 f) 40 9 (if σ 22 ≤ hI T 40 9 then hI T 40 9 else σ 22)) 40 10 (hI T 40 10 + if σ 23 = 0 then 0 else 1)) 40 11 (fSh (hI S q 0) (hI S q 1) (fsz (hI S 5 3)))) := by
  have hM := h.2.1
  have rq := h.rq
  have ew : ¬ hI T 37 (3 + 3 * d) = 0 := by
    have := h.c37 (j := 0) (by decide)
    rw [show 3 + 3 * d + 0 = 3 + 3 * d from rfl] at this
    rw [← this]
    exact h.2.2.2.2.2.2.2.2.2.1.ne
  have e1 : hI (wI T 33 19 (hI S 5 3)) 40 = hI T 40 := hI_wI_ne (by decide)
  have h1 : LM (wI T 33 19 (hI S 5 3)) := hM
  have h2 : LM (wI (wI T 33 19 (hI S 5 3)) 33 20 (hI S 5 5)) := hM
  have h3 : LM (wI (wI (wI T 33 19 (hI S 5 3)) 33 20 (hI S 5 5)) 33 21 0) := hM
  have e3 : hI (wI (wI (wI T 33 19 (hI S 5 3)) 33 20 (hI S 5 5)) 33 21 0) 40 = hI T 40 := by rw [hI_wI_ne (by decide), hI_wI_ne (by decide), hI_wI_ne (by decide)]
  have e4 : hI (wI (wI (wI T 33 19 (hI S 5 3)) 33 20 (hI S 5 5)) 33 21 0) 37 = hI T 37 := by rw [hI_wI_ne (by decide), hI_wI_ne (by decide), hI_wI_ne (by decide)]
  have e5 : wI (wI (wI T 33 19 (hI S 5 3)) 33 20 (hI S 5 5)) 33 21 0 = wC T 33 (rup (rup (rup (hI T 33) 19 (hI S 5 3)) 20 (hI S 5 5)) 21 0) := by
    rw [wI_wC, wI_wC, wI_wC, hI_wC_self, wC_wC, hI_wC_self, wC_wC]
  have tk : s_X12_tick (wI (wI (wI T 33 19 (hI S 5 3)) 33 20 (hI S 5 5)) 33 21 0) 33 (nI d) (nI k) f 0 = some (wC T 33 σ) := by
    rw [m_tick h3 rfl rfl h.2.2.2.2.2.1.1 h.2.2.2.2.2.1.2 (by rw [e4]; exact ew), e4, e5, hI_wC_self, wC_wC, ← hσ]
    rfl
  have hX : LM (wC T 33 σ) := hM
  have x33 : hI (wC T 33 σ) 33 = σ := hI_wC_self _ _ _
  have x40 : hI (wC T 33 σ) 40 = hI T 40 := hI_wC_ne (by decide)
  have y1 : ∀ a b, hI (wI (wI (wC T 33 σ) 40 4 a) 40 5 b) 33 = σ := fun a b => by rw [hI_wI_ne (by decide), hI_wI_ne (by decide), x33]
  have y2 : ∀ a, hI (wI (wC T 33 σ) 40 4 a) 33 = σ := fun a => by rw [hI_wI_ne (by decide), x33]
  have y3 : ∀ a b, hI (wI (wI (wC T 33 σ) 40 4 a) 40 5 b) 40 6 = hI T 40 6 := fun a b => by rw [hI_wI_j (by decide), hI_wI_j (by decide), x40]
  have y4 : ∀ a b e, hI (wI (wI (wI (wC T 33 σ) 40 4 a) 40 5 b) 40 6 e) 33 = σ := fun a b e => by rw [hI_wI_ne (by decide), y1]
  have y5 : ∀ a b e, hI (wI (wI (wI (wC T 33 σ) 40 4 a) 40 5 b) 40 6 e) 40 9 = hI T 40 9 := fun a b e => by rw [hI_wI_j (by decide), hI_wI_j (by decide), hI_wI_j (by decide), x40]
  have y6 : ∀ a b e, hI (wI (wI (wI (wC T 33 σ) 40 4 a) 40 5 b) 40 6 e) 40 10 = hI T 40 10 := fun a b e => by rw [hI_wI_j (by decide), hI_wI_j (by decide), hI_wI_j (by decide), x40]
  unfold s_X12_runTick
  rw [kO_m hM, h.shortNow, kc_some, nw40 hM 4 (by decide) (i := 4) rfl, rq.1, kwI_m hM, nw40 h1 5 (by decide) (i := 5) rfl, e1, rq.2.1, kwI_m h1, kwZ_m0 h2, nw40 h3 1 (by decide) (i := 1) rfl, nw40 h3 2 (by decide) (i := 2) rfl, e3, h.m1, h.m2, kO_m h3, tk, kcv_some]
  rw [kP_m24 hX, kI_m hX, kwA_m40 hX (i := 4) (k := 4) rfl (by decide), x33, kP_m24 (by exact hX), kI_m (by exact hX), y2, kwA_m40 (by exact hX) (i := 5) (k := 5) rfl (by decide), kP_m24 (by exact hX), kA_m40 (by exact hX) (i := 6) (k := 6) rfl (by decide), y3, kwA_m40 (by exact hX) (i := 6) (k := 6) rfl (by decide), kP_m24 (by exact hX), kI_m (by exact hX), y4, m_b97 (by exact hX), m_b97 (by exact hX), y4, y5, y6]
  by_cases z : σ 21 = 0
  · rw [if_pos z, if_pos z]
  · rw [if_neg z, if_neg z]
/-- one TICK of both, by the same F -/
theorem GW.tick {S T : HS} {c q hd d k g F : Nat} (h : GW S T c q hd d k g) (h11 : hI S 5 11 = 0) (hF : F ≤ 99) : ∃ S2 T2, s_X8_tick S 5 (nI F) 0 = some S2 ∧ s_X12_runTick T 33 (nI F) = some T2 ∧ GW S2 T2 c q hd d k g ∧ (S2.1 = S.1 ∧ hP S2 = hP S ∧ ∀ a, a ≠ 5 → hI S2 a = hI S a) ∧ (T2.1 = T.1 ∧ hP T2 = hP T ∧ (∀ a, a ≠ 33 → a ≠ 40 → hI T2 a = hI T a) ∧ (∀ j, j < 19 ∨ 23 < j → hI T2 33 j = hI T 33 j) ∧ hI T2 40 0 = hI T 40 0) := by
  have hC := h.1
  have rq := h.rq
  obtain ⟨p0, p1, p2⟩ := h.2.2.1
  obtain ⟨x1, x2, x3⟩ := h.2.2.2.1
  obtain ⟨n1, n2, n3, n4⟩ := h.2.2.2.2.1
  have hD := h.2.2.2.2.2.2.2.2.2.1
  have hQ := h.cok
  have e1 := k_tick0 (h := 5) (f := nI F) (lamp := 0) (hC.lt (by decide)) (hC.k (by decide) rfl) p0 n1 n2 p1 n3 n4 hD.ne
  have e2 := m_runTick h (f := nI F) rfl
  generalize hσ : rtS T d k (nI F) (hI S 5 3) (hI S 5 5) = σ at e2
  have hR : FR (hI S 5) (rup (rup (rup (hI T 33) 19 (hI S 5 3)) 20 (hI S 5 5)) 21 0) := ⟨rfl, rfl, h11⟩
  obtain ⟨⟨r1, r2, r3⟩, r4, r5, r6, r7, r8, r9, r10⟩ := tick_rel hR (fun j hj => h.c37 hj) (fun j hj => h.q37 hj) hD hQ (f := nI F) rfl hF (lamp := 0) (p := 0) rfl (by decide) rq.2.2.2.2.2.2.2.2.1
  rw [show mTk (rup (rup (rup (hI T 33) 19 (hI S 5 3)) 20 (hI S 5 5)) 21 0) (hI T 37) d k (nI F) 0 = σ from hσ] at r1 r2 r3 r4 r5 r6
  have s21 : σ 21 = 0 ∨ σ 21 = 1 := by
    rw [← hσ]
    exact mTk_21b (Or.inl rfl)
  have s23 : σ 23 = 0 ∨ σ 23 = 1 := by
    rw [← hσ]
    unfold rtS
    rw [mTk_23]
    exact tkTh_01 _ _
  have sfr : ∀ j, j < 19 ∨ 23 < j → σ j = hI T 33 j := by
    intro j hj
    rw [← hσ]
    unfold rtS
    rw [mTk_fr _ _ _ _ _ _ hj, rup_ne (by omega), rup_ne (by omega), rup_ne (by omega)]
  generalize cTk0 (hI S 5) (hI S c) (hI S q) (nI F) 0 = ρ at e1 r1 r2 r3 r4 r5 r6 r7 r8 r9 r10
  refine ⟨_, _, e1, e2, ?_, ⟨rfl, rfl, fun a ha => hI_wC_ne ha⟩, rfl, rfl, ?_, ?_, ?_⟩
  · refine h.upd rfl rfl (fun a ha => hI_wC_ne (by omega)) rfl rfl ?_ ?_ ?_
    · rw [hI_wI_ne (by decide), hI_wI_ne (by decide), hI_wI_ne (by decide), hI_wI_ne (by decide), hI_wI_ne (by decide), hI_wI_ne (by decide), hI_wI_ne (by decide), hI_wI_ne (by decide), hI_wC_ne (by decide)]
    · intro j j1 j3
      rw [hI_wI_j (by omega), hI_wI_j (by omega), hI_wI_j (by omega), hI_wI_j (by omega), hI_wI_j (by omega), hI_wI_j (by omega), hI_wI_j (by omega), hI_wI_j (by omega), hI_wC_ne (by decide)]
    · rw [hI_wC_self]
      refine ⟨?_, ?_, ?_, ?_, ?_, ?_, ?_, ?_, r10, ?_, Or.inr ?_⟩
      · rw [hI_wI_j (by decide), hI_wI_j (by decide), hI_wI_j (by decide), hI_wI_j (by decide), hI_wI_j (by decide), hI_wI_j (by decide), hI_wI_j (by decide), hI_wI_self, r1]
      · rw [hI_wI_j (by decide), hI_wI_j (by decide), hI_wI_j (by decide), hI_wI_j (by decide), hI_wI_j (by decide), hI_wI_j (by decide), hI_wI_self, r2]
      · rw [hI_wI_j (by decide), hI_wI_j (by decide), hI_wI_j (by decide), hI_wI_j (by decide), hI_wI_j (by decide), hI_wI_self, r8, rq.2.2.1]
      · rw [hI_wI_j (by decide), hI_wI_j (by decide), hI_wI_j (by decide), hI_wI_j (by decide), hI_wI_self, r3]
        rcases s21 with z | z
        · rw [z, if_pos rfl]
        · rw [z, if_neg (by decide)]
      · rw [r3]; exact s21
      · rw [hI_wI_j (by decide), hI_wI_j (by decide), hI_wI_j (by decide), hI_wI_self, r9]
      · rw [hI_wI_j (by decide), hI_wI_j (by decide), hI_wI_self, r6, rq.2.2.2.2.2.2.1]
        unfold fmax
        by_cases z : hI S 5 7 < σ 22
        · rw [if_pos z, if_neg (fun y => by have := i32_lt.mp z; have := i32_le.mp y; omega)]
        · rw [if_neg z, if_pos (by have : ¬ _ := fun y => z (i32_lt.mpr y); exact i32_le.mpr (by omega))]
      · rw [hI_wI_j (by decide), hI_wI_self, r5, rq.2.2.2.2.2.2.2.1]
        rcases s23 with z | z
        · rw [z, if_pos rfl]
        · rw [z, if_neg (by decide)]
      · rw [r7]
        exact ⟨rq.2.2.2.2.2.2.2.2.1.1, by decide⟩
      · rw [hI_wI_self, r7]
  · intro a a33 a40
    rw [hI_wI_ne a40, hI_wI_ne a40, hI_wI_ne a40, hI_wI_ne a40, hI_wI_ne a40, hI_wI_ne a40, hI_wI_ne a40, hI_wI_ne a40, hI_wC_ne a33]
  · intro j hj
    rw [hI_wI_ne (by decide), hI_wI_ne (by decide), hI_wI_ne (by decide), hI_wI_ne (by decide), hI_wI_ne (by decide), hI_wI_ne (by decide), hI_wI_ne (by decide), hI_wI_ne (by decide), hI_wC_self, sfr j hj]
  · rw [hI_wI_j (by decide), hI_wI_j (by decide), hI_wI_j (by decide), hI_wI_j (by decide), hI_wI_j (by decide), hI_wI_j (by decide), hI_wI_j (by decide), hI_wI_j (by decide), hI_wC_ne (by decide)]
/-- what TICKS leave as it was: of the class, of the reference -/
def TS (S S2 : HS) : Prop := S2.1 = S.1 ∧ hP S2 = hP S ∧ ∀ a, a ≠ 5 → hI S2 a = hI S a
def TT (T T2 : HS) : Prop := T2.1 = T.1 ∧ hP T2 = hP T ∧ (∀ a, a ≠ 33 → a ≠ 40 → hI T2 a = hI T a) ∧ (∀ j, j < 19 ∨ 23 < j → hI T2 33 j = hI T 33 j) ∧ hI T2 40 0 = hI T 40 0
theorem TS.rf (S : HS) : TS S S := ⟨rfl, rfl, fun _ _ => rfl⟩
theorem TT.rf (S : HS) : TT S S := ⟨rfl, rfl, fun _ _ _ => rfl, fun _ _ => rfl, rfl⟩
theorem TS.tr {S T U : HS} (h : TS S T) (g : TS T U) : TS S U := ⟨g.1.trans h.1, g.2.1.trans h.2.1, fun a ha => (g.2.2 a ha).trans (h.2.2 a ha)⟩
theorem TT.tr {S T U : HS} (h : TT S T) (g : TT T U) : TT S U := ⟨g.1.trans h.1, g.2.1.trans h.2.1, fun a a1 a2 => (g.2.2.1 a a1 a2).trans (h.2.2.1 a a1 a2), fun j hj => (g.2.2.2.1 j hj).trans (h.2.2.2.1 j hj), g.2.2.2.2.trans h.2.2.2.2⟩
theorem go_loop {c q hd d k g N : Nat} (hN : N < 2 ^ 31) : ∀ (n F1 F2 i : Nat) (S T : HS), GW S T c q hd d k g → n < F1 → n < F2 → i + n = N → ∃ r S2 T2, s_X11_go_L38 0 F1 S (nI N) (some 5) (some hd) (nI i) = some (r, S2) ∧ s_X12_go_L34 33 F2 T (nI N) (nI i) = some (r, T2) ∧ GW S2 T2 c q hd d k g ∧ TS S S2 ∧ TT T T2 := by
  intro n
  induction n with
  | zero =>
    intro F1 F2 i S T h hF1 hF2 hi
    obtain ⟨F1, rfl⟩ : ∃ z, F1 = z + 1 := ⟨F1 - 1, by omega⟩
    obtain ⟨F2, rfl⟩ : ∃ z, F2 = z + 1 := ⟨F2 - 1, by omega⟩
    have le : nI N ≤ nI i := (nI_le_iff (by omega) (by omega)).mpr (by omega)
    refine ⟨nI i, S, T, ?_, ?_, h, TS.rf S, TT.rf T⟩
    · show s_X11_go_b38 _ 0 S (nI N) (some 5) (some hd) (nI i) = _
      unfold s_X11_go_b38
      rw [if_pos le]
    · show s_X12_go_b34 _ 33 T (nI N) (nI i) = _
      unfold s_X12_go_b34
      rw [if_pos le]
  | succ n ih =>
    intro F1 F2 i S T h hF1 hF2 hi
    obtain ⟨F1, rfl⟩ : ∃ z, F1 = z + 1 := ⟨F1 - 1, by omega⟩
    obtain ⟨F2, rfl⟩ : ∃ z, F2 = z + 1 := ⟨F2 - 1, by omega⟩
    have nle : ¬ nI N ≤ nI i := fun z => by have := (nI_le_iff (by omega) (by omega)).mp z; omega
    have rq := h.rq
    by_cases z : hI S 5 11 = 0
    · obtain ⟨F, hF, a1, a2⟩ := ruled_eq h
      obtain ⟨S1, T1, b1, b2, b3, b4, b5⟩ := h.tick z hF
      obtain ⟨r, S2, T2, i1, i2, i3, i4, i5⟩ := ih F1 F2 (i + 1) S1 T1 b3 (by omega) (by omega) (by omega)
      have hh := h.2.2.2.2.2.2.2.2.2.2.2.1
      refine ⟨r, S2, T2, ?_, ?_, i3, TS.tr b4 i4, TT.tr b5 i5⟩
      · show s_X11_go_b38 _ 0 S (nI N) (some 5) (some hd) (nI i) = _
        unfold s_X11_go_b38
        rw [if_neg nle, h.i5, if_pos z, kO_some hh.1 hh.2.1, a1, kc_some, h.o5, b1, kcv_some, nI_1]
        exact i1
      · show s_X12_go_b34 _ 33 T (nI N) (nI i) = _
        unfold s_X12_go_b34
        rw [if_neg nle, h.nw 7 (by decide) (i := 7) rfl, rq.2.2.2.1, if_pos z, kO_m h.2.1, a2, kc_some, kO_m h.2.1, b2, kcv_some, nI_1]
        exact i2
    · refine ⟨nI i, S, T, ?_, ?_, h, TS.rf S, TT.rf T⟩
      · show s_X11_go_b38 _ 0 S (nI N) (some 5) (some hd) (nI i) = _
        unfold s_X11_go_b38
        rw [if_neg nle, h.i5, if_neg z]
      · show s_X12_go_b34 _ 33 T (nI N) (nI i) = _
        unfold s_X12_go_b34
        rw [if_neg nle, h.nw 7 (by decide) (i := 7) rfl, rq.2.2.2.1, if_neg z]
