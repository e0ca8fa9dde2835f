/-! ===== go, now ===== -/
theorem RN.upd {S T : HS} {b : Nat} {β : Nat → Int32} {ro : Nat → Option Nat} {ρ ν ρ2 ν2 : Nat → Int32} {hd q : Nat} (h : RN S b β ro ρ ν) (hd2 : ro 2 = some hd) (hq : ro 1 = some q) (eP : hP T = hP S) (eq : hI T q = hI S q) (en : ∀ j, j < 4 → ν2 j = ν j) (rq : RQ (hI T q) ρ2 ν2) : RN T b β ro ρ2 ν2 := by
  unfold RN at h ⊢
  rw [hd2] at h ⊢
  dsimp only at h ⊢
  obtain ⟨h0, a0, a1, a2, d, k, g, c, q', e0, e1, e2, u, w, ⟨x1, x2, x3⟩, y1, ⟨y2, y3⟩, y4, -⟩ := h
  have E : q' = q := Option.some.inj (y2.symm.trans hq)
  subst E
  refine ⟨by rw [en 0 (by decide)]; exact h0, a0, a1, a2, d, k, g, c, q', by rw [eP]; exact e0, by rw [eP]; exact e1, by rw [eP]; exact e2, u, w, ⟨by rw [en 1 (by decide)]; exact x1, by rw [en 2 (by decide)]; exact x2, by rw [en 3 (by decide)]; exact x3⟩, by rw [eP]; exact y1, by rw [eP]; exact ⟨y2, y3⟩, by rw [eP]; exact y4, ?_⟩
  exact rq
theorem RR.ran {S T : HS} (h : RR S) (e1 : T.1 = S.1) (eP : hP T = hP S) (hi : ∀ a, a ≠ 0 → a ≠ 5 → a ≠ 33 → a ≠ 40 → hI T a = hI S a) (h0 : hI T 0 6 = hI S 0 6 ∧ hI T 0 8 = hI S 0 8) (h7 : hI T 0 7 = hI T 33 1) (h33 : ∀ j, j = 7 ∨ j = 9 ∨ j = 10 ∨ j = 25 ∨ j = 31 → hI T 33 j = hI S 33 j) (hR : SR T (hP S 4 1) (hP S 5) (hI T 5) (hI S 33 7) (hI S 37) (hI T 40)) : RR T := by
  obtain ⟨r1, r2, r3, r4, r5, r6, r7, r8⟩ := h
  have hag : AG S T := AG_of e1 eP (fun c hc => hi c (by omega) (by omega) (by omega) (by omega))
  refine ⟨LM_of r1 e1 eP, LC_of r2 e1 eP, ?_, ?_, ⟨?_, h7, ?_⟩, ?_, ?_, ?_⟩
  · intro r hr
    exact (show RS S r from r3 r hr).keep (hi _ (by omega) (by omega) (by omega) (by omega)) (hi _ (by omega) (by omega) (by omega) (by omega)) (by rw [hi 34 (by decide) (by decide) (by decide) (by decide)]) (by rw [hi 35 (by decide) (by decide) (by decide) (by decide)]) (fun j _ => by rw [hi 36 (by decide) (by decide) (by decide) (by decide)])
  · rw [hi 2 (by decide) (by decide) (by decide) (by decide), hi 3 (by decide) (by decide) (by decide) (by decide), hi 39 (by decide) (by decide) (by decide) (by decide), h33 9 (by omega)]
    exact r4
  · rw [h0.1, h33 10 (by omega)]; exact r5.1
  · rw [h0.2, h33 25 (by omega)]; exact r5.2.2
  · rw [eP, h33 7 (by omega), hi 37 (by decide) (by decide) (by decide) (by decide)]
    exact hR
  · intro k hk
    rw [eP, hi (30 + 2 * k) (by omega) (by omega) (by omega) (by omega), hi 42 (by decide) (by decide) (by decide) (by decide), hi 43 (by decide) (by decide) (by decide) (by decide), hi 44 (by decide) (by decide) (by decide) (by decide), h33 7 (by omega)]
    exact ⟨(r7 k hk).1.keep hag, (r7 k hk).2⟩
  · rw [hi 11 (by decide) (by decide) (by decide) (by decide), hi 12 (by decide) (by decide) (by decide) (by decide), hi 45 (by decide) (by decide) (by decide) (by decide), h33 31 (by omega)]
    exact r8
theorem GW.to {S S1 T : HS} {c q hd d k g : Nat} (h : GW S S c q hd d k g) (t : TS S S1) (e1 : T.1 = S1.1) (eP : hP T = hP S1) (e37 : hI T 37 = hI S1 37) (e40 : hI T 40 = hI S1 40) : GW S T c q hd d k g := by
  have f40 : hI T 40 = hI S 40 := e40.trans (t.2.2 40 (by decide))
  exact h.upd rfl rfl (fun _ _ => rfl) (e1.trans t.1) (eP.trans t.2.1) (e37.trans (t.2.2 37 (by decide))) (fun j _ _ => by rw [f40]) (by rw [f40]; exact h.rq)
theorem RR.run2 {S S1 T0 T2 : HS} {b c q hd d k g : Nat} (h : RR S) (hb : hP S 4 1 = some b) (hw : GW S S c q hd d k g) (t : TS S S1) (tt : TT T0 T2) (w2 : GW S1 T2 c q hd d k g) (e1 : T0.1 = S1.1) (eP : hP T0 = hP S1) (ei : ∀ a, a ≠ 0 → a ≠ 33 → hI T0 a = hI S1 a) (h0 : hI T0 0 6 = hI S1 0 6 ∧ hI T0 0 8 = hI S1 0 8) (h7 : hI T0 0 7 = hI T0 33 1) (h33 : ∀ j, j = 7 ∨ j = 9 ∨ j = 10 ∨ j = 25 ∨ j = 31 → hI T0 33 j = hI S1 33 j) : RR T2 := by
  have x1 : T2.1 = S.1 := tt.1.trans (e1.trans t.1)
  have xP : hP T2 = hP S := tt.2.1.trans (eP.trans t.2.1)
  have xi : ∀ a, a ≠ 0 → a ≠ 5 → a ≠ 33 → a ≠ 40 → hI T2 a = hI S a := fun a a0 a5 a33 a40 => (tt.2.2.1 a a33 a40).trans ((ei a a0 a33).trans (t.2.2 a a5))
  have s0 : hI S1 0 = hI S 0 := t.2.2 0 (by decide)
  have t0 : hI T2 0 = hI T0 0 := tt.2.2.1 0 (by decide) (by decide)
  have t5 : hI T2 5 = hI S1 5 := (tt.2.2.1 5 (by decide) (by decide)).trans (ei 5 (by decide) (by decide))
  have hag : AG S T2 := AG_of x1 xP (fun c hc => xi c (by omega) (by omega) (by omega) (by omega))
  refine h.ran x1 xP xi ⟨?_, ?_⟩ ?_ ?_ ?_
  · rw [t0, h0.1, s0]
  · rw [t0, h0.2, s0]
  · rw [t0, tt.2.2.2.1 1 (by decide)]; exact h7
  · intro j hj
    rw [tt.2.2.2.1 j (by omega), h33 j hj, t.2.2 33 (by decide)]
  · have r6 := h.2.2.2.2.2.1
    rw [hb] at r6 ⊢
    obtain ⟨y1, y2, y3⟩ := r6
    obtain ⟨p0, p1, p2⟩ := hw.2.2.1
    obtain ⟨q0, q1, q2⟩ := hw.2.2.2.1
    have eq : hI T2 q = hI S q := xi q (by omega) (by omega) (by omega) (by omega)
    refine ⟨y1, y2.keep hag, y3.upd p2 p1 xP eq ?_ ?_⟩
    · intro j hj
      have m0 := w2.m1
      by_cases z : j = 0
      · subst z
        rw [tt.2.2.2.2, ei 40 (by decide) (by decide), t.2.2 40 (by decide)]
      · rcases (by omega : j = 1 ∨ j = 2 ∨ j = 3) with z | z | z
        · rw [z, w2.m1, hw.m1]
        · rw [z, w2.m2, hw.m2]
        · rw [z, w2.m3, hw.m3]
    · rw [eq, t5]
      have := w2.rq
      rw [t.2.2 q (by omega)] at this
      exact this
theorem ok_go {S : HS} (h : RR S) (l1 : Int32) : CK (fun S => s_X11_go S 0 l1) (fun S => s_X12_go S 33 l1) S := by
  have hC := h.2.1
  have hM := h.1
  have t1 : (1 : Int32).toInt = 1 := rfl
  have t200 : (200 : Int32).toInt = 200 := rfl
  show ∃ r S1 S2, s_X11_go S 0 l1 = some (r, S1) ∧ s_X12_go S1 33 l1 = some (r, S2) ∧ RR S2
  have mo : ∀ X, LM X → s_X12_go X 33 l1 = (if 1 ≤ l1.toInt ∧ l1.toInt ≤ 200 then (if hI X 40 0 = 0 then some (-1000002, wI X 33 0 0) else s_X12_go_L34 33 100000 (wI X 33 0 0) l1 0) else some (-1000001, wI X 33 0 0)) := by
    intro X hX
    have hX2 : LM (wI X 33 0 0) := hX
    have e40 : hI (wI X 33 0 0) 40 = hI X 40 := hI_wI_ne (by decide)
    unfold s_X12_go
    rw [kwI_m hX, m_inI _ (a := 1) (b := 200) rfl rfl, kc_some]
    by_cases c1 : 1 ≤ l1.toInt ∧ l1.toInt ≤ 200
    · rw [if_pos c1, if_neg (by decide), if_pos c1, nw40 hX2 0 (by decide) (i := 0) rfl, e40]
    · rw [if_neg c1, if_pos rfl, if_neg c1]
  unfold s_X11_go
  by_cases c1 : l1 < 1
  · have d1 := i32_lt.mp c1
    rw [if_pos c1]
    exact ⟨_, S, _, rfl, by rw [mo S hM, if_neg (by omega)], h.w0⟩
  · have d1 : ¬ _ := fun z => c1 (i32_lt.mpr z)
    rw [if_neg c1]
    by_cases c2 : l1 ≤ 200
    · have d2 := i32_le.mp c2
      have good : 1 ≤ l1.toInt ∧ l1.toInt ≤ 200 := by omega
      rw [if_pos c2, kP_c0_2 hC, kP_c4_0 hC, kP_c5 hC]
      rcases h.run with ⟨n1, n2⟩ | ⟨b, c, q, hd, d, k, g, hb, h40, hD, hQ, hw⟩
      · rw [n1, if_pos rfl]
        exact ⟨_, S, _, rfl, by rw [mo S hM, if_pos good, n2, if_pos rfl], h.w0⟩
      · rw [hw.2.2.1.2.2, if_neg (by simp)]
        obtain ⟨N, hN, -, hN2⟩ := I_N (n := l1) (a := 1) (b := 200) good.1 good.2 (by decide)
        subst hN
        obtain ⟨r, S1, T1, a1, a2, a3, a4, a5⟩ := go_loop (N := N) (by omega) N 100000 100000 0 S S hw (by omega) (by omega) (by omega)
        have hM1 : LM S1 := LM_of hM a4.1 a4.2.1
        have hw2 : GW S (wI S1 33 0 0) c q hd d k g := hw.to a4 rfl rfl (hI_wI_ne (by decide)) (hI_wI_ne (by decide))
        obtain ⟨r', S1', T2, b1, b2, b3, b4, b5⟩ := go_loop (N := N) (by omega) N 100000 100000 0 S (wI S1 33 0 0) hw2 (by omega) (by omega) (by omega)
        obtain ⟨x1, x2⟩ := Prod.mk.inj (det a1 b1)
        subst x1
        subst x2
        have e40 : hI S1 40 0 = 1 := by rw [a4.2.2 40 (by decide)]; exact h40
        refine ⟨r, S1, T2, a1, ?_, ?_⟩
        · rw [mo S1 hM1, if_pos good, e40, if_neg (by decide)]
          exact b2
        · refine h.run2 hb hw a4 b5 b3 rfl rfl (fun a _ a33 => hI_wI_ne a33) ⟨?_, ?_⟩ ?_ ?_
          · rw [hI_wI_ne (by decide)]
          · rw [hI_wI_ne (by decide)]
          · rw [hI_wI_ne (by decide), hI_wI_j (by decide), a4.2.2 0 (by decide), a4.2.2 33 (by decide)]
            exact h.2.2.2.2.1.2.1
          · intro j hj
            rw [hI_wI_j (by omega)]
    · have d2 : ¬ _ := fun z => c2 (i32_le.mpr z)
      rw [if_neg c2]
      exact ⟨_, S, _, rfl, by rw [mo S hM, if_neg (by omega)], h.w0⟩
theorem ok_now {S : HS} (h : RR S) (l1 : Int32) : CK (fun S => s_X11_now S 0 l1) (fun S => s_X12_now S 33 l1) S := by
  have hC := h.2.1
  have hM := h.1
  have t0 : (0 : Int32).toInt = 0 := rfl
  have t8 : (8 : Int32).toInt = 8 := rfl
  have hX : LM (wI S 33 0 0) := hM
  have e40 : hI (wI S 33 0 0) 40 = hI S 40 := hI_wI_ne (by decide)
  have e37 : hI (wI S 33 0 0) 37 = hI S 37 := hI_wI_ne (by decide)
  show ∃ r S1 S2, s_X11_now S 0 l1 = some (r, S1) ∧ s_X12_now S1 33 l1 = some (r, S2) ∧ RR S2
  have bad : ¬ (0 ≤ l1.toInt ∧ l1.toInt ≤ 8) → ∃ r S1 S2, (some (-1000001, S) : Option (Int32 × HS)) = some (r, S1) ∧ s_X12_now S1 33 l1 = some (r, S2) ∧ RR S2 := by
    intro hb
    refine ⟨_, S, wI S 33 0 0, rfl, ?_, h.w0⟩
    unfold s_X12_now
    rw [kwI_m hM, m_inI _ (a := 0) (b := 8) rfl rfl, kc_some, if_neg hb, if_pos rfl]
  unfold s_X11_now
  by_cases c1 : l1 < 0
  · have d1 := i32_lt.mp c1
    rw [if_pos c1]
    exact bad (by omega)
  · have d1 : ¬ _ := fun z => c1 (i32_lt.mpr z)
    rw [if_neg c1]
    by_cases c2 : l1 ≤ 8
    · have d2 := i32_le.mp c2
      have good : 0 ≤ l1.toInt ∧ l1.toInt ≤ 8 := by omega
      rw [if_pos c2, kP_c0_2 hC, kP_c4_0 hC, kP_c5 hC]
      rcases h.run with ⟨n1, n2⟩ | ⟨b, c, q, hd, d, k, g, hb, h40, hD, hQ, hw⟩
      · rw [n1, if_pos rfl]
        refine ⟨_, S, wI S 33 0 0, rfl, ?_, h.w0⟩
        unfold s_X12_now
        rw [kwI_m hM, m_inI _ (a := 0) (b := 8) rfl rfl, kc_some, if_pos good, if_neg (by decide), nw40 hX 0 (by decide) (i := 0) rfl, e40, n2, if_pos rfl]
      · rw [hw.2.2.1.2.2, if_neg (by simp)]
        have hw2 : GW S (wI S 33 0 0) c q hd d k g := hw.to (TS.rf S) rfl rfl e37 e40
        have rq := hw.rq
        obtain ⟨q1, q2, q3, q4, q5, q6, q7, q8, -⟩ := id rq
        -- one answer of both
        obtain ⟨R, mo0⟩ : ∃ R, s_X12_now S 33 l1 = R := ⟨_, rfl⟩
        have fin : ∀ v : Int32, R = some (v, wI S 33 0 0) → ∃ r S1 S2, (some (v, S) : Option (Int32 × HS)) = some (r, S1) ∧ s_X12_now S1 33 l1 = some (r, S2) ∧ RR S2 := fun v hv => ⟨v, S, _, rfl, mo0.trans hv, h.w0⟩
        have mo := mo0
        unfold s_X12_now at mo
        rw [kwI_m hM, m_inI _ (a := 0) (b := 8) rfl rfl, kc_some, if_pos good, if_neg (by decide), nw40 hX 0 (by decide) (i := 0) rfl, e40, h40, if_neg (by decide)] at mo
        by_cases z0 : l1 = 0
        · rw [if_pos z0, hw.i5]
          exact fin _ (by rw [← mo, if_pos z0, nw40 hX 4 (by decide) (i := 4) rfl, e40, q1])
        · rw [if_neg z0] at mo ⊢
          by_cases z1 : l1 = 1
          · rw [if_pos z1, hw.i5]
            exact fin _ (by rw [← mo, if_pos z1, nw40 hX 5 (by decide) (i := 5) rfl, e40, q2])
          · rw [if_neg z1] at mo ⊢
            by_cases z2 : l1 = 2
            · rw [if_pos z2, hw.i5]
              exact fin _ (by rw [← mo, if_pos z2, nw40 hX 6 (by decide) (i := 6) rfl, e40, q3])
            · rw [if_neg z2] at mo ⊢
              by_cases z3 : l1 = 3
              · rw [if_pos z3, hw.i5]
                rw [if_pos z3, nw40 hX 7 (by decide) (i := 7) rfl, e40, q4] at mo
                rcases q5 with z | z
                · rw [z, if_pos rfl]
                  exact fin _ (by rw [← mo, z])
                · rw [z, if_neg (by decide)]
                  exact fin _ (by rw [← mo, z])
              · rw [if_neg z3] at mo ⊢
                by_cases z4 : l1 = 4
                · rw [if_pos z4, hw.p51, hw.i5, hw.oq, (hw.shorts _).1, kc_some, fabs_sz]
                  exact fin _ (by rw [← mo, if_pos z4, kO_m hX, hw2.shortNow, kc_some])
                · rw [if_neg z4] at mo ⊢
                  by_cases z5 : l1 = 5
                  · rw [if_pos z5, hw.i5]
                    exact fin _ (by rw [← mo, if_pos z5, nw40 hX 8 (by decide) (i := 8) rfl, e40, q6])
                  · rw [if_neg z5] at mo ⊢
                    by_cases z6 : l1 = 6
                    · rw [if_pos z6, hw.i5]
                      exact fin _ (by rw [← mo, if_pos z6, nw40 hX 9 (by decide) (i := 9) rfl, e40, q7])
                    · rw [if_neg z6] at mo ⊢
                      by_cases z7 : l1 = 7
                      · rw [if_pos z7, hw.i5, hw.p50, hw.ic]
                        exact fin _ (by rw [← mo, if_pos z7, nw40 hX 5 (by decide) (i := 5) rfl, e40, q2, m_sz, nw40 hX 1 (by decide) (i := 1) rfl, e40, hw.m1, kO_m hX, m_discOf hX rfl (l2 := 2) (j := 2) rfl hw.2.2.2.2.2.1.1 (by decide), kc_some, e37, ← hw.c37 (j := 2) (by decide), fabs_sz])
                      · rw [if_neg z7] at mo ⊢
                        rw [hw.i5]
                        exact fin _ (by rw [← mo, nw40 hX 10 (by decide) (i := 10) rfl, e40, q8])
    · have d2 : ¬ _ := fun z => c2 (i32_le.mpr z)
      rw [if_neg c2]
      exact bad (by omega)
