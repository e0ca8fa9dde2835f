/-! ===== sound, wobble, shorter: the calls ===== -/
theorem RR.nt {S : HS} (h : RR S) (v : Int32) {r : Nat} (hr : r < 8) : RS (wI S 0 7 v) r := (h.rs hr).keep (hI_wI_ne (by omega)) (hI_wI_ne (by omega)) (by rw [hI_wI_ne (by decide)]) (by rw [hI_wI_ne (by decide)]) (fun j _ => by rw [hI_wI_ne (by decide)])
theorem toN {v : Int32} {b : Nat} (h0 : 0 ≤ v.toInt) (h1 : v.toInt ≤ (b : Int)) : v = nI v.toInt.toNat ∧ v.toInt.toNat ≤ b := ⟨(ix_to (i := v) (lo := 0) (hi := (b : Int) + 1) h0 (by omega) (by decide)).1, by omega⟩
theorem ok_sound {S : HS} (h : RR S) (l1 l2 l3 l4 l5 : Int32) : CK (fun S => s_X11_sound S 0 l1 l2 l3 l4 l5) (fun S => s_X12_sound S 33 l1 l2 l3 l4 l5) S := by
  obtain ⟨nd, nc, nh, hd, hc, -, nd4, nc4, -⟩ := h.cnt
  have hC := h.2.1
  have hM := h.1
  have t0 : (0 : Int32).toInt = 0 := rfl
  have t1 : (1 : Int32).toInt = 1 := rfl
  have t2 : (2 : Int32).toInt = 2 := rfl
  have t40 : (40 : Int32).toInt = 40 := rfl
  show ∃ r S1 S2, s_X11_sound S 0 l1 l2 l3 l4 l5 = some (r, S1) ∧ s_X12_sound S1 33 l1 l2 l3 l4 l5 = some (r, S2) ∧ RR S2
  -- the reference up to noTones
  have mo : ∀ X, LM X → hI X 37 = hI S 37 → s_X12_sound X 33 l1 l2 l3 l4 l5 = (if (0 ≤ l1.toInt ∧ l1.toInt < nd) ∧ (0 ≤ l2.toInt ∧ l2.toInt ≤ 7) ∧ (2 ≤ l4.toInt ∧ l4.toInt ≤ 40) ∧ (0 ≤ l5.toInt ∧ l5.toInt ≤ 1) then kc (s_X12_noTones (wI X 33 0 0) 33 l2 l3 l4) (fun v12 S11 => if v12 = 0 then (kwI S11 (some 33) 12 1 0 (fun S14 => s_X12_sound_L101 33 100000 S14 l1 l2 l3 l4 l5 0 0 0 0 0)) else (if 0 ≤ v12 then (kO S11 (some 33) 12 (fun a17 => kc (s_X12_finding S11 a17 v12) (fun v16 S15 => some (v16, S15)))) else (some ((-1000001), S11)))) else some (-1000001, wI X 33 0 0)) := by
    intro X hX e37
    have hX2 : LM (wI X 33 0 0) := hX
    have f37 : hI (wI X 33 0 0) 37 = hI S 37 := by rw [hI_wI_ne (by decide)]; exact e37
    unfold s_X12_sound
    rw [kwI_m hX, kO_m hX2, m_isDisc hX2 (by rw [f37]; exact hd) nd4, kc_some]
    by_cases c1 : 0 ≤ l1.toInt ∧ l1.toInt < nd
    · rw [if_pos c1, if_neg (by decide), m_isRow, kc_some]
      by_cases c2 : 0 ≤ l2.toInt ∧ l2.toInt ≤ 7
      · rw [if_pos c2, if_neg (by decide), m_inI _ (a := 2) (b := 40) rfl rfl, kc_some]
        by_cases c3 : 2 ≤ l4.toInt ∧ l4.toInt ≤ 40
        · rw [if_pos c3, if_neg (by decide), m_inI _ (a := 0) (b := 1) rfl rfl, kc_some]
          by_cases c4 : 0 ≤ l5.toInt ∧ l5.toInt ≤ 1
          · rw [if_pos c4, if_neg (by decide), if_pos ⟨c1, c2, c3, c4⟩, kO_m hX2]
          · rw [if_neg c4, if_pos rfl, if_neg (fun q => c4 q.2.2.2)]
        · rw [if_neg c3, if_pos rfl, if_neg (fun q => c3 q.2.2.1)]
      · rw [if_neg c2, if_pos rfl, if_neg (fun q => c2 q.2.1)]
    · rw [if_neg c1, if_pos rfl, if_neg (fun q => c1 q.1)]
  have bad : ¬ ((0 ≤ l1.toInt ∧ l1.toInt < nd) ∧ (0 ≤ l2.toInt ∧ l2.toInt ≤ 7) ∧ (2 ≤ l4.toInt ∧ l4.toInt ≤ 40) ∧ (0 ≤ l5.toInt ∧ l5.toInt ≤ 1)) → ∃ r S1 S2, (some (-1000001, S) : Option (Int32 × HS)) = some (r, S1) ∧ s_X12_sound S1 33 l1 l2 l3 l4 l5 = some (r, S2) ∧ RR S2 := fun hb => ⟨_, S, _, rfl, by rw [mo S hM rfl, if_neg hb], h.w0⟩
  unfold s_X11_sound
  rw [kO_c0 hC]
  rcases c_discAt_ h hd nd4 l1 with ⟨d1, d2, c, d, hl1, e, hD⟩ | ⟨d1, e⟩
  · rw [e, kc_some, kO_c0 hC]
    rcases c_rowAt hC l2 with ⟨r, hr, e1, e2⟩ | ⟨nr, e2⟩
    · have z : 0 ≤ l2.toInt ∧ l2.toInt ≤ 7 := by rw [e1, nI_toInt (by omega)]; omega
      rw [e2, kc_some, if_neg (by simp), if_neg (by simp)]
      by_cases c1 : l4 < 2
      · rw [if_pos c1]
        exact bad (fun q => by have := i32_lt.mp c1; omega)
      · have f1 : ¬ _ := fun q => c1 (i32_lt.mpr q)
        rw [if_neg c1]
        by_cases c2 : 40 < l4
        · rw [if_pos c2]
          exact bad (fun q => by have := i32_lt.mp c2; omega)
        · have f2 : ¬ _ := fun q => c2 (i32_lt.mpr q)
          rw [if_neg c2]
          by_cases c3 : l5 < 0
          · rw [if_pos c3]
            exact bad (fun q => by have := i32_lt.mp c3; omega)
          · have f3 : ¬ _ := fun q => c3 (i32_lt.mpr q)
            rw [if_neg c3]
            by_cases c4 : l5 ≤ 1
            · have f4 := i32_le.mp c4
              rw [if_pos c4, kO_row hC hr, c_finding hC hr, kc_some]
              obtain ⟨N, hN, hN1, hN2⟩ := I_N (n := l4) (a := 2) (b := 40) (by omega) (by omega) (by decide)
              have i4 : l4.toInt = (N : Int) := by rw [hN]; exact nI_toInt (by omega)
              have good : (0 ≤ l1.toInt ∧ l1.toInt < nd) ∧ (0 ≤ l2.toInt ∧ l2.toInt ≤ 7) ∧ (2 ≤ l4.toInt ∧ l4.toInt ≤ 40) ∧ (0 ≤ l5.toInt ∧ l5.toInt ≤ 1) := ⟨⟨d1, d2⟩, z, ⟨by omega, by omega⟩, ⟨by omega, by omega⟩⟩
              have nt : ∀ v, LM (wI (wI S 0 7 v) 33 0 0) := fun v => hM
              have xx : ∀ v, _ := fun v => m_noTones (S := S) (T := wI (wI S 0 7 v) 33 0 0) (nt v) (N := N) (l2 := l3) e1 hN hr (by omega) (by omega) (h.rs hr) (by simp (disch := omega) only [hI_wI_ne]) (by simp (disch := omega) only [hI_wI_ne]) (by simp (disch := omega) only [hI_wI_ne]) (by simp (disch := omega) only [hI_wI_ne])
              have mS : ∀ v, s_X12_sound (wI S 0 7 v) 33 l1 l2 l3 l4 l5 = _ := fun v => (mo (wI S 0 7 v) hM (by rw [hI_wI_ne (by decide)])).trans (if_pos good)
              by_cases a1 : hI S (13 + 2 * r) 1 = 0
              · rw [if_pos a1, if_neg (by decide), kO_c0 hC, c_found hC, kc_some]
                refine ⟨_, _, _, rfl, ?_, h.fnd 1⟩
                rcases xx 1 with ⟨b1, b2⟩ | ⟨b1, -⟩ | ⟨I, b1, -⟩
                · rw [mS 1, b2, kc_some, if_neg (by decide), if_pos (by decide), kO_m (nt 1), m_finding (nt 1), kc_some]
                  rfl
                · exact absurd (a1.symm.trans b1) (by decide)
                · exact absurd (a1.symm.trans b1) (by decide)
              · rw [if_neg a1]
                by_cases c5 : 0 ≤ l3.toInt ∧ 0 ≤ l4.toInt ∧ l3.toInt + l4.toInt ≤ (hI S (13 + 2 * r) 3).toInt
                · rw [if_pos c5, if_pos rfl, kO_row hC hr]
                  have i3 : ∀ I : Nat, l3 = nI I → I + N ≤ 40 → l3.toInt = (I : Int) := fun I q q2 => by rw [q]; exact nI_toInt (by omega)
                  rcases xx 0 with ⟨b1, b2⟩ | ⟨b1, b2, b3⟩ | ⟨I, b1, b2, b3, b4, b5⟩
                  · exact absurd b1 a1
                  · exact absurd ⟨c5.1, c5.2.2⟩ b2
                  · rcases c_within hC (mo := 32767) hr b2 hN b3 b4 with ⟨w1, w2⟩ | ⟨w1, w2⟩
                    · rw [w2, kc_some, if_neg (by decide)]
                      rcases b5 with ⟨u1, u2⟩ | ⟨u1, u2⟩
                      · obtain ⟨W, C, T, g0, g1, g2, gW, gW2, gC, gT, gT2⟩ := hD.2.2.2.2.2
                        have ha : ∀ k, k < N → hI S (14 + 2 * r) (I + k) = nI (hI S (14 + 2 * r) (I + k)).toInt.toNat ∧ (hI S (14 + 2 * r) (I + k)).toInt.toNat ≤ 32767 := fun k hk => toN (b := 32767) (u1 k hk).1 (u1 k hk).2
                        have hk3 : hK S c = 3 := hD.2.2.1
                        have hT37 : hI S 37 (3 + 3 * d + 2) = nI T := by rw [← hD.2.2.2.2.1 2 (by decide)]; exact g2
                        have hT0 : ¬ nI T = 0 := nI_ne0 (by omega) (by omega)
                        have e36 : ∀ k, k < N → hI (wI (wI (wI S 0 7 0) 33 0 0) 33 1 0) 36 (40 * r + (I + k)) = nI (hI S (14 + 2 * r) (I + k)).toInt.toNat ∧ (hI S (14 + 2 * r) (I + k)).toInt.toNat ≤ 32767 := by
                          intro k hk
                          simp (disch := omega) only [hI_wI_ne]
                          rw [(h.rs hr).it (by omega)]
                          exact ha k hk
                        have ms := m_sound0 (S := wI (wI (wI S 0 7 0) 33 0 0) 33 1 0) (l5 := l5) hM hl1 e1 b2 hD.2.2.2.1 hr (by simp (disch := omega) only [hI_wI_ne]; exact hT37) gT gT2 b3 (by omega) e36
                        have fin : ∀ v : Int32, v = (if l5 = 0 then PH (fun x => (hI S (14 + 2 * r) (I + x)).toInt.toNat / T) (N - 1) 1 0 0 else MX (fun x => (hI S (14 + 2 * r) (I + x)).toInt.toNat / T) N 0 (nI 0)) → ∃ r S1 S2, s_X11_sound_b126 0 S (some 0) v = some (r, S1) ∧ s_X12_sound S1 33 l1 l2 l3 l4 l5 = some (r, S2) ∧ RR S2 := by
                          intro v hv
                          unfold s_X11_sound_b126
                          rw [kO_c0 hC, c_fine hC, kc_some]
                          refine ⟨_, _, _, rfl, ?_, h.fnd 0⟩
                          rw [mS 0, u2, kc_some, if_pos rfl, kwI_m (nt 0), hv, hN]
                          exact ms
                        by_cases c6 : l5 = 0
                        · rw [if_pos c6, kP_row0 hC hr, kO_some hD.2.1 hk3]
                          have ep := c_phLoop hC hr hD.2.1 hk3 g2 gT gT2 b3 ha (N - 1) 100000 1 0 0 (by omega) (by omega) (by omega)
                          unfold s_X3_pullsHeard
                          rw [b2, hN, nI_1, ep, kc_some, ← b2, ← hN]
                          exact fin _ (by rw [if_pos c6])
                        · rw [if_neg c6, kO_row hC hr]
                          have eg := c_grLoop hC hr b3 ha N 100000 0 0 (by omega) (by omega)
                          have hh : 0 ≤ l3.toInt ∧ 0 ≤ l4.toInt ∧ l3.toInt + l4.toInt ≤ (hI S (13 + 2 * r) 3).toInt := c5
                          unfold s_X6_greatestItem
                          rw [kO_row hC hr, c_holds hC hr, kc_some, if_pos hh, if_neg (by decide), b2, hN]
                          rw [show s_X6_greatestItem_L16 (13 + 2 * r) 100000 S (nI I) (nI N) 0 (nI I) = _ from eg, kc_some, kI_some hD.2.1 hk3, g2, kdiv_ne hT0, ← b2, ← hN]
                          have em := MX_GR gT gT2 (fun k hk => (ha k hk).2) N 0 0 (by omega) (by omega)
                          rw [Nat.zero_div] at em
                          exact fin _ (em.symm.trans (if_neg c6).symm)
                      · exact absurd w1 u1
                    · rw [w2, kc_some, if_pos rfl]
                      have nt2 : LM (wI S 33 0 0) := hM
                      rcases m_noTones (S := S) (T := wI S 33 0 0) nt2 (N := N) (l2 := l3) e1 hN hr (by omega) (by omega) (h.rs hr) (by simp (disch := omega) only [hI_wI_ne]) (by simp (disch := omega) only [hI_wI_ne]) (by simp (disch := omega) only [hI_wI_ne]) (by simp (disch := omega) only [hI_wI_ne]) with ⟨v1, v2⟩ | ⟨v1, v2, v3⟩ | ⟨I', v1, v2, v3, v4, v5⟩
                      · exact absurd v1 a1
                      · exact absurd ⟨c5.1, c5.2.2⟩ v2
                      · have eI : I' = I := (nI_eqI (by omega) (by omega)).mp (v2.symm.trans b2)
                        subst eI
                        rcases v5 with ⟨u1, u2⟩ | ⟨u1, u2⟩
                        · exact absurd u1 w1
                        · refine ⟨_, S, _, rfl, ?_, h.w0⟩
                          rw [mo S hM rfl, if_pos good, u2, kc_some, if_neg (by decide), if_neg (by decide)]
                · rw [if_neg c5, if_neg (by decide), kO_c0 hC, c_found hC, kc_some]
                  refine ⟨_, _, _, rfl, ?_, h.fnd 2⟩
                  rcases xx 2 with ⟨b1, b2⟩ | ⟨b1, b2, b3⟩ | ⟨I, b1, b2, b3, b4, b5⟩
                  · exact absurd b1 a1
                  · rw [mS 2, b3, kc_some, if_neg (by decide), if_pos (by decide), kO_m (nt 2), m_finding (nt 2), kc_some]
                    rfl
                  · exfalso
                    have : l3.toInt = (I : Int) := by rw [b2]; exact nI_toInt (by omega)
                    exact c5 ⟨by omega, by omega, by omega⟩
            · rw [if_neg c4]
              exact bad (fun q => c4 (i32_le.mpr (by omega)))
    · rw [e2, kc_some, if_neg (by simp), if_pos rfl]
      exact bad (fun q => nr q.2.1)
  · rw [e, kc_some, kO_c0 hC]
    have ne : ∃ o, s_X11_rowAt S 0 l2 = some (o, S) := by
      rcases c_rowAt hC l2 with ⟨rb, hb, e3, e'⟩ | ⟨nr, e'⟩
      · exact ⟨_, e'⟩
      · exact ⟨_, e'⟩
    obtain ⟨o, e'⟩ := ne
    rw [e', kc_some, if_pos rfl]
    exact bad (fun q => d1 q.1)
theorem wob_loop {S T : HS} (hM : LM T) {c d O W : Nat} {l1 o : Int32} (h1 : l1 = nI d) (hd : d < 4) (ho : o = nI O) (hO : 1 ≤ O) (hO2 : O ≤ 50) (hc : c < hN S) (kc3 : hK S c = 3) (hW : hI S c 0 = nI W) (hW2 : W ≤ 999) (hW3 : hI T 37 (3 + 3 * d) = nI W) : ∀ (m F1 F2 v : Nat), m < F1 → m < F2 → v + m = 399 → ∃ r, s_X3_greatestPaceOffBy_L4 c F1 S o (nI v) (nI (v + 1)) = some (r, S) ∧ s_X12_wobble_L30 33 F2 T l1 o (nI v) = some (r, T) := by
  have val : ∀ v : Nat, v ≤ 399 → (o * nI (v + 1)) * nI (v + 1) / 100 = nI (O * (v + 1) * (v + 1) / 100) ∧ O * (v + 1) * (v + 1) / 100 < 2 ^ 31 := by
    intro v hv
    have h1 : O * (v + 1) ≤ 50 * 400 := Nat.mul_le_mul hO2 (by omega)
    have h2 : O * (v + 1) * (v + 1) ≤ 50 * 400 * 400 := Nat.mul_le_mul h1 (by omega)
    rw [ho, nI_mul, nI_mul, show (100 : Int32) = nI 100 from rfl, pk_div (by omega) (by decide) (by decide)]
    exact ⟨rfl, by omega⟩
  have md : s_X12_discOf T 33 l1 0 = some (nI W, T) := by rw [m_discOf hM h1 (l2 := 0) (j := 0) rfl hd (by decide)]; rw [show 3 + 3 * d + 0 = 3 + 3 * d from rfl, hW3]
  have n400 : ∀ v : Nat, v ≤ 399 → ¬ (400 : Int32) < nI (v + 1) := fun v hv z => by
    have := i32_lt.mp z
    rw [nI_toInt (by omega), show (400 : Int32).toInt = 400 from rfl] at this
    omega
  have cs : ∀ (F v : Nat), v ≤ 399 → s_X3_greatestPaceOffBy_L4 c (F + 1) S o (nI v) (nI (v + 1)) = if W < O * (v + 1) * (v + 1) / 100 then some (nI v, S) else s_X3_greatestPaceOffBy_L4 c F S o (nI (v + 1)) (nI (v + 1 + 1)) := by
    intro F v hv
    obtain ⟨e1, e2⟩ := val v hv
    show s_X3_greatestPaceOffBy_b4 (s_X3_greatestPaceOffBy_L4 c F) c S o (nI v) (nI (v + 1)) = _
    unfold s_X3_greatestPaceOffBy_b4
    rw [if_neg (n400 v hv), kdiv_ne (by decide), kI_some hc kc3, hW, e1, nI_1 (v + 1)]
    by_cases q : W < O * (v + 1) * (v + 1) / 100
    · rw [if_pos q, if_pos ((nI_ltI (by omega) e2).mpr q)]
    · rw [if_neg q, if_neg (fun z => q ((nI_ltI (by omega) e2).mp z))]
  have ms : ∀ (F v : Nat), v ≤ 399 → s_X12_wobble_L30 33 (F + 1) T l1 o (nI v) = if W < O * (v + 1) * (v + 1) / 100 then some (nI v, T) else s_X12_wobble_L30 33 F T l1 o (nI (v + 1)) := by
    intro F v hv
    obtain ⟨e1, e2⟩ := val v hv
    show s_X12_wobble_b30 (s_X12_wobble_L30 33 F) 33 T l1 o (nI v) = _
    unfold s_X12_wobble_b30
    rw [nI_1 v, kdiv_ne (by decide), kO_m hM, md, kc_some, e1]
    by_cases q : W < O * (v + 1) * (v + 1) / 100
    · rw [if_pos q, if_pos ((nI_ltI (by omega) e2).mpr q)]
    · rw [if_neg q, if_neg (fun z => q ((nI_ltI (by omega) e2).mp z))]
  intro m
  induction m with
  | zero =>
    intro F1 F2 v hF1 hF2 hv
    obtain ⟨F1, rfl⟩ : ∃ z, F1 = z + 1 := ⟨F1 - 1, by omega⟩
    obtain ⟨F2, rfl⟩ : ∃ z, F2 = z + 1 := ⟨F2 - 1, by omega⟩
    obtain rfl : v = 399 := by omega
    have q : W < O * (399 + 1) * (399 + 1) / 100 := by
      have h1 : 1 * 400 * 400 ≤ O * (399 + 1) * (399 + 1) := Nat.mul_le_mul (Nat.mul_le_mul hO (by decide)) (by decide)
      omega
    exact ⟨nI 399, by rw [cs F1 399 (by decide), if_pos q], by rw [ms F2 399 (by decide), if_pos q]⟩
  | succ m ih =>
    intro F1 F2 v hF1 hF2 hv
    obtain ⟨F1, rfl⟩ : ∃ z, F1 = z + 1 := ⟨F1 - 1, by omega⟩
    obtain ⟨F2, rfl⟩ : ∃ z, F2 = z + 1 := ⟨F2 - 1, by omega⟩
    rw [cs F1 v (by omega), ms F2 v (by omega)]
    by_cases q : W < O * (v + 1) * (v + 1) / 100
    · rw [if_pos q, if_pos q]
      exact ⟨_, rfl, rfl⟩
    · rw [if_neg q, if_neg q]
      exact ih F1 F2 (v + 1) (by omega) (by omega) (by omega)
theorem ok_wobble {S : HS} (h : RR S) (l1 l2 : Int32) : CK (fun S => s_X11_wobble S 0 l1 l2) (fun S => s_X12_wobble S 33 l1 l2) S := by
  obtain ⟨nd, nc, nh, hd, hc, -, nd4, nc4, -⟩ := h.cnt
  have hC := h.2.1
  have hM := h.1
  have t1 : (1 : Int32).toInt = 1 := rfl
  have t50 : (50 : Int32).toInt = 50 := rfl
  have hM2 : LM (wI S 33 0 0) := hM
  show ∃ r S1 S2, s_X11_wobble S 0 l1 l2 = some (r, S1) ∧ s_X12_wobble S1 33 l1 l2 = some (r, S2) ∧ RR S2
  have mo : s_X12_wobble S 33 l1 l2 = (if (0 ≤ l1.toInt ∧ l1.toInt < nd) ∧ (1 ≤ l2.toInt ∧ l2.toInt ≤ 50) then s_X12_wobble_L30 33 100000 (wI S 33 0 0) l1 l2 0 else some (-1000001, wI S 33 0 0)) := by
    unfold s_X12_wobble
    rw [kwI_m hM, kO_m hM2, m_isDisc hM2 (by rw [hI_wI_ne (by decide)]; exact hd) nd4, kc_some]
    by_cases c1 : 0 ≤ l1.toInt ∧ l1.toInt < nd
    · rw [if_pos c1, if_neg (by decide), m_inI _ (a := 1) (b := 50) rfl rfl, kc_some]
      by_cases c2 : 1 ≤ l2.toInt ∧ l2.toInt ≤ 50
      · rw [if_pos c2, if_neg (by decide), if_pos ⟨c1, c2⟩]
      · rw [if_neg c2, if_pos rfl, if_neg (fun q => c2 q.2)]
    · rw [if_neg c1, if_pos rfl, if_neg (fun q => c1 q.1)]
  have bad : ¬ ((0 ≤ l1.toInt ∧ l1.toInt < nd) ∧ (1 ≤ l2.toInt ∧ l2.toInt ≤ 50)) → ∃ r S1 S2, (some (-1000001, S) : Option (Int32 × HS)) = some (r, S1) ∧ s_X12_wobble S1 33 l1 l2 = some (r, S2) ∧ RR S2 := fun hb => ⟨_, S, _, rfl, by rw [mo, if_neg hb], h.w0⟩
  unfold s_X11_wobble
  rw [kO_c0 hC]
  rcases c_discAt_ h hd nd4 l1 with ⟨d1, d2, c, d, hl1, e, hD⟩ | ⟨d1, e⟩
  · rw [e, kc_some, if_neg (by simp)]
    by_cases c1 : l2 < 1
    · rw [if_pos c1]
      exact bad (fun q => by have := i32_lt.mp c1; omega)
    · have f1 : ¬ _ := fun q => c1 (i32_lt.mpr q)
      rw [if_neg c1]
      by_cases c2 : l2 ≤ 50
      · have f2 := i32_le.mp c2
        obtain ⟨O, hO, hO1, hO2⟩ := I_N (n := l2) (a := 1) (b := 50) (by omega) (by omega) (by decide)
        obtain ⟨W, C, T, g0, g1, g2, gW, gW2, gC, gT, gT2⟩ := hD.2.2.2.2.2
        obtain ⟨r, o1, o2⟩ := wob_loop (S := S) (T := wI S 33 0 0) hM2 hl1 hD.2.2.2.1 hO (by omega) (by omega) hD.2.1 hD.2.2.1 g0 gW2 (by rw [hI_wI_ne (by decide), ← g0]; exact (hD.2.2.2.2.1 0 (by decide)).symm) 399 100000 100000 0 (by decide) (by decide) (by decide)
        rw [if_pos c2, kO_some hD.2.1 hD.2.2.1]
        unfold s_X3_greatestPaceOffBy
        rw [show s_X3_greatestPaceOffBy_L4 c 100000 S l2 0 1 = some (r, S) from o1, kc_some]
        refine ⟨r, S, _, rfl, ?_, h.w0⟩
        rw [mo, if_pos ⟨⟨d1, d2⟩, by omega, by omega⟩]
        exact o2
      · rw [if_neg c2]
        exact bad (fun q => c2 (i32_le.mpr (by omega)))
  · rw [e, kc_some, if_pos rfl]
    exact bad (fun q => d1 q.1)
theorem csSl_w {a b w : Int32} (h : 0 ≤ w.toInt) : csSl a b w = fSl a b w := by
  unfold csSl fSl
  by_cases c : w = 0
  · rw [c]
    rfl
  · rw [if_pos (i32_lt.mpr (by
      have : ¬ w.toInt = (0 : Int32).toInt := fun z => c (i32_eq.mpr z)
      rw [i32_0] at this ⊢
      omega)), if_neg c]
theorem ok_shorter {S : HS} (h : RR S) (l1 l2 l3 : Int32) : CK (fun S => s_X11_shorter S 0 l1 l2 l3) (fun S => s_X12_shorter S 33 l1 l2 l3) S := by
  obtain ⟨nd, nc, nh, hd, hc, -, nd4, nc4, -⟩ := h.cnt
  have hC := h.2.1
  have hM := h.1
  have t0 : (0 : Int32).toInt = 0 := rfl
  have t1 : (1 : Int32).toInt = 1 := rfl
  have t8 : (800 : Int32).toInt = 800 := rfl
  have hM2 : LM (wI S 33 0 0) := hM
  show ∃ r S1 S2, s_X11_shorter S 0 l1 l2 l3 = some (r, S1) ∧ s_X12_shorter S1 33 l1 l2 l3 = some (r, S2) ∧ RR S2
  have mo : ¬ ((0 ≤ l1.toInt ∧ l1.toInt < nc) ∧ (0 ≤ l2.toInt ∧ l2.toInt ≤ 800) ∧ (0 ≤ l3.toInt ∧ l3.toInt ≤ 1)) → s_X12_shorter S 33 l1 l2 l3 = some (-1000001, wI S 33 0 0) := by
    intro hb
    unfold s_X12_shorter
    rw [kwI_m hM, kO_m hM2, m_isThread hM2 (by rw [hI_wI_ne (by decide)]; exact hc) nc4, kc_some]
    by_cases c1 : 0 ≤ l1.toInt ∧ l1.toInt < nc
    · rw [if_pos c1, if_neg (by decide), m_inI _ (a := 0) (b := 800) rfl rfl, kc_some]
      by_cases c2 : 0 ≤ l2.toInt ∧ l2.toInt ≤ 800
      · rw [if_pos c2, if_neg (by decide), m_inI _ (a := 0) (b := 1) rfl rfl, kc_some, if_neg (fun q => hb ⟨c1, c2, q⟩), if_pos rfl]
      · rw [if_neg c2, if_pos rfl]
    · rw [if_neg c1, if_pos rfl]
  have bad : ¬ ((0 ≤ l1.toInt ∧ l1.toInt < nc) ∧ (0 ≤ l2.toInt ∧ l2.toInt ≤ 800) ∧ (0 ≤ l3.toInt ∧ l3.toInt ≤ 1)) → ∃ r S1 S2, (some (-1000001, S) : Option (Int32 × HS)) = some (r, S1) ∧ s_X12_shorter S1 33 l1 l2 l3 = some (r, S2) ∧ RR S2 := fun hb => ⟨_, S, _, rfl, mo hb, h.w0⟩
  unfold s_X11_shorter
  rw [kO_c0 hC]
  rcases c_cordAt_ h hc nc4 l1 with ⟨d1, d2, q, k, hl1, e, hQ⟩ | ⟨d1, e⟩
  · rw [e, kc_some, if_neg (by simp)]
    by_cases c1 : l2 < 0
    · rw [if_pos c1]
      exact bad (fun q => by have := i32_lt.mp c1; omega)
    · have f1 : ¬ _ := fun q => c1 (i32_lt.mpr q)
      rw [if_neg c1]
      by_cases c2 : 800 < l2
      · rw [if_pos c2]
        exact bad (fun q => by have := i32_lt.mp c2; omega)
      · have f2 : ¬ _ := fun q => c2 (i32_lt.mpr q)
        rw [if_neg c2]
        by_cases c3 : l3 < 0
        · rw [if_pos c3]
          exact bad (fun q => by have := i32_lt.mp c3; omega)
        · have f3 : ¬ _ := fun q => c3 (i32_lt.mpr q)
          rw [if_neg c3]
          by_cases c4 : l3 ≤ 1
          · have f4 := i32_le.mp c4
            have q0 : hI S q 0 = hI (wI S 33 0 0) 37 (15 + 4 * k) := by rw [hI_wI_ne (by decide)]; exact hQ.2.2.2.2.1 0 (by decide)
            have q1 : hI S q 1 = hI (wI S 33 0 0) 37 (15 + 4 * k + 1) := by rw [hI_wI_ne (by decide)]; exact hQ.2.2.2.2.1 1 (by decide)
            have mm : s_X12_shorter S 33 l1 l2 l3 = some ((if l3 = 0 then fSh (hI S q 0) (hI S q 1) l2 else fSl (hI S q 0) (hI S q 1) l2), wI S 33 0 0) := by
              unfold s_X12_shorter
              rw [kwI_m hM, kO_m hM2, m_isThread hM2 (by rw [hI_wI_ne (by decide)]; exact hc) nc4, kc_some, if_pos (show 0 ≤ l1.toInt ∧ l1.toInt < nc from ⟨d1, d2⟩), if_neg (by decide), m_inI _ (a := 0) (b := 800) rfl rfl, kc_some, if_pos (show 0 ≤ l2.toInt ∧ l2.toInt ≤ 800 by omega), if_neg (by decide), m_inI _ (a := 0) (b := 1) rfl rfl, kc_some, if_pos (show 0 ≤ l3.toInt ∧ l3.toInt ≤ 1 by omega), if_neg (by decide), q0, q1]
              by_cases c5 : l3 = 0
              · rw [if_pos c5, if_pos c5, kO_m hM2, m_shortOf hM2 hl1 hQ.2.2.2.1, kc_some]
              · rw [if_neg c5, if_neg c5, kO_m hM2, m_slopeOf hM2 hl1 hQ.2.2.2.1, kc_some]
            rw [if_pos c4]
            refine ⟨_, S, _, ?_, mm, h.w0⟩
            by_cases c5 : l3 = 0
            · rw [if_pos c5, if_pos c5, kO_some hQ.2.1 hQ.2.2.1, k_shortBy hQ.2.1 hQ.2.2.1, kc_some]
            · rw [if_neg c5, if_neg c5, kO_some hQ.2.1 hQ.2.2.1, k_slopeAt hQ.2.1 hQ.2.2.1, kc_some, csSl_w (by omega)]
          · rw [if_neg c4]
            exact bad (fun q => c4 (i32_le.mpr (by omega)))
  · rw [e, kc_some, if_pos rfl]
    exact bad (fun q => d1 q.1)
