/-! ===== tune: the call ===== -/
theorem RR.gen {S T : HS} (h : RR S) (hn : hN T = hN S) (hk : ∀ c, hK T c = hK S c) (hl : ∀ c, hL T c = hL S c) (hi : ∀ c, c ≠ 0 → c ≠ 7 → c ≠ 8 → c ≠ 9 → c ≠ 10 → c ≠ 33 → c ≠ 38 → c ≠ 41 → hI T c = hI S c) (h06 : hI T 0 6 = hI S 0 6) (h07 : hI T 0 7 = hI T 33 1) (h08 : hI T 0 8 = hI T 33 25) (h33 : ∀ j, j = 7 ∨ j = 9 ∨ j = 10 ∨ j = 31 → hI T 33 j = hI S 33 j) (hp : ∀ c, c ≠ 7 → c ≠ 8 → hP T c = hP S c) (hp7 : ∀ j, j < 3 → hP T 7 j = hP S 7 j) : RR T := by
  have i : ∀ c, c ≠ 0 ∧ c ≠ 7 ∧ c ≠ 8 ∧ c ≠ 9 ∧ c ≠ 10 ∧ c ≠ 33 ∧ c ≠ 38 ∧ c ≠ 41 → hI T c = hI S c := fun c hc => hi c hc.1 hc.2.1 hc.2.2.1 hc.2.2.2.1 hc.2.2.2.2.1 hc.2.2.2.2.2.1 hc.2.2.2.2.2.2.1 hc.2.2.2.2.2.2.2
  have hag : AG S T := ⟨Nat.le_of_eq hn.symm, fun c h1 _ => ⟨hk c, hl c, i c (by omega), hp c (by omega) (by omega)⟩⟩
  obtain ⟨r1, r2, r3, r4, r5, r6, r7, r8⟩ := h
  refine ⟨r1.to hn hk hl (hp 33 (by decide) (by decide)), r2.to hn hk hl hp hp7, fun r hr => ?_, ?_, ⟨?_, h07, h08⟩, ?_, fun k hk2 => ?_, ?_⟩
  · rw [i (13 + 2 * r) (by omega), i (14 + 2 * r) (by omega), i 34 (by decide), i 35 (by decide), i 36 (by decide)]
    exact r3 r hr
  · rw [i 2 (by decide), i 3 (by decide), i 39 (by decide), h33 9 (by omega)]
    exact r4
  · rw [h06, h33 10 (by omega)]
    exact r5.1
  · rw [hp 4 (by decide) (by decide), hp 5 (by decide) (by decide), i 5 (by decide), h33 7 (by omega), i 37 (by decide), i 40 (by decide)]
    exact r6.keep hag
  · rw [hp (29 + 2 * k) (by omega) (by omega), hp (30 + 2 * k) (by omega) (by omega), i (30 + 2 * k) (by omega), i 42 (by decide), i 43 (by decide), i 44 (by decide), h33 7 (by omega)]
    exact ⟨(r7 k hk2).1.keep hag, (r7 k hk2).2⟩
  · rw [i 11 (by decide), h33 31 (by omega), i 12 (by decide), i 45 (by decide)]
    exact r8
theorem AT.m {S T T2 : HS} {c q d k : Nat} (h : AT S T c q d k) (hM : LM T2) (e : hI T2 37 = hI T 37) : AT S T2 c q d k := by
  obtain ⟨hF, -, hd, hk, hc, hq, hD, hQ, h1, h2⟩ := h
  exact ⟨hF, hM, hd, hk, hc, hq, by rw [e]; exact hD, by rw [e]; exact hQ, h1, h2⟩
theorem VA_01 {S : HS} {nd nc : Nat} {l1 l2 t0 : Int32} : VA S nd nc l1 l2 t0 0 1 ↔ (0 ≤ l1.toInt ∧ l1.toInt < nd) ∧ (0 ≤ l2.toInt ∧ l2.toInt < nc) ∧ (1 ≤ t0.toInt ∧ t0.toInt ≤ (hI S 37 (15 + 4 * l2.toInt.toNat + 2)).toInt) := ⟨fun h => ⟨h.1, h.2.1, h.2.2.1⟩, fun h => ⟨h.1, h.2.1, h.2.2, by decide, by decide⟩⟩
theorem ok_tune {S : HS} (h : RR S) (l1 l2 l3 l4 l5 l6 : Int32) : CK (fun S => s_X11_tune S 0 l1 l2 l3 l4 l5 l6) (fun S => s_X12_tune S 33 l1 l2 l3 l4 l5 l6) S := by
  obtain ⟨nd, nc, nh, hd, hc, -, nd4, nc4, -⟩ := h.cnt
  have hC := h.2.1
  have hM := h.1
  have t1 : (1 : Int32).toInt = 1 := rfl
  have t3 : (3 : Int32).toInt = 3 := rfl
  show ∃ r S1 S2, s_X11_tune S 0 l1 l2 l3 l4 l5 l6 = some (r, S1) ∧ s_X12_tune S1 33 l1 l2 l3 l4 l5 l6 = some (r, S2) ∧ RR S2
  have mo : ∀ X, LM X → hI X 37 = hI S 37 → s_X12_tune X 33 l1 l2 l3 l4 l5 l6 = (if ((0 ≤ l1.toInt ∧ l1.toInt < nd) ∧ (0 ≤ l2.toInt ∧ l2.toInt < nc) ∧ (1 ≤ l3.toInt ∧ l3.toInt ≤ (hI S 37 (15 + 4 * l2.toInt.toNat + 2)).toInt)) ∧ (0 ≤ l4.toInt ∧ l4.toInt ≤ 7) ∧ (1 ≤ l6.toInt ∧ l6.toInt ≤ 3) then kc (s_X12_noTones (wI X 33 0 0) 33 l4 l5 l6) (fun v18 S17 => if v18 = 0 then (kwI S17 (some 33) 12 1 0 (fun S20 => if l6 = 1 then (s_X12_tune_b130 33 S20 l1 l2 l3 l4 l5 l6 ((-1)) 10) else (if l6 = 2 then (s_X12_tune_b130 33 S20 l1 l2 l3 l4 l5 l6 ((-1)) 100) else (s_X12_tune_b130 33 S20 l1 l2 l3 l4 l5 l6 ((-1)) 1000)))) else (if 0 ≤ v18 then (kO S17 (some 33) 12 (fun a23 => kc (s_X12_finding S17 a23 v18) (fun v22 S21 => some (v22, S21)))) else (some ((-1000001), S17)))) else some (-1000001, wI X 33 0 0)) := by
    intro X hX e37
    have hX2 : LM (wI X 33 0 0) := hX
    have f37 : hI (wI X 33 0 0) 37 = hI S 37 := by rw [hI_wI_ne (by decide)]; exact e37
    unfold s_X12_tune
    rw [kwI_m hX, kO_m hX2, m_isDisc hX2 (by rw [f37]; exact hd) nd4, kc_some]
    by_cases c1 : 0 ≤ l1.toInt ∧ l1.toInt < nd
    · rw [if_pos c1, if_neg (by decide), kO_m hX2, m_isThread hX2 (by rw [f37]; exact hc) nc4, kc_some]
      by_cases c2 : 0 ≤ l2.toInt ∧ l2.toInt < nc
      · have e2 := (ix_to (i := l2) (lo := 0) (hi := (nc : Int)) c2.1 c2.2 (by decide))
        rw [if_pos c2, if_neg (by decide), kO_m hX2, m_threadOf hX2 (l2 := 2) (j := 2) e2.1 rfl (by omega) (by decide), kc_some, m_inI _ (a := 1) rfl (i64_of32 _), kc_some, f37]
        by_cases c3 : 1 ≤ l3.toInt ∧ l3.toInt ≤ (hI S 37 (15 + 4 * l2.toInt.toNat + 2)).toInt
        · rw [if_pos c3, if_neg (by decide), m_isRow, kc_some]
          by_cases c4 : 0 ≤ l4.toInt ∧ l4.toInt ≤ 7
          · rw [if_pos c4, if_neg (by decide), m_inI _ (a := 1) (b := 3) rfl rfl, kc_some]
            by_cases c5 : 1 ≤ l6.toInt ∧ l6.toInt ≤ 3
            · rw [if_pos c5, if_neg (by decide), if_pos ⟨⟨c1, c2, c3⟩, c4, c5⟩, kO_m hX2]
            · rw [if_neg c5, if_pos rfl, if_neg (fun q => c5 q.2.2)]
          · rw [if_neg c4, if_pos rfl, if_neg (fun q => c4 q.2.1)]
        · rw [if_neg c3, if_pos rfl, if_neg (fun q => c3 q.1.2.2)]
      · rw [if_neg c2, if_pos rfl, if_neg (fun q => c2 q.1.2.1)]
    · rw [if_neg c1, if_pos rfl, if_neg (fun q => c1 q.1.1)]
  have bad : ¬ (((0 ≤ l1.toInt ∧ l1.toInt < nd) ∧ (0 ≤ l2.toInt ∧ l2.toInt < nc) ∧ (1 ≤ l3.toInt ∧ l3.toInt ≤ (hI S 37 (15 + 4 * l2.toInt.toNat + 2)).toInt)) ∧ (0 ≤ l4.toInt ∧ l4.toInt ≤ 7) ∧ (1 ≤ l6.toInt ∧ l6.toInt ≤ 3)) → ∃ r S1 S2, (some (-1000001, S) : Option (Int32 × HS)) = some (r, S1) ∧ s_X12_tune S1 33 l1 l2 l3 l4 l5 l6 = some (r, S2) ∧ RR S2 := fun hb => ⟨_, S, _, rfl, by rw [mo S hM rfl, if_neg hb], h.w0⟩
  unfold s_X11_tune
  rw [kO_c0 hC]
  rcases c_rowAt hC l4 with ⟨r, hr, e1, e2⟩ | ⟨nr, e2⟩
  · have z : 0 ≤ l4.toInt ∧ l4.toInt ≤ 7 := by rw [e1, nI_toInt (by omega)]; omega
    rw [e2, kc_some, if_neg (by simp)]
    by_cases c1 : l6 < 1
    · rw [if_pos c1]
      exact bad (fun q => by have := i32_lt.mp c1; omega)
    · have f1 : ¬ _ := fun q => c1 (i32_lt.mpr q)
      rw [if_neg c1]
      by_cases c2 : 3 < l6
      · rw [if_pos c2]
        exact bad (fun q => by have := i32_lt.mp c2; omega)
      · have f2 : ¬ _ := fun q => c2 (i32_lt.mpr q)
        rw [if_neg c2, kO_c0 hC]
        obtain ⟨kk, hkk, hk1, hk3⟩ := I_N (n := l6) (a := 1) (b := 3) (by omega) (by omega) (by decide)
        have i6 : l6.toInt = (kk : Int) := by rw [hkk]; exact nI_toInt (by omega)
        rcases c_foretells_ h hd nd4 hc nc4 l1 l2 l3 0 1 with ⟨va, c, q, d, k, hl1, hl2, hD, hQ, e⟩ | ⟨va, e⟩
        · have good : ((0 ≤ l1.toInt ∧ l1.toInt < nd) ∧ (0 ≤ l2.toInt ∧ l2.toInt < nc) ∧ (1 ≤ l3.toInt ∧ l3.toInt ≤ (hI S 37 (15 + 4 * l2.toInt.toNat + 2)).toInt)) ∧ (0 ≤ l4.toInt ∧ l4.toInt ≤ 7) ∧ (1 ≤ l6.toInt ∧ l6.toInt ≤ 3) := ⟨VA_01.mp va, z, by omega, by omega⟩
          have gx := ab_SX S c q l3 0 1
          obtain ⟨g1, g5, g6, g7⟩ := ab_LF h hD hQ l3 0 1
          have hR1 := h.to gx
          have hAT := ab_AT h hD hQ l3 0 1 (SX.rf S)
          generalize ab S c q l3 0 1 = A at e gx g1 g5 g6 g7 hR1 hAT
          have hCA := hR1.2.1
          have hMA := hR1.1
          have r13 : hI A (13 + 2 * r) = hI S (13 + 2 * r) := gx.sf.ge (by omega)
          rw [e, kc_some, if_neg (by decide), kO_row hCA hr, c_finding hCA hr, kc_some]
          have a37 : hI A 37 = hI S 37 := gx.m37
          have mS : ∀ v, s_X12_tune (wI A 0 7 v) 33 l1 l2 l3 l4 l5 l6 = _ := fun v => (mo (wI A 0 7 v) hMA (by rw [hI_wI_ne (by decide)]; exact a37)).trans (if_pos good)
          have xx : ∀ v, _ := fun v => m_noTones (S := A) (T := wI (wI A 0 7 v) 33 0 0) hMA (N := kk) (l2 := l5) e1 hkk hr (by omega) (by omega) (hR1.rs hr) (by simp (disch := omega) only [hI_wI_ne]) (by simp (disch := omega) only [hI_wI_ne]) (by simp (disch := omega) only [hI_wI_ne]) (by simp (disch := omega) only [hI_wI_ne])
          by_cases a1 : hI A (13 + 2 * r) 1 = 0
          · rw [if_pos a1, if_neg (by decide), kO_c0 hCA, c_found hCA, kc_some]
            refine ⟨_, _, _, rfl, ?_, hR1.fnd 1⟩
            have nt : LM (wI (wI A 0 7 1) 33 0 0) := hMA
            rcases xx 1 with ⟨b1, b2⟩ | ⟨b1, -⟩ | ⟨I, b1, -⟩
            · rw [mS 1, b2, kc_some, if_neg (by decide), if_pos (by decide), kO_m nt, m_finding nt, kc_some]
              rfl
            · exact absurd (a1.symm.trans b1) (by decide)
            · exact absurd (a1.symm.trans b1) (by decide)
          · rw [if_neg a1]
            by_cases c5 : 0 ≤ l5.toInt ∧ 0 ≤ l6.toInt ∧ l5.toInt + l6.toInt ≤ (hI A (13 + 2 * r) 3).toInt
            · rw [if_pos c5, if_pos rfl, kO_row hCA hr]
              have nt2 : LM (wI A 33 0 0) := hMA
              rcases m_noTones (S := A) (T := wI A 33 0 0) nt2 (N := kk) (l2 := l5) e1 hkk hr (by omega) (by omega) (hR1.rs hr) (by simp (disch := omega) only [hI_wI_ne]) (by simp (disch := omega) only [hI_wI_ne]) (by simp (disch := omega) only [hI_wI_ne]) (by simp (disch := omega) only [hI_wI_ne]) with ⟨b1, b2⟩ | ⟨b1, b2, b3⟩ | ⟨I, b1, b2, b3, b4, b5⟩
              · exact absurd b1 a1
              · exact absurd ⟨c5.1, c5.2.2⟩ b2
              · rcases c_within hCA (mo := 32767) hr b2 hkk b3 b4 with ⟨w1, w2⟩ | ⟨w1, w2⟩
                · rw [w2, kc_some, if_neg (by decide), kP_c0_4 hCA, kP_row0 hCA hr, kO_c7 hCA]
                  obtain ⟨W, C, Te, j0, j1, j2, jW, jW2, jC, jT, jT2⟩ := hAT.2.2.2.2.2.2.2.2.1
                  have ha : ∀ j, j < kk → hI A (14 + 2 * r) (I + j) = nI (hI A (14 + 2 * r) (I + j)).toInt.toNat ∧ (hI A (14 + 2 * r) (I + j)).toInt.toNat ≤ 32767 := fun j hj => toN (b := 32767) (w1 j hj).1 (w1 j hj).2
                  obtain ⟨al, hal, hc1, hm1⟩ : ∃ al : Nat, (kk = 1 ∧ al = 10 ∨ kk = 2 ∧ al = 100 ∨ kk = 3 ∧ al = 1000) ∧ (∀ o, s_X4_forcesFor A 7 o l5 l6 = s_X4_forcesFor_L31 7 100000 A o l5 l6 0 (nI al) (nI 0)) ∧ (∀ T, (if l6 = 1 then (s_X12_tune_b130 33 T l1 l2 l3 l4 l5 l6 ((-1)) 10) else (if l6 = 2 then (s_X12_tune_b130 33 T l1 l2 l3 l4 l5 l6 ((-1)) 100) else (s_X12_tune_b130 33 T l1 l2 l3 l4 l5 l6 ((-1)) 1000))) = s_X12_tune_L135 33 100000 T l1 l2 l3 l4 l5 l6 (-1) (nI al) (nI 0)) := by
                    unfold s_X4_forcesFor s_X4_forcesFor_b26 s_X12_tune_b130
                    rcases (by omega : kk = 1 ∨ kk = 2 ∨ kk = 3) with y | y | y
                    · subst y
                      exact ⟨10, Or.inl ⟨rfl, rfl⟩, fun o => by rw [if_pos (show l6 = 1 from hkk)]; rfl, fun T => by rw [if_pos (show l6 = 1 from hkk)]; rfl⟩
                    · subst y
                      have n1 : ¬ l6 = 1 := by rw [hkk]; decide
                      exact ⟨100, Or.inr (Or.inl ⟨rfl, rfl⟩), fun o => by rw [if_neg n1, if_pos (show l6 = 2 from hkk)]; rfl, fun T => by rw [if_neg n1, if_pos (show l6 = 2 from hkk)]; rfl⟩
                    · subst y
                      have n1 : ¬ l6 = 1 := by rw [hkk]; decide
                      have n2 : ¬ l6 = 2 := by rw [hkk]; decide
                      exact ⟨1000, Or.inr (Or.inr ⟨rfl, rfl⟩), fun o => by rw [if_neg n1, if_neg n2]; rfl, fun T => by rw [if_neg n1, if_neg n2]; rfl⟩
                  have htA : TOK (hI A q 2) l3 0 := by
                    have hk4 := hQ.2.2.2.1
                    have ek : l2.toInt.toNat = k := by rw [hl2, nI_toInt (by omega)]; rfl
                    have em : hI S 37 (15 + 4 * l2.toInt.toNat + 2) = hI S q 2 := by rw [ek]; exact (hQ.2.2.2.2.1 2 (by decide)).symm
                    have va3 := va.2.2.1
                    rw [em] at va3
                    rw [gx.ge hQ.1]
                    exact TOK_start va3.1 va3.2
                  have al3 : al ≤ 1000 := by rcases hal with ⟨x, y⟩ | ⟨x, y⟩ | ⟨x, y⟩ <;> omega
                  have h36 : ∀ j, j < kk → hI A 36 (40 * r + (I + j)) = nI (hI A (14 + 2 * r) (I + j)).toInt.toNat := fun j hj => by
                    rw [(hR1.rs hr).it (by omega)]
                    exact (ha j hj).1
                  have out : ∀ T, LM T → hI T 37 = hI S 37 → hI T 36 = hI A 36 → _ := fun T hMT e37 e36 => tune_out (r := r) (I := I) (kk := kk) (al := al) (Te := Te) (t0 := l3) (a := fun j => (hI A (14 + 2 * r) (I + j)).toInt.toNat) hl1 hl2 e1 b2 hr b3 hal jT2 (fun j hj => (ha j hj).2) al 100000 100000 0 A T 0 (-1) hCA (hAT.m hMT e37) g5 htA j2 (fun j hj => (ha j hj).1) (by rw [e36]; exact h36) (by omega) (by omega) (by omega) (Or.inl ⟨rfl, rfl⟩)
                  obtain ⟨b2', Lo, S2, T2, o1, o2, o3, o4, o5, o6⟩ := out A hMA a37 rfl
                  have gS2 := o5.1
                  have hR2 := hR1.to gS2
                  have hC2 := hR2.2.1
                  have hM2 := hR2.1
                  rw [hc1, b2, hkk, o1, kc_some, kwI_c0 hC2, kP_c0_4 (by exact hC2), kI_c7 (by exact hC2), hI_wI_ne (by decide), o3, kO_c0 (by exact hC2), c_fine (by exact hC2), kc_some, ← b2, ← hkk]
                  have hX : LM (wI (wI S2 0 8 b2') 0 7 0) := hM2
                  have e37 : hI (wI (wI (wI (wI S2 0 8 b2') 0 7 0) 33 0 0) 33 1 0) 37 = hI S 37 := by
                    simp (disch := omega) only [hI_wI_ne]
                    rw [gS2.m37]
                    exact a37
                  have e36 : hI (wI (wI (wI (wI S2 0 8 b2') 0 7 0) 33 0 0) 33 1 0) 36 = hI A 36 := by
                    simp (disch := omega) only [hI_wI_ne]
                    exact gS2.sf.ge (by decide)
                  obtain ⟨b3', Lo2, S3, T3, u1, u2, u3, u4, u5, u6⟩ := out (wI (wI (wI (wI S2 0 8 b2') 0 7 0) 33 0 0) 33 1 0) hX e37 e36
                  obtain ⟨rfl, rfl⟩ := Prod.mk.inj (det o1 u1)
                  have eLo : nI Lo2 = nI Lo := u3.symm.trans o3
                  rw [eLo] at u2
                  have tx := m_noTones (S := A) (T := wI (wI (wI S2 0 8 b2') 0 7 0) 33 0 0) hX (N := kk) (l2 := l5) e1 hkk hr (by omega) (by omega) (hR1.rs hr) (by
                    simp (disch := omega) only [hI_wI_ne]
                    exact gS2.sf.ge (by decide)) (by
                    simp (disch := omega) only [hI_wI_ne]
                    exact gS2.sf.ge (by decide)) (by
                    simp (disch := omega) only [hI_wI_ne]
                    exact gS2.sf.ge (by decide)) (by
                    simp (disch := omega) only [hI_wI_ne]
                    exact gS2.sf.ge (by omega))
                  have no0 : s_X12_noTones (wI (wI (wI S2 0 8 b2') 0 7 0) 33 0 0) 33 l4 l5 l6 = some (0, wI (wI (wI S2 0 8 b2') 0 7 0) 33 0 0) := by
                    rcases tx with ⟨v1, v2⟩ | ⟨v1, v2, v3⟩ | ⟨I', v1, v2, v3, v4, v5⟩
                    · exact absurd v1 a1
                    · exact absurd ⟨c5.1, c5.2.2⟩ v2
                    · have eI : I' = I := (nI_eqI (by omega) (by omega)).mp (v2.symm.trans b2)
                      subst eI
                      rcases v5 with ⟨y1, y2⟩ | ⟨y1, y2⟩
                      · exact y2
                      · exact absurd w1 y1
                  refine ⟨nI Lo, _, T3, rfl, ?_, ?_⟩
                  · rw [mo _ hX (by
                      simp (disch := omega) only [hI_wI_ne]
                      rw [gS2.m37]
                      exact a37), if_pos good, no0, kc_some, if_pos rfl, kwI_m (by exact hX), hm1]
                    rw [hkk, b2]
                    rw [b2] at u2
                    exact u2
                  · refine hR2.gen u6.1 u6.2.1 u6.2.2.1 ?_ ?_ ?_ ?_ ?_ u6.2.2.2.2.2.1 u6.2.2.2.2.2.2
                    · intro c w0 w7 w8 w9 w10 w33 w38 w41
                      rw [u6.ge ⟨w7, w8, w9, w10, w33, w38, w41⟩, hI_wI_ne w33, hI_wI_ne w33, hI_wI_ne w0, hI_wI_ne w0]
                    · rw [u6.ge (by decide), hI_wI_ne (by decide), hI_wI_ne (by decide), hI_wI_j (by decide), hI_wI_j (by decide)]
                    · rw [u6.ge (by decide), u6.2.2.2.2.1 1 (by omega), hI_wI_ne (by decide), hI_wI_ne (by decide), hI_wI_self, hI_wI_self]
                    · rw [u6.ge (by decide), u4, hI_wI_ne (by decide), hI_wI_ne (by decide), hI_wI_j (by decide), hI_wI_self]
                    · intro j hj
                      rw [u6.2.2.2.2.1 j (by omega), hI_wI_j (by omega), hI_wI_j (by omega), hI_wI_ne (by decide), hI_wI_ne (by decide)]
                · rw [w2, kc_some, if_pos rfl]
                  rcases b5 with ⟨u1, u2⟩ | ⟨u1, u2⟩
                  · exact absurd u1 w1
                  · refine ⟨_, A, _, rfl, ?_, hR1.w0⟩
                    rw [mo A hMA a37, if_pos good, u2, kc_some, if_neg (by decide), if_neg (by decide)]
            · rw [if_neg c5, if_neg (by decide), kO_c0 hCA, c_found hCA, kc_some]
              refine ⟨_, _, _, rfl, ?_, hR1.fnd 2⟩
              have nt : LM (wI (wI A 0 7 2) 33 0 0) := hMA
              rcases xx 2 with ⟨b1, b2⟩ | ⟨b1, b2, b3⟩ | ⟨I, b1, b2, b3, b4, b5⟩
              · exact absurd b1 a1
              · rw [mS 2, b3, kc_some, if_neg (by decide), if_pos (by decide), kO_m nt, m_finding nt, kc_some]
                rfl
              · exfalso
                have : l5.toInt = (I : Int) := by rw [b2]; exact nI_toInt (by omega)
                exact c5 ⟨by omega, by omega, by omega⟩
        · rw [e, kc_some, if_pos rfl]
          exact bad (fun q => va (VA_01.mpr q.1))
  · rw [e2, kc_some, if_pos rfl]
    exact bad (fun q => nr q.2.1)
