/-! ===== GREATEST of both ===== -/
theorem kzr_01 {v : Int32} {S : HS} (h : v = 0 ∨ v = 1) : kzr v S = some (v, S) := by
  rcases h with rfl | rfl
  · rfl
  · rfl
/-- the class's Foretold told of a DISC and a THREAD: what it answers, and the state behind it -/
theorem cls_G {S : HS} (h : RR S) {c q d k N F : Nat} {f t0 : Int32} (hD : isD S c d) (hQ : isC S q k) (hN : N < 100000) (hf : f = nI F) (hF : F ≤ 99) (ht : TOK (hI S q 2) t0 0) : ∃ S1, s_X4_pulledPace (ab S c q t0 f (nI N)) 7 = some ((mG (hI S 37) d k f 0 N (rup (rup (rup (hI S 33) 19 t0) 20 0) 21 0) 0).1, S1) ∧ SX S S1 ∧ hI S1 8 11 = (mG (hI S 37) d k f 0 N (rup (rup (rup (hI S 33) 19 t0) 20 0) 21 0) 0).2 21 := by
  obtain ⟨g1, g2, g3, g4⟩ := ab_LF h hD hQ t0 f (nI N)
  have gx := ab_SX S c q t0 f (nI N)
  have e1 : hI (ab S c q t0 f (nI N)) c = hI S c := gx.ge hD.1
  have e2 : hI (ab S c q t0 f (nI N)) q = hI S q := gx.ge hQ.1
  have e := k_pulledPace g1 g4 hN (by rw [e1]; exact hD.ne)
  rw [e1, e2, g2, g3] at e
  obtain ⟨E1, E2⟩ := G_eq (β := hI S 37) (d := d) (k := k) hD.2.2.2.2.1 hQ.2.2.2.2.1 hD.2.2.2.2.2 hQ.2.2.2.2.2 hf hF N (c0 (hI (ab S c q t0 f (nI N)) 8) t0) (rup (rup (rup (hI S 33) 19 t0) 20 0) 21 0) (FR_start _ _ _) ht
  rw [E1] at e
  refine ⟨_, e, (gx.tr (st8_SX _ _ _ _ _)).tr (SX.cw (c := 8) _ (Or.inr (Or.inl rfl))), ?_⟩
  rw [hI_wC_self, E2]
  rfl
/-- mG looks only at what it is told -/
theorem mTk_cg {ρ σ β : Nat → Int32} {d k : Nat} {f lamp : Int32} (h19 : ρ 19 = σ 19) (h20 : ρ 20 = σ 20) (h21 : ρ 21 = σ 21) : (mTk ρ β d k f lamp) 19 = (mTk σ β d k f lamp) 19 ∧ (mTk ρ β d k f lamp) 20 = (mTk σ β d k f lamp) 20 ∧ (mTk ρ β d k f lamp) 21 = (mTk σ β d k f lamp) 21 ∧ (mTk ρ β d k f lamp) 22 = (mTk σ β d k f lamp) 22 := by
  simp only [mTk_19, mTk_20, mTk_21, mTk_22, mT1, mP1, mX, h19, h20, h21, and_self]
theorem mG_cg {β : Nat → Int32} {d k : Nat} {f fr : Int32} : ∀ (n : Nat) (ρ σ : Nat → Int32) (m : Int32), ρ 19 = σ 19 → ρ 20 = σ 20 → ρ 21 = σ 21 → (mG β d k f fr n ρ m).1 = (mG β d k f fr n σ m).1 ∧ (mG β d k f fr n ρ m).2 21 = (mG β d k f fr n σ m).2 21 := by
  intro n
  induction n with
  | zero => intro ρ σ m _ _ h; exact ⟨rfl, h⟩
  | succ n ih =>
    intro ρ σ m h19 h20 h21
    rw [mG_succ, mG_succ, h19, h20, h21]
    by_cases c : σ 21 = 0
    · rw [if_pos c, if_pos c]
      obtain ⟨a, b, e, g⟩ := mTk_cg (β := β) (d := d) (k := k) (f := if fUn (σ 19) (σ 20) = 0 then 0 else if fsz (σ 19) < fr then 0 else f) (lamp := 0) h19 h20 h21
      rw [g]
      exact ih _ _ _ a b e
    · rw [if_neg c, if_neg c]
      exact ⟨rfl, h21⟩
theorem mG_st {β : Nat → Int32} {d k : Nat} {f fr t0 : Int32} (n : Nat) (ρ σ : Nat → Int32) (m : Int32) : (mG β d k f fr n (rup (rup (rup ρ 19 t0) 20 0) 21 0) m).1 = (mG β d k f fr n (rup (rup (rup σ 19 t0) 20 0) 21 0) m).1 ∧ (mG β d k f fr n (rup (rup (rup ρ 19 t0) 20 0) 21 0) m).2 21 = (mG β d k f fr n (rup (rup (rup σ 19 t0) 20 0) 21 0) m).2 21 := mG_cg n _ _ m rfl rfl rfl
theorem SX.mG33 {S : HS} (β : Nat → Int32) (d k : Nat) (f fr : Int32) (n : Nat) (t0 m : Int32) : SX S (wC S 33 (mG β d k f fr n (rup (rup (rup (hI S 33) 19 t0) 20 0) 21 0) m).2) := w33_fr (fun j hj => by rw [mG_fr _ _ _ _ _ hj, rup_ne (by omega), rup_ne (by omega), rup_ne (by omega)])
theorem ok_greatest {S : HS} (h : RR S) (l1 l2 l3 l4 l5 l6 : Int32) : CK (fun S => s_X11_greatest S 0 l1 l2 l3 l4 l5 l6) (fun S => s_X12_greatest S 33 l1 l2 l3 l4 l5 l6) S := by
  obtain ⟨nd, nc, nh, hd, hc, -, nd4, nc4, -⟩ := h.cnt
  have hLC := h.2.1
  have bad : ∀ T, SX S T → (¬ VA S nd nc l1 l2 l3 l4 l5 ∨ ¬ (0 ≤ l6.toInt ∧ l6.toInt ≤ 1)) → ∃ T2, s_X12_greatest T 33 l1 l2 l3 l4 l5 l6 = some (-1000001, T2) ∧ RR T2 := by
    intro T g hb
    have g1 := g.tr (SX.w0 T)
    have hL := g1.lm h.1
    have e37 := g1.m37
    refine ⟨wI T 33 0 0, ?_, h.to g1⟩
    unfold s_X12_greatest
    rw [kwI_m (g.lm h.1), kO_m hL]
    rcases m_isAsked hL (by rw [e37]; exact hd) nd4 (by rw [e37]; exact hc) nc4 l1 l2 l3 l4 l5 with ⟨va, e⟩ | ⟨va, e⟩
    · have nb : ¬ (0 ≤ l6.toInt ∧ l6.toInt ≤ 1) := by
        rcases hb with hb | hb
        · exact absurd (by unfold VA at va ⊢; rw [e37] at va; exact va) hb
        · exact hb
      rw [e, kc_some, if_neg (by decide), m_inI _ (a := 0) (b := 1) rfl rfl, kc_some, if_neg nb, if_pos rfl]
    · rw [e, kc_some, if_pos rfl]
  have t0 : (0 : Int32).toInt = 0 := rfl
  have t1 : (1 : Int32).toInt = 1 := rfl
  by_cases c6 : 0 ≤ l6.toInt ∧ l6.toInt ≤ 1
  · have n1 : ¬ l6 < 0 := fun z => by have := i32_lt.mp z; omega
    have n2 : ¬ 1 < l6 := fun z => by have := i32_lt.mp z; omega
    rcases c_foretells_ h hd nd4 hc nc4 l1 l2 l3 l4 l5 with ⟨va, c, q, d, k, e1, e2, hD, hQ, e⟩ | ⟨va, e⟩
    · obtain ⟨F, hf, -, hF⟩ := I_N va.2.2.2.1.1 va.2.2.2.1.2 (by decide)
      obtain ⟨N, hn, -, hN⟩ := I_N va.2.2.2.2.1 va.2.2.2.2.2 (by decide)
      have hk4 := hQ.2.2.2.1
      have ek : l2.toInt.toNat = k := by rw [e2, nI_toInt (by omega)]; rfl
      have em : hI S 37 (15 + 4 * l2.toInt.toNat + 2) = hI S q 2 := by rw [ek]; exact (hQ.2.2.2.2.1 2 (by decide)).symm
      have va3 := va.2.2.1
      rw [em] at va3
      obtain ⟨S1, p1, p2, p3⟩ := cls_G h (N := N) hD hQ (by omega) hf (by omega) (TOK_start va3.1 va3.2)
      rw [← hn] at p1
      have hL1 : LC S1 := (h.to p2).2.1
      have hLa := (h.to (ab_SX S c q l3 l4 l5)).2.1
      have g1 := p2.tr (SX.w0 S1)
      have hL := g1.lm h.1
      have e37 := g1.m37
      have mm : s_X12_greatest S1 33 l1 l2 l3 l4 l5 l6 = some ((if l6 = 0 then (mG (hI S 37) d k l4 0 N (rup (rup (rup (hI S 33) 19 l3) 20 0) 21 0) 0).1 else (mG (hI S 37) d k l4 0 N (rup (rup (rup (hI S 33) 19 l3) 20 0) 21 0) 0).2 21), wC (wI S1 33 0 0) 33 (mG (hI S 37) d k l4 0 N (rup (rup (rup (hI (wI S1 33 0 0) 33) 19 l3) 20 0) 21 0) 0).2) := by
        unfold s_X12_greatest
        rw [kwI_m (p2.lm h.1), kO_m hL]
        rcases m_isAsked hL (by rw [e37]; exact hd) nd4 (by rw [e37]; exact hc) nc4 l1 l2 l3 l4 l5 with ⟨va2, e9⟩ | ⟨va2, e9⟩
        · have mw : ¬ hI (wI S1 33 0 0) 37 (3 + 3 * d) = 0 := by rw [e37]; exact hD.mw
          have er := m_runGreatest (S := wI S1 33 0 0) hL (d := d) (k := k) (N := N) (t0 := l3) (f := l4) (fr := 0) e1 e2 hD.2.2.2.1 hk4 mw (by omega)
          rw [← hn, e37] at er
          rw [e9, kc_some, if_neg (by decide), m_inI _ (a := 0) (b := 1) rfl rfl, kc_some, if_pos c6, if_neg (by decide), kO_m hL, er, kc_some]
          obtain ⟨s1, s2⟩ := mG_st (β := hI S 37) (d := d) (k := k) (f := l4) (fr := 0) (t0 := l3) N (hI (wI S1 33 0 0) 33) (hI S 33) 0
          by_cases c9 : l6 = 0
          · rw [if_pos c9, if_pos c9, s1]
          · rw [if_neg c9, if_neg c9, kI_m (by exact hL), hI_wC_self, s2]
            rcases mG_21b (β := hI S 37) (d := d) (k := k) (f := l4) (fr := 0) N (rup (rup (rup (hI S 33) 19 l3) 20 0) 21 0) 0 (Or.inl rfl) with z | z
            · rw [z, if_pos rfl]
            · rw [z, if_neg (by decide)]
        · exact absurd (by unfold VA at va ⊢; rw [e37]; exact va) va2
      refine ⟨_, S1, _, ?_, mm, (h.to g1).to (SX.mG33 _ _ _ _ _ _ _ _)⟩
      show s_X11_greatest S 0 l1 l2 l3 l4 l5 l6 = _
      unfold s_X11_greatest
      rw [if_neg n1, if_neg n2, kO_c0 hLC, e, kc_some, if_neg (by decide), kP_c0_4 hLa, kO_c7 hLa, p1, kc_some]
      by_cases c9 : l6 = 0
      · rw [if_pos c9, if_pos c9]
      · rw [if_neg c9, if_neg c9, kP_c0_4 hL1, kO_c7 hL1]
        unfold s_X4_snaps
        rcases mG_21b (β := hI S 37) (d := d) (k := k) (f := l4) (fr := 0) N (rup (rup (rup (hI S 33) 19 l3) 20 0) 21 0) 0 (Or.inl rfl) with z | z
        · rw [kP_c7_0 hL1, kI_c8 hL1, p3, z, kzr_0, kc_some, if_pos rfl]
        · rw [kP_c7_0 hL1, kI_c8 hL1, p3, z, kzr_1, kc_some, if_neg (by decide)]
    · obtain ⟨T2, b1, b2⟩ := bad S (SX.rf S) (Or.inl va)
      refine ⟨-1000001, S, T2, ?_, b1, b2⟩
      show s_X11_greatest S 0 l1 l2 l3 l4 l5 l6 = _
      unfold s_X11_greatest
      rw [if_neg n1, if_neg n2, kO_c0 hLC, e, kc_some, if_pos rfl]
  · obtain ⟨T2, b1, b2⟩ := bad S (SX.rf S) (Or.inr c6)
    refine ⟨-1000001, S, T2, ?_, b1, b2⟩
    show s_X11_greatest S 0 l1 l2 l3 l4 l5 l6 = _
    unfold s_X11_greatest
    by_cases n1 : l6 < 0
    · rw [if_pos n1]
    · have n2 : 1 < l6 := i32_lt.mpr (by have : ¬ _ := fun z => n1 (i32_lt.mpr z); omega)
      rw [if_neg n1, if_pos n2]
