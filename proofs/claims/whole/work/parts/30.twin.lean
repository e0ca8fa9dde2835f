/-! ===== both at once ===== -/
theorem LM.s {T : HS} (h : LM T) (c : Nat) (f : Nat → Int32) : LM (wC T c f) := h
section L2T
variable {α : Type} {S : HS} {c q : Nat}
theorem LF.a7 (h : LF S c q) : 7 < hN S := by have := h.1; omega
theorem LF.a8 (h : LF S c q) : 8 < hN S := by have := h.1; omega
theorem LF.o7 (h : LF S c q) {g : Nat → Option α} : kO S (some 7) 4 g = g 7 := kO_some h.a7 h.2.1
theorem LF.i7 (h : LF S c q) {j : Nat} {f : Int32 → Option α} : kI S (some 7) 4 j f = f (hI S 7 j) := kI_some h.a7 h.2.1
theorem LF.p70 (h : LF S c q) {f : Option Nat → Option α} : kP S (some 7) 4 0 f = f (some 8) := (kP_some h.a7 h.2.1).trans (congrArg f h.2.2.2.1)
theorem LF.p74 (h : LF S c q) {f : Option Nat → Option α} : kP S (some 7) 4 4 f = f (some q) := (kP_some h.a7 h.2.1).trans (congrArg f h.2.2.2.2.2.1)
theorem LF.o8 (h : LF S c q) {g : Nat → Option α} : kO S (some 8) 8 g = g 8 := kO_some h.a8 h.2.2.1
theorem LF.i8 (h : LF S c q) {j : Nat} {f : Int32 → Option α} : kI S (some 8) 8 j f = f (hI S 8 j) := kI_some h.a8 h.2.2.1
theorem LF.iq (h : LF S c q) {j : Nat} {f : Int32 → Option α} : kI S (some q) 2 j f = f (hI S q j) := kI_some h.2.2.2.2.2.2.2.2.1 h.2.2.2.2.2.2.2.2.2
theorem LF.id (h : LF S c q) {j : Nat} {f : Int32 → Option α} : kI S (some c) 3 j f = f (hI S c j) := kI_some h.2.2.2.2.2.2.1 h.2.2.2.2.2.2.2.1
theorem LF.p73 (h : LF S c q) {f : Option Nat → Option α} : kP S (some 7) 4 3 f = f (some c) := (kP_some h.a7 h.2.1).trans (congrArg f h.2.2.2.2.1)
theorem LF.u (h : LF S c q) {f : Int32 → HS → Option α} : kc (s_X8_unwinds S 8) f = f (fUn (hI S 8 3) (hI S 8 5)) S := by rw [k_unwinds h.a8 h.2.2.1, kc_some]
theorem LM.u (h : LM S) {f : Int32 → HS → Option α} : kc (s_X12_unwinds S 33) f = f (fUn (hI S 33 19) (hI S 33 20)) S := by rw [m_unwinds h, kc_some]
theorem m_sz {t : Int32} {f : Int32 → HS → Option α} : kc (s_X12_size S t) f = f (fsz t) S := by rw [m_size, kc_some]
end L2T
/-- S2 is S but for the foretold RUN -/
def KS (S S2 : HS) : Prop := SX S S2 ∧ hI S2 7 = hI S 7 ∧ hP S2 7 = hP S 7
theorem KS.rf (S : HS) : KS S S := ⟨SX.rf S, rfl, rfl⟩
theorem KS.tr {S T U : HS} (h : KS S T) (g : KS T U) : KS S U := ⟨h.1.tr g.1, g.2.1.trans h.2.1, g.2.2.trans h.2.2⟩
theorem KS.cw {S : HS} (f : Nat → Int32) : KS S (wC S 8 f) := ⟨SX.cw f (Or.inr (Or.inl rfl)), hI_wC_ne (by decide), rfl⟩
/-- what both are about is the same -/
def AT (S T : HS) (c q d k : Nat) : Prop := LF S c q ∧ LM T ∧ d < 4 ∧ k < 4 ∧ 46 ≤ c ∧ 46 ≤ q ∧ (∀ j, j < 3 → hI S c j = hI T 37 (3 + 3 * d + j)) ∧ (∀ j, j < 4 → hI S q j = hI T 37 (15 + 4 * k + j)) ∧ DOK (hI S c 0) (hI S c 1) (hI S c 2) ∧ COK (hI S q 0) (hI S q 1) (hI S q 2) (hI S q 3)
theorem LF.keep {S S2 : HS} {c q : Nat} (h : LF S c q) (g : KS S S2) : LF S2 c q := by
  obtain ⟨h0, k7, k8, q0, q3, q4, dn, dk, qn, qk⟩ := h
  obtain ⟨⟨gn, gk, -⟩, -, gp⟩ := g
  unfold LF
  rw [gn, gp]
  simp only [gk]
  exact ⟨h0, k7, k8, q0, q3, q4, dn, dk, qn, qk⟩
theorem AT.keep {S T S2 T2 : HS} {c q d k : Nat} (h : AT S T c q d k) (g : KS S S2) (g2 : SX T T2) : AT S2 T2 c q d k := by
  obtain ⟨hF, hM, hd, hk, hc, hq, hD, hQ, h1, h2⟩ := h
  have ec := g.1.ge hc
  have eq := g.1.ge hq
  refine ⟨hF.keep g, g2.lm hM, hd, hk, hc, hq, ?_, ?_, ?_, ?_⟩
  · intro j hj
    rw [ec, g2.m37]
    exact hD j hj
  · intro j hj
    rw [eq, g2.m37]
    exact hQ j hj
  · rw [ec]; exact h1
  · rw [eq]; exact h2
def TW (S T : HS) (c q d k : Nat) : Prop := AT S T c q d k ∧ hP S 8 0 = some c ∧ hP S 8 1 = some q ∧ FR (hI S 8) (hI T 33) ∧ TOK (hI S q 2) (hI S 8 3) (hI S 8 5)
theorem TW.un {S T : HS} {c q d k : Nat} (h : TW S T c q d k) : fUn (hI T 33 19) (hI T 33 20) = fUn (hI S 8 3) (hI S 8 5) := by rw [h.2.2.2.1.1, h.2.2.2.1.2.1]
theorem tkTh_01 (a b : Int32) : tkTh a b = 0 ∨ tkTh a b = 1 := by
  unfold tkTh
  split
  · exact Or.inr rfl
  · exact Or.inl rfl
theorem DOK.ne {w a t : Int32} (h : DOK w a t) : ¬ w = 0 := by
  obtain ⟨W, C, T, e0, -, -, hW, hW2, -⟩ := h
  rw [e0]
  exact nI_ne0 (by omega) (by omega)
theorem TW.tick {S T : HS} {c q d k F p : Nat} {l1 l2 f lamp : Int32} (h : TW S T c q d k) (h1 : l1 = nI d) (h2 : l2 = nI k) (hf : f = nI F) (hF : F ≤ 99) (hl : lamp = nI p) (hp : p ≤ 50) : ∃ S2 T2, s_X8_tick S 8 f lamp = some S2 ∧ s_X12_tick T 33 l1 l2 f lamp = some T2 ∧ TW S2 T2 c q d k ∧ KS S S2 ∧ SX T T2 ∧ hI S2 8 6 = hI T2 33 22 ∧ hI S2 8 10 = hI S 8 10 + hI T2 33 23 ∧ (hI T2 33 23 = 0 ∨ hI T2 33 23 = 1) ∧ hI S2 8 4 = hI S 8 3 ∧ hI S2 8 7 = fmax (hI S 8 7) (hI T2 33 22) ∧ (∀ j, j < 19 ∨ 23 < j → hI T2 33 j = hI T 33 j) ∧ (∀ a, a ≠ 33 → hI T2 a = hI T a) ∧ (∀ a, a ≠ 8 → hI S2 a = hI S a) := by
  obtain ⟨hA, p0, p1, hR, hT⟩ := h
  obtain ⟨hLF, hM, hd, hk, hc, hq, hD, hQ, g1, g2⟩ := id hA
  obtain ⟨f0, k7, k8, q0, q3, q4, dn, dk, qn, qk⟩ := id hLF
  have ew : ¬ hI T 37 (3 + 3 * d) = 0 := by
    have := hD 0 (by decide)
    rw [show 3 + 3 * d + 0 = 3 + 3 * d from rfl] at this
    rw [← this]
    exact g1.ne
  have e1 := k_tick0 (f := f) (lamp := lamp) hLF.a8 k8 p0 dn dk p1 qn qk g1.ne
  have e2 := m_tick (f := f) (lamp := lamp) hM h1 h2 hd hk ew
  obtain ⟨r1, r2, r3, r4, r5, r6, r7, r8⟩ := tick_rel hR hD hQ g1 g2 hf hF hl hp hT
  have x2 : SX T (wC T 33 (mTk (hI T 33) (hI T 37) d k f lamp)) := w33_fr (fun j hj => mTk_fr _ _ _ _ _ _ hj)
  have x1 : KS S (wC S 8 (cTk0 (hI S 8) (hI S c) (hI S q) f lamp)) := KS.cw _
  have s33 : hI (wC T 33 (mTk (hI T 33) (hI T 37) d k f lamp)) 33 = mTk (hI T 33) (hI T 37) d k f lamp := hI_wC_self _ _ _
  have s8 : hI (wC S 8 (cTk0 (hI S 8) (hI S c) (hI S q) f lamp)) 8 = cTk0 (hI S 8) (hI S c) (hI S q) f lamp := hI_wC_self _ _ _
  refine ⟨_, _, e1, e2, ⟨hA.keep x1 x2, p0, p1, ?_, ?_⟩, x1, x2, ?_, ?_, ?_, ?_, ?_, ?_, fun a ha => hI_wC_ne ha, fun a ha => hI_wC_ne ha⟩
  · rw [s33, s8]; exact r1
  · rw [s8, x1.1.ge hq]; exact r8
  · rw [s33, s8]; exact r2
  · rw [s33, s8]; exact r3
  · rw [s33, mTk_23]; exact tkTh_01 _ _
  · rw [s8]; exact r5
  · rw [s33, s8]; exact r4
  · intro j hj
    rw [s33]
    exact mTk_fr _ _ _ _ _ _ hj
theorem TW.start {S T : HS} {c q d k : Nat} {t0 : Int32} (h : AT S T c q d k) (h5 : hI S 7 5 = t0) (ht : TOK (hI S q 2) t0 0) : ∃ S1 T1, s_X4_start S 7 = some S1 ∧ s_X12_rest T 33 t0 = some T1 ∧ TW S1 T1 c q d k ∧ KS S S1 ∧ SX T T1 ∧ hI S1 8 = c0 (hI S 8) t0 ∧ (∀ a, a ≠ 33 → hI T1 a = hI T a) ∧ (∀ a, a ≠ 8 → hI S1 a = hI S a) := by
  have e1 := k_start0 h.1
  have e2 := m_rest h.2.1 t0
  rw [h5] at e1
  have x1 : KS S (st8 S 8 (some c) (some q) none t0) := ⟨st8_SX _ _ _ _ _, hI_wC_ne (by decide), st8_p.2.2⟩
  have x2 : SX T (wC T 33 (rup (rup (rup (hI T 33) 19 t0) 20 0) 21 0)) := w33_fr (fun j hj => by rw [rup_ne (by omega), rup_ne (by omega), rup_ne (by omega)])
  have s8 : hI (st8 S 8 (some c) (some q) none t0) 8 = c0 (hI S 8) t0 := hI_wC_self _ _ _
  refine ⟨_, _, e1, e2, ⟨h.keep x1 x2, st8_p.1, st8_p.2.1, ?_, ?_⟩, x1, x2, s8, fun a ha => hI_wC_ne ha, fun a ha => hI_wC_ne ha⟩
  · rw [s8, hI_wC_self]
    exact FR_start _ _ _
  · rw [s8, x1.1.ge h.2.2.2.2.2.1]
    exact ht
theorem ab_AT {S T : HS} (h : RR S) {c q d k : Nat} (hD : isD S c d) (hQ : isC S q k) (t0 f n : Int32) (g : SX S T) : AT (ab S c q t0 f n) T c q d k := by
  have gx := ab_SX S c q t0 f n
  have e1 := gx.ge hD.1
  have e2 := gx.ge hQ.1
  have e3 := g.m37
  refine ⟨(ab_LF h hD hQ t0 f n).1, g.lm h.1, hD.2.2.2.1, hQ.2.2.2.1, hD.1, hQ.1, ?_, ?_, ?_, ?_⟩
  · rw [e1, e3]; exact hD.2.2.2.2.1
  · rw [e2, e3]; exact hQ.2.2.2.2.1
  · rw [e1]; exact hD.2.2.2.2.2
  · rw [e2]; exact hQ.2.2.2.2.2
/-- the way of all that ask of a foretold RUN -/
theorem asked_ok {S : HS} (h : RR S) {l1 l2 t0 f n : Int32} {K M : HS → Option (Int32 × HS)} (H : ∀ c q d k F N : Nat, l1 = nI d → l2 = nI k → isD S c d → isC S q k → f = nI F → F ≤ 99 → n = nI N → N ≤ 300 → 1 ≤ N → TOK (hI S q 2) t0 0 → 1 ≤ t0.toInt → ∃ r S1 S2, K (ab S c q t0 f n) = some (r, S1) ∧ SX S S1 ∧ M (wI S1 33 0 0) = some (r, S2) ∧ SX S S2) : CK (fun S => kO S (some 0) 11 (fun a3 => kc (s_X11_foretells S a3 l1 l2 t0 f n) (fun v2 S1 => if v2 = 0 then some (-1000001, S1) else K S1))) (fun S => kwI S (some 33) 12 0 0 (fun S1 => kO S1 (some 33) 12 (fun a4 => kc (s_X12_isAsked S1 a4 l1 l2 t0 f n) (fun v3 S2 => if v3 = 0 then some (-1000001, S2) else M S2)))) S := by
  obtain ⟨nd, nc, nh, hd, hc, -, nd4, nc4, -⟩ := h.cnt
  have hLC := h.2.1
  rcases c_foretells_ h hd nd4 hc nc4 l1 l2 t0 f n with ⟨va, c, q, d, k, e1, e2, hD, hQ, e⟩ | ⟨va, e⟩
  · obtain ⟨F, hf, -, hF⟩ := I_N va.2.2.2.1.1 va.2.2.2.1.2 (by decide)
    obtain ⟨N, hn, hN1, hN⟩ := I_N va.2.2.2.2.1 va.2.2.2.2.2 (by decide)
    have hk4 := hQ.2.2.2.1
    have ek : l2.toInt.toNat = k := by rw [e2, nI_toInt (by omega)]; rfl
    have em : hI S 37 (15 + 4 * l2.toInt.toNat + 2) = hI S q 2 := by rw [ek]; exact (hQ.2.2.2.2.1 2 (by decide)).symm
    have va3 := va.2.2.1
    rw [em] at va3
    obtain ⟨r, S1, S2, k1, k2, k3, k4⟩ := H c q d k F N e1 e2 hD hQ hf (by omega) hn (by omega) (by omega) (TOK_start va3.1 va3.2) va3.1
    have g1 := k2.tr (SX.w0 S1)
    have hL := g1.lm h.1
    have e37 := g1.m37
    refine ⟨r, S1, S2, ?_, ?_, h.to k4⟩
    · show kO S (some 0) 11 _ = _
      rw [kO_c0 hLC, e, kc_some, if_neg (by decide)]
      exact k1
    · show kwI S1 (some 33) 12 0 0 _ = _
      rw [kwI_m (k2.lm h.1), kO_m hL]
      rcases m_isAsked hL (by rw [e37]; exact hd) nd4 (by rw [e37]; exact hc) nc4 l1 l2 t0 f n with ⟨va2, e9⟩ | ⟨va2, e9⟩
      · rw [e9, kc_some, if_neg (by decide)]
        exact k3
      · exact absurd (by unfold VA at va ⊢; rw [e37]; exact va) va2
  · have g1 := SX.w0 S
    have hL := g1.lm h.1
    have e37 := g1.m37
    refine ⟨-1000001, S, wI S 33 0 0, ?_, ?_, h.to g1⟩
    · show kO S (some 0) 11 _ = _
      rw [kO_c0 hLC, e, kc_some, if_pos rfl]
    · show kwI S (some 33) 12 0 0 _ = _
      rw [kwI_m h.1, kO_m hL]
      rcases m_isAsked hL (by rw [e37]; exact hd) nd4 (by rw [e37]; exact hc) nc4 l1 l2 t0 f n with ⟨va2, e9⟩ | ⟨va2, e9⟩
      · exact absurd (by unfold VA at va2 ⊢; rw [e37] at va2; exact va2) va
      · rw [e9, kc_some, if_pos rfl]
theorem asked_bad {S T : HS} (h : RR S) (g : SX S T) {l1 l2 t0 f n : Int32} {M : HS → Option (Int32 × HS)} (H : ∀ U, M U = some (-1000001, U)) : ∃ T2, kwI T (some 33) 12 0 0 (fun S1 => kO S1 (some 33) 12 (fun a4 => kc (s_X12_isAsked S1 a4 l1 l2 t0 f n) (fun v3 S2 => if v3 = 0 then some (-1000001, S2) else M S2))) = some (-1000001, T2) ∧ RR T2 := by
  obtain ⟨nd, nc, nh, hd, hc, -, nd4, nc4, -⟩ := h.cnt
  have g1 := g.tr (SX.w0 T)
  have hL := g1.lm h.1
  have e37 := g1.m37
  refine ⟨wI T 33 0 0, ?_, h.to g1⟩
  rw [kwI_m (g.lm h.1), kO_m hL]
  rcases m_isAsked hL (by rw [e37]; exact hd) nd4 (by rw [e37]; exact hc) nc4 l1 l2 t0 f n with ⟨va, e⟩ | ⟨va, e⟩
  · rw [e, kc_some, if_neg (by decide), H]
  · rw [e, kc_some, if_pos rfl]
