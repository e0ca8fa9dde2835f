/-! ===== TOKENS of the reference; both ===== -/
def mNx (S : HS) : Option HS := kI S (some 33) 12 12 (fun v9 => kwI S (some 33) 12 14 v9 (fun S10 => kI S10 (some 33) 12 12 (fun v11 => kO S10 (some 33) 12 (fun a14 => kc (s_X12_byteAt S10 a14 v11) (fun v13 S12 => if v13 = (-1000000) then (kwI S12 (some 33) 12 13 1 (fun S21 => s_X12_next_b157 33 S21)) else (kc (s_X12_isLetter S12 v13) (fun v16 S15 => if v16 = 0 then (kc (s_X12_isFigure S15 v13) (fun v18 S17 => if v18 = 0 then (if v13 = 45 then (s_X12_next_b125 33 S17) else (kI S17 (some 33) 12 12 (fun v19 => kwI S17 (some 33) 12 12 (v19 + 1) (fun S20 => if v13 = 59 then (s_X12_next_b154 33 S20 (some 33) 4) else (s_X12_next_b154 33 S20 (some 33) 0))))) else (s_X12_next_b125 33 S17))) else (s_X12_next_L77 33 100000 S15))))))))
def mNe (T : HS) (l1 l2 : Int32) : Option HS := if l1 = 0 then (kI T (some 33) 12 16 (fun v7 => s_X12_nextNumber_b131 33 T l2 (some 33) v7)) else (kI T (some 33) 12 16 (fun v8 => s_X12_nextNumber_b131 33 T l2 (some 33) (-v8)))
section L2TM
variable {N : Nat} {B : Nat → Nat}
theorem m_skip : ∀ (m F i : Nat) (T : HS), BM T N B → hI T 33 12 = nI i → i + m = N → m < F → s_X12_next_L0 33 F T = mNx (wI T 33 12 (nI (run bW B m i))) := by
  intro m
  induction m with
  | zero =>
    intro F i T h e hi hF
    obtain ⟨F, rfl⟩ : ∃ z, F = z + 1 := ⟨F - 1, by omega⟩
    have hb := m_byteN h
    have ei : i = N := by omega
    subst ei
    show s_X12_next_b0 _ 33 T = mNx (wI T 33 12 (nI i))
    rw [wI_self e]
    unfold s_X12_next_b0
    rw [kI_m h.1, e, kO_m h.1, hb, kc_some, if_neg (by decide), kI_m h.1, e, kO_m h.1, hb, kc_some, if_neg (by decide)]
    rfl
  | succ m ih =>
    intro F i T h e hi hF
    obtain ⟨F, rfl⟩ : ∃ z, F = z + 1 := ⟨F - 1, by omega⟩
    have hb := m_byte h (i := i) (by omega)
    obtain ⟨b1, b2⟩ := h.2.2.2 i (by omega)
    obtain ⟨x1, x2, -⟩ := nbE (B i) b1
    have er : run bW B (m + 1) i = (if bW (B i) = true then run bW B m (i + 1) else i) := rfl
    have st : s_X12_next_b26 (s_X12_next_L0 33 F) 33 T = mNx (wI T 33 12 (nI (run bW B m (i + 1)))) := by
      unfold s_X12_next_b26
      rw [kI_m h.1, e, kwI_m h.1, nI_1, ih F (i + 1) (wI T 33 12 (nI (i + 1))) (h.k (K33.w T _ (by decide))) (hI_wI_self _ _ _ _) (by omega) (by omega), wI_wI]
    rw [er]
    show s_X12_next_b0 _ 33 T = _
    unfold s_X12_next_b0
    rw [kI_m h.1, e, kO_m h.1, hb, kc_some, st, kI_m h.1, e, kO_m h.1, hb, kc_some]
    by_cases c1 : B i = 32
    · rw [if_pos (x1.mpr c1), if_pos (show bW (B i) = true by rw [c1]; rfl)]
    · rw [if_neg (fun z => c1 (x1.mp z))]
      by_cases c2 : B i = 10
      · rw [if_pos (x2.mpr c2), if_pos (show bW (B i) = true by rw [c2]; rfl)]
        exact st
      · rw [if_neg (fun z => c2 (x2.mp z)), if_neg (show ¬ bW (B i) = true from fun z => by
          unfold bW at z
          rcases (Bool.or_eq_true _ _).mp z with z | z
          · exact c1 (eq_of_beq z)
          · exact c2 (eq_of_beq z)), wI_self e]
        unfold mNx
        rw [kI_m h.1, e]
theorem m_ltr : ∀ (m F i : Nat) (T : HS), BM T N B → hI T 33 12 = nI i → i + m = N → m < F → s_X12_next_L77 33 F T = some (wI (wI (wI T 33 12 (nI (run bL B m i))) 33 13 2) 33 15 (nI (run bL B m i))) := by
  have fin : ∀ (T : HS) (i : Nat), LM T → hI T 33 12 = nI i → kwI T (some 33) 12 13 2 (fun S7 => s_X12_next_b157 33 S7) = some (wI (wI (wI T 33 12 (nI i)) 33 13 2) 33 15 (nI i)) := by
    intro T i hM e
    unfold s_X12_next_b157
    rw [kwI_m hM, kI_m (by exact hM), hI_wI_j (by decide), e, kwI_m (by exact hM), wI_self e]
  intro m
  induction m with
  | zero =>
    intro F i T h e hi hF
    obtain ⟨F, rfl⟩ : ∃ z, F = z + 1 := ⟨F - 1, by omega⟩
    have hb := m_byteN h
    have ei : i = N := by omega
    subst ei
    show s_X12_next_b77 _ 33 T = some (wI (wI (wI T 33 12 (nI i)) 33 13 2) 33 15 (nI i))
    unfold s_X12_next_b77
    have e9 : s_X12_isLetter T (-1000000) = some (0, T) := by
      unfold s_X12_isLetter
      rw [if_pos (by decide), kzr_0]
    rw [kI_m h.1, e, kO_m h.1, hb, kc_some, e9, kc_some, if_pos rfl, fin T i h.1 e]
  | succ m ih =>
    intro F i T h e hi hF
    obtain ⟨F, rfl⟩ : ∃ z, F = z + 1 := ⟨F - 1, by omega⟩
    have hb := m_byte h (i := i) (by omega)
    obtain ⟨b1, b2⟩ := h.2.2.2 i (by omega)
    have er : run bL B (m + 1) i = (if bL (B i) = true then run bL B m (i + 1) else i) := rfl
    rw [er]
    show s_X12_next_b77 _ 33 T = _
    unfold s_X12_next_b77
    rw [kI_m h.1, e, kO_m h.1, hb, kc_some, m_isLetter T b1, kc_some]
    by_cases c : bL (B i) = true
    · rw [if_pos c, if_pos c, if_neg (by decide), kI_m h.1, e, kwI_m h.1, nI_1, ih F (i + 1) (wI T 33 12 (nI (i + 1))) (h.k (K33.w T _ (by decide))) (hI_wI_self _ _ _ _) (by omega) (by omega), wI_wI]
    · rw [if_neg c, if_neg c, if_pos rfl, fin T i h.1 e]
theorem m_num {fg : Nat} {l1 : Int32} (hfg : fg ≤ 501) : ∀ (m F i : Nat) (T : HS) (v : Int32), BM T N B → hI T 33 12 = nI i → hI T 33 16 = v → i + m = N → fg ≤ i → m < F → ∃ T2, s_X12_nextNumber_L47 33 F T l1 (nI fg) = mNe T2 l1 (nI fg) ∧ K33 T T2 ∧ hI T2 33 12 = nI (run bD B m i) ∧ hI T2 33 16 = nv B fg m i v ∧ ∀ j, j ≠ 12 → j ≠ 16 → hI T2 33 j = hI T 33 j := by
  intro m
  induction m with
  | zero =>
    intro F i T v h e ev hi hg hF
    obtain ⟨F, rfl⟩ : ∃ z, F = z + 1 := ⟨F - 1, by omega⟩
    have hb := m_byteN h
    have ei : i = N := by omega
    subst ei
    refine ⟨T, ?_, K33.rf T, e, ev, fun _ _ _ => rfl⟩
    have e9 : s_X12_isFigure T (-1000000) = some (0, T) := by
      unfold s_X12_isFigure
      rw [if_pos (by decide), kzr_0]
    show s_X12_nextNumber_b47 _ 33 T l1 (nI fg) = _
    unfold s_X12_nextNumber_b47
    rw [kI_m h.1, e, kO_m h.1, hb, kc_some, e9, kc_some, if_pos rfl]
    rfl
  | succ m ih =>
    intro F i T v h e ev hi hg hF
    obtain ⟨F, rfl⟩ : ∃ z, F = z + 1 := ⟨F - 1, by omega⟩
    have hN := h.2.2.1
    have hb := m_byte h (i := i) (by omega)
    obtain ⟨b1, b2⟩ := h.2.2.2 i (by omega)
    have er : run bD B (m + 1) i = (if bD (B i) = true then run bD B m (i + 1) else i) := rfl
    have en : nv B fg (m + 1) i v = (if bD (B i) = true then nv B fg m (i + 1) (if fg + 4 ≤ i then v else 10 * v + nI (B i) - 48) else v) := rfl
    have hd : s_X12_nextNumber_L47 33 (F + 1) T l1 (nI fg) = (if (if bD (B i) = true then (1 : Int32) else 0) = 0 then mNe T l1 (nI fg) else if 4 ≤ nI i - nI fg then s_X12_nextNumber_b98 (s_X12_nextNumber_L47 33 F) 33 T l1 (nI fg) (some 33) v else s_X12_nextNumber_b98 (s_X12_nextNumber_L47 33 F) 33 T l1 (nI fg) (some 33) (10 * v + nI (B i) - 48)) := by
      show s_X12_nextNumber_b47 _ 33 T l1 (nI fg) = _
      unfold s_X12_nextNumber_b47
      rw [kI_m h.1, e, kO_m h.1, hb, kc_some, m_isFigure T b1, kc_some]
      show (if (if bD (B i) = true then (1 : Int32) else 0) = 0 then mNe T l1 (nI fg) else _) = _
      rw [kI_m h.1, e, kI_m h.1, ev, kI_m h.1, ev, kI_m h.1, e, kO_m h.1, hb, kc_some]
    have st : ∀ w, ∃ T2, s_X12_nextNumber_b98 (s_X12_nextNumber_L47 33 F) 33 T l1 (nI fg) (some 33) w = mNe T2 l1 (nI fg) ∧ K33 T T2 ∧ hI T2 33 12 = nI (run bD B m (i + 1)) ∧ hI T2 33 16 = nv B fg m (i + 1) w ∧ ∀ j, j ≠ 12 → j ≠ 16 → hI T2 33 j = hI T 33 j := by
      intro w
      have hb7 : BM (wI T 33 16 w) N B := h.k (K33.w T _ (by decide))
      obtain ⟨T2, i1, i2, i3, i4, i5⟩ := ih F (i + 1) (wI (wI T 33 16 w) 33 12 (nI (i + 1))) w (hb7.k (K33.w _ _ (by decide))) (hI_wI_self _ _ _ _) (by rw [hI_wI_j (by decide), hI_wI_self]) (by omega) (by omega) (by omega)
      refine ⟨T2, ?_, ((K33.w T _ (by decide)).tr (K33.w _ _ (by decide))).tr i2, i3, i4, fun j j6 j7 => by rw [i5 j j6 j7, hI_wI_j j6, hI_wI_j j7]⟩
      unfold s_X12_nextNumber_b98
      rw [kwI_m h.1, kI_m hb7.1, hI_wI_j (by decide), e, kwI_m hb7.1, nI_1]
      exact i1
    by_cases c : bD (B i) = true
    · rw [er, en, if_pos c, if_pos c, hd, if_pos c, if_neg (by decide), nI_sub hg]
      by_cases c4 : fg + 4 ≤ i
      · rw [if_pos (show (4 : Int32) ≤ nI (i - fg) from (nI_le_iff (a := 4) (by omega) (by omega)).mpr (by omega)), if_pos c4]
        exact st v
      · rw [if_neg (show ¬ (4 : Int32) ≤ nI (i - fg) from fun z => by have := (nI_le_iff (a := 4) (by omega) (by omega)).mp z; omega), if_neg c4]
        exact st _
    · refine ⟨T, ?_, K33.rf T, by rw [er, if_neg c]; exact e, by rw [en, if_neg c]; exact ev, fun _ _ _ => rfl⟩
      rw [hd, if_neg c, if_pos rfl]
end L2TM
/-- the TOKEN that both stand at -/
def TKR (S T : HS) (N : Nat) (B : Nat → Nat) : Prop := ∃ f : Nat, f ≤ N ∧ hI S 2 5 = nI f ∧ hI T 33 14 = nI f ∧ ((hI S 2 4 = 4 ∧ hI T 33 13 = 0) ∨ ∃ p : Nat, p ≤ N ∧ hI S 2 6 = nI p ∧ hI T 33 12 = nI p ∧ hI T 33 15 = nI p ∧ ((hI S 2 4 = 0 ∧ hI T 33 13 = 1) ∨ (hI S 2 4 = 1 ∧ hI T 33 13 = 2 ∧ f < p ∧ ∀ j, f ≤ j → j < p → bL (B j) = true) ∨ (hI S 2 4 = 2 ∧ hI T 33 13 = 3 ∧ hI S 2 7 = hI T 33 16) ∨ (hI S 2 4 = 3 ∧ hI T 33 13 = 4)))
theorem num_both {N fg : Nat} {B : Nat → Nat} {S T : HS} (hS : BC S N B) (hT : BM T N B) (l1 : Int32) (hg : fg ≤ N) {f : Nat} (hf : f ≤ fg) (s5 : hI S 2 5 = nI f) (t14 : hI T 33 14 = nI f) : ∃ S2 T2, s_X10_nextNumber_b37 2 S l1 (nI fg) = some S2 ∧ (∃ T3, s_X12_nextNumber_L47 33 100000 (wI (wI T 33 12 (nI fg)) 33 16 0) l1 (nI fg) = some T3 ∧ s_X12_next_b157 33 T3 = some T2) ∧ K2 S S2 ∧ K33 T T2 ∧ TKR S2 T2 N B := by
  have hN := hS.2.2.1
  have hS7 : BC (wI (wI S 2 7 0) 2 6 (nI fg)) N B := (hS.k (K2.w S _ (by decide))).k (K2.w _ _ (by decide))
  have hT7 : BM (wI (wI T 33 12 (nI fg)) 33 16 0) N B := (hT.k (K33.w T _ (by decide))).k (K33.w _ _ (by decide))
  obtain ⟨S3, a1, a2, a3, a4, a5⟩ := c_num (fg := fg) (l1 := l1) (by omega) (N - fg) 100000 fg _ 0 hS7 (hI_wI_self _ _ _ _) (by rw [hI_wI_j (by decide), hI_wI_self]) (by omega) (Nat.le_refl _) (by omega)
  obtain ⟨T3, b1, b2, b3, b4, b5⟩ := m_num (fg := fg) (l1 := l1) (by omega) (N - fg) 100000 fg _ 0 hT7 (by rw [hI_wI_j (by decide), hI_wI_self]) (hI_wI_self _ _ _ _) (by omega) (Nat.le_refl _) (by omega)
  have hS3 := hS7.k a2
  have hT3 := hT7.k b2
  obtain ⟨q1, q2⟩ := run_rng bD B (N - fg) fg
  generalize run bD B (N - fg) fg = E at a3 b3 q1 q2
  generalize nv B fg (N - fg) fg 0 = V at a4 b4
  have c37 : s_X10_nextNumber_b37 2 S l1 (nI fg) = s_X10_nextNumber_b134 2 S3 l1 (nI fg) := by
    unfold s_X10_nextNumber_b37
    rw [kwI_c2 hS.1, kwI_c2 (by exact hS.1), a1]
  -- the sign
  have cs : s_X10_nextNumber_b134 2 S3 l1 (nI fg) = s_X10_nextNumber_b147 2 (wI S3 2 7 (if l1 = 0 then V else -V)) (nI fg) := by
    unfold s_X10_nextNumber_b134
    by_cases z : l1 = 0
    · rw [if_pos z, if_pos z, wI_self a4]
    · rw [if_neg z, if_neg z, kI_c2 hS3.1, a4, kwI_c2 hS3.1]
  have ms : mNe T3 l1 (nI fg) = s_X12_nextNumber_b131 33 T3 (nI fg) (some 33) (if l1 = 0 then V else -V) := by
    unfold mNe
    by_cases z : l1 = 0
    · rw [if_pos z, if_pos z, kI_m hT3.1, b4]
    · rw [if_neg z, if_neg z, kI_m hT3.1, b4]
  generalize (if l1 = 0 then V else -V) = X at cs ms
  have hS4 : BC (wI S3 2 7 X) N B := hS3.k (K2.w _ _ (by decide))
  have e6 : hI (wI S3 2 7 X) 2 6 = nI E := by rw [hI_wI_j (by decide)]; exact a3
  have cf : s_X10_nextNumber_b147 2 (wI S3 2 7 X) (nI fg) = some (wI (wI S3 2 7 X) 2 4 (if 1 ≤ E - fg ∧ E - fg ≤ 4 then 2 else 4)) := by
    have z6 : nI E = nI fg ↔ E = fg := nI_eqI (by omega) (by omega)
    unfold s_X10_nextNumber_b147 s_X10_nextNumber_b166 s_X10_nextNumber_b171
    rw [kI_c2 hS4.1, kI_c2 hS4.1, e6, nI_sub (by omega), kwI_c2 hS4.1, kwI_c2 hS4.1]
    by_cases z1 : E = fg
    · rw [if_pos (z6.mpr z1), if_neg (by omega)]
    · rw [if_neg (fun q => z1 (z6.mp q))]
      by_cases z2 : E - fg ≤ 4
      · rw [if_pos (show nI (E - fg) ≤ 4 from (nI_le_iff (b := 4) (by omega) (by omega)).mpr z2), if_pos (by omega)]
      · rw [if_neg (show ¬ nI (E - fg) ≤ 4 from fun q => z2 ((nI_le_iff (b := 4) (by omega) (by omega)).mp q)), if_neg (by omega)]
  have hT4 : BM (wI T3 33 16 X) N B := hT3.k (K33.w _ _ (by decide))
  have f12 : hI (wI T3 33 16 X) 33 12 = nI E := by rw [hI_wI_j (by decide)]; exact b3
  have mf : s_X12_nextNumber_b131 33 T3 (nI fg) (some 33) X = some (wI (wI T3 33 16 X) 33 13 (if 1 ≤ E - fg ∧ E - fg ≤ 4 then 3 else 0)) := by
    unfold s_X12_nextNumber_b131 s_X12_nextNumber_b157
    rw [kwI_m hT3.1, kI_m hT4.1, f12, nI_sub (by omega), m_inI _ (a := 1) (b := 4) rfl rfl, kc_some, nI_toInt (by omega), kwI_m hT4.1, kwI_m hT4.1]
    by_cases z : 1 ≤ E - fg ∧ E - fg ≤ 4
    · rw [if_pos (show (1 : Int) ≤ ((E - fg : Nat) : Int) ∧ ((E - fg : Nat) : Int) ≤ 4 by omega), if_neg (by decide), if_pos z]
    · rw [if_neg (show ¬ ((1 : Int) ≤ ((E - fg : Nat) : Int) ∧ ((E - fg : Nat) : Int) ≤ 4) by omega), if_pos rfl, if_neg z]
  refine ⟨_, wI (wI (wI T3 33 16 X) 33 13 (if 1 ≤ E - fg ∧ E - fg ≤ 4 then 3 else 0)) 33 15 (nI E), c37.trans (cs.trans cf), ⟨_, b1.trans (ms.trans mf), ?_⟩, ?_, ?_, f, by omega, ?_, ?_, ?_⟩
  · unfold s_X12_next_b157
    rw [kI_m (by exact hT3.1), hI_wI_j (by decide), f12, kwI_m (by exact hT3.1)]
  · exact (((K2.w S _ (by decide)).tr (K2.w _ _ (by decide))).tr a2).tr ((K2.w _ _ (by decide)).tr (K2.w _ _ (by decide)))
  · exact (((K33.w T _ (by decide)).tr (K33.w _ _ (by decide))).tr b2).tr (((K33.w _ _ (by decide)).tr (K33.w _ _ (by decide))).tr (K33.w _ _ (by decide)))
  · rw [hI_wI_j (by decide), hI_wI_j (by decide), a5 5 (by decide) (by decide), hI_wI_j (by decide), hI_wI_j (by decide)]; exact s5
  · rw [hI_wI_j (by decide), hI_wI_j (by decide), hI_wI_j (by decide), b5 14 (by decide) (by decide), hI_wI_j (by decide), hI_wI_j (by decide)]; exact t14
  · by_cases z : 1 ≤ E - fg ∧ E - fg ≤ 4
    · refine Or.inr ⟨E, by omega, ?_, ?_, hI_wI_self _ _ _ _, Or.inr (Or.inr (Or.inl ⟨?_, ?_, ?_⟩))⟩
      · rw [hI_wI_j (by decide)]; exact e6
      · rw [hI_wI_j (by decide), hI_wI_j (by decide)]; exact f12
      · rw [hI_wI_self, if_pos z]
      · rw [hI_wI_j (by decide), hI_wI_self, if_pos z]
      · rw [hI_wI_j (by decide), hI_wI_self, hI_wI_j (by decide), hI_wI_j (by decide), hI_wI_self]
    · refine Or.inl ⟨?_, ?_⟩
      · rw [hI_wI_self, if_neg z]
      · rw [hI_wI_j (by decide), hI_wI_self, if_neg z]
theorem next_both {N p : Nat} {B : Nat → Nat} {S T : HS} (hS : BC S N B) (hT : BM T N B) (hp : p ≤ N) (s6 : hI S 2 6 = nI p) (t12 : hI T 33 12 = nI p) : ∃ S2 T2, s_X10_nextToken S 2 = some S2 ∧ s_X12_next T 33 = some T2 ∧ K2 S S2 ∧ K33 T T2 ∧ TKR S2 T2 N B := by
  have hN := hS.2.2.1
  obtain ⟨q1, q2⟩ := run_rng bW B (N - p) p
  have hq := run_end bW B (N - p) p
  have c0 : s_X10_nextToken S 2 = s_X10_nextToken_b60 2 (wI S 2 5 (nI (run bW B (N - p) p))) := by
    unfold s_X10_nextToken
    rw [kI_c2 hS.1, s6, kwI_c2 hS.1, c_skip (N - p) 100000 p (wI S 2 5 (nI p)) (hS.k (K2.w S _ (by decide))) (hI_wI_self _ _ _ _) (by omega) (by omega), wI_wI]
  have m0 : s_X12_next T 33 = mNx (wI T 33 12 (nI (run bW B (N - p) p))) := by
    unfold s_X12_next
    exact m_skip (N - p) 100000 p T hT t12 (by omega) (by omega)
  generalize run bW B (N - p) p = q at q1 q2 hq c0 m0
  have hS5 : BC (wI S 2 5 (nI q)) N B := hS.k (K2.w S _ (by decide))
  have hS6 : BC (wI (wI S 2 5 (nI q)) 2 6 (nI q)) N B := hS5.k (K2.w _ _ (by decide))
  obtain ⟨r1, r2⟩ := run_rng bL B (N - q) q
  have c1 : s_X10_nextToken S 2 = s_X10_nextToken_b120 2 (wI (wI S 2 5 (nI q)) 2 6 (nI (run bL B (N - q) q))) := by
    rw [c0]
    unfold s_X10_nextToken_b60
    rw [kI_c2 hS5.1, hI_wI_self, kwI_c2 hS5.1, c_ltr (N - q) 100000 q _ hS6 (hI_wI_self _ _ _ _) (by omega) (by omega), wI_wI]
  have hT2 : BM (wI T 33 12 (nI q)) N B := hT.k (K33.w T _ (by decide))
  have hT4 : BM (wI (wI T 33 12 (nI q)) 33 14 (nI q)) N B := hT2.k (K33.w _ _ (by decide))
  have f12 : hI (wI (wI T 33 12 (nI q)) 33 14 (nI q)) 33 12 = nI q := by rw [hI_wI_j (by decide), hI_wI_self]
  have f14 : hI (wI (wI T 33 12 (nI q)) 33 14 (nI q)) 33 14 = nI q := hI_wI_self _ _ _ _
  have kT : K33 T (wI (wI T 33 12 (nI q)) 33 14 (nI q)) := (K33.w T _ (by decide)).tr (K33.w _ _ (by decide))
  generalize hY : wI (wI T 33 12 (nI q)) 33 14 (nI q) = Y at hT4 f12 f14 kT
  have m1 : s_X12_next T 33 = kc (s_X12_byteAt Y 33 (nI q)) (fun v13 S12 => if v13 = (-1000000) then (kwI S12 (some 33) 12 13 1 (fun S21 => s_X12_next_b157 33 S21)) else (kc (s_X12_isLetter S12 v13) (fun v16 S15 => if v16 = 0 then (kc (s_X12_isFigure S15 v13) (fun v18 S17 => if v18 = 0 then (if v13 = 45 then (s_X12_next_b125 33 S17) else (kI S17 (some 33) 12 12 (fun v19 => kwI S17 (some 33) 12 12 (v19 + 1) (fun S20 => if v13 = 59 then (s_X12_next_b154 33 S20 (some 33) 4) else (s_X12_next_b154 33 S20 (some 33) 0))))) else (s_X12_next_b125 33 S17))) else (s_X12_next_L77 33 100000 S15)))) := by
    rw [m0]
    unfold mNx
    rw [kI_m hT2.1, hI_wI_self, kwI_m hT2.1, hY, kI_m hT4.1, f12, kO_m hT4.1]
  -- the class behind the letters
  have x5 : ∀ r, hI (wI (wI S 2 5 (nI q)) 2 6 (nI r)) 2 5 = nI q := fun r => by rw [hI_wI_j (by decide), hI_wI_self]
  have x6 : ∀ r, hI (wI (wI S 2 5 (nI q)) 2 6 (nI r)) 2 6 = nI r := fun r => hI_wI_self _ _ _ _
  have kS : ∀ r, K2 S (wI (wI S 2 5 (nI q)) 2 6 (nI r)) := fun r => (K2.w S _ (by decide)).tr (K2.w _ _ (by decide))
  have hSr : ∀ r, BC (wI (wI S 2 5 (nI q)) 2 6 (nI r)) N B := fun r => hS.k (kS r)
  by_cases e1 : q = N
  · -- the end
    have er : run bL B (N - q) q = q := by rw [e1, Nat.sub_self]; rfl
    rw [er] at c1
    have hb : s_X12_byteAt Y 33 (nI q) = some (-1000000, Y) := by rw [e1]; exact m_byteN hT4
    refine ⟨wI (wI (wI S 2 5 (nI q)) 2 6 (nI q)) 2 4 0, wI (wI Y 33 13 1) 33 15 (nI q), ?_, ?_, (kS q).tr (K2.w _ _ (by decide)), kT.tr ((K33.w _ _ (by decide)).tr (K33.w _ _ (by decide))), q, by omega, ?_, ?_, Or.inr ⟨q, by omega, ?_, ?_, hI_wI_self _ _ _ _, Or.inl ⟨hI_wI_self _ _ _ _, ?_⟩⟩⟩
    · rw [c1]
      unfold s_X10_nextToken_b120
      rw [kI_c2 (hSr q).1, kI_c2 (hSr q).1, x5, (hSr q).2.1, if_neg (show ¬ nI q < nI N by rw [e1]; exact nI_nlt (Nat.le_refl _) (by omega)), kwI_c2 (hSr q).1]
    · rw [m1, hb, kc_some, if_pos rfl, kwI_m hT4.1]
      unfold s_X12_next_b157
      rw [kI_m (by exact hT4.1), hI_wI_j (by decide), f12, kwI_m (by exact hT4.1)]
    · rw [hI_wI_j (by decide)]; exact x5 q
    · rw [hI_wI_j (by decide), hI_wI_j (by decide)]; exact f14
    · rw [hI_wI_j (by decide)]; exact x6 q
    · rw [hI_wI_j (by decide), hI_wI_j (by decide)]; exact f12
    · rw [hI_wI_j (by decide), hI_wI_self]
  · have qN : q < N := by omega
    obtain ⟨b1, b2⟩ := hT4.2.2.2 q qN
    have b3 : hI S 3 q = cb (B q) := (hS.2.2.2 q qN).2
    have hb : s_X12_byteAt Y 33 (nI q) = some (nI (B q), Y) := m_byte hT4 qN
    obtain ⟨x1, x2, x3, x4, x7⟩ := nbE (B q) b1
    obtain ⟨w1, w2, w3, w4⟩ := cbE (B q) b1
    have er : run bL B (N - q) q = (if bL (B q) = true then run bL B (N - q - 1) (q + 1) else q) := by
      rw [show N - q = (N - q - 1) + 1 by omega]
      rfl
    have lt : nI q < nI N := nI_lt qN (by omega)
    rw [hb, kc_some, if_neg x7, m_isLetter Y b1, kc_some] at m1
    by_cases cl : bL (B q) = true
    · -- a NAME
      have hr : q < run bL B (N - q) q := by
        rw [er, if_pos cl]
        have := (run_rng bL B (N - q - 1) (q + 1)).1
        omega
      have hal := run_all bL B (N - q) q
      rw [if_pos cl, if_neg (by decide), m_ltr (N - q) 100000 q Y hT4 f12 (by omega) (by omega)] at m1
      generalize run bL B (N - q) q = r at c1 r1 r2 hr hal m1
      refine ⟨wI (wI (wI S 2 5 (nI q)) 2 6 (nI r)) 2 4 1, _, ?_, m1, (kS r).tr (K2.w _ _ (by decide)), kT.tr (((K33.w _ _ (by decide)).tr (K33.w _ _ (by decide))).tr (K33.w _ _ (by decide))), q, by omega, ?_, ?_, Or.inr ⟨r, by omega, ?_, ?_, hI_wI_self _ _ _ _, Or.inr (Or.inl ⟨hI_wI_self _ _ _ _, ?_, hr, hal⟩)⟩⟩
      · rw [c1]
        unfold s_X10_nextToken_b120
        rw [kI_c2 (hSr r).1, kI_c2 (hSr r).1, x5, (hSr r).2.1, if_pos lt, kI_c2 (hSr r).1, x6, kI_c2 (hSr r).1, x5, if_neg (fun z => by have := (nI_le_iff (by omega) (by omega)).mp z; omega), kwI_c2 (hSr r).1]
      · rw [hI_wI_j (by decide)]; exact x5 r
      · rw [hI_wI_j (by decide), hI_wI_j (by decide), hI_wI_j (by decide)]; exact f14
      · rw [hI_wI_j (by decide)]; exact x6 r
      · rw [hI_wI_j (by decide), hI_wI_j (by decide), hI_wI_self]
      · rw [hI_wI_j (by decide), hI_wI_self]
    · rw [if_neg cl] at er
      rw [er] at c1
      rw [if_neg cl, if_pos rfl, m_isFigure Y b1, kc_some] at m1
      have c2 : s_X10_nextToken S 2 = (if cb (B q) = 59 then some (wI (wI (wI (wI S 2 5 (nI q)) 2 6 (nI q)) 2 4 3) 2 6 (nI (q + 1))) else kcv (s_X10_nextNumber (wI (wI S 2 5 (nI q)) 2 6 (nI q)) 2) (fun S8 => some S8)) := by
        rw [c1]
        unfold s_X10_nextToken_b120
        rw [kI_c2 (hSr q).1, kI_c2 (hSr q).1, x5, (hSr q).2.1, if_pos lt, kI_c2 (hSr q).1, x6, kI_c2 (hSr q).1, x5, if_pos ((nI_le_iff (by omega) (by omega)).mpr (Nat.le_refl _)), kP_c2_0 (hSr q).1, kI_c2 (hSr q).1, x5, kA_c3 (hSr q).1 rfl (by omega), hI_wI_ne (by decide : (3 : Nat) ≠ 2), hI_wI_ne (by decide : (3 : Nat) ≠ 2), b3, kwI_c2 (hSr q).1, kI_c2 (by exact hS.1), hI_wI_j (by decide : (6 : Nat) ≠ 4), x6, kwI_c2 (by exact hS.1), nI_1, kO_c2 (hSr q).1]
      by_cases c59 : B q = 59
      · -- the sign
        have nd : ¬ bD (B q) = true := by rw [c59]; decide
        rw [if_neg nd, if_pos rfl, if_neg (fun z => by have := x4.mp z; omega), kI_m hT4.1, f12, kwI_m hT4.1, if_pos (x3.mpr c59), nI_1] at m1
        rw [if_pos (w3.mpr c59)] at c2
        refine ⟨_, wI (wI (wI Y 33 12 (nI (q + 1))) 33 13 4) 33 15 (nI (q + 1)), c2, ?_, (kS q).tr ((K2.w _ _ (by decide)).tr (K2.w _ _ (by decide))), kT.tr (((K33.w _ _ (by decide)).tr (K33.w _ _ (by decide))).tr (K33.w _ _ (by decide))), q, by omega, ?_, ?_, Or.inr ⟨q + 1, by omega, hI_wI_self _ _ _ _, ?_, hI_wI_self _ _ _ _, Or.inr (Or.inr (Or.inr ⟨?_, ?_⟩))⟩⟩
        · rw [m1]
          unfold s_X12_next_b154 s_X12_next_b157
          rw [kwI_m (by exact hT4.1), kI_m (by exact hT4.1), hI_wI_j (by decide), hI_wI_self, kwI_m (by exact hT4.1)]
        · rw [hI_wI_j (by decide), hI_wI_j (by decide)]; exact x5 q
        · rw [hI_wI_j (by decide), hI_wI_j (by decide), hI_wI_j (by decide)]; exact f14
        · rw [hI_wI_j (by decide), hI_wI_j (by decide), hI_wI_self]
        · rw [hI_wI_j (by decide), hI_wI_self]
        · rw [hI_wI_j (by decide), hI_wI_self]
      · rw [if_neg (fun z => c59 (w3.mp z))] at c2
        have kcid : ∀ o : Option HS, kcv o (fun S8 => some S8) = o := fun o => by
          cases o with
          | none => rfl
          | some x => rfl
        rw [kcid] at c2
        have cn : s_X10_nextNumber (wI (wI S 2 5 (nI q)) 2 6 (nI q)) 2 = (if cb (B q) = 45 then s_X10_nextNumber_b37 2 (wI (wI S 2 5 (nI q)) 2 6 (nI q)) 1 (nI (q + 1)) else s_X10_nextNumber_b37 2 (wI (wI S 2 5 (nI q)) 2 6 (nI q)) 0 (nI q)) := by
          unfold s_X10_nextNumber s_X10_nextNumber_b19
          rw [kP_c2_0 (hSr q).1, kI_c2 (hSr q).1, x5, kA_c3 (hSr q).1 rfl (by omega), hI_wI_ne (by decide : (3 : Nat) ≠ 2), hI_wI_ne (by decide : (3 : Nat) ≠ 2), b3]
          by_cases c : cb (B q) = 45
          · rw [if_pos c, if_pos c, if_neg (by decide), kI_c2 (hSr q).1, x5, nI_1]
          · rw [if_neg c, if_neg c, if_pos rfl, kI_c2 (hSr q).1, x5]
        have mn : ∀ l1 : Int32, ∀ fg : Nat, (l1 = 1 ∧ fg = q + 1 ∧ B q = 45) ∨ (l1 = 0 ∧ fg = q ∧ ¬ B q = 45) → s_X12_nextNumber Y 33 = s_X12_nextNumber_L47 33 100000 (wI (wI Y 33 12 (nI fg)) 33 16 0) l1 (nI fg) := by
          intro l1 fg hl
          have b33 : ∀ k2 : Int32, nI q + k2 = nI fg → s_X12_nextNumber_b33 33 Y l1 (some 33) (nI q) k2 = s_X12_nextNumber_L47 33 100000 (wI (wI Y 33 12 (nI fg)) 33 16 0) l1 (nI fg) := by
            intro k2 hk2
            unfold s_X12_nextNumber_b33
            rw [kwI_m hT4.1, hk2, kI_m (by exact hT4.1), hI_wI_self, kwI_m (by exact hT4.1)]
          unfold s_X12_nextNumber s_X12_nextNumber_b18
          rw [kI_m hT4.1, f12, kO_m hT4.1, hb, kc_some]
          rcases hl with ⟨l2, g2, g3⟩ | ⟨l2, g2, g3⟩
          · subst l2
            rw [if_pos (x4.mpr g3), kI_m hT4.1, f12, if_neg (by decide)]
            exact b33 1 (by rw [g2]; exact nI_1 q)
          · subst l2
            rw [if_neg (fun z => g3 (x4.mp z)), kI_m hT4.1, f12, if_pos rfl]
            exact b33 0 (by rw [g2, Int32.add_zero])
        have m125 : s_X12_next_b125 33 Y = kcv (s_X12_nextNumber Y 33) (fun S1 => s_X12_next_b157 33 S1) := by
          unfold s_X12_next_b125
          rw [kO_m hT4.1]
        have done : ∀ l1 : Int32, ∀ fg : Nat, (l1 = 1 ∧ fg = q + 1 ∧ B q = 45) ∨ (l1 = 0 ∧ fg = q ∧ ¬ B q = 45) → s_X10_nextToken S 2 = s_X10_nextNumber_b37 2 (wI (wI S 2 5 (nI q)) 2 6 (nI q)) l1 (nI fg) → s_X12_next T 33 = s_X12_next_b125 33 Y → ∃ S2 T2, s_X10_nextToken S 2 = some S2 ∧ s_X12_next T 33 = some T2 ∧ K2 S S2 ∧ K33 T T2 ∧ TKR S2 T2 N B := by
          intro l1 fg hl hc hm
          obtain ⟨S2, T2, n1, ⟨T3, n2, n3⟩, n4, n5, n6⟩ := num_both (hSr q) hT4 l1 (fg := fg) (by omega) (f := q) (by omega) (x5 q) f14
          refine ⟨S2, T2, hc.trans n1, ?_, (kS q).tr n4, kT.tr n5, n6⟩
          rw [hm, m125, mn l1 fg hl, n2, kcv_some, n3]
        by_cases c45 : B q = 45
        · have nd : ¬ bD (B q) = true := by rw [c45]; decide
          rw [if_neg nd, if_pos rfl, if_pos (x4.mpr c45)] at m1
          rw [cn, if_pos (w4.mpr c45)] at c2
          exact done 1 (q + 1) (Or.inl ⟨rfl, rfl, c45⟩) c2 m1
        · rw [cn, if_neg (fun z => c45 (w4.mp z))] at c2
          by_cases cd : bD (B q) = true
          · rw [if_pos cd, if_neg (by decide)] at m1
            exact done 0 q (Or.inr ⟨rfl, rfl, c45⟩) c2 m1
          · -- none at all
            rw [if_neg cd, if_pos rfl, if_neg (fun z => c45 (x4.mp z)), kI_m hT4.1, f12, kwI_m hT4.1, if_neg (fun z => c59 (x3.mp z)), nI_1] at m1
            obtain ⟨S3, a1, a2, a3, a4, a5⟩ := c_num (N := N) (B := B) (fg := q) (l1 := 0) (by omega) (N - q) 100000 q (wI (wI (wI (wI S 2 5 (nI q)) 2 6 (nI q)) 2 7 0) 2 6 (nI q)) 0 (((hSr q).k (K2.w _ _ (by decide))).k (K2.w _ _ (by decide))) (hI_wI_self _ _ _ _) (by rw [hI_wI_j (by decide), hI_wI_self]) (by omega) (Nat.le_refl _) (by omega)
            have ed : run bD B (N - q) q = q := by
              rw [show N - q = (N - q - 1) + 1 by omega]
              exact if_neg cd
            rw [ed] at a3
            have hS3 : LC S3 := LC_of (hSr q).1 a2.1 a2.2.1
            refine ⟨wI S3 2 4 4, wI (wI (wI Y 33 12 (nI (q + 1))) 33 13 0) 33 15 (nI (q + 1)), ?_, ?_, ((kS q).tr ((K2.w _ _ (by decide)).tr (K2.w _ _ (by decide)))).tr (a2.tr (K2.w _ _ (by decide))), kT.tr (((K33.w _ _ (by decide)).tr (K33.w _ _ (by decide))).tr (K33.w _ _ (by decide))), q, by omega, ?_, ?_, Or.inl ⟨hI_wI_self _ _ _ _, ?_⟩⟩
            · rw [c2]
              unfold s_X10_nextNumber_b37
              rw [kwI_c2 (hSr q).1, kwI_c2 (by exact (hSr q).1), a1]
              unfold s_X10_nextNumber_b134 s_X10_nextNumber_b147 s_X10_nextNumber_b166 s_X10_nextNumber_b171
              rw [if_pos rfl, kI_c2 hS3, a3, if_pos rfl, kwI_c2 hS3]
            · rw [m1]
              unfold s_X12_next_b154 s_X12_next_b157
              rw [kwI_m (by exact hT4.1), kI_m (by exact hT4.1), hI_wI_j (by decide), hI_wI_self, kwI_m (by exact hT4.1)]
            · rw [hI_wI_j (by decide), a5 5 (by decide) (by decide), hI_wI_j (by decide), hI_wI_j (by decide)]; exact x5 q
            · rw [hI_wI_j (by decide), hI_wI_j (by decide), hI_wI_j (by decide)]; exact f14
            · rw [hI_wI_j (by decide), hI_wI_self]
