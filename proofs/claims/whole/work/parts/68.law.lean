/-! ===== the law: every call of the script ===== -/
theorem kS_in {α : Type} {xs : Nat → Int32} {L k : Nat} {i : Int32} {f : Int32 → Option α} (hi : i = nI k) (h : k < L) (hL : L ≤ 3584) : kS xs L i f = f (xs k) := by
  have e : i.toNatClampNeg = k := by rw [hi]; exact nI_clamp (by omega)
  unfold kS
  rw [e, if_neg]
  intro q
  rcases q with q | q
  · have := i32_lt.mp q
    rw [hi, nI_toInt (by omega)] at this
    have t0 : (0 : Int32).toInt = 0 := rfl
    omega
  · omega
theorem kO_std {S : HS} {v : Int32 × HS} {g : Nat → Option (Int32 × HS)} (e : kO S (some 33) 12 g = some v) : 33 < hN S ∧ hK S 33 = 12 := by
  unfold kO at e
  dsimp only at e
  by_cases z : 33 < hN S ∧ hK S 33 = 12
  · exact z
  · exfalso
    revert e
    simp [z]
theorem law_case {S : HS} {P : Nat → Option (Int32 × HS)} {Q : HS → Nat → Option (Int32 × HS)} {j : HS → Option HS} (h : RR S) (hj : ∀ S2, RR S2 → ∃ S3, j S2 = some S3) (ck : ∃ r S1 S2, P 0 = some (r, S1) ∧ Q S1 33 = some (r, S2) ∧ RR S2) (hQ : ∀ S1 v, Q S1 33 = some v → 33 < hN S1 ∧ hK S1 33 = 12) : ∃ S3, kO S (some 0) 11 (fun a => kc (P a) (fun v S1 => kO S1 (some 33) 12 (fun c => kc (Q S1 c) (fun w S2 => if v = w then j S2 else none)))) = some S3 := by
  obtain ⟨r, S1, S2, e1, e2, hR⟩ := ck
  obtain ⟨q1, q2⟩ := hQ S1 _ e2
  obtain ⟨S3, e3⟩ := hj S2 hR
  refine ⟨S3, ?_⟩
  rw [kO_c0 h.2.1, e1, kc_some, kO_some q1 q2, e2, kc_some, if_pos rfl]
  exact e3
theorem law_turn {xs : Nat → Int32} {L q : Nat} {S : HS} {j : HS → Option Nat → Option Nat → Int32 → Option HS} (hL : L ≤ 3584) (h : RR S) (hq : 7 * q + 7 ≤ L) (hj : ∀ S2, RR S2 → ∃ S3, j S2 (some 0) (some 33) (nI (7 * (q + 1))) = some S3) : ∃ S3, s_L_law_b18 j xs L S (some 0) (some 33) (nI (7 * q)) = some S3 := by
  have hj2 : ∀ S2, RR S2 → ∃ S3, s_L_law_b1332 j xs L S2 (some 0) (some 33) (nI (7 * q)) = some S3 := fun S2 h2 => by
    unfold s_L_law_b1332
    rw [show (7 : Int32) = nI 7 from rfl, nI_add]
    exact hj S2 h2
  have kk : ∀ (k : Nat) (c : Int32), c = nI k → k < 7 → ∀ f : Int32 → Option HS, kS xs L (nI (7 * q) + c) f = f (xs (7 * q + k)) := fun k c hc hk f => kS_in (by rw [hc, nI_add]) (by omega) hL
  have k0 : ∀ f : Int32 → Option HS, kS xs L (nI (7 * q)) f = f (xs (7 * q)) := fun f => kS_in rfl (by omega) hL
  have k1 := kk 1 1 rfl (by decide)
  have k2 := kk 2 2 rfl (by decide)
  have k3 := kk 3 3 rfl (by decide)
  have k4 := kk 4 4 rfl (by decide)
  have k5 := kk 5 5 rfl (by decide)
  have k6 := kk 6 6 rfl (by decide)
  have hc : ¬ nI L - 7 < nI (7 * q) := fun z => by
    have := i32_lt.mp z
    have t7 : (7 : Int32).toInt = 7 := rfl
    rw [i32_sub (by rw [nI_toInt (by omega), t7]; omega) (by rw [nI_toInt (by omega), t7]; omega), nI_toInt (by omega), nI_toInt (by omega), t7] at this
    omega
  unfold s_L_law_b18
  rw [if_neg hc]
  simp only [k0, k1, k2, k3, k4, k5, k6, knm_eq]
  generalize xs (7 * q) &&& 31 = v
  by_cases c0 : v = 0
  · rw [if_pos c0]
    exact law_case h hj2 (ok_row h _ _ _) (fun S1 v e => by
      unfold s_X12_row kwI at e
      exact kO_std e)
  rw [if_neg c0]
  by_cases c1 : v = 1
  · rw [if_pos c1]
    exact law_case h hj2 (ok_set h _ _ _) (fun S1 v e => by
      unfold s_X12_set kwI at e
      exact kO_std e)
  rw [if_neg c1]
  by_cases c2 : v = 2
  · rw [if_pos c2]
    exact law_case h hj2 (ok_copy h _ _ _ _ _) (fun S1 v e => by
      unfold s_X12_copy kwI at e
      exact kO_std e)
  rw [if_neg c2]
  by_cases c3 : v = 3
  · rw [if_pos c3]
    exact law_case h hj2 (ok_drop h _) (fun S1 v e => by
      unfold s_X12_drop kwI at e
      exact kO_std e)
  rw [if_neg c3]
  by_cases c4 : v = 4
  · rw [if_pos c4]
    exact law_case h hj2 (ok_feed h _ _) (fun S1 v e => by
      unfold s_X12_feed kwI at e
      exact kO_std e)
  rw [if_neg c4]
  by_cases c5 : v = 5
  · rw [if_pos c5]
    exact law_case h hj2 (ok_box h) (fun S1 v e => by
      unfold s_X12_box kwI at e
      exact kO_std e)
  rw [if_neg c5]
  by_cases c6 : v = 6
  · rw [if_pos c6]
    exact law_case h hj2 (ok_fault h) (fun S1 v e => by
      unfold s_X12_fault kwI at e
      exact kO_std e)
  rw [if_neg c6]
  by_cases c7 : v = 7
  · rw [if_pos c7]
    exact law_case h hj2 (ok_shorter h _ _ _) (fun S1 v e => by
      unfold s_X12_shorter kwI at e
      exact kO_std e)
  rw [if_neg c7]
  by_cases c8 : v = 8
  · rw [if_pos c8]
    exact law_case h hj2 (ok_begin h _ _ _ _) (fun S1 v e => by
      unfold s_X12_begin kwI at e
      exact kO_std e)
  rw [if_neg c8]
  by_cases c9 : v = 9
  · rw [if_pos c9]
    exact law_case h hj2 (ok_go h _) (fun S1 v e => by
      unfold s_X12_go kwI at e
      exact kO_std e)
  rw [if_neg c9]
  by_cases c10 : v = 10
  · rw [if_pos c10]
    exact law_case h hj2 (ok_pulls h _ _ _) (fun S1 v e => by
      unfold s_X12_pulls kwI at e
      exact kO_std e)
  rw [if_neg c10]
  by_cases c11 : v = 11
  · rw [if_pos c11]
    exact law_case h hj2 (ok_now h _) (fun S1 v e => by
      unfold s_X12_now kwI at e
      exact kO_std e)
  rw [if_neg c11]
  by_cases c12 : v = 12
  · rw [if_pos c12]
    exact law_case h hj2 (ok_greatest h _ _ _ _ _ _) (fun S1 v e => by
      unfold s_X12_greatest kwI at e
      exact kO_std e)
  rw [if_neg c12]
  by_cases c13 : v = 13
  · rw [if_pos c13]
    exact law_case h hj2 (ok_best h _ _ _) (fun S1 v e => by
      unfold s_X12_best kwI at e
      exact kO_std e)
  rw [if_neg c13]
  by_cases c14 : v = 14
  · rw [if_pos c14]
    exact law_case h hj2 (ok_from h _ _ _ _ _) (fun S1 v e => by
      unfold s_X12_from kwI at e
      exact kO_std e)
  rw [if_neg c14]
  by_cases c15 : v = 15
  · rw [if_pos c15]
    exact law_case h hj2 (ok_late h _ _ _ _ _) (fun S1 v e => by
      unfold s_X12_late kwI at e
      exact kO_std e)
  rw [if_neg c15]
  by_cases c16 : v = 16
  · rw [if_pos c16]
    exact law_case h hj2 (ok_parts h _ _ _ _ _) (fun S1 v e => by
      unfold s_X12_parts kwI at e
      exact kO_std e)
  rw [if_neg c16]
  by_cases c17 : v = 17
  · rw [if_pos c17]
    exact law_case h hj2 (ok_lamp h _ _ _ _ _) (fun S1 v e => by
      unfold s_X12_lamp kwI at e
      exact kO_std e)
  rw [if_neg c17]
  by_cases c18 : v = 18
  · rw [if_pos c18]
    exact law_case h hj2 (ok_wobble h _ _) (fun S1 v e => by
      unfold s_X12_wobble kwI at e
      exact kO_std e)
  rw [if_neg c18]
  by_cases c19 : v = 19
  · rw [if_pos c19]
    exact law_case h hj2 (ok_sound h _ _ _ _ _) (fun S1 v e => by
      unfold s_X12_sound kwI at e
      exact kO_std e)
  rw [if_neg c19]
  by_cases c20 : v = 20
  · rw [if_pos c20]
    exact law_case h hj2 (ok_tune h _ _ _ _ _ _) (fun S1 v e => by
      unfold s_X12_tune kwI at e
      exact kO_std e)
  rw [if_neg c20]
  by_cases c21 : v = 21
  · rw [if_pos c21]
    exact law_case h hj2 (ok_forces h) (fun S1 v e => by
      unfold s_X12_forces kwI at e
      exact kO_std e)
  rw [if_neg c21]
  by_cases c22 : v = 22
  · rw [if_pos c22]
    exact law_case h hj2 (ok_image h _) (fun S1 v e => by
      unfold s_X12_image kwI at e
      exact kO_std e)
  rw [if_neg c22]
  by_cases c23 : v = 23
  · rw [if_pos c23]
    exact law_case h hj2 (ok_restore h _) (fun S1 v e => by
      unfold s_X12_restore kwI at e
      exact kO_std e)
  rw [if_neg c23]
  by_cases c24 : v = 24
  · rw [if_pos c24]
    exact law_case h hj2 (ok_kind h) (fun S1 v e => by
      unfold s_X12_kind kwI at e
      exact kO_std e)
  rw [if_neg c24]
  by_cases c25 : v = 25
  · rw [if_pos c25]
    exact law_case h hj2 (ok_as h _) (fun S1 v e => by
      unfold s_X12_as kwI at e
      exact kO_std e)
  rw [if_neg c25]
  by_cases c26 : v = 26
  · rw [if_pos c26]
    exact law_case h hj2 (ok_ask h _) (fun S1 v e => by
      unfold s_X12_ask kwI at e
      exact kO_std e)
  rw [if_neg c26]
  by_cases c27 : v = 27
  · rw [if_pos c27]
    exact law_case h hj2 (ok_trace h _) (fun S1 v e => by
      unfold s_X12_trace kwI at e
      exact kO_std e)
  rw [if_neg c27]
  by_cases c28 : v = 28
  · rw [if_pos c28]
    exact law_case h hj2 (ok_count h _) (fun S1 v e => by
      unfold s_X12_count kwI at e
      exact kO_std e)
  rw [if_neg c28]
  by_cases c29 : v = 29
  · rw [if_pos c29]
    exact law_case h hj2 (ok_status h) (fun S1 v e => by
      unfold s_X12_status kwI at e
      exact kO_std e)
  rw [if_neg c29]
  exact hj2 S h
theorem law_run {xs : Nat → Int32} {L : Nat} (hL : L ≤ 3584) : ∀ (n q : Nat) (S : HS), RR S → q + n = 513 → q ≤ 512 → ∃ S2, s_L_law_L18 xs L n S (some 0) (some 33) (nI (7 * q)) = some S2 := by
  intro n
  induction n with
  | zero =>
    intro q S h hq h5
    omega
  | succ n ih =>
    intro q S h hq h5
    show ∃ S2, s_L_law_b18 (s_L_law_L18 xs L n) xs L S (some 0) (some 33) (nI (7 * q)) = some S2
    by_cases z : 7 * q + 7 ≤ L
    · exact law_turn hL h z (fun S2 h2 => ih (q + 1) S2 h2 (by omega) (by omega))
    · refine ⟨S, ?_⟩
      unfold s_L_law_b18
      rw [if_pos]
      apply i32_lt.mpr
      have t7 : (7 : Int32).toInt = 7 := rfl
      rw [i32_sub (by rw [nI_toInt (by omega), t7]; omega) (by rw [nI_toInt (by omega), t7]; omega), nI_toInt (by omega), nI_toInt (by omega), t7]
      omega
theorem law_ini {A I : HS} {xs : Nat → Int32} {L : Nat} (e1 : s_X11_init (wN SE 11 0) 0 = some A) (n : hN A = 33) (e2 : s_X12_init (wN A 12 0) 33 = some I) : s_L_law SE xs L = s_L_law_L18 xs L 513 I (some 0) (some 33) 0 := by
  have k1 : hK (wN SE 11 0) 0 = 11 := by rw [hK_wN]; exact if_pos rfl
  have k2 : hK (wN A 12 0) 33 = 12 := by rw [hK_wN, n]; exact if_pos rfl
  have n2 : 33 < hN (wN A 12 0) := by rw [hN_wN, n]; decide
  unfold s_L_law
  rw [knew_eq, show hN SE = 0 from rfl, kO_some (show 0 < hN (wN SE 11 0) from Nat.lt_succ_self _) k1, e1, kcv_some, knew_eq, n, kO_some n2 k2, e2, kcv_some]
theorem law_some {xs : Nat → Int32} {L : Nat} (hL : L ≤ 3584) : ∃ S2, s_L_law SE xs L = some S2 := by
  obtain ⟨S2, e⟩ := law_run (xs := xs) hL 513 0 SI RR_SI (by decide) (by decide)
  exact ⟨S2, (law_ini SA_eq SA_n SI_eq).trans e⟩
