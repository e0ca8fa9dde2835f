/-! ===== image, restore: the calls ===== -/
theorem ok_image {S : HS} (h : RR S) (l1 : Int32) : CK (fun S => s_X11_image S 0 l1) (fun S => s_X12_image S 33 l1) S := by
  have hC := h.2.1
  have hM := h.1
  have t0 : (0 : Int32).toInt = 0 := rfl
  have t1 : (1 : Int32).toInt = 1 := rfl
  have t2 : (2 : Int32).toInt = 2 := rfl
  have hX0 : LM (wI S 33 0 0) := hM
  show ∃ r S1 S2, s_X11_image S 0 l1 = some (r, S1) ∧ s_X12_image S1 33 l1 = some (r, S2) ∧ RR S2
  have mo : ∀ X, LM X → s_X12_image X 33 l1 = (if 0 ≤ l1.toInt ∧ l1.toInt ≤ 1 then (if hI X 33 7 = 0 then some (-1000002, wI X 33 0 0) else s_X12_image_L30 33 100000 (wI X 33 0 0) l1 0) else some (-1000001, wI X 33 0 0)) := by
    intro X hX
    have hX2 : LM (wI X 33 0 0) := hX
    unfold s_X12_image
    rw [kwI_m hX, m_inI _ (a := 0) (b := 1) rfl rfl, kc_some]
    by_cases c1 : 0 ≤ l1.toInt ∧ l1.toInt ≤ 1
    · rw [if_pos c1, if_neg (by decide), if_pos c1, kI_m hX2, hI_wI_j (by decide)]
    · rw [if_neg c1, if_pos rfl, if_neg c1]
  unfold s_X11_image
  by_cases c1 : l1 < 0
  · have d1 := i32_lt.mp c1
    rw [if_pos c1]
    exact ⟨_, S, _, rfl, by rw [mo S hM, if_neg (by omega)], h.w0⟩
  · have d1 : ¬ _ := fun z => c1 (i32_lt.mpr z)
    rw [if_neg c1]
    by_cases c2 : l1 < 2
    · have d2 := i32_lt.mp c2
      have good : 0 ≤ l1.toInt ∧ l1.toInt ≤ 1 := by omega
      rw [if_pos c2, kP_c0_2 hC, kP_c4 hC]
      have h6 := h.2.2.2.2.2.1
      cases hb : hP S 4 1 with
      | none =>
        rw [hb] at h6
        rw [if_pos rfl]
        exact ⟨_, S, _, rfl, by rw [mo S hM, if_pos good, h6.1, if_pos rfl], h.w0⟩
      | some b =>
        obtain ⟨k, hk1, -, hk3⟩ := I_N (n := l1) (a := 0) (b := 1) good.1 good.2 (by decide)
        have hk : k < 2 := by omega
        have there : hI S 33 7 = 1 := by rw [hb] at h6; exact h6.1
        rw [if_neg (by simp), kP_c0_3 hC, kAP_c6 hC hk1 hk, kP_c0_2 hC, kO_img hC hk]
        have e40 : hP S 4 0 = some 5 := hC.2.2.2.2.2.2.1
        have eg0 : hP S (29 + 2 * k) 0 = some (30 + 2 * k) := by
          rcases (by omega : k = 0 ∨ k = 1) with e | e
          · subst e; exact hC.2.2.2.2.2.2.2.2.2.2.2.2.2.1
          · subst e; exact hC.2.2.2.2.2.2.2.2.2.2.2.2.2.2
        have e1 := c_scene (S := S) (s := 4) (o := 5) (g := 29 + 2 * k) (r := 30 + 2 * k) (hC.lt (by decide)) (hC.k (by decide) rfl) (hC.lt (by omega)) (hC.k_img hk) e40 eg0 (hC.lt (by decide)) (hC.k (by decide) rfl) (hC.lt (by omega)) (hC.k_irun hk) (by omega) (by omega) h6.sn (by omega)
        rw [e1, kcv_some]
        -- what the class leaves
        have pS : ∀ a j, hP (cpR (wP S (29 + 2 * k) 1 (hP S 4 1)) (30 + 2 * k) 5) a j = if a = 30 + 2 * k ∧ j < 3 then hP S 5 j else if a = 29 + 2 * k ∧ j = 1 then hP S 4 1 else hP S a j := by
          intro a j
          rw [cpR_p, hP_wP, hP_wP, if_neg (show ¬ (5 = 29 + 2 * k ∧ j = 1) from fun z => by have := z.1; omega)]
        have iS : ∀ a, a ≠ 30 + 2 * k → hI (cpR (wP S (29 + 2 * k) 1 (hP S 4 1)) (30 + 2 * k) 5) a = hI S a := fun a ha => hI_wC_ne ha
        have iR : ∀ j, 3 ≤ j → j ≤ 11 → hI (cpR (wP S (29 + 2 * k) 1 (hP S 4 1)) (30 + 2 * k) 5) (30 + 2 * k) j = hI S 5 j := fun j j3 j11 => by
          show hI (wC _ (30 + 2 * k) _) (30 + 2 * k) j = _
          rw [hI_wC_self, if_pos ⟨j3, j11⟩]
          rfl
        have s1 : (cpR (wP S (29 + 2 * k) 1 (hP S 4 1)) (30 + 2 * k) 5).1 = S.1 := rfl
        generalize cpR (wP S (29 + 2 * k) 1 (hP S 4 1)) (30 + 2 * k) 5 = S1 at pS iS iR s1
        have n1 : hN S1 = hN S := congrArg (fun x => x.1) s1
        have k1 : ∀ c, hK S1 c = hK S c := fun c => congrArg (fun x => (x.2 c).1) s1
        have l1' : ∀ c, hL S1 c = hL S c := fun c => congrArg (fun x => (x.2 c).2) s1
        have hM1 : LM S1 := hM.to n1 k1 l1' (funext fun j => by rw [pS, if_neg (fun z => by have := z.1; omega), if_neg (fun z => by have := z.1; omega)])
        have hM2 : LM (wI S1 33 0 0) := hM1
        have r1 := m_imgB hk1 hk 131 100000 0 (wI S1 33 0 0) hM2 (by decide) (by decide)
        have r2 := m_imgN hk1 hk 12 100000 0 (wC (wI S1 33 0 0) 43 (fun b => if 131 * k + 0 ≤ b ∧ b < 131 * k + 131 then hI (wI S1 33 0 0) 37 (b - 131 * k) else hI (wI S1 33 0 0) 43 b)) hM2 (by decide) (by decide)
        have r3 : s_X12_image S1 33 l1 = _ := (show s_X12_image S1 33 l1 = s_X12_image_L30 33 100000 (wI S1 33 0 0) l1 0 by rw [mo S1 hM1, if_pos good, iS 33 (by omega), there, if_neg (by decide)]).trans (r1.trans r2)
        refine ⟨1, S1, _, rfl, r3, ?_⟩
        · clear r1 r2 r3
          generalize hF3 : (fun b => if 131 * k + 0 ≤ b ∧ b < 131 * k + 131 then hI (wI S1 33 0 0) 37 (b - 131 * k) else hI (wI S1 33 0 0) 43 b) = f3
          generalize hF4 : (fun b => if 12 * k + 0 ≤ b ∧ b < 12 * k + 12 then hI (wC (wI S1 33 0 0) 43 f3) 40 (b - 12 * k) else hI (wC (wI S1 33 0 0) 43 f3) 44 b) = f4
          have x37 : hI (wI S1 33 0 0) 37 = hI S 37 := by rw [hI_wI_ne (by decide), iS 37 (by omega)]
          have x43 : hI (wI S1 33 0 0) 43 = hI S 43 := by rw [hI_wI_ne (by decide), iS 43 (by omega)]
          have x40 : hI (wC (wI S1 33 0 0) 43 f3) 40 = hI S 40 := by rw [hI_wC_ne (by decide), hI_wI_ne (by decide), iS 40 (by omega)]
          have x44 : hI (wC (wI S1 33 0 0) 43 f3) 44 = hI S 44 := by rw [hI_wC_ne (by decide), hI_wI_ne (by decide), iS 44 (by omega)]
          have tI : ∀ a, a ≠ 33 → a ≠ 42 → a ≠ 43 → a ≠ 44 → a ≠ 30 + 2 * k → hI (wI (wC (wC (wI S1 33 0 0) 43 f3) 44 f4) 42 k 1) a = hI S a := by
            intro a a33 a42 a43 a44 ak
            rw [hI_wI_ne a42, hI_wC_ne a44, hI_wC_ne a43, hI_wI_ne a33, iS a ak]
          have t33 : ∀ j, j ≠ 0 → hI (wI (wC (wC (wI S1 33 0 0) 43 f3) 44 f4) 42 k 1) 33 j = hI S 33 j := by
            intro j hj
            rw [hI_wI_ne (by decide), hI_wC_ne (by decide), hI_wC_ne (by decide), hI_wI_j hj, iS 33 (by omega)]
          have tR : hI (wI (wC (wC (wI S1 33 0 0) 43 f3) 44 f4) 42 k 1) (30 + 2 * k) = hI S1 (30 + 2 * k) := by
            rw [hI_wI_ne (by omega), hI_wC_ne (by omega), hI_wC_ne (by omega), hI_wI_ne (by omega)]
          have t42 : ∀ j, hI (wI (wC (wC (wI S1 33 0 0) 43 f3) 44 f4) 42 k 1) 42 j = if j = k then 1 else hI S 42 j := by
            intro j
            by_cases e : j = k
            · rw [if_pos e, e, hI_wI_self]
            · rw [if_neg e, hI_wI_j e, hI_wC_ne (by decide), hI_wC_ne (by decide), hI_wI_ne (by decide), iS 42 (by omega)]
          have t43 : hI (wI (wC (wC (wI S1 33 0 0) 43 f3) 44 f4) 42 k 1) 43 = f3 := by
            rw [hI_wI_ne (by decide), hI_wC_ne (by decide), hI_wC_self]
          have t44 : hI (wI (wC (wC (wI S1 33 0 0) 43 f3) 44 f4) 42 k 1) 44 = f4 := by
            rw [hI_wI_ne (by decide), hI_wC_self]
          have tP : hP (wI (wC (wC (wI S1 33 0 0) 43 f3) 44 f4) 42 k 1) = hP S1 := rfl
          have t1' : (wI (wC (wC (wI S1 33 0 0) 43 f3) 44 f4) 42 k 1).1 = S.1 := s1
          have g3 : ∀ j, f3 j = if 131 * k + 0 ≤ j ∧ j < 131 * k + 131 then hI S 37 (j - 131 * k) else hI S 43 j := by
            intro j
            rw [← hF3, x37, x43]
          have g4 : ∀ j, f4 j = if 12 * k + 0 ≤ j ∧ j < 12 * k + 12 then hI S 40 (j - 12 * k) else hI S 44 j := by
            intro j
            rw [← hF4, x40, x44]
          generalize wI (wC (wC (wI S1 33 0 0) 43 f3) 44 f4) 42 k 1 = T2 at tI t33 tR t42 t43 t44 tP t1'
          have n2 : hN T2 = hN S := congrArg (fun x => x.1) t1'
          have k2 : ∀ c, hK T2 c = hK S c := fun c => congrArg (fun x => (x.2 c).1) t1'
          have l2 : ∀ c, hL T2 c = hL S c := fun c => congrArg (fun x => (x.2 c).2) t1'
          have pT : ∀ a, a ≠ 29 + 2 * k → a ≠ 30 + 2 * k → hP T2 a = hP S a := fun a a1 a2 => funext fun j => by rw [tP, pS, if_neg (fun z => a2 z.1), if_neg (fun z => a1 z.1)]
          have pT0 : hP T2 (29 + 2 * k) 0 = hP S (29 + 2 * k) 0 := by rw [tP, pS, if_neg (fun z => by have := z.1; omega), if_neg (fun z => by have := z.2; omega)]
          have hag : AG S T2 := ⟨Nat.le_of_eq n2.symm, fun c hc _ => ⟨k2 c, l2 c, tI c (by omega) (by omega) (by omega) (by omega) (by omega), pT c (by omega) (by omega)⟩⟩
          refine ⟨hM.to n2 k2 l2 (pT 33 (by omega) (by omega)), hC.lo (Nat.le_of_eq n2.symm) (fun c _ => ⟨k2 c, l2 c⟩) ?_ (by rw [pT 4 (by omega) (by omega)]) (pT 0 (by omega) (by omega)) (pT 1 (by omega) (by omega)) (pT 6 (by omega) (by omega)) (fun j _ => by rw [pT 7 (by omega) (by omega)]), ?_, ?_, ⟨?_, ?_, ?_⟩, ?_, ?_, ?_⟩
          · intro c hc c4 c5 c30 c32
            by_cases e : c = 29 + 2 * k
            · subst e; exact pT0
            · rw [pT c e (by omega)]
          · intro r hr
            exact (h.rs hr).keep (tI _ (by omega) (by omega) (by omega) (by omega) (by omega)) (tI _ (by omega) (by omega) (by omega) (by omega) (by omega)) (by rw [tI 34 (by omega) (by omega) (by omega) (by omega) (by omega)]) (by rw [tI 35 (by omega) (by omega) (by omega) (by omega) (by omega)]) (fun j _ => by rw [tI 36 (by omega) (by omega) (by omega) (by omega) (by omega)])
          · rw [tI 2 (by omega) (by omega) (by omega) (by omega) (by omega), tI 3 (by omega) (by omega) (by omega) (by omega) (by omega), tI 39 (by omega) (by omega) (by omega) (by omega) (by omega), t33 9 (by decide)]
            exact h.2.2.2.1
          · rw [tI 0 (by omega) (by omega) (by omega) (by omega) (by omega), t33 10 (by decide)]; exact h.2.2.2.2.1.1
          · rw [tI 0 (by omega) (by omega) (by omega) (by omega) (by omega), t33 1 (by decide)]; exact h.2.2.2.2.1.2.1
          · rw [tI 0 (by omega) (by omega) (by omega) (by omega) (by omega), t33 25 (by decide)]; exact h.2.2.2.2.1.2.2
          · rw [pT 4 (by omega) (by omega), pT 5 (by omega) (by omega), tI 5 (by omega) (by omega) (by omega) (by omega) (by omega), t33 7 (by decide), tI 37 (by omega) (by omega) (by omega) (by omega) (by omega), tI 40 (by omega) (by omega) (by omega) (by omega) (by omega)]
            exact h.2.2.2.2.2.1.keep hag
          · intro k' hk'
            refine ⟨?_, Or.inr (by rw [t33 7 (by decide)]; exact there)⟩
            by_cases e : k' = k
            · subst e
              have hp1 : hP T2 (29 + 2 * k') 1 = hP S 4 1 := by rw [tP, pS, if_neg (fun z => by have := z.1; omega), if_pos ⟨rfl, rfl⟩]
              have h42 : hI T2 42 k' = hI S 33 7 := by rw [t42, if_pos rfl, there]
              rw [hp1, h42]
              refine h.2.2.2.2.2.1.cp hag ?_ ?_ ?_ ?_
              · intro j hj
                rw [tP, pS, if_pos ⟨rfl, hj⟩]
              · intro j j3 j11
                rw [tR]
                exact iR j j3 j11
              · intro j hj
                show hI T2 43 (131 * k' + j) = _
                rw [t43, g3, if_pos (by omega), show 131 * k' + j - 131 * k' = j by omega]
              · intro j hj
                show hI T2 44 (12 * k' + j) = _
                rw [t44, g4, if_pos (by omega), show 12 * k' + j - 12 * k' = j by omega]
            · have z := (h.2.2.2.2.2.2.1 k' hk').1
              rw [pT (29 + 2 * k') (by omega) (by omega), pT (30 + 2 * k') (by omega) (by omega), tI (30 + 2 * k') (by omega) (by omega) (by omega) (by omega) (by omega), t42, if_neg e]
              refine z.cp hag (fun _ _ => rfl) (fun _ _ _ => rfl) ?_ ?_
              · intro j hj
                show hI T2 43 (131 * k' + j) = _
                rw [t43, g3, if_neg (by omega)]
              · intro j hj
                show hI T2 44 (12 * k' + j) = _
                rw [t44, g4, if_neg (by omega)]
          · rw [tI 11 (by omega) (by omega) (by omega) (by omega) (by omega), tI 12 (by omega) (by omega) (by omega) (by omega) (by omega), tI 45 (by omega) (by omega) (by omega) (by omega) (by omega), t33 31 (by decide)]
            exact h.2.2.2.2.2.2.2
    · have d2 : ¬ _ := fun z => c2 (i32_lt.mpr z)
      rw [if_neg c2]
      exact ⟨_, S, _, rfl, by rw [mo S hM, if_neg (by omega)], h.w0⟩
theorem ok_restore {S : HS} (h : RR S) (l1 : Int32) : CK (fun S => s_X11_restore S 0 l1) (fun S => s_X12_restore S 33 l1) S := by
  have hC := h.2.1
  have hM := h.1
  have t0 : (0 : Int32).toInt = 0 := rfl
  have t1 : (1 : Int32).toInt = 1 := rfl
  have t2 : (2 : Int32).toInt = 2 := rfl
  show ∃ r S1 S2, s_X11_restore S 0 l1 = some (r, S1) ∧ s_X12_restore S1 33 l1 = some (r, S2) ∧ RR S2
  have mo0 : ∀ X, LM X → ¬ (0 ≤ l1.toInt ∧ l1.toInt ≤ 1) → s_X12_restore X 33 l1 = some (-1000001, wI X 33 0 0) := by
    intro X hX c1
    unfold s_X12_restore
    rw [kwI_m hX, m_inI _ (a := 0) (b := 1) rfl rfl, kc_some, if_neg c1, if_pos rfl]
  unfold s_X11_restore
  by_cases c1 : l1 < 0
  · have d1 := i32_lt.mp c1
    rw [if_pos c1]
    exact ⟨_, S, _, rfl, mo0 S hM (by omega), h.w0⟩
  · have d1 : ¬ _ := fun z => c1 (i32_lt.mpr z)
    rw [if_neg c1]
    by_cases c2 : l1 < 2
    · have d2 := i32_lt.mp c2
      have good : 0 ≤ l1.toInt ∧ l1.toInt ≤ 1 := by omega
      obtain ⟨k, hk1, -, hk3⟩ := I_N (n := l1) (a := 0) (b := 1) good.1 good.2 (by decide)
      have hk : k < 2 := by omega
      have mo : ∀ X, LM X → s_X12_restore X 33 l1 = (if hI X 42 k = 0 then some (-1000002, wI X 33 0 0) else s_X12_restore_L32 33 100000 (wI X 33 0 0) l1 0) := by
        intro X hX
        have hX2 : LM (wI X 33 0 0) := hX
        unfold s_X12_restore
        rw [kwI_m hX, m_inI _ (a := 0) (b := 1) rfl rfl, kc_some, if_pos good, if_neg (by decide), kP_m27 hX2, kA_m42 hX2 hk1 hk, hI_wI_ne (by decide : (42 : Nat) ≠ 33)]
      obtain ⟨h7, h7b⟩ := h.2.2.2.2.2.2.1 k hk
      rw [if_pos c2, kP_c0_3 hC, kAP_c6 hC hk1 hk, kP_img hC hk]
      cases hb : hP S (29 + 2 * k) 1 with
      | none =>
        rw [hb] at h7
        rw [if_pos rfl]
        exact ⟨_, S, _, rfl, by rw [mo S hM, h7.1, if_pos rfl], h.w0⟩
      | some b =>
        have there : hI S 42 k = 1 := by rw [hb] at h7; exact h7.1
        have th2 : hI S 33 7 = 1 := by
          rcases h7b with z | z
          · rw [there] at z
            exact absurd z (by decide)
          · exact z
        rw [if_neg (by simp), kP_c0_2 hC, kP_c0_3 hC, kAP_c6 hC hk1 hk, kO_c4 hC]
        have e40 : hP S 4 0 = some 5 := hC.2.2.2.2.2.2.1
        have eg0 : hP S (29 + 2 * k) 0 = some (30 + 2 * k) := by
          rcases (by omega : k = 0 ∨ k = 1) with e | e
          · subst e; exact hC.2.2.2.2.2.2.2.2.2.2.2.2.2.1
          · subst e; exact hC.2.2.2.2.2.2.2.2.2.2.2.2.2.2
        have e1 := c_scene (S := S) (s := 29 + 2 * k) (o := 30 + 2 * k) (g := 4) (r := 5) (hC.lt (by omega)) (hC.k_img hk) (hC.lt (by decide)) (hC.k (by decide) rfl) eg0 e40 (hC.lt (by omega)) (hC.k_irun hk) (hC.lt (by decide)) (hC.k (by decide) rfl) (by omega) (by omega) h7.sn (by omega)
        rw [e1, kcv_some]
        have pS : ∀ a j, hP (cpR (wP S 4 1 (hP S (29 + 2 * k) 1)) 5 (30 + 2 * k)) a j = if a = 5 ∧ j < 3 then hP S (30 + 2 * k) j else if a = 4 ∧ j = 1 then hP S (29 + 2 * k) 1 else hP S a j := by
          intro a j
          rw [cpR_p, hP_wP, hP_wP, if_neg (show ¬ (30 + 2 * k = 4 ∧ j = 1) from fun z => by have := z.1; omega)]
        have iS : ∀ a, a ≠ 5 → hI (cpR (wP S 4 1 (hP S (29 + 2 * k) 1)) 5 (30 + 2 * k)) a = hI S a := fun a ha => hI_wC_ne ha
        have iR : ∀ j, 3 ≤ j → j ≤ 11 → hI (cpR (wP S 4 1 (hP S (29 + 2 * k) 1)) 5 (30 + 2 * k)) 5 j = hI S (30 + 2 * k) j := fun j j3 j11 => by
          show hI (wC _ 5 _) 5 j = _
          rw [hI_wC_self, if_pos ⟨j3, j11⟩]
          rfl
        have s1 : (cpR (wP S 4 1 (hP S (29 + 2 * k) 1)) 5 (30 + 2 * k)).1 = S.1 := rfl
        generalize cpR (wP S 4 1 (hP S (29 + 2 * k) 1)) 5 (30 + 2 * k) = S1 at pS iS iR s1
        have n1 : hN S1 = hN S := congrArg (fun x => x.1) s1
        have k1 : ∀ c, hK S1 c = hK S c := fun c => congrArg (fun x => (x.2 c).1) s1
        have l1' : ∀ c, hL S1 c = hL S c := fun c => congrArg (fun x => (x.2 c).2) s1
        have hM1 : LM S1 := hM.to n1 k1 l1' (funext fun j => by rw [pS, if_neg (fun z => by have := z.1; omega), if_neg (fun z => by have := z.1; omega)])
        have hM2 : LM (wI S1 33 0 0) := hM1
        have r1 := m_resB hk1 hk 131 100000 0 (wI S1 33 0 0) hM2 (by decide) (by decide)
        have r2 := m_resN hk1 hk 12 100000 0 (wC (wI S1 33 0 0) 37 (fun b => if 0 ≤ b ∧ b < 131 then hI (wI S1 33 0 0) 43 (131 * k + b) else hI (wI S1 33 0 0) 37 b)) hM2 (by decide) (by decide)
        have r3 : s_X12_restore S1 33 l1 = _ := (show s_X12_restore S1 33 l1 = s_X12_restore_L32 33 100000 (wI S1 33 0 0) l1 0 by rw [mo S1 hM1, iS 42 (by decide), there, if_neg (by decide)]).trans (r1.trans r2)
        refine ⟨1, S1, _, rfl, r3, ?_⟩
        · clear r1 r2 r3
          generalize hF3 : (fun b => if 0 ≤ b ∧ b < 131 then hI (wI S1 33 0 0) 43 (131 * k + b) else hI (wI S1 33 0 0) 37 b) = f3
          generalize hF4 : (fun b => if 0 ≤ b ∧ b < 12 then hI (wC (wI S1 33 0 0) 37 f3) 44 (12 * k + b) else hI (wC (wI S1 33 0 0) 37 f3) 40 b) = f4
          have x43 : hI (wI S1 33 0 0) 43 = hI S 43 := by rw [hI_wI_ne (by decide), iS 43 (by omega)]
          have x44 : hI (wC (wI S1 33 0 0) 37 f3) 44 = hI S 44 := by rw [hI_wC_ne (by decide), hI_wI_ne (by decide), iS 44 (by omega)]
          have tI : ∀ a, a ≠ 33 → a ≠ 37 → a ≠ 40 → a ≠ 5 → hI (wC (wC (wI S1 33 0 0) 37 f3) 40 f4) a = hI S a := by
            intro a a33 a37 a40 a5
            rw [hI_wC_ne a40, hI_wC_ne a37, hI_wI_ne a33, iS a a5]
          have t33 : ∀ j, j ≠ 0 → hI (wC (wC (wI S1 33 0 0) 37 f3) 40 f4) 33 j = hI S 33 j := by
            intro j hj
            rw [hI_wC_ne (by decide), hI_wC_ne (by decide), hI_wI_j hj, iS 33 (by omega)]
          have t5 : hI (wC (wC (wI S1 33 0 0) 37 f3) 40 f4) 5 = hI S1 5 := by
            rw [hI_wC_ne (by decide), hI_wC_ne (by decide), hI_wI_ne (by decide)]
          have t37 : hI (wC (wC (wI S1 33 0 0) 37 f3) 40 f4) 37 = f3 := by
            rw [hI_wC_ne (by decide), hI_wC_self]
          have t40 : hI (wC (wC (wI S1 33 0 0) 37 f3) 40 f4) 40 = f4 := hI_wC_self _ _ _
          have tP : hP (wC (wC (wI S1 33 0 0) 37 f3) 40 f4) = hP S1 := rfl
          have t1' : (wC (wC (wI S1 33 0 0) 37 f3) 40 f4).1 = S.1 := s1
          have g3 : ∀ j, j < 131 → f3 j = hI S 43 (131 * k + j) := by
            intro j hj
            rw [← hF3, x43]
            exact if_pos ⟨Nat.zero_le _, hj⟩
          have g4 : ∀ j, j < 12 → f4 j = hI S 44 (12 * k + j) := by
            intro j hj
            rw [← hF4, x44]
            exact if_pos ⟨Nat.zero_le _, hj⟩
          generalize wC (wC (wI S1 33 0 0) 37 f3) 40 f4 = T2 at tI t33 t5 t37 t40 tP t1'
          have n2 : hN T2 = hN S := congrArg (fun x => x.1) t1'
          have k2 : ∀ c, hK T2 c = hK S c := fun c => congrArg (fun x => (x.2 c).1) t1'
          have l2 : ∀ c, hL T2 c = hL S c := fun c => congrArg (fun x => (x.2 c).2) t1'
          have pT : ∀ a, a ≠ 4 → a ≠ 5 → hP T2 a = hP S a := fun a a1 a2 => funext fun j => by rw [tP, pS, if_neg (fun z => a2 z.1), if_neg (fun z => a1 z.1)]
          have pT0 : hP T2 4 0 = hP S 4 0 := by rw [tP, pS, if_neg (by decide), if_neg (by decide)]
          have hag : AG S T2 := ⟨Nat.le_of_eq n2.symm, fun c hc _ => ⟨k2 c, l2 c, tI c (by omega) (by omega) (by omega) (by omega), pT c (by omega) (by omega)⟩⟩
          refine h.scene (Nat.le_of_eq n2.symm) (fun c _ => ⟨k2 c, l2 c⟩) hag (fun a _ a4 a5 => pT a a4 a5) pT0 (fun a ha => tI a (by omega) (by omega) (by omega) (by omega)) ?_ ⟨?_, ?_, ?_⟩ (t33 31 (by decide)) (Or.inl (t33 7 (by decide))) ?_
          · unfold TP
            rw [tI 2 (by decide) (by decide) (by decide) (by decide), tI 3 (by decide) (by decide) (by decide) (by decide), tI 39 (by decide) (by decide) (by decide) (by decide), t33 9 (by decide)]
            exact h.2.2.2.1
          · rw [tI 0 (by decide) (by decide) (by decide) (by decide), t33 10 (by decide)]; exact h.2.2.2.2.1.1
          · rw [tI 0 (by decide) (by decide) (by decide) (by decide), t33 1 (by decide)]; exact h.2.2.2.2.1.2.1
          · rw [tI 0 (by decide) (by decide) (by decide) (by decide), t33 25 (by decide)]; exact h.2.2.2.2.1.2.2
          · have hp1 : hP T2 4 1 = hP S (29 + 2 * k) 1 := by rw [tP, pS, if_neg (by decide), if_pos ⟨rfl, rfl⟩]
            have h33 : hI T2 33 7 = hI S 42 k := by rw [t33 7 (by decide), th2, there]
            rw [hp1, h33]
            refine h7.cp hag ?_ ?_ ?_ ?_
            · intro j hj
              rw [tP, pS, if_pos ⟨rfl, hj⟩]
            · intro j j3 j11
              rw [t5]
              exact iR j j3 j11
            · intro j hj
              show hI T2 37 j = hI S 43 (131 * k + j)
              rw [t37, g3 j hj]
            · intro j hj
              show hI T2 40 j = hI S 44 (12 * k + j)
              rw [t40, g4 j hj]
    · have d2 : ¬ _ := fun z => c2 (i32_lt.mpr z)
      rw [if_neg c2]
      exact ⟨_, S, _, rfl, mo0 S hM (by omega), h.w0⟩
