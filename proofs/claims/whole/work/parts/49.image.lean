/-! ===== image, restore ===== -/
/-- the eleven numbers and three references of a RUN, copied -/
def cpR (S : HS) (h o : Nat) : HS := wC (wP (wP (wP S h 0 (hP S o 0)) h 1 (hP S o 1)) h 2 (hP S o 2)) h (fun j => if 3 ≤ j ∧ j ≤ 11 then hI S o j else hI S h j)
theorem cpR_p (S : HS) (h o a j : Nat) : hP (cpR S h o) a j = if a = h ∧ j < 3 then hP S o j else hP S a j := by
  show hP (wP (wP (wP S h 0 (hP S o 0)) h 1 (hP S o 1)) h 2 (hP S o 2)) a j = _
  rw [hP_wP, hP_wP, hP_wP]
  by_cases e : a = h
  · by_cases j2 : j = 2
    · rw [if_pos ⟨e, j2⟩, if_pos ⟨e, by omega⟩, j2]
    · rw [if_neg (fun z => j2 z.2)]
      by_cases j1 : j = 1
      · rw [if_pos ⟨e, j1⟩, if_pos ⟨e, by omega⟩, j1]
      · rw [if_neg (fun z => j1 z.2)]
        by_cases j0 : j = 0
        · rw [if_pos ⟨e, j0⟩, if_pos ⟨e, by omega⟩, j0]
        · rw [if_neg (fun z => j0 z.2), if_neg (by omega)]
  · rw [if_neg (fun z => e z.1), if_neg (fun z => e z.1), if_neg (fun z => e z.1), if_neg (fun z => e z.1)]
theorem c_become {S : HS} {h o : Nat} (h1 : h < hN S) (h2 : hK S h = 8) (o1 : o < hN S) (o2 : hK S o = 8) (ne : o ≠ h) (hz : hI S o 11 = 0 ∨ hI S o 11 = 1) : s_X8_become S h (some o) = some (cpR S h o) := by
  have rP : ∀ (T : HS), hN T = hN S → hK T o = 8 → ∀ {j : Nat} {f : Option Nat → Option HS}, kP T (some o) 8 j f = f (hP T o j) := fun T e k j f => kP_some (by rw [e]; exact o1) k
  have rI : ∀ (T : HS), hN T = hN S → hK T o = 8 → ∀ {j : Nat} {f : Int32 → Option HS}, kI T (some o) 8 j f = f (hI T o j) := fun T e k j f => kI_some (by rw [e]; exact o1) k
  have wPs : ∀ (T : HS), hN T = hN S → hK T h = 8 → ∀ {j : Nat} {v : Option Nat} {f : HS → Option HS}, kwP T (some h) 8 j v f = f (wP T h j v) := fun T e k j v f => kwP_some (by rw [e]; exact h1) k
  have wIs : ∀ (T : HS), hN T = hN S → hK T h = 8 → ∀ {j : Nat} {v : Int32} {f : HS → Option HS}, kwI T (some h) 8 j v f = f (wC T h (rup (hI T h) j v)) := fun T e k j v f => by rw [kwI_some (by rw [e]; exact h1) k, wI_wC]
  have q : ∀ (T : HS) (j : Nat) (v : Option Nat) (i : Nat), hP (wP T h j v) o i = hP T o i := fun T j v i => by rw [hP_wP, if_neg (fun z => ne z.1)]
  unfold s_X8_become cpR
  rw [rP S rfl o2, wPs S rfl h2, rP _ (by rfl) (by exact o2), q, wPs _ (by rfl) (by exact h2), rP _ (by rfl) (by exact o2), q, q, wPs _ (by rfl) (by exact h2)]
  generalize hX : wP (wP (wP S h 0 (hP S o 0)) h 1 (hP S o 1)) h 2 (hP S o 2) = X
  have xn : hN X = hN S := by rw [← hX]; rfl
  have xh : hK X h = 8 := by rw [← hX]; exact h2
  have xo : hK X o = 8 := by rw [← hX]; exact o2
  have xI : hI X = hI S := by rw [← hX]; rfl
  have ei : ∀ (f : Nat → Int32), hI (wC X h f) o = hI S o := fun f => by rw [hI_wC_ne ne, xI]
  rw [rI X xn xo, wIs X xn xh, rI _ (by exact xn) (by exact xo), wIs _ (by exact xn) (by exact xh), wC_wC, rI _ (by exact xn) (by exact xo), wIs _ (by exact xn) (by exact xh), wC_wC, rI _ (by exact xn) (by exact xo), wIs _ (by exact xn) (by exact xh), wC_wC, rI _ (by exact xn) (by exact xo), wIs _ (by exact xn) (by exact xh), wC_wC, rI _ (by exact xn) (by exact xo), wIs _ (by exact xn) (by exact xh), wC_wC, rI _ (by exact xn) (by exact xo), wIs _ (by exact xn) (by exact xh), wC_wC, rI _ (by exact xn) (by exact xo), wIs _ (by exact xn) (by exact xh), wC_wC, rI _ (by exact xn) (by exact xo)]
  simp only [hI_wC_self, ei, xI]
  rw [kwZ_v (by exact Nat.lt_of_lt_of_eq h1 xn.symm) (by exact xh) hz, wI_wC, wC_wC, hI_wC_self]
  refine congrArg some (congrArg (wC X h) (funext fun j => ?_))
  unfold rup
  by_cases c11 : j = 11
  · subst c11; rfl
  · by_cases c10 : j = 10
    · subst c10; rfl
    · by_cases c9 : j = 9
      · subst c9; rfl
      · by_cases c8 : j = 8
        · subst c8; rfl
        · by_cases c7 : j = 7
          · subst c7; rfl
          · by_cases c6 : j = 6
            · subst c6; rfl
            · by_cases c5 : j = 5
              · subst c5; rfl
              · by_cases c4 : j = 4
                · subst c4; rfl
                · by_cases c3 : j = 3
                  · subst c3; rfl
                  · rw [if_neg c11, if_neg c10, if_neg c9, if_neg c8, if_neg c7, if_neg c6, if_neg c5, if_neg c4, if_neg c3, if_neg (by omega)]
/-- a Scene of the class's: where it stands, where its RUN stands -/
theorem c_scene {S : HS} {s o g r : Nat} (s1 : s < hN S) (s2 : hK S s = 9) (g1 : g < hN S) (g2 : hK S g = 9) (sr : hP S s 0 = some o) (gr : hP S g 0 = some r) (o1 : o < hN S) (o2 : hK S o = 8) (r1 : r < hN S) (r2 : hK S r = 8) (ne : o ≠ r) (ng : s ≠ g) (hz : hI S o 11 = 0 ∨ hI S o 11 = 1) (nr : g ≠ o) : s_X9_become S g (some s) = some (cpR (wP S g 1 (hP S s 1)) r o) := by
  unfold s_X9_become
  rw [kP_some s1 s2, kwP_some g1 g2, kP_some (by exact g1) (by exact g2), kP_some (by exact s1) (by exact s2)]
  have e1 : hP (wP S g 1 (hP S s 1)) g 0 = some r := by rw [hP_wP, if_neg (by omega)]; exact gr
  have e2 : hP (wP S g 1 (hP S s 1)) s 0 = some o := by rw [hP_wP, if_neg (by omega)]; exact sr
  rw [e1, e2, kO_some (by exact r1) (by exact r2), c_become (S := wP S g 1 (hP S s 1)) (by exact r1) (by exact r2) (by exact o1) (by exact o2) ne hz, kcv_some]
theorem m_imgB {k : Nat} {l1 : Int32} (h1 : l1 = nI k) (hk : k < 2) : ∀ (m F i : Nat) (T : HS), LM T → m < F → i + m = 131 → s_X12_image_L30 33 F T l1 (nI i) = s_X12_image_L63 33 100000 (wC T 43 (fun b => if 131 * k + i ≤ b ∧ b < 131 * k + 131 then hI T 37 (b - 131 * k) else hI T 43 b)) l1 0 := by
  intro m
  induction m with
  | zero =>
    intro F i T h hF hi
    obtain ⟨F, rfl⟩ : ∃ z, F = z + 1 := ⟨F - 1, by omega⟩
    show s_X12_image_b30 _ 33 T l1 (nI i) = _
    unfold s_X12_image_b30
    rw [if_pos (show (131 : Int32) ≤ nI i from (nI_le_iff (a := 131) (by omega) (by omega)).mpr (by omega))]
    have e : (fun b => if 131 * k + i ≤ b ∧ b < 131 * k + 131 then hI T 37 (b - 131 * k) else hI T 43 b) = hI T 43 := funext fun b => if_neg (by omega)
    rw [e, wC_self]
  | succ m ih =>
    intro F i T h hF hi
    obtain ⟨F, rfl⟩ : ∃ z, F = z + 1 := ⟨F - 1, by omega⟩
    have ix : (131 : Int32) * l1 + nI i = nI (131 * k + i) := by rw [h1, show (131 : Int32) = nI 131 from rfl, nI_mul, nI_add]
    show s_X12_image_b30 _ 33 T l1 (nI i) = _
    unfold s_X12_image_b30
    rw [if_neg (fun z => by have : 131 ≤ i := (nI_le_iff (a := 131) (by omega) (by omega)).mp z; omega), kP_m28 h, kP_m5 h, kA_m37 h rfl (by omega), kwA_m43 h ix (by omega), nI_1, ih F (i + 1) _ (by exact h) (by omega) (by omega)]
    refine congrArg (fun X => s_X12_image_L63 33 100000 X l1 0) ?_
    rw [hI_wI_ne (by decide : (37 : Nat) ≠ 43), wI_wC, wC_wC, hI_wC_self]
    refine congrArg (wC T 43) (funext fun b => ?_)
    unfold rup
    by_cases e : b = 131 * k + i
    · rw [if_neg (by omega), if_pos e, if_pos (by omega), e, show 131 * k + i - 131 * k = i by omega]
    · by_cases e2 : 131 * k + (i + 1) ≤ b ∧ b < 131 * k + 131
      · rw [if_pos e2, if_pos (by omega)]
      · rw [if_neg e2, if_neg e, if_neg (by omega)]
theorem m_imgN {k : Nat} {l1 : Int32} (h1 : l1 = nI k) (hk : k < 2) : ∀ (m F i : Nat) (T : HS), LM T → m < F → i + m = 12 → s_X12_image_L63 33 F T l1 (nI i) = some (1, wI (wC T 44 (fun b => if 12 * k + i ≤ b ∧ b < 12 * k + 12 then hI T 40 (b - 12 * k) else hI T 44 b)) 42 k 1) := by
  intro m
  induction m with
  | zero =>
    intro F i T h hF hi
    obtain ⟨F, rfl⟩ : ∃ z, F = z + 1 := ⟨F - 1, by omega⟩
    show s_X12_image_b63 _ 33 T l1 (nI i) = _
    unfold s_X12_image_b63
    rw [if_pos (show (12 : Int32) ≤ nI i from (nI_le_iff (a := 12) (by omega) (by omega)).mpr (by omega)), kP_m27 h, kwA_m42 h h1 hk]
    have e : (fun b => if 12 * k + i ≤ b ∧ b < 12 * k + 12 then hI T 40 (b - 12 * k) else hI T 44 b) = hI T 44 := funext fun b => if_neg (by omega)
    rw [e, wC_self]
    rfl
  | succ m ih =>
    intro F i T h hF hi
    obtain ⟨F, rfl⟩ : ∃ z, F = z + 1 := ⟨F - 1, by omega⟩
    have ix : (12 : Int32) * l1 + nI i = nI (12 * k + i) := by rw [h1, show (12 : Int32) = nI 12 from rfl, nI_mul, nI_add]
    show s_X12_image_b63 _ 33 T l1 (nI i) = _
    unfold s_X12_image_b63
    rw [if_neg (fun z => by have : 12 ≤ i := (nI_le_iff (a := 12) (by omega) (by omega)).mp z; omega), kP_m29 h, kP_m24 h, kA_m40 h rfl (by omega), kwA_m44 h ix (by omega), nI_1, ih F (i + 1) _ (by exact h) (by omega) (by omega)]
    refine congrArg (fun X => some ((1 : Int32), wI X 42 k 1)) ?_
    rw [hI_wI_ne (by decide : (40 : Nat) ≠ 44), wI_wC, wC_wC, hI_wC_self]
    refine congrArg (wC T 44) (funext fun b => ?_)
    unfold rup
    by_cases e : b = 12 * k + i
    · rw [if_neg (by omega), if_pos e, if_pos (by omega), e, show 12 * k + i - 12 * k = i by omega]
    · by_cases e2 : 12 * k + (i + 1) ≤ b ∧ b < 12 * k + 12
      · rw [if_pos e2, if_pos (by omega)]
      · rw [if_neg e2, if_neg e, if_neg (by omega)]
theorem m_resB {k : Nat} {l1 : Int32} (h1 : l1 = nI k) (hk : k < 2) : ∀ (m F i : Nat) (T : HS), LM T → m < F → i + m = 131 → s_X12_restore_L32 33 F T l1 (nI i) = s_X12_restore_L65 33 100000 (wC T 37 (fun b => if i ≤ b ∧ b < 131 then hI T 43 (131 * k + b) else hI T 37 b)) l1 0 := by
  intro m
  induction m with
  | zero =>
    intro F i T h hF hi
    obtain ⟨F, rfl⟩ : ∃ z, F = z + 1 := ⟨F - 1, by omega⟩
    show s_X12_restore_b32 _ 33 T l1 (nI i) = _
    unfold s_X12_restore_b32
    rw [if_pos (show (131 : Int32) ≤ nI i from (nI_le_iff (a := 131) (by omega) (by omega)).mpr (by omega))]
    have e : (fun b => if i ≤ b ∧ b < 131 then hI T 43 (131 * k + b) else hI T 37 b) = hI T 37 := funext fun b => if_neg (by omega)
    rw [e, wC_self]
  | succ m ih =>
    intro F i T h hF hi
    obtain ⟨F, rfl⟩ : ∃ z, F = z + 1 := ⟨F - 1, by omega⟩
    have ix : (131 : Int32) * l1 + nI i = nI (131 * k + i) := by rw [h1, show (131 : Int32) = nI 131 from rfl, nI_mul, nI_add]
    show s_X12_restore_b32 _ 33 T l1 (nI i) = _
    unfold s_X12_restore_b32
    rw [if_neg (fun z => by have : 131 ≤ i := (nI_le_iff (a := 131) (by omega) (by omega)).mp z; omega), kP_m5 h, kP_m28 h, kA_m43 h ix (by omega), kwA_m37 h rfl (by omega), nI_1, ih F (i + 1) _ (by exact h) (by omega) (by omega)]
    refine congrArg (fun X => s_X12_restore_L65 33 100000 X l1 0) ?_
    rw [hI_wI_ne (by decide : (43 : Nat) ≠ 37), wI_wC, wC_wC, hI_wC_self]
    refine congrArg (wC T 37) (funext fun b => ?_)
    unfold rup
    by_cases e : b = i
    · rw [if_neg (by omega), if_pos e, if_pos (by omega), e]
    · by_cases e2 : i + 1 ≤ b ∧ b < 131
      · rw [if_pos e2, if_pos (by omega)]
      · rw [if_neg e2, if_neg e, if_neg (by omega)]
theorem m_resN {k : Nat} {l1 : Int32} (h1 : l1 = nI k) (hk : k < 2) : ∀ (m F i : Nat) (T : HS), LM T → m < F → i + m = 12 → s_X12_restore_L65 33 F T l1 (nI i) = some (1, wC T 40 (fun b => if i ≤ b ∧ b < 12 then hI T 44 (12 * k + b) else hI T 40 b)) := by
  intro m
  induction m with
  | zero =>
    intro F i T h hF hi
    obtain ⟨F, rfl⟩ : ∃ z, F = z + 1 := ⟨F - 1, by omega⟩
    show s_X12_restore_b65 _ 33 T l1 (nI i) = _
    unfold s_X12_restore_b65
    rw [if_pos (show (12 : Int32) ≤ nI i from (nI_le_iff (a := 12) (by omega) (by omega)).mpr (by omega))]
    have e : (fun b => if i ≤ b ∧ b < 12 then hI T 44 (12 * k + b) else hI T 40 b) = hI T 40 := funext fun b => if_neg (by omega)
    rw [e, wC_self]
  | succ m ih =>
    intro F i T h hF hi
    obtain ⟨F, rfl⟩ : ∃ z, F = z + 1 := ⟨F - 1, by omega⟩
    have ix : (12 : Int32) * l1 + nI i = nI (12 * k + i) := by rw [h1, show (12 : Int32) = nI 12 from rfl, nI_mul, nI_add]
    show s_X12_restore_b65 _ 33 T l1 (nI i) = _
    unfold s_X12_restore_b65
    rw [if_neg (fun z => by have : 12 ≤ i := (nI_le_iff (a := 12) (by omega) (by omega)).mp z; omega), kP_m24 h, kP_m29 h, kA_m44 h ix (by omega), kwA_m40 h rfl (by omega), nI_1, ih F (i + 1) _ (by exact h) (by omega) (by omega)]
    refine congrArg (fun X => some ((1 : Int32), X)) ?_
    rw [hI_wI_ne (by decide : (44 : Nat) ≠ 40), wI_wC, wC_wC, hI_wC_self]
    refine congrArg (wC T 40) (funext fun b => ?_)
    unfold rup
    by_cases e : b = i
    · rw [if_neg (by omega), if_pos e, if_pos (by omega), e]
    · by_cases e2 : i + 1 ≤ b ∧ b < 12
      · rw [if_pos e2, if_pos (by omega)]
      · rw [if_neg e2, if_neg e, if_neg (by omega)]
/-- the same BOX and RUN elsewhere -/
theorem SR.cp {S T : HS} {o : Option Nat} {ro ro2 : Nat → Option Nat} {ρ ρ2 : Nat → Int32} {there : Int32} {β β2 ν ν2 : Nat → Int32} (h : SR S o ro ρ there β ν) (g : AG S T) (er : ∀ j, j < 3 → ro2 j = ro j) (eρ : ∀ j, 3 ≤ j → j ≤ 11 → ρ2 j = ρ j) (eβ : ∀ j, j < 131 → β2 j = β j) (eν : ∀ j, j < 12 → ν2 j = ν j) : SR T o ro2 ρ2 there β2 ν2 := by
  have h := h.keep g
  cases o with
  | none =>
    obtain ⟨a1, a2, a3, a4, a5, a6, a7⟩ := h
    refine ⟨a1, by rw [er 2 (by decide)]; exact a2, by rw [eν 0 (by decide)]; exact a3, by rw [eβ 0 (by decide)]; exact a4, by rw [eβ 1 (by decide)]; exact a5, by rw [eβ 2 (by decide)]; exact a6, by rw [eρ 11 (by decide) (by decide)]; exact a7⟩
  | some b =>
    obtain ⟨t, hB, hR⟩ := h
    refine ⟨t, ?_, ?_⟩
    · obtain ⟨h1, h2, h3, nd, nc, nh, a0, a1, a2, h4, ⟨h5, h6, h7⟩, h8, hp, hq, hr, hD, hC, hH⟩ := hB
      refine ⟨h1, h2, h3, nd, nc, nh, a0, a1, a2, h4, ⟨by rw [eβ 0 (by decide)]; exact h5, by rw [eβ 1 (by decide)]; exact h6, by rw [eβ 2 (by decide)]; exact h7⟩, h8, hp, hq, hr, ?_, ?_, ?_⟩
      · intro i hi
        obtain ⟨c, c1, c2, c3, c4, c5, c6⟩ := hD i hi
        exact ⟨c, c1, c2, c3, c4, fun j hj => by rw [eβ _ (by omega)]; exact c5 j hj, c6⟩
      · intro i hi
        obtain ⟨c, c1, c2, c3, c4, c5, c6⟩ := hC i hi
        exact ⟨c, c1, c2, c3, c4, fun j hj => by rw [eβ _ (by omega)]; exact c5 j hj, c6⟩
      · intro i hi
        obtain ⟨c, ra, m, c1, c2, c3, c4, c5, c6, c7, c8, c9, c10, c11, c12, c13⟩ := hH i hi
        refine ⟨c, ra, m, c1, c2, c3, c4, c5, c6, by rw [eβ _ (by omega)]; exact c7, c8, c9, c10, c11, c12, ?_⟩
        intro u hu
        obtain ⟨z, F, z1, z2, z3, z4, z5, z6⟩ := c13 u hu
        exact ⟨z, F, z1, z2, z3, z4, fun j hj => by rw [eβ _ (by omega)]; exact z5 j hj, z6⟩
    · unfold RN at hR ⊢
      rw [er 2 (by decide)]
      cases hr : ro 2 with
      | none =>
        rw [hr] at hR
        exact ⟨by rw [eν 0 (by decide)]; exact hR.1, by rw [eρ 11 (by decide) (by decide)]; exact hR.2⟩
      | some hd =>
        rw [hr] at hR
        dsimp only at hR ⊢
        obtain ⟨h0, a0, a1, a2, d, k, gg, c, q, e0, e1, e2, ⟨u1, u2, u3⟩, w, ⟨x1, x2, x3⟩, ⟨y1, y2⟩, ⟨y3, y4⟩, y5, z⟩ := hR
        refine ⟨by rw [eν 0 (by decide)]; exact h0, a0, a1, a2, d, k, gg, c, q, e0, e1, e2, ⟨by rw [eβ 0 (by decide)]; exact u1, by rw [eβ 1 (by decide)]; exact u2, by rw [eβ 2 (by decide)]; exact u3⟩, w, ⟨by rw [eν 1 (by decide)]; exact x1, by rw [eν 2 (by decide)]; exact x2, by rw [eν 3 (by decide)]; exact x3⟩, ⟨by rw [er 0 (by decide)]; exact y1, y2⟩, ⟨by rw [er 1 (by decide)]; exact y3, y4⟩, y5, ?_⟩
        rw [eν 4 (by decide), eν 5 (by decide), eν 6 (by decide), eν 7 (by decide), eν 8 (by decide), eν 9 (by decide), eν 10 (by decide), eν 11 (by decide), eρ 3 (by decide) (by decide), eρ 4 (by decide) (by decide), eρ 5 (by decide) (by decide), eρ 7 (by decide) (by decide), eρ 8 (by decide) (by decide), eρ 9 (by decide) (by decide), eρ 10 (by decide) (by decide), eρ 11 (by decide) (by decide)]
        exact z
theorem SR.sn {S : HS} {o : Option Nat} {ro : Nat → Option Nat} {ρ : Nat → Int32} {there : Int32} {β ν : Nat → Int32} (h : SR S o ro ρ there β ν) : ρ 11 = 0 ∨ ρ 11 = 1 := by
  cases o with
  | none => exact h.2.2.2.2.2.2
  | some b =>
    have hR := h.2.2
    unfold RN at hR
    cases hr : ro 2 with
    | none =>
      rw [hr] at hR
      exact hR.2
    | some hd =>
      rw [hr] at hR
      dsimp only at hR
      obtain ⟨-, -, -, -, -, -, -, -, -, -, -, -, -, -, -, -, -, -, -, -, -, -, z, -⟩ := hR
      exact z
