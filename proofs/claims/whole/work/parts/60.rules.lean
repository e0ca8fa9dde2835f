/-! ===== rules ===== -/
section L2RU
variable {N : Nat} {B : Nat → Nat}
theorem r_takeF {S T : HS} (h : RD S T N B) {c : Int32} (hc : c = 0 ∨ c = 1) (hs : c = 1 → hI S 2 2 = 0 → ¬ hI S 2 4 = 4) : ∃ S2 T2, s_X10_take S 2 c 1 = some S2 ∧ (if hI T 33 17 = 0 then s_X12_must T 33 c else some T) = some T2 ∧ RD S2 T2 N B ∧ QS S S2 ∧ QT T T2 ∧ (hI S2 2 2 = 0 → c = 1 ∧ hI S 2 2 = 0) := by
  rcases h.f0 with ⟨f1, f2⟩ | ⟨f1, f2, -⟩
  · obtain ⟨S2, T2, a1, a2, a3⟩ := r_take h hc hs
    exact ⟨S2, T2, a1, by rw [if_pos f2]; exact a2, a3⟩
  · exact ⟨S, T, c_take_no h.1.1 f1 1, if_neg f2, h, QS.rf S, QT.rf T, fun z => absurd z f1⟩
theorem r_begin6 {S T : HS} (h : RD S T N B) (f0 : hI S 2 2 = 0) (s1 : hI S 2 4 = 1) {m : Nat} (hm : m ≤ 6) : ∃ S2 X T2, s_X10_take S 2 1 (if 6 ≤ nI m then 0 else 1) = some S2 ∧ (if nI m = 6 then s_X12_bad T 33 3 else some T) = some X ∧ LM X ∧ s_X12_must X 33 1 = some T2 ∧ RD S2 T2 N B ∧ QS S S2 ∧ QT T T2 ∧ (hI S2 2 2 = 0 → m < 6) := by
  have hC := h.1.1
  by_cases c : m = 6
  · subst c
    obtain ⟨S2, T2, a1, a2, a3, a4, a5, a6, a7, -⟩ := r_fail h (k := 3) (by decide) (by decide)
    have a2' : s_X12_bad T 33 3 = some T2 := a2
    refine ⟨S2, T2, T2, ?_, ?_, a3.2.1.1, m_must_no a3.2.1.1 a7 1, a3, a4, a5, fun z => absurd z a6⟩
    · rw [if_pos (by decide)]
      unfold s_X10_take
      rw [if_neg (by decide), if_pos rfl, kO_c2 hC, kcvid]
      exact a1
    · rw [if_pos (by decide), a2']
  · obtain ⟨S2, T2, a1, a2, a3, a4, a5, a6⟩ := r_take h (c := 1) (Or.inr rfl) (fun _ _ => by rw [s1]; decide)
    refine ⟨S2, T, T2, ?_, ?_, h.2.1.1, a2, a3, a4, a5, fun _ => by omega⟩
    · rw [if_neg (show ¬ (6 : Int32) ≤ nI m from fun z => by have := (nI_le_iff (a := 6) (by omega) (by omega)).mp z; omega)]
      exact a1
    · rw [if_neg (show ¬ nI m = 6 from fun z => c ((nI_eqI (b := 6) (by omega) (by omega)).mp z))]
def wS (V : Int64) : Int32 := if V = wv 7 then 0 else if V = wv 8 then 1 else if V = wv 9 then 2 else if V = wv 10 then 3 else -1000000
theorem m_whatOf (T : HS) (V : Int64) : s_X12_whatOf T V = some (wS V, T) := by
  unfold s_X12_whatOf wS
  have e7 : (512971075172 : Int64) = wv 7 := rfl
  have e8 : (1885430629 : Int64) = wv 8 := rfl
  have e9 : (1734964837 : Int64) = wv 9 := rfl
  have e10 : (1953063787 : Int64) = wv 10 := rfl
  rw [e7, e8, e9, e10]
  by_cases c7 : V = wv 7
  · rw [if_pos c7, if_pos c7]
  · rw [if_neg c7, if_neg c7]
    by_cases c8 : V = wv 8
    · rw [if_pos c8, if_pos c8]
    · rw [if_neg c8, if_neg c8]
      by_cases c9 : V = wv 9
      · rw [if_pos c9, if_pos c9]
      · rw [if_neg c9, if_neg c9]
        by_cases c10 : V = wv 10
        · rw [if_pos c10, if_pos c10]
        · rw [if_neg c10, if_neg c10]
theorem c_what {S : HS} (hC : LC S) {V : Int64} {P : Nat → Prop} (hw : ∀ w, w < 11 → s_X10_stands S 2 w = some ((if V = wv w then 1 else 0), S) ∧ (V = wv w → P w)) : s_X10_whatStands S 2 = some (wS V, S) := by
  unfold s_X10_whatStands wS
  rw [kO_c2 hC, (hw 7 (by decide)).1, kc_some, kO_c2 hC, (hw 8 (by decide)).1, kc_some, kO_c2 hC, (hw 9 (by decide)).1, kc_some, kO_c2 hC, (hw 10 (by decide)).1, kc_some]
  by_cases c7 : V = wv 7
  · rw [if_pos c7, if_pos c7, if_neg (by decide)]
  · rw [if_neg c7, if_neg c7, if_pos rfl]
    by_cases c8 : V = wv 8
    · rw [if_pos c8, if_pos c8, if_neg (by decide)]
    · rw [if_neg c8, if_neg c8, if_pos rfl]
      by_cases c9 : V = wv 9
      · rw [if_pos c9, if_pos c9, if_neg (by decide)]
      · rw [if_neg c9, if_neg c9, if_pos rfl]
        by_cases c10 : V = wv 10
        · rw [if_pos c10, if_pos c10, if_neg (by decide)]
        · rw [if_neg c10, if_neg c10, if_pos rfl]
theorem wS_ne {V : Int64} (h : ¬ wS V = -1000000) : V = wv 7 ∨ V = wv 8 ∨ V = wv 9 ∨ V = wv 10 := by
  unfold wS at h
  by_cases c7 : V = wv 7
  · exact Or.inl c7
  · rw [if_neg c7] at h
    by_cases c8 : V = wv 8
    · exact Or.inr (Or.inl c8)
    · rw [if_neg c8] at h
      by_cases c9 : V = wv 9
      · exact Or.inr (Or.inr (Or.inl c9))
      · rw [if_neg c9] at h
        by_cases c10 : V = wv 10
        · exact Or.inr (Or.inr (Or.inr c10))
        · rw [if_neg c10] at h
          exact absurd rfl h
end L2RU
theorem RX.hi {S T S2 T2 : HS} {N b a0 a1 a2 nd nc nh M z : Nat} {B : Nat → Nat} (h : RX S T N B b a0 a1 a2 nd nc nh M z) (g : FB M S S2) (e2 : hI S2 2 = hI S 2) (u : FU T T2) (e33 : hI T2 33 = hI T 33) (e38 : ∀ j, j < 31 + 25 * nh → hI T2 38 j = hI T 38 j) (e38z : ∀ j, 31 + 25 * z ≤ j → hI T2 38 j = hI T 38 j) : RX S2 T2 N B b a0 a1 a2 nd nc nh M z := by
  obtain ⟨hR, hB, hP0⟩ := h
  obtain ⟨hm, kb, ⟨e3, e4, e5⟩, hcnt, ⟨p0, ka, la⟩, ⟨q0, ka1, la1⟩, ⟨r0, ka2, la2⟩⟩ := id hB
  have ei : hI S2 b = hI S b := g.2.2.1 b (by omega) (by omega)
  have ep : hP S2 b = hP S b := (g.2.1 b (by omega)).2.2
  refine ⟨hR.fb g (by omega) e2 u e33, ⟨by have := g.1; omega, by rw [(g.2.1 b (by omega)).1]; exact kb, by rw [ei]; exact ⟨e3, e4, e5⟩, hcnt, ⟨by rw [ep]; exact p0, by rw [(g.2.1 a0 (by omega)).1]; exact ka, by rw [(g.2.1 a0 (by omega)).2.1]; exact la⟩, ⟨by rw [ep]; exact q0, by rw [(g.2.1 a1 (by omega)).1]; exact ka1, by rw [(g.2.1 a1 (by omega)).2.1]; exact la1⟩, by rw [ep]; exact r0, by rw [(g.2.1 a2 (by omega)).1]; exact ka2, by rw [(g.2.1 a2 (by omega)).2.1]; exact la2⟩, fun y => ?_⟩
  rw [e2] at y
  obtain ⟨⟨β0, β1, β2⟩, hD, hCx, hH, hZ⟩ := hP0 y
  have k2 : hK S 2 = 10 := hR.1.1.k (by decide) rfl
  have ex : EX S S2 M 2 2 := ⟨fun x hx => ⟨(g.2.1 x hx).1, (g.2.1 x hx).2.1⟩, fun x hx _ h2 => g.2.2.1 x hx h2, fun x hx _ => (g.2.1 x hx).2.2⟩
  refine ⟨⟨by rw [e38 0 (by omega)]; exact β0, by rw [e38 1 (by omega)]; exact β1, by rw [e38 2 (by omega)]; exact β2⟩, hD.keep ex (Nat.le_refl _) (by rw [k2]; decide) (fun i _ => by rw [(g.2.1 a0 (by omega)).2.2]) (fun i i3 h3 => e38 i (by omega)), hCx.keep ex (Nat.le_refl _) (by rw [k2]; decide) (fun i _ => by rw [(g.2.1 a1 (by omega)).2.2]) (fun i i3 h3 => e38 i (by omega)), hH.keep ex (Nat.le_refl _) (by rw [k2]; decide) (by rw [k2]; decide) (fun i _ => by rw [(g.2.1 a2 (by omega)).2.2]) (fun i i3 h3 => e38 i (by omega)), fun i hz h4 => by rw [e38z _ (by omega)]; exact hZ i hz h4⟩
/-- a HAND that is being read -/
def RH (S T : HS) (N : Nat) (B : Nat → Nat) (b a0 a1 a2 nd nc nh M hd ra m : Nat) : Prop := RX S T N B b a0 a1 a2 nd nc nh M (nh + 1) ∧ (M ≤ hd ∧ M ≤ ra ∧ hd < hN S ∧ ra < hN S ∧ nh < 4 ∧ m ≤ 6) ∧ (hK S hd = 5 ∧ hI S hd 1 = nI m ∧ hP S hd 0 = some ra ∧ hK S ra = 20 ∧ hL S ra = 6) ∧ (hI S 2 2 = 0 → Hh S (hI T 38) hd ra m (31 + 25 * nh) (hN S))
theorem RH.op {S T S2 T2 : HS} {N b a0 a1 a2 nd nc nh M hd ra m : Nat} {B : Nat → Nat} (h : RH S T N B b a0 a1 a2 nd nc nh M hd ra m) (r : RD S2 T2 N B) (g : QS S S2) (u : QT T T2) (f : hI S2 2 2 = 0 → hI S 2 2 = 0) : RH S2 T2 N B b a0 a1 a2 nd nc nh M hd ra m := by
  obtain ⟨h1, h2, ⟨k1, k2, k3, k4, k5⟩, h4⟩ := h
  have hb := h1.2.1.1
  have ei : hI S2 hd = hI S hd := g.2.2.1 hd (by omega)
  refine ⟨h1.op r g u f, by rw [eqN g.1]; exact h2, ⟨by rw [eqK g.1]; exact k1, by rw [ei]; exact k2, by rw [g.2.1]; exact k3, by rw [eqK g.1]; exact k4, by rw [eqL g.1]; exact k5⟩, fun z => ?_⟩
  rw [u.2.2.1 38 (by decide), eqN g.1]
  have kk2 : hK S 2 = 10 := h1.1.1.1.k (by decide) rfl
  exact (h4 (f z)).keep (EX.of (b := 0) g (hN S) 2 2) (Nat.le_refl _) (by rw [kk2]; decide) (by rw [kk2]; decide) (fun _ _ _ => rfl)
theorem c_addRule {X : HS} {hd ra z m : Nat} (xh : hd < hN X) (kh : hK X hd = 5) (e : hI X hd 1 = nI m) (hm : m < 6) (p : hP X hd 0 = some ra) (rn : ra < hN X) (kr : hK X ra = 20) (lr : hL X ra = 6) (zn : z < hN X) (kz : hK X z = 7) : s_X5_add X hd (some z) = some (wP (wI X hd 1 (nI (m + 1))) ra m (some z)) := by
  unfold s_X5_add s_X5_hasRoom
  rw [kO_some xh kh, kI_some xh kh, e, if_neg (show ¬ (6 : Int32) ≤ nI m from fun q => by have := (nI_le_iff (a := 6) (by omega) (by omega)).mp q; omega), kzr_1, kc_some, if_neg (by decide), kP_some xh kh, p, kI_some xh kh, e, kwI_some xh kh, nI_1, kwAP_in (by exact rn) (by exact kr) (by show ¬ (nI m < 0 ∨ hL X ra ≤ _); rw [lr]; exact ix_ok (k := m) rfl hm (by decide)) (by exact zn) (by exact kz), nI_clamp (by omega)]
def nwR (S : HS) (hd ra m : Nat) (v0 v1 v2 v3 : Int32) : HS := wP (wI (wI (wI (wI (wI (wN S 7 0) (hN S) 0 v0) (hN S) 1 v1) (hN S) 2 v2) (hN S) 3 v3) hd 1 (nI (m + 1))) ra m (some (hN S))
theorem c_newRule {S : HS} {hd ra m : Nat} (xh : hd < hN S) (kh : hK S hd = 5) (e : hI S hd 1 = nI m) (hm : m < 6) (p : hP S hd 0 = some ra) (rn : ra < hN S) (kr : hK S ra = 20) (lr : hL S ra = 6) {v0 v1 v2 v3 : Int32} (hv : v1 = 0 ∨ v1 = 1) : knew S 7 (fun o4 S5 => kO S5 o4 7 (fun a7 => kcv (s_X7_init S5 a7 v0 v1 v2 v3) (fun S6 => kO S6 (some hd) 5 (fun a9 => kcv (s_X5_add S6 a9 o4) (fun S8 => some S8))))) = some (nwR S hd ra m v0 v1 v2 v3) := by
  have n1 : hN S < hN (wN S 7 0) := Nat.lt_succ_self _
  have k1 : hK (wN S 7 0) (hN S) = 7 := by rw [hK_wN, if_pos rfl]
  have kb2 : hK (wN S 7 0) hd = 5 := by rw [hK_wN, if_neg (by omega)]; exact kh
  have nb : hd < hN (wN S 7 0) := Nat.lt_of_lt_of_le xh (Nat.le_succ _)
  have na : ra < hN (wN S 7 0) := Nat.lt_of_lt_of_le rn (Nat.le_succ _)
  have ka2 : hK (wN S 7 0) ra = 20 := by rw [hK_wN, if_neg (by omega)]; exact kr
  have la2 : hL (wN S 7 0) ra = 6 := by rw [hL_wN, if_neg (by omega)]; exact lr
  rw [knew_eq, kO_some n1 k1]
  unfold s_X7_init
  rw [kO_some n1 k1, kwI_some n1 k1, kwZ_v (by exact n1) (by exact k1) hv, kwI_some (by exact n1) (by exact k1), kwI_some (by exact n1) (by exact k1), kcv_some, kO_some (by exact nb) (by exact kb2)]
  have eb : hI (wI (wI (wI (wI (wN S 7 0) (hN S) 0 v0) (hN S) 1 v1) (hN S) 2 v2) (hN S) 3 v3) hd 1 = nI m := by
    rw [hI_wI_ne (show hd ≠ hN S by omega), hI_wI_ne (show hd ≠ hN S by omega), hI_wI_ne (show hd ≠ hN S by omega), hI_wI_ne (show hd ≠ hN S by omega), hI_wN_ne (show hd ≠ hN S by omega)]; exact e
  have pb : hP (wI (wI (wI (wI (wN S 7 0) (hN S) 0 v0) (hN S) 1 v1) (hN S) 2 v2) (hN S) 3 v3) hd 0 = some ra := by
    show hP (wN S 7 0) hd 0 = _
    rw [hP_wN_ne (by omega)]; exact p
  rw [c_addRule (X := wI (wI (wI (wI (wN S 7 0) (hN S) 0 v0) (hN S) 1 v1) (hN S) 2 v2) (hN S) 3 v3) (by exact nb) (by exact kb2) eb hm pb (by exact na) (by exact ka2) (by exact la2) (by exact n1) (by exact k1), kcv_some]
  rfl
def rwR (T : HS) (bt m : Nat) (v0 v1 v2 v3 : Int32) : HS := wI (wI (wI (wI (wI T 38 (bt + 1 + 4 * m) v0) 38 (bt + 1 + 4 * m + 1) v1) 38 (bt + 1 + 4 * m + 2) v2) 38 (bt + 1 + 4 * m + 3) v3) 38 bt (nI (m + 1))
theorem r_newRule {S T : HS} {N : Nat} {B : Nat → Nat} {b a0 a1 a2 nd nc nh M hd ra m F : Nat} {v0 v1 v2 v3 : Int32} (h : RH S T N B b a0 a1 a2 nd nc nh M hd ra m) (f0 : hI S 2 2 = 0) (hm : m < 6) (h3 : v3 = nI F) (hF : F ≤ 99) : RH (nwR S hd ra m v0 v1 v2 v3) (rwR T (31 + 25 * nh) m v0 v1 v2 v3) N B b a0 a1 a2 nd nc nh M hd ra (m + 1) ∧ FB M S (nwR S hd ra m v0 v1 v2 v3) ∧ FU T (rwR T (31 + 25 * nh) m v0 v1 v2 v3) := by
  obtain ⟨hR, ⟨m1, m2, m3, m4, m5, m6⟩, ⟨k1, k2, k3, k4, k5⟩, hh⟩ := h
  obtain ⟨c2, c3, c4, c5, c6, c7, c8, c9, c10, c11, c12, c13⟩ := hh f0
  have hMb := hR.2.1.1
  have hne : hd ≠ ra := fun z => by rw [z, k4] at k1; exact absurd k1 (by decide)
  have x1 : hN (nwR S hd ra m v0 v1 v2 v3) = hN S + 1 := rfl
  have xK : ∀ x, hK (nwR S hd ra m v0 v1 v2 v3) x = if x = hN S then 7 else hK S x := fun x => hK_wN S 7 0 x
  have xL : ∀ x, x ≠ hN S → hL (nwR S hd ra m v0 v1 v2 v3) x = hL S x := fun x hx => (hL_wN S 7 0 x).trans (if_neg hx)
  have xI : ∀ x, x ≠ hN S → x ≠ hd → hI (nwR S hd ra m v0 v1 v2 v3) x = hI S x := by
    intro x h1 h2
    show hI (wI (wI (wI (wI (wI (wN S 7 0) (hN S) 0 v0) (hN S) 1 v1) (hN S) 2 v2) (hN S) 3 v3) hd 1 (nI (m + 1))) x = _
    rw [hI_wI_ne h2, hI_wI_ne h1, hI_wI_ne h1, hI_wI_ne h1, hI_wI_ne h1, hI_wN_ne h1]
  have xh : hI (nwR S hd ra m v0 v1 v2 v3) hd 1 = nI (m + 1) := hI_wI_self _ _ _ _
  have xc : hI (nwR S hd ra m v0 v1 v2 v3) (hN S) 0 = v0 ∧ hI (nwR S hd ra m v0 v1 v2 v3) (hN S) 1 = v1 ∧ hI (nwR S hd ra m v0 v1 v2 v3) (hN S) 2 = v2 ∧ hI (nwR S hd ra m v0 v1 v2 v3) (hN S) 3 = v3 := by
    have q : hI (nwR S hd ra m v0 v1 v2 v3) (hN S) = hI (wI (wI (wI (wI (wN S 7 0) (hN S) 0 v0) (hN S) 1 v1) (hN S) 2 v2) (hN S) 3 v3) (hN S) := hI_wI_ne (show hN S ≠ hd by omega)
    rw [q]
    exact ⟨by rw [hI_wI_j (by decide), hI_wI_j (by decide), hI_wI_j (by decide), hI_wI_self], by rw [hI_wI_j (by decide), hI_wI_j (by decide), hI_wI_self], by rw [hI_wI_j (by decide), hI_wI_self], hI_wI_self _ _ _ _⟩
  have xP : ∀ x, x ≠ hN S → x ≠ ra → hP (nwR S hd ra m v0 v1 v2 v3) x = hP S x := by
    intro x h1 h2
    show hP (wP (wI (wI (wI (wI (wI (wN S 7 0) (hN S) 0 v0) (hN S) 1 v1) (hN S) 2 v2) (hN S) 3 v3) hd 1 (nI (m + 1))) ra m (some (hN S))) x = _
    rw [hP_wP_ne h2]
    show hP (wN S 7 0) x = _
    rw [hP_wN_ne h1]
  have xa : ∀ i, hP (nwR S hd ra m v0 v1 v2 v3) ra i = if i = m then some (hN S) else hP S ra i := by
    intro i
    show hP (wP (wI (wI (wI (wI (wI (wN S 7 0) (hN S) 0 v0) (hN S) 1 v1) (hN S) 2 v2) (hN S) 3 v3) hd 1 (nI (m + 1))) ra m (some (hN S))) ra i = _
    by_cases e : i = m
    · rw [if_pos e, e, hP_wP_self]
    · rw [if_neg e, hP_wP_j e]
      show hP (wN S 7 0) ra i = _
      rw [hP_wN_ne (by omega)]
  have yI : ∀ a, a ≠ 38 → hI (rwR T (31 + 25 * nh) m v0 v1 v2 v3) a = hI T a := fun a ha => by unfold rwR; rw [hI_wI_ne ha, hI_wI_ne ha, hI_wI_ne ha, hI_wI_ne ha, hI_wI_ne ha]
  have y38 : ∀ j, j ≠ 31 + 25 * nh → (j < 31 + 25 * nh + 1 + 4 * m ∨ 31 + 25 * nh + 1 + 4 * m + 3 < j) → hI (rwR T (31 + 25 * nh) m v0 v1 v2 v3) 38 j = hI T 38 j := fun j j0 hj => by unfold rwR; rw [hI_wI_j j0, hI_wI_j (by omega), hI_wI_j (by omega), hI_wI_j (by omega), hI_wI_j (by omega)]
  have yn : hI (rwR T (31 + 25 * nh) m v0 v1 v2 v3) 38 (31 + 25 * nh) = nI (m + 1) := hI_wI_self _ _ _ _
  have y1 : hI (rwR T (31 + 25 * nh) m v0 v1 v2 v3) 38 (31 + 25 * nh + 1 + 4 * m) = v0 := by unfold rwR; rw [hI_wI_j (by omega), hI_wI_j (by omega), hI_wI_j (by omega), hI_wI_j (by omega), hI_wI_self]
  have y2 : hI (rwR T (31 + 25 * nh) m v0 v1 v2 v3) 38 (31 + 25 * nh + 1 + 4 * m + 1) = v1 := by unfold rwR; rw [hI_wI_j (by omega), hI_wI_j (by omega), hI_wI_j (by omega), hI_wI_self]
  have y3 : hI (rwR T (31 + 25 * nh) m v0 v1 v2 v3) 38 (31 + 25 * nh + 1 + 4 * m + 2) = v2 := by unfold rwR; rw [hI_wI_j (by omega), hI_wI_j (by omega), hI_wI_self]
  have y4 : hI (rwR T (31 + 25 * nh) m v0 v1 v2 v3) 38 (31 + 25 * nh + 1 + 4 * m + 3) = v3 := by unfold rwR; rw [hI_wI_j (by omega), hI_wI_self]
  have hfu : FU T (rwR T (31 + 25 * nh) m v0 v1 v2 v3) := ⟨rfl, rfl, fun a _ h38 => yI a h38, fun j _ => by rw [yI 33 (by decide)]⟩
  generalize rwR T (31 + 25 * nh) m v0 v1 v2 v3 = T2 at yI y38 yn y1 y2 y3 y4 hfu
  generalize nwR S hd ra m v0 v1 v2 v3 = S2 at x1 xK xL xI xh xc xP xa
  have hfb : FB M S S2 := ⟨by omega, fun x hx => ⟨by rw [xK, if_neg (by omega)], xL x (by omega), xP x (by omega) (by omega)⟩, fun x hx _ => xI x (by omega) (by omega), fun j _ => by rw [xI 2 (by omega) (by omega)]⟩
  have e2 : hI S2 2 = hI S 2 := xI 2 (by omega) (by omega)
  have hR2 : RX S2 T2 N B b a0 a1 a2 nd nc nh M (nh + 1) := hR.hi hfb e2 hfu (yI 33 (by decide)) (fun j hj => y38 j (by omega) (by omega)) (fun j hj => y38 j (by omega) (by omega))
  refine ⟨⟨hR2, ⟨m1, m2, by omega, by omega, m5, by omega⟩, ⟨by rw [xK, if_neg (by omega)]; exact k1, xh, by rw [xP hd (by omega) hne]; exact k3, by rw [xK, if_neg (by omega)]; exact k4, by rw [xL _ (by omega)]; exact k5⟩, fun _ => ⟨c2, by omega, by rw [xK, if_neg (by omega)]; exact c4, by omega, xh, yn, by rw [xP hd (by omega) hne]; exact c8, c9, by omega, by rw [xK, if_neg (by omega)]; exact c11, by rw [xL _ (by omega)]; exact c12, ?_⟩⟩, hfb, hfu⟩
  intro u hu
  by_cases e : u = m
  · subst e
    refine ⟨hN S, F, by rw [xa, if_pos rfl], by omega, by omega, by rw [xK, if_pos rfl], fun j hj => ?_, by rw [xc.2.2.2]; exact h3, hF⟩
    rcases (by omega : j = 0 ∨ j = 1 ∨ j = 2 ∨ j = 3) with z | z | z | z
    · subst z; rw [xc.1]; exact y1.symm
    · subst z; rw [xc.2.1]; exact y2.symm
    · subst z; rw [xc.2.2.1]; exact y3.symm
    · subst z; rw [xc.2.2.2]; exact y4.symm
  · obtain ⟨z, G, z1, z2, z3, z4, z5, z6, z7⟩ := c13 u (by omega)
    have zh : z ≠ hd := fun q => by rw [q, k1] at z4; exact absurd z4 (by decide)
    refine ⟨z, G, by rw [xa, if_neg e]; exact z1, z2, by omega, by rw [xK, if_neg (by omega)]; exact z4, fun j hj => ?_, by rw [xI z (by omega) zh]; exact z6, z7⟩
    rw [xI z (by omega) zh, y38 _ (by omega) (by omega)]
    exact z5 j hj
