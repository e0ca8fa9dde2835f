/-! ===== discs ===== -/
section L2DS
variable {N : Nat} {B : Nat → Nat}
/-- a name that begins something of a sort of which there are n -/
theorem r_begin {S T : HS} (h : RD S T N B) (f0 : hI S 2 2 = 0) (s1 : hI S 2 4 = 1) {k n : Nat} {i : Int32} (hi : i = nI k) (hk : k < 3) (e : hI T 38 k = nI n) (hn : n ≤ 4) : ∃ S2 T2, s_X10_take S 2 1 (if 4 ≤ nI n then 0 else 1) = some S2 ∧ s_X12_begins T 33 i = some T2 ∧ RD S2 T2 N B ∧ QS S S2 ∧ QT T T2 ∧ (hI S2 2 2 = 0 → n < 4) := by
  have hC := h.1.1
  have hM := h.2.1.1
  have f2 : hI T 33 17 = 0 := by
    rcases h.f0 with ⟨-, z⟩ | ⟨z, -⟩
    · exact z
    · exact absurd f0 z
  by_cases c : n = 4
  · subst c
    obtain ⟨S2, T2, a1, a2, a3, a4, a5, a6, a7, -⟩ := r_fail h (k := 3) (by decide) (by decide)
    have a2' : s_X12_bad T 33 3 = some T2 := a2
    refine ⟨S2, T2, ?_, ?_, a3, a4, a5, fun z => absurd z a6⟩
    · rw [if_pos (by decide)]
      unfold s_X10_take
      rw [if_neg (by decide), if_pos rfl, kO_c2 hC, kcvid]
      exact a1
    · unfold s_X12_begins s_X12_begins_b15
      rw [kP_m6 hM, kA_m38 hM hi (by omega), e, if_pos (by decide), kO_m hM, a2', kcv_some, kO_m a3.2.1.1, m_must_no a3.2.1.1 a7, kcv_some]
  · obtain ⟨S2, T2, a1, a2, a3, a4, a5, a6⟩ := r_take h (c := 1) (Or.inr rfl) (fun _ _ => by rw [s1]; decide)
    refine ⟨S2, T2, ?_, ?_, a3, a4, a5, fun _ => by omega⟩
    · rw [if_neg (show ¬ (4 : Int32) ≤ nI n from fun z => by have := (nI_le_iff (a := 4) (by omega) (by omega)).mp z; omega)]
      exact a1
    · unfold s_X12_begins s_X12_begins_b15
      rw [kP_m6 hM, kA_m38 hM hi (by omega), e, if_neg (show ¬ nI n = 4 from fun z => c ((nI_eqI (b := 4) (by omega) (by omega)).mp z)), kO_m hM, a2, kcv_some]
end L2DS
theorem c_addDisc {X : HS} {b a c n : Nat} (xb : b < hN X) (kb : hK X b = 1) (e : hI X b 3 = nI n) (hn : n < 4) (p : hP X b 0 = some a) (an : a < hN X) (ka : hK X a = 17) (la : hL X a = 4) (cn : c < hN X) (kc3 : hK X c = 3) : s_X1_addDisc X b (some c) = some (wP (wI X b 3 (nI (n + 1))) a n (some c)) := by
  unfold s_X1_addDisc
  rw [kI_some xb kb, e, if_neg (show ¬ (4 : Int32) ≤ nI n from fun z => by have := (nI_le_iff (a := 4) (by omega) (by omega)).mp z; omega), kP_some xb kb, p, kI_some xb kb, e, kwI_some xb kb, nI_1, kwAP_in (by exact an) (by exact ka) (by show ¬ (nI n < 0 ∨ hL X a ≤ _); rw [la]; exact ix_ok (k := n) rfl hn (by decide)) (by exact cn) (by exact kc3), nI_clamp (by omega)]
/-- the class's heap with a new Disc -/
def nwD (S : HS) (b a n : Nat) (v1 v2 v3 : Int32) : HS := wP (wI (wI (wI (wI (wN S 3 0) (hN S) 0 v1) (hN S) 1 v2) (hN S) 2 v3) b 3 (nI (n + 1))) a n (some (hN S))
theorem c_newDisc {S : HS} {b a0 a1 a2 nd nc nh M : Nat} (h : CBM S b a0 a1 a2 nd nc nh M) (hn : nd < 4) (v1 v2 v3 : Int32) : knew S 3 (fun o4 S5 => kO S5 o4 3 (fun a7 => kcv (s_X3_init S5 a7 v1 v2 v3) (fun S6 => kO S6 (some b) 1 (fun a9 => kcv (s_X1_addDisc S6 a9 o4) (fun S8 => some S8))))) = some (nwD S b a0 nd v1 v2 v3) := by
  obtain ⟨hm, kb, ⟨e3, -, -⟩, -, ⟨p0, ka, la⟩, -⟩ := h
  have n1 : hN S < hN (wN S 3 0) := Nat.lt_succ_self _
  have k1 : hK (wN S 3 0) (hN S) = 3 := by rw [hK_wN, if_pos rfl]
  have kb2 : hK (wN S 3 0) b = 1 := by rw [hK_wN, if_neg (by omega)]; exact kb
  have nb : b < hN (wN S 3 0) := Nat.lt_of_lt_of_le (show b < hN S by omega) (Nat.le_succ _)
  have na : a0 < hN (wN S 3 0) := Nat.lt_of_lt_of_le (show a0 < hN S by omega) (Nat.le_succ _)
  have ka2 : hK (wN S 3 0) a0 = 17 := by rw [hK_wN, if_neg (by omega)]; exact ka
  have la2 : hL (wN S 3 0) a0 = 4 := by rw [hL_wN, if_neg (by omega)]; exact la
  rw [knew_eq, kO_some n1 k1]
  unfold s_X3_init
  rw [kO_some n1 k1, kwI_some n1 k1, kwI_some (by exact n1) (by exact k1), kwI_some (by exact n1) (by exact k1), kcv_some, kO_some (by exact nb) (by exact kb2)]
  have eb : hI (wI (wI (wI (wN S 3 0) (hN S) 0 v1) (hN S) 1 v2) (hN S) 2 v3) b 3 = nI nd := by
    rw [hI_wI_ne (show b ≠ hN S by omega), hI_wI_ne (show b ≠ hN S by omega), hI_wI_ne (show b ≠ hN S by omega), hI_wN_ne (show b ≠ hN S by omega)]; exact e3
  have pb : hP (wI (wI (wI (wN S 3 0) (hN S) 0 v1) (hN S) 1 v2) (hN S) 2 v3) b 0 = some a0 := by
    show hP (wN S 3 0) b 0 = _
    rw [hP_wN_ne (by omega)]; exact p0
  rw [c_addDisc (X := wI (wI (wI (wN S 3 0) (hN S) 0 v1) (hN S) 1 v2) (hN S) 2 v3) (by exact nb) (by exact kb2) eb hn pb (by exact na) (by exact ka2) (by exact la2) (by exact n1) (by exact k1), kcv_some]
  rfl
theorem r_newDisc {S T : HS} {N : Nat} {B : Nat → Nat} {b a0 a1 a2 nd nc nh M z : Nat} {v1 v2 v3 : Int32} (h : RX S T N B b a0 a1 a2 nd nc nh M z) (f0 : hI S 2 2 = 0) (hn : nd < 4) (hv : DOK v1 v2 v3) : RX (nwD S b a0 nd v1 v2 v3) (wI (wI (wI (wI T 38 (3 + 3 * nd) v1) 38 (3 + 3 * nd + 1) v2) 38 (3 + 3 * nd + 2) v3) 38 0 (nI (nd + 1))) N B b a0 a1 a2 (nd + 1) nc nh (hN S + 1) z ∧ FB b S (nwD S b a0 nd v1 v2 v3) ∧ FU T (wI (wI (wI (wI T 38 (3 + 3 * nd) v1) 38 (3 + 3 * nd + 1) v2) 38 (3 + 3 * nd + 2) v3) 38 0 (nI (nd + 1))) := by
  obtain ⟨hR, hB, hP0⟩ := h
  obtain ⟨⟨β0, β1, β2⟩, hD, hCx, hH, hZ⟩ := hP0 f0
  obtain ⟨hm, kb, ⟨e3, e4, e5⟩, hcnt, ⟨p0, ka, la⟩, ⟨q0, ka1, la1⟩, ⟨r0, ka2, la2⟩⟩ := id hB
  -- the class's new heap
  have x1 : hN (nwD S b a0 nd v1 v2 v3) = hN S + 1 := rfl
  have xK : ∀ x, hK (nwD S b a0 nd v1 v2 v3) x = if x = hN S then 3 else hK S x := fun x => hK_wN S 3 0 x
  have xL : ∀ x, x ≠ hN S → hL (nwD S b a0 nd v1 v2 v3) x = hL S x := fun x hx => (hL_wN S 3 0 x).trans (if_neg hx)
  have xI : ∀ x, x ≠ hN S → x ≠ b → hI (nwD S b a0 nd v1 v2 v3) x = hI S x := by
    intro x h1 h2
    show hI (wI (wI (wI (wI (wN S 3 0) (hN S) 0 v1) (hN S) 1 v2) (hN S) 2 v3) b 3 (nI (nd + 1))) x = _
    rw [hI_wI_ne h2, hI_wI_ne h1, hI_wI_ne h1, hI_wI_ne h1, hI_wN_ne h1]
  have xb : ∀ j, hI (nwD S b a0 nd v1 v2 v3) b j = if j = 3 then nI (nd + 1) else hI S b j := by
    intro j
    show hI (wI (wI (wI (wI (wN S 3 0) (hN S) 0 v1) (hN S) 1 v2) (hN S) 2 v3) b 3 (nI (nd + 1))) b j = _
    by_cases e : j = 3
    · rw [if_pos e, e, hI_wI_self]
    · rw [if_neg e, hI_wI_j e, hI_wI_ne (show b ≠ hN S by omega), hI_wI_ne (show b ≠ hN S by omega), hI_wI_ne (show b ≠ hN S by omega), hI_wN_ne (show b ≠ hN S by omega)]
  have xc : hI (nwD S b a0 nd v1 v2 v3) (hN S) 0 = v1 ∧ hI (nwD S b a0 nd v1 v2 v3) (hN S) 1 = v2 ∧ hI (nwD S b a0 nd v1 v2 v3) (hN S) 2 = v3 := by
    have q : hI (nwD S b a0 nd v1 v2 v3) (hN S) = hI (wI (wI (wI (wN S 3 0) (hN S) 0 v1) (hN S) 1 v2) (hN S) 2 v3) (hN S) := hI_wI_ne (show hN S ≠ b by omega)
    rw [q]
    exact ⟨by rw [hI_wI_j (by decide), hI_wI_j (by decide), hI_wI_self], by rw [hI_wI_j (by decide), hI_wI_self], hI_wI_self _ _ _ _⟩
  have xP : ∀ x, x ≠ hN S → x ≠ a0 → hP (nwD S b a0 nd v1 v2 v3) x = hP S x := by
    intro x h1 h2
    show hP (wP (wI (wI (wI (wI (wN S 3 0) (hN S) 0 v1) (hN S) 1 v2) (hN S) 2 v3) b 3 (nI (nd + 1))) a0 nd (some (hN S))) x = _
    rw [hP_wP_ne h2]
    show hP (wN S 3 0) x = _
    rw [hP_wN_ne h1]
  have xa : ∀ i, hP (nwD S b a0 nd v1 v2 v3) a0 i = if i = nd then some (hN S) else hP S a0 i := by
    intro i
    show hP (wP (wI (wI (wI (wI (wN S 3 0) (hN S) 0 v1) (hN S) 1 v2) (hN S) 2 v3) b 3 (nI (nd + 1))) a0 nd (some (hN S))) a0 i = _
    by_cases e : i = nd
    · rw [if_pos e, e, hP_wP_self]
    · rw [if_neg e, hP_wP_j e]
      show hP (wN S 3 0) a0 i = _
      rw [hP_wN_ne (by omega)]
  -- the reference's row
  have yI : ∀ a, a ≠ 38 → hI (wI (wI (wI (wI T 38 (3 + 3 * nd) v1) 38 (3 + 3 * nd + 1) v2) 38 (3 + 3 * nd + 2) v3) 38 0 (nI (nd + 1))) a = hI T a := fun a ha => by rw [hI_wI_ne ha, hI_wI_ne ha, hI_wI_ne ha, hI_wI_ne ha]
  have y38 : ∀ j, j ≠ 0 → (j < 3 + 3 * nd ∨ 3 + 3 * nd + 2 < j) → hI (wI (wI (wI (wI T 38 (3 + 3 * nd) v1) 38 (3 + 3 * nd + 1) v2) 38 (3 + 3 * nd + 2) v3) 38 0 (nI (nd + 1))) 38 j = hI T 38 j := fun j j0 hj => by rw [hI_wI_j j0, hI_wI_j (by omega), hI_wI_j (by omega), hI_wI_j (by omega)]
  have yn : hI (wI (wI (wI (wI T 38 (3 + 3 * nd) v1) 38 (3 + 3 * nd + 1) v2) 38 (3 + 3 * nd + 2) v3) 38 0 (nI (nd + 1))) 38 0 = nI (nd + 1) := hI_wI_self _ _ _ _
  have y1 : hI (wI (wI (wI (wI T 38 (3 + 3 * nd) v1) 38 (3 + 3 * nd + 1) v2) 38 (3 + 3 * nd + 2) v3) 38 0 (nI (nd + 1))) 38 (3 + 3 * nd) = v1 := by rw [hI_wI_j (by omega), hI_wI_j (by omega), hI_wI_j (by omega), hI_wI_self]
  have y2 : hI (wI (wI (wI (wI T 38 (3 + 3 * nd) v1) 38 (3 + 3 * nd + 1) v2) 38 (3 + 3 * nd + 2) v3) 38 0 (nI (nd + 1))) 38 (3 + 3 * nd + 1) = v2 := by rw [hI_wI_j (by omega), hI_wI_j (by omega), hI_wI_self]
  have y3 : hI (wI (wI (wI (wI T 38 (3 + 3 * nd) v1) 38 (3 + 3 * nd + 1) v2) 38 (3 + 3 * nd + 2) v3) 38 0 (nI (nd + 1))) 38 (3 + 3 * nd + 2) = v3 := by rw [hI_wI_j (by omega), hI_wI_self]
  have hfu : FU T (wI (wI (wI (wI T 38 (3 + 3 * nd) v1) 38 (3 + 3 * nd + 1) v2) 38 (3 + 3 * nd + 2) v3) 38 0 (nI (nd + 1))) := ⟨rfl, rfl, fun a _ h38 => yI a h38, fun j _ => by rw [yI 33 (by decide)]⟩
  generalize wI (wI (wI (wI T 38 (3 + 3 * nd) v1) 38 (3 + 3 * nd + 1) v2) 38 (3 + 3 * nd + 2) v3) 38 0 (nI (nd + 1)) = T2 at yI y38 yn y1 y2 y3 hfu
  generalize nwD S b a0 nd v1 v2 v3 = S2 at x1 xK xL xI xb xc xP xa
  have hfb : FB b S S2 := ⟨by omega, fun x hx => ⟨by rw [xK, if_neg (by omega)], xL x (by omega), xP x (by omega) (by omega)⟩, fun x hx _ => xI x (by omega) (by omega), fun j _ => by rw [xI 2 (by omega) (by omega)]⟩
  have ex : EX S S2 M b a0 := ⟨fun x hx => ⟨by rw [xK, if_neg (by omega)], xL x (by omega)⟩, fun x hx h1 _ => xI x (by omega) h1, fun x hx h1 => xP x (by omega) h1⟩
  have e2 : hI S2 2 = hI S 2 := xI 2 (by omega) (by omega)
  refine ⟨⟨hR.fb hfb hm.1 e2 hfu (yI 33 (by decide)), ⟨by omega, by rw [xK, if_neg (by omega)]; exact kb, ⟨by rw [xb, if_pos rfl], by rw [xb, if_neg (by decide)]; exact e4, by rw [xb, if_neg (by decide)]; exact e5⟩, by omega, ⟨by rw [xP b (by omega) (by omega)]; exact p0, by rw [xK, if_neg (by omega)]; exact ka, by rw [xL _ (by omega)]; exact la⟩, ⟨by rw [xP b (by omega) (by omega)]; exact q0, by rw [xK, if_neg (by omega)]; exact ka1, by rw [xL _ (by omega)]; exact la1⟩, ⟨by rw [xP b (by omega) (by omega)]; exact r0, by rw [xK, if_neg (by omega)]; exact ka2, by rw [xL _ (by omega)]; exact la2⟩⟩, fun _ => ⟨⟨yn, by rw [y38 1 (by decide) (by omega)]; exact β1, by rw [y38 2 (by decide) (by omega)]; exact β2⟩, ?_, ?_, ?_, fun i hz h4 => by rw [y38 _ (by omega) (by omega)]; exact hZ i hz h4⟩⟩, hfb, hfu⟩
  · intro i hi
    by_cases e : i = nd
    · subst e
      refine ⟨hN S, by rw [xa, if_pos rfl], by omega, by omega, by rw [xK, if_pos rfl], fun j hj => ?_, by rw [xc.1, xc.2.1, xc.2.2]; exact hv⟩
      rcases (by omega : j = 0 ∨ j = 1 ∨ j = 2) with z | z | z
      · subst z; rw [xc.1]; exact y1.symm
      · subst z; rw [xc.2.1]; exact y2.symm
      · subst z; rw [xc.2.2]; exact y3.symm
    · exact hD.keep (γ := hI T2 38) ex (show M ≤ hN S + 1 by omega) (by rw [kb]; decide) (fun i hi => by rw [xa, if_neg (by omega)]) (fun i i3 h3 => y38 i (by omega) (by omega)) i (by omega)
  · exact hCx.keep ex (by omega) (by rw [kb]; decide) (fun i hi => by rw [xP a1 (by omega) (fun z => by rw [z, ka] at ka1; exact absurd ka1 (by decide))]) (fun i i3 h3 => y38 i (by omega) (by omega))
  · exact hH.keep ex (by omega) (by rw [kb]; decide) (by rw [ka]; decide) (fun i hi => by rw [xP a2 (by omega) (fun z => by rw [z, ka] at ka2; exact absurd ka2 (by decide))]) (fun i i3 h3 => y38 i (by omega) (by omega))
def dC (S1 : HS) (b : Nat) : Option HS := kO S1 (some 2) 10 (fun a5 => kc (s_X10_takeNumber S1 a5 1 999) (fun v4 S3 => kO S3 (some 2) 10 (fun a8 => kc (s_X10_takeNumber S3 a8 0 99) (fun v7 S6 => kO S6 (some 2) 10 (fun a11 => kc (s_X10_takeNumber S6 a11 1 60) (fun v10 S9 => kI S9 (some 2) 10 4 (fun v12 => if v12 = 3 then (s_X10_readDisc_b63 2 S9 (some b) v4 v7 v10 (some 2) 1) else (s_X10_readDisc_b63 2 S9 (some b) v4 v7 v10 (some 2) 0))))))))
def dM (S1 : HS) : Option HS := kP S1 (some 33) 12 6 (fun v3 => kA S1 v3 14 0 (fun v4 => kO S1 (some 33) 12 (fun a7 => kc (s_X12_number S1 a7 1 999) (fun v6 S5 => kO S5 (some 33) 12 (fun a10 => kc (s_X12_number S5 a10 0 99) (fun v9 S8 => kO S8 (some 33) 12 (fun a13 => kc (s_X12_number S8 a13 1 60) (fun v12 S11 => kO S11 (some 33) 12 (fun a15 => kcv (s_X12_mustEnd S11 a15 ) (fun S14 => kI S14 (some 33) 12 17 (fun v16 => if v16 = 0 then (kP S14 (some 33) 12 6 (fun v17 => kwA S14 v17 14 (3 + (3 * v4)) v6 (fun S18 => kP S18 (some 33) 12 6 (fun v19 => kwA S18 v19 14 ((3 + (3 * v4)) + 1) v9 (fun S20 => kP S20 (some 33) 12 6 (fun v21 => kwA S20 v21 14 ((3 + (3 * v4)) + 2) v12 (fun S22 => kP S22 (some 33) 12 6 (fun v23 => kA S22 v23 14 0 (fun v24 => kwA S22 v23 14 0 (v24 + 1) (fun S25 => some S25)))))))))) else (some S14))))))))))))
theorem disc_rest {S T : HS} {N : Nat} {B : Nat → Nat} {b a0 a1 a2 nd nc nh M z : Nat} (h : RX S T N B b a0 a1 a2 nd nc nh M z) (hn : hI S 2 2 = 0 → nd < 4) : ∃ S2 T2 nd2 M2, dC S b = some S2 ∧ dM T = some T2 ∧ RX S2 T2 N B b a0 a1 a2 nd2 nc nh M2 z ∧ FB b S S2 ∧ FU T T2 ∧ (hI S2 2 2 = 0 → hI S 2 2 = 0 ∧ nd2 = nd + 1) := by
  obtain ⟨v1, w1, S1, T1, a1', b1, c1, d1, e1, g1⟩ := r_number h.1 (lo := 1) (lo2 := 1) (hi := 999) (fun _ => rfl)
  obtain ⟨v2, w2, S3, T3, a2', b2, c2, d2, e2, g2⟩ := r_number c1 (lo := 0) (lo2 := 0) (hi := 99) (fun _ => rfl)
  obtain ⟨v3, w3, S6, T6, a3', b3, c3, d3, e3, g3⟩ := r_number c2 (lo := 1) (lo2 := 1) (hi := 60) (fun _ => rfl)
  obtain ⟨S9, T9, a4', b4, c4, d4, e4, g4⟩ := r_end c3
  have hM := h.1.2.1.1
  have q9 : QS S S9 := ((d1.tr d2).tr d3).tr d4
  have u9 : QT T T9 := ((e1.tr e2).tr e3).tr e4
  have f9 : hI S9 2 2 = 0 → hI S 2 2 = 0 := fun z => (g1 (g2 (g3 (g4 z)).1).1).1
  have h9 : RX S9 T9 N B b a0 a1 a2 nd nc nh M z := h.op c4 q9 u9 f9
  have ce : dC S b = (if hI S9 2 2 = 0 then knew S9 3 (fun o4 S5 => kO S5 o4 3 (fun a7 => kcv (s_X3_init S5 a7 v1 v2 v3) (fun S6 => kO S6 (some b) 1 (fun a9 => kcv (s_X1_addDisc S6 a9 o4) (fun S8 => some S8))))) else some S9) := by
    unfold dC
    rw [kO_c2 h.1.1.1, a1', kc_some, kO_c2 c1.1.1, a2', kc_some, kO_c2 c2.1.1, a3', kc_some, kI_c2 c3.1.1]
    have e63 : (if hI S6 2 4 = 3 then (s_X10_readDisc_b63 2 S6 (some b) v1 v2 v3 (some 2) 1) else (s_X10_readDisc_b63 2 S6 (some b) v1 v2 v3 (some 2) 0)) = s_X10_readDisc_b63 2 S6 (some b) v1 v2 v3 (some 2) (if hI S6 2 4 = 3 then 1 else 0) := by split <;> rfl
    rw [e63]
    unfold s_X10_readDisc_b63
    rw [kO_c2 c3.1.1, a4', kcv_some, kI_c2 c4.1.1]
  have me : dM T = (if hI T9 33 17 = 0 then (kP T9 (some 33) 12 6 (fun v17 => kwA T9 v17 14 (3 + (3 * hI T 38 0)) w1 (fun S18 => kP S18 (some 33) 12 6 (fun v19 => kwA S18 v19 14 ((3 + (3 * hI T 38 0)) + 1) w2 (fun S20 => kP S20 (some 33) 12 6 (fun v21 => kwA S20 v21 14 ((3 + (3 * hI T 38 0)) + 2) w3 (fun S22 => kP S22 (some 33) 12 6 (fun v23 => kA S22 v23 14 0 (fun v24 => kwA S22 v23 14 0 (v24 + 1) (fun S25 => some S25)))))))))) else some T9) := by
    unfold dM
    rw [kP_m6 hM, kA_m38 hM (i := 0) (k := 0) rfl (by decide), kO_m hM, b1, kc_some, kO_m c1.2.1.1, b2, kc_some, kO_m c2.2.1.1, b3, kc_some, kO_m c3.2.1.1, b4, kcv_some, kI_m c4.2.1.1]
  rcases c4.f0 with ⟨f1, f2⟩ | ⟨f1, f2, -⟩
  · obtain ⟨k3, x3, l3, m3⟩ := g3 (g4 f1)
    obtain ⟨k2, x2, l2, m2⟩ := g2 k3
    obtain ⟨k1, x1, l1, m1⟩ := g1 k2
    have n4 := hn k1
    obtain ⟨⟨β0, -, -⟩, -⟩ := h.2.2 k1
    have t1 : (1 : Int32).toInt = 1 := rfl
    have t0 : (0 : Int32).toInt = 0 := rfl
    have t999 : (999 : Int32).toInt = 999 := rfl
    have t99 : (99 : Int32).toInt = 99 := rfl
    have t60 : (60 : Int32).toInt = 60 := rfl
    obtain ⟨W, hW, hW1, hW2⟩ := I_N (n := v1) (a := 1) (b := 999) (by omega) (by omega) (by decide)
    obtain ⟨A, hA, hA1, hA2⟩ := I_N (n := v2) (a := 0) (b := 99) (by omega) (by omega) (by decide)
    obtain ⟨Te, hTe, hT1, hT2⟩ := I_N (n := v3) (a := 1) (b := 60) (by omega) (by omega) (by decide)
    have hv : DOK v1 v2 v3 := ⟨W, A, Te, hW, hA, hTe, by omega, by omega, by omega, by omega, by omega⟩
    obtain ⟨r1, r2, r3⟩ := r_newDisc h9 f1 n4 hv
    have hM9 := c4.2.1.1
    have ix : ∀ j : Nat, (3 : Int32) + 3 * nI nd + nI j = nI (3 + 3 * nd + j) := fun j => by rw [show (3 : Int32) = nI 3 from rfl, nI_mul, nI_add, nI_add]
    have ix0 : (3 : Int32) + 3 * nI nd = nI (3 + 3 * nd) := by rw [show (3 : Int32) = nI 3 from rfl, nI_mul, nI_add]
    have e38 : hI T9 38 0 = nI nd := by rw [u9.2.2.1 38 (by decide)]; exact β0
    refine ⟨_, _, nd + 1, _, ce.trans ((if_pos f1).trans (c_newDisc h9.2.1 n4 v1 v2 v3)), ?_, r1, (q9.fb b).tr r2, u9.fu.tr r3, fun _ => ⟨k1, rfl⟩⟩
    rw [me, if_pos f2, β0, x1, x2, x3, kP_m6 hM9, kwA_m38 hM9 ix0 (by omega), kP_m6 (by exact hM9), kwA_m38 (by exact hM9) (show (3 : Int32) + 3 * nI nd + 1 = nI (3 + 3 * nd + 1) from ix 1) (by omega), kP_m6 (by exact hM9), kwA_m38 (by exact hM9) (show (3 : Int32) + 3 * nI nd + 2 = nI (3 + 3 * nd + 2) from ix 2) (by omega), kP_m6 (by exact hM9), kA_m38 (by exact hM9) (i := 0) (k := 0) rfl (by decide), kwA_m38 (by exact hM9) (i := 0) (k := 0) rfl (by decide), hI_wI_j (by omega), hI_wI_j (by omega), hI_wI_j (by omega), e38, nI_1]
  · exact ⟨S9, T9, nd, M, ce.trans (if_neg f1), me.trans (if_neg f2), h9, q9.fb b, u9.fu, fun z => absurd z f1⟩
theorem r_disc {S T : HS} {N : Nat} {B : Nat → Nat} {b a0 a1 a2 nd nc nh M z : Nat} (h : RX S T N B b a0 a1 a2 nd nc nh M z) (st : s_X10_stands S 2 0 = some (1, S)) (f0 : hI S 2 2 = 0) (s1 : hI S 2 4 = 1) : ∃ S2 T2 nd2 M2, s_X10_readDisc S 2 (some b) = some S2 ∧ s_X12_readDisc T 33 = some T2 ∧ RX S2 T2 N B b a0 a1 a2 nd2 nc nh M2 z ∧ FB b S S2 ∧ FU T T2 ∧ (hI S2 2 2 = 0 → nd2 = nd + 1) := by
  have hC := h.1.1.1
  have hM := h.1.2.1.1
  obtain ⟨⟨β0, -, -⟩, -⟩ := h.2.2 f0
  obtain ⟨hm, kb, ⟨e3, -, -⟩, ⟨n4, -, -⟩, -⟩ := id h.2.1
  obtain ⟨S1, T1, a1', b1, c1, d1, e1, g1⟩ := r_begin h.1 f0 s1 (i := 0) (k := 0) rfl (by decide) β0 n4
  have h1 : RX S1 T1 N B b a0 a1 a2 nd nc nh M z := h.op c1 d1 e1 (fun _ => f0)
  obtain ⟨S2, T2, nd2, M2, x1, x2, x3, x4, x5, x6⟩ := disc_rest h1 g1
  refine ⟨S2, T2, nd2, M2, ?_, ?_, x3, (d1.fb b).tr x4, e1.fu.tr x5, fun z => (x6 z).2⟩
  · unfold s_X10_readDisc
    have e20 : (if 4 ≤ nI nd then (s_X10_readDisc_b20 2 S (some b) (some 2) 1 0) else (s_X10_readDisc_b20 2 S (some b) (some 2) 1 1)) = s_X10_readDisc_b20 2 S (some b) (some 2) 1 (if 4 ≤ nI nd then 0 else 1) := by split <;> rfl
    rw [kO_c2 hC, st, kc_some, kI_some h.2.1.b kb, e3, e20]
    unfold s_X10_readDisc_b20
    rw [kO_c2 hC, a1', kcv_some]
    exact x1
  · unfold s_X12_readDisc
    rw [kO_m hM, b1, kcv_some]
    exact x2
