/-! ===== threads ===== -/
theorem c_addCord {X : HS} {b a c n : Nat} (xb : b < hN X) (kb : hK X b = 1) (e : hI X b 4 = nI n) (hn : n < 4) (p : hP X b 1 = some a) (an : a < hN X) (ka : hK X a = 16) (la : hL X a = 4) (cn : c < hN X) (kc3 : hK X c = 2) : s_X1_addCord X b (some c) = some (wP (wI X b 4 (nI (n + 1))) a n (some c)) := by
  unfold s_X1_addCord
  rw [kI_some xb kb, e, if_neg (show ¬ (4 : Int32) ≤ nI n from fun z => by have := (nI_le_iff (a := 4) (by omega) (by omega)).mp z; omega), kP_some xb kb, p, kI_some xb kb, e, kwI_some xb kb, nI_1, kwAP_in (by exact an) (by exact ka) (by show ¬ (nI n < 0 ∨ hL X a ≤ _); rw [la]; exact ix_ok (k := n) rfl hn (by decide)) (by exact cn) (by exact kc3), nI_clamp (by omega)]
/-- the class's heap with a new Cord -/
def nwC (S : HS) (b a n : Nat) (v1 v2 v3 v4 : Int32) : HS := wP (wI (wI (wI (wI (wI (wN S 2 0) (hN S) 0 v1) (hN S) 1 v2) (hN S) 2 v3) (hN S) 3 v4) b 4 (nI (n + 1))) a n (some (hN S))
theorem c_newCord {S : HS} {b a0 a1 a2 nd nc nh M : Nat} (h : CBM S b a0 a1 a2 nd nc nh M) (hn : nc < 4) (v1 v2 v3 v4 : Int32) : knew S 2 (fun o4 S5 => kO S5 o4 2 (fun a7 => kcv (s_X2_init S5 a7 v1 v2 v3 v4) (fun S6 => kO S6 (some b) 1 (fun a9 => kcv (s_X1_addCord S6 a9 o4) (fun S8 => some S8))))) = some (nwC S b a1 nc v1 v2 v3 v4) := by
  obtain ⟨hm, kb, ⟨-, e4, -⟩, -, -, ⟨p0, ka, la⟩, -⟩ := h
  have n1 : hN S < hN (wN S 2 0) := Nat.lt_succ_self _
  have k1 : hK (wN S 2 0) (hN S) = 2 := by rw [hK_wN, if_pos rfl]
  have kb2 : hK (wN S 2 0) b = 1 := by rw [hK_wN, if_neg (by omega)]; exact kb
  have nb : b < hN (wN S 2 0) := Nat.lt_of_lt_of_le (show b < hN S by omega) (Nat.le_succ _)
  have na : a1 < hN (wN S 2 0) := Nat.lt_of_lt_of_le (show a1 < hN S by omega) (Nat.le_succ _)
  have ka2 : hK (wN S 2 0) a1 = 16 := by rw [hK_wN, if_neg (by omega)]; exact ka
  have la2 : hL (wN S 2 0) a1 = 4 := by rw [hL_wN, if_neg (by omega)]; exact la
  rw [knew_eq, kO_some n1 k1]
  unfold s_X2_init
  rw [kO_some n1 k1, kwI_some n1 k1, kwI_some (by exact n1) (by exact k1), kwI_some (by exact n1) (by exact k1), kwI_some (by exact n1) (by exact k1), kcv_some, kO_some (by exact nb) (by exact kb2)]
  have eb : hI (wI (wI (wI (wI (wN S 2 0) (hN S) 0 v1) (hN S) 1 v2) (hN S) 2 v3) (hN S) 3 v4) b 4 = nI nc := by
    rw [hI_wI_ne (show b ≠ hN S by omega), hI_wI_ne (show b ≠ hN S by omega), hI_wI_ne (show b ≠ hN S by omega), hI_wI_ne (show b ≠ hN S by omega), hI_wN_ne (show b ≠ hN S by omega)]; exact e4
  have pb : hP (wI (wI (wI (wI (wN S 2 0) (hN S) 0 v1) (hN S) 1 v2) (hN S) 2 v3) (hN S) 3 v4) b 1 = some a1 := by
    show hP (wN S 2 0) b 1 = _
    rw [hP_wN_ne (by omega)]; exact p0
  rw [c_addCord (X := wI (wI (wI (wI (wN S 2 0) (hN S) 0 v1) (hN S) 1 v2) (hN S) 2 v3) (hN S) 3 v4) (by exact nb) (by exact kb2) eb hn pb (by exact na) (by exact ka2) (by exact la2) (by exact n1) (by exact k1), kcv_some]
  rfl
def rwC (T : HS) (n : Nat) (v1 v2 v3 v4 : Int32) : HS := wI (wI (wI (wI (wI T 38 (15 + 4 * n) v1) 38 (15 + 4 * n + 1) v2) 38 (15 + 4 * n + 2) v3) 38 (15 + 4 * n + 3) v4) 38 1 (nI (n + 1))
theorem r_newCord {S T : HS} {N : Nat} {B : Nat → Nat} {b a0 a1 a2 nd nc nh M z : Nat} {v1 v2 v3 v4 : Int32} (h : RX S T N B b a0 a1 a2 nd nc nh M z) (f0 : hI S 2 2 = 0) (hn : nc < 4) (hv : COK v1 v2 v3 v4) : RX (nwC S b a1 nc v1 v2 v3 v4) (rwC T nc v1 v2 v3 v4) N B b a0 a1 a2 nd (nc + 1) nh (hN S + 1) z ∧ FB b S (nwC S b a1 nc v1 v2 v3 v4) ∧ FU T (rwC T nc v1 v2 v3 v4) := by
  obtain ⟨hR, hB, hP0⟩ := h
  obtain ⟨⟨β0, β1, β2⟩, hD, hCx, hH, hZ⟩ := hP0 f0
  obtain ⟨hm, kb, ⟨e3, e4, e5⟩, hcnt, ⟨p0, ka, la⟩, ⟨q0, ka1, la1⟩, ⟨r0, ka2, la2⟩⟩ := id hB
  have x1 : hN (nwC S b a1 nc v1 v2 v3 v4) = hN S + 1 := rfl
  have xK : ∀ x, hK (nwC S b a1 nc v1 v2 v3 v4) x = if x = hN S then 2 else hK S x := fun x => hK_wN S 2 0 x
  have xL : ∀ x, x ≠ hN S → hL (nwC S b a1 nc v1 v2 v3 v4) x = hL S x := fun x hx => (hL_wN S 2 0 x).trans (if_neg hx)
  have xI : ∀ x, x ≠ hN S → x ≠ b → hI (nwC S b a1 nc v1 v2 v3 v4) x = hI S x := by
    intro x h1 h2
    show hI (wI (wI (wI (wI (wI (wN S 2 0) (hN S) 0 v1) (hN S) 1 v2) (hN S) 2 v3) (hN S) 3 v4) b 4 (nI (nc + 1))) x = _
    rw [hI_wI_ne h2, hI_wI_ne h1, hI_wI_ne h1, hI_wI_ne h1, hI_wI_ne h1, hI_wN_ne h1]
  have xb : ∀ j, hI (nwC S b a1 nc v1 v2 v3 v4) b j = if j = 4 then nI (nc + 1) else hI S b j := by
    intro j
    show hI (wI (wI (wI (wI (wI (wN S 2 0) (hN S) 0 v1) (hN S) 1 v2) (hN S) 2 v3) (hN S) 3 v4) b 4 (nI (nc + 1))) b j = _
    by_cases e : j = 4
    · rw [if_pos e, e, hI_wI_self]
    · rw [if_neg e, hI_wI_j e, hI_wI_ne (show b ≠ hN S by omega), hI_wI_ne (show b ≠ hN S by omega), hI_wI_ne (show b ≠ hN S by omega), hI_wI_ne (show b ≠ hN S by omega), hI_wN_ne (show b ≠ hN S by omega)]
  have xc : hI (nwC S b a1 nc v1 v2 v3 v4) (hN S) 0 = v1 ∧ hI (nwC S b a1 nc v1 v2 v3 v4) (hN S) 1 = v2 ∧ hI (nwC S b a1 nc v1 v2 v3 v4) (hN S) 2 = v3 ∧ hI (nwC S b a1 nc v1 v2 v3 v4) (hN S) 3 = v4 := by
    have q : hI (nwC S b a1 nc v1 v2 v3 v4) (hN S) = hI (wI (wI (wI (wI (wN S 2 0) (hN S) 0 v1) (hN S) 1 v2) (hN S) 2 v3) (hN S) 3 v4) (hN S) := hI_wI_ne (show hN S ≠ b by omega)
    rw [q]
    exact ⟨by rw [hI_wI_j (by decide), hI_wI_j (by decide), hI_wI_j (by decide), hI_wI_self], by rw [hI_wI_j (by decide), hI_wI_j (by decide), hI_wI_self], by rw [hI_wI_j (by decide), hI_wI_self], hI_wI_self _ _ _ _⟩
  have xP : ∀ x, x ≠ hN S → x ≠ a1 → hP (nwC S b a1 nc v1 v2 v3 v4) x = hP S x := by
    intro x h1 h2
    show hP (wP (wI (wI (wI (wI (wI (wN S 2 0) (hN S) 0 v1) (hN S) 1 v2) (hN S) 2 v3) (hN S) 3 v4) b 4 (nI (nc + 1))) a1 nc (some (hN S))) x = _
    rw [hP_wP_ne h2]
    show hP (wN S 2 0) x = _
    rw [hP_wN_ne h1]
  have xa : ∀ i, hP (nwC S b a1 nc v1 v2 v3 v4) a1 i = if i = nc then some (hN S) else hP S a1 i := by
    intro i
    show hP (wP (wI (wI (wI (wI (wI (wN S 2 0) (hN S) 0 v1) (hN S) 1 v2) (hN S) 2 v3) (hN S) 3 v4) b 4 (nI (nc + 1))) a1 nc (some (hN S))) a1 i = _
    by_cases e : i = nc
    · rw [if_pos e, e, hP_wP_self]
    · rw [if_neg e, hP_wP_j e]
      show hP (wN S 2 0) a1 i = _
      rw [hP_wN_ne (by omega)]
  have yI : ∀ a, a ≠ 38 → hI (rwC T nc v1 v2 v3 v4) a = hI T a := fun a ha => by unfold rwC; rw [hI_wI_ne ha, hI_wI_ne ha, hI_wI_ne ha, hI_wI_ne ha, hI_wI_ne ha]
  have y38 : ∀ j, j ≠ 1 → (j < 15 + 4 * nc ∨ 15 + 4 * nc + 3 < j) → hI (rwC T nc v1 v2 v3 v4) 38 j = hI T 38 j := fun j j0 hj => by unfold rwC; rw [hI_wI_j j0, hI_wI_j (by omega), hI_wI_j (by omega), hI_wI_j (by omega), hI_wI_j (by omega)]
  have yn : hI (rwC T nc v1 v2 v3 v4) 38 1 = nI (nc + 1) := hI_wI_self _ _ _ _
  have y1 : hI (rwC T nc v1 v2 v3 v4) 38 (15 + 4 * nc) = v1 := by unfold rwC; rw [hI_wI_j (by omega), hI_wI_j (by omega), hI_wI_j (by omega), hI_wI_j (by omega), hI_wI_self]
  have y2 : hI (rwC T nc v1 v2 v3 v4) 38 (15 + 4 * nc + 1) = v2 := by unfold rwC; rw [hI_wI_j (by omega), hI_wI_j (by omega), hI_wI_j (by omega), hI_wI_self]
  have y3 : hI (rwC T nc v1 v2 v3 v4) 38 (15 + 4 * nc + 2) = v3 := by unfold rwC; rw [hI_wI_j (by omega), hI_wI_j (by omega), hI_wI_self]
  have y4 : hI (rwC T nc v1 v2 v3 v4) 38 (15 + 4 * nc + 3) = v4 := by unfold rwC; rw [hI_wI_j (by omega), hI_wI_self]
  have hfu : FU T (rwC T nc v1 v2 v3 v4) := ⟨rfl, rfl, fun a _ h38 => yI a h38, fun j _ => by rw [yI 33 (by decide)]⟩
  generalize rwC T nc v1 v2 v3 v4 = T2 at yI y38 yn y1 y2 y3 y4 hfu
  generalize nwC S b a1 nc v1 v2 v3 v4 = S2 at x1 xK xL xI xb xc xP xa
  have hfb : FB b S S2 := ⟨by omega, fun x hx => ⟨by rw [xK, if_neg (by omega)], xL x (by omega), xP x (by omega) (by omega)⟩, fun x hx _ => xI x (by omega) (by omega), fun j _ => by rw [xI 2 (by omega) (by omega)]⟩
  have ex : EX S S2 M b a1 := ⟨fun x hx => ⟨by rw [xK, if_neg (by omega)], xL x (by omega)⟩, fun x hx h1 _ => xI x (by omega) h1, fun x hx h1 => xP x (by omega) h1⟩
  have e2 : hI S2 2 = hI S 2 := xI 2 (by omega) (by omega)
  refine ⟨⟨hR.fb hfb hm.1 e2 hfu (yI 33 (by decide)), ⟨by omega, by rw [xK, if_neg (by omega)]; exact kb, ⟨by rw [xb, if_neg (by decide)]; exact e3, by rw [xb, if_pos rfl], by rw [xb, if_neg (by decide)]; exact e5⟩, by omega, ⟨by rw [xP b (by omega) (by omega)]; exact p0, by rw [xK, if_neg (by omega)]; exact ka, by rw [xL _ (by omega)]; exact la⟩, ⟨by rw [xP b (by omega) (by omega)]; exact q0, by rw [xK, if_neg (by omega)]; exact ka1, by rw [xL _ (by omega)]; exact la1⟩, ⟨by rw [xP b (by omega) (by omega)]; exact r0, by rw [xK, if_neg (by omega)]; exact ka2, by rw [xL _ (by omega)]; exact la2⟩⟩, fun _ => ⟨⟨by rw [y38 0 (by decide) (by omega)]; exact β0, yn, by rw [y38 2 (by decide) (by omega)]; exact β2⟩, ?_, ?_, ?_, fun i hz h4 => by rw [y38 _ (by omega) (by omega)]; exact hZ i hz h4⟩⟩, hfb, hfu⟩
  · exact hD.keep ex (by omega) (by rw [kb]; decide) (fun i hi => by rw [xP a0 (by omega) (fun z => by rw [z, ka1] at ka; exact absurd ka (by decide))]) (fun i i3 h3 => y38 i (by omega) (by omega))
  · intro i hi
    by_cases e : i = nc
    · subst e
      refine ⟨hN S, by rw [xa, if_pos rfl], by omega, by omega, by rw [xK, if_pos rfl], fun j hj => ?_, by rw [xc.1, xc.2.1, xc.2.2.1, xc.2.2.2]; exact hv⟩
      rcases (by omega : j = 0 ∨ j = 1 ∨ j = 2 ∨ j = 3) with z | z | z | z
      · subst z; rw [xc.1]; exact y1.symm
      · subst z; rw [xc.2.1]; exact y2.symm
      · subst z; rw [xc.2.2.1]; exact y3.symm
      · subst z; rw [xc.2.2.2]; exact y4.symm
    · exact hCx.keep (γ := hI T2 38) ex (show M ≤ hN S + 1 by omega) (by rw [kb]; decide) (fun i hi => by rw [xa, if_neg (by omega)]) (fun i i3 h3 => y38 i (by omega) (by omega)) i (by omega)
  · exact hH.keep ex (by omega) (by rw [kb]; decide) (by rw [ka1]; decide) (fun i hi => by rw [xP a2 (by omega) (fun z => by rw [z, ka1] at ka2; exact absurd ka2 (by decide))]) (fun i i3 h3 => y38 i (by omega) (by omega))
def tC_ (S1 : HS) (b : Nat) : Option HS := kO S1 (some 2) 10 (fun a5 => kc (s_X10_takeNumber S1 a5 1 99) (fun v4 S3 => kO S3 (some 2) 10 (fun a8 => kc (s_X10_takeNumber S3 a8 1 400) (fun v7 S6 => kO S6 (some 2) 10 (fun a11 => kc (s_X10_takeNumber S6 a11 v7 800) (fun v10 S9 => kO S9 (some 2) 10 (fun a14 => kc (s_X10_takeNumber S9 a14 1 999) (fun v13 S12 => kI S12 (some 2) 10 4 (fun v15 => if v15 = 3 then (s_X10_readThread_b74 2 S12 (some b) v4 v7 v10 v13 (some 2) 1) else (s_X10_readThread_b74 2 S12 (some b) v4 v7 v10 v13 (some 2) 0))))))))))
def tM_ (S1 : HS) : Option HS := kP S1 (some 33) 12 6 (fun v3 => kA S1 v3 14 1 (fun v4 => kO S1 (some 33) 12 (fun a7 => kc (s_X12_number S1 a7 1 99) (fun v6 S5 => kO S5 (some 33) 12 (fun a10 => kc (s_X12_number S5 a10 1 400) (fun v9 S8 => kO S8 (some 33) 12 (fun a13 => kc (s_X12_number S8 a13 v9 800) (fun v12 S11 => kO S11 (some 33) 12 (fun a16 => kc (s_X12_number S11 a16 1 999) (fun v15 S14 => kO S14 (some 33) 12 (fun a18 => kcv (s_X12_mustEnd S14 a18 ) (fun S17 => kI S17 (some 33) 12 17 (fun v19 => if v19 = 0 then (kP S17 (some 33) 12 6 (fun v20 => kwA S17 v20 14 (15 + (4 * v4)) v6 (fun S21 => kP S21 (some 33) 12 6 (fun v22 => kwA S21 v22 14 ((15 + (4 * v4)) + 1) v9 (fun S23 => kP S23 (some 33) 12 6 (fun v24 => kwA S23 v24 14 ((15 + (4 * v4)) + 2) v12 (fun S25 => kP S25 (some 33) 12 6 (fun v26 => kwA S25 v26 14 ((15 + (4 * v4)) + 3) v15 (fun S27 => kP S27 (some 33) 12 6 (fun v28 => kA S27 v28 14 1 (fun v29 => kwA S27 v28 14 1 (v29 + 1) (fun S30 => some S30)))))))))))) else (some S17))))))))))))))
theorem cord_rest {S T : HS} {N : Nat} {B : Nat → Nat} {b a0 a1 a2 nd nc nh M z : Nat} (h : RX S T N B b a0 a1 a2 nd nc nh M z) (hn : hI S 2 2 = 0 → nc < 4) : ∃ S2 T2 nc2 M2, tC_ S b = some S2 ∧ tM_ T = some T2 ∧ RX S2 T2 N B b a0 a1 a2 nd nc2 nh M2 z ∧ FB b S S2 ∧ FU T T2 ∧ (hI S2 2 2 = 0 → hI S 2 2 = 0 ∧ nc2 = nc + 1) := by
  obtain ⟨v1, w1, S1, T1, a1', b1, c1, d1, e1, g1⟩ := r_number h.1 (lo := 1) (lo2 := 1) (hi := 99) (fun _ => rfl)
  obtain ⟨v2, w2, S3, T3, a2', b2, c2, d2, e2, g2⟩ := r_number c1 (lo := 1) (lo2 := 1) (hi := 400) (fun _ => rfl)
  obtain ⟨v3, w3, S6, T6, a3', b3, c3, d3, e3, g3⟩ := r_number c2 (lo := v2) (lo2 := w2) (hi := 800) (fun z => (g2 z).2.1)
  obtain ⟨v4, w4, S7, T7, a7', b7, c7, d7, e7, g7⟩ := r_number c3 (lo := 1) (lo2 := 1) (hi := 999) (fun _ => rfl)
  obtain ⟨S9, T9, a4', b4, c4, d4, e4, g4⟩ := r_end c7
  have hM := h.1.2.1.1
  have q9 : QS S S9 := (((d1.tr d2).tr d3).tr d7).tr d4
  have u9 : QT T T9 := (((e1.tr e2).tr e3).tr e7).tr e4
  have f9 : hI S9 2 2 = 0 → hI S 2 2 = 0 := fun z => (g1 (g2 (g3 (g7 (g4 z)).1).1).1).1
  have h9 : RX S9 T9 N B b a0 a1 a2 nd nc nh M z := h.op c4 q9 u9 f9
  have ce : tC_ S b = (if hI S9 2 2 = 0 then knew S9 2 (fun o4 S5 => kO S5 o4 2 (fun a7 => kcv (s_X2_init S5 a7 v1 v2 v3 v4) (fun S6 => kO S6 (some b) 1 (fun a9 => kcv (s_X1_addCord S6 a9 o4) (fun S8 => some S8))))) else some S9) := by
    unfold tC_
    rw [kO_c2 h.1.1.1, a1', kc_some, kO_c2 c1.1.1, a2', kc_some, kO_c2 c2.1.1, a3', kc_some, kO_c2 c3.1.1, a7', kc_some, kI_c2 c7.1.1]
    have e63 : (if hI S7 2 4 = 3 then (s_X10_readThread_b74 2 S7 (some b) v1 v2 v3 v4 (some 2) 1) else (s_X10_readThread_b74 2 S7 (some b) v1 v2 v3 v4 (some 2) 0)) = s_X10_readThread_b74 2 S7 (some b) v1 v2 v3 v4 (some 2) (if hI S7 2 4 = 3 then 1 else 0) := by split <;> rfl
    rw [e63]
    unfold s_X10_readThread_b74
    rw [kO_c2 c7.1.1, a4', kcv_some, kI_c2 c4.1.1]
  have me : tM_ T = (if hI T9 33 17 = 0 then (kP T9 (some 33) 12 6 (fun v20 => kwA T9 v20 14 (15 + (4 * hI T 38 1)) w1 (fun S21 => kP S21 (some 33) 12 6 (fun v22 => kwA S21 v22 14 ((15 + (4 * hI T 38 1)) + 1) w2 (fun S23 => kP S23 (some 33) 12 6 (fun v24 => kwA S23 v24 14 ((15 + (4 * hI T 38 1)) + 2) w3 (fun S25 => kP S25 (some 33) 12 6 (fun v26 => kwA S25 v26 14 ((15 + (4 * hI T 38 1)) + 3) w4 (fun S27 => kP S27 (some 33) 12 6 (fun v28 => kA S27 v28 14 1 (fun v29 => kwA S27 v28 14 1 (v29 + 1) (fun S30 => some S30)))))))))))) else some T9) := by
    unfold tM_
    rw [kP_m6 hM, kA_m38 hM (i := 1) (k := 1) rfl (by decide), kO_m hM, b1, kc_some, kO_m c1.2.1.1, b2, kc_some, kO_m c2.2.1.1, b3, kc_some, kO_m c3.2.1.1, b7, kc_some, kO_m c7.2.1.1, b4, kcv_some, kI_m c4.2.1.1]
  rcases c4.f0 with ⟨f1, f2⟩ | ⟨f1, f2, -⟩
  · obtain ⟨k4, x4, l4, m4⟩ := g7 (g4 f1)
    obtain ⟨k3, x3, l3, m3⟩ := g3 k4
    obtain ⟨k2, x2, l2, m2⟩ := g2 k3
    obtain ⟨k1, x1, l1, m1⟩ := g1 k2
    have n4 := hn k1
    obtain ⟨⟨-, β1, -⟩, -⟩ := h.2.2 k1
    have t1 : (1 : Int32).toInt = 1 := rfl
    have t99 : (99 : Int32).toInt = 99 := rfl
    have t400 : (400 : Int32).toInt = 400 := rfl
    have t800 : (800 : Int32).toInt = 800 := rfl
    have t999 : (999 : Int32).toInt = 999 := rfl
    obtain ⟨A, hA, hA1, hA2⟩ := I_N (n := v1) (a := 1) (b := 99) (by omega) (by omega) (by decide)
    obtain ⟨W, hW, hW1, hW2⟩ := I_N (n := v2) (a := 1) (b := 400) (by omega) (by omega) (by decide)
    obtain ⟨Q, hQ, hQ1, hQ2⟩ := I_N (n := v3) (a := 1) (b := 800) (by omega) (by omega) (by decide)
    obtain ⟨Z, hZ, hZ1, hZ2⟩ := I_N (n := v4) (a := 1) (b := 999) (by omega) (by omega) (by decide)
    have i2 : v2.toInt = (W : Int) := by rw [hW]; exact nI_toInt (by omega)
    have i3 : v3.toInt = (Q : Int) := by rw [hQ]; exact nI_toInt (by omega)
    have hv : COK v1 v2 v3 v4 := ⟨A, W, Q, Z, hA, hW, hQ, hZ, by omega, by omega, by omega, by omega, by omega, by omega, by omega, by omega⟩
    obtain ⟨r1, r2, r3⟩ := r_newCord h9 f1 n4 hv
    have hM9 := c4.2.1.1
    have ix : ∀ j : Nat, (15 : Int32) + 4 * nI nc + nI j = nI (15 + 4 * nc + j) := fun j => by rw [show (15 : Int32) = nI 15 from rfl, show (4 : Int32) = nI 4 from rfl, nI_mul, nI_add, nI_add]
    have ix0 : (15 : Int32) + 4 * nI nc = nI (15 + 4 * nc) := by rw [show (15 : Int32) = nI 15 from rfl, show (4 : Int32) = nI 4 from rfl, nI_mul, nI_add]
    have e38 : hI T9 38 1 = nI nc := by rw [u9.2.2.1 38 (by decide)]; exact β1
    refine ⟨_, _, nc + 1, _, ce.trans ((if_pos f1).trans (c_newCord h9.2.1 n4 v1 v2 v3 v4)), ?_, r1, (q9.fb b).tr r2, u9.fu.tr r3, fun _ => ⟨k1, rfl⟩⟩
    rw [me, if_pos f2, β1, x1, x2, x3, x4, kP_m6 hM9, kwA_m38 hM9 ix0 (by omega), kP_m6 (by exact hM9), kwA_m38 (by exact hM9) (show (15 : Int32) + 4 * nI nc + 1 = nI (15 + 4 * nc + 1) from ix 1) (by omega), kP_m6 (by exact hM9), kwA_m38 (by exact hM9) (show (15 : Int32) + 4 * nI nc + 2 = nI (15 + 4 * nc + 2) from ix 2) (by omega), kP_m6 (by exact hM9), kwA_m38 (by exact hM9) (show (15 : Int32) + 4 * nI nc + 3 = nI (15 + 4 * nc + 3) from ix 3) (by omega), kP_m6 (by exact hM9), kA_m38 (by exact hM9) (i := 1) (k := 1) rfl (by decide), kwA_m38 (by exact hM9) (i := 1) (k := 1) rfl (by decide), hI_wI_j (by omega), hI_wI_j (by omega), hI_wI_j (by omega), hI_wI_j (by omega), e38, nI_1]
    rfl
  · exact ⟨S9, T9, nc, M, ce.trans (if_neg f1), me.trans (if_neg f2), h9, q9.fb b, u9.fu, fun z => absurd z f1⟩
theorem r_cord {S T : HS} {N : Nat} {B : Nat → Nat} {b a0 a1 a2 nd nc nh M z : Nat} (h : RX S T N B b a0 a1 a2 nd nc nh M z) (st : s_X10_stands S 2 1 = some (1, S)) (f0 : hI S 2 2 = 0) (s1 : hI S 2 4 = 1) : ∃ S2 T2 nc2 M2, s_X10_readThread S 2 (some b) = some S2 ∧ s_X12_readThread T 33 = some T2 ∧ RX S2 T2 N B b a0 a1 a2 nd nc2 nh M2 z ∧ FB b S S2 ∧ FU T T2 ∧ (hI S2 2 2 = 0 → nc2 = nc + 1) := by
  have hC := h.1.1.1
  have hM := h.1.2.1.1
  obtain ⟨⟨-, β1, -⟩, -⟩ := h.2.2 f0
  obtain ⟨hm, kb, ⟨-, e4, -⟩, ⟨-, n4, -⟩, -⟩ := id h.2.1
  obtain ⟨S1, T1, a1', b1, c1, d1, e1, g1⟩ := r_begin h.1 f0 s1 (i := 1) (k := 1) rfl (by decide) β1 n4
  have h1 : RX S1 T1 N B b a0 a1 a2 nd nc nh M z := h.op c1 d1 e1 (fun _ => f0)
  obtain ⟨S2, T2, nc2, M2, x1, x2, x3, x4, x5, x6⟩ := cord_rest h1 g1
  refine ⟨S2, T2, nc2, M2, ?_, ?_, x3, (d1.fb b).tr x4, e1.fu.tr x5, fun z => (x6 z).2⟩
  · unfold s_X10_readThread
    have e20 : (if 4 ≤ nI nc then (s_X10_readThread_b20 2 S (some b) (some 2) 1 0) else (s_X10_readThread_b20 2 S (some b) (some 2) 1 1)) = s_X10_readThread_b20 2 S (some b) (some 2) 1 (if 4 ≤ nI nc then 0 else 1) := by split <;> rfl
    rw [kO_c2 hC, st, kc_some, kI_some h.2.1.b kb, e4, e20]
    unfold s_X10_readThread_b20
    rw [kO_c2 hC, a1', kcv_some]
    exact x1
  · unfold s_X12_readThread
    rw [kO_m hM, b1, kcv_some]
    exact x2
