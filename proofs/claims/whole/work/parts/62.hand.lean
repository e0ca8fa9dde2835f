/-! ===== a HAND of both ===== -/
/-- the class's heap with a new Hand -/
def nwH (S : HS) : HS := wP (wN (wN S 5 0) 20 6) (hN S) 0 (some (hN S + 1))
theorem c_newHand (S : HS) : s_X5_init (wN S 5 0) (hN S) = some (nwH S) := by
  have n1 : hN S < hN (wN S 5 0) := Nat.lt_succ_self _
  have k1 : hK (wN S 5 0) (hN S) = 5 := by rw [hK_wN, if_pos rfl]
  have n2 : hN S < hN (wN (wN S 5 0) 20 6) := Nat.lt_of_lt_of_le n1 (Nat.le_succ _)
  have k2 : hK (wN (wN S 5 0) 20 6) (hN S) = 5 := by rw [hK_wN, if_neg (show hN S ≠ hN (wN S 5 0) from Nat.ne_of_lt n1)]; exact k1
  unfold s_X5_init
  rw [kO_some n1 k1, knewA_eq (n := 6) (N := 6) rfl, kwP_some n2 k2]
  rfl
theorem r_newHand {S T : HS} {N : Nat} {B : Nat → Nat} {b a0 a1 a2 nd nc nh M : Nat} (h : RX S T N B b a0 a1 a2 nd nc nh M nh) (hn : nh < 4) : RH (nwH S) T N B b a0 a1 a2 nd nc nh M (hN S) (hN S + 1) 0 ∧ FB M S (nwH S) := by
  have hm := h.2.1.1
  have x1 : hN (nwH S) = hN S + 2 := rfl
  have xK : ∀ x, hK (nwH S) x = if x = hN S + 1 then 20 else if x = hN S then 5 else hK S x := by
    intro x
    show hK (wN (wN S 5 0) 20 6) x = _
    rw [hK_wN, hK_wN]
    rfl
  have xL : ∀ x, hL (nwH S) x = if x = hN S + 1 then 6 else if x = hN S then 0 else hL S x := by
    intro x
    show hL (wN (wN S 5 0) 20 6) x = _
    rw [hL_wN, hL_wN]
    rfl
  have xI : ∀ x, x ≠ hN S → x ≠ hN S + 1 → hI (nwH S) x = hI S x := by
    intro x h1 h2
    show hI (wN (wN S 5 0) 20 6) x = _
    rw [hI_wN_ne h2, hI_wN_ne h1]
  have xh : ∀ j, hI (nwH S) (hN S) j = 0 := by
    intro j
    show hI (wN (wN S 5 0) 20 6) (hN S) j = _
    rw [hI_wN_ne (show hN S ≠ hN (wN S 5 0) from Nat.ne_of_lt (Nat.lt_succ_self _)), hI_wN, if_pos rfl]
  have xP : ∀ x, x ≠ hN S → x ≠ hN S + 1 → hP (nwH S) x = hP S x := by
    intro x h1 h2
    show hP (wP (wN (wN S 5 0) 20 6) (hN S) 0 (some (hN S + 1))) x = _
    rw [hP_wP_ne h1, hP_wN_ne h2, hP_wN_ne h1]
  have xp : hP (nwH S) (hN S) 0 = some (hN S + 1) := hP_wP_self _ _ _ _
  generalize nwH S = S2 at x1 xK xL xI xh xP xp
  have hfb : FB M S S2 := ⟨by omega, fun x hx => ⟨by rw [xK, if_neg (by omega), if_neg (by omega)], by rw [xL, if_neg (by omega), if_neg (by omega)], xP x (by omega) (by omega)⟩, fun x hx _ => xI x (by omega) (by omega), fun j _ => by rw [xI 2 (by omega) (by omega)]⟩
  have e2 : hI S2 2 = hI S 2 := xI 2 (by omega) (by omega)
  have hR2 : RX S2 T N B b a0 a1 a2 nd nc nh M nh := h.hi hfb e2 (FU.rf T) rfl (fun _ _ => rfl) (fun _ _ => rfl)
  have k5 : hK S2 (hN S) = 5 := by rw [xK, if_neg (by omega), if_pos rfl]
  have k20 : hK S2 (hN S + 1) = 20 := by rw [xK, if_pos rfl]
  have l6 : hL S2 (hN S + 1) = 6 := by rw [xL, if_pos rfl]
  refine ⟨⟨⟨hR2.1, hR2.2.1, fun y => ?_⟩, ⟨by omega, by omega, by omega, by omega, hn, by decide⟩, ⟨k5, xh 1, xp, k20, l6⟩, fun y => ?_⟩, hfb⟩
  · obtain ⟨q1, q2, q3, q4, q5⟩ := hR2.2.2 y
    exact ⟨q1, q2, q3, q4, fun i hz h4 => q5 i (by omega) h4⟩
  · obtain ⟨q1, q2, q3, q4, q5⟩ := hR2.2.2 y
    exact ⟨by omega, by omega, k5, by decide, xh 1, q5 nh (Nat.le_refl _) hn, xp, by omega, by omega, k20, l6, fun u hu => absurd hu (by omega)⟩
theorem c_addHand {X : HS} {b a c n : Nat} (xb : b < hN X) (kb : hK X b = 1) (e : hI X b 5 = nI n) (hn : n < 4) (p : hP X b 2 = some a) (an : a < hN X) (ka : hK X a = 18) (la : hL X a = 4) (cn : c < hN X) (kc3 : hK X c = 5) : s_X1_addHand X b (some c) = some (wP (wI X b 5 (nI (n + 1))) a n (some c)) := by
  unfold s_X1_addHand
  rw [kI_some xb kb, e, if_neg (show ¬ (4 : Int32) ≤ nI n from fun z => by have := (nI_le_iff (a := 4) (by omega) (by omega)).mp z; omega), kP_some xb kb, p, kI_some xb kb, e, kwI_some xb kb, nI_1, kwAP_in (by exact an) (by exact ka) (by show ¬ (nI n < 0 ∨ hL X a ≤ _); rw [la]; exact ix_ok (k := n) rfl hn (by decide)) (by exact cn) (by exact kc3), nI_clamp (by omega)]
/-- the HAND goes into the BOX -/
theorem r_putHand {S T : HS} {N : Nat} {B : Nat → Nat} {b a0 a1 a2 nd nc nh M hd ra m : Nat} (h : RH S T N B b a0 a1 a2 nd nc nh M hd ra m) : ∃ S2 T2, s_X1_addHand S b (some hd) = some S2 ∧ (if hI T 33 17 = 0 then some (wI T 38 2 (hI T 38 2 + 1)) else some (wI T 38 2 (hI T 38 2 + 0))) = some T2 ∧ RX S2 T2 N B b a0 a1 a2 nd nc (nh + 1) (hN S) (nh + 1) ∧ FB b S S2 ∧ FU T T2 ∧ hI S2 2 = hI S 2 := by
  obtain ⟨hRX, ⟨m1, m2, m3, m4, m5, m6⟩, ⟨k1, k2, k3, k4, k5⟩, hh⟩ := h
  obtain ⟨hR, hB, hP0⟩ := hRX
  obtain ⟨hm, kb, ⟨e3, e4, e5⟩, hcnt, ⟨p0, ka, la⟩, ⟨q0, ka1, la1⟩, ⟨r0, ka2, la2⟩⟩ := id hB
  have ea := c_addHand (X := S) (show b < hN S by omega) kb e5 m5 r0 (show a2 < hN S by omega) ka2 la2 m3 k1
  have xI : ∀ x, x ≠ b → hI (wP (wI S b 5 (nI (nh + 1))) a2 nh (some hd)) x = hI S x := fun x hx => by
    show hI (wI S b 5 (nI (nh + 1))) x = _
    rw [hI_wI_ne hx]
  have xb : ∀ j, hI (wP (wI S b 5 (nI (nh + 1))) a2 nh (some hd)) b j = if j = 5 then nI (nh + 1) else hI S b j := fun j => by
    show hI (wI S b 5 (nI (nh + 1))) b j = _
    by_cases e : j = 5
    · rw [if_pos e, e, hI_wI_self]
    · rw [if_neg e, hI_wI_j e]
  have xP : ∀ x, x ≠ a2 → hP (wP (wI S b 5 (nI (nh + 1))) a2 nh (some hd)) x = hP S x := fun x hx => by
    rw [hP_wP_ne hx]
    rfl
  have xa : ∀ i, hP (wP (wI S b 5 (nI (nh + 1))) a2 nh (some hd)) a2 i = if i = nh then some hd else hP S a2 i := fun i => by
    by_cases e : i = nh
    · rw [if_pos e, e, hP_wP_self]
    · rw [if_neg e, hP_wP_j e]
      rfl
  have x1 : (wP (wI S b 5 (nI (nh + 1))) a2 nh (some hd)).1 = S.1 := rfl
  generalize wP (wI S b 5 (nI (nh + 1))) a2 nh (some hd) = S2 at ea xI xb xP xa x1
  have hfb : FB b S S2 := ⟨Nat.le_of_eq (eqN x1).symm, fun x hx => ⟨eqK x1 x, eqL x1 x, xP x (by omega)⟩, fun x hx _ => xI x (by omega), fun j _ => by rw [xI 2 (by omega)]⟩
  have e2 : hI S2 2 = hI S 2 := xI 2 (by omega)
  have cb2 : CBM S2 b a0 a1 a2 nd nc (nh + 1) (hN S) := ⟨by rw [eqN x1]; omega, by rw [eqK x1]; exact kb, ⟨by rw [xb, if_neg (by decide)]; exact e3, by rw [xb, if_neg (by decide)]; exact e4, by rw [xb, if_pos rfl]⟩, by omega, ⟨by rw [xP b (by omega)]; exact p0, by rw [eqK x1]; exact ka, by rw [eqL x1]; exact la⟩, ⟨by rw [xP b (by omega)]; exact q0, by rw [eqK x1]; exact ka1, by rw [eqL x1]; exact la1⟩, ⟨by rw [xP b (by omega)]; exact r0, by rw [eqK x1]; exact ka2, by rw [eqL x1]; exact la2⟩⟩
  have fu : ∀ v, FU T (wI T 38 2 v) := fun v => ⟨rfl, rfl, fun a _ h38 => hI_wI_ne h38, fun j _ => by rw [hI_wI_ne (by decide)]⟩
  have e33 : ∀ v, hI (wI T 38 2 v) 33 = hI T 33 := fun v => hI_wI_ne (by decide)
  rcases hR.f0 with ⟨f1, f2⟩ | ⟨f1, f2, -⟩
  · obtain ⟨⟨β0, β1, β2⟩, hD, hCx, hH, hZ⟩ := hP0 f1
    have hhd := hh f1
    have yn : hI (wI T 38 2 (hI T 38 2 + 1)) 38 2 = nI (nh + 1) := by rw [hI_wI_self, β2, nI_1]
    have y38 : ∀ j, j ≠ 2 → hI (wI T 38 2 (hI T 38 2 + 1)) 38 j = hI T 38 j := fun j hj => hI_wI_j hj
    have ex : EX S S2 M b a2 := ⟨fun x _ => ⟨eqK x1 x, eqL x1 x⟩, fun x _ h1 _ => xI x h1, fun x _ h1 => xP x h1⟩
    have exN : EX S S2 (hN S) b a2 := ⟨fun x _ => ⟨eqK x1 x, eqL x1 x⟩, fun x _ h1 _ => xI x h1, fun x _ h1 => xP x h1⟩
    refine ⟨S2, wI T 38 2 (hI T 38 2 + 1), ea, if_pos f2, ⟨hR.fb hfb hm.1 e2 (fu _) (e33 _), cb2, fun _ => ⟨⟨by rw [y38 0 (by decide)]; exact β0, by rw [y38 1 (by decide)]; exact β1, yn⟩, ?_, ?_, ?_, fun i hz h4 => by rw [y38 _ (by omega)]; exact hZ i hz h4⟩⟩, hfb, fu _, e2⟩
    · exact hD.keep ex (by omega) (by rw [kb]; decide) (fun i hi => by rw [xP a0 (fun z => by rw [z, ka2] at ka; exact absurd ka (by decide))]) (fun i i3 h3 => y38 i (by omega))
    · exact hCx.keep ex (by omega) (by rw [kb]; decide) (fun i hi => by rw [xP a1 (fun z => by rw [z, ka2] at ka1; exact absurd ka1 (by decide))]) (fun i i3 h3 => y38 i (by omega))
    · intro i hi
      by_cases e : i = nh
      · subst e
        exact ⟨hd, ra, m, by rw [xa, if_pos rfl], hhd.keep exN (Nat.le_refl _) (by rw [kb]; decide) (by rw [ka2]; decide) (fun j h1 h2 => y38 j (by omega))⟩
      · obtain ⟨c, rc, mc, c1, c2⟩ := hH i (by omega)
        exact ⟨c, rc, mc, by rw [xa, if_neg e]; exact c1, c2.keep ex (by omega) (by rw [kb]; decide) (by rw [ka2]; decide) (fun j h1 h2 => y38 j (by omega))⟩
  · exact ⟨S2, wI T 38 2 (hI T 38 2 + 0), ea, if_neg f2, ⟨hR.fb hfb hm.1 e2 (fu _) (e33 _), cb2, fun y => absurd (by rw [e2] at y; exact y) f1⟩, hfb, fu _, e2⟩
theorem hand_loop {N : Nat} {B : Nat → Nat} {b a0 a1 a2 nd nc nh M hd ra : Nat} : ∀ (k F1 F2 i m : Nat) (S T : HS), RH S T N B b a0 a1 a2 nd nc nh M hd ra m → (hI S 2 2 = 0 → m = i) → i + k = 7 → k < F1 → k < F2 → ∃ S2 T2 M2, s_X10_readHand_L59 2 F1 S (some b) (some hd) (nI i) = some S2 ∧ s_X12_readHand_L22 33 F2 T (nI (31 + 25 * nh)) = some T2 ∧ RX S2 T2 N B b a0 a1 a2 nd nc (nh + 1) M2 (nh + 1) ∧ FB b S S2 ∧ FU T T2 := by
  -- the end of both
  have fin : ∀ (m F1 F2 : Nat) (i : Int32) (S T : HS), RH S T N B b a0 a1 a2 nd nc nh M hd ra m → (s_X10_readHand_L59 2 (F1 + 1) S (some b) (some hd) i = s_X10_readHand_b85 2 S (some b) (some hd)) → (∃ V, s_X12_word T 33 = some (V, T) ∧ ¬ V = wv 3) → ∃ S2 T2 M2, s_X10_readHand_L59 2 (F1 + 1) S (some b) (some hd) i = some S2 ∧ s_X12_readHand_L22 33 (F2 + 1) T (nI (31 + 25 * nh)) = some T2 ∧ RX S2 T2 N B b a0 a1 a2 nd nc (nh + 1) M2 (nh + 1) ∧ FB b S S2 ∧ FU T T2 := by
    intro m F1 F2 i S T h hc hw
    obtain ⟨V, v1, v2⟩ := hw
    have hM := h.1.1.2.1.1
    obtain ⟨S2, T2, a1', b1, c1, d1, e1, -⟩ := r_putHand h
    refine ⟨S2, T2, hN S, ?_, ?_, c1, d1, e1⟩
    · rw [hc]
      unfold s_X10_readHand_b85
      rw [kO_some h.1.2.1.b h.1.2.1.2.1, a1', kcv_some]
    · show s_X12_readHand_b22 _ 33 T (nI (31 + 25 * nh)) = _
      have eW : (2003330414 : Int64) = wv 3 := rfl
      unfold s_X12_readHand_b22
      rw [kO_m hM, v1, kc_some, eW, if_neg v2, kP_m6 hM, kA_m38 hM (i := 2) (k := 2) rfl (by decide), kI_m hM, kwA_m38 hM (i := 2) (k := 2) rfl (by decide), kwA_m38 hM (i := 2) (k := 2) rfl (by decide)]
      exact b1
  intro k
  induction k with
  | zero =>
    intro F1 F2 i m S T h hmi hi hF1 hF2
    obtain ⟨F1, rfl⟩ : ∃ z, F1 = z + 1 := ⟨F1 - 1, by omega⟩
    obtain ⟨F2, rfl⟩ : ∃ z, F2 = z + 1 := ⟨F2 - 1, by omega⟩
    have e7 : i = 7 := by omega
    have m6 := h.2.1.2.2.2.2.2
    obtain ⟨V, v1, v2⟩ := r_word h.1.1
    refine fin m F1 F2 (nI i) S T h ?_ ⟨V, v1, fun q => ?_⟩
    · show s_X10_readHand_b59 _ 2 S (some b) (some hd) (nI i) = _
      unfold s_X10_readHand_b59
      rw [e7, if_pos (by decide)]
    · have := hmi ((v2 3 (by decide)).2 q).1
      omega
  | succ k ih =>
    intro F1 F2 i m S T h hmi hi hF1 hF2
    obtain ⟨F1, rfl⟩ : ∃ z, F1 = z + 1 := ⟨F1 - 1, by omega⟩
    obtain ⟨F2, rfl⟩ : ∃ z, F2 = z + 1 := ⟨F2 - 1, by omega⟩
    have hC := h.1.1.1.1
    have hM := h.1.1.2.1.1
    obtain ⟨V, v1, v2⟩ := r_word h.1.1
    have ng : ¬ (6 : Int32) < nI i := fun z => by
      have := i32_lt.mp z
      rw [nI_toInt (by omega), show (6 : Int32).toInt = 6 from rfl] at this
      omega
    have st := (v2 3 (by decide)).1
    have c59 : s_X10_readHand_L59 2 (F1 + 1) S (some b) (some hd) (nI i) = (if V = wv 3 then kcv (s_X10_readRule S 2 (some hd)) (fun S4 => s_X10_readHand_L59 2 F1 S4 (some b) (some hd) (nI (i + 1))) else s_X10_readHand_b85 2 S (some b) (some hd)) := by
      show s_X10_readHand_b59 _ 2 S (some b) (some hd) (nI i) = _
      unfold s_X10_readHand_b59
      rw [if_neg ng, kO_c2 hC, st, kc_some, kO_c2 hC, nI_1]
      by_cases z : V = wv 3
      · rw [if_pos z, if_pos z, if_neg (by decide)]
      · rw [if_neg z, if_neg z, if_pos rfl]
    by_cases z : V = wv 3
    · obtain ⟨y1, y2, y3⟩ := (v2 3 (by decide)).2 z
      rw [if_pos z] at st
      obtain ⟨S1, T1, m1, a1', b1, c1, d1, e1, g1⟩ := r_rule h st y1 y2
      obtain ⟨S2, T2, M2, i1, i2, i3, i4, i5⟩ := ih F1 F2 (i + 1) m1 S1 T1 c1 (fun q => by
        have q1 := g1 q
        have q2 := hmi y1
        omega) (by omega) (by omega) (by omega)
      have hbM : b ≤ M := by have := h.1.2.1.1; omega
      have d1b : FB b S S1 := ⟨d1.1, fun x hx => d1.2.1 x (by omega), fun x hx h2 => d1.2.2.1 x (by omega) h2, d1.2.2.2⟩
      refine ⟨S2, T2, M2, ?_, ?_, i3, d1b.tr i4, e1.tr i5⟩
      · rw [c59, if_pos z, a1', kcv_some]
        exact i1
      · show s_X12_readHand_b22 _ 33 T (nI (31 + 25 * nh)) = _
        have eW : (2003330414 : Int64) = wv 3 := rfl
        unfold s_X12_readHand_b22
        rw [kO_m hM, v1, kc_some, eW, if_pos z, kO_m hM, b1, kcv_some]
        exact i2
    · exact fin m F1 F2 (nI i) S T h (c59.trans (if_neg z)) ⟨V, v1, z⟩
theorem r_hand {S T : HS} {N : Nat} {B : Nat → Nat} {b a0 a1 a2 nd nc nh M : Nat} (h : RX S T N B b a0 a1 a2 nd nc nh M nh) (st : s_X10_stands S 2 2 = some (1, S)) (f0 : hI S 2 2 = 0) (s1 : hI S 2 4 = 1) : ∃ S2 T2 nh2 M2, s_X10_readHand S 2 (some b) = some S2 ∧ s_X12_readHand T 33 = some T2 ∧ RX S2 T2 N B b a0 a1 a2 nd nc nh2 M2 nh2 ∧ FB b S S2 ∧ FU T T2 ∧ (hI S2 2 2 = 0 → nh2 = nh + 1) := by
  have hC := h.1.1.1
  have hM := h.1.2.1.1
  obtain ⟨⟨-, -, β2⟩, -⟩ := h.2.2 f0
  obtain ⟨hm, kb, ⟨-, -, e5⟩, ⟨-, -, n4⟩, -⟩ := id h.2.1
  obtain ⟨S1, T1, a1', b1, c1, d1, e1, g1⟩ := r_begin h.1 f0 s1 (i := 2) (k := 2) rfl (by decide) β2 n4
  obtain ⟨S3, T3, a3', b3, c3, d3, e3, g3⟩ := r_end c1
  have h3 : RX S3 T3 N B b a0 a1 a2 nd nc nh M nh := h.op c3 (d1.tr d3) (e1.tr e3) (fun _ => f0)
  have cA : s_X10_readHand S 2 (some b) = (if hI S3 2 2 = 0 then kcv (s_X5_init (wN S3 5 0) (hN S3)) (fun S6 => s_X10_readHand_L59 2 8 S6 (some b) (some (hN S3)) 0) else some S3) := by
    have e20 : (if 4 ≤ nI nh then (s_X10_readHand_b20 2 S (some b) (some 2) 1 0) else (s_X10_readHand_b20 2 S (some b) (some 2) 1 1)) = s_X10_readHand_b20 2 S (some b) (some 2) 1 (if 4 ≤ nI nh then 0 else 1) := by split <;> rfl
    have e37 : (if hI S1 2 4 = 3 then (s_X10_readHand_b37 2 S1 (some b) (some 2) 1) else (s_X10_readHand_b37 2 S1 (some b) (some 2) 0)) = s_X10_readHand_b37 2 S1 (some b) (some 2) (if hI S1 2 4 = 3 then 1 else 0) := by split <;> rfl
    have n1 : hN S3 < hN (wN S3 5 0) := Nat.lt_succ_self _
    have k1 : hK (wN S3 5 0) (hN S3) = 5 := by rw [hK_wN, if_pos rfl]
    unfold s_X10_readHand
    rw [kO_c2 hC, st, kc_some, kI_some h.2.1.b kb, e5, e20]
    unfold s_X10_readHand_b20
    rw [kO_c2 hC, a1', kcv_some, kI_c2 c1.1.1, e37]
    unfold s_X10_readHand_b37
    rw [kO_c2 c1.1.1, a3', kcv_some, kI_c2 c3.1.1]
    by_cases z : hI S3 2 2 = 0
    · rw [if_pos z, if_pos z]
      rw [knew_eq, kO_some n1 k1]
    · rw [if_neg z, if_neg z]
  have mA : s_X12_readHand T 33 = s_X12_readHand_L22 33 100000 T3 (31 + 25 * hI T1 38 2) := by
    unfold s_X12_readHand
    rw [kO_m hM, b1, kcv_some, kP_m6 c1.2.1.1, kA_m38 c1.2.1.1 (i := 2) (k := 2) rfl (by decide), kO_m c1.2.1.1, b3, kcv_some]
  rcases c3.f0 with ⟨f1, f2⟩ | ⟨f1, f2, -⟩
  · have hn := g1 (g3 f1)
    obtain ⟨r1, r2⟩ := r_newHand h3 hn
    obtain ⟨S2, T2, M2, i1, i2, i3, i4, i5⟩ := hand_loop 7 8 100000 0 0 (nwH S3) T3 r1 (fun _ => rfl) (by decide) (by decide) (by decide)
    have hbM : b ≤ M := by omega
    have r2b : FB b S3 (nwH S3) := ⟨r2.1, fun x hx => r2.2.1 x (by omega), fun x hx h2 => r2.2.2.1 x (by omega) h2, r2.2.2.2⟩
    have e38 : (31 : Int32) + 25 * hI T1 38 2 = nI (31 + 25 * nh) := by
      rw [e1.2.2.1 38 (by decide), β2, show (31 : Int32) = nI 31 from rfl, show (25 : Int32) = nI 25 from rfl, nI_mul, nI_add]
    refine ⟨S2, T2, nh + 1, M2, ?_, ?_, i3, (((d1.tr d3).fb b).tr r2b).tr i4, (e1.tr e3).fu.tr i5, fun _ => rfl⟩
    · rw [cA, if_pos f1, c_newHand, kcv_some]
      exact i1
    · rw [mA, e38]
      exact i2
  · obtain ⟨V, v1, v2⟩ := r_word c3
    have nv : ¬ V = wv 3 := fun q => f1 ((v2 3 (by decide)).2 q).1
    refine ⟨S3, T3, nh, M, cA.trans (if_neg f1), ?_, h3, (d1.tr d3).fb b, (e1.tr e3).fu, fun z => absurd z f1⟩
    rw [mA]
    show s_X12_readHand_b22 _ 33 T3 _ = _
    have eW : (2003330414 : Int64) = wv 3 := rfl
    unfold s_X12_readHand_b22
    rw [kO_m c3.2.1.1, v1, kc_some, eW, if_neg nv, kP_m6 c3.2.1.1, kA_m38 c3.2.1.1 (i := 2) (k := 2) rfl (by decide), kI_m c3.2.1.1, if_neg f2, kwA_m38 c3.2.1.1 (i := 2) (k := 2) rfl (by decide), Int32.add_zero, wI_self rfl]
