/-! ===== numbers ===== -/
theorem i32_of {x : Int32} {n : Nat} (h : x.toInt = (n : Int)) (hn : n < 2 ^ 31) : x = nI n := Int32.toInt_inj.mp (by rw [h, nI_toInt hn])
theorem i32_add {a b : Int32} (h1 : -2147483648 ≤ a.toInt + b.toInt) (h2 : a.toInt + b.toInt < 2147483648) : (a + b).toInt = a.toInt + b.toInt := by
  rw [Int32.toInt_add, Int.bmod_eq_of_le (by omega) (by omega)]
theorem i32_sub {a b : Int32} (h1 : -2147483648 ≤ a.toInt - b.toInt) (h2 : a.toInt - b.toInt < 2147483648) : (a - b).toInt = a.toInt - b.toInt := by
  rw [Int32.toInt_sub, Int.bmod_eq_of_le (by omega) (by omega)]
theorem i32_neg {a : Int32} (h1 : -2147483648 < a.toInt) : (-a).toInt = -a.toInt := by
  have h2 := Int32.toInt_lt a
  rw [Int32.toInt_neg, Int.bmod_eq_of_le (by omega) (by omega)]
theorem i32_0 : (0 : Int32).toInt = 0 := rfl
theorem i32_le {a b : Int32} : a ≤ b ↔ a.toInt ≤ b.toInt := Int32.le_iff_toInt_le
theorem i32_lt {a b : Int32} : a < b ↔ a.toInt < b.toInt := Int32.lt_iff_toInt_lt
theorem i32_eq {a b : Int32} : a = b ↔ a.toInt = b.toInt := Int32.toInt_inj.symm
theorem i64_le {a b : Int64} : a ≤ b ↔ a.toInt ≤ b.toInt := Int64.le_iff_toInt_le
theorem i64_lt {a b : Int64} : a < b ↔ a.toInt < b.toInt := Int64.lt_iff_toInt_lt
theorem i32_rng (a : Int32) : -2147483648 ≤ a.toInt ∧ a.toInt < 2147483648 := ⟨by have := Int32.le_toInt a; omega, by have := Int32.toInt_lt a; omega⟩
/-! ===== SHORT, SLOPE ===== -/
def fsz (v : Int32) : Int32 := if 0 ≤ v then v else -v
def fSB (th w : Int32) : Int32 := ((w * w) * th) / 1000
def fSh (th tw w : Int32) : Int32 := if tw < w then fSB th tw + ((w - tw) * ((2 * (fSB th tw - fSB th (tw - 1))) + 1)) else fSB th w
def fSl (th tw w : Int32) : Int32 := if w = 0 then 0 else fSh th tw w - fSh th tw (w - 1)
def shB (a n : Nat) : Nat := n * n * a / 1000
def shN (a tw n : Nat) : Nat := if tw < n then shB a tw + (n - tw) * (2 * (shB a tw - shB a (tw - 1)) + 1) else shB a n
def slN (a tw n : Nat) : Nat := if n = 0 then 0 else shN a tw n - shN a tw (n - 1)
theorem shB_mono {a n m : Nat} (h : n ≤ m) : shB a n ≤ shB a m := Nat.div_le_div_right (Nat.mul_le_mul_right _ (Nat.mul_le_mul h h))
theorem sq_bound {a n : Nat} (ha : a ≤ 99) (hn : n ≤ 800) : n * n * a ≤ 63360000 := by
  have h1 : n * n ≤ 800 * 800 := Nat.mul_le_mul hn hn
  have h2 : n * n * a ≤ 800 * 800 * 99 := Nat.mul_le_mul h1 ha
  omega
theorem shB_step {a n : Nat} (ha : a ≤ 99) (hn : n < 400) : shB a (n + 1) ≤ shB a n + 80 := by
  unfold shB
  have e : (n + 1) * (n + 1) * a = n * n * a + (2 * n + 1) * a := by
    rw [show (n + 1) * (n + 1) = n * n + (2 * n + 1) by rw [Nat.add_mul, Nat.mul_add]; omega, Nat.add_mul]
  have h2 : (2 * n + 1) * a ≤ 799 * 99 := Nat.mul_le_mul (by omega) ha
  rw [e]
  omega
theorem shB_le {a n : Nat} (ha : a ≤ 99) (hn : n ≤ 400) : shB a n ≤ 15840 := by
  unfold shB
  have h1 : n * n * a ≤ 400 * 400 * 99 := Nat.mul_le_mul (Nat.mul_le_mul hn hn) ha
  omega
theorem shN_step {a tw n : Nat} (ha : a ≤ 99) (ht0 : 1 ≤ tw) (ht : tw ≤ 400) : shN a tw n ≤ shN a tw (n + 1) ∧ shN a tw (n + 1) ≤ shN a tw n + 161 := by
  obtain ⟨t, rfl⟩ : ∃ t, tw = t + 1 := ⟨tw - 1, by omega⟩
  have h1 := shB_step (a := a) (n := t) ha (by omega)
  have h2 : shB a t ≤ shB a (t + 1) := shB_mono (by omega)
  unfold shN
  rw [show t + 1 - 1 = t by omega]
  by_cases c1 : t + 1 < n
  · rw [if_pos c1, if_pos (by omega), show n + 1 - (t + 1) = (n - (t + 1)) + 1 by omega, Nat.add_mul]
    omega
  · by_cases c2 : n = t + 1
    · rw [if_neg c1, if_pos (by omega), c2, show t + 1 + 1 - (t + 1) = 1 by omega]
      omega
    · have h3 := shB_step (a := a) (n := n) ha (by omega)
      have h4 : shB a n ≤ shB a (n + 1) := shB_mono (by omega)
      rw [if_neg c1, if_neg (by omega)]
      omega
theorem shN_le {a tw n : Nat} (ha : a ≤ 99) (ht0 : 1 ≤ tw) (ht : tw ≤ 400) : shN a tw n ≤ 161 * n := by
  induction n with
  | zero =>
    unfold shN shB
    rw [if_neg (by omega)]
    simp
  | succ n ih =>
    have := (shN_step (n := n) ha ht0 ht).2
    omega
theorem slN_le {a tw n : Nat} (ha : a ≤ 99) (ht0 : 1 ≤ tw) (ht : tw ≤ 400) : slN a tw n ≤ 161 := by
  unfold slN
  split
  · omega
  · next h =>
    have h1 := shN_step (n := n - 1) ha ht0 ht
    rw [show n - 1 + 1 = n by omega] at h1
    omega
theorem nI_mul (a b : Nat) : nI a * nI b = nI (a * b) := pk_mul a b
theorem nI_sub {a b : Nat} (h : b ≤ a) : nI a - nI b = nI (a - b) := pk_sub h
theorem fSB_n {a n : Nat} (ha : a ≤ 99) (hn : n ≤ 800) : fSB (nI a) (nI n) = nI (shB a n) := by
  unfold fSB shB
  have h := sq_bound ha hn
  rw [nI_mul, nI_mul, show (1000 : Int32) = nI 1000 from rfl, pk_div (by omega) (by decide) (by decide)]
theorem fSh_n {a tw n : Nat} (ha : a ≤ 99) (ht0 : 1 ≤ tw) (ht : tw ≤ 400) (hn : n ≤ 800) : fSh (nI a) (nI tw) (nI n) = nI (shN a tw n) := by
  unfold fSh shN
  by_cases c : tw < n
  · rw [if_pos (nI_lt c (by omega)), if_pos c, fSB_n ha (by omega), show (1 : Int32) = nI 1 from rfl, show (2 : Int32) = nI 2 from rfl, nI_sub ht0, fSB_n ha (by omega), nI_sub (shB_mono (by omega)), nI_mul, nI_add, nI_sub (by omega), nI_mul, nI_add]
  · rw [if_neg (nI_nlt (by omega) (by omega)), if_neg c, fSB_n ha hn]
theorem fSl_n {a tw n : Nat} (ha : a ≤ 99) (ht0 : 1 ≤ tw) (ht : tw ≤ 400) (hn : n ≤ 800) : fSl (nI a) (nI tw) (nI n) = nI (slN a tw n) := by
  unfold fSl slN
  by_cases c : n = 0
  · subst c
    rfl
  · rw [if_neg (nI_ne0 (by omega) (by omega)), if_neg c, fSh_n ha ht0 ht hn, show (1 : Int32) = nI 1 from rfl, nI_sub (by omega), fSh_n ha ht0 ht (by omega)]
    have h1 := (shN_step (n := n - 1) ha ht0 ht).1
    rw [show n - 1 + 1 = n by omega] at h1
    exact nI_sub h1
theorem fsz_n {t : Int32} (h : -2147483648 < t.toInt) : fsz t = nI t.toInt.natAbs := by
  have h2 := (i32_rng t).2
  unfold fsz
  by_cases c : 0 ≤ t
  · rw [if_pos c]
    have c2 := i32_le.mp c
    rw [i32_0] at c2
    exact i32_of (by omega) (by omega)
  · rw [if_neg c]
    have c2 : ¬ (0 : Int32).toInt ≤ t.toInt := fun q => c (i32_le.mpr q)
    rw [i32_0] at c2
    exact i32_of (by rw [i32_neg h]; omega) (by omega)
theorem fabs_sz (t : Int32) : fabs t = fsz t := by
  unfold fabs fsz
  split
  · rfl
  · rw [Int32.zero_sub]
/-! ===== a TICK ===== -/
def tkPush (w th tw f t : Int32) : Int32 := ((f * fSl th tw (fsz t)) * 10) / w
def tkV (w th tw f t v : Int32) : Int32 := if t ≤ 0 then (if 0 ≤ t then v else v + tkPush w th tw f t) else v - tkPush w th tw f t
def tkA (air x : Int32) : Int64 := (fsz x).toInt64 - ((fsz x).toInt64 * (fsz x).toInt64 / 1000 * air.toInt64) / 100
def tkL (air lamp x : Int32) : Int64 := if lamp.toInt64 ≤ tkA air x then tkA air x - lamp.toInt64 else 0
def tkSp (air lamp x : Int32) : Int32 := (tkL air lamp x).toInt32
def tkPc (air lamp x : Int32) : Int32 := if 0 ≤ x then (tkL air lamp x).toInt32 else (-(tkL air lamp x)).toInt32
/-- pace without its sign, behind the air, less what a lamp takes -/
def spN (c p s : Nat) : Nat := s - s * s / 1000 * c / 100 - p
theorem lN_toI {a : Nat} (h : a < 2 ^ 63) : (lN a).toInt = (a : Int) := pk_lT h
theorem i64_of {x : Int64} {n : Nat} (h : x.toInt = (n : Int)) (hn : n < 2 ^ 63) : x = lN n := Int64.toInt_inj.mp (by rw [h, lN_toI hn])
theorem lN_subI {a b : Nat} (ha : a < 2 ^ 62) (hb : b < 2 ^ 62) : (lN a - lN b).toInt = (a : Int) - b := by
  rw [Int64.toInt_sub, lN_toI (by omega), lN_toI (by omega), Int.bmod_eq_of_le (by omega) (by omega)]
theorem air_bd {c s : Nat} (hs : s ≤ 1000000) (hc : c ≤ 99) : s * s ≤ 1000000000000 ∧ s * s / 1000 * c ≤ 99000000000 := by
  have h1 : s * s ≤ 1000000 * 1000000 := Nat.mul_le_mul hs hs
  have h2 : s * s / 1000 ≤ 1000000000 := by omega
  have h3 : s * s / 1000 * c ≤ 1000000000 * 99 := Nat.mul_le_mul h2 hc
  omega
theorem tkA_n {c : Nat} {x : Int32} (hx : x.toInt.natAbs ≤ 1000000) (hc : c ≤ 99) : tkA (nI c) x = lN x.toInt.natAbs - lN (x.toInt.natAbs * x.toInt.natAbs / 1000 * c / 100) := by
  obtain ⟨h1, h2⟩ := air_bd hx hc
  unfold tkA
  rw [fsz_n (by omega), nI_l (by omega), nI_l (by omega), lN_mul, show (1000 : Int64) = lN 1000 from rfl, pk_lDiv (by omega) (by decide) (by decide), lN_mul, show (100 : Int64) = lN 100 from rfl, pk_lDiv (by omega) (by decide) (by decide)]
theorem tkL_n {c p : Nat} {x : Int32} (hx : x.toInt.natAbs ≤ 1000000) (hc : c ≤ 99) (hp : p ≤ 50) : tkL (nI c) (nI p) x = lN (spN c p x.toInt.natAbs) := by
  obtain ⟨h1, h2⟩ := air_bd hx hc
  unfold tkL spN
  rw [tkA_n hx hc, nI_l (by omega)]
  have h3 := lN_subI (a := x.toInt.natAbs) (b := x.toInt.natAbs * x.toInt.natAbs / 1000 * c / 100) (by omega) (by omega)
  have h4 : (lN p).toInt = (p : Int) := lN_toI (by omega)
  by_cases q : lN p ≤ lN x.toInt.natAbs - lN (x.toInt.natAbs * x.toInt.natAbs / 1000 * c / 100)
  · rw [if_pos q]
    have q2 := i64_le.mp q
    rw [h3, h4] at q2
    refine i64_of ?_ (by omega)
    rw [Int64.toInt_sub, h3, h4, Int.bmod_eq_of_le (by omega) (by omega)]
    omega
  · rw [if_neg q]
    have q2 : ¬ (lN p).toInt ≤ (lN x.toInt.natAbs - lN (x.toInt.natAbs * x.toInt.natAbs / 1000 * c / 100)).toInt := fun z => q (i64_le.mpr z)
    rw [h3, h4] at q2
    refine i64_of (n := _) ?_ (by omega)
    show (0 : Int) = _
    omega
theorem spN_le (c p s : Nat) : spN c p s ≤ s := by unfold spN; omega
theorem tkSp_n {c p : Nat} {x : Int32} (hx : x.toInt.natAbs ≤ 1000000) (hc : c ≤ 99) (hp : p ≤ 50) : tkSp (nI c) (nI p) x = nI (spN c p x.toInt.natAbs) := by
  unfold tkSp
  rw [tkL_n hx hc hp, lN_i]
theorem lN_negI (n : Nat) : (-(lN n)).toInt32 = -(nI n) := by
  rw [← lN_i]
  exact Int64.toInt32_neg _
theorem tkPc_n {c p : Nat} {x : Int32} (hx : x.toInt.natAbs ≤ 1000000) (hc : c ≤ 99) (hp : p ≤ 50) : tkPc (nI c) (nI p) x = if 0 ≤ x then nI (spN c p x.toInt.natAbs) else -(nI (spN c p x.toInt.natAbs)) := by
  unfold tkPc
  rw [tkL_n hx hc hp, lN_i, lN_negI]
theorem tkPc_I {c p : Nat} {x : Int32} (hx : x.toInt.natAbs ≤ 1000000) (hc : c ≤ 99) (hp : p ≤ 50) : (tkPc (nI c) (nI p) x).toInt.natAbs = spN c p x.toInt.natAbs ∧ (tkPc (nI c) (nI p) x).toInt.natAbs ≤ x.toInt.natAbs := by
  have h1 := spN_le c p x.toInt.natAbs
  rw [tkPc_n hx hc hp]
  have h2 : (nI (spN c p x.toInt.natAbs)).toInt = (spN c p x.toInt.natAbs : Int) := nI_toInt (by omega)
  split
  · rw [h2]; omega
  · rw [i32_neg (by omega), h2]; omega
/-! what a DISC, a THREAD may be -/
def DOK (w air te : Int32) : Prop := ∃ W C T : Nat, w = nI W ∧ air = nI C ∧ te = nI T ∧ 1 ≤ W ∧ W ≤ 999 ∧ C ≤ 99 ∧ 1 ≤ T ∧ T ≤ 60
def COK (th tw mo sn : Int32) : Prop := ∃ A B M N : Nat, th = nI A ∧ tw = nI B ∧ mo = nI M ∧ sn = nI N ∧ 1 ≤ A ∧ A ≤ 99 ∧ 1 ≤ B ∧ B ≤ 400 ∧ B ≤ M ∧ M ≤ 800 ∧ 1 ≤ N ∧ N ≤ 999
/-- turns and pace that a RUN may have -/
def TOK (mo t v : Int32) : Prop := (t.toInt.natAbs : Int) ≤ mo.toInt ∧ v.toInt.natAbs ≤ 1600
theorem tkPush_n {W A B F : Nat} {t : Int32} (hW : 1 ≤ W) (hW2 : W ≤ 999) (hA : A ≤ 99) (hB : 1 ≤ B) (hB2 : B ≤ 400) (hF : F ≤ 99) (ht : t.toInt.natAbs ≤ 800) : tkPush (nI W) (nI A) (nI B) (nI F) t = nI (F * slN A B t.toInt.natAbs * 10 / W) ∧ F * slN A B t.toInt.natAbs * 10 / W ≤ 159390 := by
  have h1 : slN A B t.toInt.natAbs ≤ 161 := slN_le hA hB hB2
  have h2 : F * slN A B t.toInt.natAbs ≤ 99 * 161 := Nat.mul_le_mul hF h1
  have h3 : F * slN A B t.toInt.natAbs * 10 / W ≤ F * slN A B t.toInt.natAbs * 10 := Nat.div_le_self _ _
  refine ⟨?_, by omega⟩
  unfold tkPush
  rw [fsz_n (by omega), fSl_n hA hB hB2 ht, nI_mul, show (10 : Int32) = nI 10 from rfl, nI_mul, pk_div (by omega) (by omega) (by omega)]
theorem tkV_bd {w air te th tw mo sn f t v : Int32} (hd : DOK w air te) (hc : COK th tw mo sn) {F : Nat} (hf : f = nI F) (hF : F ≤ 99) (ht : TOK mo t v) : (tkV w th tw f t v).toInt.natAbs ≤ 161000 ∧ (tkPush w th tw f t).toInt.natAbs ≤ 159390 := by
  obtain ⟨W, C, T, rfl, rfl, rfl, hW, hW2, hC, hT, hT2⟩ := hd
  obtain ⟨A, B, M, N, rfl, rfl, rfl, rfl, hA, hA2, hB, hB2, hBM, hM, hN1, hN2⟩ := hc
  subst hf
  have hm : (nI M).toInt = (M : Int) := nI_toInt (by omega)
  obtain ⟨h1, h2⟩ := ht
  rw [hm] at h1
  obtain ⟨p1, p2⟩ := tkPush_n (F := F) (t := t) hW hW2 hA2 hB hB2 hF (by omega)
  generalize F * slN A B t.toInt.natAbs * 10 / W = P at p1 p2
  have h3 : (tkPush (nI W) (nI A) (nI B) (nI F) t).toInt = (P : Int) := by rw [p1]; exact nI_toInt (by omega)
  refine ⟨?_, by omega⟩
  unfold tkV
  split
  · split
    · omega
    · rw [i32_add (by omega) (by omega)]; omega
  · rw [i32_sub (by omega) (by omega)]; omega

/-! the same, as the class has it -/
def csSl (th tw w : Int32) : Int32 := if 0 < w then fSh th tw w - fSh th tw (w - 1) else 0
theorem csSl_eq {th tw t : Int32} (h : -2147483648 < t.toInt) : csSl th tw (fabs t) = fSl th tw (fsz t) := by
  rw [fabs_sz, fsz_n h]
  unfold csSl fSl
  have h2 := (i32_rng t).2
  by_cases c : t.toInt.natAbs = 0
  · rw [c]
    rfl
  · rw [if_pos (show (0 : Int32) < nI t.toInt.natAbs from nI_lt (a := 0) (by omega) (by omega)), if_neg (nI_ne0 (by omega) (by omega))]
/-- what behindAir answers -/
def csAir (air x : Int32) : Int32 := (flmax 0 (x.toInt64 - (x.toInt64 * x.toInt64 / 1000 * air.toInt64) / 100)).toInt32
theorem csAir_n {c : Nat} {x : Int32} (hx : x.toInt.natAbs ≤ 1000000) (hc : c ≤ 99) : csAir (nI c) (fabs x) = nI (spN c 0 x.toInt.natAbs) := by
  obtain ⟨h1, h2⟩ := air_bd hx hc
  have e := tkA_n hx hc
  unfold tkA at e
  unfold csAir spN
  rw [fabs_sz, e]
  have h3 := lN_subI (a := x.toInt.natAbs) (b := x.toInt.natAbs * x.toInt.natAbs / 1000 * c / 100) (by omega) (by omega)
  unfold flmax
  by_cases q : lN x.toInt.natAbs - lN (x.toInt.natAbs * x.toInt.natAbs / 1000 * c / 100) < 0
  · rw [if_pos q]
    have q2 := i64_lt.mp q
    rw [h3, show (0 : Int64).toInt = 0 from rfl] at q2
    rw [show x.toInt.natAbs - x.toInt.natAbs * x.toInt.natAbs / 1000 * c / 100 - 0 = 0 by omega]
    rfl
  · rw [if_neg q]
    have q2 : ¬ _ := fun z => q (i64_lt.mpr z)
    rw [h3, show (0 : Int64).toInt = 0 from rfl] at q2
    rw [show lN x.toInt.natAbs - lN (x.toInt.natAbs * x.toInt.natAbs / 1000 * c / 100) = lN (x.toInt.natAbs - x.toInt.natAbs * x.toInt.natAbs / 1000 * c / 100) from lN_sub (by omega), lN_i]
    rfl
theorem csSp_eq {c p : Nat} {x : Int32} (hx : x.toInt.natAbs ≤ 1000000) (hc : c ≤ 99) (hp : p ≤ 50) : fmax 0 (csAir (nI c) (fabs x) - nI p) = tkSp (nI c) (nI p) x := by
  rw [csAir_n hx hc, tkSp_n hx hc hp]
  have h1 := spN_le c 0 x.toInt.natAbs
  have e : spN c p x.toInt.natAbs = spN c 0 x.toInt.natAbs - p := by unfold spN; omega
  rw [e]
  generalize spN c 0 x.toInt.natAbs = A at h1
  have hA : (nI A).toInt = (A : Int) := nI_toInt (by omega)
  have hp2 : (nI p).toInt = (p : Int) := nI_toInt (by omega)
  have hd : (nI A - nI p).toInt = (A : Int) - p := by rw [i32_sub (by omega) (by omega)]; omega
  unfold fmax
  by_cases q : (0 : Int32) < nI A - nI p
  · rw [if_pos q]
    have q2 := i32_lt.mp q
    rw [hd, i32_0] at q2
    exact i32_of (by omega) (by omega)
  · rw [if_neg q]
    have q2 : ¬ _ := fun z => q (i32_lt.mpr z)
    rw [hd, i32_0] at q2
    rw [show A - p = 0 by omega]
    rfl
theorem csPc_eq {c p : Nat} {x : Int32} (hx : x.toInt.natAbs ≤ 1000000) (hc : c ≤ 99) (hp : p ≤ 50) : (if 0 ≤ x then tkSp (nI c) (nI p) x else -(tkSp (nI c) (nI p) x)) = tkPc (nI c) (nI p) x := by
  rw [tkSp_n hx hc hp, tkPc_n hx hc hp]
