/-! ===== the reference's small methods ===== -/
def rup (f : Nat → Int32) (j : Nat) (v : Int32) : Nat → Int32 := fun b => if b = j then v else f b
theorem HS_ext {S T : HS} (h1 : S.1 = T.1) (h2 : ∀ a b, hI S a b = hI T a b) (h3 : ∀ a b, hP S a b = hP T a b) : S = T := by
  obtain ⟨s1, s2, s3⟩ := S
  obtain ⟨t1, t2, t3⟩ := T
  have e1 : s1 = t1 := h1
  have e2 : s2 = t2 := funext fun a => funext fun b => h2 a b
  have e3 : s3 = t3 := funext fun a => funext fun b => h3 a b
  rw [e1, e2, e3]
theorem wI_wC (S : HS) (c j : Nat) (v : Int32) : wI S c j v = wC S c (rup (hI S c) j v) := by
  refine HS_ext rfl (fun a b => ?_) (fun _ _ => rfl)
  rw [hI_wI, hI_wC]
  unfold rup
  by_cases h : a = c
  · subst h
    simp
  · simp [h]
theorem wC_wC (S : HS) (c : Nat) (f g : Nat → Int32) : wC (wC S c f) c g = wC S c g := by
  refine HS_ext rfl (fun a b => ?_) (fun _ _ => rfl)
  rw [hI_wC, hI_wC, hI_wC]
  split <;> rfl
theorem hI_wC_self (S : HS) (c : Nat) (f : Nat → Int32) : hI (wC S c f) c = f := funext fun b => by rw [hI_wC, if_pos rfl]
theorem hI_wC_ne {S : HS} {c a : Nat} {f : Nat → Int32} (h : a ≠ c) : hI (wC S c f) a = hI S a := funext fun b => by rw [hI_wC, if_neg h]
theorem wC_self (S : HS) (c : Nat) : wC S c (hI S c) = S := by
  refine HS_ext rfl (fun a b => ?_) (fun _ _ => rfl)
  rw [hI_wC]
  split
  · next h => rw [h]
  · rfl
theorem rup_self (f : Nat → Int32) (j : Nat) (v : Int32) : rup f j v j = v := if_pos rfl
theorem rup_ne {f : Nat → Int32} {j k : Nat} {v : Int32} (h : k ≠ j) : rup f j v k = f k := if_neg h
section L2B
variable {S : HS}
theorem m_threadOf (h : LM S) {k j : Nat} {l1 l2 : Int32} (h1 : l1 = nI k) (h2 : l2 = nI j) (hk : k < 4) (hj : j < 4) : s_X12_threadOf S 33 l1 l2 = some (hI S 37 (15 + 4 * k + j), S) := by
  unfold s_X12_threadOf
  rw [kP_m5 h, kA_m37 h (k := 15 + 4 * k + j) (by rw [h1, h2, show (15 : Int32) = nI 15 from rfl, show (4 : Int32) = nI 4 from rfl, nI_mul, nI_add, nI_add]) (by omega)]
theorem m_discOf (h : LM S) {k j : Nat} {l1 l2 : Int32} (h1 : l1 = nI k) (h2 : l2 = nI j) (hk : k < 4) (hj : j < 3) : s_X12_discOf S 33 l1 l2 = some (hI S 37 (3 + 3 * k + j), S) := by
  unfold s_X12_discOf
  rw [kP_m5 h, kA_m37 h (k := 3 + 3 * k + j) (by rw [h1, h2, show (3 : Int32) = nI 3 from rfl, nI_mul, nI_add, nI_add]) (by omega)]
theorem m_plainShort (h : LM S) {k : Nat} {l1 w : Int32} (h1 : l1 = nI k) (hk : k < 4) : s_X12_plainShort S 33 l1 w = some (fSB (hI S 37 (15 + 4 * k)) w, S) := by
  unfold s_X12_plainShort
  rw [kO_m h, m_threadOf h h1 (l2 := 0) (j := 0) rfl hk (by decide), kc_some, kdiv_ne (by decide)]
  rfl
theorem m_shortOf (h : LM S) {k : Nat} {l1 w : Int32} (h1 : l1 = nI k) (hk : k < 4) : s_X12_shortOf S 33 l1 w = some (fSh (hI S 37 (15 + 4 * k)) (hI S 37 (15 + 4 * k + 1)) w, S) := by
  unfold s_X12_shortOf fSh
  rw [kO_m h, m_threadOf h h1 (l2 := 1) (j := 1) rfl hk (by decide), kc_some]
  split
  · rw [kO_m h, m_plainShort h h1 hk, kc_some, kO_m h, m_plainShort h h1 hk, kc_some, kO_m h, m_plainShort h h1 hk, kc_some]
  · rw [kO_m h, m_plainShort h h1 hk, kc_some]
theorem m_slopeOf (h : LM S) {k : Nat} {l1 w : Int32} (h1 : l1 = nI k) (hk : k < 4) : s_X12_slopeOf S 33 l1 w = some (fSl (hI S 37 (15 + 4 * k)) (hI S 37 (15 + 4 * k + 1)) w, S) := by
  unfold s_X12_slopeOf fSl
  split
  · rfl
  · rw [kO_m h, m_shortOf h h1 hk, kc_some, kO_m h, m_shortOf h h1 hk, kc_some]
theorem m_size (v : Int32) : s_X12_size S v = some (fsz v, S) := by
  unfold s_X12_size fsz
  split <;> rfl
theorem m_rest (h : LM S) (t : Int32) : s_X12_rest S 33 t = some (wC S 33 (rup (rup (rup (hI S 33) 19 t) 20 0) 21 0)) := by
  unfold s_X12_rest
  rw [kwI_m h, kwI_m (by exact h), kwZ_m0 (by exact h)]
  simp only [wI_wC, wC_wC, hI_wC_self]
/-- whether t went through 0 -/
def tkTh (a b : Int32) : Int32 := if (0 < a ∧ b ≤ 0) ∨ (a < 0 ∧ 0 ≤ b) then 1 else 0
/-- behind a TICK: t, v, whether it is SNAPPED -/
def tkT1 (mo t1 : Int32) : Int32 := if fsz t1 ≤ mo then t1 else if 0 ≤ t1 then mo else -mo
def tkV1 (mo t1 pc : Int32) : Int32 := if fsz t1 ≤ mo then pc else 0
def tkSn (mo sn t1 : Int32) (l : Int64) (old : Int32) : Int32 := if fsz t1 ≤ mo then old else if l ≤ sn.toInt64 then 0 else 1
/-- the reference's row behind a TICK -/
def mTk (ρ β : Nat → Int32) (d k : Nat) (f lamp : Int32) : Nat → Int32 :=
  let x := tkV (β (3 + 3 * d)) (β (15 + 4 * k)) (β (15 + 4 * k + 1)) f (ρ 19) (ρ 20)
  let t1 := ρ 19 + tkPc (β (3 + 3 * d + 1)) lamp x
  rup (rup (rup (rup (rup ρ 19 (tkT1 (β (15 + 4 * k + 2)) t1)) 20 (tkV1 (β (15 + 4 * k + 2)) t1 (tkPc (β (3 + 3 * d + 1)) lamp x))) 21 (tkSn (β (15 + 4 * k + 2)) (β (15 + 4 * k + 3)) t1 (tkL (β (3 + 3 * d + 1)) lamp x) (ρ 21))) 22 (tkSp (β (3 + 3 * d + 1)) lamp x)) 23 (tkTh (ρ 19) (tkT1 (β (15 + 4 * k + 2)) t1))
theorem m_tick_b262 (h : LM S) (z : Int32) (hz : z = 0 ∨ z = 1) : s_X12_tick_b262 33 S (some 33) z = some (wC S 33 (rup (hI S 33) 23 z)) := by
  unfold s_X12_tick_b262
  rw [kwZ_v (h.lt (by decide)) h.2.1 hz, wI_wC]
theorem tkTh_alt (t u : Int32) : tkTh t u = if t ≤ 0 then (if 0 ≤ t then 0 else if u < 0 then 0 else 1) else (if u ≤ 0 then 1 else if 0 ≤ t then 0 else if u < 0 then 0 else 1) := by
  unfold tkTh
  simp only [i32_le, i32_lt, i32_0]
  repeat' split
  all_goals first | rfl | (exfalso; omega)
theorem m_tick_b232 (h : LM S) (t : Int32) : s_X12_tick_b232 33 S t = some (wC S 33 (rup (hI S 33) 23 (tkTh t (hI S 33 19)))) := by
  have a0 : s_X12_tick_b261 33 S (some 33) = some (wC S 33 (rup (hI S 33) 23 0)) := m_tick_b262 h 0 (Or.inl rfl)
  have a1 : s_X12_tick_b257 33 S (some 33) = some (wC S 33 (rup (hI S 33) 23 1)) := m_tick_b262 h 1 (Or.inr rfl)
  have a2 : s_X12_tick_b245 33 S t (some 33) = some (wC S 33 (rup (hI S 33) 23 (if 0 ≤ t then 0 else if hI S 33 19 < 0 then 0 else 1))) := by
    unfold s_X12_tick_b245
    rw [kI_m h, a0, a1]
    repeat' split
    all_goals rfl
  unfold s_X12_tick_b232
  rw [kI_m h, a1, a2, tkTh_alt]
  repeat' split
  all_goals first | rfl | contradiction
theorem m_tick_b224 (h : LM S) (t z : Int32) (hz : z = 0 ∨ z = 1) : s_X12_tick_b224 33 S t (some 33) z = some (wC S 33 (rup (rup (rup (hI S 33) 21 z) 20 0) 23 (tkTh t (hI S 33 19)))) := by
  unfold s_X12_tick_b224
  rw [kwZ_v (h.lt (by decide)) h.2.1 hz, kwI_m (by exact h), m_tick_b232 (by exact h)]
  simp only [wI_wC, wC_wC, hI_wC_self]
  rfl
theorem m_tick_b202 (h : LM S) {k : Nat} {l2 : Int32} (h2 : l2 = nI k) (hk : k < 4) (t t2 : Int32) (l8 : Int64) : s_X12_tick_b202 33 S l2 t l8 (some 33) t2 = some (wC S 33 (rup (rup (rup (rup (hI S 33) 19 t2) 21 (if l8 ≤ (hI S 37 (15 + 4 * k + 3)).toInt64 then 0 else 1)) 20 0) 23 (tkTh t t2))) := by
  unfold s_X12_tick_b202
  rw [kwI_m h, kO_m (by exact h), m_threadOf (S := wI S 33 19 t2) h h2 (l2 := 3) (j := 3) rfl hk (by decide), kc_some]
  split
  · next hc =>
    have hc2 : l8 ≤ (hI S 37 (15 + 4 * k + 3)).toInt64 := hc
    rw [m_tick_b224 (S := wI S 33 19 t2) h _ _ (Or.inl rfl), if_pos hc2]
    simp only [wI_wC, wC_wC, hI_wC_self, rup_self]
  · next hc =>
    have hc2 : ¬ l8 ≤ (hI S 37 (15 + 4 * k + 3)).toInt64 := hc
    rw [m_tick_b224 (S := wI S 33 19 t2) h _ _ (Or.inr rfl), if_neg hc2]
    simp only [wI_wC, wC_wC, hI_wC_self, rup_self]
theorem m_tick_b143 (h : LM S) {k : Nat} {l2 : Int32} (h2 : l2 = nI k) (hk : k < 4) (t pc : Int32) (l8 : Int64) : s_X12_tick_b143 33 S l2 t l8 (some 33) pc = some (wC S 33 (rup (rup (rup (rup (rup (hI S 33) 19 (tkT1 (hI S 37 (15 + 4 * k + 2)) (hI S 33 19 + pc))) 20 (tkV1 (hI S 37 (15 + 4 * k + 2)) (hI S 33 19 + pc) pc)) 21 (tkSn (hI S 37 (15 + 4 * k + 2)) (hI S 37 (15 + 4 * k + 3)) (hI S 33 19 + pc) l8 (hI S 33 21))) 22 l8.toInt32) 23 (tkTh t (tkT1 (hI S 37 (15 + 4 * k + 2)) (hI S 33 19 + pc))))) := by
  unfold s_X12_tick_b143
  have hL : ∀ f, LM (wC S 33 f) := fun _ => h
  rw [kwI_m h, wI_wC, kwI_m (hL _), wI_wC, wC_wC, hI_wC_self, kI_m (hL _), kI_m (hL _), kwI_m (hL _), wI_wC, wC_wC, hI_wC_self, kO_m (hL _), m_threadOf (hL _) h2 (l2 := 2) (j := 2) rfl hk (by decide), kc_some, kI_m (hL _), m_size, kc_some]
  simp only [hI_wC_ne (show (37 : Nat) ≠ 33 by decide), hI_wC_self, rup_self, rup_ne (show (19 : Nat) ≠ 22 by decide), rup_ne (show (19 : Nat) ≠ 20 by decide), rup_ne (show (20 : Nat) ≠ 22 by decide)]
  unfold tkT1 tkV1 tkSn
  by_cases c : fsz (hI S 33 19 + pc) ≤ hI S 37 (15 + 4 * k + 2)
  · simp only [if_pos c]
    rw [m_tick_b232 (hL _), hI_wC_self, wC_wC]
    congr 2
    funext b
    simp only [rup]
    by_cases b19 : b = 19
    · subst b19; simp
    by_cases b20 : b = 20
    · subst b20; simp
    by_cases b21 : b = 21
    · subst b21; simp
    by_cases b22 : b = 22
    · subst b22; simp
    by_cases b23 : b = 23
    · subst b23; simp
    simp [b19, b20, b21, b22, b23]
  · simp only [if_neg c]
    rw [kI_m (hL _)]
    simp only [hI_wC_self, rup_self]
    by_cases c2 : 0 ≤ hI S 33 19 + pc
    · simp only [if_pos c2]
      rw [m_tick_b202 (hL _) h2 hk]
      simp only [hI_wC_self, hI_wC_ne (show (37 : Nat) ≠ 33 by decide), wC_wC]
      congr 2
      funext b
      simp only [rup]
      by_cases b19 : b = 19
      · subst b19; simp
      by_cases b20 : b = 20
      · subst b20; simp
      by_cases b21 : b = 21
      · subst b21; simp
      by_cases b22 : b = 22
      · subst b22; simp
      by_cases b23 : b = 23
      · subst b23; simp
      simp [b19, b20, b21, b22, b23]
    · simp only [if_neg c2]
      rw [m_tick_b202 (hL _) h2 hk]
      simp only [hI_wC_self, hI_wC_ne (show (37 : Nat) ≠ 33 by decide), wC_wC]
      congr 2
      funext b
      simp only [rup]
      by_cases b19 : b = 19
      · subst b19; simp
      by_cases b20 : b = 20
      · subst b20; simp
      by_cases b21 : b = 21
      · subst b21; simp
      by_cases b22 : b = 22
      · subst b22; simp
      by_cases b23 : b = 23
      · subst b23; simp
      simp [b19, b20, b21, b22, b23]
theorem m_tick (h : LM S) {d k : Nat} {l1 l2 f lamp : Int32} (h1 : l1 = nI d) (h2 : l2 = nI k) (hd : d < 4) (hk : k < 4) (hw : ¬ hI S 37 (3 + 3 * d) = 0) : s_X12_tick S 33 l1 l2 f lamp = some (wC S 33 (mTk (hI S 33) (hI S 37) d k f lamp)) := by
  have b125 : ∀ (t x : Int32) (l8 : Int64), s_X12_tick_b125 33 S l2 t x l8 = s_X12_tick_b143 33 S l2 t l8 (some 33) (if 0 ≤ x then l8.toInt32 else (-l8).toInt32) := by
    intro t x l8
    unfold s_X12_tick_b125
    split <;> rfl
  have b70 : ∀ x : Int32, s_X12_tick_b70 33 S l1 l2 lamp (hI S 33 19) x = s_X12_tick_b143 33 S l2 (hI S 33 19) (tkL (hI S 37 (3 + 3 * d + 1)) lamp x) (some 33) (tkPc (hI S 37 (3 + 3 * d + 1)) lamp x) := by
    intro x
    unfold s_X12_tick_b70
    rw [m_size, kc_some, kldiv_ne (by decide), kO_m h, m_discOf h h1 (l2 := 1) (j := 1) rfl hd (by decide), kc_some, kldiv_ne (by decide)]
    unfold tkPc tkL tkA
    split
    · rw [b125]
    · rw [b125]
  unfold s_X12_tick
  rw [kI_m h, kI_m h, m_size, kc_some, kO_m h, m_slopeOf h h2 hk, kc_some, kO_m h, m_discOf h h1 (l2 := 0) (j := 0) rfl hd (by decide), kc_some, kdiv_ne (y := hI S 37 (3 + 3 * d + 0)) hw, kI_m h, kI_m h, kI_m h, kI_m h, kI_m h]
  simp only [b70]
  have e : ∀ x, x = tkV (hI S 37 (3 + 3 * d)) (hI S 37 (15 + 4 * k)) (hI S 37 (15 + 4 * k + 1)) f (hI S 33 19) (hI S 33 20) → s_X12_tick_b143 33 S l2 (hI S 33 19) (tkL (hI S 37 (3 + 3 * d + 1)) lamp x) (some 33) (tkPc (hI S 37 (3 + 3 * d + 1)) lamp x) = some (wC S 33 (mTk (hI S 33) (hI S 37) d k f lamp)) := by
    intro x hx
    rw [m_tick_b143 h h2 hk, hx]
    rfl
  unfold tkV tkPush at e
  split
  · next c =>
    split
    · next c2 => exact e _ (by rw [if_pos c, if_pos c2])
    · next c2 => exact e _ (by rw [if_pos c, if_neg c2]; rfl)
  · next c => exact e _ (by rw [if_neg c]; rfl)
end L2B
