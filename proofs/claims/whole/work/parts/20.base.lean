/-! ===== LAYER 2: the programs as mathematics. Base ===== -/
section L2A
variable {α : Type} {S : HS} {a kd j : Nat}
theorem kI_some {f : Int32 → Option α} (h1 : a < hN S) (h2 : hK S a = kd) : kI S (some a) kd j f = f (hI S a j) := kO_some h1 h2
theorem kP_some {f : Option Nat → Option α} (h1 : a < hN S) (h2 : hK S a = kd) : kP S (some a) kd j f = f (hP S a j) := kO_some h1 h2
theorem kwI_some {v : Int32} {f : HS → Option α} (h1 : a < hN S) (h2 : hK S a = kd) : kwI S (some a) kd j v f = f (wI S a j v) := kO_some h1 h2
theorem kwP_some {v : Option Nat} {f : HS → Option α} (h1 : a < hN S) (h2 : hK S a = kd) : kwP S (some a) kd j v f = f (wP S a j v) := kO_some h1 h2
theorem kwZ_0 {f : HS → Option α} (h1 : a < hN S) (h2 : hK S a = kd) : kwZ S (some a) kd j 0 f = f (wI S a j 0) := (kO_some h1 h2).trans (if_pos (Or.inl rfl))
theorem kwZ_1 {f : HS → Option α} (h1 : a < hN S) (h2 : hK S a = kd) : kwZ S (some a) kd j 1 f = f (wI S a j 1) := (kO_some h1 h2).trans (if_pos (Or.inr rfl))
theorem kwZ_v {v : Int32} {f : HS → Option α} (h1 : a < hN S) (h2 : hK S a = kd) (hv : v = 0 ∨ v = 1) : kwZ S (some a) kd j v f = f (wI S a j v) := (kO_some h1 h2).trans (if_pos hv)
theorem kA_in {i : Int32} {f : Int32 → Option α} (h1 : a < hN S) (h2 : hK S a = kd) (h3 : ¬ (i < 0 ∨ hL S a ≤ i.toNatClampNeg)) : kA S (some a) kd i f = f (hI S a i.toNatClampNeg) := (kO_some h1 h2).trans (if_neg h3)
theorem kwA_in {i v : Int32} {f : HS → Option α} (h1 : a < hN S) (h2 : hK S a = kd) (h3 : ¬ (i < 0 ∨ hL S a ≤ i.toNatClampNeg)) : kwA S (some a) kd i v f = f (wI S a i.toNatClampNeg v) := (kO_some h1 h2).trans (if_neg h3)
theorem kAP_in {i : Int32} {f : Option Nat → Option α} (h1 : a < hN S) (h2 : hK S a = kd) (h3 : ¬ (i < 0 ∨ hL S a ≤ i.toNatClampNeg)) : kAP S (some a) kd i f = f (hP S a i.toNatClampNeg) := (kO_some h1 h2).trans (if_neg h3)
theorem kwAP_in {ek b : Nat} {i : Int32} {f : HS → Option α} (h1 : a < hN S) (h2 : hK S a = kd) (h3 : ¬ (i < 0 ∨ hL S a ≤ i.toNatClampNeg)) (h4 : b < hN S) (h5 : hK S b = ek) : kwAP S (some a) kd ek i (some b) f = f (wP S a i.toNatClampNeg (some b)) := (kO_some h1 h2).trans ((if_neg h3).trans (kO_some h4 h5))
theorem kLen_some {f : Int32 → Option α} (h1 : a < hN S) (h2 : hK S a = kd) : kLen S (some a) kd f = f (nI (hL S a)) := kO_some h1 h2
theorem kc_some {β : Type} {v : β} {f : β → HS → Option α} : kc (some (v, S)) f = f v S := rfl
theorem kc_none {β : Type} {f : β → HS → Option α} : kc none f = none := rfl
theorem kcv_some {f : HS → Option α} : kcv (some S) f = f S := rfl
theorem kzr_0 : kzr 0 S = some (0, S) := rfl
theorem kzr_1 : kzr 1 S = some (1, S) := rfl
theorem knm_eq {β : Type} {v : β} {f : β → Option α} : knm v f = f v := rfl
theorem kdiv_ne {x y : Int32} {f : Int32 → Option α} (h : ¬ y = 0) : kdiv x y f = f (x / y) := if_neg h
theorem krem_ne {x y : Int32} {f : Int32 → Option α} (h : ¬ y = 0) : krem x y f = f (x - x / y * y) := if_neg h
theorem kldiv_ne {x y : Int64} {f : Int64 → Option α} (h : ¬ y = 0) : kldiv x y f = f (x / y) := if_neg h
end L2A
theorem kc_ite {α β : Type} {p : Prop} [Decidable p] {x y : Option (β × HS)} {f : β → HS → Option α} : kc (if p then x else y) f = if p then kc x f else kc y f := by split <;> rfl
theorem ite_some2 {β : Type} {p : Prop} [Decidable p] {x y : β} {S : HS} : (if p then some (x, S) else some (y, S)) = some ((if p then x else y), S) := by split <;> rfl
theorem nI_nat (n : Nat) (h : n < 2 ^ 31) : ¬ (nI n) < 0 ∧ (nI n).toNatClampNeg = n := ⟨nI_pos h, nI_clamp h⟩
/-- an index that is a number -/
theorem ix_ok {i : Int32} {k n : Nat} (h : i = nI k) (hk : k < n) (hn : n < 2 ^ 31) : ¬ (i < 0 ∨ n ≤ i.toNatClampNeg) := by
  subst h
  rintro (q | q)
  · exact nI_pos (by omega) q
  · rw [nI_clamp (by omega)] at q
    omega
theorem ix_to {i : Int32} {lo hi : Int} (h0 : lo ≤ i.toInt) (h1 : i.toInt < hi) (hl : 0 ≤ lo) : i = nI i.toInt.toNat ∧ (i.toInt.toNat : Int) = i.toInt := by
  have h2 : (i.toInt.toNat : Int) = i.toInt := Int.toNat_of_nonneg (by omega)
  refine ⟨Int32.toInt_inj.mp ?_, h2⟩
  have h3 := Int32.toInt_lt i
  rw [nI_toInt (by omega)]
  omega
/-- the reference object stands at 33, its arrays at 34 .. 45 -/
def LM (S : HS) : Prop := 46 ≤ hN S ∧ hK S 33 = 12 ∧ hK S 34 = 14 ∧ hK S 35 = 14 ∧ hK S 36 = 14 ∧ hK S 37 = 14 ∧ hK S 38 = 14 ∧ hK S 39 = 14 ∧ hK S 40 = 14 ∧ hK S 41 = 14 ∧ hK S 42 = 15 ∧ hK S 43 = 14 ∧ hK S 44 = 14 ∧ hK S 45 = 14 ∧ hL S 34 = 8 ∧ hL S 35 = 8 ∧ hL S 36 = 320 ∧ hL S 37 = 131 ∧ hL S 38 = 131 ∧ hL S 39 = 500 ∧ hL S 40 = 12 ∧ hL S 41 = 3 ∧ hL S 42 = 2 ∧ hL S 43 = 262 ∧ hL S 44 = 24 ∧ hL S 45 = 16 ∧ hP S 33 2 = some 34 ∧ hP S 33 3 = some 35 ∧ hP S 33 4 = some 36 ∧ hP S 33 5 = some 37 ∧ hP S 33 6 = some 38 ∧ hP S 33 8 = some 39 ∧ hP S 33 24 = some 40 ∧ hP S 33 26 = some 41 ∧ hP S 33 27 = some 42 ∧ hP S 33 28 = some 43 ∧ hP S 33 29 = some 44 ∧ hP S 33 30 = some 45
theorem LM_wI (S : HS) (c j : Nat) (v : Int32) : LM (wI S c j v) ↔ LM S := Iff.rfl
theorem LM_wC (S : HS) (c : Nat) (f : Nat → Int32) : LM (wC S c f) ↔ LM S := Iff.rfl
theorem LM_wP {S : HS} {c j : Nat} {v : Option Nat} (h : c ≠ 33) : LM (wP S c j v) ↔ LM S := by
  unfold LM
  simp only [hN_wP, hK_wP, hL_wP, hP_wP]
  have e : ∀ b, ¬ (33 = c ∧ b = j) := fun b q => h q.1.symm
  simp only [if_neg (e _)]
theorem LM.lt {S : HS} (h : LM S) {c : Nat} (hc : c < 46) : c < hN S := Nat.lt_of_lt_of_le hc h.1
section L2M
variable {α : Type} {S : HS}
theorem kO_m (h : LM S) {g : Nat → Option α} : kO S (some 33) 12 g = g 33 := kO_some (h.lt (by decide)) h.2.1
theorem kI_m (h : LM S) {j : Nat} {f : Int32 → Option α} : kI S (some 33) 12 j f = f (hI S 33 j) := kI_some (h.lt (by decide)) h.2.1
theorem kwI_m (h : LM S) {j : Nat} {v : Int32} {f : HS → Option α} : kwI S (some 33) 12 j v f = f (wI S 33 j v) := kwI_some (h.lt (by decide)) h.2.1
theorem kwZ_m0 (h : LM S) {j : Nat} {f : HS → Option α} : kwZ S (some 33) 12 j 0 f = f (wI S 33 j 0) := kwZ_0 (h.lt (by decide)) h.2.1
theorem kwZ_m1 (h : LM S) {j : Nat} {f : HS → Option α} : kwZ S (some 33) 12 j 1 f = f (wI S 33 j 1) := kwZ_1 (h.lt (by decide)) h.2.1
theorem kP_m2 (h : LM S) {f : Option Nat → Option α} : kP S (some 33) 12 2 f = f (some 34) := (kP_some (h.lt (by decide)) h.2.1).trans (congrArg f h.2.2.2.2.2.2.2.2.2.2.2.2.2.2.2.2.2.2.2.2.2.2.2.2.2.2.1)
theorem kA_m34 (h : LM S) {i : Int32} {k : Nat} {f : Int32 → Option α} (hi : i = nI k) (hk : k < 8) : kA S (some 34) 14 i f = f (hI S 34 k) := (kA_in (h.lt (by decide)) h.2.2.1 (by rw [h.2.2.2.2.2.2.2.2.2.2.2.2.2.2.1]; exact ix_ok hi hk (by decide))).trans (by rw [hi, nI_clamp (by omega)])
theorem kwA_m34 (h : LM S) {i v : Int32} {k : Nat} {f : HS → Option α} (hi : i = nI k) (hk : k < 8) : kwA S (some 34) 14 i v f = f (wI S 34 k v) := (kwA_in (h.lt (by decide)) h.2.2.1 (by rw [h.2.2.2.2.2.2.2.2.2.2.2.2.2.2.1]; exact ix_ok hi hk (by decide))).trans (by rw [hi, nI_clamp (by omega)])
theorem kP_m3 (h : LM S) {f : Option Nat → Option α} : kP S (some 33) 12 3 f = f (some 35) := (kP_some (h.lt (by decide)) h.2.1).trans (congrArg f h.2.2.2.2.2.2.2.2.2.2.2.2.2.2.2.2.2.2.2.2.2.2.2.2.2.2.2.1)
theorem kA_m35 (h : LM S) {i : Int32} {k : Nat} {f : Int32 → Option α} (hi : i = nI k) (hk : k < 8) : kA S (some 35) 14 i f = f (hI S 35 k) := (kA_in (h.lt (by decide)) h.2.2.2.1 (by rw [h.2.2.2.2.2.2.2.2.2.2.2.2.2.2.2.1]; exact ix_ok hi hk (by decide))).trans (by rw [hi, nI_clamp (by omega)])
theorem kwA_m35 (h : LM S) {i v : Int32} {k : Nat} {f : HS → Option α} (hi : i = nI k) (hk : k < 8) : kwA S (some 35) 14 i v f = f (wI S 35 k v) := (kwA_in (h.lt (by decide)) h.2.2.2.1 (by rw [h.2.2.2.2.2.2.2.2.2.2.2.2.2.2.2.1]; exact ix_ok hi hk (by decide))).trans (by rw [hi, nI_clamp (by omega)])
theorem kP_m4 (h : LM S) {f : Option Nat → Option α} : kP S (some 33) 12 4 f = f (some 36) := (kP_some (h.lt (by decide)) h.2.1).trans (congrArg f h.2.2.2.2.2.2.2.2.2.2.2.2.2.2.2.2.2.2.2.2.2.2.2.2.2.2.2.2.1)
theorem kA_m36 (h : LM S) {i : Int32} {k : Nat} {f : Int32 → Option α} (hi : i = nI k) (hk : k < 320) : kA S (some 36) 14 i f = f (hI S 36 k) := (kA_in (h.lt (by decide)) h.2.2.2.2.1 (by rw [h.2.2.2.2.2.2.2.2.2.2.2.2.2.2.2.2.1]; exact ix_ok hi hk (by decide))).trans (by rw [hi, nI_clamp (by omega)])
theorem kwA_m36 (h : LM S) {i v : Int32} {k : Nat} {f : HS → Option α} (hi : i = nI k) (hk : k < 320) : kwA S (some 36) 14 i v f = f (wI S 36 k v) := (kwA_in (h.lt (by decide)) h.2.2.2.2.1 (by rw [h.2.2.2.2.2.2.2.2.2.2.2.2.2.2.2.2.1]; exact ix_ok hi hk (by decide))).trans (by rw [hi, nI_clamp (by omega)])
theorem kP_m5 (h : LM S) {f : Option Nat → Option α} : kP S (some 33) 12 5 f = f (some 37) := (kP_some (h.lt (by decide)) h.2.1).trans (congrArg f h.2.2.2.2.2.2.2.2.2.2.2.2.2.2.2.2.2.2.2.2.2.2.2.2.2.2.2.2.2.1)
theorem kA_m37 (h : LM S) {i : Int32} {k : Nat} {f : Int32 → Option α} (hi : i = nI k) (hk : k < 131) : kA S (some 37) 14 i f = f (hI S 37 k) := (kA_in (h.lt (by decide)) h.2.2.2.2.2.1 (by rw [h.2.2.2.2.2.2.2.2.2.2.2.2.2.2.2.2.2.1]; exact ix_ok hi hk (by decide))).trans (by rw [hi, nI_clamp (by omega)])
theorem kwA_m37 (h : LM S) {i v : Int32} {k : Nat} {f : HS → Option α} (hi : i = nI k) (hk : k < 131) : kwA S (some 37) 14 i v f = f (wI S 37 k v) := (kwA_in (h.lt (by decide)) h.2.2.2.2.2.1 (by rw [h.2.2.2.2.2.2.2.2.2.2.2.2.2.2.2.2.2.1]; exact ix_ok hi hk (by decide))).trans (by rw [hi, nI_clamp (by omega)])
theorem kP_m6 (h : LM S) {f : Option Nat → Option α} : kP S (some 33) 12 6 f = f (some 38) := (kP_some (h.lt (by decide)) h.2.1).trans (congrArg f h.2.2.2.2.2.2.2.2.2.2.2.2.2.2.2.2.2.2.2.2.2.2.2.2.2.2.2.2.2.2.1)
theorem kA_m38 (h : LM S) {i : Int32} {k : Nat} {f : Int32 → Option α} (hi : i = nI k) (hk : k < 131) : kA S (some 38) 14 i f = f (hI S 38 k) := (kA_in (h.lt (by decide)) h.2.2.2.2.2.2.1 (by rw [h.2.2.2.2.2.2.2.2.2.2.2.2.2.2.2.2.2.2.1]; exact ix_ok hi hk (by decide))).trans (by rw [hi, nI_clamp (by omega)])
theorem kwA_m38 (h : LM S) {i v : Int32} {k : Nat} {f : HS → Option α} (hi : i = nI k) (hk : k < 131) : kwA S (some 38) 14 i v f = f (wI S 38 k v) := (kwA_in (h.lt (by decide)) h.2.2.2.2.2.2.1 (by rw [h.2.2.2.2.2.2.2.2.2.2.2.2.2.2.2.2.2.2.1]; exact ix_ok hi hk (by decide))).trans (by rw [hi, nI_clamp (by omega)])
theorem kP_m8 (h : LM S) {f : Option Nat → Option α} : kP S (some 33) 12 8 f = f (some 39) := (kP_some (h.lt (by decide)) h.2.1).trans (congrArg f h.2.2.2.2.2.2.2.2.2.2.2.2.2.2.2.2.2.2.2.2.2.2.2.2.2.2.2.2.2.2.2.1)
theorem kA_m39 (h : LM S) {i : Int32} {k : Nat} {f : Int32 → Option α} (hi : i = nI k) (hk : k < 500) : kA S (some 39) 14 i f = f (hI S 39 k) := (kA_in (h.lt (by decide)) h.2.2.2.2.2.2.2.1 (by rw [h.2.2.2.2.2.2.2.2.2.2.2.2.2.2.2.2.2.2.2.1]; exact ix_ok hi hk (by decide))).trans (by rw [hi, nI_clamp (by omega)])
theorem kwA_m39 (h : LM S) {i v : Int32} {k : Nat} {f : HS → Option α} (hi : i = nI k) (hk : k < 500) : kwA S (some 39) 14 i v f = f (wI S 39 k v) := (kwA_in (h.lt (by decide)) h.2.2.2.2.2.2.2.1 (by rw [h.2.2.2.2.2.2.2.2.2.2.2.2.2.2.2.2.2.2.2.1]; exact ix_ok hi hk (by decide))).trans (by rw [hi, nI_clamp (by omega)])
theorem kP_m24 (h : LM S) {f : Option Nat → Option α} : kP S (some 33) 12 24 f = f (some 40) := (kP_some (h.lt (by decide)) h.2.1).trans (congrArg f h.2.2.2.2.2.2.2.2.2.2.2.2.2.2.2.2.2.2.2.2.2.2.2.2.2.2.2.2.2.2.2.2.1)
theorem kA_m40 (h : LM S) {i : Int32} {k : Nat} {f : Int32 → Option α} (hi : i = nI k) (hk : k < 12) : kA S (some 40) 14 i f = f (hI S 40 k) := (kA_in (h.lt (by decide)) h.2.2.2.2.2.2.2.2.1 (by rw [h.2.2.2.2.2.2.2.2.2.2.2.2.2.2.2.2.2.2.2.2.1]; exact ix_ok hi hk (by decide))).trans (by rw [hi, nI_clamp (by omega)])
theorem kwA_m40 (h : LM S) {i v : Int32} {k : Nat} {f : HS → Option α} (hi : i = nI k) (hk : k < 12) : kwA S (some 40) 14 i v f = f (wI S 40 k v) := (kwA_in (h.lt (by decide)) h.2.2.2.2.2.2.2.2.1 (by rw [h.2.2.2.2.2.2.2.2.2.2.2.2.2.2.2.2.2.2.2.2.1]; exact ix_ok hi hk (by decide))).trans (by rw [hi, nI_clamp (by omega)])
theorem kP_m26 (h : LM S) {f : Option Nat → Option α} : kP S (some 33) 12 26 f = f (some 41) := (kP_some (h.lt (by decide)) h.2.1).trans (congrArg f h.2.2.2.2.2.2.2.2.2.2.2.2.2.2.2.2.2.2.2.2.2.2.2.2.2.2.2.2.2.2.2.2.2.1)
theorem kA_m41 (h : LM S) {i : Int32} {k : Nat} {f : Int32 → Option α} (hi : i = nI k) (hk : k < 3) : kA S (some 41) 14 i f = f (hI S 41 k) := (kA_in (h.lt (by decide)) h.2.2.2.2.2.2.2.2.2.1 (by rw [h.2.2.2.2.2.2.2.2.2.2.2.2.2.2.2.2.2.2.2.2.2.1]; exact ix_ok hi hk (by decide))).trans (by rw [hi, nI_clamp (by omega)])
theorem kwA_m41 (h : LM S) {i v : Int32} {k : Nat} {f : HS → Option α} (hi : i = nI k) (hk : k < 3) : kwA S (some 41) 14 i v f = f (wI S 41 k v) := (kwA_in (h.lt (by decide)) h.2.2.2.2.2.2.2.2.2.1 (by rw [h.2.2.2.2.2.2.2.2.2.2.2.2.2.2.2.2.2.2.2.2.2.1]; exact ix_ok hi hk (by decide))).trans (by rw [hi, nI_clamp (by omega)])
theorem kP_m27 (h : LM S) {f : Option Nat → Option α} : kP S (some 33) 12 27 f = f (some 42) := (kP_some (h.lt (by decide)) h.2.1).trans (congrArg f h.2.2.2.2.2.2.2.2.2.2.2.2.2.2.2.2.2.2.2.2.2.2.2.2.2.2.2.2.2.2.2.2.2.2.1)
theorem kA_m42 (h : LM S) {i : Int32} {k : Nat} {f : Int32 → Option α} (hi : i = nI k) (hk : k < 2) : kA S (some 42) 15 i f = f (hI S 42 k) := (kA_in (h.lt (by decide)) h.2.2.2.2.2.2.2.2.2.2.1 (by rw [h.2.2.2.2.2.2.2.2.2.2.2.2.2.2.2.2.2.2.2.2.2.2.1]; exact ix_ok hi hk (by decide))).trans (by rw [hi, nI_clamp (by omega)])
theorem kwA_m42 (h : LM S) {i v : Int32} {k : Nat} {f : HS → Option α} (hi : i = nI k) (hk : k < 2) : kwA S (some 42) 15 i v f = f (wI S 42 k v) := (kwA_in (h.lt (by decide)) h.2.2.2.2.2.2.2.2.2.2.1 (by rw [h.2.2.2.2.2.2.2.2.2.2.2.2.2.2.2.2.2.2.2.2.2.2.1]; exact ix_ok hi hk (by decide))).trans (by rw [hi, nI_clamp (by omega)])
theorem kP_m28 (h : LM S) {f : Option Nat → Option α} : kP S (some 33) 12 28 f = f (some 43) := (kP_some (h.lt (by decide)) h.2.1).trans (congrArg f h.2.2.2.2.2.2.2.2.2.2.2.2.2.2.2.2.2.2.2.2.2.2.2.2.2.2.2.2.2.2.2.2.2.2.2.1)
theorem kA_m43 (h : LM S) {i : Int32} {k : Nat} {f : Int32 → Option α} (hi : i = nI k) (hk : k < 262) : kA S (some 43) 14 i f = f (hI S 43 k) := (kA_in (h.lt (by decide)) h.2.2.2.2.2.2.2.2.2.2.2.1 (by rw [h.2.2.2.2.2.2.2.2.2.2.2.2.2.2.2.2.2.2.2.2.2.2.2.1]; exact ix_ok hi hk (by decide))).trans (by rw [hi, nI_clamp (by omega)])
theorem kwA_m43 (h : LM S) {i v : Int32} {k : Nat} {f : HS → Option α} (hi : i = nI k) (hk : k < 262) : kwA S (some 43) 14 i v f = f (wI S 43 k v) := (kwA_in (h.lt (by decide)) h.2.2.2.2.2.2.2.2.2.2.2.1 (by rw [h.2.2.2.2.2.2.2.2.2.2.2.2.2.2.2.2.2.2.2.2.2.2.2.1]; exact ix_ok hi hk (by decide))).trans (by rw [hi, nI_clamp (by omega)])
theorem kP_m29 (h : LM S) {f : Option Nat → Option α} : kP S (some 33) 12 29 f = f (some 44) := (kP_some (h.lt (by decide)) h.2.1).trans (congrArg f h.2.2.2.2.2.2.2.2.2.2.2.2.2.2.2.2.2.2.2.2.2.2.2.2.2.2.2.2.2.2.2.2.2.2.2.2.1)
theorem kA_m44 (h : LM S) {i : Int32} {k : Nat} {f : Int32 → Option α} (hi : i = nI k) (hk : k < 24) : kA S (some 44) 14 i f = f (hI S 44 k) := (kA_in (h.lt (by decide)) h.2.2.2.2.2.2.2.2.2.2.2.2.1 (by rw [h.2.2.2.2.2.2.2.2.2.2.2.2.2.2.2.2.2.2.2.2.2.2.2.2.1]; exact ix_ok hi hk (by decide))).trans (by rw [hi, nI_clamp (by omega)])
theorem kwA_m44 (h : LM S) {i v : Int32} {k : Nat} {f : HS → Option α} (hi : i = nI k) (hk : k < 24) : kwA S (some 44) 14 i v f = f (wI S 44 k v) := (kwA_in (h.lt (by decide)) h.2.2.2.2.2.2.2.2.2.2.2.2.1 (by rw [h.2.2.2.2.2.2.2.2.2.2.2.2.2.2.2.2.2.2.2.2.2.2.2.2.1]; exact ix_ok hi hk (by decide))).trans (by rw [hi, nI_clamp (by omega)])
theorem kP_m30 (h : LM S) {f : Option Nat → Option α} : kP S (some 33) 12 30 f = f (some 45) := (kP_some (h.lt (by decide)) h.2.1).trans (congrArg f h.2.2.2.2.2.2.2.2.2.2.2.2.2.2.2.2.2.2.2.2.2.2.2.2.2.2.2.2.2.2.2.2.2.2.2.2.2)
theorem kA_m45 (h : LM S) {i : Int32} {k : Nat} {f : Int32 → Option α} (hi : i = nI k) (hk : k < 16) : kA S (some 45) 14 i f = f (hI S 45 k) := (kA_in (h.lt (by decide)) h.2.2.2.2.2.2.2.2.2.2.2.2.2.1 (by rw [h.2.2.2.2.2.2.2.2.2.2.2.2.2.2.2.2.2.2.2.2.2.2.2.2.2.1]; exact ix_ok hi hk (by decide))).trans (by rw [hi, nI_clamp (by omega)])
theorem kwA_m45 (h : LM S) {i v : Int32} {k : Nat} {f : HS → Option α} (hi : i = nI k) (hk : k < 16) : kwA S (some 45) 14 i v f = f (wI S 45 k v) := (kwA_in (h.lt (by decide)) h.2.2.2.2.2.2.2.2.2.2.2.2.2.1 (by rw [h.2.2.2.2.2.2.2.2.2.2.2.2.2.2.2.2.2.2.2.2.2.2.2.2.2.1]; exact ix_ok hi hk (by decide))).trans (by rw [hi, nI_clamp (by omega)])
end L2M
