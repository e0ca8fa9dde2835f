/-! ===== THE HEAP OF CLASS AND REFERENCE AS NUMBERS: the cell c stands at the address b0 + c ===== -/
def HS : Type := (Nat × (Nat → Nat × Nat)) × ((Nat → Nat → Int32) × (Nat → Nat → Option Nat))
/-- how many cells -/
def hN (S : HS) : Nat := S.1.1
/-- a cell's kind: 0 .. 12 as in vwCl, 13 byte[], 14 int[], 15 boolean[], 16 .. 21 Cord[] Disc[] Hand[] Row[] Rule[] Scene[] -/
def hK (S : HS) (c : Nat) : Nat := (S.1.2 c).1
/-- an array's length -/
def hL (S : HS) (c : Nat) : Nat := (S.1.2 c).2
def hI (S : HS) : Nat → Nat → Int32 := S.2.1
def hP (S : HS) : Nat → Nat → Option Nat := S.2.2
def wI (S : HS) (c j : Nat) (v : Int32) : HS := (S.1, (fun a b => if a = c ∧ b = j then v else S.2.1 a b, S.2.2))
def wP (S : HS) (c j : Nat) (v : Option Nat) : HS := (S.1, (S.2.1, fun a b => if a = c ∧ b = j then v else S.2.2 a b))
/-- a row of an array is copied -/
def wC (S : HS) (c : Nat) (f : Nat → Int32) : HS := (S.1, (fun a b => if a = c then f b else S.2.1 a b, S.2.2))
def wN (S : HS) (kd ln : Nat) : HS := ((S.1.1 + 1, fun a => if a = S.1.1 then (kd, ln) else S.1.2 a), (fun a b => if a = S.1.1 then 0 else S.2.1 a b, fun a b => if a = S.1.1 then none else S.2.2 a b))
theorem hN_wI (S : HS) (c j : Nat) (v : Int32) : hN (wI S c j v) = hN S := rfl
theorem hK_wI (S : HS) (c j : Nat) (v : Int32) (a : Nat) : hK (wI S c j v) a = hK S a := rfl
theorem hL_wI (S : HS) (c j : Nat) (v : Int32) (a : Nat) : hL (wI S c j v) a = hL S a := rfl
theorem hP_wI (S : HS) (c j : Nat) (v : Int32) (a b : Nat) : hP (wI S c j v) a b = hP S a b := rfl
theorem hI_wI (S : HS) (c j : Nat) (v : Int32) (a b : Nat) : hI (wI S c j v) a b = if a = c ∧ b = j then v else hI S a b := rfl
theorem hN_wP (S : HS) (c j : Nat) (v : Option Nat) : hN (wP S c j v) = hN S := rfl
theorem hK_wP (S : HS) (c j : Nat) (v : Option Nat) (a : Nat) : hK (wP S c j v) a = hK S a := rfl
theorem hL_wP (S : HS) (c j : Nat) (v : Option Nat) (a : Nat) : hL (wP S c j v) a = hL S a := rfl
theorem hI_wP (S : HS) (c j : Nat) (v : Option Nat) (a b : Nat) : hI (wP S c j v) a b = hI S a b := rfl
theorem hP_wP (S : HS) (c j : Nat) (v : Option Nat) (a b : Nat) : hP (wP S c j v) a b = if a = c ∧ b = j then v else hP S a b := rfl
theorem hN_wC (S : HS) (c : Nat) (f : Nat → Int32) : hN (wC S c f) = hN S := rfl
theorem hK_wC (S : HS) (c : Nat) (f : Nat → Int32) (a : Nat) : hK (wC S c f) a = hK S a := rfl
theorem hL_wC (S : HS) (c : Nat) (f : Nat → Int32) (a : Nat) : hL (wC S c f) a = hL S a := rfl
theorem hP_wC (S : HS) (c : Nat) (f : Nat → Int32) (a b : Nat) : hP (wC S c f) a b = hP S a b := rfl
theorem hI_wC (S : HS) (c : Nat) (f : Nat → Int32) (a b : Nat) : hI (wC S c f) a b = if a = c then f b else hI S a b := rfl
theorem hN_wN (S : HS) (kd ln : Nat) : hN (wN S kd ln) = hN S + 1 := rfl
theorem hK_wN (S : HS) (kd ln a : Nat) : hK (wN S kd ln) a = if a = hN S then kd else hK S a := by
  show (if a = S.1.1 then (kd, ln) else S.1.2 a).1 = if a = S.1.1 then kd else (S.1.2 a).1
  split <;> rfl
theorem hL_wN (S : HS) (kd ln a : Nat) : hL (wN S kd ln) a = if a = hN S then ln else hL S a := by
  show (if a = S.1.1 then (kd, ln) else S.1.2 a).2 = if a = S.1.1 then ln else (S.1.2 a).2
  split <;> rfl
theorem hI_wN (S : HS) (kd ln a b : Nat) : hI (wN S kd ln) a b = if a = hN S then 0 else hI S a b := rfl
theorem hP_wN (S : HS) (kd ln a b : Nat) : hP (wN S kd ln) a b = if a = hN S then none else hP S a b := rfl
/-- which fields of a kind are references -/
def hflds : Nat → List Bool
  | 0 => [true, false, true, false]
  | 1 => [true, true, true, false, false, false]
  | 2 => [false, false, false, false]
  | 3 => [false, false, false]
  | 4 => [true, true, true, true, true, false, false, false, false]
  | 5 => [true, false]
  | 6 => [true, false, false, false]
  | 7 => [false, false, false, false]
  | 8 => [true, true, true, false, false, false, false, false, false, false, false, false]
  | 9 => [true, true]
  | 10 => [true, false, false, false, false, false, false, false]
  | 11 => [true, true, true, true, true, true, false, false, false]
  | 12 => [false, false, true, true, true, true, true, false, true, false, false, false, false, false, false, false, false, false, false, false, false, false, false, false, true, false, true, true, true, true, true, false]
  | _ => []
/-- a reference as a value -/
def hrf (b0 : Nat) : Option Nat → Value
  | none => .null
  | some c => .ref (b0 + c)
theorem hrf_eq (b0 : Nat) (o : Option Nat) : va_rf (o.map (fun x => b0 + x)) = hrf b0 o := by cases o <;> rfl
def hval (b0 : Nat) (S : HS) (c j : Nat) : Bool → Value
  | true => hrf b0 (hP S c j)
  | false => .int (hI S c j)
def hfl (b0 : Nat) (S : HS) (c : Nat) : Nat → List Bool → List Value
  | _, [] => []
  | j, r :: rs => hval b0 S c j r :: hfl b0 S c (j + 1) rs
theorem hfl_get (b0 : Nat) (S : HS) (c : Nat) : ∀ (bs : List Bool) (i j : Nat), (hfl b0 S c i bs)[j]? = (bs[j]?).map (fun r => hval b0 S c (i + j) r) := by
  intro bs
  induction bs with
  | nil => intro i j; simp [hfl]
  | cons r rs ih =>
    intro i j
    cases j with
    | zero => simp [hfl]
    | succ j =>
      simp only [hfl, List.getElem?_cons_succ]
      rw [ih (i + 1) j, show i + 1 + j = i + (j + 1) by omega]
theorem hfl_len (b0 : Nat) (S : HS) (c : Nat) : ∀ (bs : List Bool) (i : Nat), (hfl b0 S c i bs).length = bs.length := by
  intro bs
  induction bs with
  | nil => intro i; rfl
  | cons r rs ih => intro i; simp [hfl, ih]
theorem hfl_set {b0 : Nat} {S S' : HS} {c j : Nat} {bs : List Bool} {v : Value} {r : Bool} (hr : bs[j]? = some r) (h1 : hval b0 S' c j r = v) (h2 : ∀ k q, k ≠ j → bs[k]? = some q → hval b0 S' c k q = hval b0 S c k q) : (hfl b0 S c 0 bs).set j v = hfl b0 S' c 0 bs := by
  apply List.ext_getElem?
  intro k
  by_cases hk : k = j
  · subst hk
    have hl : k < (hfl b0 S c 0 bs).length := by rw [hfl_len]; exact (List.getElem?_eq_some_iff.mp hr).1
    rw [List.getElem?_set_self hl, hfl_get, hr]
    simp [h1]
  · rw [List.getElem?_set_ne (Ne.symm hk), hfl_get, hfl_get]
    cases hb : bs[k]? with
    | none => rfl
    | some q => simp [h2 k q hk hb]
/-- what a cell holds -/
def hcell (b0 : Nat) (cid : Nat → ClassId) (S : HS) (c : Nat) : va_E :=
  if hK S c < 13 then .inr (hK S c, hfl b0 S c 0 (hflds (hK S c)))
  else if hK S c < 16 then .inl (cid (hK S c), hL S c, .inl (hI S c))
  else .inl (cid (hK S c), hL S c, .inr (.inr (.inr (.inr (fun j => (hP S c j).map (fun x => b0 + x))))))
theorem hcell_o {b0 : Nat} {cid : Nat → ClassId} {S : HS} {c k : Nat} (h : hK S c = k) (hk : k < 13) : hcell b0 cid S c = .inr (k, hfl b0 S c 0 (hflds k)) := by
  subst h
  exact if_pos hk
theorem hcell_i {b0 : Nat} {cid : Nat → ClassId} {S : HS} {c k : Nat} (h : hK S c = k) (h1 : 13 ≤ k) (h2 : k < 16) : hcell b0 cid S c = .inl (cid k, hL S c, .inl (hI S c)) := by
  subst h
  unfold hcell
  rw [if_neg (by omega), if_pos h2]
theorem hcell_q {b0 : Nat} {cid : Nat → ClassId} {S : HS} {c k : Nat} (h : hK S c = k) (h1 : 16 ≤ k) : hcell b0 cid S c = .inl (cid k, hL S c, .inr (.inr (.inr (.inr (fun j => (hP S c j).map (fun x => b0 + x)))))) := by
  subst h
  unfold hcell
  rw [if_neg (by omega), if_neg (by omega)]
/-- the heap from b0 on is S -/
def hR (b0 : Nat) (D : va_G) (cid : Nat → ClassId) (S : HS) (H : Heap) : Prop := H.size = b0 + hN S ∧ ∀ c, c < hN S → va_at D vwCl (b0 + c, hcell b0 cid S c) H
def hA (b0 : Nat) : Nat → Prop := fun q => b0 ≤ q
theorem hR.one {b0 : Nat} {D : va_G} {cid : Nat → ClassId} {S : HS} {H : Heap} (h : hR b0 D cid S H) {c : Nat} (hc : c < hN S) {e : va_E} (he : hcell b0 cid S c = e) : va_P D vwCl [(b0 + c, e)] H := by
  intro k q hk
  have hz : k < 1 := (List.getElem?_eq_some_iff.mp hk).1
  rw [show k = 0 by omega] at hk
  cases hk
  rw [← he]
  exact h.2 c hc
theorem hD1 {b0 c : Nat} {e : va_E} : va_D (hA b0) [(b0 + c, e)] := by
  refine ⟨fun i j p q hi hj _ => ?_, fun k q hk => ?_⟩
  · have h1 : i < 1 := (List.getElem?_eq_some_iff.mp hi).1
    have h2 : j < 1 := (List.getElem?_eq_some_iff.mp hj).1
    omega
  · have hz : k < 1 := (List.getElem?_eq_some_iff.mp hk).1
    rw [show k = 0 by omega] at hk
    cases hk
    show b0 ≤ b0 + c
    omega
/-- one cell is changed -/
theorem hR.to {b0 : Nat} {D : va_G} {cid : Nat → ClassId} {S S' : HS} {H H1 : Heap} (h : hR b0 D cid S H) {c : Nat} {e : va_E} (hn : hN S' = hN S) (he : hcell b0 cid S' c = e) (ho : ∀ a, a ≠ c → hcell b0 cid S' a = hcell b0 cid S a)
    (h1 : va_at D vwCl (b0 + c, e) H1) (oq : ∀ q : Nat, q ≠ b0 + c → H1[q]? = H[q]?) (z : H1.size = H.size) : hR b0 D cid S' H1 := by
  refine ⟨by rw [z, h.1, hn], fun a ha => ?_⟩
  rw [hn] at ha
  by_cases hac : a = c
  · subst hac
    rw [he]
    exact h1
  · rw [ho a hac]
    exact (h.2 a ha).kept (oq (b0 + a) (by omega))
/-- a cell is made -/
theorem hR.push {b0 : Nat} {D : va_G} {cid : Nat → ClassId} {S : HS} {kd ln : Nat} {H H1 : Heap} (h : hR b0 D cid S H) (h1 : va_at D vwCl (b0 + hN S, hcell b0 cid (wN S kd ln) (hN S)) H1) (oq : ∀ q : Nat, q < H.size → H1[q]? = H[q]?) (z : H1.size = H.size + 1) : hR b0 D cid (wN S kd ln) H1 := by
  refine ⟨by rw [z, h.1, hN_wN]; omega, fun a ha => ?_⟩
  rw [hN_wN] at ha
  by_cases hac : a = hN S
  · subst hac
    exact h1
  · have hlt : a < hN S := by omega
    have e : hcell b0 cid (wN S kd ln) a = hcell b0 cid S a := by
      unfold hcell
      rw [hK_wN, hL_wN, if_neg hac, if_neg hac]
      have e1 : ∀ j, hI (wN S kd ln) a j = hI S a j := fun j => by rw [hI_wN, if_neg hac]
      have e2 : ∀ j, hP (wN S kd ln) a j = hP S a j := fun j => by rw [hP_wN, if_neg hac]
      have e3 : ∀ bs i, hfl b0 (wN S kd ln) a i bs = hfl b0 S a i bs := by
        intro bs
        induction bs with
        | nil => intro i; rfl
        | cons r rs ih =>
          intro i
          show hval b0 (wN S kd ln) a i r :: _ = hval b0 S a i r :: _
          rw [ih]
          cases r <;> simp [hval, e1, e2]
      rw [e3, show hI (wN S kd ln) a = hI S a from funext e1, show hP (wN S kd ln) a = hP S a from funext e2]
    rw [e]
    exact (h.2 a hlt).kept (oq (b0 + a) (by rw [h.1]; omega))
/-- the kinds of arrays -/
def htys (cid : Nat → ClassId) : List (ClassId × FieldType) := [(cid 13, .byte), (cid 14, .int), (cid 15, .boolean), (cid 16, .object RX2), (cid 17, .object RX3), (cid 18, .object RX5), (cid 19, .object RX6), (cid 20, .object RX7), (cid 21, .object RX9)]
abbrev hG : Type := (va_G × (Nat → ClassId)) × ((Nat → Nat) × (Nat → Nat))
/-- the texts of Tape: places in its constant pool, texts, lengths, bytes -/
def hSi : List Nat := [31, 41, 46, 96, 114, 116, 118, 129, 131, 133, 135]
def hSt : List String := ["disc", "thread", "hand", "when", "above", "below", "pull", "wound", "pace", "give", "tick"]
def hSl : List Nat := [4, 6, 4, 4, 5, 5, 4, 5, 4, 4, 4]
def hSb : List (List Int32) := [[100, 105, 115, 99], [116, 104, 114, 101, 97, 100], [104, 97, 110, 100], [119, 104, 101, 110], [97, 98, 111, 118, 101], [98, 101, 108, 111, 119], [112, 117, 108, 108], [119, 111, 117, 110, 100], [112, 97, 99, 101], [103, 105, 118, 101], [116, 105, 99, 107]]
/-- constructors that a nest mate calls -/
def hNw : List (String × Nat × MethodName) := [(RX4, 11, yX8_init), (RX9, 9, yX8_init), (RX10, 21, yX1_init), (RX10, 95, yX5_init), (RX11, 17, yX10_init), (RX11, 24, yX9_init), (RX11, 35, yX4_init), (RX11, 42, yX0_init), (RX11, 52, yX6_init)]
/-- what a state says of the cells below b0 and of the tables, beside va_K -/
def hX (b0 : Nat) (G : hG) (U : State) : Prop :=
  (va_AO RX2 U ∧ va_AO RX3 U ∧ va_AO RX5 U ∧ va_AO RX6 U ∧ va_AO RX7 U ∧ va_AO RX9 U) ∧ (∀ i, i < 11 → vk_R RX10 (hSi.getD i 0) (hSt.getD i "") (G.2.1 i) U) ∧ vk_S 11 hSl hSb G.2.1 G.2.2 (hA b0) U U.heap ∧ va_Z "java/lang/String" "COMPACT_STRINGS" "Z" (.int 1) (hA b0) U U.heap ∧ va_Zq "jdk/internal/util/Preconditions" "SIOOBE_FORMATTER" "Ljava/util/function/BiFunction;" (hA b0) U U.heap ∧ (∀ q ∈ hNw, va_Nw (.methodLinkNest q.1 q.2.1 q.2.2 RX11) U)
/-- the state that a method starts from -/
def hB (b0 : Nat) (G : hG) (S : HS) (U : State) : Prop := hR b0 G.1.1 G.1.2 S U.heap ∧ va_K G.1.1 vwCl (htys G.1.2) U ∧ hX b0 G U
/-- the state that a method ends in, its answer v -/
def hQ (b0 : Nat) (G : hG) (v : Option Value) (S1 : HS) : Array Value → State → Outcome → State → Prop := fun _ st oc t => oc = .returned v ∧ hR b0 G.1.1 G.1.2 S1 t.heap ∧ va_F (hA b0) st t
def MH (l : Launch) (y : MethodName) (ws : List Cond) (rm : Room) (b0 : Nat) (G : hG) (S : HS) (av : List Value) (v : Option Value) (S1 : HS) (mc ms : Nat) : Prop := Met l y ws rm (va_Pc av (hB b0 G S)) (hQ b0 G v S1) mc ms (hA b0)
theorem hX.to {b0 : Nat} {G : hG} {s U : State} {locs : List Loc} (h : hX b0 G s) (hW : s.WarmedH U.vm) (hS : va_S (hA b0) s.heap U.heap locs) : hX b0 G U := by
  obtain ⟨⟨a1, a2, a3, a4, a5, a6⟩, h2, h3, h4, h5, h6⟩ := h
  have hv := hW.alike
  exact ⟨⟨a1.moved hv, a2.moved hv, a3.moved hv, a4.moved hv, a5.moved hv, a6.moved hv⟩, fun i hi => (h2 i hi).warm hW, (h3.moved hv).kept hS.2.1, (h4.moved hv).kept hS.2.1, (h5.moved hv).kept hS.2.1, fun q hq => (h6 q hq).warmM hW⟩
theorem hX.same {b0 : Nat} {G : hG} {u U : State} (h : hX b0 G u) (hv : U.vm = u.vm) (hh : U.heap = u.heap) : hX b0 G U := by
  obtain ⟨⟨a1, a2, a3, a4, a5, a6⟩, h2, h3, h4, h5, h6⟩ := h
  have ha : u.vm.Alike U.vm := by rw [hv]; exact Vm.Alike.refl u.vm
  refine ⟨⟨a1.moved ha, a2.moved ha, a3.moved ha, a4.moved ha, a5.moved ha, a6.moved ha⟩, fun i hi => (h2 i hi).same hv, ?_⟩
  rw [hh]
  exact ⟨h3.moved ha, h4.moved ha, h5.moved ha, fun q hq => (h6 q hq).same rfl hv.symm⟩
theorem hB.blind {b0 : Nat} {G : hG} {S : HS} {av : List Value} : FrameBlind (va_Pc av (hB b0 G S)) := fun a U g mk q =>
  ⟨q.1, q.2.1, va_K.moved (u := U) (U := U.calling g mk a) (Vm.Alike.refl U.vm) q.2.2.1, hX.same (U := U.calling g mk a) q.2.2.2 rfl rfl⟩
/-! ===== ROWS OVER THAT HEAP ===== -/
def lvs (lv : List (Nat × Value)) (i : Nat) : List (Nat × Value) := lv.filter (fun q => !(q.1 == i) && !(q.1 + 1 == i && q.2.category == 2))
def lvs2 (lv : List (Nat × Value)) (i : Nat) : List (Nat × Value) := lv.filter (fun q => !(q.1 == i) && (!(q.1 == i + 1) && !(q.1 + 1 == i && q.2.category == 2)))
/-- what a method's walk stands on -/
def hE (p : Program) (s : State) (m : MethodId) (args : Array Value) (c : Code) (b0 : Nat) (G : hG) (cc : ByteArray) (own : String) (nL : Nat) (Ts : List Cond) : Prop :=
  p.tables.exec = Jvm.exec ∧ c.code = cc ∧ c.maxLocals = nL ∧ s.vm.findClass own = some m.cls ∧ (∀ w ∈ Ts, w.before args s = true) ∧ va_K G.1.1 vwCl (htys G.1.2) s ∧ hX b0 G s
def WH (p : Program) (l : Launch) (e : Env) (R : Room) (s : State) (m : MethodId) (args : Array Value) (below : List Frame) (meth : Method) (c : Code) (b0 : Nat) (G : hG) (nL : Nat) (cells slots : Nat) (Q : State → Prop) (S : HS) (pc : Nat) (lv : List (Nat × Value)) (st : List Value) : Prop :=
  ∀ (H : Heap) (locs : List Loc) (ls : Array Slot), hR b0 G.1.1 G.1.2 S H → va_S (hA b0) s.heap H locs → lv_has ls nL lv → W p l e R s m args below meth c H locs cells slots Q (F0 m pc ls st)
section HROWS
variable {p : Program} {l : Launch} {e : Env} {R : Room} {s : State} {m : MethodId} {args : Array Value} {below : List Frame} {meth : Method} {c : Code}
variable {b0 : Nat} {G : hG} {cc : ByteArray} {own : String} {nL : Nat} {Ts : List Cond} {cells slots : Nat} {Q : State → Prop} {S : HS} {pc : Nat} {lv : List (Nat × Value)} {st : List Value}

theorem rw_iload (E : hE p s m args c b0 G cc own nL Ts) {i : Nat} {x : Int32} {j0 : Nat} (hl : lv[j0]? = some (i, Value.int x)) (hdg : decode cc pc = .ok (.iload i, 2)) (k : WH p l e R s m args below meth c b0 G nL cells slots Q S (pc + 2) lv (.int x :: st)) : WH p l e R s m args below meth c b0 G nL cells slots Q S pc lv st := fun H locs ls hR hS hl2 => lv_iload E.1 E.2.1 hdg (hl2.2.2 _ (List.mem_of_getElem? hl)) (k H locs ls hR hS hl2)
theorem rw_iload_n (E : hE p s m args c b0 G cc own nL Ts) {k0 : Fin 4} {i : Nat} {x : Int32} (hi : (k0 : Nat) = i) {j0 : Nat} (hl : lv[j0]? = some (i, Value.int x)) (hdg : decode cc pc = .ok (.iload_n k0, 1)) (k : WH p l e R s m args below meth c b0 G nL cells slots Q S (pc + 1) lv (.int x :: st)) : WH p l e R s m args below meth c b0 G nL cells slots Q S pc lv st := fun H locs ls hR hS hl2 => lv_iload_n E.1 E.2.1 hdg hi (hl2.2.2 _ (List.mem_of_getElem? hl)) (k H locs ls hR hS hl2)
theorem rw_lload (E : hE p s m args c b0 G cc own nL Ts) {i : Nat} {x : Int64} {j0 : Nat} (hl : lv[j0]? = some (i, .long x)) (hdg : decode cc pc = .ok (.lload i, 2)) (k : WH p l e R s m args below meth c b0 G nL cells slots Q S (pc + 2) lv (.long x :: st)) : WH p l e R s m args below meth c b0 G nL cells slots Q S pc lv st := fun H locs ls hR hS hl2 => lv_lload E.1 E.2.1 hdg (hl2.2.2 _ (List.mem_of_getElem? hl)) (k H locs ls hR hS hl2)
theorem rw_lload_n (E : hE p s m args c b0 G cc own nL Ts) {k0 : Fin 4} {i : Nat} {x : Int64} (hi : (k0 : Nat) = i) {j0 : Nat} (hl : lv[j0]? = some (i, .long x)) (hdg : decode cc pc = .ok (.lload_n k0, 1)) (k : WH p l e R s m args below meth c b0 G nL cells slots Q S (pc + 1) lv (.long x :: st)) : WH p l e R s m args below meth c b0 G nL cells slots Q S pc lv st := fun H locs ls hR hS hl2 => lv_lload_n E.1 E.2.1 hdg hi (hl2.2.2 _ (List.mem_of_getElem? hl)) (k H locs ls hR hS hl2)
theorem rw_aload (E : hE p s m args c b0 G cc own nL Ts) {i : Nat} {o : Option Nat} {j0 : Nat} (hl : lv[j0]? = some (i, hrf b0 o)) (hdg : decode cc pc = .ok (.aload i, 2)) (k : WH p l e R s m args below meth c b0 G nL cells slots Q S (pc + 2) lv (hrf b0 o :: st)) : WH p l e R s m args below meth c b0 G nL cells slots Q S pc lv st := fun H locs ls hR hS hl2 => by
  have h1 := hl2.2.2 _ (List.mem_of_getElem? hl)
  have k1 := k H locs ls hR hS hl2
  cases o with
  | none => exact lv_aloadN E.1 E.2.1 hdg h1 k1
  | some x => exact lv_aload E.1 E.2.1 hdg h1 k1
theorem rw_aload_n (E : hE p s m args c b0 G cc own nL Ts) {k0 : Fin 4} {i : Nat} {o : Option Nat} (hi : (k0 : Nat) = i) {j0 : Nat} (hl : lv[j0]? = some (i, hrf b0 o)) (hdg : decode cc pc = .ok (.aload_n k0, 1)) (k : WH p l e R s m args below meth c b0 G nL cells slots Q S (pc + 1) lv (hrf b0 o :: st)) : WH p l e R s m args below meth c b0 G nL cells slots Q S pc lv st := fun H locs ls hR hS hl2 => by
  have h1 := hl2.2.2 _ (List.mem_of_getElem? hl)
  have k1 := k H locs ls hR hS hl2
  cases o with
  | none => exact lv_aload_nN E.1 E.2.1 hdg hi h1 k1
  | some x => exact lv_aload_n E.1 E.2.1 hdg hi h1 k1
theorem rw_istore (E : hE p s m args c b0 G cc own nL Ts) {i : Nat} {x : Int32} {lv2 : List (Nat × Value)} (hn : i < nL) (hl : (i, Value.int x) :: lvs lv i = lv2) (hdg : decode cc pc = .ok (.istore i, 2)) (k : WH p l e R s m args below meth c b0 G nL cells slots Q S (pc + 2) lv2 st) : WH p l e R s m args below meth c b0 G nL cells slots Q S pc lv (.int x :: st) := fun H locs ls hR hS hl2 => lv_istore (lv' := lv2) E.1 E.2.1 hdg hl2 hn hl (fun ls2 hl3 => k H locs ls2 hR hS hl3)
theorem rw_istore_n (E : hE p s m args c b0 G cc own nL Ts) {k0 : Fin 4} {i : Nat} {x : Int32} {lv2 : List (Nat × Value)} (hi : (k0 : Nat) = i) (hn : i < nL) (hl : (i, Value.int x) :: lvs lv i = lv2) (hdg : decode cc pc = .ok (.istore_n k0, 1)) (k : WH p l e R s m args below meth c b0 G nL cells slots Q S (pc + 1) lv2 st) : WH p l e R s m args below meth c b0 G nL cells slots Q S pc lv (.int x :: st) := fun H locs ls hR hS hl2 => lv_istore_n (lv' := lv2) E.1 E.2.1 hdg hi hl2 hn hl (fun ls2 hl3 => k H locs ls2 hR hS hl3)
theorem rw_lstore (E : hE p s m args c b0 G cc own nL Ts) {i : Nat} {x : Int64} {lv2 : List (Nat × Value)} (hn : i + 1 < nL) (hl : (i, Value.long x) :: lvs2 lv i = lv2) (hdg : decode cc pc = .ok (.lstore i, 2)) (k : WH p l e R s m args below meth c b0 G nL cells slots Q S (pc + 2) lv2 st) : WH p l e R s m args below meth c b0 G nL cells slots Q S pc lv (.long x :: st) := fun H locs ls hR hS hl2 => lv_lstore (lv' := lv2) E.1 E.2.1 hdg hl2 hn hl (fun ls2 hl3 => k H locs ls2 hR hS hl3)
theorem rw_lstore_n (E : hE p s m args c b0 G cc own nL Ts) {k0 : Fin 4} {i : Nat} {x : Int64} {lv2 : List (Nat × Value)} (hi : (k0 : Nat) = i) (hn : i + 1 < nL) (hl : (i, Value.long x) :: lvs2 lv i = lv2) (hdg : decode cc pc = .ok (.lstore_n k0, 1)) (k : WH p l e R s m args below meth c b0 G nL cells slots Q S (pc + 1) lv2 st) : WH p l e R s m args below meth c b0 G nL cells slots Q S pc lv (.long x :: st) := fun H locs ls hR hS hl2 => lv_lstore_n (lv' := lv2) E.1 E.2.1 hdg hi hl2 hn hl (fun ls2 hl3 => k H locs ls2 hR hS hl3)
theorem rw_astore (E : hE p s m args c b0 G cc own nL Ts) {i : Nat} {o : Option Nat} {lv2 : List (Nat × Value)} (hn : i < nL) (hl : (i, hrf b0 o) :: lvs lv i = lv2) (hdg : decode cc pc = .ok (.astore i, 2)) (k : WH p l e R s m args below meth c b0 G nL cells slots Q S (pc + 2) lv2 st) : WH p l e R s m args below meth c b0 G nL cells slots Q S pc lv (hrf b0 o :: st) := fun H locs ls hR hS hl2 => by
  cases o with
  | none => exact lv_astoreN (lv' := lv2) E.1 E.2.1 hdg hl2 hn hl (fun ls2 hl3 => k H locs ls2 hR hS hl3)
  | some x => exact lv_astore (lv' := lv2) E.1 E.2.1 hdg hl2 hn hl (fun ls2 hl3 => k H locs ls2 hR hS hl3)
theorem rw_astore_n (E : hE p s m args c b0 G cc own nL Ts) {k0 : Fin 4} {i : Nat} {o : Option Nat} {lv2 : List (Nat × Value)} (hi : (k0 : Nat) = i) (hn : i < nL) (hl : (i, hrf b0 o) :: lvs lv i = lv2) (hdg : decode cc pc = .ok (.astore_n k0, 1)) (k : WH p l e R s m args below meth c b0 G nL cells slots Q S (pc + 1) lv2 st) : WH p l e R s m args below meth c b0 G nL cells slots Q S pc lv (hrf b0 o :: st) := fun H locs ls hR hS hl2 => by
  cases o with
  | none => exact lv_astore_nN (lv' := lv2) E.1 E.2.1 hdg hi hl2 hn hl (fun ls2 hl3 => k H locs ls2 hR hS hl3)
  | some x => exact lv_astore_n (lv' := lv2) E.1 E.2.1 hdg hi hl2 hn hl (fun ls2 hl3 => k H locs ls2 hR hS hl3)
theorem rw_iinc (E : hE p s m args c b0 G cc own nL Ts) {i : Nat} {n : Int} {x v : Int32} {lv2 : List (Nat × Value)} {j0 : Nat} (hx : lv[j0]? = some (i, Value.int x)) (hv : x + Int32.ofInt n = v) (hn : i < nL) (hl : (i, Value.int v) :: lvs lv i = lv2) (hdg : decode cc pc = .ok (.iinc i n, 3)) (k : WH p l e R s m args below meth c b0 G nL cells slots Q S (pc + 3) lv2 st) : WH p l e R s m args below meth c b0 G nL cells slots Q S pc lv st := fun H locs ls hR hS hl2 => by
  obtain ⟨k0, hk0⟩ := List.getElem?_of_mem (List.mem_of_getElem? hx)
  exact lv_iinc (v := v) (lv' := lv2) E.1 E.2.1 hdg hl2 (k := k0) hk0 hv hn hl (fun ls2 hl3 => k H locs ls2 hR hS hl3)
theorem rw_iconst (E : hE p s m args c b0 G cc own nL Ts) {n : Int} {v : Int32} (hv : Int32.ofInt n = v) (hdg : decode cc pc = .ok (.iconst n, 1)) (k : WH p l e R s m args below meth c b0 G nL cells slots Q S (pc + 1) lv (.int v :: st)) : WH p l e R s m args below meth c b0 G nL cells slots Q S pc lv st := fun H locs ls hR hS hl2 => lv_iconst (v := v) E.1 E.2.1 hdg hv (k H locs ls hR hS hl2)
theorem rw_bipush (E : hE p s m args c b0 G cc own nL Ts) {n : Int} {v : Int32} (hv : (Int8.ofInt n).toInt32 = v) (hdg : decode cc pc = .ok (.bipush n, 2)) (k : WH p l e R s m args below meth c b0 G nL cells slots Q S (pc + 2) lv (.int v :: st)) : WH p l e R s m args below meth c b0 G nL cells slots Q S pc lv st := fun H locs ls hR hS hl2 => lv_bipush (v := v) E.1 E.2.1 hdg hv (k H locs ls hR hS hl2)
theorem rw_sipush (E : hE p s m args c b0 G cc own nL Ts) {n : Int} {v : Int32} (hv : (Int16.ofInt n).toInt32 = v) (hdg : decode cc pc = .ok (.sipush n, 3)) (k : WH p l e R s m args below meth c b0 G nL cells slots Q S (pc + 3) lv (.int v :: st)) : WH p l e R s m args below meth c b0 G nL cells slots Q S pc lv st := fun H locs ls hR hS hl2 => lv_sipush (v := v) E.1 E.2.1 hdg hv (k H locs ls hR hS hl2)
theorem rw_lconst (E : hE p s m args c b0 G cc own nL Ts) {n : Fin 2} {v : Int64} (hv : Int64.ofNat (n : Nat) = v) (hdg : decode cc pc = .ok (.lconst n, 1)) (k : WH p l e R s m args below meth c b0 G nL cells slots Q S (pc + 1) lv (.long v :: st)) : WH p l e R s m args below meth c b0 G nL cells slots Q S pc lv st := fun H locs ls hR hS hl2 => lv_lconst (v := v) E.1 E.2.1 hdg hv (k H locs ls hR hS hl2)
theorem rw_ldc (E : hE p s m args c b0 G cc own nL Ts) {index : Nat} {v : Int32} (hw : Cond.constant own index v ∈ Ts) (hdg : decode cc pc = .ok (.ldc index, 2)) (k : WH p l e R s m args below meth c b0 G nL cells slots Q S (pc + 2) lv (.int v :: st)) : WH p l e R s m args below meth c b0 G nL cells slots Q S pc lv st := fun H locs ls hR hS hl2 => lv_ldc (v := v) E.1 E.2.1 E.2.2.2.1 (E.2.2.2.2.1 _ hw) hdg (k H locs ls hR hS hl2)
theorem rw_ldcw (E : hE p s m args c b0 G cc own nL Ts) {index : Nat} {v : Int32} (hw : Cond.constant own index v ∈ Ts) (hdg : decode cc pc = .ok (.ldc_w index, 3)) (k : WH p l e R s m args below meth c b0 G nL cells slots Q S (pc + 3) lv (.int v :: st)) : WH p l e R s m args below meth c b0 G nL cells slots Q S pc lv st := fun H locs ls hR hS hl2 => lv_ldcw (v := v) E.1 E.2.1 E.2.2.2.1 (E.2.2.2.2.1 _ hw) hdg (k H locs ls hR hS hl2)
theorem rw_ldc2 (E : hE p s m args c b0 G cc own nL Ts) {index : Nat} {v : Int64} (hw : Cond.constantLong own index v ∈ Ts) (hdg : decode cc pc = .ok (.ldc2_w index, 3)) (k : WH p l e R s m args below meth c b0 G nL cells slots Q S (pc + 3) lv (.long v :: st)) : WH p l e R s m args below meth c b0 G nL cells slots Q S pc lv st := fun H locs ls hR hS hl2 => lv_ldc2 (v := v) E.1 E.2.1 E.2.2.2.1 (E.2.2.2.2.1 _ hw) hdg (k H locs ls hR hS hl2)
theorem rw_null (E : hE p s m args c b0 G cc own nL Ts) (hdg : decode cc pc = .ok (.aconst_null, 1)) (k : WH p l e R s m args below meth c b0 G nL cells slots Q S (pc + 1) lv (hrf b0 none :: st)) : WH p l e R s m args below meth c b0 G nL cells slots Q S pc lv st := fun H locs ls hR hS hl2 => lv_null E.1 E.2.1 hdg (k H locs ls hR hS hl2)
theorem rw_iadd (E : hE p s m args c b0 G cc own nL Ts) {x y : Int32} (hdg : decode cc pc = .ok (.iadd, 1)) (k : WH p l e R s m args below meth c b0 G nL cells slots Q S (pc + 1) lv (.int (x + y) :: st)) : WH p l e R s m args below meth c b0 G nL cells slots Q S pc lv (.int y :: .int x :: st) := fun H locs ls hR hS hl2 => lv_iadd E.1 E.2.1 hdg (k H locs ls hR hS hl2)
theorem rw_isub (E : hE p s m args c b0 G cc own nL Ts) {x y : Int32} (hdg : decode cc pc = .ok (.isub, 1)) (k : WH p l e R s m args below meth c b0 G nL cells slots Q S (pc + 1) lv (.int (x - y) :: st)) : WH p l e R s m args below meth c b0 G nL cells slots Q S pc lv (.int y :: .int x :: st) := fun H locs ls hR hS hl2 => lv_isub E.1 E.2.1 hdg (k H locs ls hR hS hl2)
theorem rw_imul (E : hE p s m args c b0 G cc own nL Ts) {x y : Int32} (hdg : decode cc pc = .ok (.imul, 1)) (k : WH p l e R s m args below meth c b0 G nL cells slots Q S (pc + 1) lv (.int (x * y) :: st)) : WH p l e R s m args below meth c b0 G nL cells slots Q S pc lv (.int y :: .int x :: st) := fun H locs ls hR hS hl2 => lv_imul E.1 E.2.1 hdg (k H locs ls hR hS hl2)
theorem rw_iand (E : hE p s m args c b0 G cc own nL Ts) {x y : Int32} (hdg : decode cc pc = .ok (.iand, 1)) (k : WH p l e R s m args below meth c b0 G nL cells slots Q S (pc + 1) lv (.int (x &&& y) :: st)) : WH p l e R s m args below meth c b0 G nL cells slots Q S pc lv (.int y :: .int x :: st) := fun H locs ls hR hS hl2 => lv_iand E.1 E.2.1 hdg (k H locs ls hR hS hl2)
theorem rw_ladd (E : hE p s m args c b0 G cc own nL Ts) {x y : Int64} (hdg : decode cc pc = .ok (.ladd, 1)) (k : WH p l e R s m args below meth c b0 G nL cells slots Q S (pc + 1) lv (.long (x + y) :: st)) : WH p l e R s m args below meth c b0 G nL cells slots Q S pc lv (.long y :: .long x :: st) := fun H locs ls hR hS hl2 => lv_ladd E.1 E.2.1 hdg (k H locs ls hR hS hl2)
theorem rw_lsub (E : hE p s m args c b0 G cc own nL Ts) {x y : Int64} (hdg : decode cc pc = .ok (.lsub, 1)) (k : WH p l e R s m args below meth c b0 G nL cells slots Q S (pc + 1) lv (.long (x - y) :: st)) : WH p l e R s m args below meth c b0 G nL cells slots Q S pc lv (.long y :: .long x :: st) := fun H locs ls hR hS hl2 => lv_lsub E.1 E.2.1 hdg (k H locs ls hR hS hl2)
theorem rw_lmul (E : hE p s m args c b0 G cc own nL Ts) {x y : Int64} (hdg : decode cc pc = .ok (.lmul, 1)) (k : WH p l e R s m args below meth c b0 G nL cells slots Q S (pc + 1) lv (.long (x * y) :: st)) : WH p l e R s m args below meth c b0 G nL cells slots Q S pc lv (.long y :: .long x :: st) := fun H locs ls hR hS hl2 => lv_lmul E.1 E.2.1 hdg (k H locs ls hR hS hl2)
theorem rw_land (E : hE p s m args c b0 G cc own nL Ts) {x y : Int64} (hdg : decode cc pc = .ok (.land, 1)) (k : WH p l e R s m args below meth c b0 G nL cells slots Q S (pc + 1) lv (.long (x &&& y) :: st)) : WH p l e R s m args below meth c b0 G nL cells slots Q S pc lv (.long y :: .long x :: st) := fun H locs ls hR hS hl2 => lv_land E.1 E.2.1 hdg (k H locs ls hR hS hl2)
theorem rw_lor (E : hE p s m args c b0 G cc own nL Ts) {x y : Int64} (hdg : decode cc pc = .ok (.lor, 1)) (k : WH p l e R s m args below meth c b0 G nL cells slots Q S (pc + 1) lv (.long (x ||| y) :: st)) : WH p l e R s m args below meth c b0 G nL cells slots Q S pc lv (.long y :: .long x :: st) := fun H locs ls hR hS hl2 => lv_lor E.1 E.2.1 hdg (k H locs ls hR hS hl2)
theorem rw_ineg (E : hE p s m args c b0 G cc own nL Ts) {x : Int32} (hdg : decode cc pc = .ok (.ineg, 1)) (k : WH p l e R s m args below meth c b0 G nL cells slots Q S (pc + 1) lv (.int (-x) :: st)) : WH p l e R s m args below meth c b0 G nL cells slots Q S pc lv (.int x :: st) := fun H locs ls hR hS hl2 => lv_ineg E.1 E.2.1 hdg (k H locs ls hR hS hl2)
theorem rw_lneg (E : hE p s m args c b0 G cc own nL Ts) {x : Int64} (hdg : decode cc pc = .ok (.lneg, 1)) (k : WH p l e R s m args below meth c b0 G nL cells slots Q S (pc + 1) lv (.long (-x) :: st)) : WH p l e R s m args below meth c b0 G nL cells slots Q S pc lv (.long x :: st) := fun H locs ls hR hS hl2 => lv_lneg E.1 E.2.1 hdg (k H locs ls hR hS hl2)
theorem rw_i2l (E : hE p s m args c b0 G cc own nL Ts) {x : Int32} (hdg : decode cc pc = .ok (.i2l, 1)) (k : WH p l e R s m args below meth c b0 G nL cells slots Q S (pc + 1) lv (.long (x.toInt64) :: st)) : WH p l e R s m args below meth c b0 G nL cells slots Q S pc lv (.int x :: st) := fun H locs ls hR hS hl2 => lv_i2l (v := x.toInt64) E.1 E.2.1 hdg rfl (k H locs ls hR hS hl2)
theorem rw_l2i (E : hE p s m args c b0 G cc own nL Ts) {x : Int64} (hdg : decode cc pc = .ok (.l2i, 1)) (k : WH p l e R s m args below meth c b0 G nL cells slots Q S (pc + 1) lv (.int (x.toInt32) :: st)) : WH p l e R s m args below meth c b0 G nL cells slots Q S pc lv (.long x :: st) := fun H locs ls hR hS hl2 => lv_l2i (v := x.toInt32) E.1 E.2.1 hdg rfl (k H locs ls hR hS hl2)
theorem rw_i2b (E : hE p s m args c b0 G cc own nL Ts) {x : Int32} (hdg : decode cc pc = .ok (.i2b, 1)) (k : WH p l e R s m args below meth c b0 G nL cells slots Q S (pc + 1) lv (.int (x.toInt8.toInt32) :: st)) : WH p l e R s m args below meth c b0 G nL cells slots Q S pc lv (.int x :: st) := fun H locs ls hR hS hl2 => lv_i2b (v := x.toInt8.toInt32) E.1 E.2.1 hdg rfl (k H locs ls hR hS hl2)
theorem rw_i2s (E : hE p s m args c b0 G cc own nL Ts) {x : Int32} (hdg : decode cc pc = .ok (.i2s, 1)) (k : WH p l e R s m args below meth c b0 G nL cells slots Q S (pc + 1) lv (.int (x.toInt16.toInt32) :: st)) : WH p l e R s m args below meth c b0 G nL cells slots Q S pc lv (.int x :: st) := fun H locs ls hR hS hl2 => lv_i2s (v := x.toInt16.toInt32) E.1 E.2.1 hdg rfl (k H locs ls hR hS hl2)
theorem rw_lshl (E : hE p s m args c b0 G cc own nL Ts) {x : Int64} {y : Int32} (hdg : decode cc pc = .ok (.lshl, 1)) (k : WH p l e R s m args below meth c b0 G nL cells slots Q S (pc + 1) lv (.long (x <<< (y.toInt64 &&& 63)) :: st)) : WH p l e R s m args below meth c b0 G nL cells slots Q S pc lv (.int y :: .long x :: st) := fun H locs ls hR hS hl2 => lv_lshl (v := x <<< (y.toInt64 &&& 63)) E.1 E.2.1 hdg rfl (k H locs ls hR hS hl2)
theorem rw_lshr (E : hE p s m args c b0 G cc own nL Ts) {x : Int64} {y : Int32} (hdg : decode cc pc = .ok (.lshr, 1)) (k : WH p l e R s m args below meth c b0 G nL cells slots Q S (pc + 1) lv (.long (x >>> (y.toInt64 &&& 63)) :: st)) : WH p l e R s m args below meth c b0 G nL cells slots Q S pc lv (.int y :: .long x :: st) := fun H locs ls hR hS hl2 => lv_lshr (v := x >>> (y.toInt64 &&& 63)) E.1 E.2.1 hdg rfl (k H locs ls hR hS hl2)
theorem rw_lcmp (E : hE p s m args c b0 G cc own nL Ts) {x y : Int64} (hdg : decode cc pc = .ok (.lcmp, 1)) (k : WH p l e R s m args below meth c b0 G nL cells slots Q S (pc + 1) lv (.int (lg_cmp x y) :: st)) : WH p l e R s m args below meth c b0 G nL cells slots Q S pc lv (.long y :: .long x :: st) := fun H locs ls hR hS hl2 => W.lcmp E.1 E.2.1 hdg (k H locs ls hR hS hl2)
theorem rw_dup (E : hE p s m args c b0 G cc own nL Ts) {v : Value} (hv : v.category = 1) (hdg : decode cc pc = .ok (.dup, 1)) (k : WH p l e R s m args below meth c b0 G nL cells slots Q S (pc + 1) lv (v :: v :: st)) : WH p l e R s m args below meth c b0 G nL cells slots Q S pc lv (v :: st) := fun H locs ls hR hS hl2 => lv_dup E.1 E.2.1 hdg hv (k H locs ls hR hS hl2)
theorem rw_dup_x1 (E : hE p s m args c b0 G cc own nL Ts) {v w : Value} (hv : v.category = 1) (hw : w.category = 1) (hdg : decode cc pc = .ok (.dup_x1, 1)) (k : WH p l e R s m args below meth c b0 G nL cells slots Q S (pc + 1) lv (v :: w :: v :: st)) : WH p l e R s m args below meth c b0 G nL cells slots Q S pc lv (v :: w :: st) := fun H locs ls hR hS hl2 => lv_dup_x1 E.1 E.2.1 hdg hv hw (k H locs ls hR hS hl2)
theorem rw_dup2 (E : hE p s m args c b0 G cc own nL Ts) {v w : Value} (hv : v.category = 1) (hw : w.category = 1) (hdg : decode cc pc = .ok (.dup2, 1)) (k : WH p l e R s m args below meth c b0 G nL cells slots Q S (pc + 1) lv (v :: w :: v :: w :: st)) : WH p l e R s m args below meth c b0 G nL cells slots Q S pc lv (v :: w :: st) := fun H locs ls hR hS hl2 => lv_dup2_11 E.1 E.2.1 hdg hv hw (k H locs ls hR hS hl2)
theorem rw_goto (E : hE p s m args c b0 G cc own nL Ts) {off : Int} {tgt : Nat} (ht : (pc : Int) + off = (tgt : Int)) (hdg : decode cc pc = .ok (.goto off, 3)) (k : WH p l e R s m args below meth c b0 G nL cells slots Q S tgt lv st) : WH p l e R s m args below meth c b0 G nL cells slots Q S pc lv st := fun H locs ls hR hS hl2 => lv_goto (tgt := tgt) E.1 E.2.1 hdg ht (k H locs ls hR hS hl2)
theorem cat_i (x : Int32) : (Value.int x).category = 1 := rfl
theorem cat_l (x : Int64) : (Value.long x).category = 2 := rfl
theorem cat_r (x : Nat) : (Value.ref x).category = 1 := rfl
theorem hrf_cat    : ∀ (b0 : Nat) (o : Option Nat), (hrf b0 o).category = 1 := fun b0 o => by cases o <;> rfl
variable {α : Type} {res : α}
theorem rw_icmp_eq (E : hE p s m args c b0 G cc own nL Ts) {x y : Int32} {off : Int} {tgt : Nat} {t f : Option α} (h : (if x = y then t else f) = some res) (ht : (pc : Int) + off = (tgt : Int)) (hdg : decode cc pc = .ok (.if_icmp .eq off, 3)) (kt : t = some res → WH p l e R s m args below meth c b0 G nL cells slots Q S tgt lv st) (kf : f = some res → WH p l e R s m args below meth c b0 G nL cells slots Q S (pc + 3) lv st) : WH p l e R s m args below meth c b0 G nL cells slots Q S pc lv (.int y :: .int x :: st) := fun H locs ls hR hS hl2 => lv_icmp_eq (tgt := tgt) E.1 E.2.1 hdg ht (fun h1 => kt (by rw [if_pos h1] at h; exact h) H locs ls hR hS hl2) (fun h1 => kf (by rw [if_neg h1] at h; exact h) H locs ls hR hS hl2)
theorem rw_if_eq (E : hE p s m args c b0 G cc own nL Ts) {x : Int32} {off : Int} {tgt : Nat} {t f : Option α} (h : (if x = 0 then t else f) = some res) (ht : (pc : Int) + off = (tgt : Int)) (hdg : decode cc pc = .ok (.ifCond .eq off, 3)) (kt : t = some res → WH p l e R s m args below meth c b0 G nL cells slots Q S tgt lv st) (kf : f = some res → WH p l e R s m args below meth c b0 G nL cells slots Q S (pc + 3) lv st) : WH p l e R s m args below meth c b0 G nL cells slots Q S pc lv (.int x :: st) := fun H locs ls hR hS hl2 => lv_if_eq (tgt := tgt) E.1 E.2.1 hdg ht (fun h1 => kt (by rw [if_pos h1] at h; exact h) H locs ls hR hS hl2) (fun h1 => kf (by rw [if_neg h1] at h; exact h) H locs ls hR hS hl2)
theorem rw_icmp_ne (E : hE p s m args c b0 G cc own nL Ts) {x y : Int32} {off : Int} {tgt : Nat} {t f : Option α} (h : (if x = y then f else t) = some res) (ht : (pc : Int) + off = (tgt : Int)) (hdg : decode cc pc = .ok (.if_icmp .ne off, 3)) (kt : t = some res → WH p l e R s m args below meth c b0 G nL cells slots Q S tgt lv st) (kf : f = some res → WH p l e R s m args below meth c b0 G nL cells slots Q S (pc + 3) lv st) : WH p l e R s m args below meth c b0 G nL cells slots Q S pc lv (.int y :: .int x :: st) := fun H locs ls hR hS hl2 => lv_icmp_ne (tgt := tgt) E.1 E.2.1 hdg ht (fun h1 => kt (by rw [if_neg h1] at h; exact h) H locs ls hR hS hl2) (fun h1 => kf (by rw [if_pos h1] at h; exact h) H locs ls hR hS hl2)
theorem rw_if_ne (E : hE p s m args c b0 G cc own nL Ts) {x : Int32} {off : Int} {tgt : Nat} {t f : Option α} (h : (if x = 0 then f else t) = some res) (ht : (pc : Int) + off = (tgt : Int)) (hdg : decode cc pc = .ok (.ifCond .ne off, 3)) (kt : t = some res → WH p l e R s m args below meth c b0 G nL cells slots Q S tgt lv st) (kf : f = some res → WH p l e R s m args below meth c b0 G nL cells slots Q S (pc + 3) lv st) : WH p l e R s m args below meth c b0 G nL cells slots Q S pc lv (.int x :: st) := fun H locs ls hR hS hl2 => lv_if_ne (tgt := tgt) E.1 E.2.1 hdg ht (fun h1 => kt (by rw [if_neg h1] at h; exact h) H locs ls hR hS hl2) (fun h1 => kf (by rw [if_pos h1] at h; exact h) H locs ls hR hS hl2)
theorem rw_icmp_lt (E : hE p s m args c b0 G cc own nL Ts) {x y : Int32} {off : Int} {tgt : Nat} {t f : Option α} (h : (if x < y then t else f) = some res) (ht : (pc : Int) + off = (tgt : Int)) (hdg : decode cc pc = .ok (.if_icmp .lt off, 3)) (kt : t = some res → WH p l e R s m args below meth c b0 G nL cells slots Q S tgt lv st) (kf : f = some res → WH p l e R s m args below meth c b0 G nL cells slots Q S (pc + 3) lv st) : WH p l e R s m args below meth c b0 G nL cells slots Q S pc lv (.int y :: .int x :: st) := fun H locs ls hR hS hl2 => lv_icmp_lt (tgt := tgt) E.1 E.2.1 hdg ht (fun h1 => kt (by rw [if_pos h1] at h; exact h) H locs ls hR hS hl2) (fun h1 => kf (by rw [if_neg h1] at h; exact h) H locs ls hR hS hl2)
theorem rw_if_lt (E : hE p s m args c b0 G cc own nL Ts) {x : Int32} {off : Int} {tgt : Nat} {t f : Option α} (h : (if x < 0 then t else f) = some res) (ht : (pc : Int) + off = (tgt : Int)) (hdg : decode cc pc = .ok (.ifCond .lt off, 3)) (kt : t = some res → WH p l e R s m args below meth c b0 G nL cells slots Q S tgt lv st) (kf : f = some res → WH p l e R s m args below meth c b0 G nL cells slots Q S (pc + 3) lv st) : WH p l e R s m args below meth c b0 G nL cells slots Q S pc lv (.int x :: st) := fun H locs ls hR hS hl2 => lv_if_lt (tgt := tgt) E.1 E.2.1 hdg ht (fun h1 => kt (by rw [if_pos h1] at h; exact h) H locs ls hR hS hl2) (fun h1 => kf (by rw [if_neg h1] at h; exact h) H locs ls hR hS hl2)
theorem rw_icmp_ge (E : hE p s m args c b0 G cc own nL Ts) {x y : Int32} {off : Int} {tgt : Nat} {t f : Option α} (h : (if y ≤ x then t else f) = some res) (ht : (pc : Int) + off = (tgt : Int)) (hdg : decode cc pc = .ok (.if_icmp .ge off, 3)) (kt : t = some res → WH p l e R s m args below meth c b0 G nL cells slots Q S tgt lv st) (kf : f = some res → WH p l e R s m args below meth c b0 G nL cells slots Q S (pc + 3) lv st) : WH p l e R s m args below meth c b0 G nL cells slots Q S pc lv (.int y :: .int x :: st) := fun H locs ls hR hS hl2 => lv_icmp_ge (tgt := tgt) E.1 E.2.1 hdg ht (fun h1 => kt (by rw [if_pos h1] at h; exact h) H locs ls hR hS hl2) (fun h1 => kf (by rw [if_neg h1] at h; exact h) H locs ls hR hS hl2)
theorem rw_if_ge (E : hE p s m args c b0 G cc own nL Ts) {x : Int32} {off : Int} {tgt : Nat} {t f : Option α} (h : (if 0 ≤ x then t else f) = some res) (ht : (pc : Int) + off = (tgt : Int)) (hdg : decode cc pc = .ok (.ifCond .ge off, 3)) (kt : t = some res → WH p l e R s m args below meth c b0 G nL cells slots Q S tgt lv st) (kf : f = some res → WH p l e R s m args below meth c b0 G nL cells slots Q S (pc + 3) lv st) : WH p l e R s m args below meth c b0 G nL cells slots Q S pc lv (.int x :: st) := fun H locs ls hR hS hl2 => lv_if_ge (tgt := tgt) E.1 E.2.1 hdg ht (fun h1 => kt (by rw [if_pos h1] at h; exact h) H locs ls hR hS hl2) (fun h1 => kf (by rw [if_neg h1] at h; exact h) H locs ls hR hS hl2)
theorem rw_icmp_gt (E : hE p s m args c b0 G cc own nL Ts) {x y : Int32} {off : Int} {tgt : Nat} {t f : Option α} (h : (if y < x then t else f) = some res) (ht : (pc : Int) + off = (tgt : Int)) (hdg : decode cc pc = .ok (.if_icmp .gt off, 3)) (kt : t = some res → WH p l e R s m args below meth c b0 G nL cells slots Q S tgt lv st) (kf : f = some res → WH p l e R s m args below meth c b0 G nL cells slots Q S (pc + 3) lv st) : WH p l e R s m args below meth c b0 G nL cells slots Q S pc lv (.int y :: .int x :: st) := fun H locs ls hR hS hl2 => lv_icmp_gt (tgt := tgt) E.1 E.2.1 hdg ht (fun h1 => kt (by rw [if_pos h1] at h; exact h) H locs ls hR hS hl2) (fun h1 => kf (by rw [if_neg h1] at h; exact h) H locs ls hR hS hl2)
theorem rw_if_gt (E : hE p s m args c b0 G cc own nL Ts) {x : Int32} {off : Int} {tgt : Nat} {t f : Option α} (h : (if 0 < x then t else f) = some res) (ht : (pc : Int) + off = (tgt : Int)) (hdg : decode cc pc = .ok (.ifCond .gt off, 3)) (kt : t = some res → WH p l e R s m args below meth c b0 G nL cells slots Q S tgt lv st) (kf : f = some res → WH p l e R s m args below meth c b0 G nL cells slots Q S (pc + 3) lv st) : WH p l e R s m args below meth c b0 G nL cells slots Q S pc lv (.int x :: st) := fun H locs ls hR hS hl2 => lv_if_gt (tgt := tgt) E.1 E.2.1 hdg ht (fun h1 => kt (by rw [if_pos h1] at h; exact h) H locs ls hR hS hl2) (fun h1 => kf (by rw [if_neg h1] at h; exact h) H locs ls hR hS hl2)
theorem rw_icmp_le (E : hE p s m args c b0 G cc own nL Ts) {x y : Int32} {off : Int} {tgt : Nat} {t f : Option α} (h : (if x ≤ y then t else f) = some res) (ht : (pc : Int) + off = (tgt : Int)) (hdg : decode cc pc = .ok (.if_icmp .le off, 3)) (kt : t = some res → WH p l e R s m args below meth c b0 G nL cells slots Q S tgt lv st) (kf : f = some res → WH p l e R s m args below meth c b0 G nL cells slots Q S (pc + 3) lv st) : WH p l e R s m args below meth c b0 G nL cells slots Q S pc lv (.int y :: .int x :: st) := fun H locs ls hR hS hl2 => lv_icmp_le (tgt := tgt) E.1 E.2.1 hdg ht (fun h1 => kt (by rw [if_pos h1] at h; exact h) H locs ls hR hS hl2) (fun h1 => kf (by rw [if_neg h1] at h; exact h) H locs ls hR hS hl2)
theorem rw_if_le (E : hE p s m args c b0 G cc own nL Ts) {x : Int32} {off : Int} {tgt : Nat} {t f : Option α} (h : (if x ≤ 0 then t else f) = some res) (ht : (pc : Int) + off = (tgt : Int)) (hdg : decode cc pc = .ok (.ifCond .le off, 3)) (kt : t = some res → WH p l e R s m args below meth c b0 G nL cells slots Q S tgt lv st) (kf : f = some res → WH p l e R s m args below meth c b0 G nL cells slots Q S (pc + 3) lv st) : WH p l e R s m args below meth c b0 G nL cells slots Q S pc lv (.int x :: st) := fun H locs ls hR hS hl2 => lv_if_le (tgt := tgt) E.1 E.2.1 hdg ht (fun h1 => kt (by rw [if_pos h1] at h; exact h) H locs ls hR hS hl2) (fun h1 => kf (by rw [if_neg h1] at h; exact h) H locs ls hR hS hl2)
theorem rw_ifnull (E : hE p s m args c b0 G cc own nL Ts) {o : Option Nat} {off : Int} {tgt : Nat} {t f : Option α} (h : (if o = none then t else f) = some res) (ht : (pc : Int) + off = (tgt : Int)) (hdg : decode cc pc = .ok (.ifnull off, 3)) (kt : t = some res → WH p l e R s m args below meth c b0 G nL cells slots Q S tgt lv st) (kf : f = some res → WH p l e R s m args below meth c b0 G nL cells slots Q S (pc + 3) lv st) : WH p l e R s m args below meth c b0 G nL cells slots Q S pc lv (hrf b0 o :: st) := fun H locs ls hR hS hl2 => by
  cases o with
  | none => exact lv_ifnullN (tgt := tgt) E.1 E.2.1 hdg ht (kt (by rw [if_pos rfl] at h; exact h) H locs ls hR hS hl2)
  | some x => exact lv_ifnull E.1 E.2.1 hdg (kf (by rw [if_neg (by simp)] at h; exact h) H locs ls hR hS hl2)
theorem rw_ifnonnull (E : hE p s m args c b0 G cc own nL Ts) {o : Option Nat} {off : Int} {tgt : Nat} {t f : Option α} (h : (if o = none then f else t) = some res) (ht : (pc : Int) + off = (tgt : Int)) (hdg : decode cc pc = .ok (.ifnonnull off, 3)) (kt : t = some res → WH p l e R s m args below meth c b0 G nL cells slots Q S tgt lv st) (kf : f = some res → WH p l e R s m args below meth c b0 G nL cells slots Q S (pc + 3) lv st) : WH p l e R s m args below meth c b0 G nL cells slots Q S pc lv (hrf b0 o :: st) := fun H locs ls hR hS hl2 => by
  cases o with
  | none => exact lv_ifnonnullN E.1 E.2.1 hdg (kf (by rw [if_pos rfl] at h; exact h) H locs ls hR hS hl2)
  | some x => exact lv_ifnonnull (tgt := tgt) E.1 E.2.1 hdg ht (kt (by rw [if_neg (by simp)] at h; exact h) H locs ls hR hS hl2)
theorem lg_lt2 (x y : Int64) : (lg_cmp x y < 0) ↔ x < y := by
  unfold lg_cmp
  simp only [gt_iff_lt, Int64.lt_iff_toInt_lt, Int64.le_iff_toInt_le, ← Int64.toInt_inj]
  split
  · constructor <;> intro h <;> first | omega | (exfalso; revert h; decide) | decide
  · split
    · constructor <;> intro h <;> first | omega | (exfalso; revert h; decide) | decide
    · constructor <;> intro h <;> first | omega | (exfalso; revert h; decide) | decide
theorem rw_llt (E : hE p s m args c b0 G cc own nL Ts) {x y : Int64} {off : Int} {tgt : Nat} {t f : Option α} (h : (if x < y then t else f) = some res) (ht : ((pc + 1 : Nat) : Int) + off = (tgt : Int)) (hd0 : decode cc pc = .ok (.lcmp, 1)) (hdg : decode cc (pc + 1) = .ok (.ifCond .lt off, 3)) (kt : t = some res → WH p l e R s m args below meth c b0 G nL cells slots Q S tgt lv st) (kf : f = some res → WH p l e R s m args below meth c b0 G nL cells slots Q S (pc + 4) lv st) : WH p l e R s m args below meth c b0 G nL cells slots Q S pc lv (.long y :: .long x :: st) := rw_lcmp E hd0 (rw_if_lt E (h := by simp only [lg_lt2]; exact h) ht hdg kt kf)
theorem lg_ge2 (x y : Int64) : (0 ≤ lg_cmp x y) ↔ y ≤ x := by
  unfold lg_cmp
  simp only [gt_iff_lt, Int64.lt_iff_toInt_lt, Int64.le_iff_toInt_le, ← Int64.toInt_inj]
  split
  · constructor <;> intro h <;> first | omega | (exfalso; revert h; decide) | decide
  · split
    · constructor <;> intro h <;> first | omega | (exfalso; revert h; decide) | decide
    · constructor <;> intro h <;> first | omega | (exfalso; revert h; decide) | decide
theorem rw_lge (E : hE p s m args c b0 G cc own nL Ts) {x y : Int64} {off : Int} {tgt : Nat} {t f : Option α} (h : (if y ≤ x then t else f) = some res) (ht : ((pc + 1 : Nat) : Int) + off = (tgt : Int)) (hd0 : decode cc pc = .ok (.lcmp, 1)) (hdg : decode cc (pc + 1) = .ok (.ifCond .ge off, 3)) (kt : t = some res → WH p l e R s m args below meth c b0 G nL cells slots Q S tgt lv st) (kf : f = some res → WH p l e R s m args below meth c b0 G nL cells slots Q S (pc + 4) lv st) : WH p l e R s m args below meth c b0 G nL cells slots Q S pc lv (.long y :: .long x :: st) := rw_lcmp E hd0 (rw_if_ge E (h := by simp only [lg_ge2]; exact h) ht hdg kt kf)
theorem lg_gt2 (x y : Int64) : (0 < lg_cmp x y) ↔ y < x := by
  unfold lg_cmp
  simp only [gt_iff_lt, Int64.lt_iff_toInt_lt, Int64.le_iff_toInt_le, ← Int64.toInt_inj]
  split
  · constructor <;> intro h <;> first | omega | (exfalso; revert h; decide) | decide
  · split
    · constructor <;> intro h <;> first | omega | (exfalso; revert h; decide) | decide
    · constructor <;> intro h <;> first | omega | (exfalso; revert h; decide) | decide
theorem rw_lgt (E : hE p s m args c b0 G cc own nL Ts) {x y : Int64} {off : Int} {tgt : Nat} {t f : Option α} (h : (if y < x then t else f) = some res) (ht : ((pc + 1 : Nat) : Int) + off = (tgt : Int)) (hd0 : decode cc pc = .ok (.lcmp, 1)) (hdg : decode cc (pc + 1) = .ok (.ifCond .gt off, 3)) (kt : t = some res → WH p l e R s m args below meth c b0 G nL cells slots Q S tgt lv st) (kf : f = some res → WH p l e R s m args below meth c b0 G nL cells slots Q S (pc + 4) lv st) : WH p l e R s m args below meth c b0 G nL cells slots Q S pc lv (.long y :: .long x :: st) := rw_lcmp E hd0 (rw_if_gt E (h := by simp only [lg_gt2]; exact h) ht hdg kt kf)
theorem lg_le2 (x y : Int64) : (lg_cmp x y ≤ 0) ↔ x ≤ y := by
  unfold lg_cmp
  simp only [gt_iff_lt, Int64.lt_iff_toInt_lt, Int64.le_iff_toInt_le, ← Int64.toInt_inj]
  split
  · constructor <;> intro h <;> first | omega | (exfalso; revert h; decide) | decide
  · split
    · constructor <;> intro h <;> first | omega | (exfalso; revert h; decide) | decide
    · constructor <;> intro h <;> first | omega | (exfalso; revert h; decide) | decide
theorem rw_lle (E : hE p s m args c b0 G cc own nL Ts) {x y : Int64} {off : Int} {tgt : Nat} {t f : Option α} (h : (if x ≤ y then t else f) = some res) (ht : ((pc + 1 : Nat) : Int) + off = (tgt : Int)) (hd0 : decode cc pc = .ok (.lcmp, 1)) (hdg : decode cc (pc + 1) = .ok (.ifCond .le off, 3)) (kt : t = some res → WH p l e R s m args below meth c b0 G nL cells slots Q S tgt lv st) (kf : f = some res → WH p l e R s m args below meth c b0 G nL cells slots Q S (pc + 4) lv st) : WH p l e R s m args below meth c b0 G nL cells slots Q S pc lv (.long y :: .long x :: st) := rw_lcmp E hd0 (rw_if_le E (h := by simp only [lg_le2]; exact h) ht hdg kt kf)
theorem lg_eq2 (x y : Int64) : (lg_cmp x y = 0) ↔ x = y := by
  unfold lg_cmp
  simp only [gt_iff_lt, Int64.lt_iff_toInt_lt, Int64.le_iff_toInt_le, ← Int64.toInt_inj]
  split
  · constructor <;> intro h <;> first | omega | (exfalso; revert h; decide) | decide
  · split
    · constructor <;> intro h <;> first | omega | (exfalso; revert h; decide) | decide
    · constructor <;> intro h <;> first | omega | (exfalso; revert h; decide) | decide
theorem rw_leq (E : hE p s m args c b0 G cc own nL Ts) {x y : Int64} {off : Int} {tgt : Nat} {t f : Option α} (h : (if x = y then t else f) = some res) (ht : ((pc + 1 : Nat) : Int) + off = (tgt : Int)) (hd0 : decode cc pc = .ok (.lcmp, 1)) (hdg : decode cc (pc + 1) = .ok (.ifCond .eq off, 3)) (kt : t = some res → WH p l e R s m args below meth c b0 G nL cells slots Q S tgt lv st) (kf : f = some res → WH p l e R s m args below meth c b0 G nL cells slots Q S (pc + 4) lv st) : WH p l e R s m args below meth c b0 G nL cells slots Q S pc lv (.long y :: .long x :: st) := rw_lcmp E hd0 (rw_if_eq E (h := by simp only [lg_eq2]; exact h) ht hdg kt kf)

theorem rw_lne (E : hE p s m args c b0 G cc own nL Ts) {x y : Int64} {off : Int} {tgt : Nat} {t f : Option α} (h : (if x = y then f else t) = some res) (ht : ((pc + 1 : Nat) : Int) + off = (tgt : Int)) (hd0 : decode cc pc = .ok (.lcmp, 1)) (hdg : decode cc (pc + 1) = .ok (.ifCond .ne off, 3)) (kt : t = some res → WH p l e R s m args below meth c b0 G nL cells slots Q S tgt lv st) (kf : f = some res → WH p l e R s m args below meth c b0 G nL cells slots Q S (pc + 4) lv st) : WH p l e R s m args below meth c b0 G nL cells slots Q S pc lv (.long y :: .long x :: st) := rw_lcmp E hd0 (rw_if_ne E (h := by simp only [lg_eq2]; exact h) ht hdg kt kf)
/-- a value gets a name -/
def knm {β : Type} (v : β) (f : β → Option α) : Option α := f v
theorem rw_nmi {x : Int32} {f : Int32 → Option α} (h : knm x f = some res) (k : ∀ y, f y = some res → WH p l e R s m args below meth c b0 G nL cells slots Q S pc lv (.int y :: st)) : WH p l e R s m args below meth c b0 G nL cells slots Q S pc lv (.int x :: st) := k x h
theorem rw_nml {x : Int64} {f : Int64 → Option α} (h : knm x f = some res) (k : ∀ y, f y = some res → WH p l e R s m args below meth c b0 G nL cells slots Q S pc lv (.long y :: st)) : WH p l e R s m args below meth c b0 G nL cells slots Q S pc lv (.long x :: st) := k x h
/-- a reference that isn't null, to a cell of a kind -/
def kO (S : HS) (o : Option Nat) (kd : Nat) (g : Nat → Option α) : Option α := match o with
  | none => none
  | some a => if a < hN S ∧ hK S a = kd then g a else none
theorem kO_inv {S : HS} {o : Option Nat} {kd : Nat} {g : Nat → Option α} (h : kO S o kd g = some res) : ∃ a, o = some a ∧ a < hN S ∧ hK S a = kd ∧ g a = some res := by
  cases o with
  | none => cases h
  | some a =>
    unfold kO at h
    dsimp only at h
    split at h
    · next hc => exact ⟨a, rfl, hc.1, hc.2, h⟩
    · cases h
theorem kO_some {S : HS} {a kd : Nat} {g : Nat → Option α} (h1 : a < hN S) (h2 : hK S a = kd) : kO S (some a) kd g = g a := by
  unfold kO
  dsimp only
  rw [if_pos ⟨h1, h2⟩]
/-- getfield, putfield, and the same of arrays -/
def kI (S : HS) (o : Option Nat) (kd j : Nat) (f : Int32 → Option α) : Option α := kO S o kd (fun a => f (hI S a j))
def kP (S : HS) (o : Option Nat) (kd j : Nat) (f : Option Nat → Option α) : Option α := kO S o kd (fun a => f (hP S a j))
def kwI (S : HS) (o : Option Nat) (kd j : Nat) (v : Int32) (f : HS → Option α) : Option α := kO S o kd (fun a => f (wI S a j v))
def kwZ (S : HS) (o : Option Nat) (kd j : Nat) (v : Int32) (f : HS → Option α) : Option α := kO S o kd (fun a => if v = 0 ∨ v = 1 then f (wI S a j v) else none)
def kwP (S : HS) (o : Option Nat) (kd j : Nat) (v : Option Nat) (f : HS → Option α) : Option α := kO S o kd (fun a => f (wP S a j v))
def kA (S : HS) (o : Option Nat) (kd : Nat) (i : Int32) (f : Int32 → Option α) : Option α := kO S o kd (fun a => if i < 0 ∨ hL S a ≤ i.toNatClampNeg then none else f (hI S a i.toNatClampNeg))
def kAP (S : HS) (o : Option Nat) (kd : Nat) (i : Int32) (f : Option Nat → Option α) : Option α := kO S o kd (fun a => if i < 0 ∨ hL S a ≤ i.toNatClampNeg then none else f (hP S a i.toNatClampNeg))
def kwA (S : HS) (o : Option Nat) (kd : Nat) (i v : Int32) (f : HS → Option α) : Option α := kO S o kd (fun a => if i < 0 ∨ hL S a ≤ i.toNatClampNeg then none else f (wI S a i.toNatClampNeg v))
def kwAP (S : HS) (o : Option Nat) (kd ek : Nat) (i : Int32) (v : Option Nat) (f : HS → Option α) : Option α := kO S o kd (fun a => if i < 0 ∨ hL S a ≤ i.toNatClampNeg then none else kO S v ek (fun b => f (wP S a i.toNatClampNeg (some b))))
def kLen (S : HS) (o : Option Nat) (kd : Nat) (f : Int32 → Option α) : Option α := kO S o kd (fun a => f (nI (hL S a)))
def knew (S : HS) (kd : Nat) (f : Option Nat → HS → Option α) : Option α := f (some (hN S)) (wN S kd 0)
def knewA (S : HS) (kd : Nat) (n : Int32) (N : Nat) (f : Option Nat → HS → Option α) : Option α := if n = nI N then f (some (hN S)) (wN S kd N) else none
/-- calls: of a method that answers with nothing, with something -/
def kcv (o : Option HS) (f : HS → Option α) : Option α := match o with
  | none => none
  | some S1 => f S1
def kc {β : Type} (o : Option (β × HS)) (f : β → HS → Option α) : Option α := match o with
  | none => none
  | some q => f q.1 q.2
def kdiv (x y : Int32) (f : Int32 → Option α) : Option α := if y = 0 then none else f (x / y)
def krem (x y : Int32) (f : Int32 → Option α) : Option α := if y = 0 then none else f (x - x / y * y)
def kldiv (x y : Int64) (f : Int64 → Option α) : Option α := if y = 0 then none else f (x / y)

theorem hcell_congr {cid : Nat → ClassId} {S S2 : HS} {x : Nat} (h1 : hK S2 x = hK S x) (h2 : hL S2 x = hL S x) (h3 : ∀ j, hI S2 x j = hI S x j) (h4 : ∀ j, hP S2 x j = hP S x j) : hcell b0 cid S2 x = hcell b0 cid S x := by
  have e3 : ∀ bs i, hfl b0 S2 x i bs = hfl b0 S x i bs := by
    intro bs
    induction bs with
    | nil => intro i; rfl
    | cons r rs ih =>
      intro i
      show hval b0 S2 x i r :: _ = hval b0 S x i r :: _
      rw [ih]
      cases r <;> simp [hval, h3, h4]
  unfold hcell
  rw [h1, h2, e3, show hI S2 x = hI S x from funext h3, show hP S2 x = hP S x from funext h4]
theorem rw_getI (E : hE p s m args c b0 G cc own nL Ts) {o : Option Nat} {kd j index N : Nat} {C : String} {T : u_T} {f : Int32 → Option α} (h : kI S o kd j f = some res) (hcl : vwCl[kd]? = some (C, T, N)) (hkl : kd < 13) (hin : ∀ w ∈ u_ws C T N, w ∈ Ts) (hj : j < N) (hfb : (hflds kd)[j]? = some false) (hlink : Cond.fieldLink own index C (T j).2.1 (T j).2.2.1 ∈ Ts) (hT : (T j).1 = C) (hdg : decode cc pc = .ok (.getfield index, 3)) (k : ∀ v, f v = some res → WH p l e R s m args below meth c b0 G nL cells slots Q S (pc + 3) lv (.int v :: st)) : WH p l e R s m args below meth c b0 G nL cells slots Q S pc lv (hrf b0 o :: st) := by
  obtain ⟨a, rfl, ha, hk, h2⟩ := kO_inv h
  intro H locs ls hR hS hl
  exact va_get (D := G.1.1) (cl := vwCl) E.1 E.2.1 E.2.2.2.2.1 hin E.2.2.2.1 E.2.2.2.2.2.1 (hR.one ha (hcell_o (b0 := b0) (cid := G.1.2) hk hkl)) 0 rfl hcl j hj (E.2.2.2.2.1 _ hlink) (fun x hx => by rw [hT] at hx; exact hx) (v := .int (hI S a j)) (by rw [hfl_get, hfb]; simp [hval]) hdg (k _ h2 H locs ls hR hS hl)
theorem rw_getP (E : hE p s m args c b0 G cc own nL Ts) {o : Option Nat} {kd j index N : Nat} {C : String} {T : u_T} {f : Option Nat → Option α} (h : kP S o kd j f = some res) (hcl : vwCl[kd]? = some (C, T, N)) (hkl : kd < 13) (hin : ∀ w ∈ u_ws C T N, w ∈ Ts) (hj : j < N) (hfb : (hflds kd)[j]? = some true) (hlink : Cond.fieldLink own index C (T j).2.1 (T j).2.2.1 ∈ Ts) (hT : (T j).1 = C) (hdg : decode cc pc = .ok (.getfield index, 3)) (k : ∀ v, f v = some res → WH p l e R s m args below meth c b0 G nL cells slots Q S (pc + 3) lv (hrf b0 v :: st)) : WH p l e R s m args below meth c b0 G nL cells slots Q S pc lv (hrf b0 o :: st) := by
  obtain ⟨a, rfl, ha, hk, h2⟩ := kO_inv h
  intro H locs ls hR hS hl
  exact va_get (D := G.1.1) (cl := vwCl) E.1 E.2.1 E.2.2.2.2.1 hin E.2.2.2.1 E.2.2.2.2.2.1 (hR.one ha (hcell_o (b0 := b0) (cid := G.1.2) hk hkl)) 0 rfl hcl j hj (E.2.2.2.2.1 _ hlink) (fun x hx => by rw [hT] at hx; exact hx) (v := hrf b0 (hP S a j)) (by rw [hfl_get, hfb]; simp [hval]) hdg (k _ h2 H locs ls hR hS hl)
/-- what a field's write leaves -/
theorem hR.put {D : va_G} {cid : Nat → ClassId} {S2 : HS} {H H1 : Heap} {a kd j N : Nat} {C : String} {T : u_T} {v : Value} (hR0 : hR b0 D cid S H) (ha : a < hN S) (hk : hK S a = kd) (hkl : kd < 13) (hcl : vwCl[kd]? = some (C, T, N)) (hn : hN S2 = hN S) (hk2 : hK S2 a = kd) (hset : (hfl b0 S a 0 (hflds kd)).set j v = hfl b0 S2 a 0 (hflds kd)) (hjl : j < (hfl b0 S a 0 (hflds kd)).length) (ho : ∀ x, x ≠ a → hcell b0 cid S2 x = hcell b0 cid S x)
    {cell : Cell} (q2 : cell.cls = D.1 kd) (q3 : cell.vm = .none) (q4 : ∀ k, k < N → cell.slots[D.2 kd k]? = some (vp_V (hfl b0 S a 0 (hflds kd)) k)) (hap : ∀ x y, x < N → y < N → x ≠ y → D.2 kd x ≠ D.2 kd y) (hj : j < N) (e1 : H1[b0 + a]? = some (cell.setSlot (D.2 kd j) v)) (z : H1.size = H.size) (oq : ∀ q, q ≠ b0 + a → H1[q]? = H[q]?) : hR b0 D cid S2 H1 := by
  refine hR0.to hn (hcell_o (b0 := b0) (cid := cid) hk2 hkl) ho ⟨_, hcl, ?_⟩ oq z
  rw [← hset]
  exact t_OB.to (V := updV (vp_V (hfl b0 S a 0 (hflds kd))) j v) ⟨_, e1, q2, q3, t_set q4 hap hj v⟩ (fun i _ => vp_updV_set hjl v i)
theorem rw_putX (E : hE p s m args c b0 G cc own nL Ts) {a kd j index N : Nat} {C : String} {T : u_T} {ty0 : Nat → FieldType} {S2 : HS} {v : Value} (ha : a < hN S) (hk : hK S a = kd) (hkl : kd < 13) (hn : hN S2 = hN S) (hk2 : hK S2 a = kd) (hset : (hfl b0 S a 0 (hflds kd)).set j v = hfl b0 S2 a 0 (hflds kd)) (hjl : j < (hflds kd).length) (ho : ∀ x, x ≠ a → hcell b0 G.1.2 S2 x = hcell b0 G.1.2 S x)
    (hcl : vwCl[kd]? = some (C, T, N)) (hty : ∀ k, k < N → parseFieldDescriptor (T k).2.2.1 = some (ty0 k)) (hnm : ∀ a, a < N → ∀ b, b < N → a ≠ b → (T a).2.1 ≠ (T b).2.1) (hin : ∀ w ∈ u_ws C T N, w ∈ Ts) (hj : j < N) (hlink : Cond.fieldLink own index C (T j).2.1 (T j).2.2.1 ∈ Ts) (hT : (T j).1 = C) (hfin : (T j).2.2.2 = false ∨ ((T j).2.2.2 = true ∧ meth.name = "<init>" ∧ C = own)) (hnar : narrow (ty0 j) v = v) (hfit : fits (ty0 j) v = true)
    (hdg : decode cc pc = .ok (.putfield index, 3)) (k : WH p l e R s m args below meth c b0 G nL cells slots Q S2 (pc + 3) lv st) : WH p l e R s m args below meth c b0 G nL cells slots Q S pc lv (v :: .ref (b0 + a) :: st) := by
  intro H locs ls hR0 hS hl
  obtain ⟨hx, hb, hml, hown, hts, hK0, hX0⟩ := E
  have hap := va_apart (own := own) hts hin ty0 hty hnm hK0 hcl
  obtain ⟨r, h1, cell, q1, q2, q3, q4⟩ := hR0.one ha (hcell_o (b0 := b0) (cid := G.1.2) hk hkl) 0 _ rfl
  have hr : r = (C, T, N) := Option.some.inj (h1.symm.trans hcl)
  subst hr
  obtain ⟨hSl, hfc, kC, hkC, hkind⟩ := hK0.1 kd _ hcl
  obtain ⟨cf, kf, fi, f0, hi, hsl⟩ := hSl j hj
  have hst := (u_facts hfc hkC (u_lays hts hin hj) hi).1
  have hlay := hts _ (hin _ (u_in_lay hj))
  unfold u_lay at hlay
  rcases hfin with hf | ⟨hf, hinit, hCo⟩
  · rw [if_neg (by rw [hf]; decide)] at hlay
    have h6 := u_store hfc hkC hkind hlay hi (hty j hj) hnar hfit
    refine W.putK hx hb (f := f0) (ref := C) ⟨hown, hts _ hlink, ⟨cf, kf, fi, by rw [hT] at hi; exact hi⟩, hst⟩ (by rw [q2]; exact h6) q1 q3 (by rw [hsl]; exact k2_hasslot (q4 j hj)) rfl rfl hdg fun H1 e1 e2 e3 => ?_
    rw [hsl] at e1 ⊢
    exact k H1 _ ls (hR0.put ha hk hkl hcl hn hk2 hset (by rw [hfl_len]; exact hjl) ho q2 q3 q4 hap hj e1 e2 e3) (hS.put e2 e3 (show b0 ≤ b0 + a by omega)) hl
  · rw [if_pos hf] at hlay
    have hcf : m.cls = cf := by
      obtain ⟨_, _, c', _, _, _, -, -, hf', -, -, -, hown2, -⟩ := Cond.laysFinal_spec hlay
      have e1 : c' = cf := by have := hi.symm.trans hf'; simp at this; exact this.1.symm
      rw [hT, hCo] at hown2
      rw [← e1]; exact Option.some.inj (hown.symm.trans hown2)
    have h6 := u_fits hfc hkC hkind (Or.inr hlay) hi (hty j hj) hnar hfit
    refine W.putFinK hx hb (ref := C) hown (hts _ hlink) (by rw [hT] at hi; exact hi) hst hcf hinit (by rw [q2]; exact h6) q1 q3 (by rw [hsl]; exact k2_hasslot (q4 j hj)) rfl rfl hdg fun H1 e1 e2 e3 => ?_
    rw [hsl] at e1 ⊢
    exact k H1 _ ls (hR0.put ha hk hkl hcl hn hk2 hset (by rw [hfl_len]; exact hjl) ho q2 q3 q4 hap hj e1 e2 e3) (hS.put e2 e3 (show b0 ≤ b0 + a by omega)) hl
theorem hcell_wI {cid : Nat → ClassId} {a j x : Nat} {v : Int32} (h : x ≠ a) : hcell b0 cid (wI S a j v) x = hcell b0 cid S x := hcell_congr rfl rfl (fun i => by rw [hI_wI, if_neg (fun q => h q.1)]) (fun _ => rfl)
theorem hcell_wP {cid : Nat → ClassId} {a j x : Nat} {v : Option Nat} (h : x ≠ a) : hcell b0 cid (wP S a j v) x = hcell b0 cid S x := hcell_congr rfl rfl (fun _ => rfl) (fun i => by rw [hP_wP, if_neg (fun q => h q.1)])
theorem hset_wI {a j kd : Nat} {v : Int32} (hfb : (hflds kd)[j]? = some false) : (hfl b0 S a 0 (hflds kd)).set j (.int v) = hfl b0 (wI S a j v) a 0 (hflds kd) := by
  refine hfl_set hfb ?_ ?_
  · show Value.int (hI (wI S a j v) a j) = _
    rw [hI_wI, if_pos ⟨rfl, rfl⟩]
  · intro i q hi _
    cases q with
    | true => rfl
    | false =>
      show Value.int (hI (wI S a j v) a i) = Value.int (hI S a i)
      rw [hI_wI, if_neg (fun z => hi z.2)]
theorem hset_wP {a j kd : Nat} {v : Option Nat} (hfb : (hflds kd)[j]? = some true) : (hfl b0 S a 0 (hflds kd)).set j (hrf b0 v) = hfl b0 (wP S a j v) a 0 (hflds kd) := by
  refine hfl_set hfb ?_ ?_
  · show hrf b0 (hP (wP S a j v) a j) = _
    rw [hP_wP, if_pos ⟨rfl, rfl⟩]
  · intro i q hi _
    cases q with
    | false => rfl
    | true =>
      show hrf b0 (hP (wP S a j v) a i) = hrf b0 (hP S a i)
      rw [hP_wP, if_neg (fun z => hi z.2)]
theorem rw_putI (E : hE p s m args c b0 G cc own nL Ts) {o : Option Nat} {kd j index N : Nat} {C : String} {T : u_T} {ty0 : Nat → FieldType} {v : Int32} {f : HS → Option α} (h : kwI S o kd j v f = some res) (hcl : vwCl[kd]? = some (C, T, N)) (hty : ∀ k, k < N → parseFieldDescriptor (T k).2.2.1 = some (ty0 k)) (hnm : ∀ a, a < N → ∀ b, b < N → a ≠ b → (T a).2.1 ≠ (T b).2.1) (hkl : kd < 13) (hin : ∀ w ∈ u_ws C T N, w ∈ Ts) (hj : j < N) (hfb : (hflds kd)[j]? = some false) (hlink : Cond.fieldLink own index C (T j).2.1 (T j).2.2.1 ∈ Ts) (hT : (T j).1 = C) (hfin : (T j).2.2.2 = false ∨ ((T j).2.2.2 = true ∧ meth.name = "<init>" ∧ C = own)) (hint : ty0 j = .int)
    (hdg : decode cc pc = .ok (.putfield index, 3)) (k : ∀ S2, f S2 = some res → WH p l e R s m args below meth c b0 G nL cells slots Q S2 (pc + 3) lv st) : WH p l e R s m args below meth c b0 G nL cells slots Q S pc lv (.int v :: hrf b0 o :: st) := by
  obtain ⟨a, rfl, ha, hk, h2⟩ := kO_inv h
  exact rw_putX E (S2 := wI S a j v) ha hk hkl rfl hk (hset_wI hfb) (List.getElem?_eq_some_iff.mp hfb).1 (fun x hx => hcell_wI hx) hcl hty hnm hin hj hlink hT hfin (by rw [hint]; rfl) (by rw [hint]; rfl) hdg (k _ h2)
theorem rw_putZ (E : hE p s m args c b0 G cc own nL Ts) {o : Option Nat} {kd j index N : Nat} {C : String} {T : u_T} {ty0 : Nat → FieldType} {v : Int32} {f : HS → Option α} (h : kwZ S o kd j v f = some res) (hcl : vwCl[kd]? = some (C, T, N)) (hty : ∀ k, k < N → parseFieldDescriptor (T k).2.2.1 = some (ty0 k)) (hnm : ∀ a, a < N → ∀ b, b < N → a ≠ b → (T a).2.1 ≠ (T b).2.1) (hkl : kd < 13) (hin : ∀ w ∈ u_ws C T N, w ∈ Ts) (hj : j < N) (hfb : (hflds kd)[j]? = some false) (hlink : Cond.fieldLink own index C (T j).2.1 (T j).2.2.1 ∈ Ts) (hT : (T j).1 = C) (hfin : (T j).2.2.2 = false ∨ ((T j).2.2.2 = true ∧ meth.name = "<init>" ∧ C = own)) (hint : ty0 j = .boolean)
    (hdg : decode cc pc = .ok (.putfield index, 3)) (k : ∀ S2, f S2 = some res → WH p l e R s m args below meth c b0 G nL cells slots Q S2 (pc + 3) lv st) : WH p l e R s m args below meth c b0 G nL cells slots Q S pc lv (.int v :: hrf b0 o :: st) := by
  obtain ⟨a, rfl, ha, hk, h2⟩ := kO_inv h
  split at h2
  · next hv => exact rw_putX E (S2 := wI S a j v) ha hk hkl rfl hk (hset_wI hfb) (List.getElem?_eq_some_iff.mp hfb).1 (fun x hx => hcell_wI hx) hcl hty hnm hin hj hlink hT hfin (by rw [hint]; rcases hv with rfl | rfl <;> rfl) (by rw [hint]; rcases hv with rfl | rfl <;> rfl) hdg (k _ h2)
  · cases h2
theorem rw_putP (E : hE p s m args c b0 G cc own nL Ts) {o : Option Nat} {kd j index N : Nat} {C : String} {T : u_T} {ty0 : Nat → FieldType} {v : Option Nat} {f : HS → Option α} (h : kwP S o kd j v f = some res) (hcl : vwCl[kd]? = some (C, T, N)) (hty : ∀ k, k < N → parseFieldDescriptor (T k).2.2.1 = some (ty0 k)) (hnm : ∀ a, a < N → ∀ b, b < N → a ≠ b → (T a).2.1 ≠ (T b).2.1) (hkl : kd < 13) (hin : ∀ w ∈ u_ws C T N, w ∈ Ts) (hj : j < N) (hfb : (hflds kd)[j]? = some true) (hlink : Cond.fieldLink own index C (T j).2.1 (T j).2.2.1 ∈ Ts) (hT : (T j).1 = C) (hfin : (T j).2.2.2 = false ∨ ((T j).2.2.2 = true ∧ meth.name = "<init>" ∧ C = own)) (hint : (∃ n, ty0 j = .object n) ∨ ∃ t, ty0 j = .array t)
    (hdg : decode cc pc = .ok (.putfield index, 3)) (k : ∀ S2, f S2 = some res → WH p l e R s m args below meth c b0 G nL cells slots Q S2 (pc + 3) lv st) : WH p l e R s m args below meth c b0 G nL cells slots Q S pc lv (hrf b0 v :: hrf b0 o :: st) := by
  obtain ⟨a, rfl, ha, hk, h2⟩ := kO_inv h
  exact rw_putX E (S2 := wP S a j v) ha hk hkl rfl hk (hset_wP hfb) (List.getElem?_eq_some_iff.mp hfb).1 (fun x hx => hcell_wP hx) hcl hty hnm hin hj hlink hT hfin (by rcases hint with ⟨n, q⟩ | ⟨n, q⟩ <;> rw [q] <;> cases v <;> rfl) (by rcases hint with ⟨n, q⟩ | ⟨n, q⟩ <;> rw [q] <;> cases v <;> rfl) hdg (k _ h2)
theorem rw_iald (E : hE p s m args c b0 G cc own nL Ts) {o : Option Nat} {i : Int32} {f : Int32 → Option α} (h : kA S o 14 i f = some res) (hdg : decode cc pc = .ok (.iaload, 1)) (k : ∀ v, f v = some res → WH p l e R s m args below meth c b0 G nL cells slots Q S (pc + 1) lv (.int v :: st)) : WH p l e R s m args below meth c b0 G nL cells slots Q S pc lv (.int i :: hrf b0 o :: st) := by
  obtain ⟨a, rfl, ha, hk, h2⟩ := kO_inv h
  split at h2
  · cases h2
  · next hi =>
    intro H locs ls hR hS hl
    exact va_iald (D := G.1.1) (cl := vwCl) E.1 E.2.1 E.2.2.2.2.2.1 (hR.one ha (hcell_i (b0 := b0) (cid := G.1.2) hk (by decide) (by decide))) 0 1 rfl rfl hi hdg (k _ h2 H locs ls hR hS hl)
theorem rw_bald (E : hE p s m args c b0 G cc own nL Ts) {o : Option Nat} {i : Int32} {f : Int32 → Option α} (h : kA S o 13 i f = some res) (hdg : decode cc pc = .ok (.baload, 1)) (k : ∀ v, f v = some res → WH p l e R s m args below meth c b0 G nL cells slots Q S (pc + 1) lv (.int v :: st)) : WH p l e R s m args below meth c b0 G nL cells slots Q S pc lv (.int i :: hrf b0 o :: st) := by
  obtain ⟨a, rfl, ha, hk, h2⟩ := kO_inv h
  split at h2
  · cases h2
  · next hi =>
    intro H locs ls hR hS hl
    exact va_bald (D := G.1.1) (cl := vwCl) E.1 E.2.1 E.2.2.2.2.2.1 (hR.one ha (hcell_i (b0 := b0) (cid := G.1.2) hk (by decide) (by decide))) 0 0 rfl rfl hi hdg (k _ h2 H locs ls hR hS hl)
theorem rw_zald (E : hE p s m args c b0 G cc own nL Ts) {o : Option Nat} {i : Int32} {f : Int32 → Option α} (h : kA S o 15 i f = some res) (hdg : decode cc pc = .ok (.baload, 1)) (k : ∀ v, f v = some res → WH p l e R s m args below meth c b0 G nL cells slots Q S (pc + 1) lv (.int v :: st)) : WH p l e R s m args below meth c b0 G nL cells slots Q S pc lv (.int i :: hrf b0 o :: st) := by
  obtain ⟨a, rfl, ha, hk, h2⟩ := kO_inv h
  split at h2
  · cases h2
  · next hi =>
    intro H locs ls hR hS hl
    exact va_zald (D := G.1.1) (cl := vwCl) E.1 E.2.1 E.2.2.2.2.2.1 (hR.one ha (hcell_i (b0 := b0) (cid := G.1.2) hk (by decide) (by decide))) 0 2 rfl rfl hi hdg (k _ h2 H locs ls hR hS hl)
theorem rw_aald (E : hE p s m args c b0 G cc own nL Ts) {o : Option Nat} {kd t0 : Nat} {C : String} {i : Int32} {f : Option Nat → Option α} (h : kAP S o kd i f = some res) (hkd : 16 ≤ kd) (ht : ∀ cid, (htys cid)[t0]? = some (cid kd, .object C)) (hdg : decode cc pc = .ok (.aaload, 1)) (k : ∀ v, f v = some res → WH p l e R s m args below meth c b0 G nL cells slots Q S (pc + 1) lv (hrf b0 v :: st)) : WH p l e R s m args below meth c b0 G nL cells slots Q S pc lv (.int i :: hrf b0 o :: st) := by
  obtain ⟨a, rfl, ha, hk, h2⟩ := kO_inv h
  split at h2
  · cases h2
  · next hi =>
    intro H locs ls hR hS hl
    refine va_aldq (D := G.1.1) (cl := vwCl) E.1 E.2.1 E.2.2.2.2.2.1 (hR.one ha (hcell_q (b0 := b0) (cid := G.1.2) hk hkd)) 0 t0 rfl (ht G.1.2) hi hdg ?_
    rw [hrf_eq]
    exact k _ h2 H locs ls hR hS hl
theorem rw_alen (E : hE p s m args c b0 G cc own nL Ts) {o : Option Nat} {f : Int32 → Option α} (h : kLen S o 14 f = some res) (hdg : decode cc pc = .ok (.arraylength, 1)) (k : ∀ v, f v = some res → WH p l e R s m args below meth c b0 G nL cells slots Q S (pc + 1) lv (.int v :: st)) : WH p l e R s m args below meth c b0 G nL cells slots Q S pc lv (hrf b0 o :: st) := by
  obtain ⟨a, rfl, ha, hk, h2⟩ := kO_inv h
  intro H locs ls hR hS hl
  exact va_alen (D := G.1.1) (cl := vwCl) E.1 E.2.1 E.2.2.2.2.2.1 (hR.one ha (hcell_i (b0 := b0) (cid := G.1.2) hk (by decide) (by decide))) 0 1 rfl rfl rfl hdg (k _ h2 H locs ls hR hS hl)
theorem rw_alenq (E : hE p s m args c b0 G cc own nL Ts) {o : Option Nat} {kd t0 : Nat} {C : String} {f : Int32 → Option α} (h : kLen S o kd f = some res) (hkd : 16 ≤ kd) (ht : ∀ cid, (htys cid)[t0]? = some (cid kd, .object C)) (hdg : decode cc pc = .ok (.arraylength, 1)) (k : ∀ v, f v = some res → WH p l e R s m args below meth c b0 G nL cells slots Q S (pc + 1) lv (.int v :: st)) : WH p l e R s m args below meth c b0 G nL cells slots Q S pc lv (hrf b0 o :: st) := by
  obtain ⟨a, rfl, ha, hk, h2⟩ := kO_inv h
  intro H locs ls hR hS hl
  exact va_alen (D := G.1.1) (cl := vwCl) E.1 E.2.1 E.2.2.2.2.2.1 (hR.one ha (hcell_q (b0 := b0) (cid := G.1.2) hk hkd)) 0 t0 rfl (ht G.1.2) rfl hdg (k _ h2 H locs ls hR hS hl)
/-- an array's cell behind a write -/
theorem hR.arr {D : va_G} {cid : Nat → ClassId} {H H1 : Heap} {a kd : Nat} {i : Nat} {v : Int32} (hR0 : hR b0 D cid S H) (hk : hK S a = kd) (h13 : 13 ≤ kd) (h16 : kd < 16) (e : H1[b0 + a]? = some ((vp_cell (cid kd) (hL S a, .inl (hI S a))).setSlot i (.int v))) (z : H1.size = H.size) (oq : ∀ q, q ≠ b0 + a → H1[q]? = H[q]?) : hR b0 D cid (wI S a i v) H1 := by
  refine hR0.to rfl (hcell_i (b0 := b0) (cid := cid) (S := wI S a i v) hk h13 h16) (fun x hx => hcell_wI hx) ?_ oq z
  show H1[b0 + a]? = some (vp_cell _ _)
  rw [e, vp_cell_i, vp_cell_i, arrV_store]
  congr 2
  funext q
  rw [hI_wI]
  by_cases hq : q = i
  · rw [if_pos ⟨rfl, hq⟩]
    subst hq
    simp [updV]
  · rw [if_neg (fun z => hq z.2)]
    simp [updV, hq]
theorem rw_iast (E : hE p s m args c b0 G cc own nL Ts) {o : Option Nat} {i v : Int32} {f : HS → Option α} (h : kwA S o 14 i v f = some res) (hdg : decode cc pc = .ok (.iastore, 1)) (k : ∀ S2, f S2 = some res → WH p l e R s m args below meth c b0 G nL cells slots Q S2 (pc + 1) lv st) : WH p l e R s m args below meth c b0 G nL cells slots Q S pc lv (.int v :: .int i :: hrf b0 o :: st) := by
  obtain ⟨a, rfl, ha, hk, h2⟩ := kO_inv h
  split at h2
  · cases h2
  · next hi =>
    intro H locs ls hR0 hS hl
    refine W.iast E.1 E.2.1 (hR0.one ha (hcell_i (b0 := b0) (cid := G.1.2) hk (by decide) (by decide)) 0 _ rfl) ((E.2.2.2.2.2.1.2 1 _ rfl).1 (hL S a) (fun j => .int (hI S a j))) (fun q => by cases q) (by show ¬ (i < 0 ∨ (arrV _ _ _).slots.size ≤ _); rw [arrV_size]; exact hi) rfl rfl hdg fun H1 e z oq => ?_
    exact k _ h2 H1 _ ls (hR0.arr hk (by decide) (by decide) e z oq) (hS.put z oq (show b0 ≤ b0 + a by omega)) hl
theorem rw_bast (E : hE p s m args c b0 G cc own nL Ts) {o : Option Nat} {i v : Int32} {f : HS → Option α} (h : kwA S o 13 i (v.toInt8.toInt32) f = some res) (hdg : decode cc pc = .ok (.bastore, 1)) (k : ∀ S2, f S2 = some res → WH p l e R s m args below meth c b0 G nL cells slots Q S2 (pc + 1) lv st) : WH p l e R s m args below meth c b0 G nL cells slots Q S pc lv (.int v :: .int i :: hrf b0 o :: st) := by
  obtain ⟨a, rfl, ha, hk, h2⟩ := kO_inv h
  split at h2
  · cases h2
  · next hi =>
    intro H locs ls hR0 hS hl
    refine W.bast E.1 E.2.1 (hR0.one ha (hcell_i (b0 := b0) (cid := G.1.2) hk (by decide) (by decide)) 0 _ rfl) ((E.2.2.2.2.2.1.2 0 _ rfl).1 (hL S a) (fun j => .int (hI S a j))) (fun q => by cases q) (by show ¬ (i < 0 ∨ (arrV _ _ _).slots.size ≤ _); rw [arrV_size]; exact hi) rfl rfl hdg fun H1 e z oq => ?_
    exact k _ h2 H1 _ ls (hR0.arr hk (by decide) (by decide) e z oq) (hS.put z oq (show b0 ≤ b0 + a by omega)) hl
theorem rw_zast (E : hE p s m args c b0 G cc own nL Ts) {o : Option Nat} {i v : Int32} {f : HS → Option α} (h : kwA S o 15 i (vp_nar .boolean v) f = some res) (hdg : decode cc pc = .ok (.bastore, 1)) (k : ∀ S2, f S2 = some res → WH p l e R s m args below meth c b0 G nL cells slots Q S2 (pc + 1) lv st) : WH p l e R s m args below meth c b0 G nL cells slots Q S pc lv (.int v :: .int i :: hrf b0 o :: st) := by
  obtain ⟨a, rfl, ha, hk, h2⟩ := kO_inv h
  split at h2
  · cases h2
  · next hi =>
    intro H locs ls hR0 hS hl
    refine W.zast E.1 E.2.1 (hR0.one ha (hcell_i (b0 := b0) (cid := G.1.2) hk (by decide) (by decide)) 0 _ rfl) ((E.2.2.2.2.2.1.2 2 _ rfl).1 (hL S a) (fun j => .int (hI S a j))) (fun q => by cases q) (by show ¬ (i < 0 ∨ (arrV _ _ _).slots.size ≤ _); rw [arrV_size]; exact hi) rfl rfl hdg fun H1 e z oq => ?_
    exact k _ h2 H1 _ ls (hR0.arr hk (by decide) (by decide) e z oq) (hS.put z oq (show b0 ≤ b0 + a by omega)) hl
theorem rw_aast (E : hE p s m args c b0 G cc own nL Ts) {o v : Option Nat} {kd ek t0 : Nat} {r : vw_C} {i : Int32} {f : HS → Option α} (h : kwAP S o kd ek i v f = some res) (hkd : 16 ≤ kd) (hek : ek < 13) (hc : vwCl[ek]? = some r) (ht : ∀ cid, (htys cid)[t0]? = some (cid kd, .object r.1)) (hdg : decode cc pc = .ok (.aastore, 1)) (k : ∀ S2, f S2 = some res → WH p l e R s m args below meth c b0 G nL cells slots Q S2 (pc + 1) lv st) : WH p l e R s m args below meth c b0 G nL cells slots Q S pc lv (hrf b0 v :: .int i :: hrf b0 o :: st) := by
  obtain ⟨a, rfl, ha, hk, h2⟩ := kO_inv h
  split at h2
  · cases h2
  · next hi =>
    obtain ⟨b, rfl, hb1, hb2, h3⟩ := kO_inv h2
    intro H locs ls hR0 hS hl
    have hK0 := E.2.2.2.2.2.1
    obtain ⟨r', hr', cellV, g1, g2, g3, -⟩ := hR0.one hb1 (hcell_o (b0 := b0) (cid := G.1.2) hb2 hek) 0 _ rfl
    have hcls := (hK0.1 ek r hc).2
    obtain ⟨kA, comp, k1, k2, k3, -⟩ := (hK0.2 t0 _ (ht G.1.2)).2
    have hcomp : comp = G.1.1.1 ek := Option.some.inj (k3.symm.trans hcls.1)
    subst hcomp
    obtain ⟨kC, hkC, -⟩ := hcls.2
    refine W.aast E.1 E.2.1 (hR0.one ha (hcell_q (b0 := b0) (cid := G.1.2) hk hkd) 0 _ rfl) (fun q h => by cases h) (fun h => by cases h) k1 k2 rfl hkC ⟨fun q => hi (Or.inl q), by show _ < (arrV _ _ _).slots.size; rw [arrV_size]; exact Nat.not_le.mp fun q => hi (Or.inr q)⟩ g1 (fun q h => by rw [g3] at h; cases h) (by rw [g2]; exact hkC) (by rw [g2]; exact va_assign hcls) rfl rfl hdg fun H1 e z oq => ?_
    refine k _ h3 H1 _ ls (hR0.to rfl (hcell_q (b0 := b0) (cid := G.1.2) (S := wP S a i.toNatClampNeg (some b)) hk hkd) (fun x hx => hcell_wP hx) ?_ oq z) (hS.put z oq (show b0 ≤ b0 + a by omega)) hl
    show H1[b0 + a]? = some (vp_cell _ _)
    rw [e, vp_cell_q, vp_cell_q, arrV_store]
    congr 2
    funext q
    rw [hP_wP]
    by_cases hq : q = i.toNatClampNeg
    · rw [if_pos ⟨rfl, hq⟩]
      subst hq
      simp [updV, va_rf]
    · rw [if_neg (fun z => hq z.2)]
      simp [updV, hq]
theorem rw_new (E : hE p s m args c b0 G cc own nL Ts) {kd index N : Nat} {C : String} {T : u_T} {ty0 : Nat → FieldType} {f : Option Nat → HS → Option α} (h : knew S kd f = some res) (hcl : vwCl[kd]? = some (C, T, N)) (hty : ∀ k, k < N → parseFieldDescriptor (T k).2.2.1 = some (ty0 k)) (hkl : kd < 13) (hin : ∀ w ∈ u_ws C T N, w ∈ Ts) (hclink : Cond.classLink own index C ∈ Ts) (hinst : Cond.instantiable C N ∈ Ts) (hini : Cond.initialized C ∈ Ts) (hlen : (hflds kd).length = N) (hdv : ∀ j r, (hflds kd)[j]? = some r → defaultValue (ty0 j) = if r then .null else .int 0) (hcells : cells + 1 ≤ R.cells) (hslots : slots + N ≤ R.slots) (hdg : decode cc pc = .ok (.new index, 3))
    (k : ∀ o S2, f o S2 = some res → WH p l e R s m args below meth c b0 G nL (cells + 1) (slots + N) Q S2 (pc + 3) lv (hrf b0 o :: st)) : WH p l e R s m args below meth c b0 G nL cells slots Q S pc lv st := by
  intro H locs ls hR0 hS hl
  obtain ⟨hx, hb, hml, hown, hts, hK0, hX0⟩ := E
  have hKn := hK0.1 kd _ hcl
  refine W.newcK hx hb hown (hts _ hclink) (hts _ hinst) (hts _ hini) rfl hdg hcells hslots hKn.2.1 hR0.1 fun H1 kC hkC e1 z1 o1 => ?_
  refine k _ _ h H1 locs ls (hR0.push (kd := kd) (ln := 0) ?_ (fun q hq => o1 q (by rw [← hR0.1]; exact hq)) (by rw [z1, hR0.1])) ⟨Nat.le_trans hS.1 (by rw [z1, hR0.1]; omega), fun x h1 h2 => (o1 x (by rw [← hR0.1]; exact Nat.lt_of_lt_of_le h1 hS.1)).trans (hS.2.1 x h1 h2), hS.2.2⟩ hl
  have hk2 : hK (wN S kd 0) (hN S) = kd := by rw [hK_wN, if_pos rfl]
  rw [hcell_o (b0 := b0) (cid := G.1.2) hk2 hkl]
  refine ⟨_, hcl, (u_born ty0 hts hin hKn hkC e1 hty).to (fun j hj => ?_)⟩
  obtain ⟨r, hr⟩ : ∃ r, (hflds kd)[j]? = some r := ⟨_, List.getElem?_eq_getElem (by rw [hlen]; exact hj)⟩
  show _ = ((hfl b0 (wN S kd 0) (hN S) 0 (hflds kd)).getD j .null)
  rw [List.getD_eq_getElem?_getD, hfl_get, hr, hdv j r hr]
  cases r with
  | true => simp [hval, hP_wN, hrf]
  | false => simp [hval, hI_wN]
theorem nI_cl0 {N : Nat} (hN : N < 2 ^ 31) : ¬ nI N < 0 ∧ (nI N).toNatClampNeg = N := ⟨nI_pos hN, nI_clamp hN⟩
theorem rw_newa (E : hE p s m args c b0 G cc own nL Ts) {kd t0 N : Nat} {n : Int32} {atype : ArrayType} {ty : FieldType} {f : Option Nat → HS → Option α} (h : knewA S kd n N f = some res) (h13 : 13 ≤ kd) (h16 : kd < 16) (hN2 : N < 1000) (hty : newarray.typeOf atype = ty) (ht : ∀ cid, (htys cid)[t0]? = some (cid kd, ty)) (hnob : ∀ C, ty ≠ .object C) (hdf : defaultValue ty = .int 0) (hcb : componentBytes ty ≤ 8) (harr : Cond.arrayClass ty ∈ Ts) (hcells : cells + 1 ≤ R.cells) (hslots : slots + N ≤ R.slots) (hdg : decode cc pc = .ok (.newarray atype, 2))
    (k : ∀ o S2, f o S2 = some res → WH p l e R s m args below meth c b0 G nL (cells + 1) (slots + N) Q S2 (pc + 2) lv (hrf b0 o :: st)) : WH p l e R s m args below meth c b0 G nL cells slots Q S pc lv (.int n :: st) := by
  unfold knewA at h
  split at h
  · next hn =>
    subst hn
    subst hty
    intro H locs ls hR0 hS hl
    obtain ⟨hx, hb, hml, hown, hts, hK0, hX0⟩ := E
    obtain ⟨c1, c2⟩ := nI_cl0 (N := N) (by omega)
    refine va_newaK hx hb (hts _ harr) (g := F0 m pc ls (.int (nI N) :: st)) rfl hdg rfl c1 c2 (by
      have := Nat.mul_le_mul (Nat.le_of_lt hN2) hcb
      omega) hcells hslots hR0.1 fun H1 cA e1 z1 o1 hAr hNm => ?_
    have hcA : cA = G.1.2 kd := by
      have h5 := (hK0.2 t0 _ (ht G.1.2)).2
      unfold va_RA at h5
      dsimp only at h5
      split at h5
      · next C hC => exact absurd hC (hnob C)
      · exact Option.some.inj (hNm.symm.trans h5)
    subst hcA
    refine k _ _ h H1 locs ls (hR0.push (kd := kd) (ln := N) ?_ (fun q hq => o1 q (by rw [← hR0.1]; exact hq)) (by rw [z1, hR0.1])) ⟨Nat.le_trans hS.1 (by rw [z1, hR0.1]; omega), fun x h1 h2 => (o1 x (by rw [← hR0.1]; exact Nat.lt_of_lt_of_le h1 hS.1)).trans (hS.2.1 x h1 h2), hS.2.2⟩ hl
    have hk2 : hK (wN S kd N) (hN S) = kd := by rw [hK_wN, if_pos rfl]
    rw [hcell_i (b0 := b0) (cid := G.1.2) hk2 h13 h16]
    show H1[b0 + hN S]? = some (vp_cell _ _)
    rw [e1, vp_cell_i, hL_wN, if_pos rfl, hdf]
    congr 2
    funext j
    rw [hI_wN, if_pos rfl]
  · cases h
theorem rw_newq (E : hE p s m args c b0 G cc own nL Ts) {kd t0 N index : Nat} {n : Int32} {C : String} {f : Option Nat → HS → Option α} (h : knewA S kd n N f = some res) (h16 : 16 ≤ kd) (hN2 : N < 1000) (ht : ∀ cid, (htys cid)[t0]? = some (cid kd, .object C)) (hov : hX b0 G s → va_AO C s) (hclink : Cond.classLink own index C ∈ Ts) (hcells : cells + 1 ≤ R.cells) (hslots : slots + N ≤ R.slots) (hdg : decode cc pc = .ok (.anewarray index, 3))
    (k : ∀ o S2, f o S2 = some res → WH p l e R s m args below meth c b0 G nL (cells + 1) (slots + N) Q S2 (pc + 3) lv (hrf b0 o :: st)) : WH p l e R s m args below meth c b0 G nL cells slots Q S pc lv (.int n :: st) := by
  unfold knewA at h
  split at h
  · next hn =>
    subst hn
    intro H locs ls hR0 hS hl
    obtain ⟨hx, hb, hml, hown, hts, hK0, hX0⟩ := E
    obtain ⟨c1, c2⟩ := nI_cl0 (N := N) (by omega)
    refine W.anew hx hb hown (hts _ hclink) (va_AO.use (hov hX0)) (g := F0 m pc ls (.int (nI N) :: st)) rfl hdg rfl c1 (by rw [c2]; omega) hcells (by rw [c2]; exact hslots) fun cA kA comp f1 f2 f3 f4 => ?_
    rw [c2, hR0.1]
    obtain ⟨kA2, comp2, g1, g2, g3, g4⟩ := (hK0.2 t0 _ (ht G.1.2)).2
    have hcA : cA = G.1.2 kd := Option.some.inj (f1.symm.trans g4)
    subst hcA
    generalize hH1 : H.push ({ cls := G.1.2 kd, slots := Array.replicate N .null, vm := .none } : Cell) = H1
    have z1 : H1.size = H.size + 1 := by rw [← hH1, Array.size_push]
    have e1 : H1[H.size]? = some (arrV (G.1.2 kd) N (fun _ => .null)) := by rw [← hH1, Array.getElem?_push_size, ← arrV_new]
    have o1 : ∀ q : Nat, q < H.size → H1[q]? = H[q]? := fun q hq => by rw [← hH1, Array.getElem?_push, if_neg (Nat.ne_of_lt hq)]
    refine k _ _ h H1 locs ls (hR0.push (kd := kd) (ln := N) ?_ o1 z1) ⟨Nat.le_trans hS.1 (by rw [z1]; omega), fun x h1 h2 => (o1 x (Nat.lt_of_lt_of_le h1 hS.1)).trans (hS.2.1 x h1 h2), hS.2.2⟩ hl
    have hk2 : hK (wN S kd N) (hN S) = kd := by rw [hK_wN, if_pos rfl]
    rw [hcell_q (b0 := b0) (cid := G.1.2) hk2 h16]
    show H1[b0 + hN S]? = some (vp_cell _ _)
    rw [← hR0.1, e1, vp_cell_q, hL_wN, if_pos rfl]
    congr 2
    funext j
    rw [hP_wN, if_pos rfl]
    rfl
  · cases h
/-- calls -/
theorem rw_run {y : MethodName} {rest : List Value} {v : Option Value} {a : Array Value} {S1 : HS} {mc ms : Nat} (hr : ∀ (H : Heap) (locs : List Loc) (ls : Array Slot), hR b0 G.1.1 G.1.2 S H → va_S (hA b0) s.heap H locs → lv_has ls nL lv → va_Run p l e R s m args below meth c H locs cells slots mc ms (F0 m pc ls st) rest (hQ b0 G v S1 a) (hA b0))
    (k : WH p l e R s m args below meth c b0 G nL (cells + mc) (slots + ms) Q S1 (pc + 3) lv (v.toList ++ rest)) : WH p l e R s m args below meth c b0 G nL cells slots Q S pc lv st := by
  intro H locs ls hR0 hS hl T hT X
  obtain ⟨v2, st0, t, T2, L, h0, X2, hL2, e1, e2, ⟨hv, hR1, hz, hk⟩, go⟩ := hr H locs ls hR0 hS hl T hT X
  cases hv
  rw [h0] at hz hk
  obtain ⟨t2, a1, b1⟩ := k T2.heap (locs ++ L) ls (by rw [e1]; exact hR1) ⟨Nat.le_trans hS.1 (by rw [e1]; exact hz), fun q h1 h2 => by rw [e1, hk q (Nat.lt_of_lt_of_le h1 hS.1) h2]; exact hS.2.1 q h1 h2, fun q hq => by
      rcases List.mem_append.mp hq with h | h
      · exact hS.2.2 q h
      · exact hL2 q h⟩ hl T2 rfl X2
  exact ⟨t2, go t2 a1, b1⟩
theorem hE.B (E : hE p s m args c b0 G cc own nL Ts) {H : Heap} {locs : List Loc} (hR0 : hR b0 G.1.1 G.1.2 S H) (hS : va_S (hA b0) s.heap H locs) (U : State) (hU : U.heap = H) (hW : s.WarmedH U.vm) : hB b0 G S U := by
  subst hU
  exact ⟨hR0, va_K.moved hW.alike E.2.2.2.2.2.1, E.2.2.2.2.2.2.to hW hS⟩
theorem rw_callV (E : hE p s m args c b0 G cc own nL Ts) {y : MethodName} {bytes : ByteArray} {maxL n index a kd N : Nat} {ret : Option FieldType} {ws : List Cond} {rm : Room} {C : String} {T : u_T} {As rest : List Value} {v : Option Value} {S1 : HS} {mc ms : Nat} (hM : MH l y ws rm b0 G S (.ref (b0 + a) :: As) v S1 mc ms) (cw : CallW R s args own C index y bytes maxL ret ws rm mc ms n) (ha : a < hN S) (hk : hK S a = kd) (hkl : kd < 13) (hcl : vwCl[kd]? = some (C, T, N)) (hn : As.length = n) (hst : st = As.reverse ++ .ref (b0 + a) :: rest) (hW : (rest.map fun v => v.category).sum ≤ 8) (hf : cells + mc ≤ R.cells ∧ slots + ms ≤ R.slots) (hdg : decode cc pc = .ok (.invokevirtual index, 3))
    (k : WH p l e R s m args below meth c b0 G nL (cells + mc) (slots + ms) Q S1 (pc + 3) lv (v.toList ++ rest)) : WH p l e R s m args below meth c b0 G nL cells slots Q S pc lv st :=
  rw_run (y := y) (fun H locs ls hR0 hS hl => va_runV (As := As) (rest := rest) ⟨E.1, E.2.1, E.2.2.1, E.2.2.2.1, E.2.2.2.2.1⟩ hM cw ⟨hB.blind, va_recv E.2.2.2.2.2.1 (hR0.one ha (hcell_o (b0 := b0) (cid := G.1.2) hk hkl)) hcl (q0 := 0) rfl, fun U hU hW2 => ⟨rfl, E.B hR0 hS U hU hW2⟩⟩ rfl hn hl.1 hst (lv_room hW) hdg hf) k
theorem rw_callI (E : hE p s m args c b0 G cc own nL Ts) {y : MethodName} {bytes : ByteArray} {maxL n index a : Nat} {ws : List Cond} {rm : Room} {As rest : List Value} {v : Option Value} {S1 : HS} {mc ms : Nat} (hM : MH l y ws rm b0 G S (.ref (b0 + a) :: As) v S1 mc ms) (cw : CallB R s args own index y bytes maxL none ws rm mc ms n ∧ y.name = "<init>" ∧ (Cond.instanceMethod y).before args s = true) (hn : As.length = n) (hst : st = As.reverse ++ .ref (b0 + a) :: rest) (hW : (rest.map fun v => v.category).sum ≤ 8) (hf : cells + mc ≤ R.cells ∧ slots + ms ≤ R.slots) (hdg : decode cc pc = .ok (.invokespecial index, 3))
    (k : WH p l e R s m args below meth c b0 G nL (cells + mc) (slots + ms) Q S1 (pc + 3) lv (v.toList ++ rest)) : WH p l e R s m args below meth c b0 G nL cells slots Q S pc lv st :=
  rw_run (y := y) (fun H locs ls hR0 hS hl => va_runI (As := As) (rest := rest) ⟨E.1, E.2.1, E.2.2.1, E.2.2.2.1, E.2.2.2.2.1⟩ hM cw ⟨hB.blind, fun U hU hW2 => ⟨rfl, E.B hR0 hS U hU hW2⟩⟩ rfl hn hl.1 hst (lv_room hW) hdg hf) k
theorem rw_callS (E : hE p s m args c b0 G cc own nL Ts) {y : MethodName} {bytes : ByteArray} {maxL n index : Nat} {ret : Option FieldType} {ws : List Cond} {rm : Room} {As rest : List Value} {v : Option Value} {S1 : HS} {mc ms : Nat} (hM : MH l y ws rm b0 G S As v S1 mc ms) (cw : CallB R s args own index y bytes maxL ret ws rm mc ms n ∧ (Cond.static y).before args s = true) (hn : As.length = n) (hst : st = As.reverse ++ rest) (hW : (rest.map fun v => v.category).sum ≤ 8) (hf : cells + mc ≤ R.cells ∧ slots + ms ≤ R.slots) (hdg : decode cc pc = .ok (.invokestatic index, 3))
    (k : WH p l e R s m args below meth c b0 G nL (cells + mc) (slots + ms) Q S1 (pc + 3) lv (v.toList ++ rest)) : WH p l e R s m args below meth c b0 G nL cells slots Q S pc lv st :=
  rw_run (y := y) (fun H locs ls hR0 hS hl => va_runS (As := As) (rest := rest) ⟨E.1, E.2.1, E.2.2.1, E.2.2.2.1, E.2.2.2.2.1⟩ hM cw ⟨hB.blind, fun U hU hW2 => ⟨rfl, E.B hR0 hS U hU hW2⟩⟩ rfl hn hl.1 hst (lv_room hW) hdg hf) k
/-- ends -/
theorem rw_iret (E : hE p s m args c b0 G cc own nL Ts) {v r : Int32} {S1 : HS} {mc ms : Nat} (hr : meth.sig.returnType = some .int) (hlk : meth.locks = false) (h : some (v, S) = some (r, S1)) (hcm : cells ≤ mc) (hsm : slots ≤ ms) (hdg : decode cc pc = .ok (.ireturn, 1)) : WH p l e R s m args below meth c b0 G nL cells slots (MQ below (hQ b0 G (some (.int r)) S1) args s mc ms (hA b0)) S pc lv [.int v] := by
  cases h
  intro H locs ls hR0 hS hl
  exact W.widen hcm hsm (W.iret E.1 E.2.1 hr (fun t ht hW => ⟨rfl, by rw [ht]; exact hR0, hS.F ht⟩) hS.2.2 hdg hlk)
/-- a boolean that is told -/
def kzr (v : Int32) (S : HS) : Option (Int32 × HS) := if v = 0 ∨ v = 1 then some (v, S) else none
theorem rw_zret (E : hE p s m args c b0 G cc own nL Ts) {v r : Int32} {S1 : HS} {mc ms : Nat} (hr : meth.sig.returnType = some .boolean) (hlk : meth.locks = false) (h : kzr v S = some (r, S1)) (hcm : cells ≤ mc) (hsm : slots ≤ ms) (hdg : decode cc pc = .ok (.ireturn, 1)) : WH p l e R s m args below meth c b0 G nL cells slots (MQ below (hQ b0 G (some (.int r)) S1) args s mc ms (hA b0)) S pc lv [.int v] := by
  unfold kzr at h
  split at h
  · next hv =>
    cases h
    intro H locs ls hR0 hS hl
    exact W.widen hcm hsm (W.zret E.1 E.2.1 hr (by rcases hv with rfl | rfl <;> rfl) (fun t ht hW => ⟨rfl, by rw [ht]; exact hR0, hS.F ht⟩) hS.2.2 hdg hlk)
  · cases h
theorem rw_lret (E : hE p s m args c b0 G cc own nL Ts) {v r : Int64} {S1 : HS} {mc ms : Nat} (hr : meth.sig.returnType = some .long) (hlk : meth.locks = false) (h : some (v, S) = some (r, S1)) (hcm : cells ≤ mc) (hsm : slots ≤ ms) (hdg : decode cc pc = .ok (.lreturn, 1)) : WH p l e R s m args below meth c b0 G nL cells slots (MQ below (hQ b0 G (some (.long r)) S1) args s mc ms (hA b0)) S pc lv [.long v] := by
  cases h
  intro H locs ls hR0 hS hl
  exact W.widen hcm hsm (W.lret E.1 E.2.1 hr (fun t ht hW => ⟨rfl, by rw [ht]; exact hR0, hS.F ht⟩) hS.2.2 hdg hlk)
theorem rw_vret (E : hE p s m args c b0 G cc own nL Ts) {S1 : HS} {mc ms : Nat} (hr : meth.sig.returnType = none) (hlk : meth.locks = false) (h : some S = some S1) (hcm : cells ≤ mc) (hsm : slots ≤ ms) (hdg : decode cc pc = .ok (.return_, 1)) : WH p l e R s m args below meth c b0 G nL cells slots (MQ below (hQ b0 G none S1) args s mc ms (hA b0)) S pc lv [] := by
  cases h
  intro H locs ls hR0 hS hl
  exact W.widen hcm hsm (W.vret E.1 E.2.1 hr (fun t ht hW => ⟨rfl, by rw [ht]; exact hR0, hS.F ht⟩) hS.2.2 hdg hlk)
theorem rw_aret (E : hE p s m args c b0 G cc own nL Ts) {v r : Option Nat} {S1 : HS} {mc ms : Nat} {C : String} (hr : meth.sig.returnType = some (.object C)) (hlk : meth.locks = false) (h : some (v, S) = some (r, S1)) (hcm : cells ≤ mc) (hsm : slots ≤ ms) (hdg : decode cc pc = .ok (.areturn, 1)) : WH p l e R s m args below meth c b0 G nL cells slots (MQ below (hQ b0 G (some (hrf b0 r)) S1) args s mc ms (hA b0)) S pc lv [hrf b0 v] := by
  cases h
  intro H locs ls hR0 hS hl
  exact W.widen hcm hsm (W.aret E.1 E.2.1 hr (Or.inl ⟨C, rfl⟩) (by cases v with | none => exact Or.inl rfl | some x => exact Or.inr ⟨_, rfl⟩) (fun t ht hW => ⟨rfl, by rw [ht]; exact hR0, hS.F ht⟩) hS.2.2 hdg hlk)
theorem rw_idiv (E : hE p s m args c b0 G cc own nL Ts) {x y : Int32} {f : Int32 → Option α} (h : kdiv x y f = some res) (hdg : decode cc pc = .ok (.idiv, 1)) (k : ∀ v, f v = some res → WH p l e R s m args below meth c b0 G nL cells slots Q S (pc + 1) lv (.int v :: st)) : WH p l e R s m args below meth c b0 G nL cells slots Q S pc lv (.int y :: .int x :: st) := by
  unfold kdiv at h
  split at h
  · cases h
  · next hy => exact fun H locs ls hR0 hS hl => lv_idiv E.1 E.2.1 hdg hy (k _ h H locs ls hR0 hS hl)
theorem rw_irem (E : hE p s m args c b0 G cc own nL Ts) {x y : Int32} {f : Int32 → Option α} (h : krem x y f = some res) (hdg : decode cc pc = .ok (.irem, 1)) (k : ∀ v, f v = some res → WH p l e R s m args below meth c b0 G nL cells slots Q S (pc + 1) lv (.int v :: st)) : WH p l e R s m args below meth c b0 G nL cells slots Q S pc lv (.int y :: .int x :: st) := by
  unfold krem at h
  split at h
  · cases h
  · next hy => exact fun H locs ls hR0 hS hl => lv_irem E.1 E.2.1 hdg hy (k _ h H locs ls hR0 hS hl)
theorem rw_ldiv (E : hE p s m args c b0 G cc own nL Ts) {x y : Int64} {f : Int64 → Option α} (h : kldiv x y f = some res) (hdg : decode cc pc = .ok (.ldiv, 1)) (k : ∀ v, f v = some res → WH p l e R s m args below meth c b0 G nL cells slots Q S (pc + 1) lv (.long v :: st)) : WH p l e R s m args below meth c b0 G nL cells slots Q S pc lv (.long y :: .long x :: st) := by
  unfold kldiv at h
  split at h
  · cases h
  · next hy => exact fun H locs ls hR0 hS hl => lv_ldiv E.1 E.2.1 hdg hy (k _ h H locs ls hR0 hS hl)
def fabs (x : Int32) : Int32 := if 0 ≤ x then x else 0 - x
def fmax (x y : Int32) : Int32 := if x < y then y else x
def fmin (x y : Int32) : Int32 := if y < x then y else x
def flmax (x y : Int64) : Int64 := if y < x then x else y
/-- Math's own, room allowing: one frame more -/
def hMt (R : Room) (cells slots : Nat) (rest : List Value) : Prop := 1 ≤ R.frames ∧ (rest.map fun v => v.category).sum + 15 ≤ R.locals ∧ cells ≤ R.cells ∧ slots ≤ R.slots
theorem rw_mabs (E : hE p s m args c b0 G cc own nL Ts) {index : Nat} {x : Int32} (hm : hMt R cells slots st) (h1 : Cond.methodLink own index Lib.Math.abs.name ∈ Ts) (h2 : Cond.static Lib.Math.abs.name ∈ Ts) (h3 : Cond.initialized "java/lang/Math" ∈ Ts) (h4 : Cond.code Lib.Math.abs.name Lib.Math.abs.code 1 (some .int) ∈ Ts) (hdg : decode cc pc = .ok (.invokestatic index, 3)) (k : WH p l e R s m args below meth c b0 G nL cells slots Q S (pc + 3) lv (.int (fabs x) :: st)) : WH p l e R s m args below meth c b0 G nL cells slots Q S pc lv (.int x :: st) := fun H locs ls hR0 hS hl => va_mabs E.1 E.2.1 (E.2.2.1.trans hl.1.symm) E.2.2.2.1 (E.2.2.2.2.1 _ h1) (E.2.2.2.2.1 _ h2) (E.2.2.2.2.1 _ h3) (E.2.2.2.2.1 _ h4) hm.1 (by have := hm.2.1; omega) hm.2.2.1 hm.2.2.2 hdg (k H locs ls hR0 hS hl)
theorem rw_mmax (E : hE p s m args c b0 G cc own nL Ts) {index : Nat} {x y : Int32} (hm : hMt R cells slots st) (h1 : Cond.methodLink own index Lib.Math.max.name ∈ Ts) (h2 : Cond.static Lib.Math.max.name ∈ Ts) (h3 : Cond.initialized "java/lang/Math" ∈ Ts) (h4 : Cond.code Lib.Math.max.name Lib.Math.max.code 2 (some .int) ∈ Ts) (hdg : decode cc pc = .ok (.invokestatic index, 3)) (k : WH p l e R s m args below meth c b0 G nL cells slots Q S (pc + 3) lv (.int (fmax x y) :: st)) : WH p l e R s m args below meth c b0 G nL cells slots Q S pc lv (.int y :: .int x :: st) := fun H locs ls hR0 hS hl => va_mmax E.1 E.2.1 (E.2.2.1.trans hl.1.symm) E.2.2.2.1 (E.2.2.2.2.1 _ h1) (E.2.2.2.2.1 _ h2) (E.2.2.2.2.1 _ h3) (E.2.2.2.2.1 _ h4) hm.1 (by have := hm.2.1; omega) hm.2.2.1 hm.2.2.2 hdg (k H locs ls hR0 hS hl)
theorem rw_mmin (E : hE p s m args c b0 G cc own nL Ts) {index : Nat} {x y : Int32} (hm : hMt R cells slots st) (h1 : Cond.methodLink own index Lib.Math.min.name ∈ Ts) (h2 : Cond.static Lib.Math.min.name ∈ Ts) (h3 : Cond.initialized "java/lang/Math" ∈ Ts) (h4 : Cond.code Lib.Math.min.name Lib.Math.min.code 2 (some .int) ∈ Ts) (hdg : decode cc pc = .ok (.invokestatic index, 3)) (k : WH p l e R s m args below meth c b0 G nL cells slots Q S (pc + 3) lv (.int (fmin x y) :: st)) : WH p l e R s m args below meth c b0 G nL cells slots Q S pc lv (.int y :: .int x :: st) := fun H locs ls hR0 hS hl => va_mmin E.1 E.2.1 (E.2.2.1.trans hl.1.symm) E.2.2.2.1 (E.2.2.2.2.1 _ h1) (E.2.2.2.2.1 _ h2) (E.2.2.2.2.1 _ h3) (E.2.2.2.2.1 _ h4) hm.1 (by have := hm.2.1; omega) hm.2.2.1 hm.2.2.2 hdg (k H locs ls hR0 hS hl)
theorem rw_mlmax (E : hE p s m args c b0 G cc own nL Ts) {index : Nat} {x y : Int64} (hm : hMt R cells slots st) (h1 : Cond.methodLink own index Lib.MathLoose.max_long.x ∈ Ts) (h2 : Cond.static Lib.MathLoose.max_long.x ∈ Ts) (h3 : Cond.initialized "java/lang/Math" ∈ Ts) (h4 : Cond.code Lib.MathLoose.max_long.x Lib.MathLoose.max_long.code 4 (some .long) ∈ Ts) (hdg : decode cc pc = .ok (.invokestatic index, 3)) (k : WH p l e R s m args below meth c b0 G nL cells slots Q S (pc + 3) lv (.long (flmax x y) :: st)) : WH p l e R s m args below meth c b0 G nL cells slots Q S pc lv (.long y :: .long x :: st) := fun H locs ls hR0 hS hl => va_mmax_long E.1 E.2.1 (E.2.2.1.trans hl.1.symm) E.2.2.2.1 (E.2.2.2.2.1 _ h1) (E.2.2.2.2.1 _ h2) (E.2.2.2.2.1 _ h3) (E.2.2.2.2.1 _ h4) hm.1 hm.2.1 hm.2.2.1 hm.2.2.2 hdg (k H locs ls hR0 hS hl)
theorem rw_cVi (E : hE p s m args c b0 G cc own nL Ts) {kd N : Nat} {C : String} {T : u_T} {ov : Option Nat} {sem : Nat → Option (Int32 × HS)} {f : Int32 → HS → Option α} {y : MethodName} {bytes : ByteArray} {maxL n index : Nat} {ret : Option FieldType} {ws : List Cond} {rm : Room} {As rest : List Value} {mc ms : Nat} (h : kO S ov kd (fun a => kc (sem a) f) = some res) (hkl : kd < 13) (hcl : vwCl[kd]? = some (C, T, N)) (hM : ∀ a r S1, sem a = some (r, S1) → MH l y ws rm b0 G S (hrf b0 (some a) :: As) (some (.int r)) S1 mc ms) (cw : CallW R s args own C index y bytes maxL ret ws rm mc ms n) (hn : As.length = n) (hst : st = As.reverse ++ hrf b0 ov :: rest) (hW : (rest.map fun v => v.category).sum ≤ 8) (hf : cells + mc ≤ R.cells ∧ slots + ms ≤ R.slots) (hdg : decode cc pc = .ok (.invokevirtual index, 3)) (k : ∀ r S1, f r S1 = some res → WH p l e R s m args below meth c b0 G nL (cells + mc) (slots + ms) Q S1 (pc + 3) lv (.int r :: rest)) : WH p l e R s m args below meth c b0 G nL cells slots Q S pc lv st := by
  obtain ⟨a, rfl, ha, hk, h2⟩ := kO_inv h
  cases hs : sem a with
  | none => rw [hs] at h2; cases h2
  | some q =>
    rw [hs] at h2
    obtain ⟨r, S1⟩ := q
    exact rw_callV E (hM _ _ _ hs) cw ha hk hkl hcl hn hst hW hf hdg (k _ _ h2)
theorem rw_cSi (E : hE p s m args c b0 G cc own nL Ts) {sem : Option (Int32 × HS)} {f : Int32 → HS → Option α} {y : MethodName} {bytes : ByteArray} {maxL n index : Nat} {ret : Option FieldType} {ws : List Cond} {rm : Room} {As rest : List Value} {mc ms : Nat} (h : kc sem f = some res) (hM : ∀ r S1, sem = some (r, S1) → MH l y ws rm b0 G S As (some (.int r)) S1 mc ms) (cw : CallB R s args own index y bytes maxL ret ws rm mc ms n ∧ (Cond.static y).before args s = true) (hn : As.length = n) (hst : st = As.reverse ++ rest) (hW : (rest.map fun v => v.category).sum ≤ 8) (hf : cells + mc ≤ R.cells ∧ slots + ms ≤ R.slots) (hdg : decode cc pc = .ok (.invokestatic index, 3)) (k : ∀ r S1, f r S1 = some res → WH p l e R s m args below meth c b0 G nL (cells + mc) (slots + ms) Q S1 (pc + 3) lv (.int r :: rest)) : WH p l e R s m args below meth c b0 G nL cells slots Q S pc lv st := by
  cases hs : sem with
  | none => rw [hs] at h; cases h
  | some q =>
    rw [hs] at h
    obtain ⟨r, S1⟩ := q
    exact rw_callS E (hM _ _ hs) cw hn hst hW hf hdg (k _ _ h)
theorem rw_cVl (E : hE p s m args c b0 G cc own nL Ts) {kd N : Nat} {C : String} {T : u_T} {ov : Option Nat} {sem : Nat → Option (Int64 × HS)} {f : Int64 → HS → Option α} {y : MethodName} {bytes : ByteArray} {maxL n index : Nat} {ret : Option FieldType} {ws : List Cond} {rm : Room} {As rest : List Value} {mc ms : Nat} (h : kO S ov kd (fun a => kc (sem a) f) = some res) (hkl : kd < 13) (hcl : vwCl[kd]? = some (C, T, N)) (hM : ∀ a r S1, sem a = some (r, S1) → MH l y ws rm b0 G S (hrf b0 (some a) :: As) (some (.long r)) S1 mc ms) (cw : CallW R s args own C index y bytes maxL ret ws rm mc ms n) (hn : As.length = n) (hst : st = As.reverse ++ hrf b0 ov :: rest) (hW : (rest.map fun v => v.category).sum ≤ 8) (hf : cells + mc ≤ R.cells ∧ slots + ms ≤ R.slots) (hdg : decode cc pc = .ok (.invokevirtual index, 3)) (k : ∀ r S1, f r S1 = some res → WH p l e R s m args below meth c b0 G nL (cells + mc) (slots + ms) Q S1 (pc + 3) lv (.long r :: rest)) : WH p l e R s m args below meth c b0 G nL cells slots Q S pc lv st := by
  obtain ⟨a, rfl, ha, hk, h2⟩ := kO_inv h
  cases hs : sem a with
  | none => rw [hs] at h2; cases h2
  | some q =>
    rw [hs] at h2
    obtain ⟨r, S1⟩ := q
    exact rw_callV E (hM _ _ _ hs) cw ha hk hkl hcl hn hst hW hf hdg (k _ _ h2)
theorem rw_cSl (E : hE p s m args c b0 G cc own nL Ts) {sem : Option (Int64 × HS)} {f : Int64 → HS → Option α} {y : MethodName} {bytes : ByteArray} {maxL n index : Nat} {ret : Option FieldType} {ws : List Cond} {rm : Room} {As rest : List Value} {mc ms : Nat} (h : kc sem f = some res) (hM : ∀ r S1, sem = some (r, S1) → MH l y ws rm b0 G S As (some (.long r)) S1 mc ms) (cw : CallB R s args own index y bytes maxL ret ws rm mc ms n ∧ (Cond.static y).before args s = true) (hn : As.length = n) (hst : st = As.reverse ++ rest) (hW : (rest.map fun v => v.category).sum ≤ 8) (hf : cells + mc ≤ R.cells ∧ slots + ms ≤ R.slots) (hdg : decode cc pc = .ok (.invokestatic index, 3)) (k : ∀ r S1, f r S1 = some res → WH p l e R s m args below meth c b0 G nL (cells + mc) (slots + ms) Q S1 (pc + 3) lv (.long r :: rest)) : WH p l e R s m args below meth c b0 G nL cells slots Q S pc lv st := by
  cases hs : sem with
  | none => rw [hs] at h; cases h
  | some q =>
    rw [hs] at h
    obtain ⟨r, S1⟩ := q
    exact rw_callS E (hM _ _ hs) cw hn hst hW hf hdg (k _ _ h)
theorem rw_cVr (E : hE p s m args c b0 G cc own nL Ts) {kd N : Nat} {C : String} {T : u_T} {ov : Option Nat} {sem : Nat → Option (Option Nat × HS)} {f : Option Nat → HS → Option α} {y : MethodName} {bytes : ByteArray} {maxL n index : Nat} {ret : Option FieldType} {ws : List Cond} {rm : Room} {As rest : List Value} {mc ms : Nat} (h : kO S ov kd (fun a => kc (sem a) f) = some res) (hkl : kd < 13) (hcl : vwCl[kd]? = some (C, T, N)) (hM : ∀ a r S1, sem a = some (r, S1) → MH l y ws rm b0 G S (hrf b0 (some a) :: As) (some (hrf b0 r)) S1 mc ms) (cw : CallW R s args own C index y bytes maxL ret ws rm mc ms n) (hn : As.length = n) (hst : st = As.reverse ++ hrf b0 ov :: rest) (hW : (rest.map fun v => v.category).sum ≤ 8) (hf : cells + mc ≤ R.cells ∧ slots + ms ≤ R.slots) (hdg : decode cc pc = .ok (.invokevirtual index, 3)) (k : ∀ r S1, f r S1 = some res → WH p l e R s m args below meth c b0 G nL (cells + mc) (slots + ms) Q S1 (pc + 3) lv (hrf b0 r :: rest)) : WH p l e R s m args below meth c b0 G nL cells slots Q S pc lv st := by
  obtain ⟨a, rfl, ha, hk, h2⟩ := kO_inv h
  cases hs : sem a with
  | none => rw [hs] at h2; cases h2
  | some q =>
    rw [hs] at h2
    obtain ⟨r, S1⟩ := q
    exact rw_callV E (hM _ _ _ hs) cw ha hk hkl hcl hn hst hW hf hdg (k _ _ h2)
theorem rw_cSr (E : hE p s m args c b0 G cc own nL Ts) {sem : Option (Option Nat × HS)} {f : Option Nat → HS → Option α} {y : MethodName} {bytes : ByteArray} {maxL n index : Nat} {ret : Option FieldType} {ws : List Cond} {rm : Room} {As rest : List Value} {mc ms : Nat} (h : kc sem f = some res) (hM : ∀ r S1, sem = some (r, S1) → MH l y ws rm b0 G S As (some (hrf b0 r)) S1 mc ms) (cw : CallB R s args own index y bytes maxL ret ws rm mc ms n ∧ (Cond.static y).before args s = true) (hn : As.length = n) (hst : st = As.reverse ++ rest) (hW : (rest.map fun v => v.category).sum ≤ 8) (hf : cells + mc ≤ R.cells ∧ slots + ms ≤ R.slots) (hdg : decode cc pc = .ok (.invokestatic index, 3)) (k : ∀ r S1, f r S1 = some res → WH p l e R s m args below meth c b0 G nL (cells + mc) (slots + ms) Q S1 (pc + 3) lv (hrf b0 r :: rest)) : WH p l e R s m args below meth c b0 G nL cells slots Q S pc lv st := by
  cases hs : sem with
  | none => rw [hs] at h; cases h
  | some q =>
    rw [hs] at h
    obtain ⟨r, S1⟩ := q
    exact rw_callS E (hM _ _ hs) cw hn hst hW hf hdg (k _ _ h)
theorem rw_cVv (E : hE p s m args c b0 G cc own nL Ts) {kd N : Nat} {C : String} {T : u_T} {ov : Option Nat} {sem : Nat → Option HS} {f : HS → Option α} {y : MethodName} {bytes : ByteArray} {maxL n index : Nat} {ret : Option FieldType} {ws : List Cond} {rm : Room} {As rest : List Value} {mc ms : Nat} (h : kO S ov kd (fun a => kcv (sem a) f) = some res) (hkl : kd < 13) (hcl : vwCl[kd]? = some (C, T, N)) (hM : ∀ a S1, sem a = some S1 → MH l y ws rm b0 G S (hrf b0 (some a) :: As) none S1 mc ms) (cw : CallW R s args own C index y bytes maxL ret ws rm mc ms n) (hn : As.length = n) (hst : st = As.reverse ++ hrf b0 ov :: rest) (hW : (rest.map fun v => v.category).sum ≤ 8) (hf : cells + mc ≤ R.cells ∧ slots + ms ≤ R.slots) (hdg : decode cc pc = .ok (.invokevirtual index, 3)) (k : ∀ S1, f S1 = some res → WH p l e R s m args below meth c b0 G nL (cells + mc) (slots + ms) Q S1 (pc + 3) lv rest) : WH p l e R s m args below meth c b0 G nL cells slots Q S pc lv st := by
  obtain ⟨a, rfl, ha, hk, h2⟩ := kO_inv h
  cases hs : sem a with
  | none => rw [hs] at h2; cases h2
  | some S1 =>
    rw [hs] at h2
    exact rw_callV E (hM _ _ hs) cw ha hk hkl hcl hn hst hW hf hdg (k _ h2)
theorem rw_cSv (E : hE p s m args c b0 G cc own nL Ts) {sem : Option HS} {f : HS → Option α} {y : MethodName} {bytes : ByteArray} {maxL n index : Nat} {ret : Option FieldType} {ws : List Cond} {rm : Room} {As rest : List Value} {mc ms : Nat} (h : kcv sem f = some res) (hM : ∀ S1, sem = some S1 → MH l y ws rm b0 G S As none S1 mc ms) (cw : CallB R s args own index y bytes maxL ret ws rm mc ms n ∧ (Cond.static y).before args s = true) (hn : As.length = n) (hst : st = As.reverse ++ rest) (hW : (rest.map fun v => v.category).sum ≤ 8) (hf : cells + mc ≤ R.cells ∧ slots + ms ≤ R.slots) (hdg : decode cc pc = .ok (.invokestatic index, 3)) (k : ∀ S1, f S1 = some res → WH p l e R s m args below meth c b0 G nL (cells + mc) (slots + ms) Q S1 (pc + 3) lv rest) : WH p l e R s m args below meth c b0 G nL cells slots Q S pc lv st := by
  cases hs : sem with
  | none => rw [hs] at h; cases h
  | some S1 =>
    rw [hs] at h
    exact rw_callS E (hM _ hs) cw hn hst hW hf hdg (k _ h)
theorem rw_cIv (E : hE p s m args c b0 G cc own nL Ts) {ov : Option Nat} {sem : Nat → Option HS} {f : HS → Option α} {kd : Nat} {y : MethodName} {bytes : ByteArray} {maxL n index : Nat} {ws : List Cond} {rm : Room} {As rest : List Value} {mc ms : Nat} (h : kO S ov kd (fun a => kcv (sem a) f) = some res) (hM : ∀ a S1, sem a = some S1 → MH l y ws rm b0 G S (hrf b0 (some a) :: As) none S1 mc ms) (cw : CallB R s args own index y bytes maxL none ws rm mc ms n ∧ y.name = "<init>" ∧ (Cond.instanceMethod y).before args s = true) (hn : As.length = n) (hst : st = As.reverse ++ hrf b0 ov :: rest) (hW : (rest.map fun v => v.category).sum ≤ 8) (hf : cells + mc ≤ R.cells ∧ slots + ms ≤ R.slots) (hdg : decode cc pc = .ok (.invokespecial index, 3)) (k : ∀ S1, f S1 = some res → WH p l e R s m args below meth c b0 G nL (cells + mc) (slots + ms) Q S1 (pc + 3) lv rest) : WH p l e R s m args below meth c b0 G nL cells slots Q S pc lv st := by
  obtain ⟨a, rfl, ha, hk, h2⟩ := kO_inv h
  cases hs : sem a with
  | none => rw [hs] at h2; cases h2
  | some S1 =>
    rw [hs] at h2
    exact rw_callI E (hM _ _ hs) cw hn hst hW hf hdg (k _ h2)
theorem rw_objI (E : hE p s m args c b0 G cc own nL Ts) {index : Nat} {ov : Option Nat} {f : Option α} {kd : Nat} (h : kO S ov kd (fun _ => f) = some res) (h1 : Cond.methodLink own index objectInit ∈ Ts) (h2 : Cond.instanceMethod objectInit ∈ Ts) (h3 : Cond.code objectInit ⟨#[0xb1]⟩ 1 none ∈ Ts) (hf : 1 ≤ R.frames) (hlo : (st.map fun v => v.category).sum + 12 ≤ R.locals) (hdg : decode cc pc = .ok (.invokespecial index, 3)) (k : f = some res → WH p l e R s m args below meth c b0 G nL cells slots Q S (pc + 3) lv st) : WH p l e R s m args below meth c b0 G nL cells slots Q S pc lv (hrf b0 ov :: st) := by
  obtain ⟨a, rfl, ha, hk, h5⟩ := kO_inv h
  intro H locs ls hR0 hS hl
  exact W.objInit E.1 E.2.1 E.2.2.2.1 (E.2.2.2.2.1 _ h1) (E.2.2.2.2.1 _ h2) (E.2.2.2.2.1 _ h3) rfl (hl.1.trans E.2.2.1.symm) rfl hdg hf (by show 2 * 0 + _ + 12 ≤ _; omega) (k h5 H locs ls hR0 hS hl)
theorem rw_swin (E : hE p s m args c b0 G cc own nL Ts) {x v : Int32} {dflt lo hi off : Int} {offs : Array Int} {len tgt : Nat} (hdg : decode cc pc = .ok (.tableswitch dflt lo hi offs, len)) (hx : x = v) (h1 : ¬ v.toInt < lo) (h2 : ¬ hi < v.toInt) (ho : offs[(v.toInt - lo).toNat]? = some off) (ht : (pc : Int) + off = (tgt : Int)) (k : WH p l e R s m args below meth c b0 G nL cells slots Q S tgt lv st) : WH p l e R s m args below meth c b0 G nL cells slots Q S pc lv (.int x :: st) := by
  subst hx
  exact fun H locs ls hR0 hS hl => lv_tableIn (tgt := tgt) E.1 E.2.1 hdg h1 h2 ho ht (k H locs ls hR0 hS hl)
theorem rw_swout (E : hE p s m args c b0 G cc own nL Ts) {x : Int32} {dflt lo hi : Int} {offs : Array Int} {len tgt : Nat} (hdg : decode cc pc = .ok (.tableswitch dflt lo hi offs, len)) (h : x.toInt < lo ∨ hi < x.toInt) (ht : (pc : Int) + dflt = (tgt : Int)) (k : WH p l e R s m args below meth c b0 G nL cells slots Q S tgt lv st) : WH p l e R s m args below meth c b0 G nL cells slots Q S pc lv (.int x :: st) := fun H locs ls hR0 hS hl => lv_tableOut (tgt := tgt) E.1 E.2.1 hdg h ht (k H locs ls hR0 hS hl)
theorem rw_ldcS (E : hE p s m args c b0 G cc own nL Ts) {i index : Nat} (hdg : decode cc pc = .ok (.ldc index, 2)) (hi : i < 11) (h1 : hSi.getD i 0 = index) (h2 : own = RX10) (k : WH p l e R s m args below meth c b0 G nL cells slots Q S (pc + 2) lv (.ref (G.2.1 i) :: st)) : WH p l e R s m args below meth c b0 G nL cells slots Q S pc lv st := by
  subst h2
  subst h1
  exact fun H locs ls hR0 hS hl => va_ldcS E.1 E.2.1 E.2.2.2.1 (E.2.2.2.2.2.2.2.1 i hi) hdg (k H locs ls hR0 hS hl)
theorem rw_cNv (E : hE p s m args c b0 G cc own nL Ts) {ov : Option Nat} {sem : Nat → Option HS} {f : HS → Option α} {kd : Nat} {y : MethodName} {bytes : ByteArray} {maxL n index : Nat} {ws ws2 : List Cond} {rm : Room} {As rest : List Value} {mc ms : Nat} (h : kO S ov kd (fun a => kcv (sem a) f) = some res) (hM : ∀ a S1, sem a = some S1 → MH l y ws rm b0 G S (hrf b0 (some a) :: As) none S1 mc ms) (hq : (own, index, y) ∈ hNw) (hG : GoodIn Ts ws) (hw : ws = Cond.code y bytes maxL none :: ws2) (hrc : rm.cells = mc) (hrs : rm.slots = ms) (hini : Cond.initialized y.cls ∈ Ts) (hinst : Cond.instanceMethod y ∈ Ts) (hy1 : y.name = "<init>") (hd : y.cls ≠ "java/lang/invoke/MethodHandle" ∧ y.cls ≠ "java/lang/invoke/VarHandle" ∧ (parseMethodDescriptor y.desc).map (fun d => d.parameters.length) = some n) (hRm : rm.frames + 1 ≤ R.frames ∧ 8 + (maxL + 11) + rm.locals ≤ R.locals) (hn : As.length = n) (hst : st = As.reverse ++ hrf b0 ov :: rest) (hW : (rest.map fun v => v.category).sum ≤ 8) (hf : cells + mc ≤ R.cells ∧ slots + ms ≤ R.slots) (hdg : decode cc pc = .ok (.invokespecial index, 3)) (k : ∀ S1, f S1 = some res → WH p l e R s m args below meth c b0 G nL (cells + mc) (slots + ms) Q S1 (pc + 3) lv rest) : WH p l e R s m args below meth c b0 G nL cells slots Q S pc lv st := by
  obtain ⟨a, rfl, ha, hk, h2⟩ := kO_inv h
  cases hs : sem a with
  | none => rw [hs] at h2; cases h2
  | some S1 =>
    rw [hs] at h2
    refine rw_run (y := y) (v := none) (S1 := S1) (mc := mc) (ms := ms) (fun H locs ls hR0 hS hl => va_runIN (As := As) (rest := rest) ⟨E.1, E.2.1, E.2.2.1, E.2.2.2.1, E.2.2.2.2.1⟩ (hM _ _ hs) ⟨va_cnB n E.2.2.2.2.1 hG hw hrc hrs (E.2.2.2.2.2.2.2.2.2.2.2 _ hq) (E.2.2.2.2.1 _ hini) hd hRm, hy1, E.2.2.2.2.1 _ hinst⟩ ⟨hB.blind, fun U hU hW2 => ⟨rfl, E.B hR0 hS U hU hW2⟩⟩ rfl hn hl.1 hst (lv_room hW) hdg hf) (k _ h2)
/-- the texts -/
def kK (i : Nat) (o : Option α) : Option α := if i < 11 then o else none
theorem rw_aloadr (E : hE p s m args c b0 G cc own nL Ts) {i x : Nat} {j0 : Nat} (hl : lv[j0]? = some (i, Value.ref x)) (hdg : decode cc pc = .ok (.aload i, 2)) (k : WH p l e R s m args below meth c b0 G nL cells slots Q S (pc + 2) lv (.ref x :: st)) : WH p l e R s m args below meth c b0 G nL cells slots Q S pc lv st := fun H locs ls hR hS hl2 => lv_aload E.1 E.2.1 hdg (hl2.2.2 _ (List.mem_of_getElem? hl)) (k H locs ls hR hS hl2)
theorem rw_aloadr_n (E : hE p s m args c b0 G cc own nL Ts) {k0 : Fin 4} {i x : Nat} {j0 : Nat} (hi : (k0 : Nat) = i) (hl : lv[j0]? = some (i, Value.ref x)) (hdg : decode cc pc = .ok (.aload_n k0, 1)) (k : WH p l e R s m args below meth c b0 G nL cells slots Q S (pc + 1) lv (.ref x :: st)) : WH p l e R s m args below meth c b0 G nL cells slots Q S pc lv st := fun H locs ls hR hS hl2 => lv_aload_n E.1 E.2.1 hdg hi (hl2.2.2 _ (List.mem_of_getElem? hl)) (k H locs ls hR hS hl2)
theorem rw_gets (E : hE p s m args c b0 G cc own nL Ts) {index : Nat} {C n d : String} {v : Value} (hZ : hX b0 G s → va_Z C n d v (hA b0) s s.heap) (hlink : Cond.fieldLink own index C n d ∈ Ts) (hdg : decode cc pc = .ok (.getstatic index, 3)) (k : WH p l e R s m args below meth c b0 G nL cells slots Q S (pc + 3) lv (v :: st)) : WH p l e R s m args below meth c b0 G nL cells slots Q S pc lv st := fun H locs ls hR hS hl2 => va_gets E.1 E.2.1 (hZ E.2.2.2.2.2.2) hS E.2.2.2.1 (E.2.2.2.2.1 _ hlink) (fun _ h => h) hdg (k H locs ls hR hS hl2)
theorem rw_kget (E : hE p s m args c b0 G cc own nL Ts) {index q : Nat} {o n d : String} {v : Value} (hF : hX b0 G s → va_OF o n d v q (hA b0) s s.heap) (hlink : Cond.fieldLink own index o n d ∈ Ts) (hdg : decode cc pc = .ok (.getfield index, 3)) (k : WH p l e R s m args below meth c b0 G nL cells slots Q S (pc + 3) lv (v :: st)) : WH p l e R s m args below meth c b0 G nL cells slots Q S pc lv (.ref q :: st) := fun H locs ls hR hS hl2 => vk_getf E.1 E.2.1 (hF E.2.2.2.2.2.2) hS E.2.2.2.1 (E.2.2.2.2.1 _ hlink) (fun _ h => h) hdg (k H locs ls hR hS hl2)
theorem rw_tlen (E : hE p s m args c b0 G cc own nL Ts) {t N : Nat} {f : Nat → Value} {ty : FieldType} {v : Int32} (hT : hX b0 G s → va_T ty t N f (hA b0) s s.heap) (hv : Int32.ofNat N = v) (hdg : decode cc pc = .ok (.arraylength, 1)) (k : WH p l e R s m args below meth c b0 G nL cells slots Q S (pc + 1) lv (.int v :: st)) : WH p l e R s m args below meth c b0 G nL cells slots Q S pc lv (.ref t :: st) := fun H locs ls hR hS hl2 => va_tlen E.1 E.2.1 (hT E.2.2.2.2.2.2) hS hv hdg (k H locs ls hR hS hl2)
theorem rw_tb (E : hE p s m args c b0 G cc own nL Ts) {t N : Nat} {f : Nat → Value} {i : Int32} {v : Value} (hT : hX b0 G s → va_T .byte t N f (hA b0) s s.heap) (hin : vp_in i N) (hv : f i.toNatClampNeg = v) (hdg : decode cc pc = .ok (.baload, 1)) (k : WH p l e R s m args below meth c b0 G nL cells slots Q S (pc + 1) lv (v :: st)) : WH p l e R s m args below meth c b0 G nL cells slots Q S pc lv (.int i :: .ref t :: st) := fun H locs ls hR hS hl2 => va_tb E.1 E.2.1 (hT E.2.2.2.2.2.2) hS hin hv hdg (k H locs ls hR hS hl2)
theorem rw_ishr (E : hE p s m args c b0 G cc own nL Ts) {x y : Int32} (hdg : decode cc pc = .ok (.ishr, 1)) (k : WH p l e R s m args below meth c b0 G nL cells slots Q S (pc + 1) lv (.int (x >>> (y &&& 31)) :: st)) : WH p l e R s m args below meth c b0 G nL cells slots Q S pc lv (.int y :: .int x :: st) := fun H locs ls hR hS hl2 => lv_ishr E.1 E.2.1 hdg (k H locs ls hR hS hl2)
theorem rw_i2c (E : hE p s m args c b0 G cc own nL Ts) {x : Int32} (hdg : decode cc pc = .ok (.i2c, 1)) (k : WH p l e R s m args below meth c b0 G nL cells slots Q S (pc + 1) lv (.int ((x.toUInt32 % 65536).toInt32) :: st)) : WH p l e R s m args below meth c b0 G nL cells slots Q S pc lv (.int x :: st) := fun H locs ls hR hS hl2 => lv_i2c (v := (x.toUInt32 % 65536).toInt32) E.1 E.2.1 hdg rfl (k H locs ls hR hS hl2)
theorem rw_pop (E : hE p s m args c b0 G cc own nL Ts) {v : Value} (hv : v.category = 1) (hdg : decode cc pc = .ok (.pop, 1)) (k : WH p l e R s m args below meth c b0 G nL cells slots Q S (pc + 1) lv st) : WH p l e R s m args below meth c b0 G nL cells slots Q S pc lv (v :: st) := fun H locs ls hR hS hl2 => lv_pop E.1 E.2.1 hdg hv (k H locs ls hR hS hl2)
theorem rw_tret (E : hE p s m args c b0 G cc own nL Ts) {v : Int32} {ty : FieldType} {mc ms : Nat} (hr : meth.sig.returnType = some ty) (hn : narrow ty (.int v) = .int v) (hlk : meth.locks = false) (hcm : cells ≤ mc) (hsm : slots ≤ ms) (hdg : decode cc pc = .ok (.ireturn, 1)) : WH p l e R s m args below meth c b0 G nL cells slots (MQ below (hQ b0 G (some (.int v)) S) args s mc ms (hA b0)) S pc lv [.int v] :=
  fun H locs ls hR0 hS hl => W.widen hcm hsm (W.zret E.1 E.2.1 hr hn (fun t ht hW => ⟨rfl, by rw [ht]; exact hR0, hS.F ht⟩) hS.2.2 hdg hlk)
theorem rw_callK (E : hE p s m args c b0 G cc own nL Ts) {y : MethodName} {bytes : ByteArray} {maxL n index i : Nat} {ret : Option FieldType} {ws : List Cond} {rm : Room} {As rest : List Value} {v : Option Value} {S1 : HS} {mc ms : Nat} (hM : MH l y ws rm b0 G S (.ref (G.2.1 i) :: As) v S1 mc ms) (cw : CallW R s args own "java/lang/String" index y bytes maxL ret ws rm mc ms n) (hi : i < 11) (hn : As.length = n) (hst : st = As.reverse ++ .ref (G.2.1 i) :: rest) (hW : (rest.map fun v => v.category).sum ≤ 8) (hf : cells + mc ≤ R.cells ∧ slots + ms ≤ R.slots) (hdg : decode cc pc = .ok (.invokevirtual index, 3)) (k : WH p l e R s m args below meth c b0 G nL (cells + mc) (slots + ms) Q S1 (pc + 3) lv (v.toList ++ rest)) : WH p l e R s m args below meth c b0 G nL cells slots Q S pc lv st :=
  rw_run (y := y) (fun H locs ls hR0 hS hl => va_runV (As := As) (rest := rest) ⟨E.1, E.2.1, E.2.2.1, E.2.2.2.1, E.2.2.2.2.1⟩ hM cw ⟨hB.blind, vk_recv E.2.2.2.2.2.2.2.2.1 hi hS, fun U hU hW2 => ⟨rfl, E.B hR0 hS U hU hW2⟩⟩ rfl hn hl.1 hst (lv_room hW) hdg hf) k
theorem rw_cKi (E : hE p s m args c b0 G cc own nL Ts) {i : Nat} {sem : Option (Int32 × HS)} {f : Int32 → HS → Option α} {y : MethodName} {bytes : ByteArray} {maxL n index : Nat} {ret : Option FieldType} {ws : List Cond} {rm : Room} {As rest : List Value} {mc ms : Nat} (h : kK i (kc sem f) = some res) (hM : ∀ r S1, sem = some (r, S1) → MH l y ws rm b0 G S (.ref (G.2.1 i) :: As) (some (.int r)) S1 mc ms) (cw : CallW R s args own "java/lang/String" index y bytes maxL ret ws rm mc ms n) (hn : As.length = n) (hst : st = As.reverse ++ .ref (G.2.1 i) :: rest) (hW : (rest.map fun v => v.category).sum ≤ 8) (hf : cells + mc ≤ R.cells ∧ slots + ms ≤ R.slots) (hdg : decode cc pc = .ok (.invokevirtual index, 3)) (k : ∀ r S1, f r S1 = some res → WH p l e R s m args below meth c b0 G nL (cells + mc) (slots + ms) Q S1 (pc + 3) lv (.int r :: rest)) : WH p l e R s m args below meth c b0 G nL cells slots Q S pc lv st := by
  unfold kK at h
  split at h
  · next hi =>
    cases hs : sem with
    | none => rw [hs] at h; cases h
    | some q =>
      rw [hs] at h
      obtain ⟨r, S1⟩ := q
      exact rw_callK E (hM _ _ hs) cw hi hn hst hW hf hdg (k _ _ h)
  · cases h
def kcopy (S : HS) (src : Option Nat) (sp : Int32) (dst : Option Nat) (dp n : Int32) (f : HS → Option α) : Option α := kO S src 14 (fun a => kO S dst 14 (fun b => if sp < 0 ∨ dp < 0 ∨ n < 0 ∨ hL S a < sp.toNatClampNeg + n.toNatClampNeg ∨ hL S b < dp.toNatClampNeg + n.toNatClampNeg then none else f (wC S b (va_cpy (hI S a) (hI S b) sp.toNatClampNeg dp.toNatClampNeg n.toNatClampNeg))))
theorem i32_nn {z : Int32} (hz : ¬ z < 0) : z.toInt = (z.toNatClampNeg : Int) := by
  have h0 : (0 : Int) ≤ z.toInt := by simpa using Int32.le_iff_toInt_le.mp (Int32.not_lt.mp hz)
  show z.toInt = ((z.toInt.toNat : Nat) : Int)
  omega
theorem rw_copy (E : hE p s m args c b0 G cc own nL Ts) {src dst : Option Nat} {sp dp n : Int32} {index : Nat} {f : HS → Option α} (h : kcopy S src sp dst dp n f = some res) (hframes : 1 ≤ R.frames) (hlocals : (st.map fun v => v.category).sum + 18 ≤ R.locals) (hlink : Cond.methodLink own index arraycopyName ∈ Ts) (hnat : Cond.native arraycopyName ∈ Ts) (hstat : Cond.static arraycopyName ∈ Ts) (hini : Cond.initialized "java/lang/System" ∈ Ts) (hdg : decode cc pc = .ok (.invokestatic index, 3)) (k : ∀ S2, f S2 = some res → WH p l e R s m args below meth c b0 G nL cells slots Q S2 (pc + 3) lv st) : WH p l e R s m args below meth c b0 G nL cells slots Q S pc lv (.int n :: .int dp :: hrf b0 dst :: .int sp :: hrf b0 src :: st) := by
  obtain ⟨a, rfl, ha, hka, h2⟩ := kO_inv h
  obtain ⟨b, rfl, hb, hkb, h3⟩ := kO_inv h2
  split at h3
  · cases h3
  · next hc =>
    have h1 : ¬ sp < 0 := fun q => hc (Or.inl q)
    have h2 : ¬ dp < 0 := fun q => hc (Or.inr (Or.inl q))
    have h4 : ¬ n < 0 := fun q => hc (Or.inr (Or.inr (Or.inl q)))
    have h5 : sp.toNatClampNeg + n.toNatClampNeg ≤ hL S a := Nat.not_lt.mp fun q => hc (Or.inr (Or.inr (Or.inr (Or.inl q))))
    have h6 : dp.toNatClampNeg + n.toNatClampNeg ≤ hL S b := Nat.not_lt.mp fun q => hc (Or.inr (Or.inr (Or.inr (Or.inr q))))
    intro H locs ls hR0 hS hl T hT X
    obtain ⟨hx, hbc, hml, hown, hts, hK0, hX0⟩ := E
    have hc0 : H[b0 + a]? = some (vp_cell (G.1.2 14) (hL S a, .inl (hI S a))) := hR0.one ha (hcell_i (b0 := b0) (cid := G.1.2) hka (by decide) (by decide)) 0 _ rfl
    have hc1 : H[b0 + b]? = some (vp_cell (G.1.2 14) (hL S b, .inl (hI S b))) := hR0.one hb (hcell_i (b0 := b0) (cid := G.1.2) hkb (by decide) (by decide)) 0 _ rfl
    obtain ⟨-, k0, hk0, cm0, hkk0⟩ := (hK0.2 1 _ rfl).1 (hL S a) (fun j => .int (hI S a j))
    obtain ⟨vm2, X2, step⟩ := X.arraycopy hx hown (hts _ hlink) (hts _ hnat) (hts _ hstat) (hts _ hini) (src := b0 + a) (dst := b0 + b) (cs := vp_cell (G.1.2 14) (hL S a, .inl (hI S a))) (cd := vp_cell (G.1.2 14) (hL S b, .inl (hI S b))) (srcPos := sp) (destPos := dp) (n := n) (by rw [hT]; exact hc0) (by rw [hT]; exact hc1)
      (fun _ h => by cases h) (fun _ h => by cases h) (fun h => by cases h) (fun h => by cases h) hk0 hk0 hkk0 hkk0 (by simp [refKind]) h1 h2 h4
      (by rw [i32_nn h1, i32_nn h4]; show ¬ _ > ((arrV (G.1.2 14) (hL S a) (fun j => .int (hI S a j))).slots.size : Int); rw [arrV_size]; omega)
      (by rw [i32_nn h2, i32_nn h4]; show ¬ _ > ((arrV (G.1.2 14) (hL S b) (fun j => .int (hI S b j))).slots.size : Int); rw [arrV_size]; omega)
      (fun vm₁ _ i hi => by
        have e : (vp_cell (G.1.2 14) (hL S a, .inl (hI S a))).slots.getD (sp.toNatClampNeg + i) .null = .int (hI S a (sp.toNatClampNeg + i)) := by
          show (arrV (G.1.2 14) (hL S a) (fun j => .int (hI S a j))).slots.getD _ _ = _
          rw [Array.getD_eq_getD_getElem?, arrV_read _ _ (by omega)]
          rfl
        refine ⟨?_, ?_⟩
        · rw [e]
          rfl
        · rw [e]
          exact trivial)
      (g := F0 m pc ls (.int n :: .int dp :: .ref (b0 + b) :: .int sp :: .ref (b0 + a) :: st)) rfl (by rw [hml]; exact hl.1) (rest := st) rfl (by rw [hbc]; exact hdg) hframes (by show 2 * 0 + _ + (7 + 11) ≤ _; omega)
    have e1 : copied (vp_cell (G.1.2 14) (hL S a, .inl (hI S a))) (vp_cell (G.1.2 14) (hL S b, .inl (hI S b))) sp dp n = vp_cell (G.1.2 14) (hL S b, .inl (va_cpy (hI S a) (hI S b) sp.toNatClampNeg dp.toNatClampNeg n.toNatClampNeg)) := va_copied (fun z => .int z) (G.1.2 14) (G.1.2 14) (hI S a) (hI S b) h5
    rw [e1] at X2 step
    have hlt : b0 + b < H.size := (Array.getElem?_eq_some_iff.mp hc1).1
    have hheap : ((T.setVm vm2).setCell (b0 + b) (vp_cell (G.1.2 14) (hL S b, .inl (va_cpy (hI S a) (hI S b) sp.toNatClampNeg dp.toNatClampNeg n.toNatClampNeg)))).heap = H.setIfInBounds (b0 + b) (vp_cell (G.1.2 14) (hL S b, .inl (va_cpy (hI S a) (hI S b) sp.toNatClampNeg dp.toNatClampNeg n.toNatClampNeg))) := by rw [← hT]; rfl
    have oq : ∀ q : Nat, q ≠ b0 + b → (H.setIfInBounds (b0 + b) (vp_cell (G.1.2 14) (hL S b, .inl (va_cpy (hI S a) (hI S b) sp.toNatClampNeg dp.toNatClampNeg n.toNatClampNeg))))[q]? = H[q]? := fun q hq => by simp [Array.getElem?_setIfInBounds, Ne.symm hq]
    obtain ⟨t, a1, b1⟩ := k _ h3 _ _ ls (hR0.to (S' := wC S b (va_cpy (hI S a) (hI S b) sp.toNatClampNeg dp.toNatClampNeg n.toNatClampNeg)) (c := b) rfl (hcell_i (b0 := b0) (cid := G.1.2) (k := 14) hkb (by decide) (by decide)) (fun x hx2 => hcell_congr rfl rfl (fun j => by rw [hI_wC, if_neg hx2]) (fun _ => rfl)) (by
        show (H.setIfInBounds (b0 + b) _)[b0 + b]? = some (vp_cell _ _)
        rw [show hI (wC S b (va_cpy (hI S a) (hI S b) sp.toNatClampNeg dp.toNatClampNeg n.toNatClampNeg)) b = va_cpy (hI S a) (hI S b) sp.toNatClampNeg dp.toNatClampNeg n.toNatClampNeg from funext fun j => by rw [hI_wC, if_pos rfl], hL_wC]
        simp [Array.getElem?_setIfInBounds, hlt]) oq (by simp)) ⟨by simp; exact hS.1, fun q g1 g2 => by
        rw [oq q (fun e => g2 (by rw [e]; show b0 ≤ b0 + b; omega))]
        exact hS.2.1 q g1 g2, fun q hq => by
        rcases List.mem_append.mp hq with h | h
        · exact hS.2.2 q h
        · obtain ⟨z, -, hz⟩ := List.mem_map.mp h
          rw [← hz]
          show b0 ≤ b0 + b
          omega⟩ hl _ hheap X2
    exact ⟨t, step t a1, b1⟩
theorem WH.sub {lv lv2 : List (Nat × Value)} (h : ∀ q ∈ lv2, q ∈ lv) (k : WH p l e R s m args below meth c b0 G nL cells slots Q S pc lv2 st) : WH p l e R s m args below meth c b0 G nL cells slots Q S pc lv st := fun H locs ls hR0 hS hl => k H locs ls hR0 hS ⟨hl.1, hl.2.1, fun q hq => hl.2.2 q (h q hq)⟩
theorem WH.pick {lv lv2 : List (Nat × Value)} (ks : List Nat) (h : lv_pick lv ks = lv2) (k : WH p l e R s m args below meth c b0 G nL cells slots Q S pc lv2 st) : WH p l e R s m args below meth c b0 G nL cells slots Q S pc lv st := fun H locs ls hR0 hS hl => k H locs ls hR0 hS (lv_sub hl ks h)
theorem WH.widen {k n : Nat} (h1 : cells ≤ k) (h2 : slots ≤ n) (kk : WH p l e R s m args below meth c b0 G nL k n Q S pc lv st) : WH p l e R s m args below meth c b0 G nL cells slots Q S pc lv st := fun H locs ls hR0 hS hl => W.widen h1 h2 (kk H locs ls hR0 hS hl)
end HROWS
/-- a method's contract out of its walk from the entry -/
theorem MH.ofW {l : Launch} {y : MethodName} {ws ws2 : List Cond} {rm : Room} {b0 : Nat} {G : hG} {S S1 : HS} {av : List Value} {v : Option Value} {mc ms : Nat} {cc : ByteArray} {maxL : Nat} {ret : Option FieldType} {own : String} {lv0 : List (Nat × Value)} (hy : plainName y.cls = true) (hw : ws = Cond.code y cc maxL ret :: ws2) (hown : y.cls = own) (hlen : (lg_sl av).length ≤ maxL) (hlv : lv_args 0 av = lv0)
    (body : ∀ (p : Program) (e : Env) (s : State) (m : MethodId) (args : Array Value) (below : List Frame) (meth : Method) (c : Code), hE p s m args c b0 G cc own maxL ws → meth.sig.returnType = ret → meth.locks = false → meth.name = y.name → WH p l e rm s m args below meth c b0 G maxL 0 0 (MQ below (hQ b0 G v S1) args s mc ms (hA b0)) S 0 lv0 []) : MH l y ws rm b0 G S av v S1 mc ms := by
  refine Met.ofW (cc := cc) (maxL := maxL) (ret := ret) hy hw ?_
  intro p e s m args below meth c s1 B hml hv
  obtain ⟨rfl, hR0, hK0, hX0⟩ := hv
  have hown2 : s.vm.findClass own = some m.cls := by rw [← hown]; exact findClass_of_methodNamed B.named
  have hl := lv_entry av (n := maxL) hlen
  rw [lg_entry_eq]
  generalize (lg_sl av ++ List.replicate (maxL - (lg_sl av).length) Slot.unset).toArray = ls at hl ⊢
  rw [hlv] at hl
  exact body p e s m _ below meth c ⟨B.exec, B.bytes, hml, hown2, atoms_spec (ws := ws) B.pre, hK0, hX0⟩ B.returns B.notSynchronized (name_of_methodNamed B.named B.method).1 s.heap [] ls hR0 va_S.rf hl
theorem hdv_0 : ∀ j r, (hflds 0)[j]? = some r → defaultValue (tyX0 j) = if r then .null else .int 0 := by
  intro j r h
  match j, h with
  | 0, h => cases h; rfl
  | 1, h => cases h; rfl
  | 2, h => cases h; rfl
  | 3, h => cases h; rfl
  | _ + 4, h => exact absurd (List.getElem?_eq_some_iff.mp h).1 (by simp [hflds])
theorem hdv_1 : ∀ j r, (hflds 1)[j]? = some r → defaultValue (tyX1 j) = if r then .null else .int 0 := by
  intro j r h
  match j, h with
  | 0, h => cases h; rfl
  | 1, h => cases h; rfl
  | 2, h => cases h; rfl
  | 3, h => cases h; rfl
  | 4, h => cases h; rfl
  | 5, h => cases h; rfl
  | _ + 6, h => exact absurd (List.getElem?_eq_some_iff.mp h).1 (by simp [hflds])
theorem hdv_2 : ∀ j r, (hflds 2)[j]? = some r → defaultValue (tyX2 j) = if r then .null else .int 0 := by
  intro j r h
  match j, h with
  | 0, h => cases h; rfl
  | 1, h => cases h; rfl
  | 2, h => cases h; rfl
  | 3, h => cases h; rfl
  | _ + 4, h => exact absurd (List.getElem?_eq_some_iff.mp h).1 (by simp [hflds])
theorem hdv_3 : ∀ j r, (hflds 3)[j]? = some r → defaultValue (tyX3 j) = if r then .null else .int 0 := by
  intro j r h
  match j, h with
  | 0, h => cases h; rfl
  | 1, h => cases h; rfl
  | 2, h => cases h; rfl
  | _ + 3, h => exact absurd (List.getElem?_eq_some_iff.mp h).1 (by simp [hflds])
theorem hdv_4 : ∀ j r, (hflds 4)[j]? = some r → defaultValue (tyX4 j) = if r then .null else .int 0 := by
  intro j r h
  match j, h with
  | 0, h => cases h; rfl
  | 1, h => cases h; rfl
  | 2, h => cases h; rfl
  | 3, h => cases h; rfl
  | 4, h => cases h; rfl
  | 5, h => cases h; rfl
  | 6, h => cases h; rfl
  | 7, h => cases h; rfl
  | 8, h => cases h; rfl
  | _ + 9, h => exact absurd (List.getElem?_eq_some_iff.mp h).1 (by simp [hflds])
theorem hdv_5 : ∀ j r, (hflds 5)[j]? = some r → defaultValue (tyX5 j) = if r then .null else .int 0 := by
  intro j r h
  match j, h with
  | 0, h => cases h; rfl
  | 1, h => cases h; rfl
  | _ + 2, h => exact absurd (List.getElem?_eq_some_iff.mp h).1 (by simp [hflds])
theorem hdv_6 : ∀ j r, (hflds 6)[j]? = some r → defaultValue (tyX6 j) = if r then .null else .int 0 := by
  intro j r h
  match j, h with
  | 0, h => cases h; rfl
  | 1, h => cases h; rfl
  | 2, h => cases h; rfl
  | 3, h => cases h; rfl
  | _ + 4, h => exact absurd (List.getElem?_eq_some_iff.mp h).1 (by simp [hflds])
theorem hdv_7 : ∀ j r, (hflds 7)[j]? = some r → defaultValue (tyX7 j) = if r then .null else .int 0 := by
  intro j r h
  match j, h with
  | 0, h => cases h; rfl
  | 1, h => cases h; rfl
  | 2, h => cases h; rfl
  | 3, h => cases h; rfl
  | _ + 4, h => exact absurd (List.getElem?_eq_some_iff.mp h).1 (by simp [hflds])
theorem hdv_8 : ∀ j r, (hflds 8)[j]? = some r → defaultValue (tyX8 j) = if r then .null else .int 0 := by
  intro j r h
  match j, h with
  | 0, h => cases h; rfl
  | 1, h => cases h; rfl
  | 2, h => cases h; rfl
  | 3, h => cases h; rfl
  | 4, h => cases h; rfl
  | 5, h => cases h; rfl
  | 6, h => cases h; rfl
  | 7, h => cases h; rfl
  | 8, h => cases h; rfl
  | 9, h => cases h; rfl
  | 10, h => cases h; rfl
  | 11, h => cases h; rfl
  | _ + 12, h => exact absurd (List.getElem?_eq_some_iff.mp h).1 (by simp [hflds])
theorem hdv_9 : ∀ j r, (hflds 9)[j]? = some r → defaultValue (tyX9 j) = if r then .null else .int 0 := by
  intro j r h
  match j, h with
  | 0, h => cases h; rfl
  | 1, h => cases h; rfl
  | _ + 2, h => exact absurd (List.getElem?_eq_some_iff.mp h).1 (by simp [hflds])
theorem hdv_10 : ∀ j r, (hflds 10)[j]? = some r → defaultValue (tyX10 j) = if r then .null else .int 0 := by
  intro j r h
  match j, h with
  | 0, h => cases h; rfl
  | 1, h => cases h; rfl
  | 2, h => cases h; rfl
  | 3, h => cases h; rfl
  | 4, h => cases h; rfl
  | 5, h => cases h; rfl
  | 6, h => cases h; rfl
  | 7, h => cases h; rfl
  | _ + 8, h => exact absurd (List.getElem?_eq_some_iff.mp h).1 (by simp [hflds])
theorem hdv_11 : ∀ j r, (hflds 11)[j]? = some r → defaultValue (tyX11 j) = if r then .null else .int 0 := by
  intro j r h
  match j, h with
  | 0, h => cases h; rfl
  | 1, h => cases h; rfl
  | 2, h => cases h; rfl
  | 3, h => cases h; rfl
  | 4, h => cases h; rfl
  | 5, h => cases h; rfl
  | 6, h => cases h; rfl
  | 7, h => cases h; rfl
  | 8, h => cases h; rfl
  | _ + 9, h => exact absurd (List.getElem?_eq_some_iff.mp h).1 (by simp [hflds])
theorem hdv_12 : ∀ j r, (hflds 12)[j]? = some r → defaultValue (tyX12 j) = if r then .null else .int 0 := by
  intro j r h
  match j, h with
  | 0, h => cases h; rfl
  | 1, h => cases h; rfl
  | 2, h => cases h; rfl
  | 3, h => cases h; rfl
  | 4, h => cases h; rfl
  | 5, h => cases h; rfl
  | 6, h => cases h; rfl
  | 7, h => cases h; rfl
  | 8, h => cases h; rfl
  | 9, h => cases h; rfl
  | 10, h => cases h; rfl
  | 11, h => cases h; rfl
  | 12, h => cases h; rfl
  | 13, h => cases h; rfl
  | 14, h => cases h; rfl
  | 15, h => cases h; rfl
  | 16, h => cases h; rfl
  | 17, h => cases h; rfl
  | 18, h => cases h; rfl
  | 19, h => cases h; rfl
  | 20, h => cases h; rfl
  | 21, h => cases h; rfl
  | 22, h => cases h; rfl
  | 23, h => cases h; rfl
  | 24, h => cases h; rfl
  | 25, h => cases h; rfl
  | 26, h => cases h; rfl
  | 27, h => cases h; rfl
  | 28, h => cases h; rfl
  | 29, h => cases h; rfl
  | 30, h => cases h; rfl
  | 31, h => cases h; rfl
  | _ + 32, h => exact absurd (List.getElem?_eq_some_iff.mp h).1 (by simp [hflds])
