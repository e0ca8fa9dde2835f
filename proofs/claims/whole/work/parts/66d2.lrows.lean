/-! ===== the law's own script ===== -/
theorem i_L_law_11 : ∀ w ∈ wsX110, w ∈ wsL_law := inlX11
theorem i_L_law_12 : ∀ w ∈ wsX120, w ∈ wsL_law := inlX12
def kS {α : Type} (xs : Nat → Int32) (L : Nat) (i : Int32) (f : Int32 → Option α) : Option α := if i < 0 ∨ L ≤ i.toNatClampNeg then none else f (xs i.toNatClampNeg)
section LROWS
variable {p : Program} {l : Launch} {e : Env} {R : Room} {s : State} {m : MethodId} {args : Array Value} {below : List Frame} {meth : Method} {c : Code}
variable {b0 : Nat} {G : hG} {cc : ByteArray} {own : String} {nL : Nat} {Ts : List Cond} {cells slots : Nat} {Q : State → Prop} {S : HS} {pc : Nat} {lv : List (Nat × Value)} {st : List Value}
variable {α : Type} {res : α} {b L : Nat} {xs : Nat → Int32}
theorem rw_sld (E : hE p s m args c b0 G cc own nL Ts) {i : Int32} {f : Int32 → Option α} (h : kS xs L i f = some res) (hXX : va_X b L xs s s.heap ∧ b < s.heap.size ∧ s.heap.size = b0) (hdg : decode cc pc = .ok (.iaload, 1)) (k : ∀ v, f v = some res → WH p l e R s m args below meth c b0 G nL cells slots Q S (pc + 1) lv (.int v :: st)) : WH p l e R s m args below meth c b0 G nL cells slots Q S pc lv (.int i :: .ref b :: st) := by
  unfold kS at h
  split at h
  · cases h
  · next hi =>
    intro H locs ls hR hS hl
    exact va_sld (A := hA b0) E.1 E.2.1 hXX.1 hXX.2.1 (fun q => by have q2 : b0 ≤ b := q; have := hXX.2.1; have := hXX.2.2; omega) hS hi hdg (k _ h H locs ls hR hS hl)
theorem rw_slen (E : hE p s m args c b0 G cc own nL Ts) (hXX : va_X b L xs s s.heap ∧ b < s.heap.size ∧ s.heap.size = b0) (hdg : decode cc pc = .ok (.arraylength, 1)) (k : WH p l e R s m args below meth c b0 G nL cells slots Q S (pc + 1) lv (.int (nI L) :: st)) : WH p l e R s m args below meth c b0 G nL cells slots Q S pc lv (.ref b :: st) := by
  intro H locs ls hR hS hl
  exact va_slen (A := hA b0) E.1 E.2.1 hXX.1 hXX.2.1 (fun q => by have q2 : b0 ≤ b := q; have := hXX.2.1; have := hXX.2.2; omega) hS hdg (k H locs ls hR hS hl)
theorem rw_law1 {S1 : HS} (hXX : va_X b L xs s s.heap ∧ b < s.heap.size ∧ s.heap.size = b0) (hrt : meth.sig.returnType = ret) (hlk : meth.locks = false) (E : hE p s m #[Value.ref b] c b0 G code own nL Ts) (_ : some S = some S1) (hc : cells ≤ 600000) (hs : slots ≤ 7302250) (hdg : decode code pc = .ok (.ireturn, 1)) : WH p l e room_1 s m #[Value.ref b] below meth c b0 G nL cells slots (lw_Z below #[Value.ref b] s) S pc lv [.int 1] := by
  intro H locs ls hR hS hl
  refine va_forget (fun q hq => by rw [hXX.2.2]; exact hS.2.2 q hq) ?_
  refine W.widen (k := 600000) (n := 7302250) hc hs ?_
  exact lw_ret E.1 E.2.1 hrt hlk hdg
end LROWS
