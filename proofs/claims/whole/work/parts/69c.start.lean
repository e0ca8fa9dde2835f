/-! ===== the law from its entry ===== -/
theorem start_G {s : State} {args : Array Value} (hts : ∀ w ∈ lw_tbl, w.before args s = true) (hgv : (Jvm.Cond.and given_1 narrow_1).before args s = true) : ∃ G : hG, va_K G.1.1 vwCl (htys G.1.2) s ∧ hX s.heap.size G s := by
  have hs : ∀ w ∈ st_F, w.before args s = true := flat_of_before _ hgv
  have nA : ∀ a : Nat, a < s.heap.size → ¬ hA s.heap.size a := fun a h q => absurd h (Nat.not_lt.mpr q)
  obtain ⟨c0, i0, k0⟩ := u_known (C := RX0) (T := TX0) (N := 4) (n := 4) hts inX0 (hts _ (by decide +kernel))
  obtain ⟨c1, i1, k1⟩ := u_known (C := RX1) (T := TX1) (N := 6) (n := 6) hts inX1 (hts _ (by decide +kernel))
  obtain ⟨c2, i2, k2⟩ := u_known (C := RX2) (T := TX2) (N := 4) (n := 4) hts inX2 (hts _ (by decide +kernel))
  obtain ⟨c3, i3, k3⟩ := u_known (C := RX3) (T := TX3) (N := 3) (n := 3) hts inX3 (hts _ (by decide +kernel))
  obtain ⟨c4, i4, k4⟩ := u_known (C := RX4) (T := TX4) (N := 9) (n := 9) hts inX4 (hts _ (by decide +kernel))
  obtain ⟨c5, i5, k5⟩ := u_known (C := RX5) (T := TX5) (N := 2) (n := 2) hts inX5 (hts _ (by decide +kernel))
  obtain ⟨c6, i6, k6⟩ := u_known (C := RX6) (T := TX6) (N := 4) (n := 4) hts inX6 (hts _ (by decide +kernel))
  obtain ⟨c7, i7, k7⟩ := u_known (C := RX7) (T := TX7) (N := 4) (n := 4) hts inX7 (hts _ (by decide +kernel))
  obtain ⟨c8, i8, k8⟩ := u_known (C := RX8) (T := TX8) (N := 12) (n := 12) hts inX8 (hts _ (by decide +kernel))
  obtain ⟨c9, i9, k9⟩ := u_known (C := RX9) (T := TX9) (N := 2) (n := 2) hts inX9 (hts _ (by decide +kernel))
  obtain ⟨c10, i10, k10⟩ := u_known (C := RX10) (T := TX10) (N := 8) (n := 8) hts inX10 (hts _ (by decide +kernel))
  obtain ⟨c11, i11, k11⟩ := u_known (C := RX11) (T := TX11) (N := 9) (n := 9) hts inX11 (hts _ (by decide +kernel))
  obtain ⟨c12, i12, k12⟩ := u_known (C := RX12) (T := TX12) (N := 32) (n := 32) hts inX12 (hts _ (by decide +kernel))
  obtain ⟨d13, e13, f13⟩ := st_prim (hts (.arrayClass .byte) (by decide +kernel))
  obtain ⟨d14, e14, f14⟩ := st_prim (hts (.arrayClass .int) (by decide +kernel))
  obtain ⟨d15, e15, f15⟩ := st_prim (hts (.arrayClass .boolean) (by decide +kernel))
  have o2 := hts (.arrayOver (.object RX2)) (by decide +kernel)
  have o3 := hts (.arrayOver (.object RX3)) (by decide +kernel)
  have o5 := hts (.arrayOver (.object RX5)) (by decide +kernel)
  have o6 := hts (.arrayOver (.object RX6)) (by decide +kernel)
  have o7 := hts (.arrayOver (.object RX7)) (by decide +kernel)
  have o9 := hts (.arrayOver (.object RX9)) (by decide +kernel)
  obtain ⟨d16, e16, f16⟩ := st_refs o2
  obtain ⟨d17, e17, f17⟩ := st_refs o3
  obtain ⟨d18, e18, f18⟩ := st_refs o5
  obtain ⟨d19, e19, f19⟩ := st_refs o6
  obtain ⟨d20, e20, f20⟩ := st_refs o7
  obtain ⟨d21, e21, f21⟩ := st_refs o9
  obtain ⟨adK, adV, hS, hev⟩ := vk_Sof (N := 11) (tm := fun i => .string RX10 (hSi.getD i 0)) (len := hSl) (byt := hSb) st_m7 (fun i hi => hs _ (st_m1 i hi)) (fun i hi => hs _ (st_m2 i hi)) (fun i hi => hs _ (st_m3 i hi)) (fun i hi => hs _ (st_m4 i hi)) (fun i hi j hj => hs _ (st_m5 i hi j hj)) (fun i j hi hj hij => (st_m6 i hi j hj hij).elim (fun q => Or.inl (hs _ q)) (fun q => Or.inr (hs _ q))) nA
  refine ⟨(((fun c => [c0, c1, c2, c3, c4, c5, c6, c7, c8, c9, c10, c11, c12].getD c 0, fun c => [i0, i1, i2, i3, i4, i5, i6, i7, i8, i9, i10, i11, i12].getD c (fun _ => 0)), fun k => [d13, d14, d15, d16, d17, d18, d19, d20, d21].getD (k - 13) 0), (adK, adV)), ⟨fun c q hq => ?_, fun c q hq => ?_⟩, ⟨va_AO.of o2, va_AO.of o3, va_AO.of o5, va_AO.of o6, va_AO.of o7, va_AO.of o9⟩, fun i hi => vk_R.of (hts _ (st_m8 i hi)) (hev i hi), hS, va_Zof (hts (.laysStatic "java/lang/String" "COMPACT_STRINGS" "Z") (by decide +kernel)) (hts (.initialized "java/lang/String") (by decide +kernel)) (va_eqt (hs _ st_ma.1)) nA, va_Zqof (hts (.laysStatic "jdk/internal/util/Preconditions" "SIOOBE_FORMATTER" "Ljava/util/function/BiFunction;") (by decide +kernel)) (hts (.initialized "jdk/internal/util/Preconditions") (by decide +kernel)) (hs _ st_ma.2) nA, fun q hq => va_Nw.of rfl (hts _ (st_m9 q hq))⟩
  · match c, hq with
    | 0, hq =>
      obtain rfl : (RX0, TX0, 4) = q := Option.some.inj hq
      exact k0
    | 1, hq =>
      obtain rfl : (RX1, TX1, 6) = q := Option.some.inj hq
      exact k1
    | 2, hq =>
      obtain rfl : (RX2, TX2, 4) = q := Option.some.inj hq
      exact k2
    | 3, hq =>
      obtain rfl : (RX3, TX3, 3) = q := Option.some.inj hq
      exact k3
    | 4, hq =>
      obtain rfl : (RX4, TX4, 9) = q := Option.some.inj hq
      exact k4
    | 5, hq =>
      obtain rfl : (RX5, TX5, 2) = q := Option.some.inj hq
      exact k5
    | 6, hq =>
      obtain rfl : (RX6, TX6, 4) = q := Option.some.inj hq
      exact k6
    | 7, hq =>
      obtain rfl : (RX7, TX7, 4) = q := Option.some.inj hq
      exact k7
    | 8, hq =>
      obtain rfl : (RX8, TX8, 12) = q := Option.some.inj hq
      exact k8
    | 9, hq =>
      obtain rfl : (RX9, TX9, 2) = q := Option.some.inj hq
      exact k9
    | 10, hq =>
      obtain rfl : (RX10, TX10, 8) = q := Option.some.inj hq
      exact k10
    | 11, hq =>
      obtain rfl : (RX11, TX11, 9) = q := Option.some.inj hq
      exact k11
    | 12, hq =>
      obtain rfl : (RX12, TX12, 32) = q := Option.some.inj hq
      exact k12
    | n + 13, hq => exact absurd (show n + 13 < 13 from (List.getElem?_eq_some_iff.mp hq).1) (by omega)
  · match c, hq with
    | 0, hq =>
      obtain rfl : (d13, FieldType.byte) = q := Option.some.inj hq
      exact ⟨e13, f13⟩
    | 1, hq =>
      obtain rfl : (d14, FieldType.int) = q := Option.some.inj hq
      exact ⟨e14, f14⟩
    | 2, hq =>
      obtain rfl : (d15, FieldType.boolean) = q := Option.some.inj hq
      exact ⟨e15, f15⟩
    | 3, hq =>
      obtain rfl : (d16, FieldType.object RX2) = q := Option.some.inj hq
      exact ⟨e16, f16⟩
    | 4, hq =>
      obtain rfl : (d17, FieldType.object RX3) = q := Option.some.inj hq
      exact ⟨e17, f17⟩
    | 5, hq =>
      obtain rfl : (d18, FieldType.object RX5) = q := Option.some.inj hq
      exact ⟨e18, f18⟩
    | 6, hq =>
      obtain rfl : (d19, FieldType.object RX6) = q := Option.some.inj hq
      exact ⟨e19, f19⟩
    | 7, hq =>
      obtain rfl : (d20, FieldType.object RX7) = q := Option.some.inj hq
      exact ⟨e20, f20⟩
    | 8, hq =>
      obtain rfl : (d21, FieldType.object RX9) = q := Option.some.inj hq
      exact ⟨e21, f21⟩
    | n + 9, hq => exact absurd (show n + 9 < 9 from (List.getElem?_eq_some_iff.mp hq).1) (by omega)
/-- YOUR PART: from the entry, for every script of at most 3584 ints, the law comes to its end with true -/
theorem whole_start {p : Program} {e : Env} {s : State} {m : MethodId} {below : List Frame} {meth : Method} {c : Code} (l : Launch) (hflags : l.flags = flags0) {b L : Nat} {xs : Nat → Int32} (hL : L ≤ 3584) (C0 : lw_At p s m meth c b L xs) : W p l e room_1 s m #[Value.ref b] below meth c s.heap [] 0 0 (lw_Z below #[Value.ref b] s) (entryFrame m ([Value.ref b] : List Value).toArray 4) := by
  obtain ⟨h1, h2, h3, h4, h5, h6, h7, h8, h9, h10⟩ := C0
  obtain ⟨G, hK, hXx⟩ := start_G h6 h10
  obtain ⟨S1, e1⟩ := law_some (xs := xs) hL
  have E : hE p s m #[Value.ref b] c s.heap.size G code RL 4 wsL_law := ⟨h1, h2, h4, h5, fun w hw => h6 w (wsL_law_in w hw), hK, hXx⟩
  have K := w_L_law (l := l) (e := e) (below := below) E h3 h9 ⟨h7, h8, rfl⟩ e1
  rw [lg_entry_eq]
  exact K s.heap [] _ ⟨rfl, fun c hc => absurd hc (Nat.not_lt_zero c)⟩ ⟨Nat.le_refl _, fun _ _ _ => rfl, fun _ h => absurd h List.not_mem_nil⟩ (lv_entry [Value.ref b] (n := 4) (show 1 ≤ 4 by decide))
