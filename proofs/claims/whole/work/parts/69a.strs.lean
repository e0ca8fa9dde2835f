/-! ===== the law's start: what the tables and the Statement give ===== -/
theorem st_prim {s : State} {args : Array Value} {ty : FieldType} (h : (Cond.arrayClass ty).before args s = true) : ∃ cA : ClassId, ArrOfT s cA ty ∧ s.vm.findClass ("[" ++ ty.toString) = some cA := by
  obtain ⟨cA, kA, comp, h1, h2, h3⟩ := Cond.arrayClass_spec h
  exact ⟨cA, fun n z => ⟨fun k h => (by cases h), kA, h2, comp, h3⟩, h1⟩
theorem st_refs {s : State} {args : Array Value} {C : String} (h : (Cond.arrayOver (.object C)).before args s = true) : ∃ cA : ClassId, ArrOfT s cA (.object C) ∧ va_RA s cA (.object C) := by
  obtain ⟨comp, cA, kA, hcomp, hidx, hkA, hkindA, hnameA⟩ := Cond.arrayOver_spec h
  exact ⟨cA, fun n z => ⟨fun k h => (by cases h), kA, hkA, comp, hkindA⟩, kA, comp, hkA, hkindA, hcomp, hnameA⟩
def st_F : List Cond := flatC (Jvm.Cond.and given_1 narrow_1)
theorem st_m1 : ∀ i, i < 11 → Cond.exactly (.string RX10 (hSi.getD i 0)) "java/lang/String" ∈ st_F := by decide +kernel
theorem st_m2 : ∀ i, i < 11 → Cond.eq (.field (.string RX10 (hSi.getD i 0)) "java/lang/String" "coder" "B") (.int 0) ∈ st_F := by decide +kernel
theorem st_m3 : ∀ i, i < 11 → Cond.arrayOf (.field (.string RX10 (hSi.getD i 0)) "java/lang/String" "value" "[B") .byte ∈ st_F := by decide +kernel
theorem st_m4 : ∀ i, i < 11 → Cond.eq (.length (.field (.string RX10 (hSi.getD i 0)) "java/lang/String" "value" "[B")) (.int (Int32.ofNat (hSl.getD i 0))) ∈ st_F := by decide +kernel
theorem st_m5 : ∀ i, i < 11 → ∀ j, j < hSl.getD i 0 → Cond.eq (.elem (.field (.string RX10 (hSi.getD i 0)) "java/lang/String" "value" "[B") (.int (Int32.ofNat j))) (.int ((hSb.getD i []).getD j 0)) ∈ st_F := by decide +kernel
