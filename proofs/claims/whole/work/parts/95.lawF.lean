/-! the law's head: what the tables' words give at its entry -/
theorem arr_of {s : State} {args : Array Value} {ty : FieldType} (h : (Cond.arrayClass ty).before args s = true) : ∃ cA, s.vm.findClass ("[" ++ ty.toString) = some cA ∧ ArrOfT s cA ty := by
  obtain ⟨cA, k, comp, h1, h2, h3⟩ := Cond.arrayClass_spec h
  exact ⟨cA, h1, fun N z => ⟨(fun k h => (by cases h)), k, h2, comp, h3⟩⟩
theorem arrO_of {s : State} {args : Array Value} {C : String} (h : (Cond.arrayOver (.object C)).before args s = true) : ∃ cA, ArrOfT s cA (.object C) ∧ va_RA s cA (.object C) := by
  obtain ⟨comp, cA, k, h1, h2, h3, h4, h5⟩ := Cond.arrayOver_spec h
  exact ⟨cA, fun N z => ⟨(fun k h => (by cases h)), k, h3, comp, h4⟩, k, comp, h3, h4, h1, h5⟩
theorem wt_of {s : State} {args : Array Value} (hi : (Cond.arrayClass .int).before args s = true) (hc : (Cond.arrayClass .char).before args s = true) (hz : (Cond.arrayClass .boolean).before args s = true) (ho : (Cond.arrayOver (.object RX2)).before args s = true) : ∃ (cI cC cZ cO : ClassId), ∀ (k : Nat) (q : ClassId × FieldType), [(cI, FieldType.int), (cC, .char), (cZ, .boolean), (cO, .object "BaroRuns$State")][k]? = some q → ArrOfT s q.1 q.2 ∧ va_RA s q.1 q.2 := by
  obtain ⟨cI, i1, i2⟩ := arr_of hi
  obtain ⟨cC, c1, c2⟩ := arr_of hc
  obtain ⟨cZ, z1, z2⟩ := arr_of hz
  obtain ⟨cO, o1, o2⟩ := arrO_of ho
  refine ⟨cI, cC, cZ, cO, fun k q hq => ?_⟩
  match k, hq with
  | 0, hq => cases hq; exact ⟨i2, i1⟩
  | 1, hq => cases hq; exact ⟨c2, c1⟩
  | 2, hq => cases hq; exact ⟨z2, z1⟩
  | 3, hq => cases hq; exact ⟨o1, o2⟩
  | k + 4, hq => simp at hq
