/-! the law's head: what the tables' words give at its entry -/
theorem arr_of {s : State} {args : Array Value} {ty : FieldType} (h : (Cond.arrayClass ty).before args s = true) : ∃ cA, s.vm.findClass ("[" ++ ty.toString) = some cA ∧ ArrOfT s cA ty := by
  obtain ⟨cA, k, comp, h1, h2, h3⟩ := Cond.arrayClass_spec h
  exact ⟨cA, h1, fun N z => ⟨(fun k h => (by cases h)), k, h2, comp, h3⟩⟩
theorem arrO_of {s : State} {args : Array Value} {C : String} (h : (Cond.arrayOver (.object C)).before args s = true) : ∃ cA, ArrOfT s cA (.object C) ∧ va_RA s cA (.object C) := by
  obtain ⟨comp, cA, k, h1, h2, h3, h4, h5⟩ := Cond.arrayOver_spec h
  exact ⟨cA, fun N z => ⟨(fun k h => (by cases h)), k, h3, comp, h4⟩, k, comp, h3, h4, h1, h5⟩
theorem wt_of {s : State} {args : Array Value} (hi : (Cond.arrayClass .int).before args s = true) (ho : (Cond.arrayOver (.object RX2)).before args s = true) : ∃ (cI cO : ClassId), ∀ (k : Nat) (q : ClassId × FieldType), [(cI, FieldType.int), (cO, .object "BaroRuns$State")][k]? = some q → ArrOfT s q.1 q.2 ∧ va_RA s q.1 q.2 := by
  obtain ⟨cI, i1, i2⟩ := arr_of hi
  obtain ⟨cO, o1, o2⟩ := arrO_of ho
  refine ⟨cI, cO, fun k q hq => ?_⟩
  match k, hq with
  | 0, hq => cases hq; exact ⟨i2, i1⟩
  | 1, hq => cases hq; exact ⟨o1, o2⟩
  | k + 2, hq => simp at hq
theorem nwF_in : ∀ w ∈ nwF.map (fun q => Cond.fieldLinkNest q.1 q.2.1 q.2.2.1 q.2.2.2.1 q.2.2.2.2.1 q.2.2.2.2.2), w ∈ lw_tbl := in_pos _ [53, 121, 125, 98, 179, 123, 160, 54, 51, 69] (by decide +kernel)
theorem nwM_in : ∀ w ∈ nwM.map (fun q => Cond.methodLinkNest q.1 q.2.1 q.2.2.1 q.2.2.2), w ∈ lw_tbl := in_pos _ [554, 374, 442, 363, 396, 307, 324] (by decide +kernel)
theorem wN_of {s : State} {args : Array Value} (hts : ∀ w ∈ lw_tbl, w.before args s = true) : wN s := ⟨fun q hq => va_Nw.of rfl (hts _ (nwF_in _ (List.mem_map_of_mem hq))), fun q hq => va_Nw.of rfl (hts _ (nwM_in _ (List.mem_map_of_mem hq)))⟩
theorem lw_n0 : Cond.instantiable RX0 3 ∈ lw_tbl := List.mem_of_getElem? (i := 87) (by decide +kernel)
theorem lw_n1 : Cond.instantiable RX1 4 ∈ lw_tbl := List.mem_of_getElem? (i := 153) (by decide +kernel)
theorem lw_n2 : Cond.instantiable RX2 7 ∈ lw_tbl := List.mem_of_getElem? (i := 35) (by decide +kernel)
theorem lw_n3 : Cond.instantiable RX3 12 ∈ lw_tbl := List.mem_of_getElem? (i := 107) (by decide +kernel)
theorem lw_n4 : Cond.instantiable RX4 11 ∈ lw_tbl := List.mem_of_getElem? (i := 173) (by decide +kernel)
theorem lw_n5 : Cond.instantiable RX5 3 ∈ lw_tbl := List.mem_of_getElem? (i := 41) (by decide +kernel)
theorem lw_n6 : Cond.instantiable RX6 9 ∈ lw_tbl := List.mem_of_getElem? (i := 27) (by decide +kernel)
theorem lw_aI : Cond.arrayClass .int ∈ lw_tbl := List.mem_of_getElem? (i := 62) (by decide +kernel)
theorem lw_aO : Cond.arrayOver (.object RX2) ∈ lw_tbl := List.mem_of_getElem? (i := 93) (by decide +kernel)
theorem known_all {s : State} {args : Array Value} (hts : ∀ w ∈ lw_tbl, w.before args s = true) : ∃ D : va_G, ∀ (c : Nat) (q : vw_C), vwCl[c]? = some q → u_Kn s q.1 q.2.1 q.2.2 (D.1 c) (D.2 c) := by
  obtain ⟨c0, i0, k0⟩ := u_known (C := RX0) (T := TX0) (N := 3) (n := 3) hts inX0 (hts _ lw_n0)
  obtain ⟨c1, i1, k1⟩ := u_known (C := RX1) (T := TX1) (N := 4) (n := 4) hts inX1 (hts _ lw_n1)
  obtain ⟨c2, i2, k2⟩ := u_known (C := RX2) (T := TX2) (N := 7) (n := 7) hts inX2 (hts _ lw_n2)
  obtain ⟨c3, i3, k3⟩ := u_known (C := RX3) (T := TX3) (N := 12) (n := 12) hts inX3 (hts _ lw_n3)
  obtain ⟨c4, i4, k4⟩ := u_known (C := RX4) (T := TX4) (N := 11) (n := 11) hts inX4 (hts _ lw_n4)
  obtain ⟨c5, i5, k5⟩ := u_known (C := RX5) (T := TX5) (N := 3) (n := 3) hts inX5 (hts _ lw_n5)
  obtain ⟨c6, i6, k6⟩ := u_known (C := RX6) (T := TX6) (N := 9) (n := 9) hts inX6 (hts _ lw_n6)
  refine ⟨(fun k => [c0, c1, c2, c3, c4, c5, c6].getD k c0, fun k => [i0, i1, i2, i3, i4, i5, i6].getD k i0), fun c q hq => ?_⟩
  match c, hq with
  | 0, hq => cases hq; exact k0
  | 1, hq => cases hq; exact k1
  | 2, hq => cases hq; exact k2
  | 3, hq => cases hq; exact k3
  | 4, hq => cases hq; exact k4
  | 5, hq => cases hq; exact k5
  | 6, hq => cases hq; exact k6
  | k + 7, hq => simp at hq
theorem K_of {s : State} {args : Array Value} (hts : ∀ w ∈ lw_tbl, w.before args s = true) : ∃ G : wG, ∀ a : Nat → Nat, va_K (gD (G.1, G.2.1, a)) vwCl (wt (G.1, G.2.1, a)) s := by
  obtain ⟨D, hD⟩ := known_all hts
  obtain ⟨cI, cO, h⟩ := wt_of (hts _ lw_aI) (hts _ lw_aO)
  exact ⟨(D, (cI, cO), fun _ => 0), fun a => ⟨hD, h⟩⟩
