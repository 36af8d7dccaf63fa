/-! the constructors' walks, by program (wip/whole/gen_cons.py) -/
theorem oneD {q sz : Nat} {e : va_E} : va_D (va_A [(q, e)] sz) [(q, e)] := ⟨fun i j p q hi hj _ => by
    have h1 := (List.getElem?_eq_some_iff.mp hi).1
    have h2 := (List.getElem?_eq_some_iff.mp hj).1
    simp at h1 h2
    omega, fun k q hk => Or.inl ⟨k, q.2, hk⟩⟩
def lsA (L : List Nat) (i : Nat) : Nat := L.getD i 0
theorem dfX0 : ∀ j, j < 3 → defaultValue (tyX0 j) = vp_V [.null, .int 0, .int 0] j := fun j hj => by rcases (show j = 0 ∨ j = 1 ∨ j = 2 by omega) with rfl | rfl | rfl <;> rfl
theorem dfX1 : ∀ j, j < 4 → defaultValue (tyX1 j) = vp_V [.long 0, .int 0, .int 0, .int 0] j := fun j hj => by rcases (show j = 0 ∨ j = 1 ∨ j = 2 ∨ j = 3 by omega) with rfl | rfl | rfl | rfl <;> rfl
theorem dfX2 : ∀ j, j < 7 → defaultValue (tyX2 j) = vp_V [.null, .null, .null, .null, .int 0, .int 0, .int 0] j := fun j hj => by rcases (show j = 0 ∨ j = 1 ∨ j = 2 ∨ j = 3 ∨ j = 4 ∨ j = 5 ∨ j = 6 by omega) with rfl | rfl | rfl | rfl | rfl | rfl | rfl <;> rfl
theorem dfX3 : ∀ j, j < 12 → defaultValue (tyX3 j) = vp_V [.null, .null, .null, .null, .null, .null, .null, .null, .int 0, .int 0, .int 0, .int 0] j := fun j hj => by rcases (show j = 0 ∨ j = 1 ∨ j = 2 ∨ j = 3 ∨ j = 4 ∨ j = 5 ∨ j = 6 ∨ j = 7 ∨ j = 8 ∨ j = 9 ∨ j = 10 ∨ j = 11 by omega) with rfl | rfl | rfl | rfl | rfl | rfl | rfl | rfl | rfl | rfl | rfl | rfl <;> rfl
theorem dfX4 : ∀ j, j < 11 → defaultValue (tyX4 j) = vp_V [.null, .int 0, .int 0, .int 0, .int 0, .int 0, .int 0, .int 0, .int 0, .int 0, .int 0] j := fun j hj => by rcases (show j = 0 ∨ j = 1 ∨ j = 2 ∨ j = 3 ∨ j = 4 ∨ j = 5 ∨ j = 6 ∨ j = 7 ∨ j = 8 ∨ j = 9 ∨ j = 10 by omega) with rfl | rfl | rfl | rfl | rfl | rfl | rfl | rfl | rfl | rfl | rfl <;> rfl
theorem dfX5 : ∀ j, j < 3 → defaultValue (tyX5 j) = vp_V [.null, .int 0, .int 0] j := fun j hj => by rcases (show j = 0 ∨ j = 1 ∨ j = 2 by omega) with rfl | rfl | rfl <;> rfl
theorem dfX6 : ∀ j, j < 9 → defaultValue (tyX6 j) = vp_V [.null, .null, .null, .null, .null, .null, .null, .null, .int 0] j := fun j hj => by rcases (show j = 0 ∨ j = 1 ∨ j = 2 ∨ j = 3 ∨ j = 4 ∨ j = 5 ∨ j = 6 ∨ j = 7 ∨ j = 8 by omega) with rfl | rfl | rfl | rfl | rfl | rfl | rfl | rfl | rfl <;> rfl
def bP (_G : wG) (a : Nat → Nat) : va_W := [(a 0, .inr (1, [.long 0, .int 0, .int 0, .int 0]))]
set_option maxHeartbeats 4000000 in
set_option maxRecDepth 100000 in
theorem iX1 (l : Launch) (G : wG) : iV l yX1_init wsX1_init { frames := 1, cells := 0, slots := 0, locals := 12 } G [] (.inr (1, [.long 0, .int 0, .int 0, .int 0])) (bP G) 0 0 := by
  intro q sz
  refine Met.ofW (cc := cX1_init) (maxL := 1) (ret := none) (by decide) rfl ?_
  intro p e s m args below meth c s₁ B hml hv
  obtain ⟨rfl, hsz, hP, hK⟩ := hv
  have hx := B.exec
  have hb := B.bytes
  have hr := B.returns
  have hts := atoms_spec (ws := wsX1_init) B.pre
  have hown : s.vm.findClass RX1 = some m.cls := findClass_of_methodNamed B.named
  have hin : meth.name = "<init>" := (name_of_methodNamed B.named B.method).1
  subst hsz
  have hD : va_D (va_A [(q, .inr (1, [.long 0, .int 0, .int 0, .int 0]))] s.heap.size) [(q, .inr (1, [.long 0, .int 0, .int 0, .int 0]))] := oneD
  generalize hAe : va_A [(q, .inr (1, [.long 0, .int 0, .int 0, .int 0]))] s.heap.size = A at hD ⊢
  have hA : ∀ q : Nat, s.heap.size ≤ q → A q := fun q h => by rw [← hAe]; exact Or.inr h
  have hS : va_S A s.heap s.heap [] := va_S.rf
  have hl := lv_entry ([.ref q]) (n := 1) (Nat.le_of_ble_eq_true rfl)
  rw [lg_entry_eq]
  generalize (lg_sl ([.ref q]) ++ List.replicate (1 - (lg_sl ([.ref q])).length) Slot.unset).toArray = ls at hl ⊢
  have hl : lv_has ls 1 [(0, .ref q)] := hl
  have hP : va_P (gD G) vwCl [(q, .inr (1, [.long 0, .int 0, .int 0, .int 0]))] s.heap := hP
  refine lv_aload_n hx hb dX1_init_0 rfl (lv_at hl 0 rfl) ?_
  refine W.objInit hx hb hown (hts (.methodLink RX1 1 objectInit) (by decide +kernel)) (hts (.instanceMethod objectInit) (by decide +kernel)) (hts (.code objectInit ⟨#[0xb1]⟩ 1 none) (List.mem_of_getElem? (i := 3) rfl)) rfl (by rw [hml]; exact hl.1) rfl dX1_init_1 (Nat.le_of_ble_eq_true rfl) (Nat.le_of_ble_eq_true rfl) ?_
  refine W.eq (g2 := F0 m 4 ls []) rfl ?_
  exact W.vret hx hb hr (fun t ht hW => ⟨⟨lsA [q], rfl, rfl, by rw [ht]; exact hP, hD⟩, hS.F ht⟩) hS.2.2 dX1_init_4
def bV (G : wG) (a : Nat → Nat) : va_W := (a 0, .inr (3, [.ref (a 1), .ref (a 2), .ref (a 3), .ref (a 4), .ref (a 5), .ref (a 6), .ref (a 7), .ref (a 8), .int 0, .int 0, .int 0, .int 0])) :: ((((((([(a 1, .inl (gI G, 20, .inl zI))] ++ [(a 2, .inl (gI G, 20, .inl zI))]) ++ [(a 3, .inl (gI G, 20, .inl zI))]) ++ [(a 4, .inl (gI G, 20, .inl zI))]) ++ [(a 5, .inl (gI G, 20, .inl zI))]) ++ [(a 6, .inl (gI G, 20, .inl zI))]) ++ [(a 7, .inl (gI G, 20, .inl zI))]) ++ [(a 8, .inl (gI G, 20, .inl zI))])
set_option maxHeartbeats 4000000 in
set_option maxRecDepth 100000 in
theorem iX3 (l : Launch) (G : wG) : iV l yX3_init wsX3_init { frames := 1, cells := 8, slots := 160, locals := 16 } G [] (.inr (3, [.null, .null, .null, .null, .null, .null, .null, .null, .int 0, .int 0, .int 0, .int 0])) (bV G) 8 160 := by
  intro q sz
  refine Met.ofW (cc := cX3_init) (maxL := 1) (ret := none) (by decide) rfl ?_
  intro p e s m args below meth c s₁ B hml hv
  obtain ⟨rfl, hsz, hP, hK⟩ := hv
  have hx := B.exec
  have hb := B.bytes
  have hr := B.returns
  have hts := atoms_spec (ws := wsX3_init) B.pre
  have hown : s.vm.findClass RX3 = some m.cls := findClass_of_methodNamed B.named
  have hin : meth.name = "<init>" := (name_of_methodNamed B.named B.method).1
  subst hsz
  have hD : va_D (va_A [(q, .inr (3, [.null, .null, .null, .null, .null, .null, .null, .null, .int 0, .int 0, .int 0, .int 0]))] s.heap.size) [(q, .inr (3, [.null, .null, .null, .null, .null, .null, .null, .null, .int 0, .int 0, .int 0, .int 0]))] := oneD
  generalize hAe : va_A [(q, .inr (3, [.null, .null, .null, .null, .null, .null, .null, .null, .int 0, .int 0, .int 0, .int 0]))] s.heap.size = A at hD ⊢
  have hA : ∀ q : Nat, s.heap.size ≤ q → A q := fun q h => by rw [← hAe]; exact Or.inr h
  have hS : va_S A s.heap s.heap [] := va_S.rf
  have hl := lv_entry ([.ref q]) (n := 1) (Nat.le_of_ble_eq_true rfl)
  rw [lg_entry_eq]
  generalize (lg_sl ([.ref q]) ++ List.replicate (1 - (lg_sl ([.ref q])).length) Slot.unset).toArray = ls at hl ⊢
  have hl : lv_has ls 1 [(0, .ref q)] := hl
  have hP : va_P (gD G) vwCl [(q, .inr (3, [.null, .null, .null, .null, .null, .null, .null, .null, .int 0, .int 0, .int 0, .int 0]))] s.heap := hP
  refine lv_aload_n hx hb dX3_init_0 rfl (lv_at hl 0 rfl) ?_
  refine W.objInit hx hb hown (hts (.methodLink RX3 3 objectInit) (by decide +kernel)) (hts (.instanceMethod objectInit) (by decide +kernel)) (hts (.code objectInit ⟨#[0xb1]⟩ 1 none) (List.mem_of_getElem? (i := 3) rfl)) rfl (by rw [hml]; exact hl.1) rfl dX3_init_1 (Nat.le_of_ble_eq_true rfl) (Nat.le_of_ble_eq_true rfl) ?_
  refine W.eq (g2 := F0 m 4 ls []) rfl ?_
  refine lv_aload_n hx hb dX3_init_4 rfl (lv_at hl 0 rfl) ?_
  refine lv_bipush (v := 20) hx hb dX3_init_5 (by decide) ?_
  refine cv_newI (G := G) 20 hx hb (hts (.arrayClass .int) (by decide +kernel)) hK hP hD hS hA (by decide) (by decide) (by decide) (Nat.le_of_ble_eq_true rfl) (Nat.le_of_ble_eq_true rfl) dX3_init_7 (fun q1 H hP hD hS => ?_)
  have hP : va_P (gD G) vwCl ((q, .inr (3, [.null, .null, .null, .null, .null, .null, .null, .null, .int 0, .int 0, .int 0, .int 0])) :: [(q1, .inl (gI G, 20, .inl zI))]) H := hP
  have hD : va_D A ((q, .inr (3, [.null, .null, .null, .null, .null, .null, .null, .null, .int 0, .int 0, .int 0, .int 0])) :: [(q1, .inl (gI G, 20, .inl zI))]) := hD
  refine va_putF (D := gD G) (cl := vwCl) (ci := 3) (v := .ref q1) (ty := .array .int) (C := RX3) (T := TX3) (N := 12) hx hb hts (by decide +kernel) tyX3 tyX3_ok nmX3 hown hK hP hD hS 0 rfl rfl 0 (by decide) (hts (.fieldLink RX3 9 "BaroRuns$Survey" "times" "[I") (by decide +kernel)) (fun _ h9 => h9) rfl hin rfl (by decide +kernel) rfl rfl (Nat.le_of_ble_eq_true rfl) dX3_init_9 (fun H locs hP hD hS => ?_)
  have hP : va_P (gD G) vwCl ((q, .inr (3, [.ref q1, .null, .null, .null, .null, .null, .null, .null, .int 0, .int 0, .int 0, .int 0])) :: [(q1, .inl (gI G, 20, .inl zI))]) H := hP
  have hD : va_D A ((q, .inr (3, [.ref q1, .null, .null, .null, .null, .null, .null, .null, .int 0, .int 0, .int 0, .int 0])) :: [(q1, .inl (gI G, 20, .inl zI))]) := hD
  refine lv_aload_n hx hb dX3_init_12 rfl (lv_at hl 0 rfl) ?_
  refine lv_bipush (v := 20) hx hb dX3_init_13 (by decide) ?_
  refine cv_newI (G := G) 20 hx hb (hts (.arrayClass .int) (by decide +kernel)) hK hP hD hS hA (by decide) (by decide) (by decide) (Nat.le_of_ble_eq_true rfl) (Nat.le_of_ble_eq_true rfl) dX3_init_15 (fun q2 H hP hD hS => ?_)
  have hP : va_P (gD G) vwCl ((q, .inr (3, [.ref q1, .null, .null, .null, .null, .null, .null, .null, .int 0, .int 0, .int 0, .int 0])) :: ([(q1, .inl (gI G, 20, .inl zI))] ++ [(q2, .inl (gI G, 20, .inl zI))])) H := hP
  have hD : va_D A ((q, .inr (3, [.ref q1, .null, .null, .null, .null, .null, .null, .null, .int 0, .int 0, .int 0, .int 0])) :: ([(q1, .inl (gI G, 20, .inl zI))] ++ [(q2, .inl (gI G, 20, .inl zI))])) := hD
  refine va_putF (D := gD G) (cl := vwCl) (ci := 3) (v := .ref q2) (ty := .array .int) (C := RX3) (T := TX3) (N := 12) hx hb hts (by decide +kernel) tyX3 tyX3_ok nmX3 hown hK hP hD hS 0 rfl rfl 1 (by decide) (hts (.fieldLink RX3 15 "BaroRuns$Survey" "points" "[I") (by decide +kernel)) (fun _ h9 => h9) rfl hin rfl (by decide +kernel) rfl rfl (Nat.le_of_ble_eq_true rfl) dX3_init_17 (fun H locs hP hD hS => ?_)
  have hP : va_P (gD G) vwCl ((q, .inr (3, [.ref q1, .ref q2, .null, .null, .null, .null, .null, .null, .int 0, .int 0, .int 0, .int 0])) :: ([(q1, .inl (gI G, 20, .inl zI))] ++ [(q2, .inl (gI G, 20, .inl zI))])) H := hP
  have hD : va_D A ((q, .inr (3, [.ref q1, .ref q2, .null, .null, .null, .null, .null, .null, .int 0, .int 0, .int 0, .int 0])) :: ([(q1, .inl (gI G, 20, .inl zI))] ++ [(q2, .inl (gI G, 20, .inl zI))])) := hD
  refine lv_aload_n hx hb dX3_init_20 rfl (lv_at hl 0 rfl) ?_
  refine lv_bipush (v := 20) hx hb dX3_init_21 (by decide) ?_
  refine cv_newI (G := G) 20 hx hb (hts (.arrayClass .int) (by decide +kernel)) hK hP hD hS hA (by decide) (by decide) (by decide) (Nat.le_of_ble_eq_true rfl) (Nat.le_of_ble_eq_true rfl) dX3_init_23 (fun q3 H hP hD hS => ?_)
  have hP : va_P (gD G) vwCl ((q, .inr (3, [.ref q1, .ref q2, .null, .null, .null, .null, .null, .null, .int 0, .int 0, .int 0, .int 0])) :: (([(q1, .inl (gI G, 20, .inl zI))] ++ [(q2, .inl (gI G, 20, .inl zI))]) ++ [(q3, .inl (gI G, 20, .inl zI))])) H := hP
  have hD : va_D A ((q, .inr (3, [.ref q1, .ref q2, .null, .null, .null, .null, .null, .null, .int 0, .int 0, .int 0, .int 0])) :: (([(q1, .inl (gI G, 20, .inl zI))] ++ [(q2, .inl (gI G, 20, .inl zI))]) ++ [(q3, .inl (gI G, 20, .inl zI))])) := hD
  refine va_putF (D := gD G) (cl := vwCl) (ci := 3) (v := .ref q3) (ty := .array .int) (C := RX3) (T := TX3) (N := 12) hx hb hts (by decide +kernel) tyX3 tyX3_ok nmX3 hown hK hP hD hS 0 rfl rfl 2 (by decide) (hts (.fieldLink RX3 18 "BaroRuns$Survey" "heights" "[I") (by decide +kernel)) (fun _ h9 => h9) rfl hin rfl (by decide +kernel) rfl rfl (Nat.le_of_ble_eq_true rfl) dX3_init_25 (fun H locs hP hD hS => ?_)
  have hP : va_P (gD G) vwCl ((q, .inr (3, [.ref q1, .ref q2, .ref q3, .null, .null, .null, .null, .null, .int 0, .int 0, .int 0, .int 0])) :: (([(q1, .inl (gI G, 20, .inl zI))] ++ [(q2, .inl (gI G, 20, .inl zI))]) ++ [(q3, .inl (gI G, 20, .inl zI))])) H := hP
  have hD : va_D A ((q, .inr (3, [.ref q1, .ref q2, .ref q3, .null, .null, .null, .null, .null, .int 0, .int 0, .int 0, .int 0])) :: (([(q1, .inl (gI G, 20, .inl zI))] ++ [(q2, .inl (gI G, 20, .inl zI))]) ++ [(q3, .inl (gI G, 20, .inl zI))])) := hD
  refine lv_aload_n hx hb dX3_init_28 rfl (lv_at hl 0 rfl) ?_
  refine lv_bipush (v := 20) hx hb dX3_init_29 (by decide) ?_
  refine cv_newI (G := G) 20 hx hb (hts (.arrayClass .int) (by decide +kernel)) hK hP hD hS hA (by decide) (by decide) (by decide) (Nat.le_of_ble_eq_true rfl) (Nat.le_of_ble_eq_true rfl) dX3_init_31 (fun q4 H hP hD hS => ?_)
  have hP : va_P (gD G) vwCl ((q, .inr (3, [.ref q1, .ref q2, .ref q3, .null, .null, .null, .null, .null, .int 0, .int 0, .int 0, .int 0])) :: ((([(q1, .inl (gI G, 20, .inl zI))] ++ [(q2, .inl (gI G, 20, .inl zI))]) ++ [(q3, .inl (gI G, 20, .inl zI))]) ++ [(q4, .inl (gI G, 20, .inl zI))])) H := hP
  have hD : va_D A ((q, .inr (3, [.ref q1, .ref q2, .ref q3, .null, .null, .null, .null, .null, .int 0, .int 0, .int 0, .int 0])) :: ((([(q1, .inl (gI G, 20, .inl zI))] ++ [(q2, .inl (gI G, 20, .inl zI))]) ++ [(q3, .inl (gI G, 20, .inl zI))]) ++ [(q4, .inl (gI G, 20, .inl zI))])) := hD
  refine va_putF (D := gD G) (cl := vwCl) (ci := 3) (v := .ref q4) (ty := .array .int) (C := RX3) (T := TX3) (N := 12) hx hb hts (by decide +kernel) tyX3 tyX3_ok nmX3 hown hK hP hD hS 0 rfl rfl 3 (by decide) (hts (.fieldLink RX3 21 "BaroRuns$Survey" "gusts" "[I") (by decide +kernel)) (fun _ h9 => h9) rfl hin rfl (by decide +kernel) rfl rfl (Nat.le_of_ble_eq_true rfl) dX3_init_33 (fun H locs hP hD hS => ?_)
  have hP : va_P (gD G) vwCl ((q, .inr (3, [.ref q1, .ref q2, .ref q3, .ref q4, .null, .null, .null, .null, .int 0, .int 0, .int 0, .int 0])) :: ((([(q1, .inl (gI G, 20, .inl zI))] ++ [(q2, .inl (gI G, 20, .inl zI))]) ++ [(q3, .inl (gI G, 20, .inl zI))]) ++ [(q4, .inl (gI G, 20, .inl zI))])) H := hP
  have hD : va_D A ((q, .inr (3, [.ref q1, .ref q2, .ref q3, .ref q4, .null, .null, .null, .null, .int 0, .int 0, .int 0, .int 0])) :: ((([(q1, .inl (gI G, 20, .inl zI))] ++ [(q2, .inl (gI G, 20, .inl zI))]) ++ [(q3, .inl (gI G, 20, .inl zI))]) ++ [(q4, .inl (gI G, 20, .inl zI))])) := hD
  refine lv_aload_n hx hb dX3_init_36 rfl (lv_at hl 0 rfl) ?_
  refine lv_bipush (v := 20) hx hb dX3_init_37 (by decide) ?_
  refine cv_newI (G := G) 20 hx hb (hts (.arrayClass .int) (by decide +kernel)) hK hP hD hS hA (by decide) (by decide) (by decide) (Nat.le_of_ble_eq_true rfl) (Nat.le_of_ble_eq_true rfl) dX3_init_39 (fun q5 H hP hD hS => ?_)
  have hP : va_P (gD G) vwCl ((q, .inr (3, [.ref q1, .ref q2, .ref q3, .ref q4, .null, .null, .null, .null, .int 0, .int 0, .int 0, .int 0])) :: (((([(q1, .inl (gI G, 20, .inl zI))] ++ [(q2, .inl (gI G, 20, .inl zI))]) ++ [(q3, .inl (gI G, 20, .inl zI))]) ++ [(q4, .inl (gI G, 20, .inl zI))]) ++ [(q5, .inl (gI G, 20, .inl zI))])) H := hP
  have hD : va_D A ((q, .inr (3, [.ref q1, .ref q2, .ref q3, .ref q4, .null, .null, .null, .null, .int 0, .int 0, .int 0, .int 0])) :: (((([(q1, .inl (gI G, 20, .inl zI))] ++ [(q2, .inl (gI G, 20, .inl zI))]) ++ [(q3, .inl (gI G, 20, .inl zI))]) ++ [(q4, .inl (gI G, 20, .inl zI))]) ++ [(q5, .inl (gI G, 20, .inl zI))])) := hD
  refine va_putF (D := gD G) (cl := vwCl) (ci := 3) (v := .ref q5) (ty := .array .int) (C := RX3) (T := TX3) (N := 12) hx hb hts (by decide +kernel) tyX3 tyX3_ok nmX3 hown hK hP hD hS 0 rfl rfl 4 (by decide) (hts (.fieldLink RX3 24 "BaroRuns$Survey" "openLoops" "[I") (by decide +kernel)) (fun _ h9 => h9) rfl hin rfl (by decide +kernel) rfl rfl (Nat.le_of_ble_eq_true rfl) dX3_init_41 (fun H locs hP hD hS => ?_)
  have hP : va_P (gD G) vwCl ((q, .inr (3, [.ref q1, .ref q2, .ref q3, .ref q4, .ref q5, .null, .null, .null, .int 0, .int 0, .int 0, .int 0])) :: (((([(q1, .inl (gI G, 20, .inl zI))] ++ [(q2, .inl (gI G, 20, .inl zI))]) ++ [(q3, .inl (gI G, 20, .inl zI))]) ++ [(q4, .inl (gI G, 20, .inl zI))]) ++ [(q5, .inl (gI G, 20, .inl zI))])) H := hP
  have hD : va_D A ((q, .inr (3, [.ref q1, .ref q2, .ref q3, .ref q4, .ref q5, .null, .null, .null, .int 0, .int 0, .int 0, .int 0])) :: (((([(q1, .inl (gI G, 20, .inl zI))] ++ [(q2, .inl (gI G, 20, .inl zI))]) ++ [(q3, .inl (gI G, 20, .inl zI))]) ++ [(q4, .inl (gI G, 20, .inl zI))]) ++ [(q5, .inl (gI G, 20, .inl zI))])) := hD
  refine lv_aload_n hx hb dX3_init_44 rfl (lv_at hl 0 rfl) ?_
  refine lv_bipush (v := 20) hx hb dX3_init_45 (by decide) ?_
  refine cv_newI (G := G) 20 hx hb (hts (.arrayClass .int) (by decide +kernel)) hK hP hD hS hA (by decide) (by decide) (by decide) (Nat.le_of_ble_eq_true rfl) (Nat.le_of_ble_eq_true rfl) dX3_init_47 (fun q6 H hP hD hS => ?_)
  have hP : va_P (gD G) vwCl ((q, .inr (3, [.ref q1, .ref q2, .ref q3, .ref q4, .ref q5, .null, .null, .null, .int 0, .int 0, .int 0, .int 0])) :: ((((([(q1, .inl (gI G, 20, .inl zI))] ++ [(q2, .inl (gI G, 20, .inl zI))]) ++ [(q3, .inl (gI G, 20, .inl zI))]) ++ [(q4, .inl (gI G, 20, .inl zI))]) ++ [(q5, .inl (gI G, 20, .inl zI))]) ++ [(q6, .inl (gI G, 20, .inl zI))])) H := hP
  have hD : va_D A ((q, .inr (3, [.ref q1, .ref q2, .ref q3, .ref q4, .ref q5, .null, .null, .null, .int 0, .int 0, .int 0, .int 0])) :: ((((([(q1, .inl (gI G, 20, .inl zI))] ++ [(q2, .inl (gI G, 20, .inl zI))]) ++ [(q3, .inl (gI G, 20, .inl zI))]) ++ [(q4, .inl (gI G, 20, .inl zI))]) ++ [(q5, .inl (gI G, 20, .inl zI))]) ++ [(q6, .inl (gI G, 20, .inl zI))])) := hD
  refine va_putF (D := gD G) (cl := vwCl) (ci := 3) (v := .ref q6) (ty := .array .int) (C := RX3) (T := TX3) (N := 12) hx hb hts (by decide +kernel) tyX3 tyX3_ok nmX3 hown hK hP hD hS 0 rfl rfl 5 (by decide) (hts (.fieldLink RX3 27 "BaroRuns$Survey" "correctedHeights" "[I") (by decide +kernel)) (fun _ h9 => h9) rfl hin rfl (by decide +kernel) rfl rfl (Nat.le_of_ble_eq_true rfl) dX3_init_49 (fun H locs hP hD hS => ?_)
  have hP : va_P (gD G) vwCl ((q, .inr (3, [.ref q1, .ref q2, .ref q3, .ref q4, .ref q5, .ref q6, .null, .null, .int 0, .int 0, .int 0, .int 0])) :: ((((([(q1, .inl (gI G, 20, .inl zI))] ++ [(q2, .inl (gI G, 20, .inl zI))]) ++ [(q3, .inl (gI G, 20, .inl zI))]) ++ [(q4, .inl (gI G, 20, .inl zI))]) ++ [(q5, .inl (gI G, 20, .inl zI))]) ++ [(q6, .inl (gI G, 20, .inl zI))])) H := hP
  have hD : va_D A ((q, .inr (3, [.ref q1, .ref q2, .ref q3, .ref q4, .ref q5, .ref q6, .null, .null, .int 0, .int 0, .int 0, .int 0])) :: ((((([(q1, .inl (gI G, 20, .inl zI))] ++ [(q2, .inl (gI G, 20, .inl zI))]) ++ [(q3, .inl (gI G, 20, .inl zI))]) ++ [(q4, .inl (gI G, 20, .inl zI))]) ++ [(q5, .inl (gI G, 20, .inl zI))]) ++ [(q6, .inl (gI G, 20, .inl zI))])) := hD
  refine lv_aload_n hx hb dX3_init_52 rfl (lv_at hl 0 rfl) ?_
  refine lv_bipush (v := 20) hx hb dX3_init_53 (by decide) ?_
  refine cv_newI (G := G) 20 hx hb (hts (.arrayClass .int) (by decide +kernel)) hK hP hD hS hA (by decide) (by decide) (by decide) (Nat.le_of_ble_eq_true rfl) (Nat.le_of_ble_eq_true rfl) dX3_init_55 (fun q7 H hP hD hS => ?_)
  have hP : va_P (gD G) vwCl ((q, .inr (3, [.ref q1, .ref q2, .ref q3, .ref q4, .ref q5, .ref q6, .null, .null, .int 0, .int 0, .int 0, .int 0])) :: (((((([(q1, .inl (gI G, 20, .inl zI))] ++ [(q2, .inl (gI G, 20, .inl zI))]) ++ [(q3, .inl (gI G, 20, .inl zI))]) ++ [(q4, .inl (gI G, 20, .inl zI))]) ++ [(q5, .inl (gI G, 20, .inl zI))]) ++ [(q6, .inl (gI G, 20, .inl zI))]) ++ [(q7, .inl (gI G, 20, .inl zI))])) H := hP
  have hD : va_D A ((q, .inr (3, [.ref q1, .ref q2, .ref q3, .ref q4, .ref q5, .ref q6, .null, .null, .int 0, .int 0, .int 0, .int 0])) :: (((((([(q1, .inl (gI G, 20, .inl zI))] ++ [(q2, .inl (gI G, 20, .inl zI))]) ++ [(q3, .inl (gI G, 20, .inl zI))]) ++ [(q4, .inl (gI G, 20, .inl zI))]) ++ [(q5, .inl (gI G, 20, .inl zI))]) ++ [(q6, .inl (gI G, 20, .inl zI))]) ++ [(q7, .inl (gI G, 20, .inl zI))])) := hD
  refine va_putF (D := gD G) (cl := vwCl) (ci := 3) (v := .ref q7) (ty := .array .int) (C := RX3) (T := TX3) (N := 12) hx hb hts (by decide +kernel) tyX3 tyX3_ok nmX3 hown hK hP hD hS 0 rfl rfl 6 (by decide) (hts (.fieldLink RX3 30 "BaroRuns$Survey" "begins" "[I") (by decide +kernel)) (fun _ h9 => h9) rfl hin rfl (by decide +kernel) rfl rfl (Nat.le_of_ble_eq_true rfl) dX3_init_57 (fun H locs hP hD hS => ?_)
  have hP : va_P (gD G) vwCl ((q, .inr (3, [.ref q1, .ref q2, .ref q3, .ref q4, .ref q5, .ref q6, .ref q7, .null, .int 0, .int 0, .int 0, .int 0])) :: (((((([(q1, .inl (gI G, 20, .inl zI))] ++ [(q2, .inl (gI G, 20, .inl zI))]) ++ [(q3, .inl (gI G, 20, .inl zI))]) ++ [(q4, .inl (gI G, 20, .inl zI))]) ++ [(q5, .inl (gI G, 20, .inl zI))]) ++ [(q6, .inl (gI G, 20, .inl zI))]) ++ [(q7, .inl (gI G, 20, .inl zI))])) H := hP
  have hD : va_D A ((q, .inr (3, [.ref q1, .ref q2, .ref q3, .ref q4, .ref q5, .ref q6, .ref q7, .null, .int 0, .int 0, .int 0, .int 0])) :: (((((([(q1, .inl (gI G, 20, .inl zI))] ++ [(q2, .inl (gI G, 20, .inl zI))]) ++ [(q3, .inl (gI G, 20, .inl zI))]) ++ [(q4, .inl (gI G, 20, .inl zI))]) ++ [(q5, .inl (gI G, 20, .inl zI))]) ++ [(q6, .inl (gI G, 20, .inl zI))]) ++ [(q7, .inl (gI G, 20, .inl zI))])) := hD
  refine lv_aload_n hx hb dX3_init_60 rfl (lv_at hl 0 rfl) ?_
  refine lv_bipush (v := 20) hx hb dX3_init_61 (by decide) ?_
  refine cv_newI (G := G) 20 hx hb (hts (.arrayClass .int) (by decide +kernel)) hK hP hD hS hA (by decide) (by decide) (by decide) (Nat.le_of_ble_eq_true rfl) (Nat.le_of_ble_eq_true rfl) dX3_init_63 (fun q8 H hP hD hS => ?_)
  have hP : va_P (gD G) vwCl ((q, .inr (3, [.ref q1, .ref q2, .ref q3, .ref q4, .ref q5, .ref q6, .ref q7, .null, .int 0, .int 0, .int 0, .int 0])) :: ((((((([(q1, .inl (gI G, 20, .inl zI))] ++ [(q2, .inl (gI G, 20, .inl zI))]) ++ [(q3, .inl (gI G, 20, .inl zI))]) ++ [(q4, .inl (gI G, 20, .inl zI))]) ++ [(q5, .inl (gI G, 20, .inl zI))]) ++ [(q6, .inl (gI G, 20, .inl zI))]) ++ [(q7, .inl (gI G, 20, .inl zI))]) ++ [(q8, .inl (gI G, 20, .inl zI))])) H := hP
  have hD : va_D A ((q, .inr (3, [.ref q1, .ref q2, .ref q3, .ref q4, .ref q5, .ref q6, .ref q7, .null, .int 0, .int 0, .int 0, .int 0])) :: ((((((([(q1, .inl (gI G, 20, .inl zI))] ++ [(q2, .inl (gI G, 20, .inl zI))]) ++ [(q3, .inl (gI G, 20, .inl zI))]) ++ [(q4, .inl (gI G, 20, .inl zI))]) ++ [(q5, .inl (gI G, 20, .inl zI))]) ++ [(q6, .inl (gI G, 20, .inl zI))]) ++ [(q7, .inl (gI G, 20, .inl zI))]) ++ [(q8, .inl (gI G, 20, .inl zI))])) := hD
  refine va_putF (D := gD G) (cl := vwCl) (ci := 3) (v := .ref q8) (ty := .array .int) (C := RX3) (T := TX3) (N := 12) hx hb hts (by decide +kernel) tyX3 tyX3_ok nmX3 hown hK hP hD hS 0 rfl rfl 7 (by decide) (hts (.fieldLink RX3 33 "BaroRuns$Survey" "ends" "[I") (by decide +kernel)) (fun _ h9 => h9) rfl hin rfl (by decide +kernel) rfl rfl (Nat.le_of_ble_eq_true rfl) dX3_init_65 (fun H locs hP hD hS => ?_)
  have hP : va_P (gD G) vwCl ((q, .inr (3, [.ref q1, .ref q2, .ref q3, .ref q4, .ref q5, .ref q6, .ref q7, .ref q8, .int 0, .int 0, .int 0, .int 0])) :: ((((((([(q1, .inl (gI G, 20, .inl zI))] ++ [(q2, .inl (gI G, 20, .inl zI))]) ++ [(q3, .inl (gI G, 20, .inl zI))]) ++ [(q4, .inl (gI G, 20, .inl zI))]) ++ [(q5, .inl (gI G, 20, .inl zI))]) ++ [(q6, .inl (gI G, 20, .inl zI))]) ++ [(q7, .inl (gI G, 20, .inl zI))]) ++ [(q8, .inl (gI G, 20, .inl zI))])) H := hP
  have hD : va_D A ((q, .inr (3, [.ref q1, .ref q2, .ref q3, .ref q4, .ref q5, .ref q6, .ref q7, .ref q8, .int 0, .int 0, .int 0, .int 0])) :: ((((((([(q1, .inl (gI G, 20, .inl zI))] ++ [(q2, .inl (gI G, 20, .inl zI))]) ++ [(q3, .inl (gI G, 20, .inl zI))]) ++ [(q4, .inl (gI G, 20, .inl zI))]) ++ [(q5, .inl (gI G, 20, .inl zI))]) ++ [(q6, .inl (gI G, 20, .inl zI))]) ++ [(q7, .inl (gI G, 20, .inl zI))]) ++ [(q8, .inl (gI G, 20, .inl zI))])) := hD
  exact W.vret hx hb hr (fun t ht hW => ⟨⟨lsA [q, q1, q2, q3, q4, q5, q6, q7, q8], rfl, rfl, by rw [ht]; exact hP, hD⟩, hS.F ht⟩) hS.2.2 dX3_init_68
def bX (G : wG) (a : Nat → Nat) : va_W := [(a 0, .inr (4, [.ref (a 1), .int 0, .int 0, .int 0, .int 0, .int 0, .int 0, .int 0, .int 0, .int (-1), .int 0])), (a 1, .inl (gI G, 100, .inl zI))]
set_option maxHeartbeats 4000000 in
set_option maxRecDepth 100000 in
theorem iX4 (l : Launch) (G : wG) : iV l yX4_init wsX4_init { frames := 1, cells := 1, slots := 100, locals := 16 } G [] (.inr (4, [.null, .int 0, .int 0, .int 0, .int 0, .int 0, .int 0, .int 0, .int 0, .int 0, .int 0])) (bX G) 1 100 := by
  intro q sz
  refine Met.ofW (cc := cX4_init) (maxL := 1) (ret := none) (by decide) rfl ?_
  intro p e s m args below meth c s₁ B hml hv
  obtain ⟨rfl, hsz, hP, hK⟩ := hv
  have hx := B.exec
  have hb := B.bytes
  have hr := B.returns
  have hts := atoms_spec (ws := wsX4_init) B.pre
  have hown : s.vm.findClass RX4 = some m.cls := findClass_of_methodNamed B.named
  have hin : meth.name = "<init>" := (name_of_methodNamed B.named B.method).1
  subst hsz
  have hD : va_D (va_A [(q, .inr (4, [.null, .int 0, .int 0, .int 0, .int 0, .int 0, .int 0, .int 0, .int 0, .int 0, .int 0]))] s.heap.size) [(q, .inr (4, [.null, .int 0, .int 0, .int 0, .int 0, .int 0, .int 0, .int 0, .int 0, .int 0, .int 0]))] := oneD
  generalize hAe : va_A [(q, .inr (4, [.null, .int 0, .int 0, .int 0, .int 0, .int 0, .int 0, .int 0, .int 0, .int 0, .int 0]))] s.heap.size = A at hD ⊢
  have hA : ∀ q : Nat, s.heap.size ≤ q → A q := fun q h => by rw [← hAe]; exact Or.inr h
  have hS : va_S A s.heap s.heap [] := va_S.rf
  have hl := lv_entry ([.ref q]) (n := 1) (Nat.le_of_ble_eq_true rfl)
  rw [lg_entry_eq]
  generalize (lg_sl ([.ref q]) ++ List.replicate (1 - (lg_sl ([.ref q])).length) Slot.unset).toArray = ls at hl ⊢
  have hl : lv_has ls 1 [(0, .ref q)] := hl
  have hP : va_P (gD G) vwCl [(q, .inr (4, [.null, .int 0, .int 0, .int 0, .int 0, .int 0, .int 0, .int 0, .int 0, .int 0, .int 0]))] s.heap := hP
  refine lv_aload_n hx hb dX4_init_0 rfl (lv_at hl 0 rfl) ?_
  refine W.objInit hx hb hown (hts (.methodLink RX4 3 objectInit) (by decide +kernel)) (hts (.instanceMethod objectInit) (by decide +kernel)) (hts (.code objectInit ⟨#[0xb1]⟩ 1 none) (List.mem_of_getElem? (i := 3) rfl)) rfl (by rw [hml]; exact hl.1) rfl dX4_init_1 (Nat.le_of_ble_eq_true rfl) (Nat.le_of_ble_eq_true rfl) ?_
  refine W.eq (g2 := F0 m 4 ls []) rfl ?_
  refine lv_aload_n hx hb dX4_init_4 rfl (lv_at hl 0 rfl) ?_
  refine lv_bipush (v := 100) hx hb dX4_init_5 (by decide) ?_
  refine cv_newI (G := G) 100 hx hb (hts (.arrayClass .int) (by decide +kernel)) hK hP hD hS hA (by decide) (by decide) (by decide) (Nat.le_of_ble_eq_true rfl) (Nat.le_of_ble_eq_true rfl) dX4_init_7 (fun q1 H hP hD hS => ?_)
  have hP : va_P (gD G) vwCl ((q, .inr (4, [.null, .int 0, .int 0, .int 0, .int 0, .int 0, .int 0, .int 0, .int 0, .int 0, .int 0])) :: [(q1, .inl (gI G, 100, .inl zI))]) H := hP
  have hD : va_D A ((q, .inr (4, [.null, .int 0, .int 0, .int 0, .int 0, .int 0, .int 0, .int 0, .int 0, .int 0, .int 0])) :: [(q1, .inl (gI G, 100, .inl zI))]) := hD
  refine va_putF (D := gD G) (cl := vwCl) (ci := 4) (v := .ref q1) (ty := .array .int) (C := RX4) (T := TX4) (N := 11) hx hb hts (by decide +kernel) tyX4 tyX4_ok nmX4 hown hK hP hD hS 0 rfl rfl 0 (by decide) (hts (.fieldLink RX4 9 "BaroRuns$Text" "characters" "[I") (by decide +kernel)) (fun _ h9 => h9) rfl hin rfl (by decide +kernel) rfl rfl (Nat.le_of_ble_eq_true rfl) dX4_init_9 (fun H locs hP hD hS => ?_)
  have hP : va_P (gD G) vwCl ((q, .inr (4, [.ref q1, .int 0, .int 0, .int 0, .int 0, .int 0, .int 0, .int 0, .int 0, .int 0, .int 0])) :: [(q1, .inl (gI G, 100, .inl zI))]) H := hP
  have hD : va_D A ((q, .inr (4, [.ref q1, .int 0, .int 0, .int 0, .int 0, .int 0, .int 0, .int 0, .int 0, .int 0, .int 0])) :: [(q1, .inl (gI G, 100, .inl zI))]) := hD
  refine lv_aload_n hx hb dX4_init_12 rfl (lv_at hl 0 rfl) ?_
  refine lv_iconst (v := -1) hx hb dX4_init_13 (by decide) ?_
  refine va_put (D := gD G) (cl := vwCl) (ci := 4) (v := .int (-1)) (ty := .int) (C := RX4) (T := TX4) (N := 11) hx hb hts (by decide +kernel) tyX4 tyX4_ok nmX4 hown hK hP hD hS 0 rfl rfl 9 (by decide) (hts (.fieldLink RX4 15 "BaroRuns$Text" "faultPosition" "I") (by decide +kernel)) (fun _ h9 => h9) rfl (by decide +kernel) rfl rfl (Nat.le_of_ble_eq_true rfl) dX4_init_14 (fun H locs hP hD hS => ?_)
  have hP : va_P (gD G) vwCl ((q, .inr (4, [.ref q1, .int 0, .int 0, .int 0, .int 0, .int 0, .int 0, .int 0, .int 0, .int (-1), .int 0])) :: [(q1, .inl (gI G, 100, .inl zI))]) H := hP
  have hD : va_D A ((q, .inr (4, [.ref q1, .int 0, .int 0, .int 0, .int 0, .int 0, .int 0, .int 0, .int 0, .int (-1), .int 0])) :: [(q1, .inl (gI G, 100, .inl zI))]) := hD
  exact W.vret hx hb hr (fun t ht hW => ⟨⟨lsA [q, q1], rfl, rfl, by rw [ht]; exact hP, hD⟩, hS.F ht⟩) hS.2.2 dX4_init_17
