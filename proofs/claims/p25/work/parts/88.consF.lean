def bB (G : wG) (a : Nat → Nat) : va_W := (a 0, .inr (6, [.ref (a 1), .ref (a 10), .ref (a 19), .ref (a 66), .ref (a 75), .ref (a 84), .ref (a 93), .ref (a 94), .int 1])) :: (((((((bS G (fun i => a (1 + i)) ++ bS G (fun i => a (10 + i))) ++ bH G (fun i => a (19 + i))) ++ bV G (fun i => a (66 + i))) ++ bV G (fun i => a (75 + i))) ++ bV G (fun i => a (84 + i))) ++ bP G (fun i => a (93 + i))) ++ bX G (fun i => a (94 + i)))
set_option maxHeartbeats 4000000 in
set_option maxRecDepth 100000 in
theorem iX6 (l : Launch) (G : wG) : iW l yX6_init wsX6_init { frames := 4, cells := 95, slots := 3012, locals := 96 } G [] (.inr (6, [.null, .null, .null, .null, .null, .null, .null, .null, .int 0])) (bB G) 95 3012 := by
  intro q sz
  refine Met.ofW (cc := cX6_init) (maxL := 1) (ret := none) (by decide) rfl ?_
  intro p e s m args below meth c s₁ B hml hv
  obtain ⟨rfl, hsz, hP, hK, hAO⟩ := hv
  have hx := B.exec
  have hb := B.bytes
  have hr := B.returns
  have hts := atoms_spec (ws := wsX6_init) B.pre
  have hown : s.vm.findClass RX6 = some m.cls := findClass_of_methodNamed B.named
  have hin : meth.name = "<init>" := (name_of_methodNamed B.named B.method).1
  subst hsz
  have hD : va_D (va_A [(q, .inr (6, [.null, .null, .null, .null, .null, .null, .null, .null, .int 0]))] s.heap.size) [(q, .inr (6, [.null, .null, .null, .null, .null, .null, .null, .null, .int 0]))] := oneD
  generalize hAe : va_A [(q, .inr (6, [.null, .null, .null, .null, .null, .null, .null, .null, .int 0]))] s.heap.size = A at hD ⊢
  have hA : ∀ q : Nat, s.heap.size ≤ q → A q := fun q h => by rw [← hAe]; exact Or.inr h
  have hS : va_S A s.heap s.heap [] := va_S.rf
  have hl := lv_entry ([.ref q]) (n := 1) (Nat.le_of_ble_eq_true rfl)
  rw [lg_entry_eq]
  generalize (lg_sl ([.ref q]) ++ List.replicate (1 - (lg_sl ([.ref q])).length) Slot.unset).toArray = ls at hl ⊢
  have hl : lv_has ls 1 [(0, .ref q)] := hl
  have hP : va_P (gD G) vwCl [(q, .inr (6, [.null, .null, .null, .null, .null, .null, .null, .null, .int 0]))] s.heap := hP
  refine lv_aload_n hx hb dX6_init_0 rfl (lv_at hl 0 rfl) ?_
  refine W.objInit hx hb hown (hts (.methodLink RX6 1 objectInit) (by decide +kernel)) (hts (.instanceMethod objectInit) (by decide +kernel)) (hts (.code objectInit ⟨#[0xb1]⟩ 1 none) (List.mem_of_getElem? (i := 3) rfl)) rfl (by rw [hml]; exact hl.1) rfl dX6_init_1 (Nat.le_of_ble_eq_true rfl) (Nat.le_of_ble_eq_true rfl) ?_
  refine W.eq (g2 := F0 m 4 ls []) rfl ?_
  refine lv_aload_n hx hb dX6_init_4 rfl (lv_at hl 0 rfl) ?_
  refine va_new (D := gD G) (cl := vwCl) (ci := 2) (fs := [.null, .null, .null, .null, .int 0, .int 0, .int 0]) (C := RX2) (T := TX2) (N := 7) hx hb hts (by decide +kernel) tyX2 tyX2_ok hown (hts (.classLink RX6 7 RX2) (by decide +kernel)) (hts (.instantiable RX2 7) (by decide +kernel)) (hts (.initialized RX2) (by decide +kernel)) hK hP hD hS hA rfl dfX2 (Nat.le_of_ble_eq_true rfl) (Nat.le_of_ble_eq_true rfl) dX6_init_5 (fun qn1 H hP hD hS => ?_)
  have hP : va_P (gD G) vwCl (((q, .inr (6, [.null, .null, .null, .null, .null, .null, .null, .null, .int 0])) :: []) ++ [(qn1, .inr (2, [.null, .null, .null, .null, .int 0, .int 0, .int 0]))]) H := hP
  have hD : va_D A (((q, .inr (6, [.null, .null, .null, .null, .null, .null, .null, .null, .int 0])) :: []) ++ [(qn1, .inr (2, [.null, .null, .null, .null, .int 0, .int 0, .int 0]))]) := hD
  refine lv_dup hx hb dX6_init_8 rfl ?_
  have hF2 := freeA (W := ((q, .inr (6, [.null, .null, .null, .null, .null, .null, .null, .null, .int 0])) :: [])) hD hS hA
  have hPc2 := lastP (W := ((q, .inr (6, [.null, .null, .null, .null, .null, .null, .null, .null, .int 0])) :: [])) hP
  refine va_callv (va_runI (As := []) (rest := [.ref qn1, .ref q]) ⟨hx, hb, hml, hown, hts⟩ (iX2 l G qn1 H.size) (cwI 0 hts gX6_init_X2_init rfl rfl rfl (hts (.initialized RX2) (by decide +kernel)) (hts (.methodLink RX6 9 yX2_init) (by decide +kernel)) (hts (.instanceMethod yX2_init) (by decide +kernel)) rfl (by decide +kernel) ⟨(Nat.le_of_ble_eq_true rfl), (Nat.le_of_ble_eq_true rfl)⟩) ⟨fun a U g mk q => by obtain ⟨q0, q1, qP, qK⟩ := q; exact ⟨q0, q1, qP, va_K.moved (u := U) (U := U.calling g mk a) (Vm.Alike.refl U.vm) qK⟩, fun U hU hW => ⟨rfl, by rw [hU], by rw [hU]; exact hPc2, va_K.moved hW.alike hK⟩⟩ rfl rfl hl.1 rfl (lv_room (Nat.le_of_ble_eq_true rfl)) dX6_init_9 ⟨(Nat.le_of_ble_eq_true rfl), (Nat.le_of_ble_eq_true rfl)⟩) hS (fun q _ h => hF2 q h) hF2 (fun u2 t H1 locs ht hvm hw hB hz1 hk1 hS => ?_)
  obtain ⟨hP1, hD1⟩ := hB
  rw [ht] at hP1
  obtain ⟨hP, hD⟩ := joinA (W := ((q, .inr (6, [.null, .null, .null, .null, .null, .null, .null, .null, .int 0])) :: [])) hP hD hk1 hF2 hP1 hD1
  have hw2 : u2 0 = qn1 := hw
  generalize H1 = H at hP hS ⊢
  have hP : va_P (gD G) vwCl ((q, .inr (6, [.null, .null, .null, .null, .null, .null, .null, .null, .int 0])) :: bS G u2) H := hP
  have hD : va_D A ((q, .inr (6, [.null, .null, .null, .null, .null, .null, .null, .null, .int 0])) :: bS G u2) := hD
  refine va_putF (D := gD G) (cl := vwCl) (ci := 6) (v := .ref qn1) (ty := .object "BaroRuns$State") (C := RX6) (T := TX6) (N := 9) hx hb hts (by decide +kernel) tyX6 tyX6_ok nmX6 hown hK hP hD hS 0 rfl rfl 0 (by decide) (hts (.fieldLink RX6 10 "BaroRuns" "now" "LBaroRuns$State;") (by decide +kernel)) (fun _ h9 => h9) rfl hin rfl (by decide +kernel) rfl rfl (Nat.le_of_ble_eq_true rfl) dX6_init_12 (fun H locs hP hD hS => ?_)
  have hP : va_P (gD G) vwCl ((q, .inr (6, [.ref qn1, .null, .null, .null, .null, .null, .null, .null, .int 0])) :: bS G u2) H := hP
  have hD : va_D A ((q, .inr (6, [.ref qn1, .null, .null, .null, .null, .null, .null, .null, .int 0])) :: bS G u2) := hD
  refine lv_aload_n hx hb dX6_init_15 rfl (lv_at hl 0 rfl) ?_
  refine va_new (D := gD G) (cl := vwCl) (ci := 2) (fs := [.null, .null, .null, .null, .int 0, .int 0, .int 0]) (C := RX2) (T := TX2) (N := 7) hx hb hts (by decide +kernel) tyX2 tyX2_ok hown (hts (.classLink RX6 7 RX2) (by decide +kernel)) (hts (.instantiable RX2 7) (by decide +kernel)) (hts (.initialized RX2) (by decide +kernel)) hK hP hD hS hA rfl dfX2 (Nat.le_of_ble_eq_true rfl) (Nat.le_of_ble_eq_true rfl) dX6_init_16 (fun qn3 H hP hD hS => ?_)
  have hP : va_P (gD G) vwCl (((q, .inr (6, [.ref qn1, .null, .null, .null, .null, .null, .null, .null, .int 0])) :: bS G u2) ++ [(qn3, .inr (2, [.null, .null, .null, .null, .int 0, .int 0, .int 0]))]) H := hP
  have hD : va_D A (((q, .inr (6, [.ref qn1, .null, .null, .null, .null, .null, .null, .null, .int 0])) :: bS G u2) ++ [(qn3, .inr (2, [.null, .null, .null, .null, .int 0, .int 0, .int 0]))]) := hD
  refine lv_dup hx hb dX6_init_19 rfl ?_
  have hF4 := freeA (W := ((q, .inr (6, [.ref qn1, .null, .null, .null, .null, .null, .null, .null, .int 0])) :: bS G u2)) hD hS hA
  have hPc4 := lastP (W := ((q, .inr (6, [.ref qn1, .null, .null, .null, .null, .null, .null, .null, .int 0])) :: bS G u2)) hP
  refine va_callv (va_runI (As := []) (rest := [.ref qn3, .ref q]) ⟨hx, hb, hml, hown, hts⟩ (iX2 l G qn3 H.size) (cwI 0 hts gX6_init_X2_init rfl rfl rfl (hts (.initialized RX2) (by decide +kernel)) (hts (.methodLink RX6 9 yX2_init) (by decide +kernel)) (hts (.instanceMethod yX2_init) (by decide +kernel)) rfl (by decide +kernel) ⟨(Nat.le_of_ble_eq_true rfl), (Nat.le_of_ble_eq_true rfl)⟩) ⟨fun a U g mk q => by obtain ⟨q0, q1, qP, qK⟩ := q; exact ⟨q0, q1, qP, va_K.moved (u := U) (U := U.calling g mk a) (Vm.Alike.refl U.vm) qK⟩, fun U hU hW => ⟨rfl, by rw [hU], by rw [hU]; exact hPc4, va_K.moved hW.alike hK⟩⟩ rfl rfl hl.1 rfl (lv_room (Nat.le_of_ble_eq_true rfl)) dX6_init_20 ⟨(Nat.le_of_ble_eq_true rfl), (Nat.le_of_ble_eq_true rfl)⟩) hS (fun q _ h => hF4 q h) hF4 (fun u4 t H1 locs ht hvm hw hB hz1 hk1 hS => ?_)
  obtain ⟨hP1, hD1⟩ := hB
  rw [ht] at hP1
  obtain ⟨hP, hD⟩ := joinA (W := ((q, .inr (6, [.ref qn1, .null, .null, .null, .null, .null, .null, .null, .int 0])) :: bS G u2)) hP hD hk1 hF4 hP1 hD1
  have hw4 : u4 0 = qn3 := hw
  generalize H1 = H at hP hS ⊢
  have hP : va_P (gD G) vwCl ((q, .inr (6, [.ref qn1, .null, .null, .null, .null, .null, .null, .null, .int 0])) :: (bS G u2 ++ bS G u4)) H := hP
  have hD : va_D A ((q, .inr (6, [.ref qn1, .null, .null, .null, .null, .null, .null, .null, .int 0])) :: (bS G u2 ++ bS G u4)) := hD
  refine va_putF (D := gD G) (cl := vwCl) (ci := 6) (v := .ref qn3) (ty := .object "BaroRuns$State") (C := RX6) (T := TX6) (N := 9) hx hb hts (by decide +kernel) tyX6 tyX6_ok nmX6 hown hK hP hD hS 0 rfl rfl 1 (by decide) (hts (.fieldLink RX6 16 "BaroRuns" "trial" "LBaroRuns$State;") (by decide +kernel)) (fun _ h9 => h9) rfl hin rfl (by decide +kernel) rfl rfl (Nat.le_of_ble_eq_true rfl) dX6_init_23 (fun H locs hP hD hS => ?_)
  have hP : va_P (gD G) vwCl ((q, .inr (6, [.ref qn1, .ref qn3, .null, .null, .null, .null, .null, .null, .int 0])) :: (bS G u2 ++ bS G u4)) H := hP
  have hD : va_D A ((q, .inr (6, [.ref qn1, .ref qn3, .null, .null, .null, .null, .null, .null, .int 0])) :: (bS G u2 ++ bS G u4)) := hD
  refine lv_aload_n hx hb dX6_init_26 rfl (lv_at hl 0 rfl) ?_
  refine va_new (D := gD G) (cl := vwCl) (ci := 0) (fs := [.null, .int 0, .int 0]) (C := RX0) (T := TX0) (N := 3) hx hb hts (by decide +kernel) tyX0 tyX0_ok hown (hts (.classLink RX6 19 RX0) (by decide +kernel)) (hts (.instantiable RX0 3) (by decide +kernel)) (hts (.initialized RX0) (by decide +kernel)) hK hP hD hS hA rfl dfX0 (Nat.le_of_ble_eq_true rfl) (Nat.le_of_ble_eq_true rfl) dX6_init_27 (fun qn5 H hP hD hS => ?_)
  have hP : va_P (gD G) vwCl (((q, .inr (6, [.ref qn1, .ref qn3, .null, .null, .null, .null, .null, .null, .int 0])) :: (bS G u2 ++ bS G u4)) ++ [(qn5, .inr (0, [.null, .int 0, .int 0]))]) H := hP
  have hD : va_D A (((q, .inr (6, [.ref qn1, .ref qn3, .null, .null, .null, .null, .null, .null, .int 0])) :: (bS G u2 ++ bS G u4)) ++ [(qn5, .inr (0, [.null, .int 0, .int 0]))]) := hD
  refine lv_dup hx hb dX6_init_30 rfl ?_
  have hF6 := freeA (W := ((q, .inr (6, [.ref qn1, .ref qn3, .null, .null, .null, .null, .null, .null, .int 0])) :: (bS G u2 ++ bS G u4))) hD hS hA
  have hPc6 := lastP (W := ((q, .inr (6, [.ref qn1, .ref qn3, .null, .null, .null, .null, .null, .null, .int 0])) :: (bS G u2 ++ bS G u4))) hP
  refine va_callv (va_runI (As := []) (rest := [.ref qn5, .ref q]) ⟨hx, hb, hml, hown, hts⟩ (iX0 l G qn5 H.size) (cwI 0 hts gX6_init_X0_init rfl rfl rfl (hts (.initialized RX0) (by decide +kernel)) (hts (.methodLink RX6 21 yX0_init) (by decide +kernel)) (hts (.instanceMethod yX0_init) (by decide +kernel)) rfl (by decide +kernel) ⟨(Nat.le_of_ble_eq_true rfl), (Nat.le_of_ble_eq_true rfl)⟩) ⟨fun a U g mk q => by obtain ⟨q0, q1, qP, qK, qO⟩ := q; exact ⟨q0, q1, qP, va_K.moved (u := U) (U := U.calling g mk a) (Vm.Alike.refl U.vm) qK, va_AO.moved (u := U) (U := U.calling g mk a) (Vm.Alike.refl U.vm) qO⟩, fun U hU hW => ⟨rfl, by rw [hU], by rw [hU]; exact hPc6, va_K.moved hW.alike hK, va_AO.moved hW.alike hAO⟩⟩ rfl rfl hl.1 rfl (lv_room (Nat.le_of_ble_eq_true rfl)) dX6_init_31 ⟨(Nat.le_of_ble_eq_true rfl), (Nat.le_of_ble_eq_true rfl)⟩) hS (fun q _ h => hF6 q h) hF6 (fun u6 t H1 locs ht hvm hw hB hz1 hk1 hS => ?_)
  obtain ⟨hP1, hD1⟩ := hB
  rw [ht] at hP1
  obtain ⟨hP, hD⟩ := joinA (W := ((q, .inr (6, [.ref qn1, .ref qn3, .null, .null, .null, .null, .null, .null, .int 0])) :: (bS G u2 ++ bS G u4))) hP hD hk1 hF6 hP1 hD1
  have hw6 : u6 0 = qn5 := hw
  generalize H1 = H at hP hS ⊢
  have hP : va_P (gD G) vwCl ((q, .inr (6, [.ref qn1, .ref qn3, .null, .null, .null, .null, .null, .null, .int 0])) :: ((bS G u2 ++ bS G u4) ++ bH G u6)) H := hP
  have hD : va_D A ((q, .inr (6, [.ref qn1, .ref qn3, .null, .null, .null, .null, .null, .null, .int 0])) :: ((bS G u2 ++ bS G u4) ++ bH G u6)) := hD
  refine va_putF (D := gD G) (cl := vwCl) (ci := 6) (v := .ref qn5) (ty := .object "BaroRuns$History") (C := RX6) (T := TX6) (N := 9) hx hb hts (by decide +kernel) tyX6 tyX6_ok nmX6 hown hK hP hD hS 0 rfl rfl 2 (by decide) (hts (.fieldLink RX6 22 "BaroRuns" "history" "LBaroRuns$History;") (by decide +kernel)) (fun _ h9 => h9) rfl hin rfl (by decide +kernel) rfl rfl (Nat.le_of_ble_eq_true rfl) dX6_init_34 (fun H locs hP hD hS => ?_)
  have hP : va_P (gD G) vwCl ((q, .inr (6, [.ref qn1, .ref qn3, .ref qn5, .null, .null, .null, .null, .null, .int 0])) :: ((bS G u2 ++ bS G u4) ++ bH G u6)) H := hP
  have hD : va_D A ((q, .inr (6, [.ref qn1, .ref qn3, .ref qn5, .null, .null, .null, .null, .null, .int 0])) :: ((bS G u2 ++ bS G u4) ++ bH G u6)) := hD
  refine lv_aload_n hx hb dX6_init_37 rfl (lv_at hl 0 rfl) ?_
  refine va_new (D := gD G) (cl := vwCl) (ci := 3) (fs := [.null, .null, .null, .null, .null, .null, .null, .null, .int 0, .int 0, .int 0, .int 0]) (C := RX3) (T := TX3) (N := 12) hx hb hts (by decide +kernel) tyX3 tyX3_ok hown (hts (.classLink RX6 26 RX3) (by decide +kernel)) (hts (.instantiable RX3 12) (by decide +kernel)) (hts (.initialized RX3) (by decide +kernel)) hK hP hD hS hA rfl dfX3 (Nat.le_of_ble_eq_true rfl) (Nat.le_of_ble_eq_true rfl) dX6_init_38 (fun qn7 H hP hD hS => ?_)
  have hP : va_P (gD G) vwCl (((q, .inr (6, [.ref qn1, .ref qn3, .ref qn5, .null, .null, .null, .null, .null, .int 0])) :: ((bS G u2 ++ bS G u4) ++ bH G u6)) ++ [(qn7, .inr (3, [.null, .null, .null, .null, .null, .null, .null, .null, .int 0, .int 0, .int 0, .int 0]))]) H := hP
  have hD : va_D A (((q, .inr (6, [.ref qn1, .ref qn3, .ref qn5, .null, .null, .null, .null, .null, .int 0])) :: ((bS G u2 ++ bS G u4) ++ bH G u6)) ++ [(qn7, .inr (3, [.null, .null, .null, .null, .null, .null, .null, .null, .int 0, .int 0, .int 0, .int 0]))]) := hD
  refine lv_dup hx hb dX6_init_41 rfl ?_
  have hF8 := freeA (W := ((q, .inr (6, [.ref qn1, .ref qn3, .ref qn5, .null, .null, .null, .null, .null, .int 0])) :: ((bS G u2 ++ bS G u4) ++ bH G u6))) hD hS hA
  have hPc8 := lastP (W := ((q, .inr (6, [.ref qn1, .ref qn3, .ref qn5, .null, .null, .null, .null, .null, .int 0])) :: ((bS G u2 ++ bS G u4) ++ bH G u6))) hP
  refine va_callv (va_runI (As := []) (rest := [.ref qn7, .ref q]) ⟨hx, hb, hml, hown, hts⟩ (iX3 l G qn7 H.size) (cwI 0 hts gX6_init_X3_init rfl rfl rfl (hts (.initialized RX3) (by decide +kernel)) (hts (.methodLink RX6 28 yX3_init) (by decide +kernel)) (hts (.instanceMethod yX3_init) (by decide +kernel)) rfl (by decide +kernel) ⟨(Nat.le_of_ble_eq_true rfl), (Nat.le_of_ble_eq_true rfl)⟩) ⟨fun a U g mk q => by obtain ⟨q0, q1, qP, qK⟩ := q; exact ⟨q0, q1, qP, va_K.moved (u := U) (U := U.calling g mk a) (Vm.Alike.refl U.vm) qK⟩, fun U hU hW => ⟨rfl, by rw [hU], by rw [hU]; exact hPc8, va_K.moved hW.alike hK⟩⟩ rfl rfl hl.1 rfl (lv_room (Nat.le_of_ble_eq_true rfl)) dX6_init_42 ⟨(Nat.le_of_ble_eq_true rfl), (Nat.le_of_ble_eq_true rfl)⟩) hS (fun q _ h => hF8 q h) hF8 (fun u8 t H1 locs ht hvm hw hB hz1 hk1 hS => ?_)
  obtain ⟨hP1, hD1⟩ := hB
  rw [ht] at hP1
  obtain ⟨hP, hD⟩ := joinA (W := ((q, .inr (6, [.ref qn1, .ref qn3, .ref qn5, .null, .null, .null, .null, .null, .int 0])) :: ((bS G u2 ++ bS G u4) ++ bH G u6))) hP hD hk1 hF8 hP1 hD1
  have hw8 : u8 0 = qn7 := hw
  generalize H1 = H at hP hS ⊢
  have hP : va_P (gD G) vwCl ((q, .inr (6, [.ref qn1, .ref qn3, .ref qn5, .null, .null, .null, .null, .null, .int 0])) :: (((bS G u2 ++ bS G u4) ++ bH G u6) ++ bV G u8)) H := hP
  have hD : va_D A ((q, .inr (6, [.ref qn1, .ref qn3, .ref qn5, .null, .null, .null, .null, .null, .int 0])) :: (((bS G u2 ++ bS G u4) ++ bH G u6) ++ bV G u8)) := hD
  refine va_putF (D := gD G) (cl := vwCl) (ci := 6) (v := .ref qn7) (ty := .object "BaroRuns$Survey") (C := RX6) (T := TX6) (N := 9) hx hb hts (by decide +kernel) tyX6 tyX6_ok nmX6 hown hK hP hD hS 0 rfl rfl 3 (by decide) (hts (.fieldLink RX6 29 "BaroRuns" "firstSurvey" "LBaroRuns$Survey;") (by decide +kernel)) (fun _ h9 => h9) rfl hin rfl (by decide +kernel) rfl rfl (Nat.le_of_ble_eq_true rfl) dX6_init_45 (fun H locs hP hD hS => ?_)
  have hP : va_P (gD G) vwCl ((q, .inr (6, [.ref qn1, .ref qn3, .ref qn5, .ref qn7, .null, .null, .null, .null, .int 0])) :: (((bS G u2 ++ bS G u4) ++ bH G u6) ++ bV G u8)) H := hP
  have hD : va_D A ((q, .inr (6, [.ref qn1, .ref qn3, .ref qn5, .ref qn7, .null, .null, .null, .null, .int 0])) :: (((bS G u2 ++ bS G u4) ++ bH G u6) ++ bV G u8)) := hD
  refine lv_aload_n hx hb dX6_init_48 rfl (lv_at hl 0 rfl) ?_
  refine va_new (D := gD G) (cl := vwCl) (ci := 3) (fs := [.null, .null, .null, .null, .null, .null, .null, .null, .int 0, .int 0, .int 0, .int 0]) (C := RX3) (T := TX3) (N := 12) hx hb hts (by decide +kernel) tyX3 tyX3_ok hown (hts (.classLink RX6 26 RX3) (by decide +kernel)) (hts (.instantiable RX3 12) (by decide +kernel)) (hts (.initialized RX3) (by decide +kernel)) hK hP hD hS hA rfl dfX3 (Nat.le_of_ble_eq_true rfl) (Nat.le_of_ble_eq_true rfl) dX6_init_49 (fun qn9 H hP hD hS => ?_)
  have hP : va_P (gD G) vwCl (((q, .inr (6, [.ref qn1, .ref qn3, .ref qn5, .ref qn7, .null, .null, .null, .null, .int 0])) :: (((bS G u2 ++ bS G u4) ++ bH G u6) ++ bV G u8)) ++ [(qn9, .inr (3, [.null, .null, .null, .null, .null, .null, .null, .null, .int 0, .int 0, .int 0, .int 0]))]) H := hP
  have hD : va_D A (((q, .inr (6, [.ref qn1, .ref qn3, .ref qn5, .ref qn7, .null, .null, .null, .null, .int 0])) :: (((bS G u2 ++ bS G u4) ++ bH G u6) ++ bV G u8)) ++ [(qn9, .inr (3, [.null, .null, .null, .null, .null, .null, .null, .null, .int 0, .int 0, .int 0, .int 0]))]) := hD
  refine lv_dup hx hb dX6_init_52 rfl ?_
  have hF10 := freeA (W := ((q, .inr (6, [.ref qn1, .ref qn3, .ref qn5, .ref qn7, .null, .null, .null, .null, .int 0])) :: (((bS G u2 ++ bS G u4) ++ bH G u6) ++ bV G u8))) hD hS hA
  have hPc10 := lastP (W := ((q, .inr (6, [.ref qn1, .ref qn3, .ref qn5, .ref qn7, .null, .null, .null, .null, .int 0])) :: (((bS G u2 ++ bS G u4) ++ bH G u6) ++ bV G u8))) hP
  refine va_callv (va_runI (As := []) (rest := [.ref qn9, .ref q]) ⟨hx, hb, hml, hown, hts⟩ (iX3 l G qn9 H.size) (cwI 0 hts gX6_init_X3_init rfl rfl rfl (hts (.initialized RX3) (by decide +kernel)) (hts (.methodLink RX6 28 yX3_init) (by decide +kernel)) (hts (.instanceMethod yX3_init) (by decide +kernel)) rfl (by decide +kernel) ⟨(Nat.le_of_ble_eq_true rfl), (Nat.le_of_ble_eq_true rfl)⟩) ⟨fun a U g mk q => by obtain ⟨q0, q1, qP, qK⟩ := q; exact ⟨q0, q1, qP, va_K.moved (u := U) (U := U.calling g mk a) (Vm.Alike.refl U.vm) qK⟩, fun U hU hW => ⟨rfl, by rw [hU], by rw [hU]; exact hPc10, va_K.moved hW.alike hK⟩⟩ rfl rfl hl.1 rfl (lv_room (Nat.le_of_ble_eq_true rfl)) dX6_init_53 ⟨(Nat.le_of_ble_eq_true rfl), (Nat.le_of_ble_eq_true rfl)⟩) hS (fun q _ h => hF10 q h) hF10 (fun u10 t H1 locs ht hvm hw hB hz1 hk1 hS => ?_)
  obtain ⟨hP1, hD1⟩ := hB
  rw [ht] at hP1
  obtain ⟨hP, hD⟩ := joinA (W := ((q, .inr (6, [.ref qn1, .ref qn3, .ref qn5, .ref qn7, .null, .null, .null, .null, .int 0])) :: (((bS G u2 ++ bS G u4) ++ bH G u6) ++ bV G u8))) hP hD hk1 hF10 hP1 hD1
  have hw10 : u10 0 = qn9 := hw
  generalize H1 = H at hP hS ⊢
  have hP : va_P (gD G) vwCl ((q, .inr (6, [.ref qn1, .ref qn3, .ref qn5, .ref qn7, .null, .null, .null, .null, .int 0])) :: ((((bS G u2 ++ bS G u4) ++ bH G u6) ++ bV G u8) ++ bV G u10)) H := hP
  have hD : va_D A ((q, .inr (6, [.ref qn1, .ref qn3, .ref qn5, .ref qn7, .null, .null, .null, .null, .int 0])) :: ((((bS G u2 ++ bS G u4) ++ bH G u6) ++ bV G u8) ++ bV G u10)) := hD
  refine va_putF (D := gD G) (cl := vwCl) (ci := 6) (v := .ref qn9) (ty := .object "BaroRuns$Survey") (C := RX6) (T := TX6) (N := 9) hx hb hts (by decide +kernel) tyX6 tyX6_ok nmX6 hown hK hP hD hS 0 rfl rfl 4 (by decide) (hts (.fieldLink RX6 33 "BaroRuns" "secondSurvey" "LBaroRuns$Survey;") (by decide +kernel)) (fun _ h9 => h9) rfl hin rfl (by decide +kernel) rfl rfl (Nat.le_of_ble_eq_true rfl) dX6_init_56 (fun H locs hP hD hS => ?_)
  have hP : va_P (gD G) vwCl ((q, .inr (6, [.ref qn1, .ref qn3, .ref qn5, .ref qn7, .ref qn9, .null, .null, .null, .int 0])) :: ((((bS G u2 ++ bS G u4) ++ bH G u6) ++ bV G u8) ++ bV G u10)) H := hP
  have hD : va_D A ((q, .inr (6, [.ref qn1, .ref qn3, .ref qn5, .ref qn7, .ref qn9, .null, .null, .null, .int 0])) :: ((((bS G u2 ++ bS G u4) ++ bH G u6) ++ bV G u8) ++ bV G u10)) := hD
  refine lv_aload_n hx hb dX6_init_59 rfl (lv_at hl 0 rfl) ?_
  refine va_new (D := gD G) (cl := vwCl) (ci := 3) (fs := [.null, .null, .null, .null, .null, .null, .null, .null, .int 0, .int 0, .int 0, .int 0]) (C := RX3) (T := TX3) (N := 12) hx hb hts (by decide +kernel) tyX3 tyX3_ok hown (hts (.classLink RX6 26 RX3) (by decide +kernel)) (hts (.instantiable RX3 12) (by decide +kernel)) (hts (.initialized RX3) (by decide +kernel)) hK hP hD hS hA rfl dfX3 (Nat.le_of_ble_eq_true rfl) (Nat.le_of_ble_eq_true rfl) dX6_init_60 (fun qn11 H hP hD hS => ?_)
  have hP : va_P (gD G) vwCl (((q, .inr (6, [.ref qn1, .ref qn3, .ref qn5, .ref qn7, .ref qn9, .null, .null, .null, .int 0])) :: ((((bS G u2 ++ bS G u4) ++ bH G u6) ++ bV G u8) ++ bV G u10)) ++ [(qn11, .inr (3, [.null, .null, .null, .null, .null, .null, .null, .null, .int 0, .int 0, .int 0, .int 0]))]) H := hP
  have hD : va_D A (((q, .inr (6, [.ref qn1, .ref qn3, .ref qn5, .ref qn7, .ref qn9, .null, .null, .null, .int 0])) :: ((((bS G u2 ++ bS G u4) ++ bH G u6) ++ bV G u8) ++ bV G u10)) ++ [(qn11, .inr (3, [.null, .null, .null, .null, .null, .null, .null, .null, .int 0, .int 0, .int 0, .int 0]))]) := hD
  refine lv_dup hx hb dX6_init_63 rfl ?_
  have hF12 := freeA (W := ((q, .inr (6, [.ref qn1, .ref qn3, .ref qn5, .ref qn7, .ref qn9, .null, .null, .null, .int 0])) :: ((((bS G u2 ++ bS G u4) ++ bH G u6) ++ bV G u8) ++ bV G u10))) hD hS hA
  have hPc12 := lastP (W := ((q, .inr (6, [.ref qn1, .ref qn3, .ref qn5, .ref qn7, .ref qn9, .null, .null, .null, .int 0])) :: ((((bS G u2 ++ bS G u4) ++ bH G u6) ++ bV G u8) ++ bV G u10))) hP
  refine va_callv (va_runI (As := []) (rest := [.ref qn11, .ref q]) ⟨hx, hb, hml, hown, hts⟩ (iX3 l G qn11 H.size) (cwI 0 hts gX6_init_X3_init rfl rfl rfl (hts (.initialized RX3) (by decide +kernel)) (hts (.methodLink RX6 28 yX3_init) (by decide +kernel)) (hts (.instanceMethod yX3_init) (by decide +kernel)) rfl (by decide +kernel) ⟨(Nat.le_of_ble_eq_true rfl), (Nat.le_of_ble_eq_true rfl)⟩) ⟨fun a U g mk q => by obtain ⟨q0, q1, qP, qK⟩ := q; exact ⟨q0, q1, qP, va_K.moved (u := U) (U := U.calling g mk a) (Vm.Alike.refl U.vm) qK⟩, fun U hU hW => ⟨rfl, by rw [hU], by rw [hU]; exact hPc12, va_K.moved hW.alike hK⟩⟩ rfl rfl hl.1 rfl (lv_room (Nat.le_of_ble_eq_true rfl)) dX6_init_64 ⟨(Nat.le_of_ble_eq_true rfl), (Nat.le_of_ble_eq_true rfl)⟩) hS (fun q _ h => hF12 q h) hF12 (fun u12 t H1 locs ht hvm hw hB hz1 hk1 hS => ?_)
  obtain ⟨hP1, hD1⟩ := hB
  rw [ht] at hP1
  obtain ⟨hP, hD⟩ := joinA (W := ((q, .inr (6, [.ref qn1, .ref qn3, .ref qn5, .ref qn7, .ref qn9, .null, .null, .null, .int 0])) :: ((((bS G u2 ++ bS G u4) ++ bH G u6) ++ bV G u8) ++ bV G u10))) hP hD hk1 hF12 hP1 hD1
  have hw12 : u12 0 = qn11 := hw
  generalize H1 = H at hP hS ⊢
  have hP : va_P (gD G) vwCl ((q, .inr (6, [.ref qn1, .ref qn3, .ref qn5, .ref qn7, .ref qn9, .null, .null, .null, .int 0])) :: (((((bS G u2 ++ bS G u4) ++ bH G u6) ++ bV G u8) ++ bV G u10) ++ bV G u12)) H := hP
  have hD : va_D A ((q, .inr (6, [.ref qn1, .ref qn3, .ref qn5, .ref qn7, .ref qn9, .null, .null, .null, .int 0])) :: (((((bS G u2 ++ bS G u4) ++ bH G u6) ++ bV G u8) ++ bV G u10) ++ bV G u12)) := hD
  refine va_putF (D := gD G) (cl := vwCl) (ci := 6) (v := .ref qn11) (ty := .object "BaroRuns$Survey") (C := RX6) (T := TX6) (N := 9) hx hb hts (by decide +kernel) tyX6 tyX6_ok nmX6 hown hK hP hD hS 0 rfl rfl 5 (by decide) (hts (.fieldLink RX6 36 "BaroRuns" "thirdSurvey" "LBaroRuns$Survey;") (by decide +kernel)) (fun _ h9 => h9) rfl hin rfl (by decide +kernel) rfl rfl (Nat.le_of_ble_eq_true rfl) dX6_init_67 (fun H locs hP hD hS => ?_)
  have hP : va_P (gD G) vwCl ((q, .inr (6, [.ref qn1, .ref qn3, .ref qn5, .ref qn7, .ref qn9, .ref qn11, .null, .null, .int 0])) :: (((((bS G u2 ++ bS G u4) ++ bH G u6) ++ bV G u8) ++ bV G u10) ++ bV G u12)) H := hP
  have hD : va_D A ((q, .inr (6, [.ref qn1, .ref qn3, .ref qn5, .ref qn7, .ref qn9, .ref qn11, .null, .null, .int 0])) :: (((((bS G u2 ++ bS G u4) ++ bH G u6) ++ bV G u8) ++ bV G u10) ++ bV G u12)) := hD
  refine lv_aload_n hx hb dX6_init_70 rfl (lv_at hl 0 rfl) ?_
  refine va_new (D := gD G) (cl := vwCl) (ci := 1) (fs := [.long 0, .int 0, .int 0, .int 0]) (C := RX1) (T := TX1) (N := 4) hx hb hts (by decide +kernel) tyX1 tyX1_ok hown (hts (.classLink RX6 39 RX1) (by decide +kernel)) (hts (.instantiable RX1 4) (by decide +kernel)) (hts (.initialized RX1) (by decide +kernel)) hK hP hD hS hA rfl dfX1 (Nat.le_of_ble_eq_true rfl) (Nat.le_of_ble_eq_true rfl) dX6_init_71 (fun qn13 H hP hD hS => ?_)
  have hP : va_P (gD G) vwCl (((q, .inr (6, [.ref qn1, .ref qn3, .ref qn5, .ref qn7, .ref qn9, .ref qn11, .null, .null, .int 0])) :: (((((bS G u2 ++ bS G u4) ++ bH G u6) ++ bV G u8) ++ bV G u10) ++ bV G u12)) ++ [(qn13, .inr (1, [.long 0, .int 0, .int 0, .int 0]))]) H := hP
  have hD : va_D A (((q, .inr (6, [.ref qn1, .ref qn3, .ref qn5, .ref qn7, .ref qn9, .ref qn11, .null, .null, .int 0])) :: (((((bS G u2 ++ bS G u4) ++ bH G u6) ++ bV G u8) ++ bV G u10) ++ bV G u12)) ++ [(qn13, .inr (1, [.long 0, .int 0, .int 0, .int 0]))]) := hD
  refine lv_dup hx hb dX6_init_74 rfl ?_
  have hF14 := freeA (W := ((q, .inr (6, [.ref qn1, .ref qn3, .ref qn5, .ref qn7, .ref qn9, .ref qn11, .null, .null, .int 0])) :: (((((bS G u2 ++ bS G u4) ++ bH G u6) ++ bV G u8) ++ bV G u10) ++ bV G u12))) hD hS hA
  have hPc14 := lastP (W := ((q, .inr (6, [.ref qn1, .ref qn3, .ref qn5, .ref qn7, .ref qn9, .ref qn11, .null, .null, .int 0])) :: (((((bS G u2 ++ bS G u4) ++ bH G u6) ++ bV G u8) ++ bV G u10) ++ bV G u12))) hP
  refine va_callv (va_runI (As := []) (rest := [.ref qn13, .ref q]) ⟨hx, hb, hml, hown, hts⟩ (iX1 l G qn13 H.size) (cwI 0 hts gX6_init_X1_init rfl rfl rfl (hts (.initialized RX1) (by decide +kernel)) (hts (.methodLink RX6 41 yX1_init) (by decide +kernel)) (hts (.instanceMethod yX1_init) (by decide +kernel)) rfl (by decide +kernel) ⟨(Nat.le_of_ble_eq_true rfl), (Nat.le_of_ble_eq_true rfl)⟩) ⟨fun a U g mk q => by obtain ⟨q0, q1, qP, qK⟩ := q; exact ⟨q0, q1, qP, va_K.moved (u := U) (U := U.calling g mk a) (Vm.Alike.refl U.vm) qK⟩, fun U hU hW => ⟨rfl, by rw [hU], by rw [hU]; exact hPc14, va_K.moved hW.alike hK⟩⟩ rfl rfl hl.1 rfl (lv_room (Nat.le_of_ble_eq_true rfl)) dX6_init_75 ⟨(Nat.le_of_ble_eq_true rfl), (Nat.le_of_ble_eq_true rfl)⟩) hS (fun q _ h => hF14 q h) hF14 (fun u14 t H1 locs ht hvm hw hB hz1 hk1 hS => ?_)
  obtain ⟨hP1, hD1⟩ := hB
  rw [ht] at hP1
  obtain ⟨hP, hD⟩ := joinA (W := ((q, .inr (6, [.ref qn1, .ref qn3, .ref qn5, .ref qn7, .ref qn9, .ref qn11, .null, .null, .int 0])) :: (((((bS G u2 ++ bS G u4) ++ bH G u6) ++ bV G u8) ++ bV G u10) ++ bV G u12))) hP hD hk1 hF14 hP1 hD1
  have hw14 : u14 0 = qn13 := hw
  generalize H1 = H at hP hS ⊢
  have hP : va_P (gD G) vwCl ((q, .inr (6, [.ref qn1, .ref qn3, .ref qn5, .ref qn7, .ref qn9, .ref qn11, .null, .null, .int 0])) :: ((((((bS G u2 ++ bS G u4) ++ bH G u6) ++ bV G u8) ++ bV G u10) ++ bV G u12) ++ bP G u14)) H := hP
  have hD : va_D A ((q, .inr (6, [.ref qn1, .ref qn3, .ref qn5, .ref qn7, .ref qn9, .ref qn11, .null, .null, .int 0])) :: ((((((bS G u2 ++ bS G u4) ++ bH G u6) ++ bV G u8) ++ bV G u10) ++ bV G u12) ++ bP G u14)) := hD
  refine va_putF (D := gD G) (cl := vwCl) (ci := 6) (v := .ref qn13) (ty := .object "BaroRuns$PointSum") (C := RX6) (T := TX6) (N := 9) hx hb hts (by decide +kernel) tyX6 tyX6_ok nmX6 hown hK hP hD hS 0 rfl rfl 6 (by decide) (hts (.fieldLink RX6 42 "BaroRuns" "pointSum" "LBaroRuns$PointSum;") (by decide +kernel)) (fun _ h9 => h9) rfl hin rfl (by decide +kernel) rfl rfl (Nat.le_of_ble_eq_true rfl) dX6_init_78 (fun H locs hP hD hS => ?_)
  have hP : va_P (gD G) vwCl ((q, .inr (6, [.ref qn1, .ref qn3, .ref qn5, .ref qn7, .ref qn9, .ref qn11, .ref qn13, .null, .int 0])) :: ((((((bS G u2 ++ bS G u4) ++ bH G u6) ++ bV G u8) ++ bV G u10) ++ bV G u12) ++ bP G u14)) H := hP
  have hD : va_D A ((q, .inr (6, [.ref qn1, .ref qn3, .ref qn5, .ref qn7, .ref qn9, .ref qn11, .ref qn13, .null, .int 0])) :: ((((((bS G u2 ++ bS G u4) ++ bH G u6) ++ bV G u8) ++ bV G u10) ++ bV G u12) ++ bP G u14)) := hD
  refine lv_aload_n hx hb dX6_init_81 rfl (lv_at hl 0 rfl) ?_
  refine va_new (D := gD G) (cl := vwCl) (ci := 4) (fs := [.null, .int 0, .int 0, .int 0, .int 0, .int 0, .int 0, .int 0, .int 0, .int 0, .int 0]) (C := RX4) (T := TX4) (N := 11) hx hb hts (by decide +kernel) tyX4 tyX4_ok hown (hts (.classLink RX6 46 RX4) (by decide +kernel)) (hts (.instantiable RX4 11) (by decide +kernel)) (hts (.initialized RX4) (by decide +kernel)) hK hP hD hS hA rfl dfX4 (Nat.le_of_ble_eq_true rfl) (Nat.le_of_ble_eq_true rfl) dX6_init_82 (fun qn15 H hP hD hS => ?_)
  have hP : va_P (gD G) vwCl (((q, .inr (6, [.ref qn1, .ref qn3, .ref qn5, .ref qn7, .ref qn9, .ref qn11, .ref qn13, .null, .int 0])) :: ((((((bS G u2 ++ bS G u4) ++ bH G u6) ++ bV G u8) ++ bV G u10) ++ bV G u12) ++ bP G u14)) ++ [(qn15, .inr (4, [.null, .int 0, .int 0, .int 0, .int 0, .int 0, .int 0, .int 0, .int 0, .int 0, .int 0]))]) H := hP
  have hD : va_D A (((q, .inr (6, [.ref qn1, .ref qn3, .ref qn5, .ref qn7, .ref qn9, .ref qn11, .ref qn13, .null, .int 0])) :: ((((((bS G u2 ++ bS G u4) ++ bH G u6) ++ bV G u8) ++ bV G u10) ++ bV G u12) ++ bP G u14)) ++ [(qn15, .inr (4, [.null, .int 0, .int 0, .int 0, .int 0, .int 0, .int 0, .int 0, .int 0, .int 0, .int 0]))]) := hD
  refine lv_dup hx hb dX6_init_85 rfl ?_
  have hF16 := freeA (W := ((q, .inr (6, [.ref qn1, .ref qn3, .ref qn5, .ref qn7, .ref qn9, .ref qn11, .ref qn13, .null, .int 0])) :: ((((((bS G u2 ++ bS G u4) ++ bH G u6) ++ bV G u8) ++ bV G u10) ++ bV G u12) ++ bP G u14))) hD hS hA
  have hPc16 := lastP (W := ((q, .inr (6, [.ref qn1, .ref qn3, .ref qn5, .ref qn7, .ref qn9, .ref qn11, .ref qn13, .null, .int 0])) :: ((((((bS G u2 ++ bS G u4) ++ bH G u6) ++ bV G u8) ++ bV G u10) ++ bV G u12) ++ bP G u14))) hP
  refine va_callv (va_runI (As := []) (rest := [.ref qn15, .ref q]) ⟨hx, hb, hml, hown, hts⟩ (iX4 l G qn15 H.size) (cwI 0 hts gX6_init_X4_init rfl rfl rfl (hts (.initialized RX4) (by decide +kernel)) (hts (.methodLink RX6 48 yX4_init) (by decide +kernel)) (hts (.instanceMethod yX4_init) (by decide +kernel)) rfl (by decide +kernel) ⟨(Nat.le_of_ble_eq_true rfl), (Nat.le_of_ble_eq_true rfl)⟩) ⟨fun a U g mk q => by obtain ⟨q0, q1, qP, qK⟩ := q; exact ⟨q0, q1, qP, va_K.moved (u := U) (U := U.calling g mk a) (Vm.Alike.refl U.vm) qK⟩, fun U hU hW => ⟨rfl, by rw [hU], by rw [hU]; exact hPc16, va_K.moved hW.alike hK⟩⟩ rfl rfl hl.1 rfl (lv_room (Nat.le_of_ble_eq_true rfl)) dX6_init_86 ⟨(Nat.le_of_ble_eq_true rfl), (Nat.le_of_ble_eq_true rfl)⟩) hS (fun q _ h => hF16 q h) hF16 (fun u16 t H1 locs ht hvm hw hB hz1 hk1 hS => ?_)
  obtain ⟨hP1, hD1⟩ := hB
  rw [ht] at hP1
  obtain ⟨hP, hD⟩ := joinA (W := ((q, .inr (6, [.ref qn1, .ref qn3, .ref qn5, .ref qn7, .ref qn9, .ref qn11, .ref qn13, .null, .int 0])) :: ((((((bS G u2 ++ bS G u4) ++ bH G u6) ++ bV G u8) ++ bV G u10) ++ bV G u12) ++ bP G u14))) hP hD hk1 hF16 hP1 hD1
  have hw16 : u16 0 = qn15 := hw
  generalize H1 = H at hP hS ⊢
  have hP : va_P (gD G) vwCl ((q, .inr (6, [.ref qn1, .ref qn3, .ref qn5, .ref qn7, .ref qn9, .ref qn11, .ref qn13, .null, .int 0])) :: (((((((bS G u2 ++ bS G u4) ++ bH G u6) ++ bV G u8) ++ bV G u10) ++ bV G u12) ++ bP G u14) ++ bX G u16)) H := hP
  have hD : va_D A ((q, .inr (6, [.ref qn1, .ref qn3, .ref qn5, .ref qn7, .ref qn9, .ref qn11, .ref qn13, .null, .int 0])) :: (((((((bS G u2 ++ bS G u4) ++ bH G u6) ++ bV G u8) ++ bV G u10) ++ bV G u12) ++ bP G u14) ++ bX G u16)) := hD
  refine va_putF (D := gD G) (cl := vwCl) (ci := 6) (v := .ref qn15) (ty := .object "BaroRuns$Text") (C := RX6) (T := TX6) (N := 9) hx hb hts (by decide +kernel) tyX6 tyX6_ok nmX6 hown hK hP hD hS 0 rfl rfl 7 (by decide) (hts (.fieldLink RX6 49 "BaroRuns" "text" "LBaroRuns$Text;") (by decide +kernel)) (fun _ h9 => h9) rfl hin rfl (by decide +kernel) rfl rfl (Nat.le_of_ble_eq_true rfl) dX6_init_89 (fun H locs hP hD hS => ?_)
  have hP : va_P (gD G) vwCl ((q, .inr (6, [.ref qn1, .ref qn3, .ref qn5, .ref qn7, .ref qn9, .ref qn11, .ref qn13, .ref qn15, .int 0])) :: (((((((bS G u2 ++ bS G u4) ++ bH G u6) ++ bV G u8) ++ bV G u10) ++ bV G u12) ++ bP G u14) ++ bX G u16)) H := hP
  have hD : va_D A ((q, .inr (6, [.ref qn1, .ref qn3, .ref qn5, .ref qn7, .ref qn9, .ref qn11, .ref qn13, .ref qn15, .int 0])) :: (((((((bS G u2 ++ bS G u4) ++ bH G u6) ++ bV G u8) ++ bV G u10) ++ bV G u12) ++ bP G u14) ++ bX G u16)) := hD
  refine lv_aload_n hx hb dX6_init_92 rfl (lv_at hl 0 rfl) ?_
  refine lv_iconst (v := 1) hx hb dX6_init_93 (by decide) ?_
  refine va_put (D := gD G) (cl := vwCl) (ci := 6) (v := .int 1) (ty := .boolean) (C := RX6) (T := TX6) (N := 9) hx hb hts (by decide +kernel) tyX6 tyX6_ok nmX6 hown hK hP hD hS 0 rfl rfl 8 (by decide) (hts (.fieldLink RX6 53 "BaroRuns" "stale" "Z") (by decide +kernel)) (fun _ h9 => h9) rfl (by decide +kernel) rfl rfl (Nat.le_of_ble_eq_true rfl) dX6_init_94 (fun H locs hP hD hS => ?_)
  have hP : va_P (gD G) vwCl ((q, .inr (6, [.ref qn1, .ref qn3, .ref qn5, .ref qn7, .ref qn9, .ref qn11, .ref qn13, .ref qn15, .int 1])) :: (((((((bS G u2 ++ bS G u4) ++ bH G u6) ++ bV G u8) ++ bV G u10) ++ bV G u12) ++ bP G u14) ++ bX G u16)) H := hP
  have hD : va_D A ((q, .inr (6, [.ref qn1, .ref qn3, .ref qn5, .ref qn7, .ref qn9, .ref qn11, .ref qn13, .ref qn15, .int 1])) :: (((((((bS G u2 ++ bS G u4) ++ bH G u6) ++ bV G u8) ++ bV G u10) ++ bV G u12) ++ bP G u14) ++ bX G u16)) := hD
  have hB : ((q, .inr (6, [.ref qn1, .ref qn3, .ref qn5, .ref qn7, .ref qn9, .ref qn11, .ref qn13, .ref qn15, .int 1])) :: (((((((bS G u2 ++ bS G u4) ++ bH G u6) ++ bV G u8) ++ bV G u10) ++ bV G u12) ++ bP G u14) ++ bX G u16)) = bB G (pcs [(1, fun _ => q), (9, u2), (9, u4), (47, u6), (9, u8), (9, u10), (9, u12), (1, u14), (2, u16)]) := by
    rw [← hw2, ← hw4, ← hw6, ← hw8, ← hw10, ← hw12, ← hw14, ← hw16]
    rfl
  rw [hB] at hP hD
  exact W.vret hx hb hr (fun t ht hW => ⟨⟨pcs [(1, fun _ => q), (9, u2), (9, u4), (47, u6), (9, u8), (9, u10), (9, u12), (1, u14), (2, u16)], rfl, rfl, by rw [ht]; exact hP, hD⟩, hS.F ht⟩) hS.2.2 dX6_init_97
