theorem iX5' (l : Launch) (G : wG) (room : Int32) (h : ¬ 20 < room) : iV l yX5_init wsX5_init { frames := 1, cells := 1, slots := 80, locals := 24 } G [.int room] (.inr (5, [.null, .int 0, .int 0])) (bT G room) 1 80 := by
  have e := iX5 l G room
  rwa [if_neg h] at e
def pcs : List (Nat × (Nat → Nat)) → Nat → Nat
  | [], _ => 0
  | (n, u) :: r, i => if i < n then u i else pcs r (i - n)
theorem pcs_hd {n : Nat} {u : Nat → Nat} {r : List (Nat × (Nat → Nat))} {i : Nat} (h : i < n) : pcs ((n, u) :: r) i = u i := if_pos h
theorem pcs_tl {n : Nat} {u : Nat → Nat} {r : List (Nat × (Nat → Nat))} {i : Nat} (h : n ≤ i) : pcs ((n, u) :: r) i = pcs r (i - n) := if_neg (by omega)
def bS (G : wG) (a : Nat → Nat) : va_W := (a 0, .inr (2, [.ref (a 1), .ref (a 3), .ref (a 5), .ref (a 7), .int 0, .int 60, .int 50])) :: (((bT G 12 (fun i => a (1 + i)) ++ bT G 20 (fun i => a (3 + i))) ++ bT G 20 (fun i => a (5 + i))) ++ bT G 20 (fun i => a (7 + i)))
set_option maxHeartbeats 4000000 in
set_option maxRecDepth 100000 in
theorem iX2 (l : Launch) (G : wG) : iV l yX2_init wsX2_init { frames := 2, cells := 8, slots := 332, locals := 48 } G [] (.inr (2, [.null, .null, .null, .null, .int 0, .int 0, .int 0])) (bS G) 8 332 := by
  intro q sz
  refine Met.ofW (cc := cX2_init) (maxL := 1) (ret := none) (by decide) rfl ?_
  intro p e s m args below meth c s₁ B hml hv
  obtain ⟨rfl, hsz, hP, hK⟩ := hv
  have hx := B.exec
  have hb := B.bytes
  have hr := B.returns
  have hts := atoms_spec (ws := wsX2_init) B.pre
  have hown : s.vm.findClass RX2 = some m.cls := findClass_of_methodNamed B.named
  have hin : meth.name = "<init>" := (name_of_methodNamed B.named B.method).1
  subst hsz
  have hD : va_D (va_A [(q, .inr (2, [.null, .null, .null, .null, .int 0, .int 0, .int 0]))] s.heap.size) [(q, .inr (2, [.null, .null, .null, .null, .int 0, .int 0, .int 0]))] := oneD
  generalize hAe : va_A [(q, .inr (2, [.null, .null, .null, .null, .int 0, .int 0, .int 0]))] s.heap.size = A at hD ⊢
  have hA : ∀ q : Nat, s.heap.size ≤ q → A q := fun q h => by rw [← hAe]; exact Or.inr h
  have hS : va_S A s.heap s.heap [] := va_S.rf
  have hl := lv_entry ([.ref q]) (n := 1) (Nat.le_of_ble_eq_true rfl)
  rw [lg_entry_eq]
  generalize (lg_sl ([.ref q]) ++ List.replicate (1 - (lg_sl ([.ref q])).length) Slot.unset).toArray = ls at hl ⊢
  have hl : lv_has ls 1 [(0, .ref q)] := hl
  have hP : va_P (gD G) vwCl [(q, .inr (2, [.null, .null, .null, .null, .int 0, .int 0, .int 0]))] s.heap := hP
  refine lv_aload_n hx hb dX2_init_0 rfl (lv_at hl 0 rfl) ?_
  refine W.objInit hx hb hown (hts (.methodLink RX2 3 objectInit) (by decide +kernel)) (hts (.instanceMethod objectInit) (by decide +kernel)) (hts (.code objectInit ⟨#[0xb1]⟩ 1 none) (List.mem_of_getElem? (i := 3) rfl)) rfl (by rw [hml]; exact hl.1) rfl dX2_init_1 (Nat.le_of_ble_eq_true rfl) (Nat.le_of_ble_eq_true rfl) ?_
  refine W.eq (g2 := F0 m 4 ls []) rfl ?_
  refine lv_aload_n hx hb dX2_init_4 rfl (lv_at hl 0 rfl) ?_
  refine va_new (D := gD G) (cl := vwCl) (ci := 5) (fs := [.null, .int 0, .int 0]) (C := RX5) (T := TX5) (N := 3) hx hb hts (by decide +kernel) tyX5 tyX5_ok hown (hts (.classLink RX2 9 RX5) (by decide +kernel)) (hts (.instantiable RX5 3) (by decide +kernel)) (hts (.initialized RX5) (by decide +kernel)) hK hP hD hS hA rfl dfX5 (Nat.le_of_ble_eq_true rfl) (Nat.le_of_ble_eq_true rfl) dX2_init_5 (fun qn1 H hP hD hS => ?_)
  have hP : va_P (gD G) vwCl (((q, .inr (2, [.null, .null, .null, .null, .int 0, .int 0, .int 0])) :: []) ++ [(qn1, .inr (5, [.null, .int 0, .int 0]))]) H := hP
  have hD : va_D A (((q, .inr (2, [.null, .null, .null, .null, .int 0, .int 0, .int 0])) :: []) ++ [(qn1, .inr (5, [.null, .int 0, .int 0]))]) := hD
  refine lv_dup hx hb dX2_init_8 rfl ?_
  refine lv_bipush (v := 12) hx hb dX2_init_9 (by decide) ?_
  have hF2 := freeA (W := ((q, .inr (2, [.null, .null, .null, .null, .int 0, .int 0, .int 0])) :: [])) hD hS hA
  have hPc2 := lastP (W := ((q, .inr (2, [.null, .null, .null, .null, .int 0, .int 0, .int 0])) :: [])) hP
  refine va_callv (va_runI (As := [.int 12]) (rest := [.ref qn1, .ref q]) ⟨hx, hb, hml, hown, hts⟩ (iX5' l G 12 (by decide) qn1 H.size) (cwI 1 hts gX2_init_X5_init rfl rfl rfl (hts (.initialized RX5) (by decide +kernel)) (hts (.methodLink RX2 11 yX5_init) (by decide +kernel)) (hts (.instanceMethod yX5_init) (by decide +kernel)) rfl (by decide +kernel) ⟨(Nat.le_of_ble_eq_true rfl), (Nat.le_of_ble_eq_true rfl)⟩) ⟨fun a U g mk q => by obtain ⟨q0, q1, qP, qK⟩ := q; exact ⟨q0, q1, qP, va_K.moved (u := U) (U := U.calling g mk a) (Vm.Alike.refl U.vm) qK⟩, fun U hU hW => ⟨rfl, by rw [hU], by rw [hU]; exact hPc2, va_K.moved hW.alike hK⟩⟩ rfl rfl hl.1 rfl (lv_room (Nat.le_of_ble_eq_true rfl)) dX2_init_11 ⟨(Nat.le_of_ble_eq_true rfl), (Nat.le_of_ble_eq_true rfl)⟩) hS (fun q _ h => hF2 q h) hF2 (fun u2 t H1 locs ht hvm hw hB hz1 hk1 hS => ?_)
  obtain ⟨hP1, hD1⟩ := hB
  rw [ht] at hP1
  obtain ⟨hP, hD⟩ := joinA (W := ((q, .inr (2, [.null, .null, .null, .null, .int 0, .int 0, .int 0])) :: [])) hP hD hk1 hF2 hP1 hD1
  have hw2 : u2 0 = qn1 := hw
  generalize H1 = H at hP hS ⊢
  have hP : va_P (gD G) vwCl ((q, .inr (2, [.null, .null, .null, .null, .int 0, .int 0, .int 0])) :: bT G 12 u2) H := hP
  have hD : va_D A ((q, .inr (2, [.null, .null, .null, .null, .int 0, .int 0, .int 0])) :: bT G 12 u2) := hD
  refine va_putF (D := gD G) (cl := vwCl) (ci := 2) (v := .ref qn1) (ty := .object "BaroRuns$Track") (C := RX2) (T := TX2) (N := 7) hx hb hts (by decide +kernel) tyX2 tyX2_ok nmX2 hown hK hP hD hS 0 rfl rfl 0 (by decide) (hts (.fieldLink RX2 14 "BaroRuns$State" "baseTrack" "LBaroRuns$Track;") (by decide +kernel)) (fun _ h9 => h9) rfl hin rfl (by decide +kernel) rfl rfl (Nat.le_of_ble_eq_true rfl) dX2_init_14 (fun H locs hP hD hS => ?_)
  have hP : va_P (gD G) vwCl ((q, .inr (2, [.ref qn1, .null, .null, .null, .int 0, .int 0, .int 0])) :: bT G 12 u2) H := hP
  have hD : va_D A ((q, .inr (2, [.ref qn1, .null, .null, .null, .int 0, .int 0, .int 0])) :: bT G 12 u2) := hD
  refine lv_aload_n hx hb dX2_init_17 rfl (lv_at hl 0 rfl) ?_
  refine va_new (D := gD G) (cl := vwCl) (ci := 5) (fs := [.null, .int 0, .int 0]) (C := RX5) (T := TX5) (N := 3) hx hb hts (by decide +kernel) tyX5 tyX5_ok hown (hts (.classLink RX2 9 RX5) (by decide +kernel)) (hts (.instantiable RX5 3) (by decide +kernel)) (hts (.initialized RX5) (by decide +kernel)) hK hP hD hS hA rfl dfX5 (Nat.le_of_ble_eq_true rfl) (Nat.le_of_ble_eq_true rfl) dX2_init_18 (fun qn3 H hP hD hS => ?_)
  have hP : va_P (gD G) vwCl (((q, .inr (2, [.ref qn1, .null, .null, .null, .int 0, .int 0, .int 0])) :: bT G 12 u2) ++ [(qn3, .inr (5, [.null, .int 0, .int 0]))]) H := hP
  have hD : va_D A (((q, .inr (2, [.ref qn1, .null, .null, .null, .int 0, .int 0, .int 0])) :: bT G 12 u2) ++ [(qn3, .inr (5, [.null, .int 0, .int 0]))]) := hD
  refine lv_dup hx hb dX2_init_21 rfl ?_
  refine lv_bipush (v := 20) hx hb dX2_init_22 (by decide) ?_
  have hF4 := freeA (W := ((q, .inr (2, [.ref qn1, .null, .null, .null, .int 0, .int 0, .int 0])) :: bT G 12 u2)) hD hS hA
  have hPc4 := lastP (W := ((q, .inr (2, [.ref qn1, .null, .null, .null, .int 0, .int 0, .int 0])) :: bT G 12 u2)) hP
  refine va_callv (va_runI (As := [.int 20]) (rest := [.ref qn3, .ref q]) ⟨hx, hb, hml, hown, hts⟩ (iX5' l G 20 (by decide) qn3 H.size) (cwI 1 hts gX2_init_X5_init rfl rfl rfl (hts (.initialized RX5) (by decide +kernel)) (hts (.methodLink RX2 11 yX5_init) (by decide +kernel)) (hts (.instanceMethod yX5_init) (by decide +kernel)) rfl (by decide +kernel) ⟨(Nat.le_of_ble_eq_true rfl), (Nat.le_of_ble_eq_true rfl)⟩) ⟨fun a U g mk q => by obtain ⟨q0, q1, qP, qK⟩ := q; exact ⟨q0, q1, qP, va_K.moved (u := U) (U := U.calling g mk a) (Vm.Alike.refl U.vm) qK⟩, fun U hU hW => ⟨rfl, by rw [hU], by rw [hU]; exact hPc4, va_K.moved hW.alike hK⟩⟩ rfl rfl hl.1 rfl (lv_room (Nat.le_of_ble_eq_true rfl)) dX2_init_24 ⟨(Nat.le_of_ble_eq_true rfl), (Nat.le_of_ble_eq_true rfl)⟩) hS (fun q _ h => hF4 q h) hF4 (fun u4 t H1 locs ht hvm hw hB hz1 hk1 hS => ?_)
  obtain ⟨hP1, hD1⟩ := hB
  rw [ht] at hP1
  obtain ⟨hP, hD⟩ := joinA (W := ((q, .inr (2, [.ref qn1, .null, .null, .null, .int 0, .int 0, .int 0])) :: bT G 12 u2)) hP hD hk1 hF4 hP1 hD1
  have hw4 : u4 0 = qn3 := hw
  generalize H1 = H at hP hS ⊢
  have hP : va_P (gD G) vwCl ((q, .inr (2, [.ref qn1, .null, .null, .null, .int 0, .int 0, .int 0])) :: (bT G 12 u2 ++ bT G 20 u4)) H := hP
  have hD : va_D A ((q, .inr (2, [.ref qn1, .null, .null, .null, .int 0, .int 0, .int 0])) :: (bT G 12 u2 ++ bT G 20 u4)) := hD
  refine va_putF (D := gD G) (cl := vwCl) (ci := 2) (v := .ref qn3) (ty := .object "BaroRuns$Track") (C := RX2) (T := TX2) (N := 7) hx hb hts (by decide +kernel) tyX2 tyX2_ok nmX2 hown hK hP hD hS 0 rfl rfl 1 (by decide) (hts (.fieldLink RX2 20 "BaroRuns$State" "firstTrack" "LBaroRuns$Track;") (by decide +kernel)) (fun _ h9 => h9) rfl hin rfl (by decide +kernel) rfl rfl (Nat.le_of_ble_eq_true rfl) dX2_init_27 (fun H locs hP hD hS => ?_)
  have hP : va_P (gD G) vwCl ((q, .inr (2, [.ref qn1, .ref qn3, .null, .null, .int 0, .int 0, .int 0])) :: (bT G 12 u2 ++ bT G 20 u4)) H := hP
  have hD : va_D A ((q, .inr (2, [.ref qn1, .ref qn3, .null, .null, .int 0, .int 0, .int 0])) :: (bT G 12 u2 ++ bT G 20 u4)) := hD
  refine lv_aload_n hx hb dX2_init_30 rfl (lv_at hl 0 rfl) ?_
  refine va_new (D := gD G) (cl := vwCl) (ci := 5) (fs := [.null, .int 0, .int 0]) (C := RX5) (T := TX5) (N := 3) hx hb hts (by decide +kernel) tyX5 tyX5_ok hown (hts (.classLink RX2 9 RX5) (by decide +kernel)) (hts (.instantiable RX5 3) (by decide +kernel)) (hts (.initialized RX5) (by decide +kernel)) hK hP hD hS hA rfl dfX5 (Nat.le_of_ble_eq_true rfl) (Nat.le_of_ble_eq_true rfl) dX2_init_31 (fun qn5 H hP hD hS => ?_)
  have hP : va_P (gD G) vwCl (((q, .inr (2, [.ref qn1, .ref qn3, .null, .null, .int 0, .int 0, .int 0])) :: (bT G 12 u2 ++ bT G 20 u4)) ++ [(qn5, .inr (5, [.null, .int 0, .int 0]))]) H := hP
  have hD : va_D A (((q, .inr (2, [.ref qn1, .ref qn3, .null, .null, .int 0, .int 0, .int 0])) :: (bT G 12 u2 ++ bT G 20 u4)) ++ [(qn5, .inr (5, [.null, .int 0, .int 0]))]) := hD
  refine lv_dup hx hb dX2_init_34 rfl ?_
  refine lv_bipush (v := 20) hx hb dX2_init_35 (by decide) ?_
  have hF6 := freeA (W := ((q, .inr (2, [.ref qn1, .ref qn3, .null, .null, .int 0, .int 0, .int 0])) :: (bT G 12 u2 ++ bT G 20 u4))) hD hS hA
  have hPc6 := lastP (W := ((q, .inr (2, [.ref qn1, .ref qn3, .null, .null, .int 0, .int 0, .int 0])) :: (bT G 12 u2 ++ bT G 20 u4))) hP
  refine va_callv (va_runI (As := [.int 20]) (rest := [.ref qn5, .ref q]) ⟨hx, hb, hml, hown, hts⟩ (iX5' l G 20 (by decide) qn5 H.size) (cwI 1 hts gX2_init_X5_init rfl rfl rfl (hts (.initialized RX5) (by decide +kernel)) (hts (.methodLink RX2 11 yX5_init) (by decide +kernel)) (hts (.instanceMethod yX5_init) (by decide +kernel)) rfl (by decide +kernel) ⟨(Nat.le_of_ble_eq_true rfl), (Nat.le_of_ble_eq_true rfl)⟩) ⟨fun a U g mk q => by obtain ⟨q0, q1, qP, qK⟩ := q; exact ⟨q0, q1, qP, va_K.moved (u := U) (U := U.calling g mk a) (Vm.Alike.refl U.vm) qK⟩, fun U hU hW => ⟨rfl, by rw [hU], by rw [hU]; exact hPc6, va_K.moved hW.alike hK⟩⟩ rfl rfl hl.1 rfl (lv_room (Nat.le_of_ble_eq_true rfl)) dX2_init_37 ⟨(Nat.le_of_ble_eq_true rfl), (Nat.le_of_ble_eq_true rfl)⟩) hS (fun q _ h => hF6 q h) hF6 (fun u6 t H1 locs ht hvm hw hB hz1 hk1 hS => ?_)
  obtain ⟨hP1, hD1⟩ := hB
  rw [ht] at hP1
  obtain ⟨hP, hD⟩ := joinA (W := ((q, .inr (2, [.ref qn1, .ref qn3, .null, .null, .int 0, .int 0, .int 0])) :: (bT G 12 u2 ++ bT G 20 u4))) hP hD hk1 hF6 hP1 hD1
  have hw6 : u6 0 = qn5 := hw
  generalize H1 = H at hP hS ⊢
  have hP : va_P (gD G) vwCl ((q, .inr (2, [.ref qn1, .ref qn3, .null, .null, .int 0, .int 0, .int 0])) :: ((bT G 12 u2 ++ bT G 20 u4) ++ bT G 20 u6)) H := hP
  have hD : va_D A ((q, .inr (2, [.ref qn1, .ref qn3, .null, .null, .int 0, .int 0, .int 0])) :: ((bT G 12 u2 ++ bT G 20 u4) ++ bT G 20 u6)) := hD
  refine va_putF (D := gD G) (cl := vwCl) (ci := 2) (v := .ref qn5) (ty := .object "BaroRuns$Track") (C := RX2) (T := TX2) (N := 7) hx hb hts (by decide +kernel) tyX2 tyX2_ok nmX2 hown hK hP hD hS 0 rfl rfl 2 (by decide) (hts (.fieldLink RX2 23 "BaroRuns$State" "secondTrack" "LBaroRuns$Track;") (by decide +kernel)) (fun _ h9 => h9) rfl hin rfl (by decide +kernel) rfl rfl (Nat.le_of_ble_eq_true rfl) dX2_init_40 (fun H locs hP hD hS => ?_)
  have hP : va_P (gD G) vwCl ((q, .inr (2, [.ref qn1, .ref qn3, .ref qn5, .null, .int 0, .int 0, .int 0])) :: ((bT G 12 u2 ++ bT G 20 u4) ++ bT G 20 u6)) H := hP
  have hD : va_D A ((q, .inr (2, [.ref qn1, .ref qn3, .ref qn5, .null, .int 0, .int 0, .int 0])) :: ((bT G 12 u2 ++ bT G 20 u4) ++ bT G 20 u6)) := hD
  refine lv_aload_n hx hb dX2_init_43 rfl (lv_at hl 0 rfl) ?_
  refine va_new (D := gD G) (cl := vwCl) (ci := 5) (fs := [.null, .int 0, .int 0]) (C := RX5) (T := TX5) (N := 3) hx hb hts (by decide +kernel) tyX5 tyX5_ok hown (hts (.classLink RX2 9 RX5) (by decide +kernel)) (hts (.instantiable RX5 3) (by decide +kernel)) (hts (.initialized RX5) (by decide +kernel)) hK hP hD hS hA rfl dfX5 (Nat.le_of_ble_eq_true rfl) (Nat.le_of_ble_eq_true rfl) dX2_init_44 (fun qn7 H hP hD hS => ?_)
  have hP : va_P (gD G) vwCl (((q, .inr (2, [.ref qn1, .ref qn3, .ref qn5, .null, .int 0, .int 0, .int 0])) :: ((bT G 12 u2 ++ bT G 20 u4) ++ bT G 20 u6)) ++ [(qn7, .inr (5, [.null, .int 0, .int 0]))]) H := hP
  have hD : va_D A (((q, .inr (2, [.ref qn1, .ref qn3, .ref qn5, .null, .int 0, .int 0, .int 0])) :: ((bT G 12 u2 ++ bT G 20 u4) ++ bT G 20 u6)) ++ [(qn7, .inr (5, [.null, .int 0, .int 0]))]) := hD
  refine lv_dup hx hb dX2_init_47 rfl ?_
  refine lv_bipush (v := 20) hx hb dX2_init_48 (by decide) ?_
  have hF8 := freeA (W := ((q, .inr (2, [.ref qn1, .ref qn3, .ref qn5, .null, .int 0, .int 0, .int 0])) :: ((bT G 12 u2 ++ bT G 20 u4) ++ bT G 20 u6))) hD hS hA
  have hPc8 := lastP (W := ((q, .inr (2, [.ref qn1, .ref qn3, .ref qn5, .null, .int 0, .int 0, .int 0])) :: ((bT G 12 u2 ++ bT G 20 u4) ++ bT G 20 u6))) hP
  refine va_callv (va_runI (As := [.int 20]) (rest := [.ref qn7, .ref q]) ⟨hx, hb, hml, hown, hts⟩ (iX5' l G 20 (by decide) qn7 H.size) (cwI 1 hts gX2_init_X5_init rfl rfl rfl (hts (.initialized RX5) (by decide +kernel)) (hts (.methodLink RX2 11 yX5_init) (by decide +kernel)) (hts (.instanceMethod yX5_init) (by decide +kernel)) rfl (by decide +kernel) ⟨(Nat.le_of_ble_eq_true rfl), (Nat.le_of_ble_eq_true rfl)⟩) ⟨fun a U g mk q => by obtain ⟨q0, q1, qP, qK⟩ := q; exact ⟨q0, q1, qP, va_K.moved (u := U) (U := U.calling g mk a) (Vm.Alike.refl U.vm) qK⟩, fun U hU hW => ⟨rfl, by rw [hU], by rw [hU]; exact hPc8, va_K.moved hW.alike hK⟩⟩ rfl rfl hl.1 rfl (lv_room (Nat.le_of_ble_eq_true rfl)) dX2_init_50 ⟨(Nat.le_of_ble_eq_true rfl), (Nat.le_of_ble_eq_true rfl)⟩) hS (fun q _ h => hF8 q h) hF8 (fun u8 t H1 locs ht hvm hw hB hz1 hk1 hS => ?_)
  obtain ⟨hP1, hD1⟩ := hB
  rw [ht] at hP1
  obtain ⟨hP, hD⟩ := joinA (W := ((q, .inr (2, [.ref qn1, .ref qn3, .ref qn5, .null, .int 0, .int 0, .int 0])) :: ((bT G 12 u2 ++ bT G 20 u4) ++ bT G 20 u6))) hP hD hk1 hF8 hP1 hD1
  have hw8 : u8 0 = qn7 := hw
  generalize H1 = H at hP hS ⊢
  have hP : va_P (gD G) vwCl ((q, .inr (2, [.ref qn1, .ref qn3, .ref qn5, .null, .int 0, .int 0, .int 0])) :: (((bT G 12 u2 ++ bT G 20 u4) ++ bT G 20 u6) ++ bT G 20 u8)) H := hP
  have hD : va_D A ((q, .inr (2, [.ref qn1, .ref qn3, .ref qn5, .null, .int 0, .int 0, .int 0])) :: (((bT G 12 u2 ++ bT G 20 u4) ++ bT G 20 u6) ++ bT G 20 u8)) := hD
  refine va_putF (D := gD G) (cl := vwCl) (ci := 2) (v := .ref qn7) (ty := .object "BaroRuns$Track") (C := RX2) (T := TX2) (N := 7) hx hb hts (by decide +kernel) tyX2 tyX2_ok nmX2 hown hK hP hD hS 0 rfl rfl 3 (by decide) (hts (.fieldLink RX2 26 "BaroRuns$State" "thirdTrack" "LBaroRuns$Track;") (by decide +kernel)) (fun _ h9 => h9) rfl hin rfl (by decide +kernel) rfl rfl (Nat.le_of_ble_eq_true rfl) dX2_init_53 (fun H locs hP hD hS => ?_)
  have hP : va_P (gD G) vwCl ((q, .inr (2, [.ref qn1, .ref qn3, .ref qn5, .ref qn7, .int 0, .int 0, .int 0])) :: (((bT G 12 u2 ++ bT G 20 u4) ++ bT G 20 u6) ++ bT G 20 u8)) H := hP
  have hD : va_D A ((q, .inr (2, [.ref qn1, .ref qn3, .ref qn5, .ref qn7, .int 0, .int 0, .int 0])) :: (((bT G 12 u2 ++ bT G 20 u4) ++ bT G 20 u6) ++ bT G 20 u8)) := hD
  refine lv_aload_n hx hb dX2_init_56 rfl (lv_at hl 0 rfl) ?_
  refine lv_iconst (v := 0) hx hb dX2_init_57 (by decide) ?_
  refine va_put (D := gD G) (cl := vwCl) (ci := 2) (v := .int 0) (ty := .int) (C := RX2) (T := TX2) (N := 7) hx hb hts (by decide +kernel) tyX2 tyX2_ok nmX2 hown hK hP hD hS 0 rfl rfl 4 (by decide) (hts (.fieldLink RX2 29 "BaroRuns$State" "baseHeight" "I") (by decide +kernel)) (fun _ h9 => h9) rfl (by decide +kernel) rfl rfl (Nat.le_of_ble_eq_true rfl) dX2_init_58 (fun H locs hP hD hS => ?_)
  have hP : va_P (gD G) vwCl ((q, .inr (2, [.ref qn1, .ref qn3, .ref qn5, .ref qn7, .int 0, .int 0, .int 0])) :: (((bT G 12 u2 ++ bT G 20 u4) ++ bT G 20 u6) ++ bT G 20 u8)) H := hP
  have hD : va_D A ((q, .inr (2, [.ref qn1, .ref qn3, .ref qn5, .ref qn7, .int 0, .int 0, .int 0])) :: (((bT G 12 u2 ++ bT G 20 u4) ++ bT G 20 u6) ++ bT G 20 u8)) := hD
  refine lv_aload_n hx hb dX2_init_61 rfl (lv_at hl 0 rfl) ?_
  refine lv_bipush (v := 60) hx hb dX2_init_62 (by decide) ?_
  refine va_put (D := gD G) (cl := vwCl) (ci := 2) (v := .int 60) (ty := .int) (C := RX2) (T := TX2) (N := 7) hx hb hts (by decide +kernel) tyX2 tyX2_ok nmX2 hown hK hP hD hS 0 rfl rfl 5 (by decide) (hts (.fieldLink RX2 33 "BaroRuns$State" "gustLimit" "I") (by decide +kernel)) (fun _ h9 => h9) rfl (by decide +kernel) rfl rfl (Nat.le_of_ble_eq_true rfl) dX2_init_64 (fun H locs hP hD hS => ?_)
  have hP : va_P (gD G) vwCl ((q, .inr (2, [.ref qn1, .ref qn3, .ref qn5, .ref qn7, .int 0, .int 60, .int 0])) :: (((bT G 12 u2 ++ bT G 20 u4) ++ bT G 20 u6) ++ bT G 20 u8)) H := hP
  have hD : va_D A ((q, .inr (2, [.ref qn1, .ref qn3, .ref qn5, .ref qn7, .int 0, .int 60, .int 0])) :: (((bT G 12 u2 ++ bT G 20 u4) ++ bT G 20 u6) ++ bT G 20 u8)) := hD
  refine lv_aload_n hx hb dX2_init_67 rfl (lv_at hl 0 rfl) ?_
  refine lv_bipush (v := 50) hx hb dX2_init_68 (by decide) ?_
  refine va_put (D := gD G) (cl := vwCl) (ci := 2) (v := .int 50) (ty := .int) (C := RX2) (T := TX2) (N := 7) hx hb hts (by decide +kernel) tyX2 tyX2_ok nmX2 hown hK hP hD hS 0 rfl rfl 6 (by decide) (hts (.fieldLink RX2 36 "BaroRuns$State" "stepLimit" "I") (by decide +kernel)) (fun _ h9 => h9) rfl (by decide +kernel) rfl rfl (Nat.le_of_ble_eq_true rfl) dX2_init_70 (fun H locs hP hD hS => ?_)
  have hP : va_P (gD G) vwCl ((q, .inr (2, [.ref qn1, .ref qn3, .ref qn5, .ref qn7, .int 0, .int 60, .int 50])) :: (((bT G 12 u2 ++ bT G 20 u4) ++ bT G 20 u6) ++ bT G 20 u8)) H := hP
  have hD : va_D A ((q, .inr (2, [.ref qn1, .ref qn3, .ref qn5, .ref qn7, .int 0, .int 60, .int 50])) :: (((bT G 12 u2 ++ bT G 20 u4) ++ bT G 20 u6) ++ bT G 20 u8)) := hD
  have hB : ((q, .inr (2, [.ref qn1, .ref qn3, .ref qn5, .ref qn7, .int 0, .int 60, .int 50])) :: (((bT G 12 u2 ++ bT G 20 u4) ++ bT G 20 u6) ++ bT G 20 u8)) = bS G (pcs [(1, fun _ => q), (2, u2), (2, u4), (2, u6), (2, u8)]) := by
    rw [← hw2, ← hw4, ← hw6, ← hw8]
    rfl
  rw [hB] at hP hD
  exact W.vret hx hb hr (fun t ht hW => ⟨⟨pcs [(1, fun _ => q), (2, u2), (2, u4), (2, u6), (2, u8)], rfl, rfl, by rw [ht]; exact hP, hD⟩, hS.F ht⟩) hS.2.2 dX2_init_73
