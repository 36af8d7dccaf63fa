/-- as iV, with what the tables say of arrays of states -/
def iW (l : Launch) (y : MethodName) (ws : List Cond) (rm : Room) (G : wG) (As : List Value) (e0 : va_E) (B : (Nat → Nat) → va_W) (mc ms : Nat) : Prop := ∀ (q sz : Nat), Met l y ws rm (va_Pc (.ref q :: As) (fun U => U.heap.size = sz ∧ va_P (gD G) vwCl [(q, e0)] U.heap ∧ va_K (gD G) vwCl (wt G) U ∧ va_AO RX2 U)) (va_Qv (fun u : Nat → Nat => u 0 = q) (fun u t => va_P (gD G) vwCl (B u) t.heap ∧ va_D (va_A [(q, e0)] sz) (B u)) (va_A [(q, e0)] sz)) mc ms (va_A [(q, e0)] sz)
theorem cO_of {s : State} {G : wG} {cA : ClassId} (hK : va_K (gD G) vwCl (wt G ++ [(cA, .object RX2)]) s) : cA = gO G := by
  obtain ⟨k1, c1, -, -, -, h0⟩ := (hK.2 1 _ rfl).2
  obtain ⟨k2, c2, -, -, -, h4⟩ := (hK.2 2 _ rfl).2
  exact Option.some.inj (h4.symm.trans h0)
def no5 : Nat → Option Nat := fun _ => none
def bH (G : wG) (a : Nat → Nat) : va_W := (a 0, .inr (0, [.ref (a 1), .int 0, .int 0])) :: ((((([(a 1, .inl (gO G, 5, .inr (.inr (.inr (.inr (va_up (va_up (va_up (va_up (va_up no5 0 (some (a 2))) 1 (some (a 11))) 2 (some (a 20))) 3 (some (a 29))) 4 (some (a 38))))))))] ++ bS G (fun i => a (2 + i))) ++ bS G (fun i => a (11 + i))) ++ bS G (fun i => a (20 + i))) ++ bS G (fun i => a (29 + i))) ++ bS G (fun i => a (38 + i)))
set_option maxHeartbeats 4000000 in
set_option maxRecDepth 100000 in
theorem iX0 (l : Launch) (G : wG) : iW l yX0_init wsX0_init { frames := 3, cells := 46, slots := 1700, locals := 72 } G [] (.inr (0, [.null, .int 0, .int 0])) (bH G) 46 1700 := by
  intro q sz
  refine Met.ofW (cc := cX0_init) (maxL := 2) (ret := none) (by decide) rfl ?_
  intro p e s m args below meth c s₁ B hml hv
  obtain ⟨rfl, hsz, hP, hK, hAO⟩ := hv
  have hx := B.exec
  have hb := B.bytes
  have hr := B.returns
  have hts := atoms_spec (ws := wsX0_init) B.pre
  have hown : s.vm.findClass RX0 = some m.cls := findClass_of_methodNamed B.named
  have hin : meth.name = "<init>" := (name_of_methodNamed B.named B.method).1
  subst hsz
  have hD : va_D (va_A [(q, .inr (0, [.null, .int 0, .int 0]))] s.heap.size) [(q, .inr (0, [.null, .int 0, .int 0]))] := oneD
  generalize hAe : va_A [(q, .inr (0, [.null, .int 0, .int 0]))] s.heap.size = A at hD ⊢
  have hA : ∀ q : Nat, s.heap.size ≤ q → A q := fun q h => by rw [← hAe]; exact Or.inr h
  have hS : va_S A s.heap s.heap [] := va_S.rf
  have hl := lv_entry ([.ref q]) (n := 2) (Nat.le_of_ble_eq_true rfl)
  rw [lg_entry_eq]
  generalize (lg_sl ([.ref q]) ++ List.replicate (2 - (lg_sl ([.ref q])).length) Slot.unset).toArray = ls at hl ⊢
  have hl : lv_has ls 2 [(0, .ref q)] := hl
  have hP : va_P (gD G) vwCl [(q, .inr (0, [.null, .int 0, .int 0]))] s.heap := hP
  refine lv_aload_n hx hb dX0_init_0 rfl (lv_at hl 0 rfl) ?_
  refine W.objInit hx hb hown (hts (.methodLink RX0 3 objectInit) (by decide +kernel)) (hts (.instanceMethod objectInit) (by decide +kernel)) (hts (.code objectInit ⟨#[0xb1]⟩ 1 none) (List.mem_of_getElem? (i := 3) rfl)) rfl (by rw [hml]; exact hl.1) rfl dX0_init_1 (Nat.le_of_ble_eq_true rfl) (Nat.le_of_ble_eq_true rfl) ?_
  refine W.eq (g2 := F0 m 4 ls []) rfl ?_
  refine lv_aload_n hx hb dX0_init_4 rfl (lv_at hl 0 rfl) ?_
  refine lv_iconst (v := 5) hx hb dX0_init_5 (by decide) ?_
  refine va_newq hx hb hown (hts (.classLink RX0 9 RX2) (by decide +kernel)) hAO hK hP hD hS hA (N' := 5) (by decide) (by decide) (by decide) (Nat.le_of_ble_eq_true rfl) (Nat.le_of_ble_eq_true rfl) dX0_init_6 (fun q1 cA H hK1 hP hD hS => ?_)
  have hcA := cO_of hK1
  subst hcA
  have hP : va_P (gD G) vwCl ((q, .inr (0, [.null, .int 0, .int 0])) :: [(q1, .inl (gO G, 5, .inr (.inr (.inr (.inr no5)))))]) H := hP
  have hD : va_D A ((q, .inr (0, [.null, .int 0, .int 0])) :: [(q1, .inl (gO G, 5, .inr (.inr (.inr (.inr no5)))))]) := hD
  refine va_putF (D := gD G) (cl := vwCl) (ci := 0) (v := .ref q1) (ty := .array (.object "BaroRuns$State")) (C := RX0) (T := TX0) (N := 3) hx hb hts (by decide +kernel) tyX0 tyX0_ok nmX0 hown hK hP hD hS 0 rfl rfl 0 (by decide) (hts (.fieldLink RX0 11 "BaroRuns$History" "places" "[LBaroRuns$State;") (by decide +kernel)) (fun _ h9 => h9) rfl hin rfl (by decide +kernel) rfl rfl (Nat.le_of_ble_eq_true rfl) dX0_init_9 (fun H locs hP hD hS => ?_)
  have hP : va_P (gD G) vwCl ((q, .inr (0, [.ref q1, .int 0, .int 0])) :: [(q1, .inl (gO G, 5, .inr (.inr (.inr (.inr no5)))))]) H := hP
  have hD : va_D A ((q, .inr (0, [.ref q1, .int 0, .int 0])) :: [(q1, .inl (gO G, 5, .inr (.inr (.inr (.inr no5)))))]) := hD
  refine lv_iconst (v := 0) hx hb dX0_init_12 (by decide) ?_
  refine lv_istore_n (lv' := [(1, .int 0), (0, .ref q)]) hx hb dX0_init_13 rfl hl (by decide) rfl (fun ls hl => ?_)
  refine lv_iload_n hx hb dX0_init_14 rfl (lv_at hl 0 rfl) ?_
  refine lv_aload_n hx hb dX0_init_15 rfl (lv_at hl 1 rfl) ?_
  refine va_get (D := gD G) (cl := vwCl) (ci := 0) (v := .ref q1) (C := RX0) (T := TX0) (N := 3) hx hb hts (by decide +kernel) hown hK hP 0 rfl rfl 0 (by decide) (hts (.fieldLink RX0 11 "BaroRuns$History" "places" "[LBaroRuns$State;") (by decide +kernel)) (fun _ h9 => h9) rfl dX0_init_16 ?_
  refine va_alen (v := 5) hx hb hK hP 1 1 rfl rfl rfl dX0_init_19 ?_
  refine lv_icmp_ge hx hb dX0_init_20 (show ((20 : Nat) : Int) + 22 = ((42 : Nat) : Int) from by decide) (fun h => absurd h (show ¬ (5 : Int32) ≤ 0 from by decide)) (fun _ => ?_)
  refine lv_aload_n hx hb dX0_init_23 rfl (lv_at hl 1 rfl) ?_
  refine va_get (D := gD G) (cl := vwCl) (ci := 0) (v := .ref q1) (C := RX0) (T := TX0) (N := 3) hx hb hts (by decide +kernel) hown hK hP 0 rfl rfl 0 (by decide) (hts (.fieldLink RX0 11 "BaroRuns$History" "places" "[LBaroRuns$State;") (by decide +kernel)) (fun _ h9 => h9) rfl dX0_init_24 ?_
  refine lv_iload_n hx hb dX0_init_27 rfl (lv_at hl 0 rfl) ?_
  refine va_new (D := gD G) (cl := vwCl) (ci := 2) (fs := [.null, .null, .null, .null, .int 0, .int 0, .int 0]) (C := RX2) (T := TX2) (N := 7) hx hb hts (by decide +kernel) tyX2 tyX2_ok hown (hts (.classLink RX0 9 RX2) (by decide +kernel)) (hts (.instantiable RX2 7) (by decide +kernel)) (hts (.initialized RX2) (by decide +kernel)) hK hP hD hS hA rfl dfX2 (Nat.le_of_ble_eq_true rfl) (Nat.le_of_ble_eq_true rfl) dX0_init_28 (fun n0 H hP hD hS => ?_)
  have hP : va_P (gD G) vwCl (((q, .inr (0, [.ref q1, .int 0, .int 0])) :: [(q1, .inl (gO G, 5, .inr (.inr (.inr (.inr no5)))))]) ++ [(n0, .inr (2, [.null, .null, .null, .null, .int 0, .int 0, .int 0]))]) H := hP
  have hD : va_D A (((q, .inr (0, [.ref q1, .int 0, .int 0])) :: [(q1, .inl (gO G, 5, .inr (.inr (.inr (.inr no5)))))]) ++ [(n0, .inr (2, [.null, .null, .null, .null, .int 0, .int 0, .int 0]))]) := hD
  refine lv_dup hx hb dX0_init_31 rfl ?_
  have hF0 := freeA (W := ((q, .inr (0, [.ref q1, .int 0, .int 0])) :: [(q1, .inl (gO G, 5, .inr (.inr (.inr (.inr no5)))))])) hD hS hA
  have hPc0 := lastP (W := ((q, .inr (0, [.ref q1, .int 0, .int 0])) :: [(q1, .inl (gO G, 5, .inr (.inr (.inr (.inr no5)))))])) hP
  refine va_callv (va_runI (As := []) (rest := [.ref n0, .int 0, .ref q1]) ⟨hx, hb, hml, hown, hts⟩ (iX2 l G n0 H.size) (cwI 0 hts gX0_init_X2_init rfl rfl rfl (hts (.initialized RX2) (by decide +kernel)) (hts (.methodLink RX0 17 yX2_init) (by decide +kernel)) (hts (.instanceMethod yX2_init) (by decide +kernel)) rfl (by decide +kernel) ⟨(Nat.le_of_ble_eq_true rfl), (Nat.le_of_ble_eq_true rfl)⟩) ⟨fun a U g mk q => by obtain ⟨q0, q1, qP, qK⟩ := q; exact ⟨q0, q1, qP, va_K.moved (u := U) (U := U.calling g mk a) (Vm.Alike.refl U.vm) qK⟩, fun U hU hW => ⟨rfl, by rw [hU], by rw [hU]; exact hPc0, va_K.moved hW.alike hK⟩⟩ rfl rfl hl.1 rfl (lv_room (Nat.le_of_ble_eq_true rfl)) dX0_init_32 ⟨(Nat.le_of_ble_eq_true rfl), (Nat.le_of_ble_eq_true rfl)⟩) hS (fun q _ h => hF0 q h) hF0 (fun u0 t H1 locs ht hvm hw hB hz1 hk1 hS => ?_)
  obtain ⟨hP1, hD1⟩ := hB
  rw [ht] at hP1
  obtain ⟨hP, hD⟩ := joinA (W := ((q, .inr (0, [.ref q1, .int 0, .int 0])) :: [(q1, .inl (gO G, 5, .inr (.inr (.inr (.inr no5)))))])) hP hD hk1 hF0 hP1 hD1
  have hw0 : u0 0 = n0 := hw
  generalize H1 = H at hP hS ⊢
  have hP : va_P (gD G) vwCl ((q, .inr (0, [.ref q1, .int 0, .int 0])) :: ([(q1, .inl (gO G, 5, .inr (.inr (.inr (.inr no5)))))] ++ bS G u0)) H := hP
  have hD : va_D A ((q, .inr (0, [.ref q1, .int 0, .int 0])) :: ([(q1, .inl (gO G, 5, .inr (.inr (.inr (.inr no5)))))] ++ bS G u0)) := hD
  refine va_astq (r := (RX2, TX2, 7)) (v := n0) (vs := [.ref (u0 1), .ref (u0 3), .ref (u0 5), .ref (u0 7), .int 0, .int 60, .int 50]) hx hb hK hP hD hS 1 1 2 2 rfl rfl (by rw [← hw0]; rfl) rfl (i := 0) (pk_in 0 5 (by decide)) dX0_init_35 (fun H locs hP hD hS => ?_)
  have hP : va_P (gD G) vwCl ((q, .inr (0, [.ref q1, .int 0, .int 0])) :: ([(q1, .inl (gO G, 5, .inr (.inr (.inr (.inr (va_up no5 0 (some n0)))))))] ++ bS G u0)) H := hP
  have hD : va_D A ((q, .inr (0, [.ref q1, .int 0, .int 0])) :: ([(q1, .inl (gO G, 5, .inr (.inr (.inr (.inr (va_up no5 0 (some n0)))))))] ++ bS G u0)) := hD
  refine lv_iinc (lv' := [(1, .int 1), (0, .ref q)]) (k := 0) (x := 0) hx hb dX0_init_36 hl rfl (by decide) (by decide) rfl (fun ls hl => ?_)
  refine lv_goto hx hb dX0_init_39 (show ((39 : Nat) : Int) + (-25) = ((14 : Nat) : Int) from by decide) ?_
  refine lv_iload_n hx hb dX0_init_14 rfl (lv_at hl 0 rfl) ?_
  refine lv_aload_n hx hb dX0_init_15 rfl (lv_at hl 1 rfl) ?_
  refine va_get (D := gD G) (cl := vwCl) (ci := 0) (v := .ref q1) (C := RX0) (T := TX0) (N := 3) hx hb hts (by decide +kernel) hown hK hP 0 rfl rfl 0 (by decide) (hts (.fieldLink RX0 11 "BaroRuns$History" "places" "[LBaroRuns$State;") (by decide +kernel)) (fun _ h9 => h9) rfl dX0_init_16 ?_
  refine va_alen (v := 5) hx hb hK hP 1 1 rfl rfl rfl dX0_init_19 ?_
  refine lv_icmp_ge hx hb dX0_init_20 (show ((20 : Nat) : Int) + 22 = ((42 : Nat) : Int) from by decide) (fun h => absurd h (show ¬ (5 : Int32) ≤ 1 from by decide)) (fun _ => ?_)
  refine lv_aload_n hx hb dX0_init_23 rfl (lv_at hl 1 rfl) ?_
  refine va_get (D := gD G) (cl := vwCl) (ci := 0) (v := .ref q1) (C := RX0) (T := TX0) (N := 3) hx hb hts (by decide +kernel) hown hK hP 0 rfl rfl 0 (by decide) (hts (.fieldLink RX0 11 "BaroRuns$History" "places" "[LBaroRuns$State;") (by decide +kernel)) (fun _ h9 => h9) rfl dX0_init_24 ?_
  refine lv_iload_n hx hb dX0_init_27 rfl (lv_at hl 0 rfl) ?_
  refine va_new (D := gD G) (cl := vwCl) (ci := 2) (fs := [.null, .null, .null, .null, .int 0, .int 0, .int 0]) (C := RX2) (T := TX2) (N := 7) hx hb hts (by decide +kernel) tyX2 tyX2_ok hown (hts (.classLink RX0 9 RX2) (by decide +kernel)) (hts (.instantiable RX2 7) (by decide +kernel)) (hts (.initialized RX2) (by decide +kernel)) hK hP hD hS hA rfl dfX2 (Nat.le_of_ble_eq_true rfl) (Nat.le_of_ble_eq_true rfl) dX0_init_28 (fun n1 H hP hD hS => ?_)
  have hP : va_P (gD G) vwCl (((q, .inr (0, [.ref q1, .int 0, .int 0])) :: ([(q1, .inl (gO G, 5, .inr (.inr (.inr (.inr (va_up no5 0 (some n0)))))))] ++ bS G u0)) ++ [(n1, .inr (2, [.null, .null, .null, .null, .int 0, .int 0, .int 0]))]) H := hP
  have hD : va_D A (((q, .inr (0, [.ref q1, .int 0, .int 0])) :: ([(q1, .inl (gO G, 5, .inr (.inr (.inr (.inr (va_up no5 0 (some n0)))))))] ++ bS G u0)) ++ [(n1, .inr (2, [.null, .null, .null, .null, .int 0, .int 0, .int 0]))]) := hD
  refine lv_dup hx hb dX0_init_31 rfl ?_
  have hF1 := freeA (W := ((q, .inr (0, [.ref q1, .int 0, .int 0])) :: ([(q1, .inl (gO G, 5, .inr (.inr (.inr (.inr (va_up no5 0 (some n0)))))))] ++ bS G u0))) hD hS hA
  have hPc1 := lastP (W := ((q, .inr (0, [.ref q1, .int 0, .int 0])) :: ([(q1, .inl (gO G, 5, .inr (.inr (.inr (.inr (va_up no5 0 (some n0)))))))] ++ bS G u0))) hP
  refine va_callv (va_runI (As := []) (rest := [.ref n1, .int 1, .ref q1]) ⟨hx, hb, hml, hown, hts⟩ (iX2 l G n1 H.size) (cwI 0 hts gX0_init_X2_init rfl rfl rfl (hts (.initialized RX2) (by decide +kernel)) (hts (.methodLink RX0 17 yX2_init) (by decide +kernel)) (hts (.instanceMethod yX2_init) (by decide +kernel)) rfl (by decide +kernel) ⟨(Nat.le_of_ble_eq_true rfl), (Nat.le_of_ble_eq_true rfl)⟩) ⟨fun a U g mk q => by obtain ⟨q0, q1, qP, qK⟩ := q; exact ⟨q0, q1, qP, va_K.moved (u := U) (U := U.calling g mk a) (Vm.Alike.refl U.vm) qK⟩, fun U hU hW => ⟨rfl, by rw [hU], by rw [hU]; exact hPc1, va_K.moved hW.alike hK⟩⟩ rfl rfl hl.1 rfl (lv_room (Nat.le_of_ble_eq_true rfl)) dX0_init_32 ⟨(Nat.le_of_ble_eq_true rfl), (Nat.le_of_ble_eq_true rfl)⟩) hS (fun q _ h => hF1 q h) hF1 (fun u1 t H1 locs ht hvm hw hB hz1 hk1 hS => ?_)
  obtain ⟨hP1, hD1⟩ := hB
  rw [ht] at hP1
  obtain ⟨hP, hD⟩ := joinA (W := ((q, .inr (0, [.ref q1, .int 0, .int 0])) :: ([(q1, .inl (gO G, 5, .inr (.inr (.inr (.inr (va_up no5 0 (some n0)))))))] ++ bS G u0))) hP hD hk1 hF1 hP1 hD1
  have hw1 : u1 0 = n1 := hw
  generalize H1 = H at hP hS ⊢
  have hP : va_P (gD G) vwCl ((q, .inr (0, [.ref q1, .int 0, .int 0])) :: (([(q1, .inl (gO G, 5, .inr (.inr (.inr (.inr (va_up no5 0 (some n0)))))))] ++ bS G u0) ++ bS G u1)) H := hP
  have hD : va_D A ((q, .inr (0, [.ref q1, .int 0, .int 0])) :: (([(q1, .inl (gO G, 5, .inr (.inr (.inr (.inr (va_up no5 0 (some n0)))))))] ++ bS G u0) ++ bS G u1)) := hD
  refine va_astq (r := (RX2, TX2, 7)) (v := n1) (vs := [.ref (u1 1), .ref (u1 3), .ref (u1 5), .ref (u1 7), .int 0, .int 60, .int 50]) hx hb hK hP hD hS 1 1 11 2 rfl rfl (by rw [← hw1]; rfl) rfl (i := 1) (pk_in 1 5 (by decide)) dX0_init_35 (fun H locs hP hD hS => ?_)
  have hP : va_P (gD G) vwCl ((q, .inr (0, [.ref q1, .int 0, .int 0])) :: (([(q1, .inl (gO G, 5, .inr (.inr (.inr (.inr (va_up (va_up no5 0 (some n0)) 1 (some n1)))))))] ++ bS G u0) ++ bS G u1)) H := hP
  have hD : va_D A ((q, .inr (0, [.ref q1, .int 0, .int 0])) :: (([(q1, .inl (gO G, 5, .inr (.inr (.inr (.inr (va_up (va_up no5 0 (some n0)) 1 (some n1)))))))] ++ bS G u0) ++ bS G u1)) := hD
  refine lv_iinc (lv' := [(1, .int 2), (0, .ref q)]) (k := 0) (x := 1) hx hb dX0_init_36 hl rfl (by decide) (by decide) rfl (fun ls hl => ?_)
  refine lv_goto hx hb dX0_init_39 (show ((39 : Nat) : Int) + (-25) = ((14 : Nat) : Int) from by decide) ?_
  refine lv_iload_n hx hb dX0_init_14 rfl (lv_at hl 0 rfl) ?_
  refine lv_aload_n hx hb dX0_init_15 rfl (lv_at hl 1 rfl) ?_
  refine va_get (D := gD G) (cl := vwCl) (ci := 0) (v := .ref q1) (C := RX0) (T := TX0) (N := 3) hx hb hts (by decide +kernel) hown hK hP 0 rfl rfl 0 (by decide) (hts (.fieldLink RX0 11 "BaroRuns$History" "places" "[LBaroRuns$State;") (by decide +kernel)) (fun _ h9 => h9) rfl dX0_init_16 ?_
  refine va_alen (v := 5) hx hb hK hP 1 1 rfl rfl rfl dX0_init_19 ?_
  refine lv_icmp_ge hx hb dX0_init_20 (show ((20 : Nat) : Int) + 22 = ((42 : Nat) : Int) from by decide) (fun h => absurd h (show ¬ (5 : Int32) ≤ 2 from by decide)) (fun _ => ?_)
  refine lv_aload_n hx hb dX0_init_23 rfl (lv_at hl 1 rfl) ?_
  refine va_get (D := gD G) (cl := vwCl) (ci := 0) (v := .ref q1) (C := RX0) (T := TX0) (N := 3) hx hb hts (by decide +kernel) hown hK hP 0 rfl rfl 0 (by decide) (hts (.fieldLink RX0 11 "BaroRuns$History" "places" "[LBaroRuns$State;") (by decide +kernel)) (fun _ h9 => h9) rfl dX0_init_24 ?_
  refine lv_iload_n hx hb dX0_init_27 rfl (lv_at hl 0 rfl) ?_
  refine va_new (D := gD G) (cl := vwCl) (ci := 2) (fs := [.null, .null, .null, .null, .int 0, .int 0, .int 0]) (C := RX2) (T := TX2) (N := 7) hx hb hts (by decide +kernel) tyX2 tyX2_ok hown (hts (.classLink RX0 9 RX2) (by decide +kernel)) (hts (.instantiable RX2 7) (by decide +kernel)) (hts (.initialized RX2) (by decide +kernel)) hK hP hD hS hA rfl dfX2 (Nat.le_of_ble_eq_true rfl) (Nat.le_of_ble_eq_true rfl) dX0_init_28 (fun n2 H hP hD hS => ?_)
  have hP : va_P (gD G) vwCl (((q, .inr (0, [.ref q1, .int 0, .int 0])) :: (([(q1, .inl (gO G, 5, .inr (.inr (.inr (.inr (va_up (va_up no5 0 (some n0)) 1 (some n1)))))))] ++ bS G u0) ++ bS G u1)) ++ [(n2, .inr (2, [.null, .null, .null, .null, .int 0, .int 0, .int 0]))]) H := hP
  have hD : va_D A (((q, .inr (0, [.ref q1, .int 0, .int 0])) :: (([(q1, .inl (gO G, 5, .inr (.inr (.inr (.inr (va_up (va_up no5 0 (some n0)) 1 (some n1)))))))] ++ bS G u0) ++ bS G u1)) ++ [(n2, .inr (2, [.null, .null, .null, .null, .int 0, .int 0, .int 0]))]) := hD
  refine lv_dup hx hb dX0_init_31 rfl ?_
  have hF2 := freeA (W := ((q, .inr (0, [.ref q1, .int 0, .int 0])) :: (([(q1, .inl (gO G, 5, .inr (.inr (.inr (.inr (va_up (va_up no5 0 (some n0)) 1 (some n1)))))))] ++ bS G u0) ++ bS G u1))) hD hS hA
  have hPc2 := lastP (W := ((q, .inr (0, [.ref q1, .int 0, .int 0])) :: (([(q1, .inl (gO G, 5, .inr (.inr (.inr (.inr (va_up (va_up no5 0 (some n0)) 1 (some n1)))))))] ++ bS G u0) ++ bS G u1))) hP
  refine va_callv (va_runI (As := []) (rest := [.ref n2, .int 2, .ref q1]) ⟨hx, hb, hml, hown, hts⟩ (iX2 l G n2 H.size) (cwI 0 hts gX0_init_X2_init rfl rfl rfl (hts (.initialized RX2) (by decide +kernel)) (hts (.methodLink RX0 17 yX2_init) (by decide +kernel)) (hts (.instanceMethod yX2_init) (by decide +kernel)) rfl (by decide +kernel) ⟨(Nat.le_of_ble_eq_true rfl), (Nat.le_of_ble_eq_true rfl)⟩) ⟨fun a U g mk q => by obtain ⟨q0, q1, qP, qK⟩ := q; exact ⟨q0, q1, qP, va_K.moved (u := U) (U := U.calling g mk a) (Vm.Alike.refl U.vm) qK⟩, fun U hU hW => ⟨rfl, by rw [hU], by rw [hU]; exact hPc2, va_K.moved hW.alike hK⟩⟩ rfl rfl hl.1 rfl (lv_room (Nat.le_of_ble_eq_true rfl)) dX0_init_32 ⟨(Nat.le_of_ble_eq_true rfl), (Nat.le_of_ble_eq_true rfl)⟩) hS (fun q _ h => hF2 q h) hF2 (fun u2 t H1 locs ht hvm hw hB hz1 hk1 hS => ?_)
  obtain ⟨hP1, hD1⟩ := hB
  rw [ht] at hP1
  obtain ⟨hP, hD⟩ := joinA (W := ((q, .inr (0, [.ref q1, .int 0, .int 0])) :: (([(q1, .inl (gO G, 5, .inr (.inr (.inr (.inr (va_up (va_up no5 0 (some n0)) 1 (some n1)))))))] ++ bS G u0) ++ bS G u1))) hP hD hk1 hF2 hP1 hD1
  have hw2 : u2 0 = n2 := hw
  generalize H1 = H at hP hS ⊢
  have hP : va_P (gD G) vwCl ((q, .inr (0, [.ref q1, .int 0, .int 0])) :: ((([(q1, .inl (gO G, 5, .inr (.inr (.inr (.inr (va_up (va_up no5 0 (some n0)) 1 (some n1)))))))] ++ bS G u0) ++ bS G u1) ++ bS G u2)) H := hP
  have hD : va_D A ((q, .inr (0, [.ref q1, .int 0, .int 0])) :: ((([(q1, .inl (gO G, 5, .inr (.inr (.inr (.inr (va_up (va_up no5 0 (some n0)) 1 (some n1)))))))] ++ bS G u0) ++ bS G u1) ++ bS G u2)) := hD
  refine va_astq (r := (RX2, TX2, 7)) (v := n2) (vs := [.ref (u2 1), .ref (u2 3), .ref (u2 5), .ref (u2 7), .int 0, .int 60, .int 50]) hx hb hK hP hD hS 1 1 20 2 rfl rfl (by rw [← hw2]; rfl) rfl (i := 2) (pk_in 2 5 (by decide)) dX0_init_35 (fun H locs hP hD hS => ?_)
  have hP : va_P (gD G) vwCl ((q, .inr (0, [.ref q1, .int 0, .int 0])) :: ((([(q1, .inl (gO G, 5, .inr (.inr (.inr (.inr (va_up (va_up (va_up no5 0 (some n0)) 1 (some n1)) 2 (some n2)))))))] ++ bS G u0) ++ bS G u1) ++ bS G u2)) H := hP
  have hD : va_D A ((q, .inr (0, [.ref q1, .int 0, .int 0])) :: ((([(q1, .inl (gO G, 5, .inr (.inr (.inr (.inr (va_up (va_up (va_up no5 0 (some n0)) 1 (some n1)) 2 (some n2)))))))] ++ bS G u0) ++ bS G u1) ++ bS G u2)) := hD
  refine lv_iinc (lv' := [(1, .int 3), (0, .ref q)]) (k := 0) (x := 2) hx hb dX0_init_36 hl rfl (by decide) (by decide) rfl (fun ls hl => ?_)
  refine lv_goto hx hb dX0_init_39 (show ((39 : Nat) : Int) + (-25) = ((14 : Nat) : Int) from by decide) ?_
  refine lv_iload_n hx hb dX0_init_14 rfl (lv_at hl 0 rfl) ?_
  refine lv_aload_n hx hb dX0_init_15 rfl (lv_at hl 1 rfl) ?_
  refine va_get (D := gD G) (cl := vwCl) (ci := 0) (v := .ref q1) (C := RX0) (T := TX0) (N := 3) hx hb hts (by decide +kernel) hown hK hP 0 rfl rfl 0 (by decide) (hts (.fieldLink RX0 11 "BaroRuns$History" "places" "[LBaroRuns$State;") (by decide +kernel)) (fun _ h9 => h9) rfl dX0_init_16 ?_
  refine va_alen (v := 5) hx hb hK hP 1 1 rfl rfl rfl dX0_init_19 ?_
  refine lv_icmp_ge hx hb dX0_init_20 (show ((20 : Nat) : Int) + 22 = ((42 : Nat) : Int) from by decide) (fun h => absurd h (show ¬ (5 : Int32) ≤ 3 from by decide)) (fun _ => ?_)
  refine lv_aload_n hx hb dX0_init_23 rfl (lv_at hl 1 rfl) ?_
  refine va_get (D := gD G) (cl := vwCl) (ci := 0) (v := .ref q1) (C := RX0) (T := TX0) (N := 3) hx hb hts (by decide +kernel) hown hK hP 0 rfl rfl 0 (by decide) (hts (.fieldLink RX0 11 "BaroRuns$History" "places" "[LBaroRuns$State;") (by decide +kernel)) (fun _ h9 => h9) rfl dX0_init_24 ?_
  refine lv_iload_n hx hb dX0_init_27 rfl (lv_at hl 0 rfl) ?_
  refine va_new (D := gD G) (cl := vwCl) (ci := 2) (fs := [.null, .null, .null, .null, .int 0, .int 0, .int 0]) (C := RX2) (T := TX2) (N := 7) hx hb hts (by decide +kernel) tyX2 tyX2_ok hown (hts (.classLink RX0 9 RX2) (by decide +kernel)) (hts (.instantiable RX2 7) (by decide +kernel)) (hts (.initialized RX2) (by decide +kernel)) hK hP hD hS hA rfl dfX2 (Nat.le_of_ble_eq_true rfl) (Nat.le_of_ble_eq_true rfl) dX0_init_28 (fun n3 H hP hD hS => ?_)
  have hP : va_P (gD G) vwCl (((q, .inr (0, [.ref q1, .int 0, .int 0])) :: ((([(q1, .inl (gO G, 5, .inr (.inr (.inr (.inr (va_up (va_up (va_up no5 0 (some n0)) 1 (some n1)) 2 (some n2)))))))] ++ bS G u0) ++ bS G u1) ++ bS G u2)) ++ [(n3, .inr (2, [.null, .null, .null, .null, .int 0, .int 0, .int 0]))]) H := hP
  have hD : va_D A (((q, .inr (0, [.ref q1, .int 0, .int 0])) :: ((([(q1, .inl (gO G, 5, .inr (.inr (.inr (.inr (va_up (va_up (va_up no5 0 (some n0)) 1 (some n1)) 2 (some n2)))))))] ++ bS G u0) ++ bS G u1) ++ bS G u2)) ++ [(n3, .inr (2, [.null, .null, .null, .null, .int 0, .int 0, .int 0]))]) := hD
  refine lv_dup hx hb dX0_init_31 rfl ?_
  have hF3 := freeA (W := ((q, .inr (0, [.ref q1, .int 0, .int 0])) :: ((([(q1, .inl (gO G, 5, .inr (.inr (.inr (.inr (va_up (va_up (va_up no5 0 (some n0)) 1 (some n1)) 2 (some n2)))))))] ++ bS G u0) ++ bS G u1) ++ bS G u2))) hD hS hA
  have hPc3 := lastP (W := ((q, .inr (0, [.ref q1, .int 0, .int 0])) :: ((([(q1, .inl (gO G, 5, .inr (.inr (.inr (.inr (va_up (va_up (va_up no5 0 (some n0)) 1 (some n1)) 2 (some n2)))))))] ++ bS G u0) ++ bS G u1) ++ bS G u2))) hP
  refine va_callv (va_runI (As := []) (rest := [.ref n3, .int 3, .ref q1]) ⟨hx, hb, hml, hown, hts⟩ (iX2 l G n3 H.size) (cwI 0 hts gX0_init_X2_init rfl rfl rfl (hts (.initialized RX2) (by decide +kernel)) (hts (.methodLink RX0 17 yX2_init) (by decide +kernel)) (hts (.instanceMethod yX2_init) (by decide +kernel)) rfl (by decide +kernel) ⟨(Nat.le_of_ble_eq_true rfl), (Nat.le_of_ble_eq_true rfl)⟩) ⟨fun a U g mk q => by obtain ⟨q0, q1, qP, qK⟩ := q; exact ⟨q0, q1, qP, va_K.moved (u := U) (U := U.calling g mk a) (Vm.Alike.refl U.vm) qK⟩, fun U hU hW => ⟨rfl, by rw [hU], by rw [hU]; exact hPc3, va_K.moved hW.alike hK⟩⟩ rfl rfl hl.1 rfl (lv_room (Nat.le_of_ble_eq_true rfl)) dX0_init_32 ⟨(Nat.le_of_ble_eq_true rfl), (Nat.le_of_ble_eq_true rfl)⟩) hS (fun q _ h => hF3 q h) hF3 (fun u3 t H1 locs ht hvm hw hB hz1 hk1 hS => ?_)
  obtain ⟨hP1, hD1⟩ := hB
  rw [ht] at hP1
  obtain ⟨hP, hD⟩ := joinA (W := ((q, .inr (0, [.ref q1, .int 0, .int 0])) :: ((([(q1, .inl (gO G, 5, .inr (.inr (.inr (.inr (va_up (va_up (va_up no5 0 (some n0)) 1 (some n1)) 2 (some n2)))))))] ++ bS G u0) ++ bS G u1) ++ bS G u2))) hP hD hk1 hF3 hP1 hD1
  have hw3 : u3 0 = n3 := hw
  generalize H1 = H at hP hS ⊢
  have hP : va_P (gD G) vwCl ((q, .inr (0, [.ref q1, .int 0, .int 0])) :: (((([(q1, .inl (gO G, 5, .inr (.inr (.inr (.inr (va_up (va_up (va_up no5 0 (some n0)) 1 (some n1)) 2 (some n2)))))))] ++ bS G u0) ++ bS G u1) ++ bS G u2) ++ bS G u3)) H := hP
  have hD : va_D A ((q, .inr (0, [.ref q1, .int 0, .int 0])) :: (((([(q1, .inl (gO G, 5, .inr (.inr (.inr (.inr (va_up (va_up (va_up no5 0 (some n0)) 1 (some n1)) 2 (some n2)))))))] ++ bS G u0) ++ bS G u1) ++ bS G u2) ++ bS G u3)) := hD
  refine va_astq (r := (RX2, TX2, 7)) (v := n3) (vs := [.ref (u3 1), .ref (u3 3), .ref (u3 5), .ref (u3 7), .int 0, .int 60, .int 50]) hx hb hK hP hD hS 1 1 29 2 rfl rfl (by rw [← hw3]; rfl) rfl (i := 3) (pk_in 3 5 (by decide)) dX0_init_35 (fun H locs hP hD hS => ?_)
  have hP : va_P (gD G) vwCl ((q, .inr (0, [.ref q1, .int 0, .int 0])) :: (((([(q1, .inl (gO G, 5, .inr (.inr (.inr (.inr (va_up (va_up (va_up (va_up no5 0 (some n0)) 1 (some n1)) 2 (some n2)) 3 (some n3)))))))] ++ bS G u0) ++ bS G u1) ++ bS G u2) ++ bS G u3)) H := hP
  have hD : va_D A ((q, .inr (0, [.ref q1, .int 0, .int 0])) :: (((([(q1, .inl (gO G, 5, .inr (.inr (.inr (.inr (va_up (va_up (va_up (va_up no5 0 (some n0)) 1 (some n1)) 2 (some n2)) 3 (some n3)))))))] ++ bS G u0) ++ bS G u1) ++ bS G u2) ++ bS G u3)) := hD
  refine lv_iinc (lv' := [(1, .int 4), (0, .ref q)]) (k := 0) (x := 3) hx hb dX0_init_36 hl rfl (by decide) (by decide) rfl (fun ls hl => ?_)
  refine lv_goto hx hb dX0_init_39 (show ((39 : Nat) : Int) + (-25) = ((14 : Nat) : Int) from by decide) ?_
  refine lv_iload_n hx hb dX0_init_14 rfl (lv_at hl 0 rfl) ?_
  refine lv_aload_n hx hb dX0_init_15 rfl (lv_at hl 1 rfl) ?_
  refine va_get (D := gD G) (cl := vwCl) (ci := 0) (v := .ref q1) (C := RX0) (T := TX0) (N := 3) hx hb hts (by decide +kernel) hown hK hP 0 rfl rfl 0 (by decide) (hts (.fieldLink RX0 11 "BaroRuns$History" "places" "[LBaroRuns$State;") (by decide +kernel)) (fun _ h9 => h9) rfl dX0_init_16 ?_
  refine va_alen (v := 5) hx hb hK hP 1 1 rfl rfl rfl dX0_init_19 ?_
  refine lv_icmp_ge hx hb dX0_init_20 (show ((20 : Nat) : Int) + 22 = ((42 : Nat) : Int) from by decide) (fun h => absurd h (show ¬ (5 : Int32) ≤ 4 from by decide)) (fun _ => ?_)
  refine lv_aload_n hx hb dX0_init_23 rfl (lv_at hl 1 rfl) ?_
  refine va_get (D := gD G) (cl := vwCl) (ci := 0) (v := .ref q1) (C := RX0) (T := TX0) (N := 3) hx hb hts (by decide +kernel) hown hK hP 0 rfl rfl 0 (by decide) (hts (.fieldLink RX0 11 "BaroRuns$History" "places" "[LBaroRuns$State;") (by decide +kernel)) (fun _ h9 => h9) rfl dX0_init_24 ?_
  refine lv_iload_n hx hb dX0_init_27 rfl (lv_at hl 0 rfl) ?_
  refine va_new (D := gD G) (cl := vwCl) (ci := 2) (fs := [.null, .null, .null, .null, .int 0, .int 0, .int 0]) (C := RX2) (T := TX2) (N := 7) hx hb hts (by decide +kernel) tyX2 tyX2_ok hown (hts (.classLink RX0 9 RX2) (by decide +kernel)) (hts (.instantiable RX2 7) (by decide +kernel)) (hts (.initialized RX2) (by decide +kernel)) hK hP hD hS hA rfl dfX2 (Nat.le_of_ble_eq_true rfl) (Nat.le_of_ble_eq_true rfl) dX0_init_28 (fun n4 H hP hD hS => ?_)
  have hP : va_P (gD G) vwCl (((q, .inr (0, [.ref q1, .int 0, .int 0])) :: (((([(q1, .inl (gO G, 5, .inr (.inr (.inr (.inr (va_up (va_up (va_up (va_up no5 0 (some n0)) 1 (some n1)) 2 (some n2)) 3 (some n3)))))))] ++ bS G u0) ++ bS G u1) ++ bS G u2) ++ bS G u3)) ++ [(n4, .inr (2, [.null, .null, .null, .null, .int 0, .int 0, .int 0]))]) H := hP
  have hD : va_D A (((q, .inr (0, [.ref q1, .int 0, .int 0])) :: (((([(q1, .inl (gO G, 5, .inr (.inr (.inr (.inr (va_up (va_up (va_up (va_up no5 0 (some n0)) 1 (some n1)) 2 (some n2)) 3 (some n3)))))))] ++ bS G u0) ++ bS G u1) ++ bS G u2) ++ bS G u3)) ++ [(n4, .inr (2, [.null, .null, .null, .null, .int 0, .int 0, .int 0]))]) := hD
  refine lv_dup hx hb dX0_init_31 rfl ?_
  have hF4 := freeA (W := ((q, .inr (0, [.ref q1, .int 0, .int 0])) :: (((([(q1, .inl (gO G, 5, .inr (.inr (.inr (.inr (va_up (va_up (va_up (va_up no5 0 (some n0)) 1 (some n1)) 2 (some n2)) 3 (some n3)))))))] ++ bS G u0) ++ bS G u1) ++ bS G u2) ++ bS G u3))) hD hS hA
  have hPc4 := lastP (W := ((q, .inr (0, [.ref q1, .int 0, .int 0])) :: (((([(q1, .inl (gO G, 5, .inr (.inr (.inr (.inr (va_up (va_up (va_up (va_up no5 0 (some n0)) 1 (some n1)) 2 (some n2)) 3 (some n3)))))))] ++ bS G u0) ++ bS G u1) ++ bS G u2) ++ bS G u3))) hP
  refine va_callv (va_runI (As := []) (rest := [.ref n4, .int 4, .ref q1]) ⟨hx, hb, hml, hown, hts⟩ (iX2 l G n4 H.size) (cwI 0 hts gX0_init_X2_init rfl rfl rfl (hts (.initialized RX2) (by decide +kernel)) (hts (.methodLink RX0 17 yX2_init) (by decide +kernel)) (hts (.instanceMethod yX2_init) (by decide +kernel)) rfl (by decide +kernel) ⟨(Nat.le_of_ble_eq_true rfl), (Nat.le_of_ble_eq_true rfl)⟩) ⟨fun a U g mk q => by obtain ⟨q0, q1, qP, qK⟩ := q; exact ⟨q0, q1, qP, va_K.moved (u := U) (U := U.calling g mk a) (Vm.Alike.refl U.vm) qK⟩, fun U hU hW => ⟨rfl, by rw [hU], by rw [hU]; exact hPc4, va_K.moved hW.alike hK⟩⟩ rfl rfl hl.1 rfl (lv_room (Nat.le_of_ble_eq_true rfl)) dX0_init_32 ⟨(Nat.le_of_ble_eq_true rfl), (Nat.le_of_ble_eq_true rfl)⟩) hS (fun q _ h => hF4 q h) hF4 (fun u4 t H1 locs ht hvm hw hB hz1 hk1 hS => ?_)
  obtain ⟨hP1, hD1⟩ := hB
  rw [ht] at hP1
  obtain ⟨hP, hD⟩ := joinA (W := ((q, .inr (0, [.ref q1, .int 0, .int 0])) :: (((([(q1, .inl (gO G, 5, .inr (.inr (.inr (.inr (va_up (va_up (va_up (va_up no5 0 (some n0)) 1 (some n1)) 2 (some n2)) 3 (some n3)))))))] ++ bS G u0) ++ bS G u1) ++ bS G u2) ++ bS G u3))) hP hD hk1 hF4 hP1 hD1
  have hw4 : u4 0 = n4 := hw
  generalize H1 = H at hP hS ⊢
  have hP : va_P (gD G) vwCl ((q, .inr (0, [.ref q1, .int 0, .int 0])) :: ((((([(q1, .inl (gO G, 5, .inr (.inr (.inr (.inr (va_up (va_up (va_up (va_up no5 0 (some n0)) 1 (some n1)) 2 (some n2)) 3 (some n3)))))))] ++ bS G u0) ++ bS G u1) ++ bS G u2) ++ bS G u3) ++ bS G u4)) H := hP
  have hD : va_D A ((q, .inr (0, [.ref q1, .int 0, .int 0])) :: ((((([(q1, .inl (gO G, 5, .inr (.inr (.inr (.inr (va_up (va_up (va_up (va_up no5 0 (some n0)) 1 (some n1)) 2 (some n2)) 3 (some n3)))))))] ++ bS G u0) ++ bS G u1) ++ bS G u2) ++ bS G u3) ++ bS G u4)) := hD
  refine va_astq (r := (RX2, TX2, 7)) (v := n4) (vs := [.ref (u4 1), .ref (u4 3), .ref (u4 5), .ref (u4 7), .int 0, .int 60, .int 50]) hx hb hK hP hD hS 1 1 38 2 rfl rfl (by rw [← hw4]; rfl) rfl (i := 4) (pk_in 4 5 (by decide)) dX0_init_35 (fun H locs hP hD hS => ?_)
  have hP : va_P (gD G) vwCl ((q, .inr (0, [.ref q1, .int 0, .int 0])) :: ((((([(q1, .inl (gO G, 5, .inr (.inr (.inr (.inr (va_up (va_up (va_up (va_up (va_up no5 0 (some n0)) 1 (some n1)) 2 (some n2)) 3 (some n3)) 4 (some n4)))))))] ++ bS G u0) ++ bS G u1) ++ bS G u2) ++ bS G u3) ++ bS G u4)) H := hP
  have hD : va_D A ((q, .inr (0, [.ref q1, .int 0, .int 0])) :: ((((([(q1, .inl (gO G, 5, .inr (.inr (.inr (.inr (va_up (va_up (va_up (va_up (va_up no5 0 (some n0)) 1 (some n1)) 2 (some n2)) 3 (some n3)) 4 (some n4)))))))] ++ bS G u0) ++ bS G u1) ++ bS G u2) ++ bS G u3) ++ bS G u4)) := hD
  refine lv_iinc (lv' := [(1, .int 5), (0, .ref q)]) (k := 0) (x := 4) hx hb dX0_init_36 hl rfl (by decide) (by decide) rfl (fun ls hl => ?_)
  refine lv_goto hx hb dX0_init_39 (show ((39 : Nat) : Int) + (-25) = ((14 : Nat) : Int) from by decide) ?_
  refine lv_iload_n hx hb dX0_init_14 rfl (lv_at hl 0 rfl) ?_
  refine lv_aload_n hx hb dX0_init_15 rfl (lv_at hl 1 rfl) ?_
  refine va_get (D := gD G) (cl := vwCl) (ci := 0) (v := .ref q1) (C := RX0) (T := TX0) (N := 3) hx hb hts (by decide +kernel) hown hK hP 0 rfl rfl 0 (by decide) (hts (.fieldLink RX0 11 "BaroRuns$History" "places" "[LBaroRuns$State;") (by decide +kernel)) (fun _ h9 => h9) rfl dX0_init_16 ?_
  refine va_alen (v := 5) hx hb hK hP 1 1 rfl rfl rfl dX0_init_19 ?_
  refine lv_icmp_ge hx hb dX0_init_20 (show ((20 : Nat) : Int) + 22 = ((42 : Nat) : Int) from by decide) (fun _ => ?_) (fun h => absurd (show (5 : Int32) ≤ 5 from by decide) h)
  have hB : ((q, .inr (0, [.ref q1, .int 0, .int 0])) :: ((((([(q1, .inl (gO G, 5, .inr (.inr (.inr (.inr (va_up (va_up (va_up (va_up (va_up no5 0 (some n0)) 1 (some n1)) 2 (some n2)) 3 (some n3)) 4 (some n4)))))))] ++ bS G u0) ++ bS G u1) ++ bS G u2) ++ bS G u3) ++ bS G u4)) = bH G (pcs [(1, fun _ => q), (1, fun _ => q1), (9, u0), (9, u1), (9, u2), (9, u3), (9, u4)]) := by
    rw [← hw0, ← hw1, ← hw2, ← hw3, ← hw4]
    rfl
  rw [hB] at hP hD
  exact W.vret hx hb hr (fun t ht hW => ⟨⟨pcs [(1, fun _ => q), (1, fun _ => q1), (9, u0), (9, u1), (9, u2), (9, u3), (9, u4)], rfl, rfl, by rw [ht]; exact hP, hD⟩, hS.F ht⟩) hS.2.2 dX0_init_42
