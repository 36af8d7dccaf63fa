/-! constructors: a block of cells comes to the end of the arena -/
theorem nd_range : ∀ (n k : Nat), va_nd (List.range' k n) = true
  | 0, k => rfl
  | n + 1, k => by
    rw [List.range'_succ]
    show (decide (k ∉ List.range' (k + 1) n) && va_nd (List.range' (k + 1) n)) = true
    rw [nd_range n (k + 1), Bool.and_true, decide_eq_true_eq]
    intro h
    have := (List.mem_range'_1.mp h).1
    omega
theorem joinA {A0 : Nat → Prop} {D : va_G} {cl : List vw_C} {W w1 : va_W} {x : Nat × va_E} {H H1 : Heap} (hP : va_P D cl (W ++ [x]) H) (hD : va_D A0 (W ++ [x])) (hk : ∀ q : Nat, q < H.size → ¬ va_A [x] H.size q → H1[q]? = H[q]?) (hF : ∀ q, va_A [x] H.size q → A0 q) (hP1 : va_P D cl w1 H1) (hD1 : va_D (va_A [x] H.size) w1) : va_P D cl (W ++ w1) H1 ∧ va_D A0 (W ++ w1) := by
  refine va_join (ws := W ++ [x]) (wc := [x]) (wr := W) hP hD [W.length] (List.range' 0 W.length) ?_ ?_ (nd_range _ _) ?_ hk hF hP1 hD1
  · simp
  · apply List.ext_getElem?
    intro k
    rw [List.getElem?_map, List.getElem?_map]
    rcases Nat.lt_or_ge k W.length with h | h
    · rw [List.getElem?_range' h, List.getElem?_eq_getElem h]
      show some ((W ++ [x])[0 + 1 * k]?) = some (some W[k])
      rw [Nat.zero_add, Nat.one_mul, List.getElem?_append_left h, List.getElem?_eq_getElem h]
    · rw [List.getElem?_eq_none (by simp; exact h), List.getElem?_eq_none h]
      rfl
  · intro i hi
    have := (List.mem_range'_1.mp hi).2
    simp
    omega
theorem freeA {A0 : Nat → Prop} {W : va_W} {x : Nat × va_E} {H0 H : Heap} {locs : List Loc} (hD : va_D A0 (W ++ [x])) (hS : va_S A0 H0 H locs) (hA : ∀ q, H0.size ≤ q → A0 q) : ∀ q, va_A [x] H.size q → A0 q := va_free hD hS hA [W.length] (by simp)
theorem lastP {D : va_G} {cl : List vw_C} {W : va_W} {x : Nat × va_E} {H : Heap} (hP : va_P D cl (W ++ [x]) H) : va_P D cl [x] H := hP.sub (ws' := [x]) [W.length] (by simp)
section CO
variable {p : Program} {l : Launch} {e : Env} {R : Room} {s : State} {m : MethodId} {args : Array Value} {below : List Frame} {meth : Method} {c : Code} {H H0 : Heap} {locs : List Loc} {cells slots : Nat} {Q : State → Prop} {pc : Nat} {ls : Array Slot} {rest : List Value} {A : Nat → Prop} {ws : va_W} {cc : ByteArray} {G : wG}
theorem cI_of {cA : ClassId} (hK : va_K (gD G) vwCl (wt G ++ [(cA, .int)]) s) : cA = gI G := by
  have h0 : s.vm.findClass ("[" ++ (FieldType.int).toString) = some (gI G) := (hK.2 0 _ rfl).2
  have h4 : s.vm.findClass ("[" ++ (FieldType.int).toString) = some cA := (hK.2 2 _ rfl).2
  exact Option.some.inj (h4.symm.trans h0)
def zI : Nat → Int32 := fun _ => 0
theorem cv_newI {n : Int32} (N : Nat) (hexec : p.tables.exec = Jvm.exec) (hb : c.code = cc) (harr : (Cond.arrayClass .int).before args s = true) (hK : va_K (gD G) vwCl (wt G) s) (hP : va_P (gD G) vwCl ws H) (hD : va_D A ws) (hS : va_S A H0 H locs) (hA : ∀ q, H0.size ≤ q → A q) (hn : ¬ n < 0) (hN : n.toNatClampNeg = N) (hbytes : N * componentBytes .int ≤ 536870912) (hcells : cells + 1 ≤ R.cells) (hslots : slots + N ≤ R.slots) (hdg : decode cc pc = .ok (.newarray .int, 2))
    (kk : ∀ (q : Nat) (H1 : Heap), va_P (gD G) vwCl (ws ++ [(q, .inl (gI G, N, .inl zI))]) H1 → va_D A (ws ++ [(q, .inl (gI G, N, .inl zI))]) → va_S A H0 H1 locs → W p l e R s m args below meth c H1 locs (cells + 1) (slots + N) Q (F0 m (pc + 2) ls (.ref q :: rest))) : W p l e R s m args below meth c H locs cells slots Q (F0 m pc ls (.int n :: rest)) :=
  va_newa (atype := .int) (ty := .int) (a0 := (N, .inl zI)) hexec hb harr rfl hK hP hD hS hA (fun _ => rfl) hn hN hbytes hcells hslots hdg (fun q cA H1 hK1 hP1 hD1 hS1 => by
    have e := cI_of hK1
    subst e
    exact kk q H1 hP1 hD1 hS1)
end CO
/-- what a constructor leaves: its object's block, at addresses of which the first is the object's -/
def iV (l : Launch) (y : MethodName) (ws : List Cond) (rm : Room) (G : wG) (As : List Value) (e0 : va_E) (B : (Nat → Nat) → va_W) (mc ms : Nat) : Prop := ∀ (q sz : Nat), Met l y ws rm (va_Pc (.ref q :: As) (fun U => U.heap.size = sz ∧ va_P (gD G) vwCl [(q, e0)] U.heap ∧ va_K (gD G) vwCl (wt G) U)) (va_Qv (fun u : Nat → Nat => u 0 = q) (fun u t => va_P (gD G) vwCl (B u) t.heap ∧ va_D (va_A [(q, e0)] sz) (B u)) (va_A [(q, e0)] sz)) mc ms (va_A [(q, e0)] sz)
def bT (G : wG) (room : Int32) (a : Nat → Nat) : va_W := [(a 0, .inr (5, [.ref (a 1), .int room, .int 0])), (a 1, .inl (gI G, 80, .inl zI))]
def ad2 (x y : Nat) : Nat → Nat := fun i => if i = 0 then x else y
set_option maxHeartbeats 4000000 in
set_option maxRecDepth 100000 in
theorem iX5 (l : Launch) (G : wG) (room : Int32) : iV l yX5_init wsX5_init { frames := 1, cells := 1, slots := 80, locals := 24 } G [.int room] (.inr (5, [.null, .int 0, .int 0])) (bT G (if 20 < room then 20 else room)) 1 80 := by
  intro q sz
  refine Met.ofW (cc := cX5_init) (maxL := 2) (ret := none) (by decide) rfl ?_
  intro p e s m args below meth c s₁ B hml hv
  obtain ⟨rfl, hsz, hP, hK⟩ := hv
  have hx := B.exec
  have hb := B.bytes
  have hr := B.returns
  have hts := atoms_spec (ws := wsX5_init) B.pre
  have hown : s.vm.findClass RX5 = some m.cls := findClass_of_methodNamed B.named
  have hin : meth.name = "<init>" := (name_of_methodNamed B.named B.method).1
  subst hsz
  have hD : va_D (va_A [(q, .inr (5, [.null, .int 0, .int 0]))] s.heap.size) [(q, .inr (5, [.null, .int 0, .int 0]))] := ⟨fun i j p q hi hj _ => by
    have h1 := (List.getElem?_eq_some_iff.mp hi).1
    have h2 := (List.getElem?_eq_some_iff.mp hj).1
    simp at h1 h2
    omega, fun k q hk => Or.inl ⟨k, q.2, hk⟩⟩
  generalize hAe : va_A [(q, .inr (5, [.null, .int 0, .int 0]))] s.heap.size = A at hD ⊢
  have hA : ∀ q : Nat, s.heap.size ≤ q → A q := fun q h => by rw [← hAe]; exact Or.inr h
  have hS : va_S A s.heap s.heap [] := va_S.rf
  have hl := lv_entry ([.ref q, .int room]) (n := 2) (Nat.le_of_ble_eq_true rfl)
  rw [lg_entry_eq]
  generalize (lg_sl ([.ref q, .int room]) ++ List.replicate (2 - (lg_sl ([.ref q, .int room])).length) Slot.unset).toArray = ls at hl ⊢
  have hl : lv_has ls 2 [(0, .ref q), (1, .int room)] := hl
  refine lv_aload_n hx hb dX5_init_0 rfl (lv_at hl 0 rfl) ?_
  refine W.objInit hx hb hown (hts (.methodLink RX5 3 objectInit) (by decide +kernel)) (hts (.instanceMethod objectInit) (by decide +kernel)) (hts _ (List.mem_cons_of_mem _ (List.mem_append_left _ (List.mem_of_getElem? (i := 2) rfl)))) rfl (by rw [hml]; exact hl.1) rfl dX5_init_1 (Nat.le_of_ble_eq_true rfl) (Nat.le_of_ble_eq_true rfl) ?_
  refine W.eq (g2 := F0 m 4 ls []) rfl ?_
  refine lv_aload_n hx hb dX5_init_4 rfl (lv_at hl 0 rfl) ?_
  refine lv_bipush (v := 80) hx hb dX5_init_5 (by decide) ?_
  refine cv_newI (G := G) 80 hx hb (hts (.arrayClass .int) (by decide +kernel)) hK hP hD hS hA (by decide) (by decide) (by decide) (Nat.le_of_ble_eq_true rfl) (Nat.le_of_ble_eq_true rfl) dX5_init_7 (fun q2 H hP hD hS => ?_)
  have hP : va_P (gD G) vwCl [(q, .inr (5, [.null, .int 0, .int 0])), (q2, .inl (gI G, 80, .inl zI))] H := hP
  have hD : va_D A [(q, .inr (5, [.null, .int 0, .int 0])), (q2, .inl (gI G, 80, .inl zI))] := hD
  refine va_putF (D := gD G) (cl := vwCl) (ci := 5) (v := .ref q2) (ty := .array .int) (C := RX5) (T := TX5) (N := 3) hx hb hts (by decide +kernel) tyX5 tyX5_ok nmX5 hown hK hP hD hS 0 rfl rfl 0 (by decide) (hts (.fieldLink RX5 9 "BaroRuns$Track" "values" "[I") (by decide +kernel)) (fun _ h9 => h9) rfl hin rfl (by decide +kernel) rfl rfl (Nat.le_of_ble_eq_true rfl) dX5_init_9 (fun H locs hP hD hS => ?_)
  have hP : va_P (gD G) vwCl [(q, .inr (5, [.ref q2, .int 0, .int 0])), (q2, .inl (gI G, 80, .inl zI))] H := hP
  have hD : va_D A [(q, .inr (5, [.ref q2, .int 0, .int 0])), (q2, .inl (gI G, 80, .inl zI))] := hD
  refine lv_aload_n hx hb dX5_init_12 rfl (lv_at hl 0 rfl) ?_
  refine lv_iload_n hx hb dX5_init_13 rfl (lv_at hl 1 rfl) ?_
  refine lv_bipush (v := 20) hx hb dX5_init_14 (by decide) ?_
  refine va_mmin hx hb (hml.trans hl.1.symm) hown (hts (.methodLink RX5 15 Lib.Math.min.name) (by decide +kernel)) (hts (.static Lib.Math.min.name) (by decide +kernel)) (hts (.initialized "java/lang/Math") (by decide +kernel)) (hts (.code Lib.Math.min.name Lib.Math.min.code 2 (some .int)) (by decide +kernel)) (Nat.le_of_ble_eq_true rfl) (Nat.le_of_ble_eq_true rfl) (Nat.le_of_ble_eq_true rfl) (Nat.le_of_ble_eq_true rfl) dX5_init_16 ?_
  refine va_putF (D := gD G) (cl := vwCl) (ci := 5) (v := .int (if 20 < room then 20 else room)) (ty := .int) (C := RX5) (T := TX5) (N := 3) hx hb hts (by decide +kernel) tyX5 tyX5_ok nmX5 hown hK hP hD hS 0 rfl rfl 1 (by decide) (hts (.fieldLink RX5 21 "BaroRuns$Track" "room" "I") (by decide +kernel)) (fun _ h9 => h9) rfl hin rfl (by decide +kernel) rfl rfl (Nat.le_of_ble_eq_true rfl) dX5_init_19 (fun H locs hP hD hS => ?_)
  have hP : va_P (gD G) vwCl (bT G (if 20 < room then 20 else room) (ad2 q q2)) H := hP
  have hD : va_D A (bT G (if 20 < room then 20 else room) (ad2 q q2)) := hD
  exact W.vret hx hb hr (fun t ht hW => ⟨⟨ad2 q q2, rfl, rfl, by rw [ht]; exact hP, hD⟩, hS.F ht⟩) hS.2.2 dX5_init_22
