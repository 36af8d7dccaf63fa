/-! the law's cell: a look at the script, or a number of its own -/
abbrev rmL_cell : Room := { frames := 0, cells := 0, slots := 0, locals := 0 }
theorem mbL_cell_7 : Cond.constant RL 7 15485959 ∈ wsL_cell := List.mem_cons_of_mem _ (List.mem_of_getElem? (i := 0) rfl)
theorem mbL_cell_8 : Cond.constant RL 8 2147483647 ∈ wsL_cell := List.mem_cons_of_mem _ (List.mem_of_getElem? (i := 1) rfl)
set_option maxHeartbeats 4000000 in
set_option maxRecDepth 100000 in
theorem kL_cell (l : Launch) {b L : Nat} {xs : Nat → Int32} {k : Int32} (hL : L ≤ 260) (hk : ¬ k < 0) : Met l yL_cell wsL_cell rmL_cell (va_Pc [.ref b, .int k] (fun U => va_X b L xs U U.heap ∧ b < U.heap.size)) (va_Qi (fun r (_ : Unit) => r = cellV L xs k) (fun _ _ => True) (fun _ => False)) 0 0 (fun _ => False) := by
  refine wMetF (cc := cL_cell) (maxL := 2) (ret := some .int) (plainFor_of_name (by decide +kernel)) rfl ?_
  intro p e s m args below meth c s₁ B hml hv
  obtain ⟨rfl, hX, hbl⟩ := hv
  have hx := B.exec
  have hb := B.bytes
  have hr := B.returns
  have hlk := B.notSynchronized
  have hts := atoms_spec (ws := wsL_cell) B.pre
  have hown : s.vm.findClass RL = some m.cls := findClass_of_methodNamed B.named
  have hS : va_S (fun _ : Nat => False) s.heap s.heap [] := va_S.rf
  have hno : ¬ (fun _ : Nat => False) b := fun h => h
  have hl := lv_entry ([.ref b, .int k]) (n := 2) (Nat.le_of_ble_eq_true rfl)
  rw [lg_entry_eq]
  generalize (lg_sl ([.ref b, .int k]) ++ List.replicate (2 - (lg_sl ([.ref b, .int k])).length) Slot.unset).toArray = ls at hl ⊢
  have hl : lv_has ls 2 [(0, .ref b), (1, .int k)] := hl
  have tail : ∀ v : Int32, v = (if k < Int32.ofNat L then xs k.toNatClampNeg else 15485959 * k + 109) → W p l e (headSpec wsL_cell rmL_cell).room s m ([.ref b, .int k] : List Value).toArray below meth c s.heap [] 0 0 (MQ below (va_Qi (fun r (_ : Unit) => r = cellV L xs k) (fun _ _ => True) (fun _ => False)) ([.ref b, .int k] : List Value).toArray s 0 0 (fun _ => False)) (F0 m 19 ls [.int v]) := fun v hv => by
    refine lv_ldc hx hb hown (hts _ mbL_cell_8) dL_cell_19 ?_
    refine lv_iand hx hb dL_cell_21 ?_
    exact W.iret hx hb hr (fun t ht hW => ⟨⟨_, (), rfl, by unfold cellV; rw [hv], trivial⟩, hS.F ht⟩) hS.2.2 dL_cell_22 hlk
  refine lv_iload_n hx hb dL_cell_0 rfl (lv_at hl 1 rfl) ?_
  refine lv_aload_n hx hb dL_cell_1 rfl (lv_at hl 0 rfl) ?_
  refine va_slen hx hb hX hbl hno hS dL_cell_2 ?_
  refine lv_icmp_ge hx hb (tgt := 12) dL_cell_3 (by decide) (fun c1 => ?_) (fun c1 => ?_)
  · refine lv_ldc hx hb hown (hts _ mbL_cell_7) dL_cell_12 ?_
    refine lv_iload_n hx hb dL_cell_14 rfl (lv_at hl 1 rfl) ?_
    refine lv_imul hx hb dL_cell_15 ?_
    refine lv_bipush (v := 109) hx hb dL_cell_16 (by decide) ?_
    refine lv_iadd hx hb dL_cell_18 ?_
    exact tail _ (by rw [if_neg (Int32.not_lt.mpr c1)])
  · have hin : vp_in k L := by
      rcases pk_ix k (n := L) (by omega) with q | q | ⟨j, hj, rfl⟩
      · exact absurd q hk
      · exact absurd q c1
      · exact pk_in j L hj rfl (by omega)
    refine lv_aload_n hx hb dL_cell_6 rfl (lv_at hl 0 rfl) ?_
    refine lv_iload_n hx hb dL_cell_7 rfl (lv_at hl 1 rfl) ?_
    refine va_sld hx hb hX hbl hno hS hin dL_cell_8 ?_
    refine lv_goto hx hb (tgt := 19) dL_cell_9 (by decide) ?_
    exact tail _ (by rw [if_pos (Int32.not_le.mp c1)])
theorem cellG_some {L : Nat} {xs : Nat → Int32} {k v : Int32} (h : cellG L xs k = some v) : ¬ k < 0 ∧ v = cellV L xs k := by
  unfold cellG at h
  by_cases c : k < 0
  · rw [if_pos c] at h; cases h
  · rw [if_neg c] at h; cases h; exact ⟨c, rfl⟩
section LCELL
variable {p : Program} {l : Launch} {e : Env} {s : State} {m : MethodId} {below : List Frame} {meth : Method} {c : Code} {Q : State → Prop} {G : wG} {M : wM} {b L : Nat} {xs : Nat → Int32} {cells slots pc : Nat} {lv : List (Nat × Value)} {rest : List Value}
theorem la_cell (hC : wC p m c cL_law 12 s #[Value.ref b] wsL_law RL G) (hX : lX s G b L xs) (hL : L ≤ 260) (hcs : cells ≤ room_1.cells ∧ slots ≤ room_1.slots) {k v : Int32} (hv : cellG L xs k = some v) (hroom : (rest.map fun v => v.category).sum ≤ 8) (hdg : decode cL_law pc = .ok (.invokestatic 55, 3)) (kk : lAt p l e room_1 s m #[Value.ref b] below meth c Q 12 cells slots G M (pc + 3) lv (.int v :: rest)) : lAt p l e room_1 s m #[Value.ref b] below meth c Q 12 cells slots G M pc lv (.int k :: .ref b :: rest) := by
  intro H locs ls hl hR
  obtain ⟨hk, hvv⟩ := cellG_some hv
  have hXH : va_X b L xs s H := hX.1.kept (hR.2.2.1 b hX.2.1 hX.no)
  have hbH : b < H.size := Nat.lt_of_lt_of_le hX.2.1 hR.2.1
  refine va_calli (A0 := wA G s.heap.size) (A1 := fun _ => False) (free := fun _ => False) (va_runS (As := [.ref b, .int k]) (rest := rest) hC.1 (kL_cell l hL hk) (va_cwS 2 hC.1.2.2.2.2 gL_law_L_cell rfl rfl rfl (by decide +kernel) ⟨Nat.le_of_ble_eq_true rfl, Nat.le_of_ble_eq_true rfl⟩) ⟨fun a U g mk q => ⟨q.1, va_X.moved (u := U) (U := U.calling g mk a) (Vm.Alike.refl U.vm) q.2.1, q.2.2⟩, fun U hU hW => ⟨rfl, by rw [hU]; exact va_X.moved hW.alike hXH, by rw [hU]; exact hbH⟩⟩ rfl rfl hl.1 rfl (lv_room hroom) hdg hcs) hR.2 (fun q _ h => h.elim) (fun q h => h.elim) (fun r' u t H1 locs1 ht hvm hw hB hz hk1 hS => ?_)
  have e1 : r' = v := by rw [hvv]; exact hw
  subst e1
  exact kk H1 locs1 ls hl ⟨hR.1.kept (fun i q hq => hk1 q.1 (hR.1 i q hq).lt (fun h => h)), hS⟩
end LCELL
