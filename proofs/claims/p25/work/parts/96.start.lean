/-! the law, from its entry (the head began as kit/laws/SKELETON) -/
/-! THE CLAIM OUT OF ONE WALK OF THE LAW'S BODY. Your part is whole_start (and what it stands on); all else here is the same for every law, but numbers. -/
def R_law : String := "BaroRunsLaw"
def lw_P (b : Addr) (xs : List Int32) (args : Array Value) (s : State) : Prop := args = #[.ref b] ∧ s.IntsAt b xs ∧ xs.length ≤ 260 ∧ (Jvm.Cond.and given_1 narrow_1).before args s = true
def lw_Q (_ : Array Value) (s : State) (o : Outcome) (t : State) : Prop := o = .returned (some (.int 1)) ∧ Framed s o t [] 600000 7302250
def lw_Z (below : List Frame) (a : Array Value) (s : State) : State → Prop := fun t => ∃ o, t.status = .running ∧ Ended t below o ∧ lw_Q a s o t
/-- the law's own end, with 1 on the stack, nothing written that was there before, its room as the claim has it -/
theorem lw_ret {p : Program} {l : Launch} {e : Env} {s : State} {m : MethodId} {below : List Frame} {meth : Method} {c : Code} {b : Nat} (hx : p.tables.exec = Jvm.exec) (hb : c.code = code) (hr : meth.sig.returnType = ret) (hlocks : meth.locks = false) {pc : Nat} {H : Heap} {ls : Array Slot} (hdg : decode code pc = .ok (.ireturn, 1)) : W p l e room_1 s m #[Value.ref b] below meth c H [] 600000 7302250 (lw_Z below #[Value.ref b] s) (F0 m pc ls [.int 1]) := by
  intro T hT X
  obtain ⟨fs, hret, hrun, hended, hW, hframe⟩ := X.leave (v := some (.int 1)) (hlocks := hlocks) (fun h => by rw [hr] at h; cases h)
  have hmeth' : T.vm.method? m = some meth := X.method'
  refine ⟨T.setFrames fs, ?_, .returned (some (.int 1)), hrun, hended, rfl, ⟨_, rfl⟩, hW, hframe⟩
  jvm_step X.here [X.here.top, hx, hb, hdg, hmeth', hr, ret, narrow_b1]
  (try refine ⟨rfl, ?_⟩); (try refine ⟨rfl, ?_⟩)
  first | (intro acts; rw [hret _ acts rfl rfl rfl]) | rw [hret _ _ rfl rfl rfl]
  exact Steps.refl _
/-- what holds at the law's entry: the machine, the code, the tables' words (any of lw_tbl by 'hts w (by decide +kernel)'), the script of L ints xs at the cell b, what the Statement gives of the start (any of its parts by flat_of_before) -/
def lw_At (p : Program) (s : State) (m : MethodId) (meth : Method) (c : Code) (b L : Nat) (xs : Nat → Int32) : Prop :=
  p.tables.exec = Jvm.exec ∧ c.code = code ∧ meth.sig.returnType = ret ∧ c.maxLocals = 12 ∧ s.vm.findClass R_law = some m.cls ∧ (∀ w ∈ lw_tbl, w.before #[Value.ref b] s = true) ∧ va_X b L xs s s.heap ∧ b < s.heap.size ∧ meth.locks = false ∧ (Jvm.Cond.and given_1 narrow_1).before #[Value.ref b] s = true
theorem blocks (G : wG) (u : Nat → Nat) : bB G u = bB (G.1, G.2.1, u) (ga (G.1, G.2.1, u)) := by rfl
set_option maxHeartbeats 4000000 in
set_option maxRecDepth 100000 in
theorem whole_start {p : Program} {e : Env} {s : State} {m : MethodId} {below : List Frame} {meth : Method} {c : Code} (l : Launch) (hflags : l.flags = flags0) {b L : Nat} {xs : Nat → Int32} (hL : L ≤ 260) (C0 : lw_At p s m meth c b L xs) : W p l e room_1 s m #[Value.ref b] below meth c s.heap [] 0 0 (lw_Z below #[Value.ref b] s) (entryFrame m ([Value.ref b] : List Value).toArray 12) := by
  obtain ⟨hx, hb, hr, hml, hown, hts0, hX, hbl, hlocks, hgv⟩ := C0
  have hown : s.vm.findClass RL = some m.cls := hown
  have hts : ∀ w ∈ wsL_law, w.before #[Value.ref b] s = true := fun w hw => hts0 w (wsL_law_in w hw)
  obtain ⟨G, hKa⟩ := K_of hts0
  have hN : wN s := wN_of hts0
  have hAO : va_AO RX2 s := va_AO.of (hts0 _ lw_aO)
  have hK : va_K (gD G) vwCl (wt G) s := hKa G.2.2
  obtain ⟨A, hAe⟩ : ∃ A : Nat → Prop, A = fun q : Nat => s.heap.size ≤ q := ⟨_, rfl⟩
  have hA : ∀ q : Nat, s.heap.size ≤ q → A q := fun q h => by rw [hAe]; exact h
  have hS : va_S A s.heap s.heap [] := va_S.rf
  have hP : va_P (gD G) vwCl [] s.heap := fun k q h => by simp at h
  have hD : va_D A [] := ⟨fun i j p q h => by simp at h, fun k q h => by simp at h⟩
  have hl := lv_entry ([.ref b]) (n := 12) (Nat.le_of_ble_eq_true rfl)
  rw [lg_entry_eq]
  generalize (lg_sl ([.ref b]) ++ List.replicate (12 - (lg_sl ([.ref b])).length) Slot.unset).toArray = ls at hl ⊢
  have hl : lv_has ls 12 [(0, .ref b)] := hl
  refine va_new (D := gD G) (cl := vwCl) (ci := 6) (fs := [.null, .null, .null, .null, .null, .null, .null, .null, .int 0]) (C := RX6) (T := TX6) (N := 9) hx hb hts0 inX6 tyX6 tyX6_ok hown (hts0 _ (wsL_in_r1 _ (List.mem_of_getElem? (i := 0) rfl))) (hts0 _ lw_n6) (hts0 _ (wsL_in_r1 _ (List.mem_of_getElem? (i := 2) rfl))) hK hP hD hS hA rfl dfX6 (Nat.le_of_ble_eq_true rfl) (Nat.le_of_ble_eq_true rfl) dL_law_0 (fun q1 H hP hD hS => ?_)
  have hP : va_P (gD G) vwCl ([] ++ [(q1, .inr (6, [.null, .null, .null, .null, .null, .null, .null, .null, .int 0]))]) H := hP
  have hD : va_D A ([] ++ [(q1, .inr (6, [.null, .null, .null, .null, .null, .null, .null, .null, .int 0]))]) := hD
  refine lv_dup hx hb dL_law_3 rfl ?_
  have hF6 := freeA (W := []) hD hS hA
  have hPc6 := lastP (W := []) hP
  refine va_callv (va_runI (As := []) (rest := [.ref q1]) ⟨hx, hb, hml, hown, hts⟩ (iX6 l G q1 H.size) (cwI 0 hts gL_law_X6_init rfl rfl rfl (hts0 _ (wsL_in_r1 _ (List.mem_of_getElem? (i := 2) rfl))) (hts0 _ (wsL_in_r1 _ (List.mem_of_getElem? (i := 6) rfl))) (hts0 _ (wsL_in_r1 _ (List.mem_of_getElem? (i := 7) rfl))) rfl (by decide +kernel) ⟨(Nat.le_of_ble_eq_true rfl), (Nat.le_of_ble_eq_true rfl)⟩) ⟨fun a U g mk q => by obtain ⟨q0, q1, qP, qK, qO⟩ := q; exact ⟨q0, q1, qP, va_K.moved (u := U) (U := U.calling g mk a) (Vm.Alike.refl U.vm) qK, va_AO.moved (u := U) (U := U.calling g mk a) (Vm.Alike.refl U.vm) qO⟩, fun U hU hW => ⟨rfl, by rw [hU], by rw [hU]; exact hPc6, va_K.moved hW.alike hK, va_AO.moved hW.alike hAO⟩⟩ rfl rfl hl.1 rfl (lv_room (Nat.le_of_ble_eq_true rfl)) dL_law_4 ⟨(Nat.le_of_ble_eq_true rfl), (Nat.le_of_ble_eq_true rfl)⟩) hS (fun q _ h => hF6 q h) hF6 (fun u6 t H1 locs ht hvm hw hB hz1 hk1 hS => ?_)
  obtain ⟨hP1, hD1⟩ := hB
  rw [ht] at hP1
  obtain ⟨hP, hD⟩ := joinA (W := []) hP hD hk1 hF6 hP1 hD1
  have hw6 : u6 0 = q1 := hw
  generalize H1 = H at hP hS ⊢
  have hP : va_P (gD G) vwCl (bB G u6) H := hP
  have hD : va_D A (bB G u6) := hD
  refine lv_astore_n (lv' := [(1, .ref q1), (0, .ref b)]) hx hb dL_law_7 rfl hl (by decide) rfl (fun ls hl => ?_)
  rw [blocks] at hP hD
  have hK := hKa u6
  have hg1 : ga (G.1, G.2.1, u6) 0 = q1 := hw6
  have hPg : va_P (gD (G.1, G.2.1, u6)) vwCl (bB (G.1, G.2.1, u6) (ga (G.1, G.2.1, u6))) H := hP
  generalize (G.1, G.2.1, u6) = G2 at hPg hD hK hg1
  have hW := world_P hPg
  obtain ⟨hgi, hga⟩ := world_D hD
  have hga : ∀ i, i < 96 → s.heap.size ≤ ga G2 i := fun i hi => by have := hga i hi; rw [hAe] at this; exact this
  have hC : wC p m c cL_law 12 s #[Value.ref b] wsL_law RL G2 := ⟨⟨hx, hb, hml, hown, hts⟩, hK, hgi, hN⟩
  have hX2 : lX s G2 b L xs := ⟨hX, hbl, hga⟩
  have hfin : ∀ (M : wM) {pc : Nat} (lv : List (Nat × Value)), decode cL_law pc = .ok (.ireturn, 1) → lAt p l e room_1 s m #[Value.ref b] below meth c (lw_Z below #[Value.ref b] s) 12 (0 + 1 + 95) (0 + 9 + 3012) G2 M pc lv [.int 1] := fun M pc lv hdg H locs ls hl hR => by
    refine va_forget (fun q hq => ?_) ?_
    · rcases hR.2.2.2 q hq with ⟨i, hi, e⟩ | h
      · rw [e]; exact hga i hi
      · exact h
    · refine W.widen (k := 600000) (n := 7302250) (Nat.le_of_ble_eq_true rfl) (Nat.le_of_ble_eq_true rfl) ?_
      exact lw_ret hx hb hr hlocks hdg
  have hSg : va_S (wA G2 s.heap.size) s.heap H locs := ⟨hS.1, fun q h1 h2 => hS.2.1 q h1 (fun z => by rw [hAe] at z; exact absurd h1 (Nat.not_lt.mpr z)), fun q hq => Or.inr (by have := hS.2.2 q hq; rw [hAe] at this; exact this)⟩
  obtain ⟨M2, hf⟩ := law_ok (L := L) (xs := xs) wV0_ok rfl rfl (IC0 t0)
  exact kL_law8 hC hX2 hL ⟨(Nat.le_of_ble_eq_true rfl), (Nat.le_of_ble_eq_true rfl)⟩ hfin hf H locs ls (by rw [hg1]; exact hl) ⟨hW, hSg⟩
