section WW2
variable {p : Program} {l : Launch} {e : Env} {R : Room} {s : State} {m : MethodId} {args : Array Value} {below : List Frame} {meth : Method} {c : Code} {Q : State → Prop} {cc : ByteArray} {nL : Nat} {Ts : List Cond} {own : String} {G : wG} {M M1 : wM} {pc : Nat} {lv lv' : List (Nat × Value)} {rest : List Value}
theorem wa_sub (ks : List Nat) (hl0 : lv_pick lv ks = lv') (k : wAt p l e R s m args below meth c Q nL G M pc lv' rest) : wAt p l e R s m args below meth c Q nL G M pc lv rest := fun H locs ls hl hR => k H locs ls (lv_sub hl ks hl0) hR
theorem wa_lcmp (hC : wC p m c cc nL s args Ts own G) {x y : Int64} (hdg : decode cc pc = .ok (.lcmp, 1)) (k : wAt p l e R s m args below meth c Q nL G M (pc + 1) lv (.int (lg_cmp x y) :: rest)) : wAt p l e R s m args below meth c Q nL G M pc lv (.long y :: .long x :: rest) := fun H locs ls hl hR => W.lcmp hC.1.1 hC.1.2.1 hdg (k H locs ls hl hR)
theorem wa_ifnull (hC : wC p m c cc nL s args Ts own G) {x : Nat} {off : Int} (hdg : decode cc pc = .ok (.ifnull off, 3)) (k : wAt p l e R s m args below meth c Q nL G M (pc + 3) lv rest) : wAt p l e R s m args below meth c Q nL G M pc lv (.ref x :: rest) := fun H locs ls hl hR => lv_ifnull hC.1.1 hC.1.2.1 hdg (k H locs ls hl hR)
/-- a contract of a method over the one world: from M it answers r and leaves M1 -/
def mI (l : Launch) (y : MethodName) (ws : List Cond) (rm : Room) (G : wG) (a : List Value) (M : wM) (r : Int32) (M1 : wM) : Prop := ∀ sz : Nat, Met l y ws rm (va_Pc a (fun U => U.heap.size = sz ∧ wB G M U)) (va_Qi (fun r' (_ : Unit) => r' = r) (fun _ t => va_P (gD G) vwCl (wl G M1) t.heap) (wA G sz)) 0 0 (wA G sz)
def mL (l : Launch) (y : MethodName) (ws : List Cond) (rm : Room) (G : wG) (a : List Value) (M : wM) (r : Int64) (M1 : wM) : Prop := ∀ sz : Nat, Met l y ws rm (va_Pc a (fun U => U.heap.size = sz ∧ wB G M U)) (va_Ql (fun r' (_ : Unit) => r' = r) (fun _ t => va_P (gD G) vwCl (wl G M1) t.heap) (wA G sz)) 0 0 (wA G sz)
def mV (l : Launch) (y : MethodName) (ws : List Cond) (rm : Room) (G : wG) (a : List Value) (M : wM) (M1 : wM) : Prop := ∀ sz : Nat, Met l y ws rm (va_Pc a (fun U => U.heap.size = sz ∧ wB G M U)) (va_Qv (fun _ : Unit => True) (fun _ t => va_P (gD G) vwCl (wl G M1) t.heap) (wA G sz)) 0 0 (wA G sz)
def mR (l : Launch) (y : MethodName) (ws : List Cond) (rm : Room) (G : wG) (a : List Value) (M : wM) (j : Nat) (M1 : wM) : Prop := ∀ sz : Nat, Met l y ws rm (va_Pc a (fun U => U.heap.size = sz ∧ wB G M U)) (va_Qr (fun _ : Unit => True) (fun _ ra t => ra = ga G j ∧ va_P (gD G) vwCl (wl G M1) t.heap) (wA G sz)) 0 0 (wA G sz)
def qI (below : List Frame) (args : Array Value) (s : State) (G : wG) (r : Int32) (M1 : wM) : State → Prop := MQ below (va_Qi (fun r' (_ : Unit) => r' = r) (fun _ t => va_P (gD G) vwCl (wl G M1) t.heap) (wA G s.heap.size)) args s 0 0 (wA G s.heap.size)
def qL (below : List Frame) (args : Array Value) (s : State) (G : wG) (r : Int64) (M1 : wM) : State → Prop := MQ below (va_Ql (fun r' (_ : Unit) => r' = r) (fun _ t => va_P (gD G) vwCl (wl G M1) t.heap) (wA G s.heap.size)) args s 0 0 (wA G s.heap.size)
def qV (below : List Frame) (args : Array Value) (s : State) (G : wG) (M1 : wM) : State → Prop := MQ below (va_Qv (fun _ : Unit => True) (fun _ t => va_P (gD G) vwCl (wl G M1) t.heap) (wA G s.heap.size)) args s 0 0 (wA G s.heap.size)
def qR (below : List Frame) (args : Array Value) (s : State) (G : wG) (j : Nat) (M1 : wM) : State → Prop := MQ below (va_Qr (fun _ : Unit => True) (fun _ ra t => ra = ga G j ∧ va_P (gD G) vwCl (wl G M1) t.heap) (wA G s.heap.size)) args s 0 0 (wA G s.heap.size)

end WW2
section WW2B
variable {p : Program} {l : Launch} {e : Env} {s : State} {m : MethodId} {args : Array Value} {below : List Frame} {meth : Method} {c : Code}
/-- Met.ofW, for a method that is plain by its name and descriptor (java.lang.Math's own) -/
theorem wMetF {y : MethodName} {ws ws' : List Cond} {rm : Room} {Pc : Array Value → State → Prop} {Qc : Array Value → State → Outcome → State → Prop} {mc ms : Nat} {free : Addr → Prop} {cc : ByteArray} {maxL : Nat} {ret : Option FieldType}
    (hy : plainFor y = true) (hw : ws = Cond.code y cc maxL ret :: ws')
    (body : ∀ p e s m args below meth c s₁, BodyLoose p l y (headSpec ws rm) cc maxL ret e s m args below meth c s₁ → c.maxLocals = maxL → Pc args s →
      W p l e (headSpec ws rm).room s m args below meth c s.heap [] 0 0 (MQ below Qc args s mc ms free) (entryFrame m args maxL)) : Met l y ws rm Pc Qc mc ms free := by
  refine MetFree.of_bodySF (code := cc) (maxLocals := maxL) (ret := ret) hy ?_ ?_
  · intro args s m h hn
    obtain ⟨meth, c, h1, h2, h3, h4, h5, h6, -, -⟩ := Cond.code_spec hn (atoms_spec (ws := ws) h _ (by rw [hw]; exact List.mem_cons_self))
    exact ⟨meth, c, h1, h2, h3, h4, h5, h6⟩
  · intro p e s m args below meth c s₁ B hml hP _
    have hh0 : s₁.heap = s.heap := by rw [B.state]; rfl
    obtain ⟨t, a1, o, b1, b2, b3⟩ := body p e s m args below meth c s₁ B hml hP s₁ hh0 (Stand.of_body B)
    exact ⟨t, o, a1, b1, b2, ⟨b3.1, b3.2⟩⟩
end WW2B
section WW2C
variable {p : Program} {l : Launch} {e : Env} {R : Room} {s : State} {m : MethodId} {args : Array Value} {below : List Frame} {meth : Method} {c : Code} {Q : State → Prop} {cc : ByteArray} {nL : Nat} {Ts : List Cond} {own : String} {G : wG} {M M1 : wM} {pc : Nat} {lv lv' : List (Nat × Value)} {rest : List Value}
theorem mI.of {y : MethodName} {ws ws' : List Cond} {rm : Room} {cc : ByteArray} {nL : Nat} {ret : Option FieldType} {a : List Value} {own : String} {r : Int32} (hy : plainFor y = true) (hw : ws = Cond.code y cc nL ret :: ws') (hown : y.cls = own) (hlen : (lg_sl a).length ≤ nL) {lv : List (Nat × Value)} (hlv : lv_args 0 a = lv)
    (body : ∀ (p : Program) (e : Env) (s : State) (m : MethodId) (args : Array Value) (below : List Frame) (meth : Method) (c : Code), wC p m c cc nL s args ws own G → meth.sig.returnType = ret → meth.locks = false → wAt p l e rm s m args below meth c (qI below args s G r M1) nL G M 0 lv []) : mI l y ws rm G a M r M1 := by
  intro sz
  refine wMetF (cc := cc) (maxL := nL) (ret := ret) hy hw ?_
  intro p e s m args below meth c s₁ B hml0 hv
  obtain ⟨rfl, hsz, hP, hK, hgi, hN⟩ := hv
  subst hsz
  have hown0 : s.vm.findClass own = some m.cls := by rw [← hown]; exact findClass_of_methodNamed B.named
  have hC : wC p m c cc nL s a.toArray ws own G := ⟨⟨B.exec, B.bytes, hml0, hown0, atoms_spec (ws := ws) B.pre⟩, hK, hgi, hN⟩
  have hl := lv_entry a (n := nL) hlen
  rw [lg_entry_eq]
  rw [hlv] at hl
  exact body p e s m a.toArray below meth c hC B.returns B.notSynchronized s.heap [] _ hl ⟨hP, va_S.rf⟩
theorem mL.of {y : MethodName} {ws ws' : List Cond} {rm : Room} {cc : ByteArray} {nL : Nat} {ret : Option FieldType} {a : List Value} {own : String} {r : Int64} (hy : plainFor y = true) (hw : ws = Cond.code y cc nL ret :: ws') (hown : y.cls = own) (hlen : (lg_sl a).length ≤ nL) {lv : List (Nat × Value)} (hlv : lv_args 0 a = lv)
    (body : ∀ (p : Program) (e : Env) (s : State) (m : MethodId) (args : Array Value) (below : List Frame) (meth : Method) (c : Code), wC p m c cc nL s args ws own G → meth.sig.returnType = ret → meth.locks = false → wAt p l e rm s m args below meth c (qL below args s G r M1) nL G M 0 lv []) : mL l y ws rm G a M r M1 := by
  intro sz
  refine wMetF (cc := cc) (maxL := nL) (ret := ret) hy hw ?_
  intro p e s m args below meth c s₁ B hml0 hv
  obtain ⟨rfl, hsz, hP, hK, hgi, hN⟩ := hv
  subst hsz
  have hown0 : s.vm.findClass own = some m.cls := by rw [← hown]; exact findClass_of_methodNamed B.named
  have hC : wC p m c cc nL s a.toArray ws own G := ⟨⟨B.exec, B.bytes, hml0, hown0, atoms_spec (ws := ws) B.pre⟩, hK, hgi, hN⟩
  have hl := lv_entry a (n := nL) hlen
  rw [lg_entry_eq]
  rw [hlv] at hl
  exact body p e s m a.toArray below meth c hC B.returns B.notSynchronized s.heap [] _ hl ⟨hP, va_S.rf⟩
theorem mV.of {y : MethodName} {ws ws' : List Cond} {rm : Room} {cc : ByteArray} {nL : Nat} {ret : Option FieldType} {a : List Value} {own : String}  (hy : plainFor y = true) (hw : ws = Cond.code y cc nL ret :: ws') (hown : y.cls = own) (hlen : (lg_sl a).length ≤ nL) {lv : List (Nat × Value)} (hlv : lv_args 0 a = lv)
    (body : ∀ (p : Program) (e : Env) (s : State) (m : MethodId) (args : Array Value) (below : List Frame) (meth : Method) (c : Code), wC p m c cc nL s args ws own G → meth.sig.returnType = ret → meth.locks = false → wAt p l e rm s m args below meth c (qV below args s G M1) nL G M 0 lv []) : mV l y ws rm G a M M1 := by
  intro sz
  refine wMetF (cc := cc) (maxL := nL) (ret := ret) hy hw ?_
  intro p e s m args below meth c s₁ B hml0 hv
  obtain ⟨rfl, hsz, hP, hK, hgi, hN⟩ := hv
  subst hsz
  have hown0 : s.vm.findClass own = some m.cls := by rw [← hown]; exact findClass_of_methodNamed B.named
  have hC : wC p m c cc nL s a.toArray ws own G := ⟨⟨B.exec, B.bytes, hml0, hown0, atoms_spec (ws := ws) B.pre⟩, hK, hgi, hN⟩
  have hl := lv_entry a (n := nL) hlen
  rw [lg_entry_eq]
  rw [hlv] at hl
  exact body p e s m a.toArray below meth c hC B.returns B.notSynchronized s.heap [] _ hl ⟨hP, va_S.rf⟩
theorem mR.of {y : MethodName} {ws ws' : List Cond} {rm : Room} {cc : ByteArray} {nL : Nat} {ret : Option FieldType} {a : List Value} {own : String} {j : Nat} (hy : plainFor y = true) (hw : ws = Cond.code y cc nL ret :: ws') (hown : y.cls = own) (hlen : (lg_sl a).length ≤ nL) {lv : List (Nat × Value)} (hlv : lv_args 0 a = lv)
    (body : ∀ (p : Program) (e : Env) (s : State) (m : MethodId) (args : Array Value) (below : List Frame) (meth : Method) (c : Code), wC p m c cc nL s args ws own G → meth.sig.returnType = ret → meth.locks = false → wAt p l e rm s m args below meth c (qR below args s G j M1) nL G M 0 lv []) : mR l y ws rm G a M j M1 := by
  intro sz
  refine wMetF (cc := cc) (maxL := nL) (ret := ret) hy hw ?_
  intro p e s m args below meth c s₁ B hml0 hv
  obtain ⟨rfl, hsz, hP, hK, hgi, hN⟩ := hv
  subst hsz
  have hown0 : s.vm.findClass own = some m.cls := by rw [← hown]; exact findClass_of_methodNamed B.named
  have hC : wC p m c cc nL s a.toArray ws own G := ⟨⟨B.exec, B.bytes, hml0, hown0, atoms_spec (ws := ws) B.pre⟩, hK, hgi, hN⟩
  have hl := lv_entry a (n := nL) hlen
  rw [lg_entry_eq]
  rw [hlv] at hl
  exact body p e s m a.toArray below meth c hC B.returns B.notSynchronized s.heap [] _ hl ⟨hP, va_S.rf⟩
theorem wa_iret (hC : wC p m c cc nL s args Ts own G) (hlk : meth.locks = false) (hr : meth.sig.returnType = some .int) {v r : Int32} (hv : v = r) (hM : M = M1) (hdg : decode cc pc = .ok (.ireturn, 1)) : wAt p l e R s m args below meth c (qI below args s G r M1) nL G M pc lv [.int v] := fun H locs ls hl hR => W.iret hC.1.1 hC.1.2.1 hr (fun t ht hW => ⟨⟨v, (), rfl, hv, by show va_P (gD G) vwCl (wl G M1) t.heap; rw [ht, ← hM]; exact hR.1⟩, hR.2.F ht⟩) hR.2.2.2 hdg hlk
def b2 (b : Bool) : Int32 := if b then 1 else 0
theorem b2_nar (b : Bool) : narrow .boolean (.int (b2 b)) = .int (b2 b) := by cases b <;> rfl
theorem wa_zret (hC : wC p m c cc nL s args Ts own G) (hlk : meth.locks = false) (hr : meth.sig.returnType = some .boolean) {v : Int32} {b : Bool} (hv : v = b2 b) (hM : M = M1) (hdg : decode cc pc = .ok (.ireturn, 1)) : wAt p l e R s m args below meth c (qI below args s G (b2 b) M1) nL G M pc lv [.int v] := fun H locs ls hl hR => W.zret hC.1.1 hC.1.2.1 hr (by rw [hv]; exact b2_nar b) (fun t ht hW => ⟨⟨v, (), rfl, hv, by show va_P (gD G) vwCl (wl G M1) t.heap; rw [ht, ← hM]; exact hR.1⟩, hR.2.F ht⟩) hR.2.2.2 hdg hlk
theorem wa_lret (hC : wC p m c cc nL s args Ts own G) (hlk : meth.locks = false) (hr : meth.sig.returnType = some .long) {v r : Int64} (hv : v = r) (hM : M = M1) (hdg : decode cc pc = .ok (.lreturn, 1)) : wAt p l e R s m args below meth c (qL below args s G r M1) nL G M pc lv [.long v] := fun H locs ls hl hR => W.lret hC.1.1 hC.1.2.1 hr (fun t ht hW => ⟨⟨v, (), rfl, hv, by show va_P (gD G) vwCl (wl G M1) t.heap; rw [ht, ← hM]; exact hR.1⟩, hR.2.F ht⟩) hR.2.2.2 hdg hlk
theorem wa_vret (hC : wC p m c cc nL s args Ts own G) (hlk : meth.locks = false) (hr : meth.sig.returnType = none) (hM : M = M1) (hdg : decode cc pc = .ok (.return_, 1)) : wAt p l e R s m args below meth c (qV below args s G M1) nL G M pc lv [] := fun H locs ls hl hR => W.vret hC.1.1 hC.1.2.1 hr (fun t ht hW => ⟨⟨(), rfl, trivial, by show va_P (gD G) vwCl (wl G M1) t.heap; rw [ht, ← hM]; exact hR.1⟩, hR.2.F ht⟩) hR.2.2.2 hdg hlk
theorem wa_aret (hC : wC p m c cc nL s args Ts own G) (hlk : meth.locks = false) {nm : String} (hr : meth.sig.returnType = some (.object nm)) {i j : Nat} (hv : i = j) (hM : M = M1) (hdg : decode cc pc = .ok (.areturn, 1)) : wAt p l e R s m args below meth c (qR below args s G j M1) nL G M pc lv [.ref (ga G i)] := fun H locs ls hl hR => W.aret hC.1.1 hC.1.2.1 hr (Or.inl ⟨nm, rfl⟩) (Or.inr ⟨_, rfl⟩) (fun t ht hW => ⟨⟨(), ga G i, rfl, trivial, by rw [hv], by rw [ht, ← hM]; exact hR.1⟩, hR.2.F ht⟩) hR.2.2.2 hdg hlk
theorem wA_in {H : Heap} {locs : List Loc} (hR : wR G M s H locs) : (∀ q, q < H.size → wA G H.size q → wA G s.heap.size q) ∧ ∀ q, wA G H.size q → wA G s.heap.size q := ⟨fun q h1 h => h.elim Or.inl (fun h2 => absurd h2 (Nat.not_le.mpr h1)), fun q h => h.elim Or.inl (fun h2 => Or.inr (Nat.le_trans hR.2.1 h2))⟩
theorem wa_calli {st0 : List Value} {a : Array Value} {r : Int32} (hr : ∀ (H : Heap) (locs : List Loc) (ls : Array Slot), lv_has ls nL lv → wR G M s H locs → va_Run p l e R s m args below meth c H locs 0 0 0 0 (F0 m pc ls st0) rest (va_Qi (fun r' (_ : Unit) => r' = r) (fun _ t => va_P (gD G) vwCl (wl G M1) t.heap) (wA G H.size) a) (wA G H.size)) (k : wAt p l e R s m args below meth c Q nL G M1 (pc + 3) lv (.int r :: rest)) : wAt p l e R s m args below meth c Q nL G M pc lv st0 := fun H locs ls hl hR => va_calli (hr H locs ls hl hR) hR.2 (wA_in hR).1 (wA_in hR).2 (fun r' u t H1 locs1 ht hvm hw hB hz hk hS => by
    subst hw
    exact k H1 locs1 ls hl ⟨by rw [← ht]; exact hB, hS⟩)
theorem wa_calll {st0 : List Value} {a : Array Value} {r : Int64} (hr : ∀ (H : Heap) (locs : List Loc) (ls : Array Slot), lv_has ls nL lv → wR G M s H locs → va_Run p l e R s m args below meth c H locs 0 0 0 0 (F0 m pc ls st0) rest (va_Ql (fun r' (_ : Unit) => r' = r) (fun _ t => va_P (gD G) vwCl (wl G M1) t.heap) (wA G H.size) a) (wA G H.size)) (k : wAt p l e R s m args below meth c Q nL G M1 (pc + 3) lv (.long r :: rest)) : wAt p l e R s m args below meth c Q nL G M pc lv st0 := fun H locs ls hl hR => va_calll (hr H locs ls hl hR) hR.2 (wA_in hR).1 (wA_in hR).2 (fun r' u t H1 locs1 ht hvm hw hB hz hk hS => by
    subst hw
    exact k H1 locs1 ls hl ⟨by rw [← ht]; exact hB, hS⟩)
theorem wa_callv {st0 : List Value} {a : Array Value} (hr : ∀ (H : Heap) (locs : List Loc) (ls : Array Slot), lv_has ls nL lv → wR G M s H locs → va_Run p l e R s m args below meth c H locs 0 0 0 0 (F0 m pc ls st0) rest (va_Qv (fun _ : Unit => True) (fun _ t => va_P (gD G) vwCl (wl G M1) t.heap) (wA G H.size) a) (wA G H.size)) (k : wAt p l e R s m args below meth c Q nL G M1 (pc + 3) lv rest) : wAt p l e R s m args below meth c Q nL G M pc lv st0 := fun H locs ls hl hR => va_callv (hr H locs ls hl hR) hR.2 (wA_in hR).1 (wA_in hR).2 (fun u t H1 locs1 ht hvm hw hB hz hk hS => k H1 locs1 ls hl ⟨by rw [← ht]; exact hB, hS⟩)
theorem wa_callr {st0 : List Value} {a : Array Value} {j : Nat} (hr : ∀ (H : Heap) (locs : List Loc) (ls : Array Slot), lv_has ls nL lv → wR G M s H locs → va_Run p l e R s m args below meth c H locs 0 0 0 0 (F0 m pc ls st0) rest (va_Qr (fun _ : Unit => True) (fun _ ra t => ra = ga G j ∧ va_P (gD G) vwCl (wl G M1) t.heap) (wA G H.size) a) (wA G H.size)) (k : wAt p l e R s m args below meth c Q nL G M1 (pc + 3) lv (.ref (ga G j) :: rest)) : wAt p l e R s m args below meth c Q nL G M pc lv st0 := fun H locs ls hl hR => va_callr (hr H locs ls hl hR) hR.2 (wA_in hR).1 (wA_in hR).2 (fun u ra t H1 locs1 ht hvm hw hB hz hk hS => by
    obtain ⟨e1, hB⟩ := hB
    subst e1
    exact k H1 locs1 ls hl ⟨by rw [← ht]; exact hB, hS⟩)
theorem wr_V {cc : ByteArray} {C : String} {index n ci maxL i : Nat} {y : MethodName} {bytes : ByteArray} {ret : Option FieldType} {ws : List Cond} {rm : Room} {As : List Value} {Qc : Nat → Array Value → State → Outcome → State → Prop} {st0 : List Value} {fs : List Value} {q : vw_C} (hC : wC p m c cc nL s args Ts own G) (hM : ∀ sz : Nat, Met l y ws rm (va_Pc (.ref (ga G i) :: As) (fun U => U.heap.size = sz ∧ wB G M U)) (Qc sz) 0 0 (wA G sz)) (cw : CallW R s args own C index y bytes maxL ret ws rm 0 0 n) (hi : kd i = ci) (h99 : ci < 99) (he : cellOf G M i = .inr (ci, fs)) (hc : vwCl[ci]? = some q) (hq : q.1 = C) (hn : As.length = n) (hstack : st0 = As.reverse ++ .ref (ga G i) :: rest) (hroom : (rest.map fun v => v.category).sum ≤ 8) (hdg : decode cc pc = .ok (.invokevirtual index, 3)) : ∀ (H : Heap) (locs : List Loc) (ls : Array Slot), lv_has ls nL lv → wR G M s H locs → va_Run p l e R s m args below meth c H locs 0 0 0 0 (F0 m pc ls st0) rest (Qc H.size (Value.ref (ga G i) :: As).toArray) (wA G H.size) := fun H locs ls hl hR => va_runV hC.1 (hM H.size) cw ⟨fun a U g mk q => ⟨q.1, q.2.1, q.2.2.blind⟩, by rw [← hq]; exact va_recv hC.2.1 hR.1 hc (wl_at2 hi h99 he), fun U hU hW => ⟨rfl, by rw [hU], by rw [hU]; exact hR.1, va_K.moved hW.alike hC.2.1, hC.2.2.1, hC.2.2.2.warm hW⟩⟩ rfl hn hl.1 hstack (lv_room hroom) hdg ⟨Nat.zero_le _, Nat.zero_le _⟩
theorem wr_S {cc : ByteArray} {index n maxL : Nat} {y : MethodName} {bytes : ByteArray} {ret : Option FieldType} {ws : List Cond} {rm : Room} {As : List Value} {Qc : Nat → Array Value → State → Outcome → State → Prop} {st0 : List Value} (hC : wC p m c cc nL s args Ts own G) (hM : ∀ sz : Nat, Met l y ws rm (va_Pc As (fun U => U.heap.size = sz ∧ wB G M U)) (Qc sz) 0 0 (wA G sz)) (cw : CallB R s args own index y bytes maxL ret ws rm 0 0 n ∧ (Cond.static y).before args s = true) (hn : As.length = n) (hstack : st0 = As.reverse ++ rest) (hroom : (rest.map fun v => v.category).sum ≤ 8) (hdg : decode cc pc = .ok (.invokestatic index, 3)) : ∀ (H : Heap) (locs : List Loc) (ls : Array Slot), lv_has ls nL lv → wR G M s H locs → va_Run p l e R s m args below meth c H locs 0 0 0 0 (F0 m pc ls st0) rest (Qc H.size As.toArray) (wA G H.size) := fun H locs ls hl hR => va_runS hC.1 (hM H.size) cw ⟨fun a U g mk q => ⟨q.1, q.2.1, q.2.2.blind⟩, fun U hU hW => ⟨rfl, by rw [hU], by rw [hU]; exact hR.1, va_K.moved hW.alike hC.2.1, hC.2.2.1, hC.2.2.2.warm hW⟩⟩ rfl hn hl.1 hstack (lv_room hroom) hdg ⟨Nat.zero_le _, Nat.zero_le _⟩
theorem wr_SN {cc : ByteArray} {host : String} {index n maxL : Nat} {y : MethodName} {bytes : ByteArray} {ret : Option FieldType} {ws : List Cond} {rm : Room} {As : List Value} {Qc : Nat → Array Value → State → Outcome → State → Prop} {st0 : List Value} (hC : wC p m c cc nL s args Ts own G) (hM : ∀ sz : Nat, Met l y ws rm (va_Pc As (fun U => U.heap.size = sz ∧ wB G M U)) (Qc sz) 0 0 (wA G sz)) (cw : va_CN R s args own index y host bytes maxL ret ws rm 0 0 n ∧ (Cond.static y).before args s = true ∧ True) (hn : As.length = n) (hstack : st0 = As.reverse ++ rest) (hroom : (rest.map fun v => v.category).sum ≤ 8) (hdg : decode cc pc = .ok (.invokestatic index, 3)) : ∀ (H : Heap) (locs : List Loc) (ls : Array Slot), lv_has ls nL lv → wR G M s H locs → va_Run p l e R s m args below meth c H locs 0 0 0 0 (F0 m pc ls st0) rest (Qc H.size As.toArray) (wA G H.size) := fun H locs ls hl hR => va_runSN hC.1 (hM H.size) cw ⟨fun a U g mk q => ⟨q.1, q.2.1, q.2.2.blind⟩, fun U hU hW => ⟨rfl, by rw [hU], by rw [hU]; exact hR.1, va_K.moved hW.alike hC.2.1, hC.2.2.1, hC.2.2.2.warm hW⟩⟩ rfl hn hl.1 hstack (lv_room hroom) hdg ⟨Nat.zero_le _, Nat.zero_le _⟩
theorem wa_min (hC : wC p m c cc nL s args Ts own G) {index : Nat} (h1 : Cond.methodLink own index Lib.Math.min.name ∈ Ts) (h2 : Cond.static Lib.Math.min.name ∈ Ts) (h3 : Cond.initialized "java/lang/Math" ∈ Ts) (h4 : Cond.code Lib.Math.min.name Lib.Math.min.code 2 (some .int) ∈ Ts) (hf : 1 ≤ R.frames) (hl0 : (rest.map fun v => v.category).sum + 13 ≤ R.locals) {x y : Int32} (hdg : decode cc pc = .ok (.invokestatic index, 3)) (k : wAt p l e R s m args below meth c Q nL G M (pc + 3) lv (.int (if y < x then y else x) :: rest)) : wAt p l e R s m args below meth c Q nL G M pc lv (.int y :: .int x :: rest) := fun H locs ls hl hR => va_mmin hC.1.1 hC.1.2.1 (hC.1.2.2.1.trans hl.1.symm) hC.1.2.2.2.1 (hC.1.2.2.2.2 _ h1) (hC.1.2.2.2.2 _ h2) (hC.1.2.2.2.2 _ h3) (hC.1.2.2.2.2 _ h4) hf hl0 (Nat.zero_le _) (Nat.zero_le _) hdg (k H locs ls hl hR)
theorem wa_max (hC : wC p m c cc nL s args Ts own G) {index : Nat} (h1 : Cond.methodLink own index Lib.Math.max.name ∈ Ts) (h2 : Cond.static Lib.Math.max.name ∈ Ts) (h3 : Cond.initialized "java/lang/Math" ∈ Ts) (h4 : Cond.code Lib.Math.max.name Lib.Math.max.code 2 (some .int) ∈ Ts) (hf : 1 ≤ R.frames) (hl0 : (rest.map fun v => v.category).sum + 13 ≤ R.locals) {x y : Int32} (hdg : decode cc pc = .ok (.invokestatic index, 3)) (k : wAt p l e R s m args below meth c Q nL G M (pc + 3) lv (.int (if x < y then y else x) :: rest)) : wAt p l e R s m args below meth c Q nL G M pc lv (.int y :: .int x :: rest) := fun H locs ls hl hR => va_mmax hC.1.1 hC.1.2.1 (hC.1.2.2.1.trans hl.1.symm) hC.1.2.2.2.1 (hC.1.2.2.2.2 _ h1) (hC.1.2.2.2.2 _ h2) (hC.1.2.2.2.2 _ h3) (hC.1.2.2.2.2 _ h4) hf hl0 (Nat.zero_le _) (Nat.zero_le _) hdg (k H locs ls hl hR)
theorem wa_abs (hC : wC p m c cc nL s args Ts own G) {index : Nat} (h1 : Cond.methodLink own index Lib.Math.abs.name ∈ Ts) (h2 : Cond.static Lib.Math.abs.name ∈ Ts) (h3 : Cond.initialized "java/lang/Math" ∈ Ts) (h4 : Cond.code Lib.Math.abs.name Lib.Math.abs.code 1 (some .int) ∈ Ts) (hf : 1 ≤ R.frames) (hl0 : (rest.map fun v => v.category).sum + 13 ≤ R.locals) {x : Int32} (hdg : decode cc pc = .ok (.invokestatic index, 3)) (k : wAt p l e R s m args below meth c Q nL G M (pc + 3) lv (.int (if 0 ≤ x then x else 0 - x) :: rest)) : wAt p l e R s m args below meth c Q nL G M pc lv (.int x :: rest) := fun H locs ls hl hR => va_mabs hC.1.1 hC.1.2.1 (hC.1.2.2.1.trans hl.1.symm) hC.1.2.2.2.1 (hC.1.2.2.2.2 _ h1) (hC.1.2.2.2.2 _ h2) (hC.1.2.2.2.2 _ h3) (hC.1.2.2.2.2 _ h4) hf hl0 (Nat.zero_le _) (Nat.zero_le _) hdg (k H locs ls hl hR)
theorem wa_copy (hC : wC p m c cc nL s args Ts own G) {index : Nat} (h1 : Cond.methodLink own index arraycopyName ∈ Ts) (h2 : Cond.native arraycopyName ∈ Ts) (h3 : Cond.static arraycopyName ∈ Ts) (h4 : Cond.initialized "java/lang/System" ∈ Ts) {i0 i1 : Nat} (hi0 : kd i0 = 20) (hi1 : kd i1 = 20) {n : Int32} (hn0 : ¬ n < 0) (hn1 : n.toNatClampNeg ≤ ln i0) (hn2 : n.toNatClampNeg ≤ ln i1) (hf : 1 ≤ R.frames) (hl0 : (rest.map fun v => v.category).sum + (nativeFrameWords "java/lang/System" "arraycopy" 5 + 11) ≤ R.locals) (hdg : decode cc pc = .ok (.invokestatic index, 3)) (k : wAt p l e R s m args below meth c Q nL G (cpM M i0 i1 n.toNatClampNeg) (pc + 3) lv rest) : wAt p l e R s m args below meth c Q nL G M pc lv (.int n :: .int 0 :: .ref (ga G i1) :: .int 0 :: .ref (ga G i0) :: rest) := fun H locs ls hl hR => va_copyi hC.1.1 hC.1.2.1 (hC.1.2.2.1.trans hl.1.symm) hC.1.2.2.2.1 (hC.1.2.2.2.2 _ h1) (hC.1.2.2.2.2 _ h2) (hC.1.2.2.2.2 _ h3) (hC.1.2.2.2.2 _ h4) hC.2.1 hR.1 (wA_D hC.2.2.1) hR.2 i0 i1 0 0 (wl_at2 hi0 (by decide) (ce20 hi0)) (wl_at2 hi1 (by decide) (ce20 hi1)) rfl rfl rfl (by decide) (by decide) hn0 (by rw [show (0 : Int32).toNatClampNeg = 0 from by decide]; omega) (by rw [show (0 : Int32).toNatClampNeg = 0 from by decide]; omega) (fun _ _ => rfl) hf hl0 hdg (fun H1 locs1 hP hD hS => k H1 locs1 ls hl ⟨by
    rw [show (0 : Int32).toNatClampNeg = 0 from by decide, wl_set (M' := cpM M i0 i1 n.toNatClampNeg) (kdlt hi1 (by decide)) (fun j hj => ce_cpM hj) (by rw [ce20 hi1]; congr 4; funext b; simp [cpM])] at hP
    exact hP, hS⟩)
end WW2C
/-! the words in which methods are told as functions -/
def FU : Nat := 100000
def ix (j : Int32) (n : Nat) : Option Nat := if j < 0 ∨ n ≤ j.toNatClampNeg then none else some j.toNatClampNeg
theorem ix_some {j : Int32} {n k : Nat} (h : ix j n = some k) : vp_in j n ∧ k = j.toNatClampNeg := by
  unfold ix at h
  split at h
  · cases h
  · next q => exact ⟨q, (Option.some.inj h).symm⟩
def dvI (x y : Int32) : Option Int32 := if y = 0 then none else some (x / y)
def rmI (x y : Int32) : Option Int32 := if y = 0 then none else some (x - x / y * y)
def dvL (x y : Int64) : Option Int64 := if y = 0 then none else some (x / y)
def rmL (x y : Int64) : Option Int64 := if y = 0 then none else some (x - x / y * y)
theorem dvI_some {x y v : Int32} (h : dvI x y = some v) : ¬ y = 0 ∧ v = x / y := by
  unfold dvI at h
  split at h
  · cases h
  · next q => exact ⟨q, (Option.some.inj h).symm⟩
theorem rmI_some {x y v : Int32} (h : rmI x y = some v) : ¬ y = 0 ∧ v = x - x / y * y := by
  unfold rmI at h
  split at h
  · cases h
  · next q => exact ⟨q, (Option.some.inj h).symm⟩
theorem dvL_some {x y v : Int64} (h : dvL x y = some v) : ¬ y = 0 ∧ v = x / y := by
  unfold dvL at h
  split at h
  · cases h
  · next q => exact ⟨q, (Option.some.inj h).symm⟩
theorem rmL_some {x y v : Int64} (h : rmL x y = some v) : ¬ y = 0 ∧ v = x - x / y * y := by
  unfold rmL at h
  split at h
  · cases h
  · next q => exact ⟨q, (Option.some.inj h).symm⟩
def cpG (n : Int32) (a b : Nat) : Option Nat := if n < 0 ∨ a < n.toNatClampNeg ∨ b < n.toNatClampNeg then none else some n.toNatClampNeg
theorem cpG_some {n : Int32} {a b k : Nat} (h : cpG n a b = some k) : ¬ n < 0 ∧ n.toNatClampNeg ≤ a ∧ n.toNatClampNeg ≤ b ∧ k = n.toNatClampNeg := by
  unfold cpG at h
  split at h
  · cases h
  · next q => exact ⟨fun z => q (Or.inl z), Nat.le_of_not_lt (fun z => q (Or.inr (Or.inl z))), Nat.le_of_not_lt (fun z => q (Or.inr (Or.inr z))), (Option.some.inj h).symm⟩
def bz (x : Int32) : Option Bool := if x = 0 then some false else if x = 1 then some true else none
theorem bz_some {x : Int32} {b : Bool} (h : bz x = some b) : x = b2 b := by
  unfold bz at h
  split at h
  · next q => cases h; exact q
  · split at h
    · next q => cases h; exact q
    · cases h
/-- a reference's kind, where it comes out of a call -/
def gk (j k : Nat) : Option Unit := if kd j = k then some () else none
theorem gk_some {j k : Nat} {u : Unit} (h : gk j k = some u) : kd j = k := by
  unfold gk at h
  split at h
  · next q => exact q
  · cases h
theorem bd {α β : Type} {o : Option α} {f : α → Option β} {r : β} (h : o.bind f = some r) : ∃ a, o = some a ∧ f a = some r := Option.bind_eq_some_iff.mp h
theorem ite_t {α : Type} {c : Prop} [Decidable c] {a b r : α} (h : ite c a b = r) (hc : c) : a = r := by rwa [if_pos hc] at h
theorem ite_f {α : Type} {c : Prop} [Decidable c] {a b r : α} (h : ite c a b = r) (hc : ¬ c) : b = r := by rwa [if_neg hc] at h
theorem ite_e {α : Type} {c : Prop} [Decidable c] {a b r : α} {P : Prop} (h : ite c a b = r) (t : c → a = r → P) (f : ¬ c → b = r → P) : P := by
  by_cases hc : c
  · exact t hc (ite_t h hc)
  · exact f hc (ite_f h hc)
theorem so_inj {α : Type} {a b : α} (h : some a = some b) : a = b := Option.some.inj h
theorem ti_ne {x k : Int32} {a : Int} (h : ¬ x = k) (hk : k.toInt = a) : x.toInt ≠ a := fun q => h (Int32.toInt_inj.mp (q.trans hk.symm))
