/-! the law from the made object on (written by program) -/
theorem mbL_law_35 : Cond.constant RL 35 (-2000000004) ∈ wsL_law := List.mem_append_left _ (List.mem_of_getElem? (i := 5) rfl)
theorem mbL_law_63 : Cond.constant RL 63 (94800) ∈ wsL_law := List.mem_append_left _ (List.mem_of_getElem? (i := 4) rfl)
theorem mbL_law_59 : Cond.constant RL 59 (95000) ∈ wsL_law := List.mem_append_left _ (List.mem_of_getElem? (i := 3) rfl)
section LAWC
variable {p : Program} {l : Launch} {e : Env} {s : State} {m : MethodId} {below : List Frame} {meth : Method} {c : Code} {Q : State → Prop} {G : wG} {b L : Nat} {xs : Nat → Int32} {cells slots : Nat}
set_option maxHeartbeats 4000000 in
set_option maxRecDepth 100000 in
theorem kL_law8 (hC : wC p m c cL_law 12 s #[Value.ref b] wsL_law RL G) (hX : lX s G b L xs) (hL : L ≤ 260) (hcs : cells ≤ room_1.cells ∧ slots ≤ room_1.slots) (fin : ∀ (M : wM) {pc : Nat} (lv : List (Nat × Value)), decode cL_law pc = .ok (.ireturn, 1) → lAt p l e room_1 s m #[Value.ref b] below meth c Q 12 cells slots G M pc lv [.int 1]) {M0 M1 : wM} (hf : fL_law L xs M0 = some (true, M1)) : lAt p l e room_1 s m #[Value.ref b] below meth c Q 12 cells slots G M0 8 [(1, .ref (ga G 0)), (0, .ref b)] [] := by
  have hJ531 : ∀ (s0 : Int32) (M0 : wM), fL_law_J531 L xs  s0 M0 = some (true, M1) → lAt p l e room_1 s m #[Value.ref b] below meth c Q 12 cells slots G M0 531 [(1, .ref (ga G (0)))] [.int (s0)] := by
    intro  s0 M0 hf
    unfold fL_law_J531 at hf
    refine la_istore_n (lv' := [(2, .int _), (1, .ref _)]) hC dL_law_531 rfl (by decide) rfl ?_
    refine la_iload_n hC dL_law_532 rfl 0 rfl ?_
    refine la_if_eq hC 547 dL_law_533 (by decide) (fun c1 => ?_) (fun c1 => ?_)
    · have hf := ite_t hf c1
      refine la_iconst (v := 0) hC dL_law_547 (by decide) ?_
      exact absurd (show false = true from congrArg Prod.fst (so_inj hf)) (by decide)
    · have hf := ite_f hf c1
      refine la_aload_n hC dL_law_536 rfl 1 rfl ?_
      obtain ⟨⟨v2, M2⟩, h2, hf⟩ := bd hf
      dsimp only at hf
      refine la_calli (rest := []) (lr_S hC (kL_holds l G h2) (va_cwS 1 hC.1.2.2.2.2 gL_law_L_holds rfl rfl rfl (by decide +kernel) ⟨Nat.le_of_ble_eq_true rfl, Nat.le_of_ble_eq_true rfl⟩) rfl rfl (Nat.le_of_ble_eq_true rfl) hcs dL_law_537) ?_
      refine la_if_eq hC 547 dL_law_540 (by decide) (fun c3 => ?_) (fun c3 => ?_)
      · have hf := ite_t hf c3
        refine la_iconst (v := 0) hC dL_law_547 (by decide) ?_
        exact absurd (show false = true from congrArg Prod.fst (so_inj hf)) (by decide)
      · have hf := ite_f hf c3
        refine la_iconst (v := 1) hC dL_law_543 (by decide) ?_
        refine la_goto hC 548 dL_law_544 (by decide) ?_
        exact fin _ _ dL_law_548
  have hJ513 : ∀ (x4 : Int32) (s0 : Int32) (s1 : Int32) (M0 : wM), fL_law_J513 L xs  x4 s0 s1 M0 = some (true, M1) → lAt p l e room_1 s m #[Value.ref b] below meth c Q 12 cells slots G M0 513 [(1, .ref (ga G (0))), (4, .int (x4))] [.int (s1), .int (s0)] := by
    intro  x4 s0 s1 M0 hf
    unfold fL_law_J513 at hf
    refine la_icmp_ne hC 530 dL_law_513 (by decide) (fun c4 => ?_) (fun c4 => ?_)
    · have hf := ite_f hf c4
      refine la_iconst (v := 0) hC dL_law_530 (by decide) ?_
      exact la_sub [0] rfl (hJ531  _ _ hf)
    · have hf := ite_t hf c4
      refine la_aload_n hC dL_law_516 rfl 0 rfl ?_
      refine la_iconst (v := 0) hC dL_law_517 (by decide) ?_
      obtain ⟨⟨v5, M5⟩, h5, hf⟩ := bd hf
      dsimp only at hf
      refine la_calli (rest := []) (lr_V hC (kX6_count l G h5) (cwV 1 hC.1.2.2.2.2 gL_law_X6_count rfl rfl rfl (by decide +kernel) ⟨Nat.le_of_ble_eq_true rfl, Nat.le_of_ble_eq_true rfl⟩) (show kd 0 = 6 from rfl) (by decide) (ce6 (show kd 0 = 6 from rfl)) rfl rfl rfl rfl (Nat.le_of_ble_eq_true rfl) hcs dL_law_518) ?_
      refine la_iload hC dL_law_521 1 rfl ?_
      refine la_icmp_ne hC 530 dL_law_523 (by decide) (fun c6 => ?_) (fun c6 => ?_)
      · have hf := ite_f hf c6
        refine la_iconst (v := 0) hC dL_law_530 (by decide) ?_
        exact la_sub [0] rfl (hJ531  _ _ hf)
      · have hf := ite_t hf c6
        refine la_iconst (v := 1) hC dL_law_526 (by decide) ?_
        refine la_goto hC 531 dL_law_527 (by decide) ?_
        exact la_sub [0] rfl (hJ531  _ _ hf)
  have hJ461 : ∀ (x2 : Int32) (M0 : wM), fL_law_J461 L xs  x2 M0 = some (true, M1) → lAt p l e room_1 s m #[Value.ref b] below meth c Q 12 cells slots G M0 461 [(1, .ref (ga G (0))), (2, .int (x2))] [] := by
    intro  x2 M0 hf
    unfold fL_law_J461 at hf
    refine la_aload_n hC dL_law_461 rfl 0 rfl ?_
    refine la_bipush (v := 8) hC dL_law_462 (by decide) ?_
    obtain ⟨⟨v7, M7⟩, h7, hf⟩ := bd hf
    dsimp only at hf
    refine la_calli (rest := []) (lr_V hC (kX6_count l G h7) (cwV 1 hC.1.2.2.2.2 gL_law_X6_count rfl rfl rfl (by decide +kernel) ⟨Nat.le_of_ble_eq_true rfl, Nat.le_of_ble_eq_true rfl⟩) (show kd 0 = 6 from rfl) (by decide) (ce6 (show kd 0 = 6 from rfl)) rfl rfl rfl rfl (Nat.le_of_ble_eq_true rfl) hcs dL_law_464) ?_
    refine la_istore_n (lv' := [(3, .int _), (1, .ref _), (2, .int _)]) hC dL_law_467 rfl (by decide) rfl ?_
    refine la_aload_n hC dL_law_468 rfl 1 rfl ?_
    refine la_iconst (v := 0) hC dL_law_469 (by decide) ?_
    obtain ⟨⟨v8, M8⟩, h8, hf⟩ := bd hf
    dsimp only at hf
    refine la_calli (rest := []) (lr_V hC (kX6_count l G h8) (cwV 1 hC.1.2.2.2.2 gL_law_X6_count rfl rfl rfl (by decide +kernel) ⟨Nat.le_of_ble_eq_true rfl, Nat.le_of_ble_eq_true rfl⟩) (show kd 0 = 6 from rfl) (by decide) (ce6 (show kd 0 = 6 from rfl)) rfl rfl rfl rfl (Nat.le_of_ble_eq_true rfl) hcs dL_law_470) ?_
    refine la_istore (lv' := [(4, .int _), (3, .int _), (1, .ref _), (2, .int _)]) hC dL_law_473 (by decide) rfl ?_
    refine la_iload_n hC dL_law_475 rfl 3 rfl ?_
    refine la_if_eq hC 530 dL_law_476 (by decide) (fun c9 => ?_) (fun c9 => ?_)
    · have hf := ite_t hf c9
      refine la_iconst (v := 0) hC dL_law_530 (by decide) ?_
      exact la_sub [2] rfl (hJ531  _ _ hf)
    · have hf := ite_f hf c9
      refine la_aload_n hC dL_law_479 rfl 2 rfl ?_
      refine la_iconst (v := -1) hC dL_law_480 (by decide) ?_
      refine la_iconst (v := 0) hC dL_law_481 (by decide) ?_
      obtain ⟨⟨v10, M10⟩, h10, hf⟩ := bd hf
      dsimp only at hf
      refine la_calli (rest := []) (lr_V hC (kX6_drop l G h10) (cwV 2 hC.1.2.2.2.2 gL_law_X6_drop rfl rfl rfl (by decide +kernel) ⟨Nat.le_of_ble_eq_true rfl, Nat.le_of_ble_eq_true rfl⟩) (show kd 0 = 6 from rfl) (by decide) (ce6 (show kd 0 = 6 from rfl)) rfl rfl rfl rfl (Nat.le_of_ble_eq_true rfl) hcs dL_law_482) ?_
      refine la_iload hC dL_law_485 0 rfl ?_
      refine la_iconst (v := 1) hC dL_law_487 (by decide) ?_
      refine la_isub hC dL_law_488 ?_
      refine la_icmp_ne hC 530 dL_law_489 (by decide) (fun c11 => ?_) (fun c11 => ?_)
      · have hf := ite_f hf c11
        refine la_iconst (v := 0) hC dL_law_530 (by decide) ?_
        exact la_sub [2] rfl (hJ531  _ _ hf)
      · have hf := ite_t hf c11
        refine la_aload_n hC dL_law_492 rfl 2 rfl ?_
        obtain ⟨⟨v12, M12⟩, h12, hf⟩ := bd hf
        dsimp only at hf
        refine la_calli (rest := []) (lr_S hC (kL_holds l G h12) (va_cwS 1 hC.1.2.2.2.2 gL_law_L_holds rfl rfl rfl (by decide +kernel) ⟨Nat.le_of_ble_eq_true rfl, Nat.le_of_ble_eq_true rfl⟩) rfl rfl (Nat.le_of_ble_eq_true rfl) hcs dL_law_493) ?_
        refine la_if_eq hC 530 dL_law_496 (by decide) (fun c13 => ?_) (fun c13 => ?_)
        · have hf := ite_t hf c13
          refine la_iconst (v := 0) hC dL_law_530 (by decide) ?_
          exact la_sub [2] rfl (hJ531  _ _ hf)
        · have hf := ite_f hf c13
          refine la_aload_n hC dL_law_499 rfl 2 rfl ?_
          obtain ⟨⟨v14, M14⟩, h14, hf⟩ := bd hf
          dsimp only at hf
          refine la_calli (rest := []) (lr_V hC (kX6_undo l G h14) (cwV 0 hC.1.2.2.2.2 gL_law_X6_undo rfl rfl rfl (by decide +kernel) ⟨Nat.le_of_ble_eq_true rfl, Nat.le_of_ble_eq_true rfl⟩) (show kd 0 = 6 from rfl) (by decide) (ce6 (show kd 0 = 6 from rfl)) rfl rfl rfl rfl (Nat.le_of_ble_eq_true rfl) hcs dL_law_500) ?_
          refine la_iload_n hC dL_law_503 rfl 1 rfl ?_
          refine la_iconst (v := 5) hC dL_law_504 (by decide) ?_
          refine la_icmp_ge hC 512 dL_law_505 (by decide) (fun c15 => ?_) (fun c15 => ?_)
          · have hf := ite_t hf c15
            refine la_iconst (v := 4) hC dL_law_512 (by decide) ?_
            exact la_sub [2, 0] rfl (hJ513  _ _ _ _ hf)
          · have hf := ite_f hf c15
            refine la_iload_n hC dL_law_508 rfl 1 rfl ?_
            refine la_goto hC 513 dL_law_509 (by decide) ?_
            exact la_sub [2, 0] rfl (hJ513  _ _ _ _ hf)
  have hJ431 : ∀ (bk94 : Int32 → Int32 → wM → Option (Bool × wM)) (hbk94 : (∀ (x2 : Int32) (x3 : Int32) (M0 : wM), bk94 x2 x3 M0 = some (true, M1) → lAt p l e room_1 s m #[Value.ref b] below meth c Q 12 cells slots G M0 94 [(0, .ref b), (1, .ref (ga G (0))), (2, .int (x2)), (3, .int (x3))] [])) (x2 : Int32) (x3 : Int32) (M0 : wM), fL_law_J431 L xs bk94 x2 x3 M0 = some (true, M1) → lAt p l e room_1 s m #[Value.ref b] below meth c Q 12 cells slots G M0 431 [(0, .ref b), (1, .ref (ga G (0))), (2, .int (x2)), (3, .int (x3))] [] := by
    intro bk94 hbk94 x2 x3 M0 hf
    unfold fL_law_J431 at hf
    refine la_iload_n hC dL_law_431 rfl 2 rfl ?_
    refine la_if_eq hC 453 dL_law_432 (by decide) (fun c16 => ?_) (fun c16 => ?_)
    · have hf := ite_t hf c16
      refine la_iconst (v := 0) hC dL_law_453 (by decide) ?_
      refine la_istore_n (lv' := [(2, .int _), (0, .ref _), (1, .ref _), (3, .int _)]) hC dL_law_454 rfl (by decide) rfl ?_
      refine la_iinc (v := _ + 1) (lv' := [(3, .int _), (2, .int _), (0, .ref _), (1, .ref _)]) hC dL_law_455 (t := 3) rfl rfl (by decide) rfl ?_
      refine la_goto hC 94 dL_law_458 (by decide) ?_
      exact la_sub [2, 3, 1, 0] rfl (hbk94 _ _ _ hf)
    · have hf := ite_f hf c16
      refine la_aload_n hC dL_law_435 rfl 1 rfl ?_
      obtain ⟨⟨v17, M17⟩, h17, hf⟩ := bd hf
      dsimp only at hf
      refine la_calli (rest := []) (lr_S hC (kL_holds l G h17) (va_cwS 1 hC.1.2.2.2.2 gL_law_L_holds rfl rfl rfl (by decide +kernel) ⟨Nat.le_of_ble_eq_true rfl, Nat.le_of_ble_eq_true rfl⟩) rfl rfl (Nat.le_of_ble_eq_true rfl) hcs dL_law_436) ?_
      refine la_if_eq hC 453 dL_law_439 (by decide) (fun c18 => ?_) (fun c18 => ?_)
      · have hf := ite_t hf c18
        refine la_iconst (v := 0) hC dL_law_453 (by decide) ?_
        refine la_istore_n (lv' := [(2, .int _), (0, .ref _), (1, .ref _), (3, .int _)]) hC dL_law_454 rfl (by decide) rfl ?_
        refine la_iinc (v := _ + 1) (lv' := [(3, .int _), (2, .int _), (0, .ref _), (1, .ref _)]) hC dL_law_455 (t := 3) rfl rfl (by decide) rfl ?_
        refine la_goto hC 94 dL_law_458 (by decide) ?_
        exact la_sub [2, 3, 1, 0] rfl (hbk94 _ _ _ hf)
      · have hf := ite_f hf c18
        refine la_aload_n hC dL_law_442 rfl 1 rfl ?_
        obtain ⟨⟨v19, M19⟩, h19, hf⟩ := bd hf
        dsimp only at hf
        refine la_calli (rest := []) (lr_S hC (kL_level l G h19) (va_cwS 1 hC.1.2.2.2.2 gL_law_L_level rfl rfl rfl (by decide +kernel) ⟨Nat.le_of_ble_eq_true rfl, Nat.le_of_ble_eq_true rfl⟩) rfl rfl (Nat.le_of_ble_eq_true rfl) hcs dL_law_443) ?_
        refine la_if_eq hC 453 dL_law_446 (by decide) (fun c20 => ?_) (fun c20 => ?_)
        · have hf := ite_t hf c20
          refine la_iconst (v := 0) hC dL_law_453 (by decide) ?_
          refine la_istore_n (lv' := [(2, .int _), (0, .ref _), (1, .ref _), (3, .int _)]) hC dL_law_454 rfl (by decide) rfl ?_
          refine la_iinc (v := _ + 1) (lv' := [(3, .int _), (2, .int _), (0, .ref _), (1, .ref _)]) hC dL_law_455 (t := 3) rfl rfl (by decide) rfl ?_
          refine la_goto hC 94 dL_law_458 (by decide) ?_
          exact la_sub [2, 3, 1, 0] rfl (hbk94 _ _ _ hf)
        · have hf := ite_f hf c20
          refine la_iconst (v := 1) hC dL_law_449 (by decide) ?_
          refine la_goto hC 454 dL_law_450 (by decide) ?_
          refine la_istore_n (lv' := [(2, .int _), (0, .ref _), (1, .ref _), (3, .int _)]) hC dL_law_454 rfl (by decide) rfl ?_
          refine la_iinc (v := _ + 1) (lv' := [(3, .int _), (2, .int _), (0, .ref _), (1, .ref _)]) hC dL_law_455 (t := 3) rfl rfl (by decide) rfl ?_
          refine la_goto hC 94 dL_law_458 (by decide) ?_
          exact la_sub [2, 3, 1, 0] rfl (hbk94 _ _ _ hf)
  have hJ422 : ∀ (bk94 : Int32 → Int32 → wM → Option (Bool × wM)) (hbk94 : (∀ (x2 : Int32) (x3 : Int32) (M0 : wM), bk94 x2 x3 M0 = some (true, M1) → lAt p l e room_1 s m #[Value.ref b] below meth c Q 12 cells slots G M0 94 [(0, .ref b), (1, .ref (ga G (0))), (2, .int (x2)), (3, .int (x3))] [])) (x3 : Int32) (s0 : Int32) (s1 : Int32) (M0 : wM), fL_law_J422 L xs bk94 x3 s0 s1 M0 = some (true, M1) → lAt p l e room_1 s m #[Value.ref b] below meth c Q 12 cells slots G M0 422 [(0, .ref b), (1, .ref (ga G (0))), (3, .int (x3))] [.int (s1), .int (s0)] := by
    intro bk94 hbk94 x3 s0 s1 M0 hf
    unfold fL_law_J422 at hf
    refine la_icmp_ne hC 429 dL_law_422 (by decide) (fun c21 => ?_) (fun c21 => ?_)
    · have hf := ite_f hf c21
      refine la_iconst (v := 0) hC dL_law_429 (by decide) ?_
      refine la_istore_n (lv' := [(2, .int _), (0, .ref _), (1, .ref _), (3, .int _)]) hC dL_law_430 rfl (by decide) rfl ?_
      exact la_sub [1, 2, 0, 3] rfl (hJ431 bk94 hbk94 _ _ _ hf)
    · have hf := ite_t hf c21
      refine la_iconst (v := 1) hC dL_law_425 (by decide) ?_
      refine la_goto hC 430 dL_law_426 (by decide) ?_
      refine la_istore_n (lv' := [(2, .int _), (0, .ref _), (1, .ref _), (3, .int _)]) hC dL_law_430 rfl (by decide) rfl ?_
      exact la_sub [1, 2, 0, 3] rfl (hJ431 bk94 hbk94 _ _ _ hf)
  have hJ392 : ∀ (bk94 : Int32 → Int32 → wM → Option (Bool × wM)) (hbk94 : (∀ (x2 : Int32) (x3 : Int32) (M0 : wM), bk94 x2 x3 M0 = some (true, M1) → lAt p l e room_1 s m #[Value.ref b] below meth c Q 12 cells slots G M0 94 [(0, .ref b), (1, .ref (ga G (0))), (2, .int (x2)), (3, .int (x3))] [])) (x3 : Int32) (x6 : Int32) (x7 : Int32) (x9 : Int32) (x11 : Int32) (s0 : Int32) (s1 : Int32) (M0 : wM), fL_law_J392 L xs bk94 x3 x6 x7 x9 x11 s0 s1 M0 = some (true, M1) → lAt p l e room_1 s m #[Value.ref b] below meth c Q 12 cells slots G M0 392 [(0, .ref b), (1, .ref (ga G (0))), (3, .int (x3)), (6, .int (x6)), (7, .int (x7)), (9, .int (x9)), (11, .int (x11))] [.int (s1), .int (s0)] := by
    intro bk94 hbk94 x3 x6 x7 x9 x11 s0 s1 M0 hf
    unfold fL_law_J392 at hf
    refine la_icmp_ne hC 429 dL_law_392 (by decide) (fun c22 => ?_) (fun c22 => ?_)
    · have hf := ite_f hf c22
      refine la_iconst (v := 0) hC dL_law_429 (by decide) ?_
      refine la_istore_n (lv' := [(2, .int _), (0, .ref _), (1, .ref _), (3, .int _), (6, .int _), (7, .int _), (9, .int _), (11, .int _)]) hC dL_law_430 rfl (by decide) rfl ?_
      exact la_sub [1, 2, 0, 3] rfl (hJ431 bk94 hbk94 _ _ _ hf)
    · have hf := ite_t hf c22
      refine la_aload_n hC dL_law_395 rfl 1 rfl ?_
      refine la_iload hC dL_law_396 3 rfl ?_
      refine la_iload hC dL_law_398 4 rfl ?_
      refine la_iconst (v := 1) hC dL_law_400 (by decide) ?_
      refine la_isub hC dL_law_401 ?_
      obtain ⟨⟨v23, M23⟩, h23, hf⟩ := bd hf
      dsimp only at hf
      refine la_calli (rest := []) (lr_V hC (kX6_corrected l G h23) (cwV 2 hC.1.2.2.2.2 gL_law_X6_corrected rfl rfl rfl (by decide +kernel) ⟨Nat.le_of_ble_eq_true rfl, Nat.le_of_ble_eq_true rfl⟩) (show kd 0 = 6 from rfl) (by decide) (ce6 (show kd 0 = 6 from rfl)) rfl rfl rfl rfl (Nat.le_of_ble_eq_true rfl) hcs dL_law_402) ?_
      refine la_iload hC dL_law_405 6 rfl ?_
      refine la_ldc hC mbL_law_35 dL_law_407 ?_
      refine la_icmp_ne hC 417 dL_law_409 (by decide) (fun c24 => ?_) (fun c24 => ?_)
      · have hf := ite_f hf c24
        refine la_iload hC dL_law_417 6 rfl ?_
        refine la_iload hC dL_law_419 5 rfl ?_
        refine la_iadd hC dL_law_421 ?_
        exact la_sub [0, 1, 2] rfl (hJ422 bk94 hbk94 _ _ _ _ hf)
      · have hf := ite_t hf c24
        refine la_iload hC dL_law_412 6 rfl ?_
        refine la_goto hC 422 dL_law_414 (by decide) ?_
        exact la_sub [0, 1, 2] rfl (hJ422 bk94 hbk94 _ _ _ _ hf)
  have hJ346 : ∀ (bk94 : Int32 → Int32 → wM → Option (Bool × wM)) (hbk94 : (∀ (x2 : Int32) (x3 : Int32) (M0 : wM), bk94 x2 x3 M0 = some (true, M1) → lAt p l e room_1 s m #[Value.ref b] below meth c Q 12 cells slots G M0 94 [(0, .ref b), (1, .ref (ga G (0))), (2, .int (x2)), (3, .int (x3))] [])) (x3 : Int32) (x6 : Int32) (x7 : Int32) (x8 : Int32) (x9 : Int32) (x10 : Int32) (s0 : Int32) (M0 : wM), fL_law_J346 L xs bk94 x3 x6 x7 x8 x9 x10 s0 M0 = some (true, M1) → lAt p l e room_1 s m #[Value.ref b] below meth c Q 12 cells slots G M0 346 [(0, .ref b), (1, .ref (ga G (0))), (3, .int (x3)), (6, .int (x6)), (7, .int (x7)), (8, .int (x8)), (9, .int (x9)), (10, .int (x10))] [.int (s0)] := by
    intro bk94 hbk94 x3 x6 x7 x8 x9 x10 s0 M0 hf
    unfold fL_law_J346 at hf
    refine la_istore (lv' := [(11, .int _), (0, .ref _), (1, .ref _), (3, .int _), (6, .int _), (7, .int _), (8, .int _), (9, .int _), (10, .int _)]) hC dL_law_346 (by decide) rfl ?_
    refine la_aload_n hC dL_law_348 rfl 2 rfl ?_
    refine la_iconst (v := 0) hC dL_law_349 (by decide) ?_
    refine la_iload hC dL_law_350 6 rfl ?_
    refine la_iload hC dL_law_352 7 rfl ?_
    refine la_iadd hC dL_law_354 ?_
    obtain ⟨⟨v25, M25⟩, h25, hf⟩ := bd hf
    dsimp only at hf
    refine la_calli (rest := []) (lr_V hC (kX6_set l G h25) (cwV 2 hC.1.2.2.2.2 gL_law_X6_set rfl rfl rfl (by decide +kernel) ⟨Nat.le_of_ble_eq_true rfl, Nat.le_of_ble_eq_true rfl⟩) (show kd 0 = 6 from rfl) (by decide) (ce6 (show kd 0 = 6 from rfl)) rfl rfl rfl rfl (Nat.le_of_ble_eq_true rfl) hcs dL_law_355) ?_
    refine la_iload hC dL_law_358 6 rfl ?_
    refine la_icmp_ne hC 429 dL_law_360 (by decide) (fun c26 => ?_) (fun c26 => ?_)
    · have hf := ite_f hf c26
      refine la_iconst (v := 0) hC dL_law_429 (by decide) ?_
      refine la_istore_n (lv' := [(2, .int _), (11, .int _), (0, .ref _), (1, .ref _), (3, .int _), (6, .int _), (7, .int _), (8, .int _), (9, .int _), (10, .int _)]) hC dL_law_430 rfl (by decide) rfl ?_
      exact la_sub [2, 3, 0, 4] rfl (hJ431 bk94 hbk94 _ _ _ hf)
    · have hf := ite_t hf c26
      refine la_iload hC dL_law_363 5 rfl ?_
      refine la_if_eq hC 425 dL_law_365 (by decide) (fun c27 => ?_) (fun c27 => ?_)
      · have hf := ite_t hf c27
        refine la_iconst (v := 1) hC dL_law_425 (by decide) ?_
        refine la_goto hC 430 dL_law_426 (by decide) ?_
        refine la_istore_n (lv' := [(2, .int _), (11, .int _), (0, .ref _), (1, .ref _), (3, .int _), (6, .int _), (7, .int _), (8, .int _), (9, .int _), (10, .int _)]) hC dL_law_430 rfl (by decide) rfl ?_
        exact la_sub [2, 3, 0, 4] rfl (hJ431 bk94 hbk94 _ _ _ hf)
      · have hf := ite_f hf c27
        refine la_aload_n hC dL_law_368 rfl 2 rfl ?_
        refine la_iload hC dL_law_369 4 rfl ?_
        refine la_iconst (v := 0) hC dL_law_371 (by decide) ?_
        obtain ⟨⟨v28, M28⟩, h28, hf⟩ := bd hf
        dsimp only at hf
        refine la_calli (rest := []) (lr_V hC (kX6_raw l G h28) (cwV 2 hC.1.2.2.2.2 gL_law_X6_raw rfl rfl rfl (by decide +kernel) ⟨Nat.le_of_ble_eq_true rfl, Nat.le_of_ble_eq_true rfl⟩) (show kd 0 = 6 from rfl) (by decide) (ce6 (show kd 0 = 6 from rfl)) rfl rfl rfl rfl (Nat.le_of_ble_eq_true rfl) hcs dL_law_372) ?_
        refine la_iload hC dL_law_375 8 rfl ?_
        refine la_ldc hC mbL_law_35 dL_law_377 ?_
        refine la_icmp_ne hC 387 dL_law_379 (by decide) (fun c29 => ?_) (fun c29 => ?_)
        · have hf := ite_f hf c29
          refine la_iload hC dL_law_387 8 rfl ?_
          refine la_iload hC dL_law_389 7 rfl ?_
          refine la_iadd hC dL_law_391 ?_
          exact la_sub [1, 2, 3, 4, 5, 7, 0] rfl (hJ392 bk94 hbk94 _ _ _ _ _ _ _ _ hf)
        · have hf := ite_t hf c29
          refine la_iload hC dL_law_382 8 rfl ?_
          refine la_goto hC 392 dL_law_384 (by decide) ?_
          exact la_sub [1, 2, 3, 4, 5, 7, 0] rfl (hJ392 bk94 hbk94 _ _ _ _ _ _ _ _ hf)
  have hJ325 : ∀ (bk94 : Int32 → Int32 → wM → Option (Bool × wM)) (hbk94 : (∀ (x2 : Int32) (x3 : Int32) (M0 : wM), bk94 x2 x3 M0 = some (true, M1) → lAt p l e room_1 s m #[Value.ref b] below meth c Q 12 cells slots G M0 94 [(0, .ref b), (1, .ref (ga G (0))), (2, .int (x2)), (3, .int (x3))] [])) (x3 : Int32) (x6 : Int32) (x7 : Int32) (x8 : Int32) (x9 : Int32) (s0 : Int32) (M0 : wM), fL_law_J325 L xs bk94 x3 x6 x7 x8 x9 s0 M0 = some (true, M1) → lAt p l e room_1 s m #[Value.ref b] below meth c Q 12 cells slots G M0 325 [(0, .ref b), (1, .ref (ga G (0))), (3, .int (x3)), (6, .int (x6)), (7, .int (x7)), (8, .int (x8)), (9, .int (x9))] [.int (s0)] := by
    intro bk94 hbk94 x3 x6 x7 x8 x9 s0 M0 hf
    unfold fL_law_J325 at hf
    refine la_istore (lv' := [(10, .int _), (0, .ref _), (1, .ref _), (3, .int _), (6, .int _), (7, .int _), (8, .int _), (9, .int _)]) hC dL_law_325 (by decide) rfl ?_
    refine la_iload hC dL_law_327 5 rfl ?_
    refine la_if_ne hC 336 dL_law_329 (by decide) (fun c30 => ?_) (fun c30 => ?_)
    · have hf := ite_f hf c30
      refine la_aload_n hC dL_law_336 rfl 2 rfl ?_
      refine la_iload hC dL_law_337 4 rfl ?_
      refine la_iload hC dL_law_339 5 rfl ?_
      refine la_iconst (v := 1) hC dL_law_341 (by decide) ?_
      refine la_isub hC dL_law_342 ?_
      obtain ⟨⟨v31, M31⟩, h31, hf⟩ := bd hf
      dsimp only at hf
      refine la_calli (rest := []) (lr_V hC (kX6_corrected l G h31) (cwV 2 hC.1.2.2.2.2 gL_law_X6_corrected rfl rfl rfl (by decide +kernel) ⟨Nat.le_of_ble_eq_true rfl, Nat.le_of_ble_eq_true rfl⟩) (show kd 0 = 6 from rfl) (by decide) (ce6 (show kd 0 = 6 from rfl)) rfl rfl rfl rfl (Nat.le_of_ble_eq_true rfl) hcs dL_law_343) ?_
      exact la_sub [1, 2, 3, 4, 5, 6, 7, 0] rfl (hJ346 bk94 hbk94 _ _ _ _ _ _ _ _ hf)
    · have hf := ite_t hf c30
      refine la_iconst (v := 0) hC dL_law_332 (by decide) ?_
      refine la_goto hC 346 dL_law_333 (by decide) ?_
      exact la_sub [1, 2, 3, 4, 5, 6, 7, 0] rfl (hJ346 bk94 hbk94 _ _ _ _ _ _ _ _ hf)
  have hB94 : ∀ (bk94 : Int32 → Int32 → wM → Option (Bool × wM)) (hbk94 : (∀ (x2 : Int32) (x3 : Int32) (M0 : wM), bk94 x2 x3 M0 = some (true, M1) → lAt p l e room_1 s m #[Value.ref b] below meth c Q 12 cells slots G M0 94 [(0, .ref b), (1, .ref (ga G (0))), (2, .int (x2)), (3, .int (x3))] [])) (x2 : Int32) (x3 : Int32) (M0 : wM), fL_law_B94 L xs bk94 x2 x3 M0 = some (true, M1) → lAt p l e room_1 s m #[Value.ref b] below meth c Q 12 cells slots G M0 94 [(0, .ref b), (1, .ref (ga G (0))), (2, .int (x2)), (3, .int (x3))] [] := by
    intro bk94 hbk94 x2 x3 M0 hf
    unfold fL_law_B94 at hf
    refine la_iload_n hC dL_law_94 rfl 3 rfl ?_
    refine la_bipush (v := 36) hC dL_law_95 (by decide) ?_
    refine la_icmp_ge hC 461 dL_law_97 (by decide) (fun c32 => ?_) (fun c32 => ?_)
    · have hf := ite_t hf c32
      exact la_sub [1, 2] rfl (hJ461  _ _ hf)
    · have hf := ite_f hf c32
      refine la_iload_n hC dL_law_100 rfl 2 rfl ?_
      refine la_if_eq hC 461 dL_law_101 (by decide) (fun c33 => ?_) (fun c33 => ?_)
      · have hf := ite_t hf c33
        exact la_sub [1, 2] rfl (hJ461  _ _ hf)
      · have hf := ite_f hf c33
        refine la_aload_n hC dL_law_104 rfl 0 rfl ?_
        refine la_iconst (v := 5) hC dL_law_105 (by decide) ?_
        refine la_iload_n hC dL_law_106 rfl 3 rfl ?_
        refine la_iadd hC dL_law_107 ?_
        obtain ⟨v34, h34, hf⟩ := bd hf
        refine la_cell (rest := []) hC hX hL hcs h34 (Nat.le_of_ble_eq_true rfl) dL_law_108 ?_
        refine la_istore (lv' := [(4, .int _), (0, .ref _), (1, .ref _), (2, .int _), (3, .int _)]) hC dL_law_111 (by decide) rfl ?_
        refine la_iload hC dL_law_113 0 rfl ?_
        refine la_bipush (v := 8) hC dL_law_115 (by decide) ?_
        obtain ⟨v35, h35, hf⟩ := bd hf
        obtain ⟨hz35, rfl⟩ := dvI_some h35
        refine la_idiv hC dL_law_117 hz35 ?_
        refine la_istore (lv' := [(5, .int _), (4, .int _), (0, .ref _), (1, .ref _), (2, .int _), (3, .int _)]) hC dL_law_118 (by decide) rfl ?_
        refine la_iload hC dL_law_120 0 rfl ?_
        refine la_iconst (v := 3) hC dL_law_122 (by decide) ?_
        obtain ⟨v36, h36, hf⟩ := bd hf
        obtain ⟨hz36, rfl⟩ := rmI_some h36
        refine la_irem hC dL_law_123 hz36 ?_
        refine la_istore (lv' := [(6, .int _), (5, .int _), (4, .int _), (0, .ref _), (1, .ref _), (2, .int _), (3, .int _)]) hC dL_law_124 (by decide) rfl ?_
        refine la_aload_n hC dL_law_126 rfl 4 rfl ?_
        refine la_iconst (v := 1) hC dL_law_127 (by decide) ?_
        refine la_iload hC dL_law_128 0 rfl ?_
        refine la_iadd hC dL_law_130 ?_
        obtain ⟨⟨v37, M37⟩, h37, hf⟩ := bd hf
        dsimp only at hf
        refine la_calli (rest := []) (lr_V hC (kX6_count l G h37) (cwV 1 hC.1.2.2.2.2 gL_law_X6_count rfl rfl rfl (by decide +kernel) ⟨Nat.le_of_ble_eq_true rfl, Nat.le_of_ble_eq_true rfl⟩) (show kd 0 = 6 from rfl) (by decide) (ce6 (show kd 0 = 6 from rfl)) rfl rfl rfl rfl (Nat.le_of_ble_eq_true rfl) hcs dL_law_131) ?_
        refine la_istore (lv' := [(7, .int _), (6, .int _), (5, .int _), (4, .int _), (0, .ref _), (1, .ref _), (2, .int _), (3, .int _)]) hC dL_law_134 (by decide) rfl ?_
        refine la_iload hC dL_law_136 3 rfl ?_
        refine la_bipush (v := 8) hC dL_law_138 (by decide) ?_
        obtain ⟨v38, h38, hf⟩ := bd hf
        obtain ⟨hz38, rfl⟩ := rmI_some h38
        refine la_irem hC dL_law_140 hz38 ?_
        refine la_bipush (v := 6) hC dL_law_141 (by decide) ?_
        refine la_icmp_ge hC 249 dL_law_143 (by decide) (fun c39 => ?_) (fun c39 => ?_)
        · have hf := ite_t hf c39
          refine la_iload hC dL_law_249 3 rfl ?_
          refine la_bipush (v := 8) hC dL_law_251 (by decide) ?_
          obtain ⟨v40, h40, hf⟩ := bd hf
          obtain ⟨hz40, rfl⟩ := rmI_some h40
          refine la_irem hC dL_law_253 hz40 ?_
          refine la_bipush (v := 6) hC dL_law_254 (by decide) ?_
          refine la_icmp_ne hC 293 dL_law_256 (by decide) (fun c41 => ?_) (fun c41 => ?_)
          · have hf := ite_f hf c41
            refine la_aload_n hC dL_law_293 rfl 5 rfl ?_
            refine la_bipush (v := 10) hC dL_law_294 (by decide) ?_
            obtain ⟨⟨v42, M42⟩, h42, hf⟩ := bd hf
            dsimp only at hf
            refine la_calli (rest := []) (lr_V hC (kX6_count l G h42) (cwV 1 hC.1.2.2.2.2 gL_law_X6_count rfl rfl rfl (by decide +kernel) ⟨Nat.le_of_ble_eq_true rfl, Nat.le_of_ble_eq_true rfl⟩) (show kd 0 = 6 from rfl) (by decide) (ce6 (show kd 0 = 6 from rfl)) rfl rfl rfl rfl (Nat.le_of_ble_eq_true rfl) hcs dL_law_296) ?_
            refine la_istore (lv' := [(8, .int _), (7, .int _), (6, .int _), (5, .int _), (4, .int _), (0, .ref _), (1, .ref _), (2, .int _), (3, .int _)]) hC dL_law_299 (by decide) rfl ?_
            refine la_iload hC dL_law_301 3 rfl ?_
            refine la_sipush (v := 5000) hC dL_law_303 (by decide) ?_
            obtain ⟨v43, h43, hf⟩ := bd hf
            obtain ⟨hz43, rfl⟩ := rmI_some h43
            refine la_irem hC dL_law_306 hz43 ?_
            refine la_istore (lv' := [(9, .int _), (8, .int _), (7, .int _), (6, .int _), (5, .int _), (4, .int _), (0, .ref _), (1, .ref _), (2, .int _), (3, .int _)]) hC dL_law_307 (by decide) rfl ?_
            refine la_iload hC dL_law_309 2 rfl ?_
            refine la_if_ne hC 318 dL_law_311 (by decide) (fun c44 => ?_) (fun c44 => ?_)
            · have hf := ite_f hf c44
              refine la_aload_n hC dL_law_318 rfl 7 rfl ?_
              refine la_iload hC dL_law_319 3 rfl ?_
              refine la_iconst (v := 0) hC dL_law_321 (by decide) ?_
              obtain ⟨⟨v45, M45⟩, h45, hf⟩ := bd hf
              dsimp only at hf
              refine la_calli (rest := []) (lr_V hC (kX6_raw l G h45) (cwV 2 hC.1.2.2.2.2 gL_law_X6_raw rfl rfl rfl (by decide +kernel) ⟨Nat.le_of_ble_eq_true rfl, Nat.le_of_ble_eq_true rfl⟩) (show kd 0 = 6 from rfl) (by decide) (ce6 (show kd 0 = 6 from rfl)) rfl rfl rfl rfl (Nat.le_of_ble_eq_true rfl) hcs dL_law_322) ?_
              exact la_sub [6, 7, 9, 3, 2, 1, 0] rfl (hJ325 bk94 hbk94 _ _ _ _ _ _ _ hf)
            · have hf := ite_t hf c44
              refine la_iconst (v := 0) hC dL_law_314 (by decide) ?_
              refine la_goto hC 325 dL_law_315 (by decide) ?_
              exact la_sub [6, 7, 9, 3, 2, 1, 0] rfl (hJ325 bk94 hbk94 _ _ _ _ _ _ _ hf)
          · have hf := ite_t hf c41
            refine la_iload hC dL_law_259 0 rfl ?_
            refine la_if_eq hC 284 dL_law_261 (by decide) (fun c46 => ?_) (fun c46 => ?_)
            · have hf := ite_t hf c46
              refine la_iconst (v := 1) hC dL_law_284 (by decide) ?_
              refine la_goto hC 289 dL_law_285 (by decide) ?_
              refine la_istore_n (lv' := [(2, .int _), (7, .int _), (6, .int _), (5, .int _), (4, .int _), (0, .ref _), (1, .ref _), (3, .int _)]) hC dL_law_289 rfl (by decide) rfl ?_
              refine la_goto hC 431 dL_law_290 (by decide) ?_
              exact la_sub [5, 6, 0, 7] rfl (hJ431 bk94 hbk94 _ _ _ hf)
            · have hf := ite_f hf c46
              refine la_aload_n hC dL_law_264 rfl 5 rfl ?_
              refine la_iload hC dL_law_265 1 rfl ?_
              refine la_iload hC dL_law_267 2 rfl ?_
              refine la_iconst (v := 4) hC dL_law_269 (by decide) ?_
              obtain ⟨v47, h47, hf⟩ := bd hf
              obtain ⟨hz47, rfl⟩ := dvI_some h47
              refine la_idiv hC dL_law_270 hz47 ?_
              refine la_iload hC dL_law_271 0 rfl ?_
              obtain ⟨v48, h48, hf⟩ := bd hf
              obtain ⟨hz48, rfl⟩ := rmI_some h48
              refine la_irem hC dL_law_273 hz48 ?_
              obtain ⟨⟨v49, M49⟩, h49, hf⟩ := bd hf
              dsimp only at hf
              refine la_calli (rest := []) (lr_V hC (kX6_drop l G h49) (cwV 2 hC.1.2.2.2.2 gL_law_X6_drop rfl rfl rfl (by decide +kernel) ⟨Nat.le_of_ble_eq_true rfl, Nat.le_of_ble_eq_true rfl⟩) (show kd 0 = 6 from rfl) (by decide) (ce6 (show kd 0 = 6 from rfl)) rfl rfl rfl rfl (Nat.le_of_ble_eq_true rfl) hcs dL_law_274) ?_
              refine la_iload hC dL_law_277 0 rfl ?_
              refine la_iconst (v := 1) hC dL_law_279 (by decide) ?_
              refine la_isub hC dL_law_280 ?_
              refine la_icmp_ne hC 288 dL_law_281 (by decide) (fun c50 => ?_) (fun c50 => ?_)
              · have hf := ite_f hf c50
                refine la_iconst (v := 0) hC dL_law_288 (by decide) ?_
                refine la_istore_n (lv' := [(2, .int _), (7, .int _), (6, .int _), (5, .int _), (4, .int _), (0, .ref _), (1, .ref _), (3, .int _)]) hC dL_law_289 rfl (by decide) rfl ?_
                refine la_goto hC 431 dL_law_290 (by decide) ?_
                exact la_sub [5, 6, 0, 7] rfl (hJ431 bk94 hbk94 _ _ _ hf)
              · have hf := ite_t hf c50
                refine la_iconst (v := 1) hC dL_law_284 (by decide) ?_
                refine la_goto hC 289 dL_law_285 (by decide) ?_
                refine la_istore_n (lv' := [(2, .int _), (7, .int _), (6, .int _), (5, .int _), (4, .int _), (0, .ref _), (1, .ref _), (3, .int _)]) hC dL_law_289 rfl (by decide) rfl ?_
                refine la_goto hC 431 dL_law_290 (by decide) ?_
                exact la_sub [5, 6, 0, 7] rfl (hJ431 bk94 hbk94 _ _ _ hf)
        · have hf := ite_f hf c39
          refine la_aload_n hC dL_law_146 rfl 5 rfl ?_
          refine la_iload hC dL_law_147 1 rfl ?_
          refine la_iload hC dL_law_149 2 rfl ?_
          refine la_iconst (v := 4) hC dL_law_151 (by decide) ?_
          obtain ⟨v51, h51, hf⟩ := bd hf
          obtain ⟨hz51, rfl⟩ := dvI_some h51
          refine la_idiv hC dL_law_152 hz51 ?_
          refine la_iconst (v := 3) hC dL_law_153 (by decide) ?_
          obtain ⟨v52, h52, hf⟩ := bd hf
          obtain ⟨hz52, rfl⟩ := rmI_some h52
          refine la_irem hC dL_law_154 hz52 ?_
          refine la_iload hC dL_law_155 2 rfl ?_
          refine la_bipush (v := 16) hC dL_law_157 (by decide) ?_
          obtain ⟨v53, h53, hf⟩ := bd hf
          obtain ⟨hz53, rfl⟩ := dvI_some h53
          refine la_idiv hC dL_law_159 hz53 ?_
          refine la_bipush (v := 105) hC dL_law_160 (by decide) ?_
          obtain ⟨v54, h54, hf⟩ := bd hf
          obtain ⟨hz54, rfl⟩ := rmI_some h54
          refine la_irem hC dL_law_162 hz54 ?_
          refine la_ldc hC mbL_law_63 dL_law_163 ?_
          refine la_iload hC dL_law_165 2 rfl ?_
          refine la_bipush (v := 32) hC dL_law_167 (by decide) ?_
          obtain ⟨v55, h55, hf⟩ := bd hf
          obtain ⟨hz55, rfl⟩ := dvI_some h55
          refine la_idiv hC dL_law_169 hz55 ?_
          refine la_sipush (v := 500) hC dL_law_170 (by decide) ?_
          obtain ⟨v56, h56, hf⟩ := bd hf
          obtain ⟨hz56, rfl⟩ := rmI_some h56
          refine la_irem hC dL_law_173 hz56 ?_
          refine la_iadd hC dL_law_174 ?_
          refine la_iload hC dL_law_175 2 rfl ?_
          refine la_bipush (v := 64) hC dL_law_177 (by decide) ?_
          obtain ⟨v57, h57, hf⟩ := bd hf
          obtain ⟨hz57, rfl⟩ := dvI_some h57
          refine la_idiv hC dL_law_179 hz57 ?_
          refine la_sipush (v := 300) hC dL_law_180 (by decide) ?_
          obtain ⟨v58, h58, hf⟩ := bd hf
          obtain ⟨hz58, rfl⟩ := rmI_some h58
          refine la_irem hC dL_law_183 hz58 ?_
          refine la_bipush (v := 80) hC dL_law_184 (by decide) ?_
          refine la_isub hC dL_law_186 ?_
          obtain ⟨⟨v59, M59⟩, h59, hf⟩ := bd hf
          dsimp only at hf
          refine la_calli (rest := []) (lr_V hC (kX6_read l G h59) (cwV 5 hC.1.2.2.2.2 gL_law_X6_read rfl rfl rfl (by decide +kernel) ⟨Nat.le_of_ble_eq_true rfl, Nat.le_of_ble_eq_true rfl⟩) (show kd 0 = 6 from rfl) (by decide) (ce6 (show kd 0 = 6 from rfl)) rfl rfl rfl rfl (Nat.le_of_ble_eq_true rfl) hcs dL_law_187) ?_
          refine la_istore (lv' := [(8, .int _), (7, .int _), (6, .int _), (5, .int _), (4, .int _), (0, .ref _), (1, .ref _), (2, .int _), (3, .int _)]) hC dL_law_190 (by decide) rfl ?_
          refine la_iload hC dL_law_192 0 rfl ?_
          refine la_if_lt hC 227 dL_law_194 (by decide) (fun c60 => ?_) (fun c60 => ?_)
          · have hf := ite_t hf c60
            refine la_aload_n hC dL_law_227 rfl 6 rfl ?_
            refine la_iconst (v := 1) hC dL_law_228 (by decide) ?_
            refine la_iload hC dL_law_229 2 rfl ?_
            refine la_iadd hC dL_law_231 ?_
            obtain ⟨⟨v61, M61⟩, h61, hf⟩ := bd hf
            dsimp only at hf
            refine la_calli (rest := []) (lr_V hC (kX6_count l G h61) (cwV 1 hC.1.2.2.2.2 gL_law_X6_count rfl rfl rfl (by decide +kernel) ⟨Nat.le_of_ble_eq_true rfl, Nat.le_of_ble_eq_true rfl⟩) (show kd 0 = 6 from rfl) (by decide) (ce6 (show kd 0 = 6 from rfl)) rfl rfl rfl rfl (Nat.le_of_ble_eq_true rfl) hcs dL_law_232) ?_
            refine la_iload hC dL_law_235 1 rfl ?_
            refine la_icmp_ne hC 244 dL_law_237 (by decide) (fun c62 => ?_) (fun c62 => ?_)
            · have hf := ite_f hf c62
              refine la_iconst (v := 0) hC dL_law_244 (by decide) ?_
              refine la_istore_n (lv' := [(2, .int _), (8, .int _), (7, .int _), (6, .int _), (5, .int _), (4, .int _), (0, .ref _), (1, .ref _), (3, .int _)]) hC dL_law_245 rfl (by decide) rfl ?_
              refine la_goto hC 431 dL_law_246 (by decide) ?_
              exact la_sub [6, 7, 0, 8] rfl (hJ431 bk94 hbk94 _ _ _ hf)
            · have hf := ite_t hf c62
              refine la_iconst (v := 1) hC dL_law_240 (by decide) ?_
              refine la_goto hC 245 dL_law_241 (by decide) ?_
              refine la_istore_n (lv' := [(2, .int _), (8, .int _), (7, .int _), (6, .int _), (5, .int _), (4, .int _), (0, .ref _), (1, .ref _), (3, .int _)]) hC dL_law_245 rfl (by decide) rfl ?_
              refine la_goto hC 431 dL_law_246 (by decide) ?_
              exact la_sub [6, 7, 0, 8] rfl (hJ431 bk94 hbk94 _ _ _ hf)
          · have hf := ite_f hf c60
            refine la_aload_n hC dL_law_197 rfl 6 rfl ?_
            refine la_iconst (v := 1) hC dL_law_198 (by decide) ?_
            refine la_iload hC dL_law_199 2 rfl ?_
            refine la_iadd hC dL_law_201 ?_
            obtain ⟨⟨v63, M63⟩, h63, hf⟩ := bd hf
            dsimp only at hf
            refine la_calli (rest := []) (lr_V hC (kX6_count l G h63) (cwV 1 hC.1.2.2.2.2 gL_law_X6_count rfl rfl rfl (by decide +kernel) ⟨Nat.le_of_ble_eq_true rfl, Nat.le_of_ble_eq_true rfl⟩) (show kd 0 = 6 from rfl) (by decide) (ce6 (show kd 0 = 6 from rfl)) rfl rfl rfl rfl (Nat.le_of_ble_eq_true rfl) hcs dL_law_202) ?_
            refine la_iload hC dL_law_205 1 rfl ?_
            refine la_iconst (v := 1) hC dL_law_207 (by decide) ?_
            refine la_iadd hC dL_law_208 ?_
            refine la_icmp_ne hC 223 dL_law_209 (by decide) (fun c64 => ?_) (fun c64 => ?_)
            · have hf := ite_f hf c64
              refine la_iconst (v := 0) hC dL_law_223 (by decide) ?_
              refine la_goto hC 245 dL_law_224 (by decide) ?_
              refine la_istore_n (lv' := [(2, .int _), (8, .int _), (7, .int _), (6, .int _), (5, .int _), (4, .int _), (0, .ref _), (1, .ref _), (3, .int _)]) hC dL_law_245 rfl (by decide) rfl ?_
              refine la_goto hC 431 dL_law_246 (by decide) ?_
              exact la_sub [6, 7, 0, 8] rfl (hJ431 bk94 hbk94 _ _ _ hf)
            · have hf := ite_t hf c64
              refine la_iload hC dL_law_212 0 rfl ?_
              refine la_iload hC dL_law_214 1 rfl ?_
              refine la_icmp_gt hC 223 dL_law_216 (by decide) (fun c65 => ?_) (fun c65 => ?_)
              · have hf := ite_t hf c65
                refine la_iconst (v := 0) hC dL_law_223 (by decide) ?_
                refine la_goto hC 245 dL_law_224 (by decide) ?_
                refine la_istore_n (lv' := [(2, .int _), (8, .int _), (7, .int _), (6, .int _), (5, .int _), (4, .int _), (0, .ref _), (1, .ref _), (3, .int _)]) hC dL_law_245 rfl (by decide) rfl ?_
                refine la_goto hC 431 dL_law_246 (by decide) ?_
                exact la_sub [6, 7, 0, 8] rfl (hJ431 bk94 hbk94 _ _ _ hf)
              · have hf := ite_f hf c65
                refine la_iconst (v := 1) hC dL_law_219 (by decide) ?_
                refine la_goto hC 245 dL_law_220 (by decide) ?_
                refine la_istore_n (lv' := [(2, .int _), (8, .int _), (7, .int _), (6, .int _), (5, .int _), (4, .int _), (0, .ref _), (1, .ref _), (3, .int _)]) hC dL_law_245 rfl (by decide) rfl ?_
                refine la_goto hC 431 dL_law_246 (by decide) ?_
                exact la_sub [6, 7, 0, 8] rfl (hJ431 bk94 hbk94 _ _ _ hf)
  have hL94 : ∀ (n : Nat) (x2 : Int32) (x3 : Int32) (M0 : wM), fL_law_L94 L xs  n x2 x3 M0 = some (true, M1) → lAt p l e room_1 s m #[Value.ref b] below meth c Q 12 cells slots G M0 94 [(0, .ref b), (1, .ref (ga G (0))), (2, .int (x2)), (3, .int (x3))] [] := by
    intro  n
    induction n with
    | zero =>
      intro x2 x3 M0 hf
      exact absurd hf (by simp [fL_law_L94])
    | succ n ih =>
      intro x2 x3 M0 hf
      exact hB94  (fL_law_L94 L xs  n) ih x2 x3 M0 hf
  have hB30 : ∀ (bk30 : Int32 → Int32 → wM → Option (Bool × wM)) (hbk30 : (∀ (x2 : Int32) (x3 : Int32) (M0 : wM), bk30 x2 x3 M0 = some (true, M1) → lAt p l e room_1 s m #[Value.ref b] below meth c Q 12 cells slots G M0 30 [(0, .ref b), (1, .ref (ga G (0))), (2, .int (x2)), (3, .int (x3))] [])) (x2 : Int32) (x3 : Int32) (M0 : wM), fL_law_B30 L xs bk30 x2 x3 M0 = some (true, M1) → lAt p l e room_1 s m #[Value.ref b] below meth c Q 12 cells slots G M0 30 [(0, .ref b), (1, .ref (ga G (0))), (2, .int (x2)), (3, .int (x3))] [] := by
    intro bk30 hbk30 x2 x3 M0 hf
    unfold fL_law_B30 at hf
    refine la_iload_n hC dL_law_30 rfl 3 rfl ?_
    refine la_iconst (v := 5) hC dL_law_31 (by decide) ?_
    refine la_icmp_ge hC 92 dL_law_32 (by decide) (fun c66 => ?_) (fun c66 => ?_)
    · have hf := ite_t hf c66
      refine la_iconst (v := 0) hC dL_law_92 (by decide) ?_
      refine la_istore_n (lv' := [(3, .int _), (0, .ref _), (1, .ref _), (2, .int _)]) hC dL_law_93 rfl (by decide) rfl ?_
      exact la_sub [1, 2, 3, 0] rfl (hL94 FU _ _ _ hf)
    · have hf := ite_f hf c66
      refine la_iload_n hC dL_law_35 rfl 2 rfl ?_
      refine la_if_eq hC 92 dL_law_36 (by decide) (fun c67 => ?_) (fun c67 => ?_)
      · have hf := ite_t hf c67
        refine la_iconst (v := 0) hC dL_law_92 (by decide) ?_
        refine la_istore_n (lv' := [(3, .int _), (0, .ref _), (1, .ref _), (2, .int _)]) hC dL_law_93 rfl (by decide) rfl ?_
        exact la_sub [1, 2, 3, 0] rfl (hL94 FU _ _ _ hf)
      · have hf := ite_f hf c67
        refine la_aload_n hC dL_law_39 rfl 0 rfl ?_
        refine la_iload_n hC dL_law_40 rfl 3 rfl ?_
        obtain ⟨v68, h68, hf⟩ := bd hf
        refine la_cell (rest := []) hC hX hL hcs h68 (Nat.le_of_ble_eq_true rfl) dL_law_41 ?_
        refine la_istore (lv' := [(4, .int _), (0, .ref _), (1, .ref _), (2, .int _), (3, .int _)]) hC dL_law_44 (by decide) rfl ?_
        refine la_aload_n hC dL_law_46 rfl 2 rfl ?_
        refine la_bipush (v := 25) hC dL_law_47 (by decide) ?_
        refine la_iload_n hC dL_law_49 rfl 4 rfl ?_
        refine la_imul hC dL_law_50 ?_
        refine la_ldc hC mbL_law_59 dL_law_51 ?_
        refine la_iload hC dL_law_53 0 rfl ?_
        refine la_sipush (v := 300) hC dL_law_55 (by decide) ?_
        obtain ⟨v69, h69, hf⟩ := bd hf
        obtain ⟨hz69, rfl⟩ := rmI_some h69
        refine la_irem hC dL_law_58 hz69 ?_
        refine la_iadd hC dL_law_59 ?_
        refine la_iload hC dL_law_60 0 rfl ?_
        refine la_sipush (v := 512) hC dL_law_62 (by decide) ?_
        obtain ⟨v70, h70, hf⟩ := bd hf
        obtain ⟨hz70, rfl⟩ := dvI_some h70
        refine la_idiv hC dL_law_65 hz70 ?_
        refine la_sipush (v := 400) hC dL_law_66 (by decide) ?_
        obtain ⟨v71, h71, hf⟩ := bd hf
        obtain ⟨hz71, rfl⟩ := rmI_some h71
        refine la_irem hC dL_law_69 hz71 ?_
        refine la_bipush (v := 100) hC dL_law_70 (by decide) ?_
        refine la_isub hC dL_law_72 ?_
        obtain ⟨⟨v72, M72⟩, h72, hf⟩ := bd hf
        dsimp only at hf
        refine la_calli (rest := []) (lr_V hC (kX6_base l G h72) (cwV 3 hC.1.2.2.2.2 gL_law_X6_base rfl rfl rfl (by decide +kernel) ⟨Nat.le_of_ble_eq_true rfl, Nat.le_of_ble_eq_true rfl⟩) (show kd 0 = 6 from rfl) (by decide) (ce6 (show kd 0 = 6 from rfl)) rfl rfl rfl rfl (Nat.le_of_ble_eq_true rfl) hcs dL_law_73) ?_
        refine la_iload_n hC dL_law_76 rfl 4 rfl ?_
        refine la_icmp_ne hC 84 dL_law_77 (by decide) (fun c73 => ?_) (fun c73 => ?_)
        · have hf := ite_f hf c73
          refine la_iconst (v := 0) hC dL_law_84 (by decide) ?_
          refine la_istore_n (lv' := [(2, .int _), (4, .int _), (0, .ref _), (1, .ref _), (3, .int _)]) hC dL_law_85 rfl (by decide) rfl ?_
          refine la_iinc (v := _ + 1) (lv' := [(3, .int _), (2, .int _), (4, .int _), (0, .ref _), (1, .ref _)]) hC dL_law_86 (t := 4) rfl rfl (by decide) rfl ?_
          refine la_goto hC 30 dL_law_89 (by decide) ?_
          exact la_sub [3, 4, 1, 0] rfl (hbk30 _ _ _ hf)
        · have hf := ite_t hf c73
          refine la_iconst (v := 1) hC dL_law_80 (by decide) ?_
          refine la_goto hC 85 dL_law_81 (by decide) ?_
          refine la_istore_n (lv' := [(2, .int _), (4, .int _), (0, .ref _), (1, .ref _), (3, .int _)]) hC dL_law_85 rfl (by decide) rfl ?_
          refine la_iinc (v := _ + 1) (lv' := [(3, .int _), (2, .int _), (4, .int _), (0, .ref _), (1, .ref _)]) hC dL_law_86 (t := 4) rfl rfl (by decide) rfl ?_
          refine la_goto hC 30 dL_law_89 (by decide) ?_
          exact la_sub [3, 4, 1, 0] rfl (hbk30 _ _ _ hf)
  have hL30 : ∀ (n : Nat) (x2 : Int32) (x3 : Int32) (M0 : wM), fL_law_L30 L xs  n x2 x3 M0 = some (true, M1) → lAt p l e room_1 s m #[Value.ref b] below meth c Q 12 cells slots G M0 30 [(0, .ref b), (1, .ref (ga G (0))), (2, .int (x2)), (3, .int (x3))] [] := by
    intro  n
    induction n with
    | zero =>
      intro x2 x3 M0 hf
      exact absurd hf (by simp [fL_law_L30])
    | succ n ih =>
      intro x2 x3 M0 hf
      exact hB30  (fL_law_L30 L xs  n) ih x2 x3 M0 hf
  unfold fL_law at hf
  refine la_aload_n hC dL_law_8 rfl 0 rfl ?_
  obtain ⟨⟨v74, M74⟩, h74, hf⟩ := bd hf
  dsimp only at hf
  refine la_calli (rest := []) (lr_S hC (kL_holds l G h74) (va_cwS 1 hC.1.2.2.2.2 gL_law_L_holds rfl rfl rfl (by decide +kernel) ⟨Nat.le_of_ble_eq_true rfl, Nat.le_of_ble_eq_true rfl⟩) rfl rfl (Nat.le_of_ble_eq_true rfl) hcs dL_law_9) ?_
  refine la_if_eq hC 26 dL_law_12 (by decide) (fun c75 => ?_) (fun c75 => ?_)
  · have hf := ite_t hf c75
    refine la_iconst (v := 0) hC dL_law_26 (by decide) ?_
    refine la_istore_n (lv' := [(2, .int _), (1, .ref _), (0, .ref _)]) hC dL_law_27 rfl (by decide) rfl ?_
    refine la_iconst (v := 0) hC dL_law_28 (by decide) ?_
    refine la_istore_n (lv' := [(3, .int _), (2, .int _), (1, .ref _), (0, .ref _)]) hC dL_law_29 rfl (by decide) rfl ?_
    exact la_sub [3, 2, 1, 0] rfl (hL30 FU _ _ _ hf)
  · have hf := ite_f hf c75
    refine la_aload_n hC dL_law_15 rfl 0 rfl ?_
    obtain ⟨⟨v76, M76⟩, h76, hf⟩ := bd hf
    dsimp only at hf
    refine la_calli (rest := []) (lr_S hC (kL_level l G h76) (va_cwS 1 hC.1.2.2.2.2 gL_law_L_level rfl rfl rfl (by decide +kernel) ⟨Nat.le_of_ble_eq_true rfl, Nat.le_of_ble_eq_true rfl⟩) rfl rfl (Nat.le_of_ble_eq_true rfl) hcs dL_law_16) ?_
    refine la_if_eq hC 26 dL_law_19 (by decide) (fun c77 => ?_) (fun c77 => ?_)
    · have hf := ite_t hf c77
      refine la_iconst (v := 0) hC dL_law_26 (by decide) ?_
      refine la_istore_n (lv' := [(2, .int _), (1, .ref _), (0, .ref _)]) hC dL_law_27 rfl (by decide) rfl ?_
      refine la_iconst (v := 0) hC dL_law_28 (by decide) ?_
      refine la_istore_n (lv' := [(3, .int _), (2, .int _), (1, .ref _), (0, .ref _)]) hC dL_law_29 rfl (by decide) rfl ?_
      exact la_sub [3, 2, 1, 0] rfl (hL30 FU _ _ _ hf)
    · have hf := ite_f hf c77
      refine la_iconst (v := 1) hC dL_law_22 (by decide) ?_
      refine la_goto hC 27 dL_law_23 (by decide) ?_
      refine la_istore_n (lv' := [(2, .int _), (1, .ref _), (0, .ref _)]) hC dL_law_27 rfl (by decide) rfl ?_
      refine la_iconst (v := 0) hC dL_law_28 (by decide) ?_
      refine la_istore_n (lv' := [(3, .int _), (2, .int _), (1, .ref _), (0, .ref _)]) hC dL_law_29 rfl (by decide) rfl ?_
      exact la_sub [3, 2, 1, 0] rfl (hL30 FU _ _ _ hf)
end LAWC
