abbrev rmL_holds : Room := { frames := 7, cells := 0, slots := 0, locals := 179 }
theorem mbL_holds_35 : Cond.constant RL 35 (-2000000004) ∈ wsL_holds := by decide +kernel
set_option maxHeartbeats 4000000 in
set_option maxRecDepth 100000 in
theorem kL_holds (l : Launch) (G : wG)  {M0 M1 : wM} {b : Bool} (hf : fL_holds  M0 = some (b, M1)) : mI l yL_holds wsL_holds rmL_holds G [.ref (ga G (0))] M0 (b2 b) M1 := by
  refine mI.of (cc := cL_holds) (nL := 6) (ret := (some .boolean)) (own := RL) (lv := [(0, .ref (ga G (0)))]) (plainFor_of_name (by decide +kernel)) rfl rfl (Nat.le_of_ble_eq_true rfl) rfl ?_
  intro p e s m args below meth c hC hr hlk
  have hJ463 : ∀ (x1 : Int32) (x2 : Int32) (M0 : wM), fL_holds_J463   x1 x2 M0 = some (b, M1) → wAt p l e rmL_holds s m args below meth c (qI below args s G (b2 b) M1) 6 G M0 463 [(0, .ref (ga G (0))), (1, .int (x1)), (2, .int (x2))] [] := by
    intro  x1 x2 M0 hf
    unfold fL_holds_J463 at hf
    refine wa_iload_n hC dL_holds_463 rfl 1 rfl ?_
    refine wa_if_eq hC 497 dL_holds_464 (by decide) (fun c1 => ?_) (fun c1 => ?_)
    · have hf := ite_t hf c1
      refine wa_iconst (v := 0) hC dL_holds_497 (by decide) ?_
      exact wa_zret hC hlk hr (congrArg b2 (congrArg Prod.fst (so_inj hf))) (congrArg Prod.snd (so_inj hf)) dL_holds_498
    · have hf := ite_f hf c1
      refine wa_iload_n hC dL_holds_467 rfl 2 rfl ?_
      refine wa_aload_n hC dL_holds_468 rfl 0 rfl ?_
      refine wa_bipush (v := 13) hC dL_holds_469 (by decide) ?_
      obtain ⟨⟨v2, M2⟩, h2, hf⟩ := bd hf
      dsimp only at hf
      refine wa_calli (rest := [_]) (wr_V hC (kX6_count l G h2) (cwV 1 hC.1.2.2.2.2 gL_holds_X6_count rfl rfl rfl (by decide +kernel) ⟨Nat.le_of_ble_eq_true rfl, Nat.le_of_ble_eq_true rfl⟩) (show kd 0 = 6 from rfl) (by decide) (ce6 (show kd 0 = 6 from rfl)) rfl rfl rfl rfl (Nat.le_of_ble_eq_true rfl) dL_holds_471) ?_
      refine wa_icmp_gt hC 497 dL_holds_474 (by decide) (fun c3 => ?_) (fun c3 => ?_)
      · have hf := ite_t hf c3
        refine wa_iconst (v := 0) hC dL_holds_497 (by decide) ?_
        exact wa_zret hC hlk hr (congrArg b2 (congrArg Prod.fst (so_inj hf))) (congrArg Prod.snd (so_inj hf)) dL_holds_498
      · have hf := ite_f hf c3
        refine wa_iload_n hC dL_holds_477 rfl 2 rfl ?_
        refine wa_aload_n hC dL_holds_478 rfl 0 rfl ?_
        refine wa_bipush (v := 13) hC dL_holds_479 (by decide) ?_
        obtain ⟨⟨v4, M4⟩, h4, hf⟩ := bd hf
        dsimp only at hf
        refine wa_calli (rest := [_]) (wr_V hC (kX6_count l G h4) (cwV 1 hC.1.2.2.2.2 gL_holds_X6_count rfl rfl rfl (by decide +kernel) ⟨Nat.le_of_ble_eq_true rfl, Nat.le_of_ble_eq_true rfl⟩) (show kd 0 = 6 from rfl) (by decide) (ce6 (show kd 0 = 6 from rfl)) rfl rfl rfl rfl (Nat.le_of_ble_eq_true rfl) dL_holds_481) ?_
        refine wa_aload_n hC dL_holds_484 rfl 0 rfl ?_
        refine wa_iconst (v := 5) hC dL_holds_485 (by decide) ?_
        obtain ⟨⟨v5, M5⟩, h5, hf⟩ := bd hf
        dsimp only at hf
        refine wa_calli (rest := [_, _]) (wr_V hC (kX6_count l G h5) (cwV 1 hC.1.2.2.2.2 gL_holds_X6_count rfl rfl rfl (by decide +kernel) ⟨Nat.le_of_ble_eq_true rfl, Nat.le_of_ble_eq_true rfl⟩) (show kd 0 = 6 from rfl) (by decide) (ce6 (show kd 0 = 6 from rfl)) rfl rfl rfl rfl (Nat.le_of_ble_eq_true rfl) dL_holds_486) ?_
        refine wa_isub hC dL_holds_489 ?_
        refine wa_icmp_lt hC 497 dL_holds_490 (by decide) (fun c6 => ?_) (fun c6 => ?_)
        · have hf := ite_t hf c6
          refine wa_iconst (v := 0) hC dL_holds_497 (by decide) ?_
          exact wa_zret hC hlk hr (congrArg b2 (congrArg Prod.fst (so_inj hf))) (congrArg Prod.snd (so_inj hf)) dL_holds_498
        · have hf := ite_f hf c6
          refine wa_iconst (v := 1) hC dL_holds_493 (by decide) ?_
          refine wa_goto hC 498 dL_holds_494 (by decide) ?_
          exact wa_zret hC hlk hr (congrArg b2 (congrArg Prod.fst (so_inj hf))) (congrArg Prod.snd (so_inj hf)) dL_holds_498
  have hB395 : ∀ (bk395 : Int32 → Int32 → Int32 → wM → Option (Bool × wM)) (hbk395 : (∀ (x1 : Int32) (x2 : Int32) (x3 : Int32) (M0 : wM), bk395 x1 x2 x3 M0 = some (b, M1) → wAt p l e rmL_holds s m args below meth c (qI below args s G (b2 b) M1) 6 G M0 395 [(0, .ref (ga G (0))), (1, .int (x1)), (2, .int (x2)), (3, .int (x3))] [])) (x1 : Int32) (x2 : Int32) (x3 : Int32) (M0 : wM), fL_holds_B395  bk395 x1 x2 x3 M0 = some (b, M1) → wAt p l e rmL_holds s m args below meth c (qI below args s G (b2 b) M1) 6 G M0 395 [(0, .ref (ga G (0))), (1, .int (x1)), (2, .int (x2)), (3, .int (x3))] [] := by
    intro bk395 hbk395 x1 x2 x3 M0 hf
    unfold fL_holds_B395 at hf
    refine wa_iload_n hC dL_holds_395 rfl 3 rfl ?_
    refine wa_bipush (v := 10) hC dL_holds_396 (by decide) ?_
    refine wa_icmp_ge hC 463 dL_holds_398 (by decide) (fun c7 => ?_) (fun c7 => ?_)
    · have hf := ite_t hf c7
      exact wa_sub [0, 1, 2] rfl (hJ463  _ _ _ hf)
    · have hf := ite_f hf c7
      refine wa_iload_n hC dL_holds_401 rfl 1 rfl ?_
      refine wa_if_eq hC 463 dL_holds_402 (by decide) (fun c8 => ?_) (fun c8 => ?_)
      · have hf := ite_t hf c8
        exact wa_sub [0, 1, 2] rfl (hJ463  _ _ _ hf)
      · have hf := ite_f hf c8
        refine wa_iload_n hC dL_holds_405 rfl 2 rfl ?_
        refine wa_aload_n hC dL_holds_406 rfl 0 rfl ?_
        refine wa_iload_n hC dL_holds_407 rfl 3 rfl ?_
        refine wa_iconst (v := 2) hC dL_holds_408 (by decide) ?_
        obtain ⟨⟨v9, M9⟩, h9, hf⟩ := bd hf
        dsimp only at hf
        refine wa_calli (rest := [_]) (wr_V hC (kX6_point l G h9) (cwV 2 hC.1.2.2.2.2 gL_holds_X6_point rfl rfl rfl (by decide +kernel) ⟨Nat.le_of_ble_eq_true rfl, Nat.le_of_ble_eq_true rfl⟩) (show kd 0 = 6 from rfl) (by decide) (ce6 (show kd 0 = 6 from rfl)) rfl rfl rfl rfl (Nat.le_of_ble_eq_true rfl) dL_holds_409) ?_
        refine wa_iadd hC dL_holds_412 ?_
        refine wa_istore_n (lv' := [(2, .int _), (0, .ref _), (1, .int _), (3, .int _)]) hC dL_holds_413 rfl (by decide) rfl ?_
        refine wa_aload_n hC dL_holds_414 rfl 1 rfl ?_
        refine wa_iload_n hC dL_holds_415 rfl 3 rfl ?_
        refine wa_iconst (v := 2) hC dL_holds_416 (by decide) ?_
        obtain ⟨⟨v10, M10⟩, h10, hf⟩ := bd hf
        dsimp only at hf
        refine wa_calli (rest := []) (wr_V hC (kX6_point l G h10) (cwV 2 hC.1.2.2.2.2 gL_holds_X6_point rfl rfl rfl (by decide +kernel) ⟨Nat.le_of_ble_eq_true rfl, Nat.le_of_ble_eq_true rfl⟩) (show kd 0 = 6 from rfl) (by decide) (ce6 (show kd 0 = 6 from rfl)) rfl rfl rfl rfl (Nat.le_of_ble_eq_true rfl) dL_holds_417) ?_
        refine wa_if_eq hC 451 dL_holds_420 (by decide) (fun c11 => ?_) (fun c11 => ?_)
        · have hf := ite_t hf c11
          refine wa_iconst (v := 1) hC dL_holds_451 (by decide) ?_
          refine wa_goto hC 456 dL_holds_452 (by decide) ?_
          refine wa_istore_n (lv' := [(1, .int _), (2, .int _), (0, .ref _), (3, .int _)]) hC dL_holds_456 rfl (by decide) rfl ?_
          refine wa_iinc (v := _ + 1) (lv' := [(3, .int _), (1, .int _), (2, .int _), (0, .ref _)]) hC dL_holds_457 (t := 3) rfl rfl (by decide) rfl ?_
          refine wa_goto hC 395 dL_holds_460 (by decide) ?_
          exact wa_sub [3, 1, 2, 0] rfl (hbk395 _ _ _ _ hf)
        · have hf := ite_f hf c11
          refine wa_aload_n hC dL_holds_423 rfl 1 rfl ?_
          refine wa_iload_n hC dL_holds_424 rfl 3 rfl ?_
          refine wa_iconst (v := 1) hC dL_holds_425 (by decide) ?_
          obtain ⟨⟨v12, M12⟩, h12, hf⟩ := bd hf
          dsimp only at hf
          refine wa_calli (rest := []) (wr_V hC (kX6_point l G h12) (cwV 2 hC.1.2.2.2.2 gL_holds_X6_point rfl rfl rfl (by decide +kernel) ⟨Nat.le_of_ble_eq_true rfl, Nat.le_of_ble_eq_true rfl⟩) (show kd 0 = 6 from rfl) (by decide) (ce6 (show kd 0 = 6 from rfl)) rfl rfl rfl rfl (Nat.le_of_ble_eq_true rfl) dL_holds_426) ?_
          refine wa_if_lt hC 455 dL_holds_429 (by decide) (fun c13 => ?_) (fun c13 => ?_)
          · have hf := ite_t hf c13
            refine wa_iconst (v := 0) hC dL_holds_455 (by decide) ?_
            refine wa_istore_n (lv' := [(1, .int _), (2, .int _), (0, .ref _), (3, .int _)]) hC dL_holds_456 rfl (by decide) rfl ?_
            refine wa_iinc (v := _ + 1) (lv' := [(3, .int _), (1, .int _), (2, .int _), (0, .ref _)]) hC dL_holds_457 (t := 3) rfl rfl (by decide) rfl ?_
            refine wa_goto hC 395 dL_holds_460 (by decide) ?_
            exact wa_sub [3, 1, 2, 0] rfl (hbk395 _ _ _ _ hf)
          · have hf := ite_f hf c13
            refine wa_aload_n hC dL_holds_432 rfl 1 rfl ?_
            refine wa_iload_n hC dL_holds_433 rfl 3 rfl ?_
            refine wa_iconst (v := 2) hC dL_holds_434 (by decide) ?_
            obtain ⟨⟨v14, M14⟩, h14, hf⟩ := bd hf
            dsimp only at hf
            refine wa_calli (rest := []) (wr_V hC (kX6_point l G h14) (cwV 2 hC.1.2.2.2.2 gL_holds_X6_point rfl rfl rfl (by decide +kernel) ⟨Nat.le_of_ble_eq_true rfl, Nat.le_of_ble_eq_true rfl⟩) (show kd 0 = 6 from rfl) (by decide) (ce6 (show kd 0 = 6 from rfl)) rfl rfl rfl rfl (Nat.le_of_ble_eq_true rfl) dL_holds_435) ?_
            refine wa_iconst (v := 1) hC dL_holds_438 (by decide) ?_
            refine wa_icmp_gt hC 451 dL_holds_439 (by decide) (fun c15 => ?_) (fun c15 => ?_)
            · have hf := ite_t hf c15
              refine wa_iconst (v := 1) hC dL_holds_451 (by decide) ?_
              refine wa_goto hC 456 dL_holds_452 (by decide) ?_
              refine wa_istore_n (lv' := [(1, .int _), (2, .int _), (0, .ref _), (3, .int _)]) hC dL_holds_456 rfl (by decide) rfl ?_
              refine wa_iinc (v := _ + 1) (lv' := [(3, .int _), (1, .int _), (2, .int _), (0, .ref _)]) hC dL_holds_457 (t := 3) rfl rfl (by decide) rfl ?_
              refine wa_goto hC 395 dL_holds_460 (by decide) ?_
              exact wa_sub [3, 1, 2, 0] rfl (hbk395 _ _ _ _ hf)
            · have hf := ite_f hf c15
              refine wa_aload_n hC dL_holds_442 rfl 1 rfl ?_
              refine wa_iload_n hC dL_holds_443 rfl 3 rfl ?_
              refine wa_iconst (v := 1) hC dL_holds_444 (by decide) ?_
              obtain ⟨⟨v16, M16⟩, h16, hf⟩ := bd hf
              dsimp only at hf
              refine wa_calli (rest := []) (wr_V hC (kX6_point l G h16) (cwV 2 hC.1.2.2.2.2 gL_holds_X6_point rfl rfl rfl (by decide +kernel) ⟨Nat.le_of_ble_eq_true rfl, Nat.le_of_ble_eq_true rfl⟩) (show kd 0 = 6 from rfl) (by decide) (ce6 (show kd 0 = 6 from rfl)) rfl rfl rfl rfl (Nat.le_of_ble_eq_true rfl) dL_holds_445) ?_
              refine wa_if_ne hC 455 dL_holds_448 (by decide) (fun c17 => ?_) (fun c17 => ?_)
              · have hf := ite_f hf c17
                refine wa_iconst (v := 0) hC dL_holds_455 (by decide) ?_
                refine wa_istore_n (lv' := [(1, .int _), (2, .int _), (0, .ref _), (3, .int _)]) hC dL_holds_456 rfl (by decide) rfl ?_
                refine wa_iinc (v := _ + 1) (lv' := [(3, .int _), (1, .int _), (2, .int _), (0, .ref _)]) hC dL_holds_457 (t := 3) rfl rfl (by decide) rfl ?_
                refine wa_goto hC 395 dL_holds_460 (by decide) ?_
                exact wa_sub [3, 1, 2, 0] rfl (hbk395 _ _ _ _ hf)
              · have hf := ite_t hf c17
                refine wa_iconst (v := 1) hC dL_holds_451 (by decide) ?_
                refine wa_goto hC 456 dL_holds_452 (by decide) ?_
                refine wa_istore_n (lv' := [(1, .int _), (2, .int _), (0, .ref _), (3, .int _)]) hC dL_holds_456 rfl (by decide) rfl ?_
                refine wa_iinc (v := _ + 1) (lv' := [(3, .int _), (1, .int _), (2, .int _), (0, .ref _)]) hC dL_holds_457 (t := 3) rfl rfl (by decide) rfl ?_
                refine wa_goto hC 395 dL_holds_460 (by decide) ?_
                exact wa_sub [3, 1, 2, 0] rfl (hbk395 _ _ _ _ hf)
  have hL395 : ∀ (n : Nat) (x1 : Int32) (x2 : Int32) (x3 : Int32) (M0 : wM), fL_holds_L395   n x1 x2 x3 M0 = some (b, M1) → wAt p l e rmL_holds s m args below meth c (qI below args s G (b2 b) M1) 6 G M0 395 [(0, .ref (ga G (0))), (1, .int (x1)), (2, .int (x2)), (3, .int (x3))] [] := by
    intro  n
    induction n with
    | zero =>
      intro x1 x2 x3 M0 hf
      exact absurd hf (by simp [fL_holds_L395])
    | succ n ih =>
      intro x1 x2 x3 M0 hf
      exact hB395  (fL_holds_L395   n) ih x1 x2 x3 M0 hf
  have hJ341 : ∀ (bk83 : Int32 → Int32 → wM → Option (Bool × wM)) (hbk83 : (∀ (x1 : Int32) (x2 : Int32) (M0 : wM), bk83 x1 x2 M0 = some (b, M1) → wAt p l e rmL_holds s m args below meth c (qI below args s G (b2 b) M1) 6 G M0 83 [(0, .ref (ga G (0))), (1, .int (x1)), (2, .int (x2))] [])) (bk276 : Int32 → Int32 → Int32 → wM → Option (Bool × wM)) (hbk276 : (∀ (x1 : Int32) (x2 : Int32) (x3 : Int32) (M0 : wM), bk276 x1 x2 x3 M0 = some (b, M1) → wAt p l e rmL_holds s m args below meth c (qI below args s G (b2 b) M1) 6 G M0 276 [(0, .ref (ga G (0))), (1, .int (x1)), (2, .int (x2)), (3, .int (x3))] [])) (x2 : Int32) (x3 : Int32) (x4 : Int32) (s0 : Int32) (s1 : Int32) (M0 : wM), fL_holds_J341  bk83 bk276 x2 x3 x4 s0 s1 M0 = some (b, M1) → wAt p l e rmL_holds s m args below meth c (qI below args s G (b2 b) M1) 6 G M0 341 [(0, .ref (ga G (0))), (2, .int (x2)), (3, .int (x3)), (4, .int (x4))] [.int (s1), .int (s0)] := by
    intro bk83 hbk83 bk276 hbk276 x2 x3 x4 s0 s1 M0 hf
    unfold fL_holds_J341 at hf
    refine wa_icmp_ne hC 377 dL_holds_341 (by decide) (fun c18 => ?_) (fun c18 => ?_)
    · have hf := ite_f hf c18
      refine wa_iconst (v := 0) hC dL_holds_377 (by decide) ?_
      refine wa_istore_n (lv' := [(1, .int _), (0, .ref _), (2, .int _), (3, .int _), (4, .int _)]) hC dL_holds_378 rfl (by decide) rfl ?_
      refine wa_iinc (v := _ + 1) (lv' := [(3, .int _), (1, .int _), (0, .ref _), (2, .int _), (4, .int _)]) hC dL_holds_379 (t := 3) rfl rfl (by decide) rfl ?_
      refine wa_goto hC 276 dL_holds_382 (by decide) ?_
      exact wa_sub [2, 1, 3, 0] rfl (hbk276 _ _ _ _ hf)
    · have hf := ite_t hf c18
      refine wa_iload hC dL_holds_344 3 rfl ?_
      refine wa_if_lt hC 373 dL_holds_346 (by decide) (fun c19 => ?_) (fun c19 => ?_)
      · have hf := ite_t hf c19
        refine wa_iconst (v := 1) hC dL_holds_373 (by decide) ?_
        refine wa_goto hC 378 dL_holds_374 (by decide) ?_
        refine wa_istore_n (lv' := [(1, .int _), (0, .ref _), (2, .int _), (3, .int _), (4, .int _)]) hC dL_holds_378 rfl (by decide) rfl ?_
        refine wa_iinc (v := _ + 1) (lv' := [(3, .int _), (1, .int _), (0, .ref _), (2, .int _), (4, .int _)]) hC dL_holds_379 (t := 3) rfl rfl (by decide) rfl ?_
        refine wa_goto hC 276 dL_holds_382 (by decide) ?_
        exact wa_sub [2, 1, 3, 0] rfl (hbk276 _ _ _ _ hf)
      · have hf := ite_f hf c19
        refine wa_aload_n hC dL_holds_349 rfl 0 rfl ?_
        refine wa_iload_n hC dL_holds_350 rfl 1 rfl ?_
        refine wa_iload hC dL_holds_351 3 rfl ?_
        refine wa_iconst (v := 0) hC dL_holds_353 (by decide) ?_
        obtain ⟨⟨v20, M20⟩, h20, hf⟩ := bd hf
        dsimp only at hf
        refine wa_calli (rest := []) (wr_V hC (kX6_loop l G h20) (cwV 3 hC.1.2.2.2.2 gL_holds_X6_loop rfl rfl rfl (by decide +kernel) ⟨Nat.le_of_ble_eq_true rfl, Nat.le_of_ble_eq_true rfl⟩) (show kd 0 = 6 from rfl) (by decide) (ce6 (show kd 0 = 6 from rfl)) rfl rfl rfl rfl (Nat.le_of_ble_eq_true rfl) dL_holds_354) ?_
        refine wa_iload_n hC dL_holds_357 rfl 2 rfl ?_
        refine wa_icmp_gt hC 377 dL_holds_358 (by decide) (fun c21 => ?_) (fun c21 => ?_)
        · have hf := ite_t hf c21
          refine wa_iconst (v := 0) hC dL_holds_377 (by decide) ?_
          refine wa_istore_n (lv' := [(1, .int _), (0, .ref _), (2, .int _), (3, .int _), (4, .int _)]) hC dL_holds_378 rfl (by decide) rfl ?_
          refine wa_iinc (v := _ + 1) (lv' := [(3, .int _), (1, .int _), (0, .ref _), (2, .int _), (4, .int _)]) hC dL_holds_379 (t := 3) rfl rfl (by decide) rfl ?_
          refine wa_goto hC 276 dL_holds_382 (by decide) ?_
          exact wa_sub [2, 1, 3, 0] rfl (hbk276 _ _ _ _ hf)
        · have hf := ite_f hf c21
          refine wa_iload_n hC dL_holds_361 rfl 2 rfl ?_
          refine wa_aload_n hC dL_holds_362 rfl 0 rfl ?_
          refine wa_iload_n hC dL_holds_363 rfl 1 rfl ?_
          refine wa_iload hC dL_holds_364 3 rfl ?_
          refine wa_iconst (v := 1) hC dL_holds_366 (by decide) ?_
          obtain ⟨⟨v22, M22⟩, h22, hf⟩ := bd hf
          dsimp only at hf
          refine wa_calli (rest := [_]) (wr_V hC (kX6_loop l G h22) (cwV 3 hC.1.2.2.2.2 gL_holds_X6_loop rfl rfl rfl (by decide +kernel) ⟨Nat.le_of_ble_eq_true rfl, Nat.le_of_ble_eq_true rfl⟩) (show kd 0 = 6 from rfl) (by decide) (ce6 (show kd 0 = 6 from rfl)) rfl rfl rfl rfl (Nat.le_of_ble_eq_true rfl) dL_holds_367) ?_
          refine wa_icmp_gt hC 377 dL_holds_370 (by decide) (fun c23 => ?_) (fun c23 => ?_)
          · have hf := ite_t hf c23
            refine wa_iconst (v := 0) hC dL_holds_377 (by decide) ?_
            refine wa_istore_n (lv' := [(1, .int _), (0, .ref _), (2, .int _), (3, .int _), (4, .int _)]) hC dL_holds_378 rfl (by decide) rfl ?_
            refine wa_iinc (v := _ + 1) (lv' := [(3, .int _), (1, .int _), (0, .ref _), (2, .int _), (4, .int _)]) hC dL_holds_379 (t := 3) rfl rfl (by decide) rfl ?_
            refine wa_goto hC 276 dL_holds_382 (by decide) ?_
            exact wa_sub [2, 1, 3, 0] rfl (hbk276 _ _ _ _ hf)
          · have hf := ite_f hf c23
            refine wa_iconst (v := 1) hC dL_holds_373 (by decide) ?_
            refine wa_goto hC 378 dL_holds_374 (by decide) ?_
            refine wa_istore_n (lv' := [(1, .int _), (0, .ref _), (2, .int _), (3, .int _), (4, .int _)]) hC dL_holds_378 rfl (by decide) rfl ?_
            refine wa_iinc (v := _ + 1) (lv' := [(3, .int _), (1, .int _), (0, .ref _), (2, .int _), (4, .int _)]) hC dL_holds_379 (t := 3) rfl rfl (by decide) rfl ?_
            refine wa_goto hC 276 dL_holds_382 (by decide) ?_
            exact wa_sub [2, 1, 3, 0] rfl (hbk276 _ _ _ _ hf)
  have hJ315 : ∀ (bk83 : Int32 → Int32 → wM → Option (Bool × wM)) (hbk83 : (∀ (x1 : Int32) (x2 : Int32) (M0 : wM), bk83 x1 x2 M0 = some (b, M1) → wAt p l e rmL_holds s m args below meth c (qI below args s G (b2 b) M1) 6 G M0 83 [(0, .ref (ga G (0))), (1, .int (x1)), (2, .int (x2))] [])) (bk276 : Int32 → Int32 → Int32 → wM → Option (Bool × wM)) (hbk276 : (∀ (x1 : Int32) (x2 : Int32) (x3 : Int32) (M0 : wM), bk276 x1 x2 x3 M0 = some (b, M1) → wAt p l e rmL_holds s m args below meth c (qI below args s G (b2 b) M1) 6 G M0 276 [(0, .ref (ga G (0))), (1, .int (x1)), (2, .int (x2)), (3, .int (x3))] [])) (x2 : Int32) (x3 : Int32) (x4 : Int32) (s0 : Int32) (M0 : wM), fL_holds_J315  bk83 bk276 x2 x3 x4 s0 M0 = some (b, M1) → wAt p l e rmL_holds s m args below meth c (qI below args s G (b2 b) M1) 6 G M0 315 [(0, .ref (ga G (0))), (2, .int (x2)), (3, .int (x3)), (4, .int (x4))] [.int (s0)] := by
    intro bk83 hbk83 bk276 hbk276 x2 x3 x4 s0 M0 hf
    unfold fL_holds_J315 at hf
    refine wa_aload_n hC dL_holds_315 rfl 0 rfl ?_
    refine wa_iload_n hC dL_holds_316 rfl 1 rfl ?_
    refine wa_iload_n hC dL_holds_317 rfl 2 rfl ?_
    refine wa_iconst (v := 4) hC dL_holds_318 (by decide) ?_
    obtain ⟨⟨v24, M24⟩, h24, hf⟩ := bd hf
    dsimp only at hf
    refine wa_calli (rest := [_]) (wr_V hC (kX6_reading l G h24) (cwV 3 hC.1.2.2.2.2 gL_holds_X6_reading rfl rfl rfl (by decide +kernel) ⟨Nat.le_of_ble_eq_true rfl, Nat.le_of_ble_eq_true rfl⟩) (show kd 0 = 6 from rfl) (by decide) (ce6 (show kd 0 = 6 from rfl)) rfl rfl rfl rfl (Nat.le_of_ble_eq_true rfl) dL_holds_319) ?_
    refine wa_if_ne hC 340 dL_holds_322 (by decide) (fun c25 => ?_) (fun c25 => ?_)
    · have hf := ite_f hf c25
      refine wa_iconst (v := 0) hC dL_holds_340 (by decide) ?_
      exact wa_sub [0, 1, 2, 3] rfl (hJ341 bk83 hbk83 bk276 hbk276 _ _ _ _ _ _ hf)
    · have hf := ite_t hf c25
      refine wa_aload_n hC dL_holds_325 rfl 0 rfl ?_
      refine wa_iload_n hC dL_holds_326 rfl 1 rfl ?_
      refine wa_iload_n hC dL_holds_327 rfl 2 rfl ?_
      obtain ⟨⟨v26, M26⟩, h26, hf⟩ := bd hf
      dsimp only at hf
      refine wa_calli (rest := [_]) (wr_V hC (kX6_raw l G h26) (cwV 2 hC.1.2.2.2.2 gL_holds_X6_raw rfl rfl rfl (by decide +kernel) ⟨Nat.le_of_ble_eq_true rfl, Nat.le_of_ble_eq_true rfl⟩) (show kd 0 = 6 from rfl) (by decide) (ce6 (show kd 0 = 6 from rfl)) rfl rfl rfl rfl (Nat.le_of_ble_eq_true rfl) dL_holds_328) ?_
      refine wa_ldc hC mbL_holds_35 dL_holds_331 ?_
      refine wa_icmp_eq hC 340 dL_holds_333 (by decide) (fun c27 => ?_) (fun c27 => ?_)
      · have hf := ite_t hf c27
        refine wa_iconst (v := 0) hC dL_holds_340 (by decide) ?_
        exact wa_sub [0, 1, 2, 3] rfl (hJ341 bk83 hbk83 bk276 hbk276 _ _ _ _ _ _ hf)
      · have hf := ite_f hf c27
        refine wa_iconst (v := 1) hC dL_holds_336 (by decide) ?_
        refine wa_goto hC 341 dL_holds_337 (by decide) ?_
        exact wa_sub [0, 1, 2, 3] rfl (hJ341 bk83 hbk83 bk276 hbk276 _ _ _ _ _ _ hf)
  have hB276 : ∀ (bk83 : Int32 → Int32 → wM → Option (Bool × wM)) (hbk83 : (∀ (x1 : Int32) (x2 : Int32) (M0 : wM), bk83 x1 x2 M0 = some (b, M1) → wAt p l e rmL_holds s m args below meth c (qI below args s G (b2 b) M1) 6 G M0 83 [(0, .ref (ga G (0))), (1, .int (x1)), (2, .int (x2))] [])) (bk276 : Int32 → Int32 → Int32 → wM → Option (Bool × wM)) (hbk276 : (∀ (x1 : Int32) (x2 : Int32) (x3 : Int32) (M0 : wM), bk276 x1 x2 x3 M0 = some (b, M1) → wAt p l e rmL_holds s m args below meth c (qI below args s G (b2 b) M1) 6 G M0 276 [(0, .ref (ga G (0))), (1, .int (x1)), (2, .int (x2)), (3, .int (x3))] [])) (x1 : Int32) (x2 : Int32) (x3 : Int32) (M0 : wM), fL_holds_B276  bk83 bk276 x1 x2 x3 M0 = some (b, M1) → wAt p l e rmL_holds s m args below meth c (qI below args s G (b2 b) M1) 6 G M0 276 [(0, .ref (ga G (0))), (1, .int (x1)), (2, .int (x2)), (3, .int (x3))] [] := by
    intro bk83 hbk83 bk276 hbk276 x1 x2 x3 M0 hf
    unfold fL_holds_B276 at hf
    refine wa_iload_n hC dL_holds_276 rfl 3 rfl ?_
    refine wa_aload_n hC dL_holds_277 rfl 0 rfl ?_
    refine wa_iconst (v := 1) hC dL_holds_278 (by decide) ?_
    refine wa_iload_n hC dL_holds_279 rfl 2 rfl ?_
    refine wa_iadd hC dL_holds_280 ?_
    obtain ⟨⟨v28, M28⟩, h28, hf⟩ := bd hf
    dsimp only at hf
    refine wa_calli (rest := [_]) (wr_V hC (kX6_count l G h28) (cwV 1 hC.1.2.2.2.2 gL_holds_X6_count rfl rfl rfl (by decide +kernel) ⟨Nat.le_of_ble_eq_true rfl, Nat.le_of_ble_eq_true rfl⟩) (show kd 0 = 6 from rfl) (by decide) (ce6 (show kd 0 = 6 from rfl)) rfl rfl rfl rfl (Nat.le_of_ble_eq_true rfl) dL_holds_281) ?_
    refine wa_icmp_ge hC 385 dL_holds_284 (by decide) (fun c29 => ?_) (fun c29 => ?_)
    · have hf := ite_t hf c29
      refine wa_iinc (v := _ + 1) (lv' := [(2, .int _), (0, .ref _), (1, .int _), (3, .int _)]) hC dL_holds_385 (t := 2) rfl rfl (by decide) rfl ?_
      refine wa_goto hC 83 dL_holds_388 (by decide) ?_
      exact wa_sub [1, 2, 0] rfl (hbk83 _ _ _ hf)
    · have hf := ite_f hf c29
      refine wa_iload_n hC dL_holds_287 rfl 1 rfl ?_
      refine wa_if_eq hC 385 dL_holds_288 (by decide) (fun c30 => ?_) (fun c30 => ?_)
      · have hf := ite_t hf c30
        refine wa_iinc (v := _ + 1) (lv' := [(2, .int _), (0, .ref _), (1, .int _), (3, .int _)]) hC dL_holds_385 (t := 2) rfl rfl (by decide) rfl ?_
        refine wa_goto hC 83 dL_holds_388 (by decide) ?_
        exact wa_sub [1, 2, 0] rfl (hbk83 _ _ _ hf)
      · have hf := ite_f hf c30
        refine wa_aload_n hC dL_holds_291 rfl 0 rfl ?_
        refine wa_iload_n hC dL_holds_292 rfl 2 rfl ?_
        refine wa_iload_n hC dL_holds_293 rfl 3 rfl ?_
        obtain ⟨⟨v31, M31⟩, h31, hf⟩ := bd hf
        dsimp only at hf
        refine wa_calli (rest := []) (wr_V hC (kX6_openLoop l G h31) (cwV 2 hC.1.2.2.2.2 gL_holds_X6_openLoop rfl rfl rfl (by decide +kernel) ⟨Nat.le_of_ble_eq_true rfl, Nat.le_of_ble_eq_true rfl⟩) (show kd 0 = 6 from rfl) (by decide) (ce6 (show kd 0 = 6 from rfl)) rfl rfl rfl rfl (Nat.le_of_ble_eq_true rfl) dL_holds_294) ?_
        refine wa_istore (lv' := [(4, .int _), (0, .ref _), (1, .int _), (2, .int _), (3, .int _)]) hC dL_holds_297 (by decide) rfl ?_
        refine wa_aload_n hC dL_holds_299 rfl 1 rfl ?_
        refine wa_iload_n hC dL_holds_300 rfl 3 rfl ?_
        refine wa_iload_n hC dL_holds_301 rfl 4 rfl ?_
        refine wa_iconst (v := 5) hC dL_holds_302 (by decide) ?_
        obtain ⟨⟨v32, M32⟩, h32, hf⟩ := bd hf
        dsimp only at hf
        refine wa_calli (rest := []) (wr_V hC (kX6_reading l G h32) (cwV 3 hC.1.2.2.2.2 gL_holds_X6_reading rfl rfl rfl (by decide +kernel) ⟨Nat.le_of_ble_eq_true rfl, Nat.le_of_ble_eq_true rfl⟩) (show kd 0 = 6 from rfl) (by decide) (ce6 (show kd 0 = 6 from rfl)) rfl rfl rfl rfl (Nat.le_of_ble_eq_true rfl) dL_holds_303) ?_
        refine wa_iconst (v := 1) hC dL_holds_306 (by decide) ?_
        refine wa_icmp_ne hC 314 dL_holds_307 (by decide) (fun c33 => ?_) (fun c33 => ?_)
        · have hf := ite_f hf c33
          refine wa_iconst (v := 0) hC dL_holds_314 (by decide) ?_
          exact wa_sub [1, 3, 4, 0] rfl (hJ315 bk83 hbk83 bk276 hbk276 _ _ _ _ _ hf)
        · have hf := ite_t hf c33
          refine wa_iconst (v := 1) hC dL_holds_310 (by decide) ?_
          refine wa_goto hC 315 dL_holds_311 (by decide) ?_
          exact wa_sub [1, 3, 4, 0] rfl (hJ315 bk83 hbk83 bk276 hbk276 _ _ _ _ _ hf)
  have hL276 : ∀ (bk83 : Int32 → Int32 → wM → Option (Bool × wM)) (hbk83 : (∀ (x1 : Int32) (x2 : Int32) (M0 : wM), bk83 x1 x2 M0 = some (b, M1) → wAt p l e rmL_holds s m args below meth c (qI below args s G (b2 b) M1) 6 G M0 83 [(0, .ref (ga G (0))), (1, .int (x1)), (2, .int (x2))] [])) (n : Nat) (x1 : Int32) (x2 : Int32) (x3 : Int32) (M0 : wM), fL_holds_L276  bk83 n x1 x2 x3 M0 = some (b, M1) → wAt p l e rmL_holds s m args below meth c (qI below args s G (b2 b) M1) 6 G M0 276 [(0, .ref (ga G (0))), (1, .int (x1)), (2, .int (x2)), (3, .int (x3))] [] := by
    intro bk83 hbk83 n
    induction n with
    | zero =>
      intro x1 x2 x3 M0 hf
      exact absurd hf (by simp [fL_holds_L276])
    | succ n ih =>
      intro x1 x2 x3 M0 hf
      exact hB276 bk83 hbk83 (fL_holds_L276  bk83 n) ih x1 x2 x3 M0 hf
  have hJ201 : ∀ (bk83 : Int32 → Int32 → wM → Option (Bool × wM)) (hbk83 : (∀ (x1 : Int32) (x2 : Int32) (M0 : wM), bk83 x1 x2 M0 = some (b, M1) → wAt p l e rmL_holds s m args below meth c (qI below args s G (b2 b) M1) 6 G M0 83 [(0, .ref (ga G (0))), (1, .int (x1)), (2, .int (x2))] [])) (bk94 : Int32 → Int32 → Int32 → wM → Option (Bool × wM)) (hbk94 : (∀ (x1 : Int32) (x2 : Int32) (x3 : Int32) (M0 : wM), bk94 x1 x2 x3 M0 = some (b, M1) → wAt p l e rmL_holds s m args below meth c (qI below args s G (b2 b) M1) 6 G M0 94 [(0, .ref (ga G (0))), (1, .int (x1)), (2, .int (x2)), (3, .int (x3))] [])) (x2 : Int32) (x3 : Int32) (x4 : Int32) (x5 : Int32) (s0 : Int32) (M0 : wM), fL_holds_J201  bk83 bk94 x2 x3 x4 x5 s0 M0 = some (b, M1) → wAt p l e rmL_holds s m args below meth c (qI below args s G (b2 b) M1) 6 G M0 201 [(0, .ref (ga G (0))), (2, .int (x2)), (3, .int (x3)), (4, .int (x4)), (5, .int (x5))] [.int (s0)] := by
    intro bk83 hbk83 bk94 hbk94 x2 x3 x4 x5 s0 M0 hf
    unfold fL_holds_J201 at hf
    refine wa_istore_n (lv' := [(1, .int _), (0, .ref _), (2, .int _), (3, .int _), (4, .int _), (5, .int _)]) hC dL_holds_201 rfl (by decide) rfl ?_
    refine wa_iload_n hC dL_holds_202 rfl 0 rfl ?_
    refine wa_if_eq hC 266 dL_holds_203 (by decide) (fun c34 => ?_) (fun c34 => ?_)
    · have hf := ite_t hf c34
      refine wa_iconst (v := 0) hC dL_holds_266 (by decide) ?_
      refine wa_istore_n (lv' := [(1, .int _), (0, .ref _), (2, .int _), (3, .int _), (4, .int _), (5, .int _)]) hC dL_holds_267 rfl (by decide) rfl ?_
      refine wa_iinc (v := _ + 1) (lv' := [(3, .int _), (1, .int _), (0, .ref _), (2, .int _), (4, .int _), (5, .int _)]) hC dL_holds_268 (t := 3) rfl rfl (by decide) rfl ?_
      refine wa_goto hC 94 dL_holds_271 (by decide) ?_
      exact wa_sub [2, 1, 3, 0] rfl (hbk94 _ _ _ _ hf)
    · have hf := ite_f hf c34
      refine wa_aload_n hC dL_holds_206 rfl 1 rfl ?_
      refine wa_iload_n hC dL_holds_207 rfl 2 rfl ?_
      refine wa_iload hC dL_holds_208 4 rfl ?_
      obtain ⟨⟨v35, M35⟩, h35, hf⟩ := bd hf
      dsimp only at hf
      refine wa_calli (rest := []) (wr_V hC (kX6_openLoop l G h35) (cwV 2 hC.1.2.2.2.2 gL_holds_X6_openLoop rfl rfl rfl (by decide +kernel) ⟨Nat.le_of_ble_eq_true rfl, Nat.le_of_ble_eq_true rfl⟩) (show kd 0 = 6 from rfl) (by decide) (ce6 (show kd 0 = 6 from rfl)) rfl rfl rfl rfl (Nat.le_of_ble_eq_true rfl) dL_holds_210) ?_
      refine wa_iload_n hC dL_holds_213 rfl 3 rfl ?_
      refine wa_icmp_ne hC 262 dL_holds_214 (by decide) (fun c36 => ?_) (fun c36 => ?_)
      · have hf := ite_f hf c36
        refine wa_iconst (v := 1) hC dL_holds_262 (by decide) ?_
        refine wa_goto hC 267 dL_holds_263 (by decide) ?_
        refine wa_istore_n (lv' := [(1, .int _), (0, .ref _), (2, .int _), (3, .int _), (4, .int _), (5, .int _)]) hC dL_holds_267 rfl (by decide) rfl ?_
        refine wa_iinc (v := _ + 1) (lv' := [(3, .int _), (1, .int _), (0, .ref _), (2, .int _), (4, .int _), (5, .int _)]) hC dL_holds_268 (t := 3) rfl rfl (by decide) rfl ?_
        refine wa_goto hC 94 dL_holds_271 (by decide) ?_
        exact wa_sub [2, 1, 3, 0] rfl (hbk94 _ _ _ _ hf)
      · have hf := ite_t hf c36
        refine wa_aload_n hC dL_holds_217 rfl 1 rfl ?_
        refine wa_iload_n hC dL_holds_218 rfl 2 rfl ?_
        refine wa_iload hC dL_holds_219 5 rfl ?_
        obtain ⟨⟨v37, M37⟩, h37, hf⟩ := bd hf
        dsimp only at hf
        refine wa_calli (rest := []) (wr_V hC (kX6_openLoop l G h37) (cwV 2 hC.1.2.2.2.2 gL_holds_X6_openLoop rfl rfl rfl (by decide +kernel) ⟨Nat.le_of_ble_eq_true rfl, Nat.le_of_ble_eq_true rfl⟩) (show kd 0 = 6 from rfl) (by decide) (ce6 (show kd 0 = 6 from rfl)) rfl rfl rfl rfl (Nat.le_of_ble_eq_true rfl) dL_holds_221) ?_
        refine wa_iload_n hC dL_holds_224 rfl 3 rfl ?_
        refine wa_icmp_ne hC 262 dL_holds_225 (by decide) (fun c38 => ?_) (fun c38 => ?_)
        · have hf := ite_f hf c38
          refine wa_iconst (v := 1) hC dL_holds_262 (by decide) ?_
          refine wa_goto hC 267 dL_holds_263 (by decide) ?_
          refine wa_istore_n (lv' := [(1, .int _), (0, .ref _), (2, .int _), (3, .int _), (4, .int _), (5, .int _)]) hC dL_holds_267 rfl (by decide) rfl ?_
          refine wa_iinc (v := _ + 1) (lv' := [(3, .int _), (1, .int _), (0, .ref _), (2, .int _), (4, .int _), (5, .int _)]) hC dL_holds_268 (t := 3) rfl rfl (by decide) rfl ?_
          refine wa_goto hC 94 dL_holds_271 (by decide) ?_
          exact wa_sub [2, 1, 3, 0] rfl (hbk94 _ _ _ _ hf)
        · have hf := ite_t hf c38
          refine wa_aload_n hC dL_holds_228 rfl 1 rfl ?_
          refine wa_iload_n hC dL_holds_229 rfl 2 rfl ?_
          refine wa_iload hC dL_holds_230 4 rfl ?_
          obtain ⟨⟨v39, M39⟩, h39, hf⟩ := bd hf
          dsimp only at hf
          refine wa_calli (rest := []) (wr_V hC (kX6_corrected l G h39) (cwV 2 hC.1.2.2.2.2 gL_holds_X6_corrected rfl rfl rfl (by decide +kernel) ⟨Nat.le_of_ble_eq_true rfl, Nat.le_of_ble_eq_true rfl⟩) (show kd 0 = 6 from rfl) (by decide) (ce6 (show kd 0 = 6 from rfl)) rfl rfl rfl rfl (Nat.le_of_ble_eq_true rfl) dL_holds_232) ?_
          refine wa_aload_n hC dL_holds_235 rfl 1 rfl ?_
          refine wa_iload_n hC dL_holds_236 rfl 2 rfl ?_
          refine wa_iload hC dL_holds_237 5 rfl ?_
          obtain ⟨⟨v40, M40⟩, h40, hf⟩ := bd hf
          dsimp only at hf
          refine wa_calli (rest := [_]) (wr_V hC (kX6_corrected l G h40) (cwV 2 hC.1.2.2.2.2 gL_holds_X6_corrected rfl rfl rfl (by decide +kernel) ⟨Nat.le_of_ble_eq_true rfl, Nat.le_of_ble_eq_true rfl⟩) (show kd 0 = 6 from rfl) (by decide) (ce6 (show kd 0 = 6 from rfl)) rfl rfl rfl rfl (Nat.le_of_ble_eq_true rfl) dL_holds_239) ?_
          refine wa_icmp_ne hC 266 dL_holds_242 (by decide) (fun c41 => ?_) (fun c41 => ?_)
          · have hf := ite_f hf c41
            refine wa_iconst (v := 0) hC dL_holds_266 (by decide) ?_
            refine wa_istore_n (lv' := [(1, .int _), (0, .ref _), (2, .int _), (3, .int _), (4, .int _), (5, .int _)]) hC dL_holds_267 rfl (by decide) rfl ?_
            refine wa_iinc (v := _ + 1) (lv' := [(3, .int _), (1, .int _), (0, .ref _), (2, .int _), (4, .int _), (5, .int _)]) hC dL_holds_268 (t := 3) rfl rfl (by decide) rfl ?_
            refine wa_goto hC 94 dL_holds_271 (by decide) ?_
            exact wa_sub [2, 1, 3, 0] rfl (hbk94 _ _ _ _ hf)
          · have hf := ite_t hf c41
            refine wa_aload_n hC dL_holds_245 rfl 1 rfl ?_
            refine wa_iload_n hC dL_holds_246 rfl 2 rfl ?_
            refine wa_iload hC dL_holds_247 4 rfl ?_
            obtain ⟨⟨v42, M42⟩, h42, hf⟩ := bd hf
            dsimp only at hf
            refine wa_calli (rest := []) (wr_V hC (kX6_corrected l G h42) (cwV 2 hC.1.2.2.2.2 gL_holds_X6_corrected rfl rfl rfl (by decide +kernel) ⟨Nat.le_of_ble_eq_true rfl, Nat.le_of_ble_eq_true rfl⟩) (show kd 0 = 6 from rfl) (by decide) (ce6 (show kd 0 = 6 from rfl)) rfl rfl rfl rfl (Nat.le_of_ble_eq_true rfl) dL_holds_249) ?_
            refine wa_aload_n hC dL_holds_252 rfl 1 rfl ?_
            refine wa_iload_n hC dL_holds_253 rfl 2 rfl ?_
            refine wa_iload hC dL_holds_254 4 rfl ?_
            obtain ⟨⟨v43, M43⟩, h43, hf⟩ := bd hf
            dsimp only at hf
            refine wa_calli (rest := [_]) (wr_V hC (kX6_raw l G h43) (cwV 2 hC.1.2.2.2.2 gL_holds_X6_raw rfl rfl rfl (by decide +kernel) ⟨Nat.le_of_ble_eq_true rfl, Nat.le_of_ble_eq_true rfl⟩) (show kd 0 = 6 from rfl) (by decide) (ce6 (show kd 0 = 6 from rfl)) rfl rfl rfl rfl (Nat.le_of_ble_eq_true rfl) dL_holds_256) ?_
            refine wa_icmp_ne hC 266 dL_holds_259 (by decide) (fun c44 => ?_) (fun c44 => ?_)
            · have hf := ite_f hf c44
              refine wa_iconst (v := 0) hC dL_holds_266 (by decide) ?_
              refine wa_istore_n (lv' := [(1, .int _), (0, .ref _), (2, .int _), (3, .int _), (4, .int _), (5, .int _)]) hC dL_holds_267 rfl (by decide) rfl ?_
              refine wa_iinc (v := _ + 1) (lv' := [(3, .int _), (1, .int _), (0, .ref _), (2, .int _), (4, .int _), (5, .int _)]) hC dL_holds_268 (t := 3) rfl rfl (by decide) rfl ?_
              refine wa_goto hC 94 dL_holds_271 (by decide) ?_
              exact wa_sub [2, 1, 3, 0] rfl (hbk94 _ _ _ _ hf)
            · have hf := ite_t hf c44
              refine wa_iconst (v := 1) hC dL_holds_262 (by decide) ?_
              refine wa_goto hC 267 dL_holds_263 (by decide) ?_
              refine wa_istore_n (lv' := [(1, .int _), (0, .ref _), (2, .int _), (3, .int _), (4, .int _), (5, .int _)]) hC dL_holds_267 rfl (by decide) rfl ?_
              refine wa_iinc (v := _ + 1) (lv' := [(3, .int _), (1, .int _), (0, .ref _), (2, .int _), (4, .int _), (5, .int _)]) hC dL_holds_268 (t := 3) rfl rfl (by decide) rfl ?_
              refine wa_goto hC 94 dL_holds_271 (by decide) ?_
              exact wa_sub [2, 1, 3, 0] rfl (hbk94 _ _ _ _ hf)
  have hB94 : ∀ (bk83 : Int32 → Int32 → wM → Option (Bool × wM)) (hbk83 : (∀ (x1 : Int32) (x2 : Int32) (M0 : wM), bk83 x1 x2 M0 = some (b, M1) → wAt p l e rmL_holds s m args below meth c (qI below args s G (b2 b) M1) 6 G M0 83 [(0, .ref (ga G (0))), (1, .int (x1)), (2, .int (x2))] [])) (bk94 : Int32 → Int32 → Int32 → wM → Option (Bool × wM)) (hbk94 : (∀ (x1 : Int32) (x2 : Int32) (x3 : Int32) (M0 : wM), bk94 x1 x2 x3 M0 = some (b, M1) → wAt p l e rmL_holds s m args below meth c (qI below args s G (b2 b) M1) 6 G M0 94 [(0, .ref (ga G (0))), (1, .int (x1)), (2, .int (x2)), (3, .int (x3))] [])) (x1 : Int32) (x2 : Int32) (x3 : Int32) (M0 : wM), fL_holds_B94  bk83 bk94 x1 x2 x3 M0 = some (b, M1) → wAt p l e rmL_holds s m args below meth c (qI below args s G (b2 b) M1) 6 G M0 94 [(0, .ref (ga G (0))), (1, .int (x1)), (2, .int (x2)), (3, .int (x3))] [] := by
    intro bk83 hbk83 bk94 hbk94 x1 x2 x3 M0 hf
    unfold fL_holds_B94 at hf
    refine wa_iload_n hC dL_holds_94 rfl 3 rfl ?_
    refine wa_aload_n hC dL_holds_95 rfl 0 rfl ?_
    refine wa_iload_n hC dL_holds_96 rfl 2 rfl ?_
    obtain ⟨⟨v45, M45⟩, h45, hf⟩ := bd hf
    dsimp only at hf
    refine wa_calli (rest := [_]) (wr_V hC (kX6_loops l G h45) (cwV 1 hC.1.2.2.2.2 gL_holds_X6_loops rfl rfl rfl (by decide +kernel) ⟨Nat.le_of_ble_eq_true rfl, Nat.le_of_ble_eq_true rfl⟩) (show kd 0 = 6 from rfl) (by decide) (ce6 (show kd 0 = 6 from rfl)) rfl rfl rfl rfl (Nat.le_of_ble_eq_true rfl) dL_holds_97) ?_
    refine wa_icmp_ge hC 274 dL_holds_100 (by decide) (fun c46 => ?_) (fun c46 => ?_)
    · have hf := ite_t hf c46
      refine wa_iconst (v := 0) hC dL_holds_274 (by decide) ?_
      refine wa_istore_n (lv' := [(3, .int _), (0, .ref _), (1, .int _), (2, .int _)]) hC dL_holds_275 rfl (by decide) rfl ?_
      exact wa_sub [1, 2, 3, 0] rfl (hL276 bk83 hbk83 FU _ _ _ _ hf)
    · have hf := ite_f hf c46
      refine wa_iload_n hC dL_holds_103 rfl 1 rfl ?_
      refine wa_if_eq hC 274 dL_holds_104 (by decide) (fun c47 => ?_) (fun c47 => ?_)
      · have hf := ite_t hf c47
        refine wa_iconst (v := 0) hC dL_holds_274 (by decide) ?_
        refine wa_istore_n (lv' := [(3, .int _), (0, .ref _), (1, .int _), (2, .int _)]) hC dL_holds_275 rfl (by decide) rfl ?_
        exact wa_sub [1, 2, 3, 0] rfl (hL276 bk83 hbk83 FU _ _ _ _ hf)
      · have hf := ite_f hf c47
        refine wa_aload_n hC dL_holds_107 rfl 0 rfl ?_
        refine wa_iload_n hC dL_holds_108 rfl 2 rfl ?_
        refine wa_iload_n hC dL_holds_109 rfl 3 rfl ?_
        refine wa_iconst (v := 0) hC dL_holds_110 (by decide) ?_
        obtain ⟨⟨v48, M48⟩, h48, hf⟩ := bd hf
        dsimp only at hf
        refine wa_calli (rest := []) (wr_V hC (kX6_loop l G h48) (cwV 3 hC.1.2.2.2.2 gL_holds_X6_loop rfl rfl rfl (by decide +kernel) ⟨Nat.le_of_ble_eq_true rfl, Nat.le_of_ble_eq_true rfl⟩) (show kd 0 = 6 from rfl) (by decide) (ce6 (show kd 0 = 6 from rfl)) rfl rfl rfl rfl (Nat.le_of_ble_eq_true rfl) dL_holds_111) ?_
        refine wa_istore (lv' := [(4, .int _), (0, .ref _), (1, .int _), (2, .int _), (3, .int _)]) hC dL_holds_114 (by decide) rfl ?_
        refine wa_aload_n hC dL_holds_116 rfl 1 rfl ?_
        refine wa_iload_n hC dL_holds_117 rfl 3 rfl ?_
        refine wa_iload_n hC dL_holds_118 rfl 4 rfl ?_
        refine wa_iconst (v := 1) hC dL_holds_119 (by decide) ?_
        obtain ⟨⟨v49, M49⟩, h49, hf⟩ := bd hf
        dsimp only at hf
        refine wa_calli (rest := []) (wr_V hC (kX6_loop l G h49) (cwV 3 hC.1.2.2.2.2 gL_holds_X6_loop rfl rfl rfl (by decide +kernel) ⟨Nat.le_of_ble_eq_true rfl, Nat.le_of_ble_eq_true rfl⟩) (show kd 0 = 6 from rfl) (by decide) (ce6 (show kd 0 = 6 from rfl)) rfl rfl rfl rfl (Nat.le_of_ble_eq_true rfl) dL_holds_120) ?_
        refine wa_istore (lv' := [(5, .int _), (4, .int _), (0, .ref _), (1, .int _), (2, .int _), (3, .int _)]) hC dL_holds_123 (by decide) rfl ?_
        refine wa_iload hC dL_holds_125 1 rfl ?_
        refine wa_iload hC dL_holds_127 0 rfl ?_
        refine wa_icmp_ge hC 200 dL_holds_129 (by decide) (fun c50 => ?_) (fun c50 => ?_)
        · have hf := ite_t hf c50
          refine wa_iconst (v := 0) hC dL_holds_200 (by decide) ?_
          exact wa_sub [2, 4, 5, 1, 0] rfl (hJ201 bk83 hbk83 bk94 hbk94 _ _ _ _ _ _ hf)
        · have hf := ite_f hf c50
          refine wa_aload_n hC dL_holds_132 rfl 2 rfl ?_
          refine wa_iload_n hC dL_holds_133 rfl 4 rfl ?_
          refine wa_iload hC dL_holds_134 1 rfl ?_
          refine wa_iconst (v := 3) hC dL_holds_136 (by decide) ?_
          obtain ⟨⟨v51, M51⟩, h51, hf⟩ := bd hf
          dsimp only at hf
          refine wa_calli (rest := []) (wr_V hC (kX6_reading l G h51) (cwV 3 hC.1.2.2.2.2 gL_holds_X6_reading rfl rfl rfl (by decide +kernel) ⟨Nat.le_of_ble_eq_true rfl, Nat.le_of_ble_eq_true rfl⟩) (show kd 0 = 6 from rfl) (by decide) (ce6 (show kd 0 = 6 from rfl)) rfl rfl rfl rfl (Nat.le_of_ble_eq_true rfl) dL_holds_137) ?_
          refine wa_aload_n hC dL_holds_140 rfl 2 rfl ?_
          refine wa_iload_n hC dL_holds_141 rfl 4 rfl ?_
          refine wa_iload hC dL_holds_142 0 rfl ?_
          refine wa_iconst (v := 3) hC dL_holds_144 (by decide) ?_
          obtain ⟨⟨v52, M52⟩, h52, hf⟩ := bd hf
          dsimp only at hf
          refine wa_calli (rest := [_]) (wr_V hC (kX6_reading l G h52) (cwV 3 hC.1.2.2.2.2 gL_holds_X6_reading rfl rfl rfl (by decide +kernel) ⟨Nat.le_of_ble_eq_true rfl, Nat.le_of_ble_eq_true rfl⟩) (show kd 0 = 6 from rfl) (by decide) (ce6 (show kd 0 = 6 from rfl)) rfl rfl rfl rfl (Nat.le_of_ble_eq_true rfl) dL_holds_145) ?_
          refine wa_icmp_ne hC 200 dL_holds_148 (by decide) (fun c53 => ?_) (fun c53 => ?_)
          · have hf := ite_f hf c53
            refine wa_iconst (v := 0) hC dL_holds_200 (by decide) ?_
            exact wa_sub [2, 4, 5, 1, 0] rfl (hJ201 bk83 hbk83 bk94 hbk94 _ _ _ _ _ _ hf)
          · have hf := ite_t hf c53
            refine wa_aload_n hC dL_holds_151 rfl 2 rfl ?_
            refine wa_iload_n hC dL_holds_152 rfl 4 rfl ?_
            refine wa_iload_n hC dL_holds_153 rfl 5 rfl ?_
            refine wa_iconst (v := 2) hC dL_holds_154 (by decide) ?_
            obtain ⟨⟨v54, M54⟩, h54, hf⟩ := bd hf
            dsimp only at hf
            refine wa_calli (rest := []) (wr_V hC (kX6_loop l G h54) (cwV 3 hC.1.2.2.2.2 gL_holds_X6_loop rfl rfl rfl (by decide +kernel) ⟨Nat.le_of_ble_eq_true rfl, Nat.le_of_ble_eq_true rfl⟩) (show kd 0 = 6 from rfl) (by decide) (ce6 (show kd 0 = 6 from rfl)) rfl rfl rfl rfl (Nat.le_of_ble_eq_true rfl) dL_holds_155) ?_
            refine wa_aload_n hC dL_holds_158 rfl 2 rfl ?_
            refine wa_iload_n hC dL_holds_159 rfl 4 rfl ?_
            refine wa_iload_n hC dL_holds_160 rfl 5 rfl ?_
            refine wa_iconst (v := 3) hC dL_holds_161 (by decide) ?_
            obtain ⟨⟨v55, M55⟩, h55, hf⟩ := bd hf
            dsimp only at hf
            refine wa_calli (rest := [_]) (wr_V hC (kX6_loop l G h55) (cwV 3 hC.1.2.2.2.2 gL_holds_X6_loop rfl rfl rfl (by decide +kernel) ⟨Nat.le_of_ble_eq_true rfl, Nat.le_of_ble_eq_true rfl⟩) (show kd 0 = 6 from rfl) (by decide) (ce6 (show kd 0 = 6 from rfl)) rfl rfl rfl rfl (Nat.le_of_ble_eq_true rfl) dL_holds_162) ?_
            refine wa_icmp_ne hC 200 dL_holds_165 (by decide) (fun c56 => ?_) (fun c56 => ?_)
            · have hf := ite_f hf c56
              refine wa_iconst (v := 0) hC dL_holds_200 (by decide) ?_
              exact wa_sub [2, 4, 5, 1, 0] rfl (hJ201 bk83 hbk83 bk94 hbk94 _ _ _ _ _ _ hf)
            · have hf := ite_t hf c56
              refine wa_aload_n hC dL_holds_168 rfl 2 rfl ?_
              refine wa_iload_n hC dL_holds_169 rfl 4 rfl ?_
              refine wa_iload_n hC dL_holds_170 rfl 5 rfl ?_
              refine wa_iconst (v := 4) hC dL_holds_171 (by decide) ?_
              obtain ⟨⟨v57, M57⟩, h57, hf⟩ := bd hf
              dsimp only at hf
              refine wa_calli (rest := []) (wr_V hC (kX6_loop l G h57) (cwV 3 hC.1.2.2.2.2 gL_holds_X6_loop rfl rfl rfl (by decide +kernel) ⟨Nat.le_of_ble_eq_true rfl, Nat.le_of_ble_eq_true rfl⟩) (show kd 0 = 6 from rfl) (by decide) (ce6 (show kd 0 = 6 from rfl)) rfl rfl rfl rfl (Nat.le_of_ble_eq_true rfl) dL_holds_172) ?_
              refine wa_if_le hC 200 dL_holds_175 (by decide) (fun c58 => ?_) (fun c58 => ?_)
              · have hf := ite_t hf c58
                refine wa_iconst (v := 0) hC dL_holds_200 (by decide) ?_
                exact wa_sub [2, 4, 5, 1, 0] rfl (hJ201 bk83 hbk83 bk94 hbk94 _ _ _ _ _ _ hf)
              · have hf := ite_f hf c58
                refine wa_iload_n hC dL_holds_178 rfl 5 rfl ?_
                refine wa_if_eq hC 196 dL_holds_179 (by decide) (fun c59 => ?_) (fun c59 => ?_)
                · have hf := ite_t hf c59
                  refine wa_iconst (v := 1) hC dL_holds_196 (by decide) ?_
                  refine wa_goto hC 201 dL_holds_197 (by decide) ?_
                  exact wa_sub [2, 4, 5, 1, 0] rfl (hJ201 bk83 hbk83 bk94 hbk94 _ _ _ _ _ _ hf)
                · have hf := ite_f hf c59
                  refine wa_iload hC dL_holds_182 0 rfl ?_
                  refine wa_aload_n hC dL_holds_184 rfl 2 rfl ?_
                  refine wa_iload_n hC dL_holds_185 rfl 4 rfl ?_
                  refine wa_iload_n hC dL_holds_186 rfl 5 rfl ?_
                  refine wa_iconst (v := 1) hC dL_holds_187 (by decide) ?_
                  refine wa_isub hC dL_holds_188 ?_
                  refine wa_iconst (v := 1) hC dL_holds_189 (by decide) ?_
                  obtain ⟨⟨v60, M60⟩, h60, hf⟩ := bd hf
                  dsimp only at hf
                  refine wa_calli (rest := [_]) (wr_V hC (kX6_loop l G h60) (cwV 3 hC.1.2.2.2.2 gL_holds_X6_loop rfl rfl rfl (by decide +kernel) ⟨Nat.le_of_ble_eq_true rfl, Nat.le_of_ble_eq_true rfl⟩) (show kd 0 = 6 from rfl) (by decide) (ce6 (show kd 0 = 6 from rfl)) rfl rfl rfl rfl (Nat.le_of_ble_eq_true rfl) dL_holds_190) ?_
                  refine wa_icmp_le hC 200 dL_holds_193 (by decide) (fun c61 => ?_) (fun c61 => ?_)
                  · have hf := ite_t hf c61
                    refine wa_iconst (v := 0) hC dL_holds_200 (by decide) ?_
                    exact wa_sub [2, 4, 5, 1, 0] rfl (hJ201 bk83 hbk83 bk94 hbk94 _ _ _ _ _ _ hf)
                  · have hf := ite_f hf c61
                    refine wa_iconst (v := 1) hC dL_holds_196 (by decide) ?_
                    refine wa_goto hC 201 dL_holds_197 (by decide) ?_
                    exact wa_sub [2, 4, 5, 1, 0] rfl (hJ201 bk83 hbk83 bk94 hbk94 _ _ _ _ _ _ hf)
  have hL94 : ∀ (bk83 : Int32 → Int32 → wM → Option (Bool × wM)) (hbk83 : (∀ (x1 : Int32) (x2 : Int32) (M0 : wM), bk83 x1 x2 M0 = some (b, M1) → wAt p l e rmL_holds s m args below meth c (qI below args s G (b2 b) M1) 6 G M0 83 [(0, .ref (ga G (0))), (1, .int (x1)), (2, .int (x2))] [])) (n : Nat) (x1 : Int32) (x2 : Int32) (x3 : Int32) (M0 : wM), fL_holds_L94  bk83 n x1 x2 x3 M0 = some (b, M1) → wAt p l e rmL_holds s m args below meth c (qI below args s G (b2 b) M1) 6 G M0 94 [(0, .ref (ga G (0))), (1, .int (x1)), (2, .int (x2)), (3, .int (x3))] [] := by
    intro bk83 hbk83 n
    induction n with
    | zero =>
      intro x1 x2 x3 M0 hf
      exact absurd hf (by simp [fL_holds_L94])
    | succ n ih =>
      intro x1 x2 x3 M0 hf
      exact hB94 bk83 hbk83 (fL_holds_L94  bk83 n) ih x1 x2 x3 M0 hf
  have hB83 : ∀ (bk83 : Int32 → Int32 → wM → Option (Bool × wM)) (hbk83 : (∀ (x1 : Int32) (x2 : Int32) (M0 : wM), bk83 x1 x2 M0 = some (b, M1) → wAt p l e rmL_holds s m args below meth c (qI below args s G (b2 b) M1) 6 G M0 83 [(0, .ref (ga G (0))), (1, .int (x1)), (2, .int (x2))] [])) (x1 : Int32) (x2 : Int32) (M0 : wM), fL_holds_B83  bk83 x1 x2 M0 = some (b, M1) → wAt p l e rmL_holds s m args below meth c (qI below args s G (b2 b) M1) 6 G M0 83 [(0, .ref (ga G (0))), (1, .int (x1)), (2, .int (x2))] [] := by
    intro bk83 hbk83 x1 x2 M0 hf
    unfold fL_holds_B83 at hf
    refine wa_iload_n hC dL_holds_83 rfl 2 rfl ?_
    refine wa_iconst (v := 3) hC dL_holds_84 (by decide) ?_
    refine wa_icmp_ge hC 391 dL_holds_85 (by decide) (fun c62 => ?_) (fun c62 => ?_)
    · have hf := ite_t hf c62
      refine wa_iconst (v := 0) hC dL_holds_391 (by decide) ?_
      refine wa_istore_n (lv' := [(2, .int _), (0, .ref _), (1, .int _)]) hC dL_holds_392 rfl (by decide) rfl ?_
      refine wa_iconst (v := 0) hC dL_holds_393 (by decide) ?_
      refine wa_istore_n (lv' := [(3, .int _), (2, .int _), (0, .ref _), (1, .int _)]) hC dL_holds_394 rfl (by decide) rfl ?_
      exact wa_sub [2, 3, 1, 0] rfl (hL395 FU _ _ _ _ hf)
    · have hf := ite_f hf c62
      refine wa_iload_n hC dL_holds_88 rfl 1 rfl ?_
      refine wa_if_eq hC 391 dL_holds_89 (by decide) (fun c63 => ?_) (fun c63 => ?_)
      · have hf := ite_t hf c63
        refine wa_iconst (v := 0) hC dL_holds_391 (by decide) ?_
        refine wa_istore_n (lv' := [(2, .int _), (0, .ref _), (1, .int _)]) hC dL_holds_392 rfl (by decide) rfl ?_
        refine wa_iconst (v := 0) hC dL_holds_393 (by decide) ?_
        refine wa_istore_n (lv' := [(3, .int _), (2, .int _), (0, .ref _), (1, .int _)]) hC dL_holds_394 rfl (by decide) rfl ?_
        exact wa_sub [2, 3, 1, 0] rfl (hL395 FU _ _ _ _ hf)
      · have hf := ite_f hf c63
        refine wa_iconst (v := 0) hC dL_holds_92 (by decide) ?_
        refine wa_istore_n (lv' := [(3, .int _), (0, .ref _), (1, .int _), (2, .int _)]) hC dL_holds_93 rfl (by decide) rfl ?_
        exact wa_sub [1, 2, 3, 0] rfl (hL94 bk83 hbk83 FU _ _ _ _ hf)
  have hL83 : ∀ (n : Nat) (x1 : Int32) (x2 : Int32) (M0 : wM), fL_holds_L83   n x1 x2 M0 = some (b, M1) → wAt p l e rmL_holds s m args below meth c (qI below args s G (b2 b) M1) 6 G M0 83 [(0, .ref (ga G (0))), (1, .int (x1)), (2, .int (x2))] [] := by
    intro  n
    induction n with
    | zero =>
      intro x1 x2 M0 hf
      exact absurd hf (by simp [fL_holds_L83])
    | succ n ih =>
      intro x1 x2 M0 hf
      exact hB83  (fL_holds_L83   n) ih x1 x2 M0 hf
  have hB29 : ∀ (bk18 : Int32 → Int32 → wM → Option (Bool × wM)) (hbk18 : (∀ (x1 : Int32) (x2 : Int32) (M0 : wM), bk18 x1 x2 M0 = some (b, M1) → wAt p l e rmL_holds s m args below meth c (qI below args s G (b2 b) M1) 6 G M0 18 [(0, .ref (ga G (0))), (1, .int (x1)), (2, .int (x2))] [])) (bk29 : Int32 → Int32 → Int32 → wM → Option (Bool × wM)) (hbk29 : (∀ (x1 : Int32) (x2 : Int32) (x3 : Int32) (M0 : wM), bk29 x1 x2 x3 M0 = some (b, M1) → wAt p l e rmL_holds s m args below meth c (qI below args s G (b2 b) M1) 6 G M0 29 [(0, .ref (ga G (0))), (1, .int (x1)), (2, .int (x2)), (3, .int (x3))] [])) (x1 : Int32) (x2 : Int32) (x3 : Int32) (M0 : wM), fL_holds_B29  bk18 bk29 x1 x2 x3 M0 = some (b, M1) → wAt p l e rmL_holds s m args below meth c (qI below args s G (b2 b) M1) 6 G M0 29 [(0, .ref (ga G (0))), (1, .int (x1)), (2, .int (x2)), (3, .int (x3))] [] := by
    intro bk18 hbk18 bk29 hbk29 x1 x2 x3 M0 hf
    unfold fL_holds_B29 at hf
    refine wa_iload_n hC dL_holds_29 rfl 3 rfl ?_
    refine wa_aload_n hC dL_holds_30 rfl 0 rfl ?_
    refine wa_iconst (v := 1) hC dL_holds_31 (by decide) ?_
    refine wa_iload_n hC dL_holds_32 rfl 2 rfl ?_
    refine wa_iadd hC dL_holds_33 ?_
    obtain ⟨⟨v64, M64⟩, h64, hf⟩ := bd hf
    dsimp only at hf
    refine wa_calli (rest := [_]) (wr_V hC (kX6_count l G h64) (cwV 1 hC.1.2.2.2.2 gL_holds_X6_count rfl rfl rfl (by decide +kernel) ⟨Nat.le_of_ble_eq_true rfl, Nat.le_of_ble_eq_true rfl⟩) (show kd 0 = 6 from rfl) (by decide) (ce6 (show kd 0 = 6 from rfl)) rfl rfl rfl rfl (Nat.le_of_ble_eq_true rfl) dL_holds_34) ?_
    refine wa_icmp_ge hC 75 dL_holds_37 (by decide) (fun c65 => ?_) (fun c65 => ?_)
    · have hf := ite_t hf c65
      refine wa_iinc (v := _ + 1) (lv' := [(2, .int _), (0, .ref _), (1, .int _), (3, .int _)]) hC dL_holds_75 (t := 2) rfl rfl (by decide) rfl ?_
      refine wa_goto hC 18 dL_holds_78 (by decide) ?_
      exact wa_sub [1, 2, 0] rfl (hbk18 _ _ _ hf)
    · have hf := ite_f hf c65
      refine wa_iload_n hC dL_holds_40 rfl 1 rfl ?_
      refine wa_if_eq hC 67 dL_holds_41 (by decide) (fun c66 => ?_) (fun c66 => ?_)
      · have hf := ite_t hf c66
        refine wa_iconst (v := 0) hC dL_holds_67 (by decide) ?_
        refine wa_istore_n (lv' := [(1, .int _), (0, .ref _), (2, .int _), (3, .int _)]) hC dL_holds_68 rfl (by decide) rfl ?_
        refine wa_iinc (v := _ + 1) (lv' := [(3, .int _), (1, .int _), (0, .ref _), (2, .int _)]) hC dL_holds_69 (t := 3) rfl rfl (by decide) rfl ?_
        refine wa_goto hC 29 dL_holds_72 (by decide) ?_
        exact wa_sub [2, 1, 3, 0] rfl (hbk29 _ _ _ _ hf)
      · have hf := ite_f hf c66
        refine wa_aload_n hC dL_holds_44 rfl 0 rfl ?_
        refine wa_iload_n hC dL_holds_45 rfl 2 rfl ?_
        refine wa_iload_n hC dL_holds_46 rfl 3 rfl ?_
        refine wa_iconst (v := 0) hC dL_holds_47 (by decide) ?_
        obtain ⟨⟨v67, M67⟩, h67, hf⟩ := bd hf
        dsimp only at hf
        refine wa_calli (rest := []) (wr_V hC (kX6_reading l G h67) (cwV 3 hC.1.2.2.2.2 gL_holds_X6_reading rfl rfl rfl (by decide +kernel) ⟨Nat.le_of_ble_eq_true rfl, Nat.le_of_ble_eq_true rfl⟩) (show kd 0 = 6 from rfl) (by decide) (ce6 (show kd 0 = 6 from rfl)) rfl rfl rfl rfl (Nat.le_of_ble_eq_true rfl) dL_holds_48) ?_
        refine wa_aload_n hC dL_holds_51 rfl 0 rfl ?_
        refine wa_iload_n hC dL_holds_52 rfl 2 rfl ?_
        refine wa_iload_n hC dL_holds_53 rfl 3 rfl ?_
        refine wa_iconst (v := 1) hC dL_holds_54 (by decide) ?_
        refine wa_isub hC dL_holds_55 ?_
        refine wa_iconst (v := 0) hC dL_holds_56 (by decide) ?_
        obtain ⟨⟨v68, M68⟩, h68, hf⟩ := bd hf
        dsimp only at hf
        refine wa_calli (rest := [_]) (wr_V hC (kX6_reading l G h68) (cwV 3 hC.1.2.2.2.2 gL_holds_X6_reading rfl rfl rfl (by decide +kernel) ⟨Nat.le_of_ble_eq_true rfl, Nat.le_of_ble_eq_true rfl⟩) (show kd 0 = 6 from rfl) (by decide) (ce6 (show kd 0 = 6 from rfl)) rfl rfl rfl rfl (Nat.le_of_ble_eq_true rfl) dL_holds_57) ?_
        refine wa_icmp_le hC 67 dL_holds_60 (by decide) (fun c69 => ?_) (fun c69 => ?_)
        · have hf := ite_t hf c69
          refine wa_iconst (v := 0) hC dL_holds_67 (by decide) ?_
          refine wa_istore_n (lv' := [(1, .int _), (0, .ref _), (2, .int _), (3, .int _)]) hC dL_holds_68 rfl (by decide) rfl ?_
          refine wa_iinc (v := _ + 1) (lv' := [(3, .int _), (1, .int _), (0, .ref _), (2, .int _)]) hC dL_holds_69 (t := 3) rfl rfl (by decide) rfl ?_
          refine wa_goto hC 29 dL_holds_72 (by decide) ?_
          exact wa_sub [2, 1, 3, 0] rfl (hbk29 _ _ _ _ hf)
        · have hf := ite_f hf c69
          refine wa_iconst (v := 1) hC dL_holds_63 (by decide) ?_
          refine wa_goto hC 68 dL_holds_64 (by decide) ?_
          refine wa_istore_n (lv' := [(1, .int _), (0, .ref _), (2, .int _), (3, .int _)]) hC dL_holds_68 rfl (by decide) rfl ?_
          refine wa_iinc (v := _ + 1) (lv' := [(3, .int _), (1, .int _), (0, .ref _), (2, .int _)]) hC dL_holds_69 (t := 3) rfl rfl (by decide) rfl ?_
          refine wa_goto hC 29 dL_holds_72 (by decide) ?_
          exact wa_sub [2, 1, 3, 0] rfl (hbk29 _ _ _ _ hf)
  have hL29 : ∀ (bk18 : Int32 → Int32 → wM → Option (Bool × wM)) (hbk18 : (∀ (x1 : Int32) (x2 : Int32) (M0 : wM), bk18 x1 x2 M0 = some (b, M1) → wAt p l e rmL_holds s m args below meth c (qI below args s G (b2 b) M1) 6 G M0 18 [(0, .ref (ga G (0))), (1, .int (x1)), (2, .int (x2))] [])) (n : Nat) (x1 : Int32) (x2 : Int32) (x3 : Int32) (M0 : wM), fL_holds_L29  bk18 n x1 x2 x3 M0 = some (b, M1) → wAt p l e rmL_holds s m args below meth c (qI below args s G (b2 b) M1) 6 G M0 29 [(0, .ref (ga G (0))), (1, .int (x1)), (2, .int (x2)), (3, .int (x3))] [] := by
    intro bk18 hbk18 n
    induction n with
    | zero =>
      intro x1 x2 x3 M0 hf
      exact absurd hf (by simp [fL_holds_L29])
    | succ n ih =>
      intro x1 x2 x3 M0 hf
      exact hB29 bk18 hbk18 (fL_holds_L29  bk18 n) ih x1 x2 x3 M0 hf
  have hB18 : ∀ (bk18 : Int32 → Int32 → wM → Option (Bool × wM)) (hbk18 : (∀ (x1 : Int32) (x2 : Int32) (M0 : wM), bk18 x1 x2 M0 = some (b, M1) → wAt p l e rmL_holds s m args below meth c (qI below args s G (b2 b) M1) 6 G M0 18 [(0, .ref (ga G (0))), (1, .int (x1)), (2, .int (x2))] [])) (x1 : Int32) (x2 : Int32) (M0 : wM), fL_holds_B18  bk18 x1 x2 M0 = some (b, M1) → wAt p l e rmL_holds s m args below meth c (qI below args s G (b2 b) M1) 6 G M0 18 [(0, .ref (ga G (0))), (1, .int (x1)), (2, .int (x2))] [] := by
    intro bk18 hbk18 x1 x2 M0 hf
    unfold fL_holds_B18 at hf
    refine wa_iload_n hC dL_holds_18 rfl 2 rfl ?_
    refine wa_iconst (v := 3) hC dL_holds_19 (by decide) ?_
    refine wa_icmp_ge hC 81 dL_holds_20 (by decide) (fun c70 => ?_) (fun c70 => ?_)
    · have hf := ite_t hf c70
      refine wa_iconst (v := 0) hC dL_holds_81 (by decide) ?_
      refine wa_istore_n (lv' := [(2, .int _), (0, .ref _), (1, .int _)]) hC dL_holds_82 rfl (by decide) rfl ?_
      exact wa_sub [1, 2, 0] rfl (hL83 FU _ _ _ hf)
    · have hf := ite_f hf c70
      refine wa_iload_n hC dL_holds_23 rfl 1 rfl ?_
      refine wa_if_eq hC 81 dL_holds_24 (by decide) (fun c71 => ?_) (fun c71 => ?_)
      · have hf := ite_t hf c71
        refine wa_iconst (v := 0) hC dL_holds_81 (by decide) ?_
        refine wa_istore_n (lv' := [(2, .int _), (0, .ref _), (1, .int _)]) hC dL_holds_82 rfl (by decide) rfl ?_
        exact wa_sub [1, 2, 0] rfl (hL83 FU _ _ _ hf)
      · have hf := ite_f hf c71
        refine wa_iconst (v := 1) hC dL_holds_27 (by decide) ?_
        refine wa_istore_n (lv' := [(3, .int _), (0, .ref _), (1, .int _), (2, .int _)]) hC dL_holds_28 rfl (by decide) rfl ?_
        exact wa_sub [1, 2, 3, 0] rfl (hL29 bk18 hbk18 FU _ _ _ _ hf)
  have hL18 : ∀ (n : Nat) (x1 : Int32) (x2 : Int32) (M0 : wM), fL_holds_L18   n x1 x2 M0 = some (b, M1) → wAt p l e rmL_holds s m args below meth c (qI below args s G (b2 b) M1) 6 G M0 18 [(0, .ref (ga G (0))), (1, .int (x1)), (2, .int (x2))] [] := by
    intro  n
    induction n with
    | zero =>
      intro x1 x2 M0 hf
      exact absurd hf (by simp [fL_holds_L18])
    | succ n ih =>
      intro x1 x2 M0 hf
      exact hB18  (fL_holds_L18   n) ih x1 x2 M0 hf
  unfold fL_holds at hf
  refine wa_aload_n hC dL_holds_0 rfl 0 rfl ?_
  refine wa_iconst (v := 0) hC dL_holds_1 (by decide) ?_
  obtain ⟨⟨v72, M72⟩, h72, hf⟩ := bd hf
  dsimp only at hf
  refine wa_calli (rest := []) (wr_V hC (kX6_count l G h72) (cwV 1 hC.1.2.2.2.2 gL_holds_X6_count rfl rfl rfl (by decide +kernel) ⟨Nat.le_of_ble_eq_true rfl, Nat.le_of_ble_eq_true rfl⟩) (show kd 0 = 6 from rfl) (by decide) (ce6 (show kd 0 = 6 from rfl)) rfl rfl rfl rfl (Nat.le_of_ble_eq_true rfl) dL_holds_2) ?_
  refine wa_bipush (v := 12) hC dL_holds_5 (by decide) ?_
  refine wa_icmp_gt hC 14 dL_holds_7 (by decide) (fun c73 => ?_) (fun c73 => ?_)
  · have hf := ite_t hf c73
    refine wa_iconst (v := 0) hC dL_holds_14 (by decide) ?_
    refine wa_istore_n (lv' := [(1, .int _), (0, .ref _)]) hC dL_holds_15 rfl (by decide) rfl ?_
    refine wa_iconst (v := -1) hC dL_holds_16 (by decide) ?_
    refine wa_istore_n (lv' := [(2, .int _), (1, .int _), (0, .ref _)]) hC dL_holds_17 rfl (by decide) rfl ?_
    exact wa_sub [2, 1, 0] rfl (hL18 FU _ _ _ hf)
  · have hf := ite_f hf c73
    refine wa_iconst (v := 1) hC dL_holds_10 (by decide) ?_
    refine wa_goto hC 15 dL_holds_11 (by decide) ?_
    refine wa_istore_n (lv' := [(1, .int _), (0, .ref _)]) hC dL_holds_15 rfl (by decide) rfl ?_
    refine wa_iconst (v := -1) hC dL_holds_16 (by decide) ?_
    refine wa_istore_n (lv' := [(2, .int _), (1, .int _), (0, .ref _)]) hC dL_holds_17 rfl (by decide) rfl ?_
    exact wa_sub [2, 1, 0] rfl (hL18 FU _ _ _ hf)
abbrev rmL_level : Room := { frames := 7, cells := 0, slots := 0, locals := 178 }
set_option maxHeartbeats 4000000 in
set_option maxRecDepth 100000 in
theorem kL_level (l : Launch) (G : wG)  {M0 M1 : wM} {b : Bool} (hf : fL_level  M0 = some (b, M1)) : mI l yL_level wsL_level rmL_level G [.ref (ga G (0))] M0 (b2 b) M1 := by
  refine mI.of (cc := cL_level) (nL := 4) (ret := (some .boolean)) (own := RL) (lv := [(0, .ref (ga G (0)))]) (plainFor_of_name (by decide +kernel)) rfl rfl (Nat.le_of_ble_eq_true rfl) rfl ?_
  intro p e s m args below meth c hC hr hlk
  have hB4 : ∀ (bk4 : Int32 → Int32 → wM → Option (Bool × wM)) (hbk4 : (∀ (x1 : Int32) (x2 : Int32) (M0 : wM), bk4 x1 x2 M0 = some (b, M1) → wAt p l e rmL_level s m args below meth c (qI below args s G (b2 b) M1) 4 G M0 4 [(0, .ref (ga G (0))), (1, .int (x1)), (2, .int (x2))] [])) (x1 : Int32) (x2 : Int32) (M0 : wM), fL_level_B4  bk4 x1 x2 M0 = some (b, M1) → wAt p l e rmL_level s m args below meth c (qI below args s G (b2 b) M1) 4 G M0 4 [(0, .ref (ga G (0))), (1, .int (x1)), (2, .int (x2))] [] := by
    intro bk4 hbk4 x1 x2 M0 hf
    unfold fL_level_B4 at hf
    refine wa_iload_n hC dL_level_4 rfl 2 rfl ?_
    refine wa_aload_n hC dL_level_5 rfl 0 rfl ?_
    refine wa_iconst (v := 0) hC dL_level_6 (by decide) ?_
    obtain ⟨⟨v1, M1⟩, h1, hf⟩ := bd hf
    dsimp only at hf
    refine wa_calli (rest := [_]) (wr_V hC (kX6_count l G h1) (cwV 1 hC.1.2.2.2.2 gL_level_X6_count rfl rfl rfl (by decide +kernel) ⟨Nat.le_of_ble_eq_true rfl, Nat.le_of_ble_eq_true rfl⟩) (show kd 0 = 6 from rfl) (by decide) (ce6 (show kd 0 = 6 from rfl)) rfl rfl rfl rfl (Nat.le_of_ble_eq_true rfl) dL_level_7) ?_
    refine wa_icmp_ge hC 97 dL_level_10 (by decide) (fun c2 => ?_) (fun c2 => ?_)
    · have hf := ite_t hf c2
      refine wa_iload_n hC dL_level_97 rfl 1 rfl ?_
      obtain ⟨b3, hb3, hf⟩ := bd hf
      have hb3 := bz_some hb3
      exact wa_zret hC hlk hr (hb3.trans (congrArg b2 (congrArg Prod.fst (so_inj hf)))) (congrArg Prod.snd (so_inj hf)) dL_level_98
    · have hf := ite_f hf c2
      refine wa_iload_n hC dL_level_13 rfl 1 rfl ?_
      refine wa_if_eq hC 97 dL_level_14 (by decide) (fun c4 => ?_) (fun c4 => ?_)
      · have hf := ite_t hf c4
        refine wa_iload_n hC dL_level_97 rfl 1 rfl ?_
        obtain ⟨b5, hb5, hf⟩ := bd hf
        have hb5 := bz_some hb5
        exact wa_zret hC hlk hr (hb5.trans (congrArg b2 (congrArg Prod.fst (so_inj hf)))) (congrArg Prod.snd (so_inj hf)) dL_level_98
      · have hf := ite_f hf c4
        refine wa_aload_n hC dL_level_17 rfl 0 rfl ?_
        refine wa_iconst (v := -1) hC dL_level_18 (by decide) ?_
        refine wa_iload_n hC dL_level_19 rfl 2 rfl ?_
        refine wa_iconst (v := 0) hC dL_level_20 (by decide) ?_
        obtain ⟨⟨v6, M6⟩, h6, hf⟩ := bd hf
        dsimp only at hf
        refine wa_calli (rest := []) (wr_V hC (kX6_reading l G h6) (cwV 3 hC.1.2.2.2.2 gL_level_X6_reading rfl rfl rfl (by decide +kernel) ⟨Nat.le_of_ble_eq_true rfl, Nat.le_of_ble_eq_true rfl⟩) (show kd 0 = 6 from rfl) (by decide) (ce6 (show kd 0 = 6 from rfl)) rfl rfl rfl rfl (Nat.le_of_ble_eq_true rfl) dL_level_21) ?_
        refine wa_istore_n (lv' := [(3, .int _), (0, .ref _), (1, .int _), (2, .int _)]) hC dL_level_24 rfl (by decide) rfl ?_
        refine wa_aload_n hC dL_level_25 rfl 1 rfl ?_
        refine wa_iload_n hC dL_level_26 rfl 0 rfl ?_
        refine wa_iconst (v := 0) hC dL_level_27 (by decide) ?_
        obtain ⟨v7, h7, hf⟩ := bd hf
        refine wa_calli (rest := []) (wr_V hC (kX6_baseAt l G h7) (cwV 2 hC.1.2.2.2.2 gL_level_X6_baseAt rfl rfl rfl (by decide +kernel) ⟨Nat.le_of_ble_eq_true rfl, Nat.le_of_ble_eq_true rfl⟩) (show kd 0 = 6 from rfl) (by decide) (ce6 (show kd 0 = 6 from rfl)) rfl rfl rfl rfl (Nat.le_of_ble_eq_true rfl) dL_level_28) ?_
        refine wa_aload_n hC dL_level_31 rfl 1 rfl ?_
        refine wa_iconst (v := -1) hC dL_level_32 (by decide) ?_
        refine wa_iload_n hC dL_level_33 rfl 3 rfl ?_
        refine wa_iconst (v := 1) hC dL_level_34 (by decide) ?_
        obtain ⟨⟨v8, M8⟩, h8, hf⟩ := bd hf
        dsimp only at hf
        refine wa_calli (rest := [_]) (wr_V hC (kX6_reading l G h8) (cwV 3 hC.1.2.2.2.2 gL_level_X6_reading rfl rfl rfl (by decide +kernel) ⟨Nat.le_of_ble_eq_true rfl, Nat.le_of_ble_eq_true rfl⟩) (show kd 0 = 6 from rfl) (by decide) (ce6 (show kd 0 = 6 from rfl)) rfl rfl rfl rfl (Nat.le_of_ble_eq_true rfl) dL_level_35) ?_
        refine wa_icmp_ne hC 89 dL_level_38 (by decide) (fun c9 => ?_) (fun c9 => ?_)
        · have hf := ite_f hf c9
          refine wa_iconst (v := 0) hC dL_level_89 (by decide) ?_
          refine wa_istore_n (lv' := [(1, .int _), (3, .int _), (0, .ref _), (2, .int _)]) hC dL_level_90 rfl (by decide) rfl ?_
          refine wa_iinc (v := _ + 1) (lv' := [(2, .int _), (1, .int _), (3, .int _), (0, .ref _)]) hC dL_level_91 (t := 3) rfl rfl (by decide) rfl ?_
          refine wa_goto hC 4 dL_level_94 (by decide) ?_
          exact wa_sub [3, 1, 0] rfl (hbk4 _ _ _ hf)
        · have hf := ite_t hf c9
          refine wa_aload_n hC dL_level_41 rfl 1 rfl ?_
          refine wa_iload_n hC dL_level_42 rfl 0 rfl ?_
          refine wa_iconst (v := 1) hC dL_level_43 (by decide) ?_
          obtain ⟨v10, h10, hf⟩ := bd hf
          refine wa_calli (rest := []) (wr_V hC (kX6_baseAt l G h10) (cwV 2 hC.1.2.2.2.2 gL_level_X6_baseAt rfl rfl rfl (by decide +kernel) ⟨Nat.le_of_ble_eq_true rfl, Nat.le_of_ble_eq_true rfl⟩) (show kd 0 = 6 from rfl) (by decide) (ce6 (show kd 0 = 6 from rfl)) rfl rfl rfl rfl (Nat.le_of_ble_eq_true rfl) dL_level_44) ?_
          refine wa_aload_n hC dL_level_47 rfl 1 rfl ?_
          refine wa_iconst (v := -1) hC dL_level_48 (by decide) ?_
          refine wa_iload_n hC dL_level_49 rfl 3 rfl ?_
          refine wa_iconst (v := 2) hC dL_level_50 (by decide) ?_
          obtain ⟨⟨v11, M11⟩, h11, hf⟩ := bd hf
          dsimp only at hf
          refine wa_calli (rest := [_]) (wr_V hC (kX6_reading l G h11) (cwV 3 hC.1.2.2.2.2 gL_level_X6_reading rfl rfl rfl (by decide +kernel) ⟨Nat.le_of_ble_eq_true rfl, Nat.le_of_ble_eq_true rfl⟩) (show kd 0 = 6 from rfl) (by decide) (ce6 (show kd 0 = 6 from rfl)) rfl rfl rfl rfl (Nat.le_of_ble_eq_true rfl) dL_level_51) ?_
          refine wa_icmp_ne hC 89 dL_level_54 (by decide) (fun c12 => ?_) (fun c12 => ?_)
          · have hf := ite_f hf c12
            refine wa_iconst (v := 0) hC dL_level_89 (by decide) ?_
            refine wa_istore_n (lv' := [(1, .int _), (3, .int _), (0, .ref _), (2, .int _)]) hC dL_level_90 rfl (by decide) rfl ?_
            refine wa_iinc (v := _ + 1) (lv' := [(2, .int _), (1, .int _), (3, .int _), (0, .ref _)]) hC dL_level_91 (t := 3) rfl rfl (by decide) rfl ?_
            refine wa_goto hC 4 dL_level_94 (by decide) ?_
            exact wa_sub [3, 1, 0] rfl (hbk4 _ _ _ hf)
          · have hf := ite_t hf c12
            refine wa_aload_n hC dL_level_57 rfl 1 rfl ?_
            refine wa_iload_n hC dL_level_58 rfl 0 rfl ?_
            refine wa_aload_n hC dL_level_59 rfl 1 rfl ?_
            refine wa_iconst (v := -1) hC dL_level_60 (by decide) ?_
            refine wa_iload_n hC dL_level_61 rfl 3 rfl ?_
            refine wa_iconst (v := 1) hC dL_level_62 (by decide) ?_
            obtain ⟨⟨v13, M13⟩, h13, hf⟩ := bd hf
            dsimp only at hf
            refine wa_calli (rest := [_, _]) (wr_V hC (kX6_reading l G h13) (cwV 3 hC.1.2.2.2.2 gL_level_X6_reading rfl rfl rfl (by decide +kernel) ⟨Nat.le_of_ble_eq_true rfl, Nat.le_of_ble_eq_true rfl⟩) (show kd 0 = 6 from rfl) (by decide) (ce6 (show kd 0 = 6 from rfl)) rfl rfl rfl rfl (Nat.le_of_ble_eq_true rfl) dL_level_63) ?_
            refine wa_aload_n hC dL_level_66 rfl 1 rfl ?_
            refine wa_iconst (v := -1) hC dL_level_67 (by decide) ?_
            refine wa_iload_n hC dL_level_68 rfl 3 rfl ?_
            refine wa_iconst (v := 2) hC dL_level_69 (by decide) ?_
            obtain ⟨⟨v14, M14⟩, h14, hf⟩ := bd hf
            dsimp only at hf
            refine wa_calli (rest := [_, _, _]) (wr_V hC (kX6_reading l G h14) (cwV 3 hC.1.2.2.2.2 gL_level_X6_reading rfl rfl rfl (by decide +kernel) ⟨Nat.le_of_ble_eq_true rfl, Nat.le_of_ble_eq_true rfl⟩) (show kd 0 = 6 from rfl) (by decide) (ce6 (show kd 0 = 6 from rfl)) rfl rfl rfl rfl (Nat.le_of_ble_eq_true rfl) dL_level_70) ?_
            obtain ⟨v15, h15, hf⟩ := bd hf
            refine wa_calli (rest := []) (wr_V hC (kX6_would l G h15) (cwV 3 hC.1.2.2.2.2 gL_level_X6_would rfl rfl rfl (by decide +kernel) ⟨Nat.le_of_ble_eq_true rfl, Nat.le_of_ble_eq_true rfl⟩) (show kd 0 = 6 from rfl) (by decide) (ce6 (show kd 0 = 6 from rfl)) rfl rfl rfl rfl (Nat.le_of_ble_eq_true rfl) dL_level_73) ?_
            refine wa_aload_n hC dL_level_76 rfl 1 rfl ?_
            refine wa_bipush (v := 10) hC dL_level_77 (by decide) ?_
            obtain ⟨⟨v16, M16⟩, h16, hf⟩ := bd hf
            dsimp only at hf
            refine wa_calli (rest := [_]) (wr_V hC (kX6_count l G h16) (cwV 1 hC.1.2.2.2.2 gL_level_X6_count rfl rfl rfl (by decide +kernel) ⟨Nat.le_of_ble_eq_true rfl, Nat.le_of_ble_eq_true rfl⟩) (show kd 0 = 6 from rfl) (by decide) (ce6 (show kd 0 = 6 from rfl)) rfl rfl rfl rfl (Nat.le_of_ble_eq_true rfl) dL_level_79) ?_
            refine wa_icmp_ne hC 89 dL_level_82 (by decide) (fun c17 => ?_) (fun c17 => ?_)
            · have hf := ite_f hf c17
              refine wa_iconst (v := 0) hC dL_level_89 (by decide) ?_
              refine wa_istore_n (lv' := [(1, .int _), (3, .int _), (0, .ref _), (2, .int _)]) hC dL_level_90 rfl (by decide) rfl ?_
              refine wa_iinc (v := _ + 1) (lv' := [(2, .int _), (1, .int _), (3, .int _), (0, .ref _)]) hC dL_level_91 (t := 3) rfl rfl (by decide) rfl ?_
              refine wa_goto hC 4 dL_level_94 (by decide) ?_
              exact wa_sub [3, 1, 0] rfl (hbk4 _ _ _ hf)
            · have hf := ite_t hf c17
              refine wa_iconst (v := 1) hC dL_level_85 (by decide) ?_
              refine wa_goto hC 90 dL_level_86 (by decide) ?_
              refine wa_istore_n (lv' := [(1, .int _), (3, .int _), (0, .ref _), (2, .int _)]) hC dL_level_90 rfl (by decide) rfl ?_
              refine wa_iinc (v := _ + 1) (lv' := [(2, .int _), (1, .int _), (3, .int _), (0, .ref _)]) hC dL_level_91 (t := 3) rfl rfl (by decide) rfl ?_
              refine wa_goto hC 4 dL_level_94 (by decide) ?_
              exact wa_sub [3, 1, 0] rfl (hbk4 _ _ _ hf)
  have hL4 : ∀ (n : Nat) (x1 : Int32) (x2 : Int32) (M0 : wM), fL_level_L4   n x1 x2 M0 = some (b, M1) → wAt p l e rmL_level s m args below meth c (qI below args s G (b2 b) M1) 4 G M0 4 [(0, .ref (ga G (0))), (1, .int (x1)), (2, .int (x2))] [] := by
    intro  n
    induction n with
    | zero =>
      intro x1 x2 M0 hf
      exact absurd hf (by simp [fL_level_L4])
    | succ n ih =>
      intro x1 x2 M0 hf
      exact hB4  (fL_level_L4   n) ih x1 x2 M0 hf
  unfold fL_level at hf
  refine wa_iconst (v := 1) hC dL_level_0 (by decide) ?_
  refine wa_istore_n (lv' := [(1, .int _), (0, .ref _)]) hC dL_level_1 rfl (by decide) rfl ?_
  refine wa_iconst (v := 0) hC dL_level_2 (by decide) ?_
  refine wa_istore_n (lv' := [(2, .int _), (1, .int _), (0, .ref _)]) hC dL_level_3 rfl (by decide) rfl ?_
  exact wa_sub [2, 1, 0] rfl (hL4 FU _ _ _ hf)
