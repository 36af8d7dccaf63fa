/-! the law: its loop -/
theorem gtL {L i : Nat} (hL : L ≤ 3072) (hi : i ≤ 4000) (h : L < i + 6) : (Int32.ofNat L - 6 : Int32) < nI i := by
  have e : (Int32.ofNat L - 6 : Int32).toInt = (L : Int) - 6 := by
    have k : (6 : Int32).toInt = 6 := by decide
    have k2 : (Int32.ofNat L).toInt = (L : Int) := nI_toInt (n := L) (by omega)
    rw [fb_subI (by rw [k2, k]; omega) (by rw [k2, k]; omega), k2, k]
  rw [Int32.lt_iff_toInt_lt, e, nI_toInt (by omega)]
  omega
section LP
variable {p : Program} {l : Launch} {e : Env} {s : State} {m : MethodId} {below : List Frame} {meth : Method} {c : Code} {Q : State → Prop} {G : wG} {b L : Nat} {xs : Nat → Int32} {cells slots : Nat}
set_option maxHeartbeats 4000000 in
theorem law_turns (hC : wC p m c cL_law 4 s #[Value.ref b] wsL_law RL G) (hX : lX s G b L xs) (hL : L ≤ 3072) (hcs : cells ≤ room_1.cells ∧ slots ≤ room_1.slots) (fin : ∀ (M : wM) (lv : List (Nat × Value)), lAt p l e room_1 s m #[Value.ref b] below meth c Q 4 cells slots G M 828 lv []) : ∀ (n i : Nat) (V : wV) (hs : List wV) (tl : Nat) (tx : Nat → Int32) (M : wM), L - i ≤ n → i ≤ 4000 → TXo tl tx → IC V hs tl tx M → IM V hs tl tx M → lAt p l e room_1 s m #[Value.ref b] below meth c Q 4 cells slots G M 18 (lvL G b i) [] := by
  intro n
  induction n with
  | zero =>
    intro i V hs tl tx M hn hi4 ht hc hm
    refine la_iload_n hC dL_law_18 rfl 0 rfl ?_
    refine la_aload_n hC dL_law_19 rfl 3 rfl ?_
    refine la_slen hC hX dL_law_20 ?_
    refine la_bipush (v := 6) hC dL_law_21 (by decide) ?_
    refine la_isub hC dL_law_23 ?_
    refine la_gt hC 828 dL_law_24 (by decide) (fun _ => fin _ _) (fun h => ?_)
    exact absurd (gtL (L := L) (i := i) hL hi4 (by omega)) h
  | succ n ih =>
    intro i V hs tl tx M hn hi4 ht hc hm
    refine la_iload_n hC dL_law_18 rfl 0 rfl ?_
    refine la_aload_n hC dL_law_19 rfl 3 rfl ?_
    refine la_slen hC hX dL_law_20 ?_
    refine la_bipush (v := 6) hC dL_law_21 (by decide) ?_
    refine la_isub hC dL_law_23 ?_
    refine la_gt hC 828 dL_law_24 (by decide) (fun _ => fin _ _) (fun h => ?_)
    have hi : i + 6 ≤ L := Nat.le_of_not_lt (fun q => h (gtL (L := L) (i := i) hL hi4 q))
    have next : goesOn p l e s m below meth c Q G b i cells slots := fun V2 hs2 tl2 tx2 M2 ht2 hc2 hm2 => by
      refine la_iinc (lv' := lvL G b (i + 6)) (t := 0) (v := nI (i + 6)) hC dL_law_822 rfl (nI_add i 6) (by decide) rfl ?_
      refine la_goto hC 18 dL_law_825 (by decide) ?_
      exact ih (i + 6) V2 hs2 tl2 tx2 M2 (by omega) (by omega) ht2 hc2 hm2
    refine la_aload_n hC dL_law_27 rfl 3 rfl ?_
    refine la_iload_n hC dL_law_28 rfl 0 rfl ?_
    refine la_sld hC hX (pk_in i L (by omega) rfl (by omega)) dL_law_29 ?_
    refine la_bipush (v := 31) hC dL_law_30 (by decide) ?_
    refine la_iand hC dL_law_32 ?_
    rw [pk_and _ 5 (show (31 : Int32).toBitVec.toNat = 2 ^ 5 - 1 from by decide)]
    generalize hj : (xs (nI i).toNatClampNeg).toBitVec.toNat % 2 ^ 5 = j
    have hj32 : j < 32 := by rw [← hj]; exact Nat.mod_lt _ (by decide)
    by_cases h22 : 22 ≤ j
    · refine la_tableOut hC 822 dL_law_33 (Or.inr (by rw [nI_toInt (by omega)]; omega)) (by decide) ?_
      exact next V hs tl tx M ht hc hm
    · clear hj
      have hcase : j = 0 ∨ j = 1 ∨ j = 2 ∨ j = 3 ∨ j = 4 ∨ j = 5 ∨ j = 6 ∨ j = 7 ∨ j = 8 ∨ j = 9 ∨ j = 10 ∨ j = 11 ∨ j = 12 ∨ j = 13 ∨ j = 14 ∨ j = 15 ∨ j = 16 ∨ j = 17 ∨ j = 18 ∨ j = 19 ∨ j = 20 ∨ j = 21 := by omega
      rcases hcase with rfl | rfl | rfl | rfl | rfl | rfl | rfl | rfl | rfl | rfl | rfl | rfl | rfl | rfl | rfl | rfl | rfl | rfl | rfl | rfl | rfl | rfl
      · exact la_tableIn hC 136 dL_law_33 (by decide) (by decide) (off := 103) (by rfl) (by decide) (law_set hC hX hL hi hcs ht hc hm next)
      · exact la_tableIn hC 169 dL_law_33 (by decide) (by decide) (off := 136) (by rfl) (by decide) (law_base hC hX hL hi hcs ht hc hm next)
      · exact la_tableIn hC 212 dL_law_33 (by decide) (by decide) (off := 179) (by rfl) (by decide) (law_read hC hX hL hi hcs ht hc hm next)
      · exact la_tableIn hC 275 dL_law_33 (by decide) (by decide) (off := 242) (by rfl) (by decide) (law_drop hC hX hL hi hcs ht hc hm next)
      · exact la_tableIn hC 308 dL_law_33 (by decide) (by decide) (off := 275) (by rfl) (by decide) (law_reading hC hX hL hi hcs ht hc hm next)
      · exact la_tableIn hC 351 dL_law_33 (by decide) (by decide) (off := 318) (by rfl) (by decide) (law_count hC hX hL hi hcs ht hc hm next)
      · exact la_tableIn hC 374 dL_law_33 (by decide) (by decide) (off := 341) (by rfl) (by decide) (law_undo hC hX hL hi hcs ht hc hm next)
      · exact la_tableIn hC 387 dL_law_33 (by decide) (by decide) (off := 354) (by rfl) (by decide) (law_baseAt hC hX hL hi hcs ht hc hm next)
      · exact la_tableIn hC 420 dL_law_33 (by decide) (by decide) (off := 387) (by rfl) (by decide) (law_step hC hX hL hi hcs ht hc hm next)
      · exact la_tableIn hC 443 dL_law_33 (by decide) (by decide) (off := 410) (by rfl) (by decide) (law_raw hC hX hL hi hcs ht hc hm next)
      · exact la_tableIn hC 476 dL_law_33 (by decide) (by decide) (off := 443) (by rfl) (by decide) (law_would hC hX hL hi hcs ht hc hm next)
      · exact la_tableIn hC 519 dL_law_33 (by decide) (by decide) (off := 486) (by rfl) (by decide) (law_pressureFor hC hX hL hi hcs ht hc hm next)
      · exact la_tableIn hC 562 dL_law_33 (by decide) (by decide) (off := 529) (by rfl) (by decide) (law_loops hC hX hL hi hcs ht hc hm next)
      · exact la_tableIn hC 585 dL_law_33 (by decide) (by decide) (off := 552) (by rfl) (by decide) (law_loop hC hX hL hi hcs ht hc hm next)
      · exact la_tableIn hC 628 dL_law_33 (by decide) (by decide) (off := 595) (by rfl) (by decide) (law_openLoop hC hX hL hi hcs ht hc hm next)
      · exact la_tableIn hC 661 dL_law_33 (by decide) (by decide) (off := 628) (by rfl) (by decide) (law_corrected hC hX hL hi hcs ht hc hm next)
      · exact la_tableIn hC 694 dL_law_33 (by decide) (by decide) (off := 661) (by rfl) (by decide) (law_point hC hX hL hi hcs ht hc hm next)
      · exact la_tableIn hC 727 dL_law_33 (by decide) (by decide) (off := 694) (by rfl) (by decide) (law_worst hC hX hL hi hcs ht hc hm next)
      · exact la_tableIn hC 750 dL_law_33 (by decide) (by decide) (off := 717) (by rfl) (by decide) (law_type hC hX hL hi hcs ht hc hm next)
      · exact la_tableIn hC 773 dL_law_33 (by decide) (by decide) (off := 740) (by rfl) (by decide) (law_clearText hC hX hL hi hcs ht hc hm next)
      · exact la_tableIn hC 786 dL_law_33 (by decide) (by decide) (off := 753) (by rfl) (by decide) (law_fault hC hX hL hi hcs ht hc hm next)
      · exact la_tableIn hC 809 dL_law_33 (by decide) (by decide) (off := 776) (by rfl) (by decide) (law_enter hC hX hL hi hcs ht hc hm next)
end LP
