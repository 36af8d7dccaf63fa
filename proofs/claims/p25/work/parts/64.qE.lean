/-! a base that is set higher -/
section F4
variable {V : wV} {d : Int32}
def upV (V : wV) (d : Int32) : wV := setV V 0 (V.1 0 + d)
theorem up_hgt {t p c : Int32} (hd : (V.1 0 + d).toInt = (V.1 0).toInt + d.toInt) : hgt (upV V d) t p c = (hgt V t p c).map (fun z => z + d.toInt) := by
  have e0 : (upV V d).1 0 = V.1 0 + d := rfl
  have e1 : hasB (upV V d) t = hasB V t := rfl
  have e2 : ∀ f, bv (upV V d) f t = bv V f t := fun _ => rfl
  unfold hgt
  rw [e0, e1, e2, e2, hd]
  by_cases h : hasB V t = true
  · rw [if_pos h, if_pos h]
    show some _ = some _
    unfold rawZ
    congr 1
    dsimp only
    omega
  · rw [if_neg h, if_neg h]; rfl
theorem up_hh {w r : Nat} (hd : (V.1 0 + d).toInt = (V.1 0).toInt + d.toInt) : hh (upV V d) w r = (hh V w r).map (fun z => z + d.toInt) := up_hgt hd
theorem up_gu {w r : Nat} : gu (upV V d) w r = gu V w r := rfl
theorem up_go {w : Nat} (hd : (V.1 0 + d).toInt = (V.1 0).toInt + d.toInt) : go (upV V d) w = go V w := by
  funext r
  unfold go
  rw [up_hh hd, up_gu, Option.isSome_map]
theorem up_lps {w : Nat} (hd : (V.1 0 + d).toInt = (V.1 0).toInt + d.toInt) : ∀ r, lps (upV V d) w r = lps V w r
  | 0 => rfl
  | r + 1 => by
    unfold lps
    rw [up_lps hd r]
    congr 1
    unfold lpAt lastV
    rw [up_go hd]
    rfl
theorem up_lpL {w : Nat} (hd : (V.1 0 + d).toInt = (V.1 0).toInt + d.toInt) : lpL (upV V d) w = lpL V w := up_lps hd _
theorem up_lb {w k : Nat} (hd : (V.1 0 + d).toInt = (V.1 0).toInt + d.toInt) : lb (upV V d) w k = lb V w k := by unfold lb; rw [up_lpL hd]
theorem up_le {w k : Nat} (hd : (V.1 0 + d).toInt = (V.1 0).toInt + d.toInt) : le2 (upV V d) w k = le2 V w k := by unfold le2; rw [up_lpL hd]
theorem up_mn {w k : Nat} (hd : (V.1 0 + d).toInt = (V.1 0).toInt + d.toInt) : mn (upV V d) w k = mn V w k := by unfold mn; rw [up_lb hd, up_le hd]; rfl
theorem up_opS {w r : Nat} (hd : (V.1 0 + d).toInt = (V.1 0).toInt + d.toInt) : opS (upV V d) w r = opS V w r := by
  funext best k
  unfold opS
  rw [up_lb hd, up_le hd]
  cases best with
  | none => rfl
  | some j =>
    show (if (_ && _ && decide (mn (upV V d) w k < mn (upV V d) w j)) = true then _ else _) = _
    rw [up_mn hd, up_mn hd]
theorem up_opn {w r : Nat} (hd : (V.1 0 + d).toInt = (V.1 0).toInt + d.toInt) : opn (upV V d) w r = opn V w r := by unfold opn; rw [up_opS hd, up_lpL hd]
theorem up_hI {w r : Nat} (hd : (V.1 0 + d).toInt = (V.1 0).toInt + d.toInt) (hs : (hh V w r).isSome = true) : hI (hh (upV V d) w r) = hI (hh V w r) + d := by
  obtain ⟨z, hz⟩ := Option.isSome_iff_exists.mp hs
  rw [up_hh hd, hz]
  show Int32.ofInt (z + d.toInt) = Int32.ofInt z + d
  rw [Int32.ofInt_add, Int32.ofInt_toInt]
theorem up_none {w r : Nat} (hd : (V.1 0 + d).toInt = (V.1 0).toInt + d.toInt) (hs : (hh V w r).isSome = false) : hI (hh (upV V d) w r) = -2000000004 := by
  rw [up_hh hd]
  cases e : hh V w r with
  | none => rfl
  | some z => rw [e] at hs; cases hs
theorem go_some {w r : Nat} (h : go V w r = true) : (hh V w r).isSome = true := by
  unfold go at h
  simp only [Bool.and_eq_true] at h
  exact h.1
theorem dd_sub (x y d : Int32) : (x + d) - (y + d) = x - y := by
  rw [Int32.sub_eq_add_neg, Int32.neg_add, Int32.sub_eq_add_neg, Int32.sub_eq_add_neg, Int32.add_assoc, ← Int32.add_assoc d, Int32.add_comm d, Int32.add_assoc (-y), Int32.add_right_neg, Int32.add_zero]
theorem dd_sub2 (x q d : Int32) : (x + d) - q = (x - q) + d := by
  rw [Int32.sub_eq_add_neg, Int32.sub_eq_add_neg, Int32.add_assoc, Int32.add_comm d, ← Int32.add_assoc]
theorem up_mis {w k : Nat} (hd : (V.1 0 + d).toInt = (V.1 0).toInt + d.toInt) (hk : k < (lpL V w).length) : mis (upV V d) w k = mis V w k := by
  obtain ⟨-, -, g1, g2⟩ := lpL_in hk
  unfold mis
  rw [up_le hd, up_lb hd, up_hI hd (go_some g1), up_hI hd (go_some g2), dd_sub]
theorem up_cor {w r : Nat} (hd : (V.1 0 + d).toInt = (V.1 0).toInt + d.toInt) (hg : go V w r = true) : cor (upV V d) w r = cor V w r + d := by
  unfold cor
  rw [up_opn hd]
  cases e : opn V w r with
  | none => exact up_hI hd (go_some hg)
  | some k =>
    show hI (hh (upV V d) w r) - (dn ((mis (upV V d) w k).toInt64 * (V.2.2 w 0 r - V.2.2 w 0 (lb (upV V d) w k)).toInt64) (mn (upV V d) w k).toInt64).toInt32 = (hI (hh V w r) - (dn ((mis V w k).toInt64 * (V.2.2 w 0 r - V.2.2 w 0 (lb V w k)).toInt64) (mn V w k).toInt64).toInt32) + d
    rw [up_mis hd (opn_lt e), up_lb hd, up_mn hd, up_hI hd (go_some hg), dd_sub2]
theorem up_raw {w r : Nat} (hV : OkV V) (hw : w < 4) (hr : r < V.2.1 w) (hd : (V.1 0 + d).toInt = (V.1 0).toInt + d.toInt) : hI (hh (upV V d) w r) = if hI (hh V w r) = -2000000004 then hI (hh V w r) else hI (hh V w r) + d := by
  have h := hI_nf hV hw hr
  cases e : (hh V w r).isSome
  · rw [if_pos (h.mpr e), up_none hd e, h.mpr e]
  · rw [if_neg (fun q => by have := h.mp q; rw [e] at this; cases this), up_hI hd e]
theorem up_cV {w r : Nat} (hV : OkV V) (hw : w < 4) (hr : r < V.2.1 w) (hd : (V.1 0 + d).toInt = (V.1 0).toInt + d.toInt) : cV (upV V d) w r = if cV V w r = -2000000004 then cV V w r else cV V w r + d := by
  unfold cV
  rw [up_go hd]
  by_cases hg : go V w r = true
  · rw [if_pos hg, if_pos hg]
    have b := cor_b hV hw hr hg
    rw [if_neg (fun q => by
      have q2 := congrArg Int32.toInt q
      rw [show (-2000000004 : Int32).toInt = -2000000004 from by decide] at q2
      omega), up_cor hd hg]
  · rw [if_neg hg, if_neg hg, if_pos rfl]
end F4
