/-! the methods as functions of the world's ints and longs (written by program from the bytecode) -/
def fX0_place (i : Nat) (x1 : Int32) (M0 : wM) : Option Nat :=
  (rmI ((M0.1 i 1) + x1) (5 : Int32)).bind (fun v1 => if v1 < (0 : Int32) then none
    else if (5 : Int32) ≤ v1 then none
    else (ix v1 5).bind (fun k4 => some ((i + 1) + 1 + 9 * k4)))
def fX5_copyFrom (i : Nat) (j1 : Nat) (M0 : wM) : Option wM :=
  (cpG (if (nI (ln (i + 1))) < (nI (ln (j1 + 1))) then (nI (ln (i + 1))) else (nI (ln (j1 + 1)))) (ln (j1 + 1)) (ln (i + 1))).bind (fun k1 => some (st (cpM M0 (j1 + 1) (i + 1) k1) i 2 ((cpM M0 (j1 + 1) (i + 1) k1).1 j1 2)))
def fX2_copyFrom (i : Nat) (j1 : Nat) (M0 : wM) : Option wM :=
  (fX5_copyFrom (i + 1) (j1 + 1) M0).bind (fun M1 => (fX5_copyFrom (i + 3) (j1 + 3) M1).bind (fun M2 => (fX5_copyFrom (i + 5) (j1 + 5) M2).bind (fun M3 => (fX5_copyFrom (i + 7) (j1 + 7) M3).bind (fun M4 => some (st (st (st M4 i 4 (M4.1 j1 4)) i 5 ((st M4 i 4 (M4.1 j1 4)).1 j1 5)) i 6 ((st (st M4 i 4 (M4.1 j1 4)) i 5 ((st M4 i 4 (M4.1 j1 4)).1 j1 5)).1 j1 6))))))
def fX0_keep_J30 (i : Nat) (j1 : Nat)   (M0 : wM) : Option wM :=
  (fX0_place i (M0.1 i 2) M0).bind (fun v1 => (gk v1 2).bind (fun _ => (fX2_copyFrom v1 j1 M0).bind (fun M3 => some (st M3 i 2 ((M3.1 i 2) + (1 : Int32))))))
def fX0_keep (i : Nat) (j1 : Nat) (M0 : wM) : Option wM :=
  if (M0.1 i 2) < (5 : Int32) then fX0_keep_J30 i j1 M0
    else (rmI ((M0.1 i 1) + (1 : Int32)) (5 : Int32)).bind (fun v5 => fX0_keep_J30 i j1 (st (st M0 i 1 v5) i 2 (((st M0 i 1 v5).1 i 2) - (1 : Int32))))
def fX0_giveBack (i : Nat) (j1 : Nat) (M0 : wM) : Option wM :=
  (fX0_place i ((M0.1 i 2) - (1 : Int32)) M0).bind (fun v1 => (gk v1 2).bind (fun _ => (fX2_copyFrom j1 v1 M0).bind (fun M3 => some (st M3 i 2 ((M3.1 i 2) - (1 : Int32))))))
def fX1_clear (i : Nat) (M0 : wM) : Option wM :=
  some (st (stL M0 i (0 : Int64)) i 1 (0 : Int32))
def fX1_add_J43 (i : Nat) (x1 : Int32)  (s1 : Int32) (M0 : wM) : Option wM :=
  some (st (stL (st M0 i 3 s1) i (((st M0 i 3 s1).2 i) + x1.toInt64)) i 1 (((stL (st M0 i 3 s1) i (((st M0 i 3 s1).2 i) + x1.toInt64)).1 i 1) + (1 : Int32)))
def fX1_add_J20 (i : Nat) (x1 : Int32)  (s1 : Int32) (M0 : wM) : Option wM :=
  if ((st M0 i 2 s1).1 i 1) = (0 : Int32) then fX1_add_J43 i x1 x1 (st M0 i 2 s1)
    else fX1_add_J43 i x1 (if ((st M0 i 2 s1).1 i 3) < x1 then x1 else ((st M0 i 2 s1).1 i 3)) (st M0 i 2 s1)
def fX1_add (i : Nat) (x1 : Int32) (M0 : wM) : Option wM :=
  if (M0.1 i 1) = (0 : Int32) then fX1_add_J20 i x1 x1 M0
    else fX1_add_J20 i x1 (if x1 < (M0.1 i 2) then x1 else (M0.1 i 2)) M0
def fJ9_floorDiv_f86c9_J27 (x0 : Int64) (x2 : Int64) (M0 : wM)  (x4 : Int64) : Option Int64 :=
  some x4
def fJ9_floorDiv_f86c9 (x0 : Int64) (x2 : Int64) (M0 : wM) : Option Int64 :=
  (dvL x0 x2).bind (fun v1 => if (0 : Int32) ≤ (lg_cmp (x0 ^^^ x2) (0 : Int64)) then fJ9_floorDiv_f86c9_J27 x0 x2 M0 v1
    else if (lg_cmp (v1 * x2) x0) = (0 : Int32) then fJ9_floorDiv_f86c9_J27 x0 x2 M0 v1
    else some (v1 - (1 : Int64)))
def fX6_divideDown (x0 : Int64) (x2 : Int64) (M0 : wM) : Option Int64 :=
  if (lg_cmp x2 (0 : Int64)) = (0 : Int32) then some (0 : Int64)
    else (fJ9_floorDiv_f86c9 x0 x2 M0).bind (fun v2 => some v2)
def fX1_height (i : Nat) (M0 : wM) : Option Int32 :=
  (fX6_divideDown (M0.2 i) ((M0.1 i 1).toInt64) M0).bind (fun v1 => some v1.toInt32)
def fX1_spread (i : Nat) (M0 : wM) : Option Int32 :=
  some ((M0.1 i 3) - (M0.1 i 2))
def fX2_track (i : Nat) (x1 : Int32) (M0 : wM) : Option Nat :=
  if x1 = (0 : Int32) then some (i + 3)
    else if x1 = (1 : Int32) then some (i + 5)
    else if x1 = (2 : Int32) then some (i + 7)
    else some (i + 1)
def fX2_setting (i : Nat) (x1 : Int32) (M0 : wM) : Option Int32 :=
  if x1 = (0 : Int32) then some (M0.1 i 4)
    else if x1 = (1 : Int32) then some (M0.1 i 5)
    else some (M0.1 i 6)
def fX2_putSetting (i : Nat) (x1 : Int32) (x2 : Int32) (M0 : wM) : Option wM :=
  if x1 = (0 : Int32) then some (st M0 i 4 x2)
    else if x1 = (1 : Int32) then some (st M0 i 5 x2)
    else some (st M0 i 6 x2)
def fX6_at (j0 : Nat) (x1 : Int32) (M0 : wM) : Option Int32 :=
  if x1 < (0 : Int32) then some (0 : Int32)
    else if (nI (ln j0)) ≤ x1 then some (0 : Int32)
    else (ix x1 (ln j0)).bind (fun k3 => some (M0.1 j0 k3))
def fX5_value (i : Nat) (x1 : Int32) (x2 : Int32) (M0 : wM) : Option Int32 :=
  (fX6_at (i + 1) ((x1 * (4 : Int32)) + x2) M0).bind (fun v1 => some v1)
def fX2_baseValue_J32 (i : Nat) (x1 : Int32) (x2 : Int32) (M0 : wM)  (x3 : Int32) : Option Int32 :=
  if x3 < (M0.1 (i + 1) 2) then (fX5_value (i + 1) x3 (0 : Int32) M0).bind (fun v2 => (fX5_value (i + 1) x3 x2 M0).bind (fun v3 => if v2 = x1 then some v3
    else if x3 = (0 : Int32) then some (-2000000004 : Int32)
    else (fX5_value (i + 1) (x3 - (1 : Int32)) (0 : Int32) M0).bind (fun v6 => (fX5_value (i + 1) (x3 - (1 : Int32)) x2 M0).bind (fun v7 => (fX6_divideDown (((v3 - v7).toInt64) * ((x1 - v6).toInt64)) ((v2 - v6).toInt64) M0).bind (fun v8 => some ((v7.toInt64 + v8).toInt32))))))
    else some (-2000000004 : Int32)
def fX2_baseValue_B2 (i : Nat) (x1 : Int32) (x2 : Int32) (M0 : wM) (bk2 : Int32 → Option Int32) (x3 : Int32) : Option Int32 :=
  if (M0.1 (i + 1) 2) ≤ x3 then fX2_baseValue_J32 i x1 x2 M0 x3
    else (fX5_value (i + 1) x3 (0 : Int32) M0).bind (fun v10 => if x1 ≤ v10 then fX2_baseValue_J32 i x1 x2 M0 x3
    else bk2 (x3 + (1 : Int32)))
def fX2_baseValue_L2 (i : Nat) (x1 : Int32) (x2 : Int32) (M0 : wM)  : Nat → Int32 → Option Int32
  | 0 => fun _ => none
  | n + 1 => fX2_baseValue_B2 i x1 x2 M0  (fX2_baseValue_L2 i x1 x2 M0  n)
def fX2_baseValue (i : Nat) (x1 : Int32) (x2 : Int32) (M0 : wM) : Option Int32 :=
  fX2_baseValue_L2 i x1 x2 M0 FU (0 : Int32)
def fJ9_floorDiv_7cf53 (x0 : Int32) (x1 : Int32) (M0 : wM) : Option Int32 :=
  (dvI x0 x1).bind (fun v1 => if (0 : Int32) ≤ (x0 ^^^ x1) then some v1
    else if (v1 * x1) = x0 then some v1
    else some (v1 - (1 : Int32)))
def fX2_heightAt (i : Nat) (x1 : Int32) (x2 : Int32) (x3 : Int32) (M0 : wM) : Option Int32 :=
  (fX2_baseValue i x1 (1 : Int32) M0).bind (fun v1 => if v1 = (-2000000004 : Int32) then some (-2000000004 : Int32)
    else (fX2_baseValue i x1 (2 : Int32) M0).bind (fun v3 => (fJ9_floorDiv_7cf53 (v3 + x3) (2 : Int32) M0).bind (fun v4 => (fJ9_floorDiv_7cf53 (v1 + x2) (2 : Int32) M0).bind (fun v5 => (fX6_divideDown (((2930 : Int64) * (((2732 : Int32) + v4).toInt64)) * ((v1 - x2).toInt64)) v5.toInt64 M0).bind (fun v6 => some ((((M0.1 i 4).toInt64) + v6).toInt32))))))
def fX2_isStepEnd (i : Nat) (x1 : Int32) (M0 : wM) : Option Bool :=
  (fX5_value (i + 1) x1 (2 : Int32) M0).bind (fun v1 => (fX5_value (i + 1) (x1 - (1 : Int32)) (2 : Int32) M0).bind (fun v2 => if (if (0 : Int32) ≤ (v1 - v2) then (v1 - v2) else 0 - (v1 - v2)) < (M0.1 i 6) then some false
    else some true))
def fX2_steps_B4 (i : Nat) (M0 : wM) (bk4 : Int32 → Int32 → Option Int32) (x1 : Int32) (x2 : Int32) : Option Int32 :=
  if (M0.1 (i + 1) 2) ≤ x2 then some x1
    else (fX2_isStepEnd i x2 M0).bind (fun v2 => if (b2 v2) = (0 : Int32) then bk4 (x1 + (0 : Int32)) (x2 + (1 : Int32))
    else bk4 (x1 + (1 : Int32)) (x2 + (1 : Int32)))
def fX2_steps_L4 (i : Nat) (M0 : wM)  : Nat → Int32 → Int32 → Option Int32
  | 0 => fun _ _ => none
  | n + 1 => fX2_steps_B4 i M0  (fX2_steps_L4 i M0  n)
def fX2_steps (i : Nat) (M0 : wM) : Option Int32 :=
  fX2_steps_L4 i M0 FU (0 : Int32) (1 : Int32)
def fX2_stepEnd_B4 (i : Nat) (x1 : Int32) (M0 : wM) (bk4 : Int32 → Int32 → Option Int32) (x2 : Int32) (x3 : Int32) : Option Int32 :=
  if (M0.1 (i + 1) 2) ≤ x3 then some (-1 : Int32)
    else (fX2_isStepEnd i x3 M0).bind (fun v2 => if (b2 v2) = (0 : Int32) then bk4 x2 (x3 + (1 : Int32))
    else if x2 = x1 then some x3
    else bk4 (x2 + (1 : Int32)) (x3 + (1 : Int32)))
def fX2_stepEnd_L4 (i : Nat) (x1 : Int32) (M0 : wM)  : Nat → Int32 → Int32 → Option Int32
  | 0 => fun _ _ => none
  | n + 1 => fX2_stepEnd_B4 i x1 M0  (fX2_stepEnd_L4 i x1 M0  n)
def fX2_stepEnd (i : Nat) (x1 : Int32) (M0 : wM) : Option Int32 :=
  fX2_stepEnd_L4 i x1 M0 FU (0 : Int32) (1 : Int32)
def fX6_put (j0 : Nat) (x1 : Int32) (x2 : Int32) (M0 : wM) : Option wM :=
  if x1 < (0 : Int32) then some M0
    else if (nI (ln j0)) ≤ x1 then some M0
    else (ix x1 (ln j0)).bind (fun k3 => some (st M0 j0 k3 x2))
def fX5_standsOut_J59 (i : Nat) (x1 : Int32) (x2 : Int32) (M0 : wM)  (x4 : Int32) (x5 : Int32) : Option Bool :=
  if (-x2) ≤ x4 then some false
    else if (-x2) ≤ x5 then some false
    else some true
def fX5_standsOut (i : Nat) (x1 : Int32) (x2 : Int32) (M0 : wM) : Option Bool :=
  if x1 ≤ (0 : Int32) then some false
    else if x1 < ((M0.1 i 2) - (1 : Int32)) then (fX5_value i x1 (1 : Int32) M0).bind (fun v5 => (fX5_value i (x1 - (1 : Int32)) (1 : Int32) M0).bind (fun v6 => (fX5_value i (x1 + (1 : Int32)) (1 : Int32) M0).bind (fun v7 => if (v5 - v6) ≤ x2 then fX5_standsOut_J59 i x1 x2 M0 (v5 - v6) (v5 - v7)
    else if x2 < (v5 - v7) then some true
    else fX5_standsOut_J59 i x1 x2 M0 (v5 - v6) (v5 - v7))))
    else some false
def fX3_isGust (i : Nat) (x1 : Int32) (M0 : wM) : Option Bool :=
  (fX6_at (i + 4) x1 M0).bind (fun v1 => if v1 = (1 : Int32) then some true
    else some false)
def fX3_isGood (i : Nat) (x1 : Int32) (M0 : wM) : Option Bool :=
  (fX6_at (i + 3) x1 M0).bind (fun v1 => if v1 = (-2000000004 : Int32) then some false
    else (fX6_at (i + 4) x1 M0).bind (fun v3 => if v3 = (0 : Int32) then some true
    else some false))
def fX3_countKinds_J60 (i : Nat) (bk12 : Int32 → wM → Option wM) (x1 : Int32) (s1 : Int32) (s2 : Int32) (M0 : wM) : Option wM :=
  bk12 (x1 + (1 : Int32)) (st M0 i 10 (s1 + s2))
def fX3_countKinds_J38 (i : Nat) (bk12 : Int32 → wM → Option wM) (x1 : Int32) (s1 : Int32) (s2 : Int32) (M0 : wM) : Option wM :=
  (fX3_isGood i x1 (st M0 i 9 (s1 + s2))).bind (fun v1 => if (b2 v1) = (0 : Int32) then fX3_countKinds_J60 i bk12 x1 ((st M0 i 9 (s1 + s2)).1 i 10) (0 : Int32) (st M0 i 9 (s1 + s2))
    else fX3_countKinds_J60 i bk12 x1 ((st M0 i 9 (s1 + s2)).1 i 10) (1 : Int32) (st M0 i 9 (s1 + s2)))
def fX3_countKinds_B12 (i : Nat) (bk12 : Int32 → wM → Option wM) (x1 : Int32) (M0 : wM) : Option wM :=
  if (M0.1 i 8) ≤ x1 then some M0
    else (fX3_isGust i x1 M0).bind (fun v4 => if (b2 v4) = (0 : Int32) then fX3_countKinds_J38 i bk12 x1 (M0.1 i 9) (0 : Int32) M0
    else fX3_countKinds_J38 i bk12 x1 (M0.1 i 9) (1 : Int32) M0)
def fX3_countKinds_L12 (i : Nat)  : Nat → Int32 → wM → Option wM
  | 0 => fun _ _ => none
  | n + 1 => fX3_countKinds_B12 i  (fX3_countKinds_L12 i  n)
def fX3_countKinds (i : Nat) (M0 : wM) : Option wM :=
  fX3_countKinds_L12 i FU (0 : Int32) (st (st M0 i 9 (0 : Int32)) i 10 (0 : Int32))
def fX3_lastVisit_B13 (i : Nat) (x1 : Int32) (M0 : wM) (bk13 : Int32 → Int32 → Option Int32) (x2 : Int32) (x3 : Int32) : Option Int32 :=
  if x3 < (0 : Int32) then some (-1 : Int32)
    else (fX3_isGood i x3 M0).bind (fun v2 => if (b2 v2) = (0 : Int32) then bk13 x2 (x3 + (-1 : Int32))
    else (fX6_at (i + 2) x3 M0).bind (fun v4 => if v4 = x2 then some x3
    else bk13 x2 (x3 + (-1 : Int32))))
def fX3_lastVisit_L13 (i : Nat) (x1 : Int32) (M0 : wM)  : Nat → Int32 → Int32 → Option Int32
  | 0 => fun _ _ => none
  | n + 1 => fX3_lastVisit_B13 i x1 M0  (fX3_lastVisit_L13 i x1 M0  n)
def fX3_lastVisit (i : Nat) (x1 : Int32) (M0 : wM) : Option Int32 :=
  (fX6_at (i + 2) x1 M0).bind (fun v6 => fX3_lastVisit_L13 i x1 M0 FU v6 (x1 - (1 : Int32)))
def fX3_findLoops_J32 (i : Nat) (bk7 : Int32 → wM → Option wM) (x1 : Int32) (s0 : Int32) (M0 : wM) : Option wM :=
  if s0 = (-1 : Int32) then bk7 (x1 + (1 : Int32)) M0
    else (fX6_put (i + 7) (M0.1 i 11) s0 M0).bind (fun M2 => (fX6_put (i + 8) (M2.1 i 11) x1 M2).bind (fun M3 => bk7 (x1 + (1 : Int32)) (st M3 i 11 ((M3.1 i 11) + (1 : Int32)))))
def fX3_findLoops_B7 (i : Nat) (bk7 : Int32 → wM → Option wM) (x1 : Int32) (M0 : wM) : Option wM :=
  if (M0.1 i 8) ≤ x1 then some M0
    else (fX3_isGood i x1 M0).bind (fun v5 => if (b2 v5) = (0 : Int32) then fX3_findLoops_J32 i bk7 x1 (-1 : Int32) M0
    else (fX3_lastVisit i x1 M0).bind (fun v7 => fX3_findLoops_J32 i bk7 x1 v7 M0))
def fX3_findLoops_L7 (i : Nat)  : Nat → Int32 → wM → Option wM
  | 0 => fun _ _ => none
  | n + 1 => fX3_findLoops_B7 i  (fX3_findLoops_L7 i  n)
def fX3_findLoops (i : Nat) (M0 : wM) : Option wM :=
  fX3_findLoops_L7 i FU (0 : Int32) (st M0 i 11 (0 : Int32))
def fX3_begin (i : Nat) (x1 : Int32) (M0 : wM) : Option Int32 :=
  (fX6_at (i + 7) x1 M0).bind (fun v1 => some v1)
def fX3_end (i : Nat) (x1 : Int32) (M0 : wM) : Option Int32 :=
  (fX6_at (i + 8) x1 M0).bind (fun v1 => some v1)
def fX3_minutes (i : Nat) (x1 : Int32) (M0 : wM) : Option Int32 :=
  (fX3_end i x1 M0).bind (fun v1 => (fX6_at (i + 1) v1 M0).bind (fun v2 => (fX3_begin i x1 M0).bind (fun v3 => (fX6_at (i + 1) v3 M0).bind (fun v4 => some (v2 - v4)))))
def fX3_shortestLoop_J45 (i : Nat) (x1 : Int32) (M0 : wM) (bk14 : Int32 → Int32 → Option Int32) (x2 : Int32) (x3 : Int32) (s0 : Int32) : Option Int32 :=
  if s0 = (0 : Int32) then bk14 x2 (x3 + (1 : Int32))
    else if x2 = (-1 : Int32) then bk14 x3 (x3 + (1 : Int32))
    else (fX3_minutes i x3 M0).bind (fun v3 => (fX3_minutes i x2 M0).bind (fun v4 => if v4 ≤ v3 then bk14 x2 (x3 + (1 : Int32))
    else bk14 x3 (x3 + (1 : Int32))))
def fX3_shortestLoop_B14 (i : Nat) (x1 : Int32) (M0 : wM) (bk14 : Int32 → Int32 → Option Int32) (x2 : Int32) (x3 : Int32) : Option Int32 :=
  if (M0.1 i 11) ≤ x3 then some x2
    else (fX3_begin i x3 M0).bind (fun v7 => if x1 < v7 then fX3_shortestLoop_J45 i x1 M0 bk14 x2 x3 (0 : Int32)
    else (fX3_end i x3 M0).bind (fun v9 => if v9 < x1 then fX3_shortestLoop_J45 i x1 M0 bk14 x2 x3 (0 : Int32)
    else fX3_shortestLoop_J45 i x1 M0 bk14 x2 x3 (1 : Int32)))
def fX3_shortestLoop_L14 (i : Nat) (x1 : Int32) (M0 : wM)  : Nat → Int32 → Int32 → Option Int32
  | 0 => fun _ _ => none
  | n + 1 => fX3_shortestLoop_B14 i x1 M0  (fX3_shortestLoop_L14 i x1 M0  n)
def fX3_shortestLoop (i : Nat) (x1 : Int32) (M0 : wM) : Option Int32 :=
  (fX3_isGood i x1 M0).bind (fun v11 => if (b2 v11) = (0 : Int32) then some (-1 : Int32)
    else fX3_shortestLoop_L14 i x1 M0 FU (-1 : Int32) (0 : Int32))
def fX3_openLoopOf (i : Nat) (x1 : Int32) (M0 : wM) : Option Int32 :=
  (fX6_at (i + 5) x1 M0).bind (fun v1 => some v1)
def fX3_rawHeight (i : Nat) (x1 : Int32) (M0 : wM) : Option Int32 :=
  (fX6_at (i + 3) x1 M0).bind (fun v1 => some v1)
def fX3_misclosure (i : Nat) (x1 : Int32) (M0 : wM) : Option Int32 :=
  (fX3_end i x1 M0).bind (fun v1 => (fX3_rawHeight i v1 M0).bind (fun v2 => (fX3_begin i x1 M0).bind (fun v3 => (fX3_rawHeight i v3 M0).bind (fun v4 => some (v2 - v4)))))
def fX3_withoutDrift (i : Nat) (x1 : Int32) (M0 : wM) : Option Int32 :=
  (fX3_isGood i x1 M0).bind (fun v1 => if (b2 v1) = (0 : Int32) then some (-2000000004 : Int32)
    else (fX3_openLoopOf i x1 M0).bind (fun v3 => if v3 = (-1 : Int32) then (fX3_rawHeight i x1 M0).bind (fun v12 => some v12)
    else (fX6_at (i + 1) x1 M0).bind (fun v5 => (fX3_begin i v3 M0).bind (fun v6 => (fX6_at (i + 1) v6 M0).bind (fun v7 => (fX3_rawHeight i x1 M0).bind (fun v8 => (fX3_misclosure i v3 M0).bind (fun v9 => (fX3_minutes i v3 M0).bind (fun v10 => (fX6_divideDown (v9.toInt64 * ((v5 - v7).toInt64)) v10.toInt64 M0).bind (fun v11 => some ((v8.toInt64 - v11).toInt32))))))))))
def fX3_workOut_B143 (i : Nat) (j1 : Nat) (x2 : Int32) (bk143 : Int32 → wM → Option wM) (x4 : Int32) (M0 : wM) : Option wM :=
  if (M0.1 i 8) ≤ x4 then some M0
    else (fX3_shortestLoop i x4 M0).bind (fun v2 => (fX6_put (i + 5) x4 v2 M0).bind (fun M3 => (fX3_withoutDrift i x4 M3).bind (fun v4 => (fX6_put (i + 6) x4 v4 M3).bind (fun M5 => bk143 (x4 + (1 : Int32)) M5))))
def fX3_workOut_L143 (i : Nat) (j1 : Nat) (x2 : Int32)  : Nat → Int32 → wM → Option wM
  | 0 => fun _ _ => none
  | n + 1 => fX3_workOut_B143 i j1 x2  (fX3_workOut_L143 i j1 x2  n)
def fX3_workOut_J123 (i : Nat) (j1 : Nat) (x2 : Int32) (bk17 : Nat → Int32 → wM → Option wM) (j3 : Nat) (x4 : Int32) (q0 : Nat) (s1 : Int32) (s2 : Int32) (M0 : wM) : Option wM :=
  (fX6_put q0 s1 s2 M0).bind (fun M6 => bk17 j3 (x4 + (1 : Int32)) M6)
def fX3_workOut_B17 (i : Nat) (j1 : Nat) (x2 : Int32) (bk17 : Nat → Int32 → wM → Option wM) (j3 : Nat) (x4 : Int32) (M0 : wM) : Option wM :=
  if (M0.1 i 8) ≤ x4 then (fX3_countKinds i M0).bind (fun M8 => (fX3_findLoops i M8).bind (fun M9 => fX3_workOut_L143 i j1 x2 FU (0 : Int32) M9))
    else (fX5_value j3 x4 (0 : Int32) M0).bind (fun v10 => (fX5_value j3 x4 (1 : Int32) M0).bind (fun v11 => (fX5_value j3 x4 (2 : Int32) M0).bind (fun v12 => (fX6_put (i + 1) x4 v10 M0).bind (fun M13 => (fX5_value j3 x4 (3 : Int32) M13).bind (fun v14 => (fX6_put (i + 2) x4 v14 M13).bind (fun M15 => (fX2_heightAt j1 v10 v11 v12 M15).bind (fun v16 => (fX6_put (i + 3) x4 v16 M15).bind (fun M17 => (fX5_standsOut j3 x4 (M17.1 j1 5) M17).bind (fun v18 => if (b2 v18) = (0 : Int32) then fX3_workOut_J123 i j1 x2 bk17 j3 x4 (i + 4) x4 (0 : Int32) M17
    else fX3_workOut_J123 i j1 x2 bk17 j3 x4 (i + 4) x4 (1 : Int32) M17)))))))))
def fX3_workOut_L17 (i : Nat) (j1 : Nat) (x2 : Int32)  : Nat → Nat → Int32 → wM → Option wM
  | 0 => fun _ _ _ => none
  | n + 1 => fX3_workOut_B17 i j1 x2  (fX3_workOut_L17 i j1 x2  n)
def fX3_workOut (i : Nat) (j1 : Nat) (x2 : Int32) (M0 : wM) : Option wM :=
  (fX2_track j1 x2 M0).bind (fun v20 => (gk v20 5).bind (fun _ => fX3_workOut_L17 i j1 x2 FU v20 (0 : Int32) (st M0 i 8 (M0.1 v20 2))))
def fX3_correctedHeight (i : Nat) (x1 : Int32) (M0 : wM) : Option Int32 :=
  (fX6_at (i + 6) x1 M0).bind (fun v1 => some v1)
def fX3_misclosureBySteps_B21 (i : Nat) (x1 : Int32) (M0 : wM) (bk21 : Int32 → Int32 → Int32 → Option Int32) (x2 : Int32) (x3 : Int32) (x4 : Int32) : Option Int32 :=
  (fX3_end i x1 M0).bind (fun v1 => if v1 < x4 then some x2
    else if (M0.1 i 8) ≤ x4 then some x2
    else (fX3_isGood i x4 M0).bind (fun v4 => if (b2 v4) = (0 : Int32) then bk21 x2 x3 (x4 + (1 : Int32))
    else (fX3_rawHeight i x4 M0).bind (fun v6 => (fX3_rawHeight i x4 M0).bind (fun v7 => bk21 (x2 + (v6 - x3)) v7 (x4 + (1 : Int32))))))
def fX3_misclosureBySteps_L21 (i : Nat) (x1 : Int32) (M0 : wM)  : Nat → Int32 → Int32 → Int32 → Option Int32
  | 0 => fun _ _ _ => none
  | n + 1 => fX3_misclosureBySteps_B21 i x1 M0  (fX3_misclosureBySteps_L21 i x1 M0  n)
def fX3_misclosureBySteps (i : Nat) (x1 : Int32) (M0 : wM) : Option Int32 :=
  (fX3_begin i x1 M0).bind (fun v8 => (fX3_rawHeight i v8 M0).bind (fun v9 => (fX3_begin i x1 M0).bind (fun v10 => fX3_misclosureBySteps_L21 i x1 M0 FU (0 : Int32) v9 (v10 + (1 : Int32)))))
def fX3_endsOpenLoop (i : Nat) (x1 : Int32) (M0 : wM) : Option Bool :=
  (fX3_openLoopOf i x1 M0).bind (fun v1 => if v1 = (-1 : Int32) then some false
    else (fX3_end i v1 M0).bind (fun v3 => if v3 = x1 then some true
    else some false))
def fX3_addTo_B2 (i : Nat) (j1 : Nat) (x2 : Int32) (bk2 : Int32 → wM → Option wM) (x3 : Int32) (M0 : wM) : Option wM :=
  if (M0.1 i 8) ≤ x3 then some M0
    else (fX3_isGood i x3 M0).bind (fun v2 => if (b2 v2) = (0 : Int32) then bk2 (x3 + (1 : Int32)) M0
    else (fX6_at (i + 2) x3 M0).bind (fun v4 => if v4 = x2 then (fX3_endsOpenLoop i x3 M0).bind (fun v6 => if (b2 v6) = (0 : Int32) then (fX3_correctedHeight i x3 M0).bind (fun v8 => (fX1_add j1 v8 M0).bind (fun M9 => bk2 (x3 + (1 : Int32)) M9))
    else bk2 (x3 + (1 : Int32)) M0)
    else bk2 (x3 + (1 : Int32)) M0))
def fX3_addTo_L2 (i : Nat) (j1 : Nat) (x2 : Int32)  : Nat → Int32 → wM → Option wM
  | 0 => fun _ _ => none
  | n + 1 => fX3_addTo_B2 i j1 x2  (fX3_addTo_L2 i j1 x2  n)
def fX3_addTo (i : Nat) (j1 : Nat) (x2 : Int32) (M0 : wM) : Option wM :=
  fX3_addTo_L2 i j1 x2 FU (0 : Int32) M0
def fX4_append (i : Nat) (x1 : Int32) (M0 : wM) : Option wM :=
  if (100 : Int32) ≤ (M0.1 i 1) then some M0
    else (fX6_put (i + 1) (M0.1 i 1) x1 M0).bind (fun M2 => some (st M2 i 1 ((M2.1 i 1) + (1 : Int32))))
def fX4_skip (i : Nat) (x1 : Int32) (M0 : wM) : Option (Bool × wM) :=
  if (M0.1 i 1) ≤ (M0.1 i 2) then some (false, M0)
    else (fX6_at (i + 1) (M0.1 i 2) M0).bind (fun v2 => if v2 = x1 then some (true, (st M0 i 2 ((M0.1 i 2) + (1 : Int32))))
    else some (false, M0))
def fX6_within (x0 : Int32) (x1 : Int32) (x2 : Int32) (M0 : wM) : Option Bool :=
  if x0 < x1 then some false
    else if x2 < x0 then some false
    else some true
def fX4_takeNumber_J65 (i : Nat) (x1 : Int32) (bk4 : Int32 → Int32 → wM → Option (Int32 × wM)) (x3 : Int32) (s0 : Int32) (M0 : wM) : Option (Int32 × wM) :=
  bk4 s0 (x3 + (1 : Int32)) (st M0 i 2 ((M0.1 i 2) + (1 : Int32)))
def fX4_takeNumber_B4 (i : Nat) (x1 : Int32) (bk4 : Int32 → Int32 → wM → Option (Int32 × wM)) (x2 : Int32) (x3 : Int32) (M0 : wM) : Option (Int32 × wM) :=
  if x1 ≤ x3 then some (x2, M0)
    else if (M0.1 i 1) ≤ (M0.1 i 2) then some (x2, M0)
    else (fX6_at (i + 1) (M0.1 i 2) M0).bind (fun v3 => (fX6_within (v3 - (48 : Int32)) (0 : Int32) (9 : Int32) M0).bind (fun v4 => if (b2 v4) = (0 : Int32) then some (x2, M0)
    else if x3 = (0 : Int32) then fX4_takeNumber_J65 i x1 bk4 x3 (v3 - (48 : Int32)) M0
    else fX4_takeNumber_J65 i x1 bk4 x3 ((x2 * (10 : Int32)) + (v3 - (48 : Int32))) M0))
def fX4_takeNumber_L4 (i : Nat) (x1 : Int32)  : Nat → Int32 → Int32 → wM → Option (Int32 × wM)
  | 0 => fun _ _ _ => none
  | n + 1 => fX4_takeNumber_B4 i x1  (fX4_takeNumber_L4 i x1  n)
def fX4_takeNumber (i : Nat) (x1 : Int32) (M0 : wM) : Option (Int32 × wM) :=
  fX4_takeNumber_L4 i x1 FU (-1 : Int32) (0 : Int32) M0
def fX4_takePlace (i : Nat) (M0 : wM) : Option (Bool × wM) :=
  (fX4_skip i (98 : Int32) (st (st M0 i 3 (-1 : Int32)) i 4 (0 : Int32))).bind (fun p1 => if (b2 p1.1) = (0 : Int32) then (fX4_skip i (99 : Int32) p1.2).bind (fun p3 => if (b2 p3.1) = (0 : Int32) then some (false, p3.2)
    else (fX4_takeNumber i (1 : Int32) p3.2).bind (fun p5 => if ((st p5.2 i 3 p5.1).1 i 3) = (-1 : Int32) then some (false, (st p5.2 i 3 p5.1))
    else (fX4_skip i (64 : Int32) (st p5.2 i 3 p5.1)).bind (fun p7 => if (b2 p7.1) = (0 : Int32) then some (false, p7.2)
    else (fX4_takeNumber i (1 : Int32) p7.2).bind (fun p9 => if ((st p9.2 i 4 p9.1).1 i 4) = (-1 : Int32) then some (false, (st p9.2 i 4 p9.1))
    else some (true, (st p9.2 i 4 p9.1))))))
    else some (true, p1.2))
def fX4_takeReading_J99 (i : Nat)  (x2 : Int32) (s1 : Int32) (M0 : wM) : Option (Bool × wM) :=
  if x2 = (-1 : Int32) then some (false, (st M0 i 7 s1))
    else (fX4_skip i (59 : Int32) (st M0 i 7 s1)).bind (fun p2 => if (b2 p2.1) = (0 : Int32) then some (false, p2.2)
    else some (true, p2.2))
def fX4_takeReading (i : Nat) (M0 : wM) : Option (Bool × wM) :=
  (fX4_takePlace i M0).bind (fun p4 => if (b2 p4.1) = (0 : Int32) then some (false, p4.2)
    else (fX4_skip i (116 : Int32) p4.2).bind (fun p6 => if (b2 p6.1) = (0 : Int32) then some (false, p6.2)
    else (fX4_takeNumber i (5 : Int32) p6.2).bind (fun p8 => if ((st p8.2 i 5 p8.1).1 i 5) = (-1 : Int32) then some (false, (st p8.2 i 5 p8.1))
    else (fX4_skip i (112 : Int32) (st p8.2 i 5 p8.1)).bind (fun p10 => if (b2 p10.1) = (0 : Int32) then some (false, p10.2)
    else (fX4_takeNumber i (6 : Int32) p10.2).bind (fun p12 => if ((st p12.2 i 6 p12.1).1 i 6) = (-1 : Int32) then some (false, (st p12.2 i 6 p12.1))
    else (fX4_skip i (99 : Int32) (st p12.2 i 6 p12.1)).bind (fun p14 => if (b2 p14.1) = (0 : Int32) then some (false, p14.2)
    else (fX4_skip i (45 : Int32) p14.2).bind (fun p16 => (fX4_takeNumber i (3 : Int32) p16.2).bind (fun p17 => if (b2 p16.1) = (0 : Int32) then fX4_takeReading_J99 i p17.1 p17.1 p17.2
    else fX4_takeReading_J99 i p17.1 (-p17.1) p17.2))))))))
def fX6_isTime (x0 : Int32) (M0 : wM) : Option Bool :=
  (fX6_within x0 (0 : Int32) (10000 : Int32) M0).bind (fun v1 => some v1)
def fX6_isTemperature (x0 : Int32) (M0 : wM) : Option Bool :=
  (fX6_within x0 (-300 : Int32) (500 : Int32) M0).bind (fun v1 => some v1)
def fX6_isReading (x0 : Int32) (x1 : Int32) (x2 : Int32) (M0 : wM) : Option Bool :=
  (fX6_isTime x0 M0).bind (fun v1 => if (b2 v1) = (0 : Int32) then some false
    else (fX6_within x1 (50000 : Int32) (110000 : Int32) M0).bind (fun v3 => if (b2 v3) = (0 : Int32) then some false
    else (fX6_isTemperature x2 M0).bind (fun v5 => if (b2 v5) = (0 : Int32) then some false
    else some true)))
def fX5_hasTime_B2 (i : Nat) (x1 : Int32) (M0 : wM) (bk2 : Int32 → Option Bool) (x2 : Int32) : Option Bool :=
  if (M0.1 i 2) ≤ x2 then some false
    else (fX5_value i x2 (0 : Int32) M0).bind (fun v2 => if v2 = x1 then some true
    else bk2 (x2 + (1 : Int32)))
def fX5_hasTime_L2 (i : Nat) (x1 : Int32) (M0 : wM)  : Nat → Int32 → Option Bool
  | 0 => fun _ => none
  | n + 1 => fX5_hasTime_B2 i x1 M0  (fX5_hasTime_L2 i x1 M0  n)
def fX5_hasTime (i : Nat) (x1 : Int32) (M0 : wM) : Option Bool :=
  fX5_hasTime_L2 i x1 M0 FU (0 : Int32)
def fX5_isFull (i : Nat) (M0 : wM) : Option Bool :=
  if (M0.1 i 2) < (M0.1 i 1) then some false
    else some true
def fX4_reasonAgainst (i : Nat) (j1 : Nat) (M0 : wM) : Option Int32 :=
  if (3 : Int32) ≤ (M0.1 i 3) then some (2 : Int32)
    else (fX6_isReading (M0.1 i 5) (M0.1 i 6) (M0.1 i 7) M0).bind (fun v2 => if (b2 v2) = (0 : Int32) then some (2 : Int32)
    else (fX5_hasTime j1 (M0.1 i 5) M0).bind (fun v4 => if (b2 v4) = (0 : Int32) then (fX5_isFull j1 M0).bind (fun v6 => if (b2 v6) = (0 : Int32) then some (0 : Int32)
    else some (4 : Int32))
    else some (3 : Int32)))
def fX5_move_B2 (i : Nat) (x1 : Int32) (x2 : Int32) (bk2 : Int32 → wM → Option wM) (x3 : Int32) (M0 : wM) : Option wM :=
  if (4 : Int32) ≤ x3 then some M0
    else (fX5_value i x1 x3 M0).bind (fun v2 => (fX6_put (i + 1) ((x2 * (4 : Int32)) + x3) v2 M0).bind (fun M3 => bk2 (x3 + (1 : Int32)) M3))
def fX5_move_L2 (i : Nat) (x1 : Int32) (x2 : Int32)  : Nat → Int32 → wM → Option wM
  | 0 => fun _ _ => none
  | n + 1 => fX5_move_B2 i x1 x2  (fX5_move_L2 i x1 x2  n)
def fX5_move (i : Nat) (x1 : Int32) (x2 : Int32) (M0 : wM) : Option wM :=
  fX5_move_L2 i x1 x2 FU (0 : Int32) M0
def fX5_insert_J40 (i : Nat) (x1 : Int32) (x2 : Int32) (x3 : Int32) (x4 : Int32)  (x5 : Int32) (M0 : wM) : Option (Int32 × wM) :=
  (fX6_put (i + 1) ((x5 * (4 : Int32)) + (0 : Int32)) x2 M0).bind (fun M1 => (fX6_put (i + 1) ((x5 * (4 : Int32)) + (1 : Int32)) x3 M1).bind (fun M2 => (fX6_put (i + 1) ((x5 * (4 : Int32)) + (2 : Int32)) x4 M2).bind (fun M3 => (fX6_put (i + 1) ((x5 * (4 : Int32)) + (3 : Int32)) x1 M3).bind (fun M4 => some (x5, (st M4 i 2 ((M4.1 i 2) + (1 : Int32))))))))
def fX5_insert_B6 (i : Nat) (x1 : Int32) (x2 : Int32) (x3 : Int32) (x4 : Int32) (bk6 : Int32 → wM → Option (Int32 × wM)) (x5 : Int32) (M0 : wM) : Option (Int32 × wM) :=
  if x5 ≤ (0 : Int32) then fX5_insert_J40 i x1 x2 x3 x4 x5 M0
    else (fX5_value i (x5 - (1 : Int32)) (0 : Int32) M0).bind (fun v6 => if v6 ≤ x2 then fX5_insert_J40 i x1 x2 x3 x4 x5 M0
    else (fX5_move i (x5 - (1 : Int32)) x5 M0).bind (fun M8 => bk6 (x5 + (-1 : Int32)) M8))
def fX5_insert_L6 (i : Nat) (x1 : Int32) (x2 : Int32) (x3 : Int32) (x4 : Int32)  : Nat → Int32 → wM → Option (Int32 × wM)
  | 0 => fun _ _ => none
  | n + 1 => fX5_insert_B6 i x1 x2 x3 x4  (fX5_insert_L6 i x1 x2 x3 x4  n)
def fX5_insert (i : Nat) (x1 : Int32) (x2 : Int32) (x3 : Int32) (x4 : Int32) (M0 : wM) : Option (Int32 × wM) :=
  fX5_insert_L6 i x1 x2 x3 x4 FU (M0.1 i 2) M0
def fX4_readInto_J63 (i : Nat) (j1 : Nat) (bk17 : Int32 → wM → Option wM) (x2 : Int32) (x3 : Int32) (s1 : Int32) (M0 : wM) : Option wM :=
  if ((st M0 i 10 s1).1 i 10) = (0 : Int32) then (fX2_track j1 ((st M0 i 10 s1).1 i 3) (st M0 i 10 s1)).bind (fun v2 => (gk v2 5).bind (fun _ => (fX5_insert v2 ((st M0 i 10 s1).1 i 4) ((st M0 i 10 s1).1 i 5) ((st M0 i 10 s1).1 i 6) ((st M0 i 10 s1).1 i 7) (st M0 i 10 s1)).bind (fun p4 => bk17 (x2 + (1 : Int32)) (st p4.2 i 8 ((p4.2.1 i 8) + (1 : Int32))))))
    else some (st (st M0 i 10 s1) i 9 x3)
def fX4_readInto_B17 (i : Nat) (j1 : Nat) (bk17 : Int32 → wM → Option wM) (x2 : Int32) (M0 : wM) : Option wM :=
  if (100 : Int32) ≤ x2 then some M0
    else if (M0.1 i 1) ≤ (M0.1 i 2) then some M0
    else (fX4_takeReading i M0).bind (fun p7 => if (b2 p7.1) = (0 : Int32) then fX4_readInto_J63 i j1 bk17 x2 (M0.1 i 2) (1 : Int32) p7.2
    else (fX2_track j1 (p7.2.1 i 3) p7.2).bind (fun v9 => (gk v9 5).bind (fun _ => (fX4_reasonAgainst i v9 p7.2).bind (fun v11 => fX4_readInto_J63 i j1 bk17 x2 (M0.1 i 2) v11 p7.2))))
def fX4_readInto_L17 (i : Nat) (j1 : Nat)  : Nat → Int32 → wM → Option wM
  | 0 => fun _ _ => none
  | n + 1 => fX4_readInto_B17 i j1  (fX4_readInto_L17 i j1  n)
def fX4_readInto (i : Nat) (j1 : Nat) (M0 : wM) : Option wM :=
  fX4_readInto_L17 i j1 FU (0 : Int32) (st (st (st M0 i 2 (0 : Int32)) i 8 (0 : Int32)) i 9 (-1 : Int32))
def fX5_remove_B4 (i : Nat) (x1 : Int32) (bk4 : Int32 → wM → Option wM) (x2 : Int32) (M0 : wM) : Option wM :=
  if (M0.1 i 2) ≤ x2 then some (st M0 i 2 ((M0.1 i 2) - (1 : Int32)))
    else (fX5_move i x2 (x2 - (1 : Int32)) M0).bind (fun M2 => bk4 (x2 + (1 : Int32)) M2)
def fX5_remove_L4 (i : Nat) (x1 : Int32)  : Nat → Int32 → wM → Option wM
  | 0 => fun _ _ => none
  | n + 1 => fX5_remove_B4 i x1  (fX5_remove_L4 i x1  n)
def fX5_remove (i : Nat) (x1 : Int32) (M0 : wM) : Option wM :=
  fX5_remove_L4 i x1 FU (x1 + (1 : Int32)) M0
def fX6_isSetting (x0 : Int32) (x1 : Int32) (M0 : wM) : Option Bool :=
  if x0 = (0 : Int32) then (fX6_within x1 (-500000 : Int32) (9000000 : Int32) M0).bind (fun v2 => some v2)
    else if x0 = (1 : Int32) then (fX6_within x1 (1 : Int32) (5000 : Int32) M0).bind (fun v4 => some v4)
    else if x0 = (2 : Int32) then (fX6_within x1 (1 : Int32) (500 : Int32) M0).bind (fun v6 => some v6)
    else some false
def fX6_record  (M0 : wM) : Option wM :=
  (fX0_keep 19 1 M0).bind (fun M1 => some (st M1 0 8 (1 : Int32)))
def fX6_set (x1 : Int32) (x2 : Int32) (M0 : wM) : Option (Int32 × wM) :=
  (fX6_isSetting x1 x2 M0).bind (fun v1 => if (b2 v1) = (0 : Int32) then some ((-2000000001 : Int32), M0)
    else (fX6_record M0).bind (fun M3 => (fX2_setting 1 x1 M3).bind (fun v4 => (fX2_putSetting 1 x1 x2 M3).bind (fun M5 => some (v4, M5)))))
def fX6_take (x1 : Int32) (x2 : Int32) (x3 : Int32) (x4 : Int32) (x5 : Int32) (M0 : wM) : Option (Int32 × wM) :=
  (fX2_track 1 x1 M0).bind (fun v1 => (gk v1 5).bind (fun _ => (fX5_hasTime v1 x3 M0).bind (fun v3 => if (b2 v3) = (0 : Int32) then (fX5_isFull v1 M0).bind (fun v5 => if (b2 v5) = (0 : Int32) then (fX6_record M0).bind (fun M7 => (fX5_insert v1 x2 x3 x4 x5 M7).bind (fun p8 => some (p8.1, p8.2)))
    else some ((-2000000003 : Int32), M0))
    else some ((-2000000002 : Int32), M0))))
def fX6_base (x1 : Int32) (x2 : Int32) (x3 : Int32) (M0 : wM) : Option (Int32 × wM) :=
  (fX6_isReading x1 x2 x3 M0).bind (fun v1 => if (b2 v1) = (0 : Int32) then some ((-2000000001 : Int32), M0)
    else (fX6_take (-1 : Int32) (0 : Int32) x1 x2 x3 M0).bind (fun p3 => some (p3.1, p3.2)))
def fX6_isCell (x0 : Int32) (M0 : wM) : Option Bool :=
  (fX6_within x0 (0 : Int32) (2 : Int32) M0).bind (fun v1 => some v1)
def fX6_isPoint (x0 : Int32) (M0 : wM) : Option Bool :=
  (fX6_within x0 (0 : Int32) (9 : Int32) M0).bind (fun v1 => some v1)
def fX6_read (x1 : Int32) (x2 : Int32) (x3 : Int32) (x4 : Int32) (x5 : Int32) (M0 : wM) : Option (Int32 × wM) :=
  (fX6_isCell x1 M0).bind (fun v1 => if (b2 v1) = (0 : Int32) then some ((-2000000001 : Int32), M0)
    else (fX6_isPoint x2 M0).bind (fun v3 => if (b2 v3) = (0 : Int32) then some ((-2000000001 : Int32), M0)
    else (fX6_isReading x3 x4 x5 M0).bind (fun v5 => if (b2 v5) = (0 : Int32) then some ((-2000000001 : Int32), M0)
    else (fX6_take x1 x2 x3 x4 x5 M0).bind (fun p7 => some (p7.1, p7.2)))))
def fX6_isReadingOf_J12 (x1 : Int32) (x2 : Int32) (M0 : wM)   : Option Bool :=
  (fX2_track 1 x1 M0).bind (fun v1 => (gk v1 5).bind (fun _ => (fX6_within x2 (0 : Int32) ((M0.1 v1 2) - (1 : Int32)) M0).bind (fun v3 => if (b2 v3) = (0 : Int32) then some false
    else some true)))
def fX6_isReadingOf (x1 : Int32) (x2 : Int32) (M0 : wM) : Option Bool :=
  if x1 = (-1 : Int32) then fX6_isReadingOf_J12 x1 x2 M0
    else (fX6_isCell x1 M0).bind (fun v6 => if (b2 v6) = (0 : Int32) then some false
    else fX6_isReadingOf_J12 x1 x2 M0)
def fX6_drop (x1 : Int32) (x2 : Int32) (M0 : wM) : Option (Int32 × wM) :=
  (fX6_isReadingOf x1 x2 M0).bind (fun v1 => if (b2 v1) = (0 : Int32) then some ((-2000000001 : Int32), M0)
    else (fX6_record M0).bind (fun M3 => (fX2_track 1 x1 M3).bind (fun v4 => (gk v4 5).bind (fun _ => (fX5_remove v4 x2 M3).bind (fun M6 => some (M6.1 v4 2, M6))))))
def fX6_refresh  (M0 : wM) : Option wM :=
  if (M0.1 0 8) = (0 : Int32) then some M0
    else (fX3_workOut 66 1 (0 : Int32) M0).bind (fun M2 => (fX3_workOut 75 1 (1 : Int32) M2).bind (fun M3 => (fX3_workOut 84 1 (2 : Int32) M3).bind (fun M4 => some (st M4 0 8 (0 : Int32)))))
def fX6_surveyOf (x1 : Int32) (M0 : wM) : Option Nat :=
  if x1 = (0 : Int32) then some 66
    else if x1 = (1 : Int32) then some 75
    else some 84
def fX6_reading_J34 (x1 : Int32) (x2 : Int32) (x3 : Int32)   (M0 : wM) : Option (Int32 × wM) :=
  (fX6_refresh M0).bind (fun M1 => if x3 = (4 : Int32) then (fX6_surveyOf x1 M1).bind (fun v3 => (gk v3 3).bind (fun _ => (fX3_isGust v3 x2 M1).bind (fun v5 => if (b2 v5) = (0 : Int32) then some ((0 : Int32), M1)
    else some ((1 : Int32), M1))))
    else if x3 = (5 : Int32) then (fX6_surveyOf x1 M1).bind (fun v8 => (gk v8 3).bind (fun _ => (fX3_isGood v8 x2 M1).bind (fun v10 => if (b2 v10) = (0 : Int32) then some ((0 : Int32), M1)
    else some ((1 : Int32), M1))))
    else (fX2_track 1 x1 M1).bind (fun v12 => (gk v12 5).bind (fun _ => (fX5_value v12 x2 x3 M1).bind (fun v14 => some (v14, M1)))))
def fX6_reading (x1 : Int32) (x2 : Int32) (x3 : Int32) (M0 : wM) : Option (Int32 × wM) :=
  (fX6_isReadingOf x1 x2 M0).bind (fun v15 => if (b2 v15) = (0 : Int32) then some ((-2000000001 : Int32), M0)
    else (fX6_within x3 (0 : Int32) (5 : Int32) M0).bind (fun v17 => if (b2 v17) = (0 : Int32) then some ((-2000000001 : Int32), M0)
    else if x1 = (-1 : Int32) then if x3 < (3 : Int32) then fX6_reading_J34 x1 x2 x3 M0
    else some ((-2000000004 : Int32), M0)
    else fX6_reading_J34 x1 x2 x3 M0))
def fX6_gather_B9 (x1 : Int32) (bk9 : Int32 → wM → Option wM) (x2 : Int32) (M0 : wM) : Option wM :=
  if (3 : Int32) ≤ x2 then some M0
    else (fX6_surveyOf x2 M0).bind (fun v2 => (gk v2 3).bind (fun _ => (fX3_addTo v2 93 x1 M0).bind (fun M4 => bk9 (x2 + (1 : Int32)) M4)))
def fX6_gather_L9 (x1 : Int32)  : Nat → Int32 → wM → Option wM
  | 0 => fun _ _ => none
  | n + 1 => fX6_gather_B9 x1  (fX6_gather_L9 x1  n)
def fX6_gather (x1 : Int32) (M0 : wM) : Option wM :=
  (fX1_clear 93 M0).bind (fun M5 => fX6_gather_L9 x1 FU (0 : Int32) M5)
def fX6_pointsWithHeight_B4  (bk4 : Int32 → Int32 → wM → Option (Int32 × wM)) (x1 : Int32) (x2 : Int32) (M0 : wM) : Option (Int32 × wM) :=
  if (10 : Int32) ≤ x2 then some (x1, M0)
    else (fX6_gather x2 M0).bind (fun M2 => if (M2.1 93 1) ≤ (0 : Int32) then bk4 (x1 + (0 : Int32)) (x2 + (1 : Int32)) M2
    else bk4 (x1 + (1 : Int32)) (x2 + (1 : Int32)) M2)
def fX6_pointsWithHeight_L4   : Nat → Int32 → Int32 → wM → Option (Int32 × wM)
  | 0 => fun _ _ _ => none
  | n + 1 => fX6_pointsWithHeight_B4   (fX6_pointsWithHeight_L4   n)
def fX6_pointsWithHeight  (M0 : wM) : Option (Int32 × wM) :=
  fX6_pointsWithHeight_L4 FU (0 : Int32) (0 : Int32) M0
def fX6_count_J167 (x1 : Int32)   (M0 : wM) : Option (Int32 × wM) :=
  (fX2_setting 1 (x1 - (10 : Int32)) M0).bind (fun v1 => some (v1, M0))
def fX6_count_J76 (x1 : Int32)   (M0 : wM) : Option (Int32 × wM) :=
  (fX2_track 1 (x1 - (1 : Int32)) M0).bind (fun v2 => (gk v2 5).bind (fun _ => some (M0.1 v2 2, M0)))
def fX6_count (x1 : Int32) (M0 : wM) : Option (Int32 × wM) :=
  (fX6_refresh M0).bind (fun M4 => if x1 = (0 : Int32) then fX6_count_J76 x1 M4
    else if x1 = (1 : Int32) then fX6_count_J76 x1 M4
    else if x1 = (2 : Int32) then fX6_count_J76 x1 M4
    else if x1 = (3 : Int32) then fX6_count_J76 x1 M4
    else if x1 = (4 : Int32) then some (((M4.1 66 9) + (M4.1 75 9)) + (M4.1 84 9), M4)
    else if x1 = (5 : Int32) then some (((M4.1 66 11) + (M4.1 75 11)) + (M4.1 84 11), M4)
    else if x1 = (6 : Int32) then (fX2_steps 1 M4).bind (fun v12 => some (v12, M4))
    else if x1 = (7 : Int32) then (fX6_pointsWithHeight M4).bind (fun p14 => some (p14.1, p14.2))
    else if x1 = (8 : Int32) then some (M4.1 19 2, M4)
    else if x1 = (9 : Int32) then some (M4.1 94 1, M4)
    else if x1 = (10 : Int32) then fX6_count_J167 x1 M4
    else if x1 = (11 : Int32) then fX6_count_J167 x1 M4
    else if x1 = (12 : Int32) then fX6_count_J167 x1 M4
    else if x1 = (13 : Int32) then some (((M4.1 66 10) + (M4.1 75 10)) + (M4.1 84 10), M4)
    else some ((-2000000001 : Int32), M4))
def fX6_undo  (M0 : wM) : Option (Int32 × wM) :=
  if (M0.1 19 2) = (0 : Int32) then some ((-2000000002 : Int32), M0)
    else (fX0_giveBack 19 1 M0).bind (fun M2 => some ((st M2 0 8 (1 : Int32)).1 19 2, (st M2 0 8 (1 : Int32))))
def fX6_baseAt_J33 (x1 : Int32) (x2 : Int32) (M0 : wM)  (s1 : Int32) (s2 : Int32) : Option Int32 :=
  (fX2_baseValue 1 s1 s2 M0).bind (fun v1 => some v1)
def fX6_baseAt (x1 : Int32) (x2 : Int32) (M0 : wM) : Option Int32 :=
  (fX6_isTime x1 M0).bind (fun v2 => if (b2 v2) = (0 : Int32) then some (-2000000001 : Int32)
    else (fX6_within x2 (0 : Int32) (1 : Int32) M0).bind (fun v4 => if (b2 v4) = (0 : Int32) then some (-2000000001 : Int32)
    else if x2 = (0 : Int32) then fX6_baseAt_J33 x1 x2 M0 x1 (1 : Int32)
    else fX6_baseAt_J33 x1 x2 M0 x1 (2 : Int32)))
def fX6_step (x1 : Int32) (M0 : wM) : Option Int32 :=
  (fX2_stepEnd 1 x1 M0).bind (fun v1 => if v1 = (-1 : Int32) then some (-2000000001 : Int32)
    else some v1)
def fX6_raw (x1 : Int32) (x2 : Int32) (M0 : wM) : Option (Int32 × wM) :=
  (fX6_isCell x1 M0).bind (fun v1 => if (b2 v1) = (0 : Int32) then some ((-2000000001 : Int32), M0)
    else (fX6_isReadingOf x1 x2 M0).bind (fun v3 => if (b2 v3) = (0 : Int32) then some ((-2000000001 : Int32), M0)
    else (fX6_refresh M0).bind (fun M5 => (fX6_surveyOf x1 M5).bind (fun v6 => (gk v6 3).bind (fun _ => (fX3_rawHeight v6 x2 M5).bind (fun v8 => some (v8, M5)))))))
def fX6_would (x1 : Int32) (x2 : Int32) (x3 : Int32) (M0 : wM) : Option Int32 :=
  (fX6_isReading x1 x2 x3 M0).bind (fun v1 => if (b2 v1) = (0 : Int32) then some (-2000000001 : Int32)
    else (fX2_heightAt 1 x1 x2 x3 M0).bind (fun v3 => some v3))
def fX6_greatestPressure_B11 (x1 : Int32) (x2 : Int32) (x3 : Int32) (M0 : wM) (bk11 : Int32 → Int32 → Int32 → Option Int32) (x4 : Int32) (x5 : Int32) (x6 : Int32) : Option Int32 :=
  if (32 : Int32) ≤ x6 then some x4
    else if x5 ≤ x4 then some x4
    else (dvI ((x5 - x4) + (1 : Int32)) (2 : Int32)).bind (fun v3 => (fX2_heightAt 1 x1 (x4 + v3) x2 M0).bind (fun v4 => if v4 < x3 then bk11 x4 ((x4 + v3) - (1 : Int32)) (x6 + (1 : Int32))
    else bk11 (x4 + v3) x5 (x6 + (1 : Int32))))
def fX6_greatestPressure_L11 (x1 : Int32) (x2 : Int32) (x3 : Int32) (M0 : wM)  : Nat → Int32 → Int32 → Int32 → Option Int32
  | 0 => fun _ _ _ => none
  | n + 1 => fX6_greatestPressure_B11 x1 x2 x3 M0  (fX6_greatestPressure_L11 x1 x2 x3 M0  n)
def fX6_greatestPressure (x1 : Int32) (x2 : Int32) (x3 : Int32) (M0 : wM) : Option Int32 :=
  fX6_greatestPressure_L11 x1 x2 x3 M0 FU (50000 : Int32) (110000 : Int32) (0 : Int32)
def fX6_pressureFor_J30 (x1 : Int32) (x2 : Int32) (x3 : Int32) (M0 : wM)  (s0 : Int32) : Option Int32 :=
  if s0 = (0 : Int32) then some (-2000000001 : Int32)
    else (fX2_heightAt 1 x1 (50000 : Int32) x2 M0).bind (fun v2 => if v2 = (-2000000004 : Int32) then some (-2000000004 : Int32)
    else if x3 ≤ v2 then (fX6_greatestPressure x1 x2 x3 M0).bind (fun v5 => some v5)
    else some (-2000000004 : Int32))
def fX6_pressureFor (x1 : Int32) (x2 : Int32) (x3 : Int32) (M0 : wM) : Option Int32 :=
  (fX6_isTime x1 M0).bind (fun v6 => if (b2 v6) = (0 : Int32) then fX6_pressureFor_J30 x1 x2 x3 M0 (0 : Int32)
    else (fX6_isTemperature x2 M0).bind (fun v8 => if (b2 v8) = (0 : Int32) then fX6_pressureFor_J30 x1 x2 x3 M0 (0 : Int32)
    else (fX6_within x3 (-1000000 : Int32) (10000000 : Int32) M0).bind (fun v10 => if (b2 v10) = (0 : Int32) then fX6_pressureFor_J30 x1 x2 x3 M0 (0 : Int32)
    else fX6_pressureFor_J30 x1 x2 x3 M0 (1 : Int32))))
def fX6_loops (x1 : Int32) (M0 : wM) : Option (Int32 × wM) :=
  (fX6_isCell x1 M0).bind (fun v1 => if (b2 v1) = (0 : Int32) then some ((-2000000001 : Int32), M0)
    else (fX6_refresh M0).bind (fun M3 => (fX6_surveyOf x1 M3).bind (fun v4 => (gk v4 3).bind (fun _ => some (M3.1 v4 11, M3)))))
def fX6_loop (x1 : Int32) (x2 : Int32) (x3 : Int32) (M0 : wM) : Option (Int32 × wM) :=
  (fX6_isCell x1 M0).bind (fun v1 => if (b2 v1) = (0 : Int32) then some ((-2000000001 : Int32), M0)
    else (fX6_refresh M0).bind (fun M3 => (fX6_surveyOf x1 M3).bind (fun v4 => (gk v4 3).bind (fun _ => (fX6_within x2 (0 : Int32) ((M3.1 v4 11) - (1 : Int32)) M3).bind (fun v6 => if (b2 v6) = (0 : Int32) then some ((-2000000001 : Int32), M3)
    else if x3 = (0 : Int32) then (fX3_begin v4 x2 M3).bind (fun v9 => some (v9, M3))
    else if x3 = (1 : Int32) then (fX3_end v4 x2 M3).bind (fun v11 => some (v11, M3))
    else if x3 = (2 : Int32) then (fX3_misclosure v4 x2 M3).bind (fun v13 => some (v13, M3))
    else if x3 = (3 : Int32) then (fX3_misclosureBySteps v4 x2 M3).bind (fun v15 => some (v15, M3))
    else if x3 = (4 : Int32) then (fX3_minutes v4 x2 M3).bind (fun v17 => some (v17, M3))
    else some ((-2000000001 : Int32), M3))))))
def fX6_openLoop (x1 : Int32) (x2 : Int32) (M0 : wM) : Option (Int32 × wM) :=
  (fX6_isCell x1 M0).bind (fun v1 => if (b2 v1) = (0 : Int32) then some ((-2000000001 : Int32), M0)
    else (fX6_isReadingOf x1 x2 M0).bind (fun v3 => if (b2 v3) = (0 : Int32) then some ((-2000000001 : Int32), M0)
    else (fX6_refresh M0).bind (fun M5 => (fX6_surveyOf x1 M5).bind (fun v6 => (gk v6 3).bind (fun _ => (fX3_openLoopOf v6 x2 M5).bind (fun v8 => if v8 = (-1 : Int32) then some ((-2000000004 : Int32), M5)
    else some (v8, M5)))))))
def fX6_corrected (x1 : Int32) (x2 : Int32) (M0 : wM) : Option (Int32 × wM) :=
  (fX6_isCell x1 M0).bind (fun v1 => if (b2 v1) = (0 : Int32) then some ((-2000000001 : Int32), M0)
    else (fX6_isReadingOf x1 x2 M0).bind (fun v3 => if (b2 v3) = (0 : Int32) then some ((-2000000001 : Int32), M0)
    else (fX6_refresh M0).bind (fun M5 => (fX6_surveyOf x1 M5).bind (fun v6 => (gk v6 3).bind (fun _ => (fX3_correctedHeight v6 x2 M5).bind (fun v8 => some (v8, M5)))))))
def fX6_point (x1 : Int32) (x2 : Int32) (M0 : wM) : Option (Int32 × wM) :=
  (fX6_isPoint x1 M0).bind (fun v1 => if (b2 v1) = (0 : Int32) then some ((-2000000001 : Int32), M0)
    else (fX6_within x2 (0 : Int32) (2 : Int32) M0).bind (fun v3 => if (b2 v3) = (0 : Int32) then some ((-2000000001 : Int32), M0)
    else (fX6_refresh M0).bind (fun M5 => (fX6_gather x1 M5).bind (fun M6 => if x2 = (2 : Int32) then some (M6.1 93 1, M6)
    else if (M6.1 93 1) = (0 : Int32) then some ((-2000000004 : Int32), M6)
    else if x2 = (0 : Int32) then (fX1_height 93 M6).bind (fun v11 => some (v11, M6))
    else (fX1_spread 93 M6).bind (fun v10 => some (v10, M6))))))
def fX6_worst_B45 (x1 : Int32) (bk28 : Int32 → Int32 → Int32 → Int32 → wM → Option (Int32 × wM)) (bk45 : Int32 → Int32 → Int32 → Int32 → Nat → Int32 → wM → Option (Int32 × wM)) (x2 : Int32) (x3 : Int32) (x4 : Int32) (x5 : Int32) (j6 : Nat) (x7 : Int32) (M0 : wM) : Option (Int32 × wM) :=
  if (M0.1 j6 11) ≤ x7 then bk28 x2 x3 x4 (x5 + (1 : Int32)) M0
    else (fX3_misclosure j6 x7 M0).bind (fun v2 => if (if (0 : Int32) ≤ v2 then v2 else 0 - v2) ≤ x2 then bk45 x2 x3 x4 x5 j6 (x7 + (1 : Int32)) M0
    else bk45 (if (0 : Int32) ≤ v2 then v2 else 0 - v2) x5 x7 x5 j6 (x7 + (1 : Int32)) M0)
def fX6_worst_L45 (x1 : Int32) (bk28 : Int32 → Int32 → Int32 → Int32 → wM → Option (Int32 × wM)) : Nat → Int32 → Int32 → Int32 → Int32 → Nat → Int32 → wM → Option (Int32 × wM)
  | 0 => fun _ _ _ _ _ _ _ => none
  | n + 1 => fX6_worst_B45 x1 bk28 (fX6_worst_L45 x1 bk28 n)
def fX6_worst_B28 (x1 : Int32) (bk28 : Int32 → Int32 → Int32 → Int32 → wM → Option (Int32 × wM)) (x2 : Int32) (x3 : Int32) (x4 : Int32) (x5 : Int32) (M0 : wM) : Option (Int32 × wM) :=
  if (3 : Int32) ≤ x5 then if x1 = (0 : Int32) then some (x3, M0)
    else some (x4, M0)
    else (fX6_surveyOf x5 M0).bind (fun v6 => (gk v6 3).bind (fun _ => fX6_worst_L45 x1 bk28 FU x2 x3 x4 x5 v6 (0 : Int32) M0))
def fX6_worst_L28 (x1 : Int32)  : Nat → Int32 → Int32 → Int32 → Int32 → wM → Option (Int32 × wM)
  | 0 => fun _ _ _ _ _ => none
  | n + 1 => fX6_worst_B28 x1  (fX6_worst_L28 x1  n)
def fX6_worst (x1 : Int32) (M0 : wM) : Option (Int32 × wM) :=
  (fX6_within x1 (0 : Int32) (1 : Int32) M0).bind (fun v8 => if (b2 v8) = (0 : Int32) then some ((-2000000001 : Int32), M0)
    else (fX6_refresh M0).bind (fun M10 => fX6_worst_L28 x1 FU (-1 : Int32) (-2000000004 : Int32) (-2000000004 : Int32) (0 : Int32) M10))
def fX6_type (x1 : Int32) (M0 : wM) : Option (Int32 × wM) :=
  (fX6_within x1 (32 : Int32) (126 : Int32) M0).bind (fun v1 => if (b2 v1) = (0 : Int32) then some ((-2000000001 : Int32), M0)
    else if (M0.1 94 1) < (100 : Int32) then (fX4_append 94 x1 M0).bind (fun M4 => some (M4.1 94 1, M4))
    else some ((-2000000003 : Int32), M0))
def fX6_clearText  (M0 : wM) : Option (Int32 × wM) :=
  some (M0.1 94 1, (st M0 94 1 (0 : Int32)))
def fX6_tryText  (M0 : wM) : Option wM :=
  (fX2_copyFrom 10 1 M0).bind (fun M1 => (fX4_readInto 94 10 M1).bind (fun M2 => some M2))
def fX6_fault (x1 : Int32) (M0 : wM) : Option (Int32 × wM) :=
  (fX6_within x1 (0 : Int32) (1 : Int32) M0).bind (fun v1 => if (b2 v1) = (0 : Int32) then some ((-2000000001 : Int32), M0)
    else (fX6_tryText M0).bind (fun M3 => if (M3.1 94 9) = (-1 : Int32) then some ((-2000000004 : Int32), M3)
    else if x1 = (0 : Int32) then some (M3.1 94 9, M3)
    else some (M3.1 94 10, M3)))
def fX6_enter  (M0 : wM) : Option (Int32 × wM) :=
  (fX6_tryText M0).bind (fun M1 => if (M1.1 94 9) = (-1 : Int32) then (fX6_record M1).bind (fun M3 => (fX2_copyFrom 1 10 M3).bind (fun M4 => some (M4.1 94 8, M4)))
    else some ((-2000000002 : Int32), M1))
def fX7_in (x0 : Int32) (x1 : Int32) (x2 : Int32) (M0 : wM) : Option Bool :=
  if x0 < x1 then some false
    else if x2 < x0 then some false
    else some true
def fX7_isCell (x0 : Int32) (M0 : wM) : Option Bool :=
  (fX7_in x0 (0 : Int32) (2 : Int32) M0).bind (fun v1 => some v1)
def fX7_isReading (x1 : Int32) (x2 : Int32) (M0 : wM) : Option Bool :=
  (fX7_in x1 (-1 : Int32) (2 : Int32) M0).bind (fun v1 => if (b2 v1) = (0 : Int32) then some false
    else (ix ((4 : Int32) + x1) (ln 97)).bind (fun k3 => (fX7_in x2 (0 : Int32) ((M0.1 97 k3) - (1 : Int32)) M0).bind (fun v4 => if (b2 v4) = (0 : Int32) then some false
    else some true)))
def fX7_areValues (x0 : Int32) (x1 : Int32) (x2 : Int32) (M0 : wM) : Option Bool :=
  (fX7_in x0 (0 : Int32) (10000 : Int32) M0).bind (fun v1 => if (b2 v1) = (0 : Int32) then some false
    else (fX7_in x1 (50000 : Int32) (110000 : Int32) M0).bind (fun v3 => if (b2 v3) = (0 : Int32) then some false
    else (fX7_in x2 (-300 : Int32) (500 : Int32) M0).bind (fun v5 => if (b2 v5) = (0 : Int32) then some false
    else some true)))
def fX7_of (x1 : Int32) (x2 : Int32) (x3 : Int32) (M0 : wM) : Option Int32 :=
  (ix ((((7 : Int32) + ((80 : Int32) * x1)) + x2) + x3) (ln 97)).bind (fun k1 => some (M0.1 97 k1))
def fX7_down_J45 (x0 : Int64) (x2 : Int64) (M0 : wM)  (x4 : Int64) : Option Int64 :=
  some x4
def fX7_down_J35 (x0 : Int64) (x2 : Int64) (M0 : wM)  (x4 : Int64) (s0 : Int32) (s1 : Int32) : Option Int64 :=
  if s0 = s1 then fX7_down_J45 x0 x2 M0 x4
    else some (x4 - (1 : Int64))
def fX7_down_J24 (x0 : Int64) (x2 : Int64) (M0 : wM)  (x4 : Int64) (s0 : Int32) : Option Int64 :=
  if (0 : Int32) ≤ (lg_cmp x2 (0 : Int64)) then fX7_down_J35 x0 x2 M0 x4 s0 (0 : Int32)
    else fX7_down_J35 x0 x2 M0 x4 s0 (1 : Int32)
def fX7_down (x0 : Int64) (x2 : Int64) (M0 : wM) : Option Int64 :=
  (dvL x0 x2).bind (fun v3 => (rmL x0 x2).bind (fun v4 => if (lg_cmp v4 (0 : Int64)) = (0 : Int32) then fX7_down_J45 x0 x2 M0 v3
    else if (0 : Int32) ≤ (lg_cmp x0 (0 : Int64)) then fX7_down_J24 x0 x2 M0 v3 (0 : Int32)
    else fX7_down_J24 x0 x2 M0 v3 (1 : Int32)))
def fX7_records_B51  (bk51 : Int32 → wM → Option wM) (x1 : Int32) (M0 : wM) : Option wM :=
  if (327 : Int32) ≤ x1 then some (st M0 96 2 ((M0.1 96 2) + (1 : Int32)))
    else (ix x1 (ln 97)).bind (fun k2 => (ix (((327 : Int32) * (M0.1 96 2)) + x1) (ln 98)).bind (fun k3 => bk51 (x1 + (1 : Int32)) (st M0 98 k3 (M0.1 97 k2))))
def fX7_records_L51   : Nat → Int32 → wM → Option wM
  | 0 => fun _ _ => none
  | n + 1 => fX7_records_B51   (fX7_records_L51   n)
def fX7_records_B10  (bk10 : Int32 → wM → Option wM) (x1 : Int32) (M0 : wM) : Option wM :=
  if (1308 : Int32) ≤ x1 then fX7_records_L51 FU (0 : Int32) (st M0 96 2 ((M0.1 96 2) - (1 : Int32)))
    else (ix (x1 + (327 : Int32)) (ln 98)).bind (fun k5 => (ix x1 (ln 98)).bind (fun k6 => bk10 (x1 + (1 : Int32)) (st M0 98 k6 (M0.1 98 k5))))
def fX7_records_L10   : Nat → Int32 → wM → Option wM
  | 0 => fun _ _ => none
  | n + 1 => fX7_records_B10   (fX7_records_L10   n)
def fX7_records  (M0 : wM) : Option wM :=
  if (M0.1 96 2) = (5 : Int32) then fX7_records_L10 FU (0 : Int32) M0
    else fX7_records_L51 FU (0 : Int32) M0
def fX7_isSetting (x0 : Int32) (x1 : Int32) (M0 : wM) : Option Bool :=
  if x0 = (0 : Int32) then (fX7_in x1 (-500000 : Int32) (9000000 : Int32) M0).bind (fun v2 => some v2)
    else if x0 = (1 : Int32) then (fX7_in x1 (1 : Int32) (5000 : Int32) M0).bind (fun v4 => some v4)
    else if x0 = (2 : Int32) then (fX7_in x1 (1 : Int32) (500 : Int32) M0).bind (fun v6 => some v6)
    else some false
def fX7_set (x1 : Int32) (x2 : Int32) (M0 : wM) : Option (Int32 × wM) :=
  (fX7_isSetting x1 x2 M0).bind (fun v1 => if (b2 v1) = (0 : Int32) then some ((-2000000001 : Int32), M0)
    else (fX7_records M0).bind (fun M3 => (ix x1 (ln 97)).bind (fun k4 => (ix x1 (ln 97)).bind (fun k5 => some (M3.1 97 k4, (st M3 97 k5 x2))))))
def fX7_isTaken_B5 (x1 : Int32) (x2 : Int32) (M0 : wM) (bk5 : Int32 → Int32 → Option Bool) (x3 : Int32) (x4 : Int32) : Option Bool :=
  (ix ((3 : Int32) + x1) (ln 97)).bind (fun k1 => if (M0.1 97 k1) ≤ x4 then bz x3
    else if x3 = (0 : Int32) then (fX7_of x1 (0 : Int32) x4 M0).bind (fun v5 => if v5 = x2 then bk5 (1 : Int32) (x4 + (1 : Int32))
    else bk5 (0 : Int32) (x4 + (1 : Int32)))
    else bk5 (1 : Int32) (x4 + (1 : Int32)))
def fX7_isTaken_L5 (x1 : Int32) (x2 : Int32) (M0 : wM)  : Nat → Int32 → Int32 → Option Bool
  | 0 => fun _ _ => none
  | n + 1 => fX7_isTaken_B5 x1 x2 M0  (fX7_isTaken_L5 x1 x2 M0  n)
def fX7_isTaken (x1 : Int32) (x2 : Int32) (M0 : wM) : Option Bool :=
  fX7_isTaken_L5 x1 x2 M0 FU (0 : Int32) (0 : Int32)
def fX7_isFull_J19 (x1 : Int32) (M0 : wM)  (s0 : Int32) (s1 : Int32) : Option Bool :=
  if s0 = s1 then some true
    else some false
def fX7_isFull (x1 : Int32) (M0 : wM) : Option Bool :=
  (ix ((3 : Int32) + x1) (ln 97)).bind (fun k2 => if x1 = (0 : Int32) then fX7_isFull_J19 x1 M0 (M0.1 97 k2) (12 : Int32)
    else fX7_isFull_J19 x1 M0 (M0.1 97 k2) (20 : Int32))
def fX7_moves_B3 (x1 : Int32) (x2 : Int32) (x3 : Int32) (bk3 : Int32 → wM → Option wM) (x4 : Int32) (M0 : wM) : Option wM :=
  if (80 : Int32) ≤ x4 then some M0
    else (fX7_of x1 x4 x2 M0).bind (fun v2 => (ix ((((7 : Int32) + ((80 : Int32) * x1)) + x4) + x3) (ln 97)).bind (fun k3 => bk3 (x4 + (20 : Int32)) (st M0 97 k3 v2)))
def fX7_moves_L3 (x1 : Int32) (x2 : Int32) (x3 : Int32)  : Nat → Int32 → wM → Option wM
  | 0 => fun _ _ => none
  | n + 1 => fX7_moves_B3 x1 x2 x3  (fX7_moves_L3 x1 x2 x3  n)
def fX7_moves (x1 : Int32) (x2 : Int32) (x3 : Int32) (M0 : wM) : Option wM :=
  fX7_moves_L3 x1 x2 x3 FU (0 : Int32) M0
def fX7_puts_J46 (x1 : Int32) (x2 : Int32) (x3 : Int32) (x4 : Int32) (x5 : Int32)  (x6 : Int32) (M0 : wM) : Option (Int32 × wM) :=
  (ix ((((7 : Int32) + ((80 : Int32) * x1)) + x6) + (0 : Int32)) (ln 97)).bind (fun k1 => (ix ((((7 : Int32) + ((80 : Int32) * x1)) + x6) + (20 : Int32)) (ln 97)).bind (fun k2 => (ix ((((7 : Int32) + ((80 : Int32) * x1)) + x6) + (40 : Int32)) (ln 97)).bind (fun k3 => (ix ((((7 : Int32) + ((80 : Int32) * x1)) + x6) + (60 : Int32)) (ln 97)).bind (fun k4 => (ix ((3 : Int32) + x1) (ln 97)).bind (fun k5 => (ix ((3 : Int32) + x1) (ln 97)).bind (fun k6 => some (x6, (st (st (st (st (st M0 97 k1 x2) 97 k2 x3) 97 k3 x4) 97 k4 x5) 97 k6 ((((st (st (st (st M0 97 k1 x2) 97 k2 x3) 97 k3 x4) 97 k4 x5)).1 97 k5) + (1 : Int32))))))))))
def fX7_puts_B10 (x1 : Int32) (x2 : Int32) (x3 : Int32) (x4 : Int32) (x5 : Int32) (bk10 : Int32 → wM → Option (Int32 × wM)) (x6 : Int32) (M0 : wM) : Option (Int32 × wM) :=
  if x6 ≤ (0 : Int32) then fX7_puts_J46 x1 x2 x3 x4 x5 x6 M0
    else (fX7_of x1 (0 : Int32) (x6 - (1 : Int32)) M0).bind (fun v8 => if v8 ≤ x2 then fX7_puts_J46 x1 x2 x3 x4 x5 x6 M0
    else (fX7_moves x1 (x6 - (1 : Int32)) x6 M0).bind (fun M10 => bk10 (x6 + (-1 : Int32)) M10))
def fX7_puts_L10 (x1 : Int32) (x2 : Int32) (x3 : Int32) (x4 : Int32) (x5 : Int32)  : Nat → Int32 → wM → Option (Int32 × wM)
  | 0 => fun _ _ => none
  | n + 1 => fX7_puts_B10 x1 x2 x3 x4 x5  (fX7_puts_L10 x1 x2 x3 x4 x5  n)
def fX7_puts (x1 : Int32) (x2 : Int32) (x3 : Int32) (x4 : Int32) (x5 : Int32) (M0 : wM) : Option (Int32 × wM) :=
  (ix ((3 : Int32) + x1) (ln 97)).bind (fun k11 => fX7_puts_L10 x1 x2 x3 x4 x5 FU (M0.1 97 k11) M0)
def fX7_adds (x1 : Int32) (x2 : Int32) (x3 : Int32) (x4 : Int32) (x5 : Int32) (M0 : wM) : Option (Int32 × wM) :=
  (fX7_isTaken x1 x2 M0).bind (fun v1 => if (b2 v1) = (0 : Int32) then (fX7_isFull x1 M0).bind (fun v3 => if (b2 v3) = (0 : Int32) then (fX7_records M0).bind (fun M5 => (fX7_puts x1 x2 x3 x4 x5 M5).bind (fun p6 => some (p6.1, p6.2)))
    else some ((-2000000003 : Int32), M0))
    else some ((-2000000002 : Int32), M0))
def fX7_base (x1 : Int32) (x2 : Int32) (x3 : Int32) (M0 : wM) : Option (Int32 × wM) :=
  (fX7_areValues x1 x2 x3 M0).bind (fun v1 => if (b2 v1) = (0 : Int32) then some ((-2000000001 : Int32), M0)
    else (fX7_adds (0 : Int32) x1 x2 x3 (0 : Int32) M0).bind (fun p3 => some (p3.1, p3.2)))
def fX7_read (x1 : Int32) (x2 : Int32) (x3 : Int32) (x4 : Int32) (x5 : Int32) (M0 : wM) : Option (Int32 × wM) :=
  (fX7_isCell x1 M0).bind (fun v1 => if (b2 v1) = (0 : Int32) then some ((-2000000001 : Int32), M0)
    else (fX7_in x2 (0 : Int32) (9 : Int32) M0).bind (fun v3 => if (b2 v3) = (0 : Int32) then some ((-2000000001 : Int32), M0)
    else (fX7_areValues x3 x4 x5 M0).bind (fun v5 => if (b2 v5) = (0 : Int32) then some ((-2000000001 : Int32), M0)
    else (fX7_adds (x1 + (1 : Int32)) x3 x4 x5 x2 M0).bind (fun p7 => some (p7.1, p7.2)))))
def fX7_drop_B35 (x1 : Int32) (x2 : Int32) (bk35 : Int32 → Int32 → wM → Option (Int32 × wM)) (x3 : Int32) (x4 : Int32) (M0 : wM) : Option (Int32 × wM) :=
  (ix ((3 : Int32) + x3) (ln 97)).bind (fun k1 => if (M0.1 97 k1) ≤ x4 then (ix ((3 : Int32) + x3) (ln 97)).bind (fun k3 => some (M0.1 97 k3, M0))
    else (fX7_moves x3 (x4 + (1 : Int32)) x4 M0).bind (fun M4 => bk35 x3 (x4 + (1 : Int32)) M4))
def fX7_drop_L35 (x1 : Int32) (x2 : Int32)  : Nat → Int32 → Int32 → wM → Option (Int32 × wM)
  | 0 => fun _ _ _ => none
  | n + 1 => fX7_drop_B35 x1 x2  (fX7_drop_L35 x1 x2  n)
def fX7_drop (x1 : Int32) (x2 : Int32) (M0 : wM) : Option (Int32 × wM) :=
  (fX7_isReading x1 x2 M0).bind (fun v5 => if (b2 v5) = (0 : Int32) then some ((-2000000001 : Int32), M0)
    else (fX7_records M0).bind (fun M7 => (ix ((3 : Int32) + (x1 + (1 : Int32))) (ln 97)).bind (fun k8 => (ix ((3 : Int32) + (x1 + (1 : Int32))) (ln 97)).bind (fun k9 => fX7_drop_L35 x1 x2 FU (x1 + (1 : Int32)) x2 (st M7 97 k9 ((M7.1 97 k8) - (1 : Int32)))))))
def fX7_isGust_J79 (x1 : Int32) (x2 : Int32) (M0 : wM)  (x4 : Int32) (x5 : Int32) : Option Bool :=
  (ix (1 : Int32) (ln 97)).bind (fun k1 => if (-(M0.1 97 k1)) ≤ x4 then some false
    else (ix (1 : Int32) (ln 97)).bind (fun k3 => if (-(M0.1 97 k3)) ≤ x5 then some false
    else some true))
def fX7_isGust (x1 : Int32) (x2 : Int32) (M0 : wM) : Option Bool :=
  if x2 = (0 : Int32) then some false
    else (ix ((3 : Int32) + x1) (ln 97)).bind (fun k6 => if (x2 + (1 : Int32)) < (M0.1 97 k6) then (fX7_of x1 (20 : Int32) x2 M0).bind (fun v8 => (fX7_of x1 (20 : Int32) (x2 - (1 : Int32)) M0).bind (fun v9 => (fX7_of x1 (20 : Int32) (x2 + (1 : Int32)) M0).bind (fun v10 => (ix (1 : Int32) (ln 97)).bind (fun k11 => if (v8 - v9) ≤ (M0.1 97 k11) then fX7_isGust_J79 x1 x2 M0 (v8 - v9) (v8 - v10)
    else (ix (1 : Int32) (ln 97)).bind (fun k13 => if (M0.1 97 k13) < (v8 - v10) then some true
    else fX7_isGust_J79 x1 x2 M0 (v8 - v9) (v8 - v10))))))
    else some false)
def fX7_between (x0 : Int32) (x1 : Int32) (x2 : Int32) (x3 : Int32) (x4 : Int32) (M0 : wM) : Option Int32 :=
  (fX7_down (((x1 - x0).toInt64) * ((x2 - x3).toInt64)) ((x4 - x3).toInt64) M0).bind (fun v1 => some (x0 + v1.toInt32))
def fX7_hasBase_J131 (x1 : Int32) (bk2 : Int32 → wM → Option (Bool × wM)) (x2 : Int32) (x3 : Int32) (M0 : wM) : Option (Bool × wM) :=
  if x3 ≤ x1 then bk2 (x2 + (1 : Int32)) M0
    else some (false, M0)
def fX7_hasBase_B2 (x1 : Int32) (bk2 : Int32 → wM → Option (Bool × wM)) (x2 : Int32) (M0 : wM) : Option (Bool × wM) :=
  (ix (3 : Int32) (ln 97)).bind (fun k2 => if (M0.1 97 k2) ≤ x2 then some (false, M0)
    else (fX7_of (0 : Int32) (0 : Int32) x2 M0).bind (fun v4 => if v4 = x1 then (fX7_of (0 : Int32) (20 : Int32) x2 M0).bind (fun v15 => (fX7_of (0 : Int32) (40 : Int32) x2 (st M0 96 15 v15)).bind (fun v16 => some (true, (st (st M0 96 15 v15) 96 16 v16))))
    else if v4 ≤ x1 then fX7_hasBase_J131 x1 bk2 x2 v4 M0
    else if x2 ≤ (0 : Int32) then fX7_hasBase_J131 x1 bk2 x2 v4 M0
    else (fX7_of (0 : Int32) (0 : Int32) (x2 - (1 : Int32)) M0).bind (fun v8 => (fX7_of (0 : Int32) (20 : Int32) (x2 - (1 : Int32)) M0).bind (fun v9 => (fX7_of (0 : Int32) (20 : Int32) x2 M0).bind (fun v10 => (fX7_between v9 v10 x1 v8 v4 M0).bind (fun v11 => (fX7_of (0 : Int32) (40 : Int32) (x2 - (1 : Int32)) (st M0 96 15 v11)).bind (fun v12 => (fX7_of (0 : Int32) (40 : Int32) x2 (st M0 96 15 v11)).bind (fun v13 => (fX7_between v12 v13 x1 v8 v4 (st M0 96 15 v11)).bind (fun v14 => some (true, (st (st M0 96 15 v11) 96 16 v14)))))))))))
def fX7_hasBase_L2 (x1 : Int32)  : Nat → Int32 → wM → Option (Bool × wM)
  | 0 => fun _ _ => none
  | n + 1 => fX7_hasBase_B2 x1  (fX7_hasBase_L2 x1  n)
def fX7_hasBase (x1 : Int32) (M0 : wM) : Option (Bool × wM) :=
  fX7_hasBase_L2 x1 FU (0 : Int32) M0
def fX7_rawOf (x1 : Int32) (x2 : Int32) (M0 : wM) : Option Int32 :=
  (fX7_down (((M0.1 96 16) + x2).toInt64) (2 : Int64) M0).bind (fun v1 => (ix (0 : Int32) (ln 97)).bind (fun k2 => (dvI ((M0.1 96 15) + x1) (2 : Int32)).bind (fun v3 => (fX7_down (((2930 : Int64) * ((2732 : Int64) + v1)) * (((M0.1 96 15) - x1).toInt64)) v3.toInt64 M0).bind (fun v4 => some ((M0.1 97 k2) + v4.toInt32)))))
def fX7_looks_J134 (x1 : Int32) (bk7 : Int32 → wM → Option wM) (x2 : Int32) (x3 : Int32) (M0 : wM) : Option wM :=
  (ix x2 (ln 103)).bind (fun k1 => if (M0.1 103 k1) = (0 : Int32) then bk7 (x2 + (1 : Int32)) M0
    else if x3 < (0 : Int32) then bk7 (x2 + (1 : Int32)) M0
    else (ix (M0.1 96 14) (ln 104)).bind (fun k4 => (ix ((st M0 104 k4 x3).1 96 14) (ln 105)).bind (fun k5 => bk7 (x2 + (1 : Int32)) (st (st (st M0 104 k4 x3) 105 k5 x2) 96 14 (((st (st M0 104 k4 x3) 105 k5 x2).1 96 14) + (1 : Int32))))))
def fX7_looks_B96 (x1 : Int32) (bk7 : Int32 → wM → Option wM) (bk96 : Int32 → Int32 → wM → Option wM) (x2 : Int32) (x3 : Int32) (M0 : wM) : Option wM :=
  if x3 < (0 : Int32) then fX7_looks_J134 x1 bk7 x2 x3 M0
    else (ix x3 (ln 103)).bind (fun k7 => if (M0.1 103 k7) = (0 : Int32) then bk96 x2 (x3 + (-1 : Int32)) M0
    else (fX7_of x1 (60 : Int32) x3 M0).bind (fun v9 => (fX7_of x1 (60 : Int32) x2 M0).bind (fun v10 => if v9 = v10 then fX7_looks_J134 x1 bk7 x2 x3 M0
    else bk96 x2 (x3 + (-1 : Int32)) M0)))
def fX7_looks_L96 (x1 : Int32) (bk7 : Int32 → wM → Option wM) : Nat → Int32 → Int32 → wM → Option wM
  | 0 => fun _ _ _ => none
  | n + 1 => fX7_looks_B96 x1 bk7 (fX7_looks_L96 x1 bk7 n)
def fX7_looks_J91 (x1 : Int32) (bk7 : Int32 → wM → Option wM) (x2 : Int32) (s1 : Int32) (s2 : Int32) (M0 : wM) : Option wM :=
  (ix s1 (ln 102)).bind (fun k12 => fX7_looks_L96 x1 bk7 FU x2 (x2 - (1 : Int32)) (st M0 102 k12 s2))
def fX7_looks_J52 (x1 : Int32) (bk7 : Int32 → wM → Option wM) (x2 : Int32) (s1 : Int32) (s2 : Int32) (M0 : wM) : Option wM :=
  (ix s1 (ln 103)).bind (fun k13 => (ix x2 (ln 103)).bind (fun k14 => if (((st M0 103 k13 (vp_nar .boolean s2))).1 103 k14) = (0 : Int32) then fX7_looks_J91 x1 bk7 x2 x2 (0 : Int32) (st M0 103 k13 (vp_nar .boolean s2))
    else (fX7_of x1 (20 : Int32) x2 (st M0 103 k13 (vp_nar .boolean s2))).bind (fun v16 => (fX7_of x1 (40 : Int32) x2 (st M0 103 k13 (vp_nar .boolean s2))).bind (fun v17 => (fX7_rawOf v16 v17 (st M0 103 k13 (vp_nar .boolean s2))).bind (fun v18 => fX7_looks_J91 x1 bk7 x2 x2 v18 (st M0 103 k13 (vp_nar .boolean s2)))))))
def fX7_looks_B7 (x1 : Int32) (bk7 : Int32 → wM → Option wM) (x2 : Int32) (M0 : wM) : Option wM :=
  (ix ((3 : Int32) + x1) (ln 97)).bind (fun k19 => if (M0.1 97 k19) ≤ x2 then some M0
    else (fX7_isGust x1 x2 M0).bind (fun v21 => if (b2 v21) = (0 : Int32) then (fX7_of x1 (0 : Int32) x2 M0).bind (fun v23 => (fX7_hasBase v23 M0).bind (fun p24 => if (b2 p24.1) = (0 : Int32) then fX7_looks_J52 x1 bk7 x2 x2 (0 : Int32) p24.2
    else fX7_looks_J52 x1 bk7 x2 x2 (1 : Int32) p24.2))
    else fX7_looks_J52 x1 bk7 x2 x2 (0 : Int32) M0))
def fX7_looks_L7 (x1 : Int32)  : Nat → Int32 → wM → Option wM
  | 0 => fun _ _ => none
  | n + 1 => fX7_looks_B7 x1  (fX7_looks_L7 x1  n)
def fX7_looks (x1 : Int32) (M0 : wM) : Option wM :=
  fX7_looks_L7 x1 FU (0 : Int32) (st M0 96 14 (0 : Int32))
def fX7_reading_J39 (x1 : Int32) (x2 : Int32) (x3 : Int32)  (x4 : Int32) (M0 : wM) : Option (Int32 × wM) :=
  if x3 = (4 : Int32) then (fX7_isGust x4 x2 M0).bind (fun v7 => if (b2 v7) = (0 : Int32) then some ((0 : Int32), M0)
    else some ((1 : Int32), M0))
    else if x3 = (5 : Int32) then (fX7_looks x4 M0).bind (fun M4 => (ix x2 (ln 103)).bind (fun k5 => if (M4.1 103 k5) = (0 : Int32) then some ((0 : Int32), M4)
    else some ((1 : Int32), M4)))
    else (fX7_of x4 ((20 : Int32) * x3) x2 M0).bind (fun v3 => some (v3, M0))
def fX7_reading (x1 : Int32) (x2 : Int32) (x3 : Int32) (M0 : wM) : Option (Int32 × wM) :=
  (fX7_isReading x1 x2 M0).bind (fun v9 => if (b2 v9) = (0 : Int32) then some ((-2000000001 : Int32), M0)
    else (fX7_in x3 (0 : Int32) (5 : Int32) M0).bind (fun v11 => if (b2 v11) = (0 : Int32) then some ((-2000000001 : Int32), M0)
    else if (x1 + (1 : Int32)) = (0 : Int32) then if x3 ≤ (2 : Int32) then fX7_reading_J39 x1 x2 x3 (x1 + (1 : Int32)) M0
    else some ((-2000000004 : Int32), M0)
    else fX7_reading_J39 x1 x2 x3 (x1 + (1 : Int32)) M0))
def fX7_stepsTo_J58 (x1 : Int32) (M0 : wM) (bk4 : Int32 → Int32 → Option Int32) (x2 : Int32) (x3 : Int32) : Option Int32 :=
  if x2 = (0 : Int32) then some x3
    else bk4 (x2 + (-1 : Int32)) (x3 + (1 : Int32))
def fX7_stepsTo_B4 (x1 : Int32) (M0 : wM) (bk4 : Int32 → Int32 → Option Int32) (x2 : Int32) (x3 : Int32) : Option Int32 :=
  (ix (3 : Int32) (ln 97)).bind (fun k2 => if (M0.1 97 k2) ≤ x3 then some (-1 : Int32)
    else (fX7_of (0 : Int32) (40 : Int32) x3 M0).bind (fun v4 => (fX7_of (0 : Int32) (40 : Int32) (x3 - (1 : Int32)) M0).bind (fun v5 => (ix (2 : Int32) (ln 97)).bind (fun k6 => if (M0.1 97 k6) ≤ (v4 - v5) then fX7_stepsTo_J58 x1 M0 bk4 x2 x3
    else (ix (2 : Int32) (ln 97)).bind (fun k8 => if (-(M0.1 97 k8)) < (v4 - v5) then bk4 x2 (x3 + (1 : Int32))
    else fX7_stepsTo_J58 x1 M0 bk4 x2 x3)))))
def fX7_stepsTo_L4 (x1 : Int32) (M0 : wM)  : Nat → Int32 → Int32 → Option Int32
  | 0 => fun _ _ => none
  | n + 1 => fX7_stepsTo_B4 x1 M0  (fX7_stepsTo_L4 x1 M0  n)
def fX7_stepsTo (x1 : Int32) (M0 : wM) : Option Int32 :=
  fX7_stepsTo_L4 x1 M0 FU x1 (1 : Int32)
def fX7_steps_B2  (M0 : wM) (bk2 : Int32 → Option Int32) (x1 : Int32) : Option Int32 :=
  (fX7_stepsTo x1 M0).bind (fun v1 => if v1 = (-1 : Int32) then some x1
    else bk2 (x1 + (1 : Int32)))
def fX7_steps_L2  (M0 : wM)  : Nat → Int32 → Option Int32
  | 0 => fun _ => none
  | n + 1 => fX7_steps_B2  M0  (fX7_steps_L2  M0  n)
def fX7_steps  (M0 : wM) : Option Int32 :=
  fX7_steps_L2 M0 FU (0 : Int32)
def fX7_inAll_J61 (x1 : Int32) (bk4 : Int32 → Int32 → wM → Option (Int32 × wM)) (bk33 : Int32 → Int32 → Int32 → wM → Option (Int32 × wM)) (x3 : Int32) (x4 : Int32) (s0 : Int32) (M0 : wM) : Option (Int32 × wM) :=
  if x1 = (2 : Int32) then (ix x4 (ln 103)).bind (fun k2 => if (M0.1 103 k2) = (0 : Int32) then bk33 (s0 + (0 : Int32)) x3 (x4 + (1 : Int32)) M0
    else bk33 (s0 + (1 : Int32)) x3 (x4 + (1 : Int32)) M0)
    else bk33 (s0 + (0 : Int32)) x3 (x4 + (1 : Int32)) M0
def fX7_inAll_B33 (x1 : Int32) (bk4 : Int32 → Int32 → wM → Option (Int32 × wM)) (bk33 : Int32 → Int32 → Int32 → wM → Option (Int32 × wM)) (x2 : Int32) (x3 : Int32) (x4 : Int32) (M0 : wM) : Option (Int32 × wM) :=
  (ix ((3 : Int32) + x3) (ln 97)).bind (fun k4 => if (M0.1 97 k4) ≤ x4 then bk4 x2 (x3 + (1 : Int32)) M0
    else if x1 = (0 : Int32) then (fX7_isGust x3 x4 M0).bind (fun v7 => if (b2 v7) = (0 : Int32) then fX7_inAll_J61 x1 bk4 bk33 x3 x4 x2 M0
    else bk33 (x2 + (1 : Int32)) x3 (x4 + (1 : Int32)) M0)
    else fX7_inAll_J61 x1 bk4 bk33 x3 x4 x2 M0)
def fX7_inAll_L33 (x1 : Int32) (bk4 : Int32 → Int32 → wM → Option (Int32 × wM)) : Nat → Int32 → Int32 → Int32 → wM → Option (Int32 × wM)
  | 0 => fun _ _ _ _ => none
  | n + 1 => fX7_inAll_B33 x1 bk4 (fX7_inAll_L33 x1 bk4 n)
def fX7_inAll_B4 (x1 : Int32) (bk4 : Int32 → Int32 → wM → Option (Int32 × wM)) (x2 : Int32) (x3 : Int32) (M0 : wM) : Option (Int32 × wM) :=
  if (4 : Int32) ≤ x3 then some (x2, M0)
    else (fX7_looks x3 M0).bind (fun M10 => if x1 = (1 : Int32) then fX7_inAll_L33 x1 bk4 FU (x2 + (M10.1 96 14)) x3 (0 : Int32) M10
    else fX7_inAll_L33 x1 bk4 FU (x2 + (0 : Int32)) x3 (0 : Int32) M10)
def fX7_inAll_L4 (x1 : Int32)  : Nat → Int32 → Int32 → wM → Option (Int32 × wM)
  | 0 => fun _ _ _ => none
  | n + 1 => fX7_inAll_B4 x1  (fX7_inAll_L4 x1  n)
def fX7_inAll (x1 : Int32) (M0 : wM) : Option (Int32 × wM) :=
  fX7_inAll_L4 x1 FU (0 : Int32) (1 : Int32) M0
def fX7_timeOf (x1 : Int32) (x2 : Int32) (M0 : wM) : Option Int32 :=
  (ix x2 (ln 105)).bind (fun k1 => (fX7_of x1 (0 : Int32) (M0.1 105 k1) M0).bind (fun v2 => (ix x2 (ln 104)).bind (fun k3 => (fX7_of x1 (0 : Int32) (M0.1 104 k3) M0).bind (fun v4 => some (v2 - v4)))))
def fX7_open_J62 (x1 : Int32) (x2 : Int32) (M0 : wM) (bk5 : Int32 → Int32 → Option Int32) (x3 : Int32) (x4 : Int32) (s0 : Int32) : Option Int32 :=
  if s0 = (0 : Int32) then bk5 x3 (x4 + (1 : Int32))
    else bk5 x4 (x4 + (1 : Int32))
def fX7_open_B5 (x1 : Int32) (x2 : Int32) (M0 : wM) (bk5 : Int32 → Int32 → Option Int32) (x3 : Int32) (x4 : Int32) : Option Int32 :=
  if (M0.1 96 14) ≤ x4 then some x3
    else (ix x4 (ln 104)).bind (fun k3 => if x2 < (M0.1 104 k3) then fX7_open_J62 x1 x2 M0 bk5 x3 x4 (0 : Int32)
    else (ix x4 (ln 105)).bind (fun k5 => if (M0.1 105 k5) < x2 then fX7_open_J62 x1 x2 M0 bk5 x3 x4 (0 : Int32)
    else if x3 = (-1 : Int32) then fX7_open_J62 x1 x2 M0 bk5 x3 x4 (1 : Int32)
    else (fX7_timeOf x1 x4 M0).bind (fun v8 => (fX7_timeOf x1 x3 M0).bind (fun v9 => if v9 ≤ v8 then fX7_open_J62 x1 x2 M0 bk5 x3 x4 (0 : Int32)
    else fX7_open_J62 x1 x2 M0 bk5 x3 x4 (1 : Int32)))))
def fX7_open_L5 (x1 : Int32) (x2 : Int32) (M0 : wM)  : Nat → Int32 → Int32 → Option Int32
  | 0 => fun _ _ => none
  | n + 1 => fX7_open_B5 x1 x2 M0  (fX7_open_L5 x1 x2 M0  n)
def fX7_open (x1 : Int32) (x2 : Int32) (M0 : wM) : Option Int32 :=
  fX7_open_L5 x1 x2 M0 FU (-1 : Int32) (0 : Int32)
def fX7_correctedOf (x1 : Int32) (x2 : Int32) (M0 : wM) : Option Int32 :=
  (fX7_open x1 x2 M0).bind (fun v1 => if v1 = (-1 : Int32) then (ix x2 (ln 102)).bind (fun k13 => some (M0.1 102 k13))
    else (ix v1 (ln 105)).bind (fun k3 => (ix (M0.1 105 k3) (ln 102)).bind (fun k4 => (ix v1 (ln 104)).bind (fun k5 => (ix (M0.1 104 k5) (ln 102)).bind (fun k6 => (fX7_of x1 (0 : Int32) x2 M0).bind (fun v7 => (ix v1 (ln 104)).bind (fun k8 => (fX7_of x1 (0 : Int32) (M0.1 104 k8) M0).bind (fun v9 => (ix x2 (ln 102)).bind (fun k10 => (fX7_timeOf x1 v1 M0).bind (fun v11 => (fX7_down ((((M0.1 102 k4) - (M0.1 102 k6)).toInt64) * ((v7 - v9).toInt64)) v11.toInt64 M0).bind (fun v12 => some ((M0.1 102 k10) - v12.toInt32))))))))))))
def fX7_gives_J170 (x1 : Int32) (bk12 : Int32 → wM → Option wM) (bk24 : Int32 → Int32 → wM → Option wM) (x2 : Int32) (x3 : Int32) (s1 : Int32) (M0 : wM) : Option wM :=
  bk24 x2 (x3 + (1 : Int32)) (st (st M0 96 20 s1) 96 18 (((st M0 96 20 s1).1 96 18) + (1 : Int32)))
def fX7_gives_J141 (x1 : Int32) (bk12 : Int32 → wM → Option wM) (bk24 : Int32 → Int32 → wM → Option wM) (x2 : Int32) (x3 : Int32) (x5 : Int32) (s1 : Int32) (M0 : wM) : Option wM :=
  if ((st M0 96 19 s1).1 96 18) = (0 : Int32) then fX7_gives_J170 x1 bk12 bk24 x2 x3 x5 (st M0 96 19 s1)
    else if x5 ≤ ((st M0 96 19 s1).1 96 20) then fX7_gives_J170 x1 bk12 bk24 x2 x3 ((st M0 96 19 s1).1 96 20) (st M0 96 19 s1)
    else fX7_gives_J170 x1 bk12 bk24 x2 x3 x5 (st M0 96 19 s1)
def fX7_gives_J95 (x1 : Int32) (bk12 : Int32 → wM → Option wM) (bk24 : Int32 → Int32 → wM → Option wM) (x2 : Int32) (x3 : Int32) (M0 : wM) : Option wM :=
  (fX7_correctedOf x2 x3 M0).bind (fun v3 => if ((stL M0 96 ((M0.2 96) + v3.toInt64)).1 96 18) = (0 : Int32) then fX7_gives_J141 x1 bk12 bk24 x2 x3 v3 v3 (stL M0 96 ((M0.2 96) + v3.toInt64))
    else if ((stL M0 96 ((M0.2 96) + v3.toInt64)).1 96 19) ≤ v3 then fX7_gives_J141 x1 bk12 bk24 x2 x3 v3 ((stL M0 96 ((M0.2 96) + v3.toInt64)).1 96 19) (stL M0 96 ((M0.2 96) + v3.toInt64))
    else fX7_gives_J141 x1 bk12 bk24 x2 x3 v3 v3 (stL M0 96 ((M0.2 96) + v3.toInt64)))
def fX7_gives_J55 (x1 : Int32) (bk12 : Int32 → wM → Option wM) (bk24 : Int32 → Int32 → wM → Option wM) (x2 : Int32) (x3 : Int32) (s0 : Int32) (M0 : wM) : Option wM :=
  (ix x3 (ln 103)).bind (fun k6 => if (M0.1 103 k6) = (0 : Int32) then bk24 x2 (x3 + (1 : Int32)) M0
    else (fX7_of x2 (60 : Int32) x3 M0).bind (fun v8 => if v8 = x1 then if s0 = (-1 : Int32) then fX7_gives_J95 x1 bk12 bk24 x2 x3 M0
    else (ix s0 (ln 105)).bind (fun k11 => if (M0.1 105 k11) = x3 then bk24 x2 (x3 + (1 : Int32)) M0
    else fX7_gives_J95 x1 bk12 bk24 x2 x3 M0)
    else bk24 x2 (x3 + (1 : Int32)) M0))
def fX7_gives_B24 (x1 : Int32) (bk12 : Int32 → wM → Option wM) (bk24 : Int32 → Int32 → wM → Option wM) (x2 : Int32) (x3 : Int32) (M0 : wM) : Option wM :=
  (ix ((3 : Int32) + x2) (ln 97)).bind (fun k13 => if (M0.1 97 k13) ≤ x3 then bk12 (x2 + (1 : Int32)) M0
    else (ix x3 (ln 103)).bind (fun k15 => if (M0.1 103 k15) = (0 : Int32) then fX7_gives_J55 x1 bk12 bk24 x2 x3 (-1 : Int32) M0
    else (fX7_open x2 x3 M0).bind (fun v17 => fX7_gives_J55 x1 bk12 bk24 x2 x3 v17 M0)))
def fX7_gives_L24 (x1 : Int32) (bk12 : Int32 → wM → Option wM) : Nat → Int32 → Int32 → wM → Option wM
  | 0 => fun _ _ _ => none
  | n + 1 => fX7_gives_B24 x1 bk12 (fX7_gives_L24 x1 bk12 n)
def fX7_gives_B12 (x1 : Int32) (bk12 : Int32 → wM → Option wM) (x2 : Int32) (M0 : wM) : Option wM :=
  if (4 : Int32) ≤ x2 then some M0
    else (fX7_looks x2 M0).bind (fun M19 => fX7_gives_L24 x1 bk12 FU x2 (0 : Int32) M19)
def fX7_gives_L12 (x1 : Int32)  : Nat → Int32 → wM → Option wM
  | 0 => fun _ _ => none
  | n + 1 => fX7_gives_B12 x1  (fX7_gives_L12 x1  n)
def fX7_gives (x1 : Int32) (M0 : wM) : Option wM :=
  fX7_gives_L12 x1 FU (1 : Int32) (st (stL M0 96 (0 : Int64)) 96 18 (0 : Int32))
def fX7_heights_B4  (bk4 : Int32 → Int32 → wM → Option (Int32 × wM)) (x1 : Int32) (x2 : Int32) (M0 : wM) : Option (Int32 × wM) :=
  if (10 : Int32) ≤ x2 then some (x1, M0)
    else (fX7_gives x2 M0).bind (fun M2 => if (M2.1 96 18) ≤ (0 : Int32) then bk4 (x1 + (0 : Int32)) (x2 + (1 : Int32)) M2
    else bk4 (x1 + (1 : Int32)) (x2 + (1 : Int32)) M2)
def fX7_heights_L4   : Nat → Int32 → Int32 → wM → Option (Int32 × wM)
  | 0 => fun _ _ _ => none
  | n + 1 => fX7_heights_B4   (fX7_heights_L4   n)
def fX7_heights  (M0 : wM) : Option (Int32 × wM) :=
  fX7_heights_L4 FU (0 : Int32) (0 : Int32) M0
def fX7_count_J113 (x1 : Int32)   (M0 : wM) : Option (Int32 × wM) :=
  (ix (x1 - (10 : Int32)) (ln 97)).bind (fun k1 => some (M0.1 97 k1, M0))
def fX7_count_J72 (x1 : Int32)   (M0 : wM) : Option (Int32 × wM) :=
  (ix ((3 : Int32) + x1) (ln 97)).bind (fun k2 => some (M0.1 97 k2, M0))
def fX7_count (x1 : Int32) (M0 : wM) : Option (Int32 × wM) :=
  if x1 = (0 : Int32) then fX7_count_J72 x1 M0
    else if x1 = (1 : Int32) then fX7_count_J72 x1 M0
    else if x1 = (2 : Int32) then fX7_count_J72 x1 M0
    else if x1 = (3 : Int32) then fX7_count_J72 x1 M0
    else if x1 = (4 : Int32) then (fX7_inAll (0 : Int32) M0).bind (fun p8 => some (p8.1, p8.2))
    else if x1 = (5 : Int32) then (fX7_inAll (1 : Int32) M0).bind (fun p10 => some (p10.1, p10.2))
    else if x1 = (6 : Int32) then (fX7_steps M0).bind (fun v12 => some (v12, M0))
    else if x1 = (7 : Int32) then (fX7_heights M0).bind (fun p14 => some (p14.1, p14.2))
    else if x1 = (8 : Int32) then some (M0.1 96 2, M0)
    else if x1 = (9 : Int32) then some (M0.1 96 5, M0)
    else if x1 = (10 : Int32) then fX7_count_J113 x1 M0
    else if x1 = (11 : Int32) then fX7_count_J113 x1 M0
    else if x1 = (12 : Int32) then fX7_count_J113 x1 M0
    else if x1 = (13 : Int32) then (fX7_inAll (2 : Int32) M0).bind (fun p21 => some (p21.1, p21.2))
    else some ((-2000000001 : Int32), M0)
def fX7_undo_B22  (bk22 : Int32 → wM → Option (Int32 × wM)) (x1 : Int32) (M0 : wM) : Option (Int32 × wM) :=
  if (327 : Int32) ≤ x1 then some (M0.1 96 2, M0)
    else (ix (((327 : Int32) * (M0.1 96 2)) + x1) (ln 98)).bind (fun k2 => (ix x1 (ln 97)).bind (fun k3 => bk22 (x1 + (1 : Int32)) (st M0 97 k3 (M0.1 98 k2))))
def fX7_undo_L22   : Nat → Int32 → wM → Option (Int32 × wM)
  | 0 => fun _ _ => none
  | n + 1 => fX7_undo_B22   (fX7_undo_L22   n)
def fX7_undo  (M0 : wM) : Option (Int32 × wM) :=
  if (M0.1 96 2) = (0 : Int32) then some ((-2000000002 : Int32), M0)
    else fX7_undo_L22 FU (0 : Int32) (st M0 96 2 ((M0.1 96 2) - (1 : Int32)))
def fX7_baseAt (x1 : Int32) (x2 : Int32) (M0 : wM) : Option (Int32 × wM) :=
  (fX7_in x1 (0 : Int32) (10000 : Int32) M0).bind (fun v1 => if (b2 v1) = (0 : Int32) then some ((-2000000001 : Int32), M0)
    else (fX7_in x2 (0 : Int32) (1 : Int32) M0).bind (fun v3 => if (b2 v3) = (0 : Int32) then some ((-2000000001 : Int32), M0)
    else (fX7_hasBase x1 M0).bind (fun p5 => if (b2 p5.1) = (0 : Int32) then some ((-2000000004 : Int32), p5.2)
    else if x2 = (0 : Int32) then some (p5.2.1 96 15, p5.2)
    else some (p5.2.1 96 16, p5.2))))
def fX7_step_J13 (x1 : Int32) (M0 : wM)  (s0 : Int32) : Option Int32 :=
  if s0 = (-1 : Int32) then some (-2000000001 : Int32)
    else some s0
def fX7_step (x1 : Int32) (M0 : wM) : Option Int32 :=
  if (0 : Int32) ≤ x1 then (fX7_stepsTo x1 M0).bind (fun v3 => fX7_step_J13 x1 M0 v3)
    else fX7_step_J13 x1 M0 (-1 : Int32)
def fX7_raw (x1 : Int32) (x2 : Int32) (M0 : wM) : Option (Int32 × wM) :=
  (fX7_isCell x1 M0).bind (fun v1 => if (b2 v1) = (0 : Int32) then some ((-2000000001 : Int32), M0)
    else (fX7_isReading x1 x2 M0).bind (fun v3 => if (b2 v3) = (0 : Int32) then some ((-2000000001 : Int32), M0)
    else (fX7_of (x1 + (1 : Int32)) (0 : Int32) x2 M0).bind (fun v5 => (fX7_hasBase v5 M0).bind (fun p6 => if (b2 p6.1) = (0 : Int32) then some ((-2000000004 : Int32), p6.2)
    else (fX7_of (x1 + (1 : Int32)) (20 : Int32) x2 p6.2).bind (fun v8 => (fX7_of (x1 + (1 : Int32)) (40 : Int32) x2 p6.2).bind (fun v9 => (fX7_rawOf v8 v9 p6.2).bind (fun v10 => some (v10, p6.2))))))))
def fX7_would (x1 : Int32) (x2 : Int32) (x3 : Int32) (M0 : wM) : Option (Int32 × wM) :=
  (fX7_areValues x1 x2 x3 M0).bind (fun v1 => if (b2 v1) = (0 : Int32) then some ((-2000000001 : Int32), M0)
    else (fX7_hasBase x1 M0).bind (fun p3 => if (b2 p3.1) = (0 : Int32) then some ((-2000000004 : Int32), p3.2)
    else (fX7_rawOf x2 x3 p3.2).bind (fun v5 => some (v5, p3.2))))
def fX7_pressureFor_B53 (x1 : Int32) (x2 : Int32) (x3 : Int32) (bk53 : Int32 → wM → Option (Int32 × wM)) (x4 : Int32) (M0 : wM) : Option (Int32 × wM) :=
  if x4 < (50000 : Int32) then some ((-2000000004 : Int32), M0)
    else (fX7_rawOf x4 x2 M0).bind (fun v2 => if v2 < x3 then bk53 (x4 + (-1 : Int32)) M0
    else some (x4, M0))
def fX7_pressureFor_L53 (x1 : Int32) (x2 : Int32) (x3 : Int32)  : Nat → Int32 → wM → Option (Int32 × wM)
  | 0 => fun _ _ => none
  | n + 1 => fX7_pressureFor_B53 x1 x2 x3  (fX7_pressureFor_L53 x1 x2 x3  n)
def fX7_pressureFor (x1 : Int32) (x2 : Int32) (x3 : Int32) (M0 : wM) : Option (Int32 × wM) :=
  (fX7_in x1 (0 : Int32) (10000 : Int32) M0).bind (fun v4 => if (b2 v4) = (0 : Int32) then some ((-2000000001 : Int32), M0)
    else (fX7_in x2 (-300 : Int32) (500 : Int32) M0).bind (fun v6 => if (b2 v6) = (0 : Int32) then some ((-2000000001 : Int32), M0)
    else (fX7_in x3 (-1000000 : Int32) (10000000 : Int32) M0).bind (fun v8 => if (b2 v8) = (0 : Int32) then some ((-2000000001 : Int32), M0)
    else (fX7_hasBase x1 M0).bind (fun p10 => if (b2 p10.1) = (0 : Int32) then some ((-2000000004 : Int32), p10.2)
    else fX7_pressureFor_L53 x1 x2 x3 FU (110000 : Int32) p10.2))))
def fX7_loops (x1 : Int32) (M0 : wM) : Option (Int32 × wM) :=
  (fX7_isCell x1 M0).bind (fun v1 => if (b2 v1) = (0 : Int32) then some ((-2000000001 : Int32), M0)
    else (fX7_looks (x1 + (1 : Int32)) M0).bind (fun M3 => some (M3.1 96 14, M3)))
def fX7_bySteps_B19 (x1 : Int32) (M0 : wM) (bk19 : Int32 → Int32 → Int32 → Option Int32) (x2 : Int32) (x3 : Int32) (x4 : Int32) : Option Int32 :=
  (ix x1 (ln 105)).bind (fun k1 => if (M0.1 105 k1) < x4 then some x2
    else (ix x4 (ln 103)).bind (fun k3 => if (M0.1 103 k3) = (0 : Int32) then bk19 x2 x3 (x4 + (1 : Int32))
    else (ix x4 (ln 102)).bind (fun k5 => (ix x3 (ln 102)).bind (fun k6 => bk19 (x2 + ((M0.1 102 k5) - (M0.1 102 k6))) x4 (x4 + (1 : Int32))))))
def fX7_bySteps_L19 (x1 : Int32) (M0 : wM)  : Nat → Int32 → Int32 → Int32 → Option Int32
  | 0 => fun _ _ _ => none
  | n + 1 => fX7_bySteps_B19 x1 M0  (fX7_bySteps_L19 x1 M0  n)
def fX7_bySteps (x1 : Int32) (M0 : wM) : Option Int32 :=
  (ix x1 (ln 104)).bind (fun k7 => (ix x1 (ln 104)).bind (fun k8 => fX7_bySteps_L19 x1 M0 FU (0 : Int32) (M0.1 104 k7) ((M0.1 104 k8) + (1 : Int32))))
def fX7_loop (x1 : Int32) (x2 : Int32) (x3 : Int32) (M0 : wM) : Option (Int32 × wM) :=
  (fX7_isCell x1 M0).bind (fun v1 => if (b2 v1) = (0 : Int32) then some ((-2000000001 : Int32), M0)
    else (fX7_in x3 (0 : Int32) (4 : Int32) M0).bind (fun v3 => if (b2 v3) = (0 : Int32) then some ((-2000000001 : Int32), M0)
    else (fX7_looks (x1 + (1 : Int32)) M0).bind (fun M5 => (fX7_in x2 (0 : Int32) ((M5.1 96 14) - (1 : Int32)) M5).bind (fun v6 => if (b2 v6) = (0 : Int32) then some ((-2000000001 : Int32), M5)
    else if x3 = (0 : Int32) then (ix x2 (ln 104)).bind (fun k9 => some (M5.1 104 k9, M5))
    else if x3 = (1 : Int32) then (ix x2 (ln 105)).bind (fun k11 => some (M5.1 105 k11, M5))
    else if x3 = (2 : Int32) then (ix x2 (ln 105)).bind (fun k13 => (ix (M5.1 105 k13) (ln 102)).bind (fun k14 => (ix x2 (ln 104)).bind (fun k15 => (ix (M5.1 104 k15) (ln 102)).bind (fun k16 => some ((M5.1 102 k14) - (M5.1 102 k16), M5)))))
    else if x3 = (3 : Int32) then (fX7_bySteps x2 M5).bind (fun v18 => some (v18, M5))
    else (fX7_timeOf (x1 + (1 : Int32)) x2 M5).bind (fun v19 => some (v19, M5))))))
def fX7_openLoop_J47 (x1 : Int32) (x2 : Int32)  (s0 : Int32) (M0 : wM) : Option (Int32 × wM) :=
  if s0 = (-1 : Int32) then some ((-2000000004 : Int32), M0)
    else some (s0, M0)
def fX7_openLoop (x1 : Int32) (x2 : Int32) (M0 : wM) : Option (Int32 × wM) :=
  (fX7_isCell x1 M0).bind (fun v2 => if (b2 v2) = (0 : Int32) then some ((-2000000001 : Int32), M0)
    else (fX7_isReading x1 x2 M0).bind (fun v4 => if (b2 v4) = (0 : Int32) then some ((-2000000001 : Int32), M0)
    else (fX7_looks (x1 + (1 : Int32)) M0).bind (fun M6 => (ix x2 (ln 103)).bind (fun k7 => if (M6.1 103 k7) = (0 : Int32) then fX7_openLoop_J47 x1 x2 (-1 : Int32) M6
    else (fX7_open (x1 + (1 : Int32)) x2 M6).bind (fun v9 => fX7_openLoop_J47 x1 x2 v9 M6)))))
def fX7_corrected (x1 : Int32) (x2 : Int32) (M0 : wM) : Option (Int32 × wM) :=
  (fX7_isCell x1 M0).bind (fun v1 => if (b2 v1) = (0 : Int32) then some ((-2000000001 : Int32), M0)
    else (fX7_isReading x1 x2 M0).bind (fun v3 => if (b2 v3) = (0 : Int32) then some ((-2000000001 : Int32), M0)
    else (fX7_looks (x1 + (1 : Int32)) M0).bind (fun M5 => (ix x2 (ln 103)).bind (fun k6 => if (M5.1 103 k6) = (0 : Int32) then some ((-2000000004 : Int32), M5)
    else (fX7_correctedOf (x1 + (1 : Int32)) x2 M5).bind (fun v8 => some (v8, M5))))))
def fX7_point (x1 : Int32) (x2 : Int32) (M0 : wM) : Option (Int32 × wM) :=
  (fX7_in x1 (0 : Int32) (9 : Int32) M0).bind (fun v1 => if (b2 v1) = (0 : Int32) then some ((-2000000001 : Int32), M0)
    else (fX7_in x2 (0 : Int32) (2 : Int32) M0).bind (fun v3 => if (b2 v3) = (0 : Int32) then some ((-2000000001 : Int32), M0)
    else (fX7_gives x1 M0).bind (fun M5 => if x2 = (2 : Int32) then some (M5.1 96 18, M5)
    else if (M5.1 96 18) = (0 : Int32) then some ((-2000000004 : Int32), M5)
    else if x2 = (0 : Int32) then (fX7_down (M5.2 96) ((M5.1 96 18).toInt64) M5).bind (fun v9 => some (v9.toInt32, M5))
    else some ((M5.1 96 20) - (M5.1 96 19), M5))))
def fX7_worst_J105 (x1 : Int32) (bk19 : Int32 → Int32 → Int32 → wM → Option (Int32 × wM)) (bk34 : Int32 → Int32 → Int32 → Int32 → wM → Option (Int32 × wM)) (x3 : Int32) (x4 : Int32) (x5 : Int32) (x6 : Int32) (s0 : Int32) (M0 : wM) : Option (Int32 × wM) :=
  if x6 ≤ x3 then bk34 s0 x3 x4 (x5 + (1 : Int32)) M0
    else bk34 s0 x6 x4 (x5 + (1 : Int32)) M0
def fX7_worst_J83 (x1 : Int32) (bk19 : Int32 → Int32 → Int32 → wM → Option (Int32 × wM)) (bk34 : Int32 → Int32 → Int32 → Int32 → wM → Option (Int32 × wM)) (x2 : Int32) (x3 : Int32) (x4 : Int32) (x5 : Int32) (s0 : Int32) (M0 : wM) : Option (Int32 × wM) :=
  if s0 ≤ x3 then fX7_worst_J105 x1 bk19 bk34 x3 x4 x5 s0 x2 M0
    else fX7_worst_J105 x1 bk19 bk34 x3 x4 x5 s0 (((20 : Int32) * (x4 - (1 : Int32))) + x5) M0
def fX7_worst_B34 (x1 : Int32) (bk19 : Int32 → Int32 → Int32 → wM → Option (Int32 × wM)) (bk34 : Int32 → Int32 → Int32 → Int32 → wM → Option (Int32 × wM)) (x2 : Int32) (x3 : Int32) (x4 : Int32) (x5 : Int32) (M0 : wM) : Option (Int32 × wM) :=
  if (M0.1 96 14) ≤ x5 then bk19 x2 x3 (x4 + (1 : Int32)) M0
    else (ix x5 (ln 105)).bind (fun k4 => (ix (M0.1 105 k4) (ln 102)).bind (fun k5 => (ix x5 (ln 104)).bind (fun k6 => (ix (M0.1 104 k6) (ln 102)).bind (fun k7 => if (0 : Int32) ≤ ((M0.1 102 k5) - (M0.1 102 k7)) then fX7_worst_J83 x1 bk19 bk34 x2 x3 x4 x5 ((M0.1 102 k5) - (M0.1 102 k7)) M0
    else fX7_worst_J83 x1 bk19 bk34 x2 x3 x4 x5 (-((M0.1 102 k5) - (M0.1 102 k7))) M0))))
def fX7_worst_L34 (x1 : Int32) (bk19 : Int32 → Int32 → Int32 → wM → Option (Int32 × wM)) : Nat → Int32 → Int32 → Int32 → Int32 → wM → Option (Int32 × wM)
  | 0 => fun _ _ _ _ _ => none
  | n + 1 => fX7_worst_B34 x1 bk19 (fX7_worst_L34 x1 bk19 n)
def fX7_worst_B19 (x1 : Int32) (bk19 : Int32 → Int32 → Int32 → wM → Option (Int32 × wM)) (x2 : Int32) (x3 : Int32) (x4 : Int32) (M0 : wM) : Option (Int32 × wM) :=
  if (4 : Int32) ≤ x4 then if x2 = (-1 : Int32) then some ((-2000000004 : Int32), M0)
    else if x1 = (0 : Int32) then (dvI x2 (20 : Int32)).bind (fun v13 => some (v13, M0))
    else (rmI x2 (20 : Int32)).bind (fun v12 => some (v12, M0))
    else (fX7_looks x4 M0).bind (fun M14 => fX7_worst_L34 x1 bk19 FU x2 x3 x4 (0 : Int32) M14)
def fX7_worst_L19 (x1 : Int32)  : Nat → Int32 → Int32 → Int32 → wM → Option (Int32 × wM)
  | 0 => fun _ _ _ _ => none
  | n + 1 => fX7_worst_B19 x1  (fX7_worst_L19 x1  n)
def fX7_worst (x1 : Int32) (M0 : wM) : Option (Int32 × wM) :=
  (fX7_in x1 (0 : Int32) (1 : Int32) M0).bind (fun v15 => if (b2 v15) = (0 : Int32) then some ((-2000000001 : Int32), M0)
    else fX7_worst_L19 x1 FU (-1 : Int32) (-1 : Int32) (1 : Int32) M0)
def fX7_type (x1 : Int32) (M0 : wM) : Option (Int32 × wM) :=
  (fX7_in x1 (32 : Int32) (126 : Int32) M0).bind (fun v1 => if (b2 v1) = (0 : Int32) then some ((-2000000001 : Int32), M0)
    else if (M0.1 96 5) = (100 : Int32) then some ((-2000000003 : Int32), M0)
    else (ix (M0.1 96 5) (ln 100)).bind (fun k4 => some ((st (st M0 100 k4 (vp_nar .char ((x1.toUInt32 % 65536).toInt32))) 96 5 (((st M0 100 k4 (vp_nar .char ((x1.toUInt32 % 65536).toInt32))).1 96 5) + (1 : Int32))).1 96 5, (st (st M0 100 k4 (vp_nar .char ((x1.toUInt32 % 65536).toInt32))) 96 5 (((st M0 100 k4 (vp_nar .char ((x1.toUInt32 % 65536).toInt32))).1 96 5) + (1 : Int32))))))
def fX7_clearText  (M0 : wM) : Option (Int32 × wM) :=
  some (M0.1 96 5, (st M0 96 5 (0 : Int32)))
def fX7_passes_J44 (x1 : Int32)  (x2 : Int32) (s1 : Int32) (s2 : Int32) (M0 : wM) : Option (Bool × wM) :=
  (bz x2).bind (fun b1 => some (b1, (st M0 96 6 (s1 + s2))))
def fX7_passes_J29 (x1 : Int32)  (s0 : Int32) (M0 : wM) : Option (Bool × wM) :=
  if s0 = (0 : Int32) then fX7_passes_J44 x1 s0 (M0.1 96 6) (0 : Int32) M0
    else fX7_passes_J44 x1 s0 (M0.1 96 6) (1 : Int32) M0
def fX7_passes (x1 : Int32) (M0 : wM) : Option (Bool × wM) :=
  if (M0.1 96 5) ≤ (M0.1 96 6) then fX7_passes_J29 x1 (0 : Int32) M0
    else (ix (M0.1 96 6) (ln 100)).bind (fun k4 => if (M0.1 100 k4) = x1 then fX7_passes_J29 x1 (1 : Int32) M0
    else fX7_passes_J29 x1 (0 : Int32) M0)
def fX7_number_J78 (x1 : Int32)  (x2 : Int32) (x3 : Int32) (M0 : wM) : Option (Int32 × wM) :=
  if (M0.1 96 6) ≤ x2 then some ((-1 : Int32), M0)
    else some (x3, M0)
def fX7_number_B7 (x1 : Int32) (bk7 : Int32 → Int32 → wM → Option (Int32 × wM)) (x2 : Int32) (x3 : Int32) (M0 : wM) : Option (Int32 × wM) :=
  if (M0.1 96 5) ≤ (M0.1 96 6) then fX7_number_J78 x1 x2 x3 M0
    else if (x2 + x1) ≤ (M0.1 96 6) then fX7_number_J78 x1 x2 x3 M0
    else (ix (M0.1 96 6) (ln 100)).bind (fun k4 => (fX7_in (M0.1 100 k4) (48 : Int32) (57 : Int32) M0).bind (fun v5 => if (b2 v5) = (0 : Int32) then fX7_number_J78 x1 x2 x3 M0
    else (ix (M0.1 96 6) (ln 100)).bind (fun k7 => bk7 x2 ((((10 : Int32) * x3) + (M0.1 100 k7)) - (48 : Int32)) (st M0 96 6 ((M0.1 96 6) + (1 : Int32))))))
def fX7_number_L7 (x1 : Int32)  : Nat → Int32 → Int32 → wM → Option (Int32 × wM)
  | 0 => fun _ _ _ => none
  | n + 1 => fX7_number_B7 x1  (fX7_number_L7 x1  n)
def fX7_number (x1 : Int32) (M0 : wM) : Option (Int32 × wM) :=
  fX7_number_L7 x1 FU (M0.1 96 6) (0 : Int32) M0
def fX7_readsForm_J191   (x2 : Int32) (s1 : Int32) (s2 : Int32) (M0 : wM) : Option (Bool × wM) :=
  (ix s1 (ln 101)).bind (fun k1 => if x2 < (0 : Int32) then some (false, (st M0 101 k1 s2))
    else (fX7_passes (59 : Int32) (st M0 101 k1 s2)).bind (fun p3 => if (b2 p3.1) = (0 : Int32) then some (false, p3.2)
    else some (true, p3.2)))
def fX7_readsForm_J142   (s1 : Int32) (s2 : Int32) (M0 : wM) : Option (Bool × wM) :=
  (ix s1 (ln 101)).bind (fun k5 => (ix (1 : Int32) (ln 101)).bind (fun k6 => if (((st M0 101 k5 s2)).1 101 k6) < (0 : Int32) then some (false, (st M0 101 k5 s2))
    else (fX7_passes (99 : Int32) (st M0 101 k5 s2)).bind (fun p8 => if (b2 p8.1) = (0 : Int32) then some (false, p8.2)
    else (fX7_passes (45 : Int32) p8.2).bind (fun p10 => (fX7_number (3 : Int32) p10.2).bind (fun p11 => if (b2 p10.1) = (0 : Int32) then fX7_readsForm_J191 p11.1 (2 : Int32) p11.1 p11.2
    else fX7_readsForm_J191 p11.1 (2 : Int32) (-p11.1) p11.2)))))
def fX7_readsForm_J108   (s1 : Int32) (s2 : Int32) (M0 : wM) : Option (Bool × wM) :=
  (ix s1 (ln 101)).bind (fun k13 => (ix (0 : Int32) (ln 101)).bind (fun k14 => if (((st M0 101 k13 s2)).1 101 k14) < (0 : Int32) then fX7_readsForm_J142 (1 : Int32) (-1 : Int32) (st M0 101 k13 s2)
    else (fX7_passes (112 : Int32) (st M0 101 k13 s2)).bind (fun p16 => if (b2 p16.1) = (0 : Int32) then fX7_readsForm_J142 (1 : Int32) (-1 : Int32) p16.2
    else (fX7_number (6 : Int32) p16.2).bind (fun p18 => fX7_readsForm_J142 (1 : Int32) p18.1 p18.2))))
def fX7_readsForm_J85    (M0 : wM) : Option (Bool × wM) :=
  (fX7_passes (116 : Int32) M0).bind (fun p19 => if (b2 p19.1) = (0 : Int32) then fX7_readsForm_J108 (0 : Int32) (-1 : Int32) p19.2
    else (fX7_number (5 : Int32) p19.2).bind (fun p21 => fX7_readsForm_J108 (0 : Int32) p21.1 p21.2))
def fX7_readsForm_J62   (s1 : Int32) (s2 : Int32) (M0 : wM) : Option (Bool × wM) :=
  (ix s1 (ln 101)).bind (fun k22 => (ix (3 : Int32) (ln 101)).bind (fun k23 => if (0 : Int32) ≤ (((st M0 101 k22 s2)).1 101 k23) then fX7_readsForm_J85 (st M0 101 k22 s2)
    else some (false, (st M0 101 k22 s2))))
def fX7_readsForm  (M0 : wM) : Option (Bool × wM) :=
  (ix (3 : Int32) (ln 101)).bind (fun k25 => (fX7_passes (99 : Int32) (st (st M0 96 8 (0 : Int32)) 101 k25 (0 : Int32))).bind (fun p26 => if (b2 p26.1) = (0 : Int32) then (fX7_passes (98 : Int32) p26.2).bind (fun p28 => if (b2 p28.1) = (0 : Int32) then some (false, p28.2)
    else fX7_readsForm_J85 p28.2)
    else (fX7_number (1 : Int32) p26.2).bind (fun p30 => if ((st p30.2 96 8 (p30.1 + (1 : Int32))).1 96 8) ≤ (0 : Int32) then fX7_readsForm_J62 (3 : Int32) (-1 : Int32) (st p30.2 96 8 (p30.1 + (1 : Int32)))
    else (fX7_passes (64 : Int32) (st p30.2 96 8 (p30.1 + (1 : Int32)))).bind (fun p32 => if (b2 p32.1) = (0 : Int32) then fX7_readsForm_J62 (3 : Int32) (-1 : Int32) p32.2
    else (fX7_number (1 : Int32) p32.2).bind (fun p34 => fX7_readsForm_J62 (3 : Int32) p34.1 p34.2)))))
def fX7_entersOne  (M0 : wM) : Option (Int32 × wM) :=
  (fX7_readsForm M0).bind (fun p1 => if (b2 p1.1) = (0 : Int32) then some ((1 : Int32), p1.2)
    else if (3 : Int32) < (p1.2.1 96 8) then some ((2 : Int32), p1.2)
    else (ix (0 : Int32) (ln 101)).bind (fun k4 => (ix (1 : Int32) (ln 101)).bind (fun k5 => (ix (2 : Int32) (ln 101)).bind (fun k6 => (fX7_areValues ((p1.2).1 101 k4) ((p1.2).1 101 k5) ((p1.2).1 101 k6) p1.2).bind (fun v7 => if (b2 v7) = (0 : Int32) then some ((2 : Int32), p1.2)
    else (ix (0 : Int32) (ln 101)).bind (fun k9 => (fX7_isTaken (p1.2.1 96 8) ((p1.2).1 101 k9) p1.2).bind (fun v10 => if (b2 v10) = (0 : Int32) then (fX7_isFull (p1.2.1 96 8) p1.2).bind (fun v12 => if (b2 v12) = (0 : Int32) then (ix (0 : Int32) (ln 101)).bind (fun k14 => (ix (1 : Int32) (ln 101)).bind (fun k15 => (ix (2 : Int32) (ln 101)).bind (fun k16 => (ix (3 : Int32) (ln 101)).bind (fun k17 => (fX7_puts (p1.2.1 96 8) ((p1.2).1 101 k14) ((p1.2).1 101 k15) ((p1.2).1 101 k16) ((p1.2).1 101 k17) p1.2).bind (fun p18 => some ((0 : Int32), p18.2))))))
    else some ((4 : Int32), p1.2))
    else some ((3 : Int32), p1.2))))))))
def fX7_faulty_B83  (bk83 : Int32 → Int32 → wM → Option (Int32 × wM)) (x1 : Int32) (x2 : Int32) (M0 : wM) : Option (Int32 × wM) :=
  if (327 : Int32) ≤ x2 then some (x1, M0)
    else (ix x2 (ln 99)).bind (fun k2 => (ix x2 (ln 97)).bind (fun k3 => bk83 x1 (x2 + (1 : Int32)) (st M0 97 k3 (M0.1 99 k2))))
def fX7_faulty_L83   : Nat → Int32 → Int32 → wM → Option (Int32 × wM)
  | 0 => fun _ _ _ => none
  | n + 1 => fX7_faulty_B83   (fX7_faulty_L83   n)
def fX7_faulty_B35  (bk35 : Int32 → wM → Option (Int32 × wM)) (x1 : Int32) (M0 : wM) : Option (Int32 × wM) :=
  if (M0.1 96 5) ≤ (M0.1 96 6) then fX7_faulty_L83 FU x1 (0 : Int32) M0
    else if x1 = (-2000000004 : Int32) then (fX7_entersOne M0).bind (fun p6 => if ((st p6.2 96 7 p6.1).1 96 7) ≤ (0 : Int32) then bk35 x1 (st p6.2 96 7 p6.1)
    else bk35 (M0.1 96 6) (st p6.2 96 7 p6.1))
    else fX7_faulty_L83 FU x1 (0 : Int32) M0
def fX7_faulty_L35   : Nat → Int32 → wM → Option (Int32 × wM)
  | 0 => fun _ _ => none
  | n + 1 => fX7_faulty_B35   (fX7_faulty_L35   n)
def fX7_faulty_B2  (bk2 : Int32 → wM → Option (Int32 × wM)) (x1 : Int32) (M0 : wM) : Option (Int32 × wM) :=
  if (327 : Int32) ≤ x1 then fX7_faulty_L35 FU (-2000000004 : Int32) (st M0 96 6 (0 : Int32))
    else (ix x1 (ln 97)).bind (fun k9 => (ix x1 (ln 99)).bind (fun k10 => bk2 (x1 + (1 : Int32)) (st M0 99 k10 (M0.1 97 k9))))
def fX7_faulty_L2   : Nat → Int32 → wM → Option (Int32 × wM)
  | 0 => fun _ _ => none
  | n + 1 => fX7_faulty_B2   (fX7_faulty_L2   n)
def fX7_faulty  (M0 : wM) : Option (Int32 × wM) :=
  fX7_faulty_L2 FU (0 : Int32) M0
def fX7_fault (x1 : Int32) (M0 : wM) : Option (Int32 × wM) :=
  (fX7_in x1 (0 : Int32) (1 : Int32) M0).bind (fun v1 => if (b2 v1) = (0 : Int32) then some ((-2000000001 : Int32), M0)
    else (fX7_faulty M0).bind (fun p3 => if p3.1 = (-2000000004 : Int32) then some (p3.1, p3.2)
    else if x1 = (0 : Int32) then some (p3.1, p3.2)
    else some (p3.2.1 96 7, p3.2)))
def fX7_enter_B23  (bk23 : Int32 → wM → Option (Int32 × wM)) (x1 : Int32) (M0 : wM) : Option (Int32 × wM) :=
  if (M0.1 96 5) ≤ (M0.1 96 6) then some (x1, M0)
    else (fX7_entersOne M0).bind (fun p2 => bk23 (x1 + (1 : Int32)) p2.2)
def fX7_enter_L23   : Nat → Int32 → wM → Option (Int32 × wM)
  | 0 => fun _ _ => none
  | n + 1 => fX7_enter_B23   (fX7_enter_L23   n)
def fX7_enter  (M0 : wM) : Option (Int32 × wM) :=
  (fX7_faulty M0).bind (fun p3 => if p3.1 = (-2000000004 : Int32) then (fX7_records p3.2).bind (fun M5 => fX7_enter_L23 FU (0 : Int32) (st M5 96 6 (0 : Int32)))
    else some ((-2000000002 : Int32), p3.2))
