/-! the methods as functions of the world's ints and longs (written by program from the bytecode) -/
def fX0_place (i : Nat) (x1 : Int32) (M0 : wM) : Option Nat :=
  (rmI ((M0.1 i 1) + x1) (5 : Int32)).bind (fun v1 => if v1 < (0 : Int32) then none
    else if (5 : Int32) ≤ v1 then none
    else (ix v1 5).bind (fun k4 => some ((i + 1) + 1 + 9 * k4)))
def fX5_copyFrom (i : Nat) (j1 : Nat) (M0 : wM) : Option wM :=
  (cpG (if (nI (ln (i + 1))) < (nI (ln (j1 + 1))) then (nI (ln (i + 1))) else (nI (ln (j1 + 1)))) (ln (j1 + 1)) (ln (i + 1))).bind (fun k1 => some (st (cpM M0 (j1 + 1) (i + 1) k1) i 2 ((cpM M0 (j1 + 1) (i + 1) k1).1 j1 2)))
def fX2_copyFrom (i : Nat) (j1 : Nat) (M0 : wM) : Option wM :=
  (fX5_copyFrom (i + 1) (j1 + 1) M0).bind (fun M1 => (fX5_copyFrom (i + 3) (j1 + 3) M1).bind (fun M2 => (fX5_copyFrom (i + 5) (j1 + 5) M2).bind (fun M3 => (fX5_copyFrom (i + 7) (j1 + 7) M3).bind (fun M4 => some (st (st (st M4 i 4 (M4.1 j1 4)) i 5 ((st M4 i 4 (M4.1 j1 4)).1 j1 5)) i 6 ((st (st M4 i 4 (M4.1 j1 4)) i 5 ((st M4 i 4 (M4.1 j1 4)).1 j1 5)).1 j1 6))))))
def fX0_keep_J30 (i : Nat) (j1 : Nat)   (M0 : wM) : Option wM :=
  (fX0_place i (M0.1 i 2) M0).bind (fun v1 => (gk v1 2).bind (fun _ => (fX2_copyFrom v1 j1 M0).bind (fun M3 => some (st M3 i 2 ((M3.1 i 2) + (1 : Int32))))))
def fX0_keep (i : Nat) (j1 : Nat) (M0 : wM) : Option wM :=
  if (M0.1 i 2) < (5 : Int32) then fX0_keep_J30 i j1 M0
    else (rmI ((M0.1 i 1) + (1 : Int32)) (5 : Int32)).bind (fun v5 => fX0_keep_J30 i j1 (st (st M0 i 1 v5) i 2 (((st M0 i 1 v5).1 i 2) - (1 : Int32))))
def fX0_giveBack (i : Nat) (j1 : Nat) (M0 : wM) : Option wM :=
  (fX0_place i ((M0.1 i 2) - (1 : Int32)) M0).bind (fun v1 => (gk v1 2).bind (fun _ => (fX2_copyFrom j1 v1 M0).bind (fun M3 => some (st M3 i 2 ((M3.1 i 2) - (1 : Int32))))))
def fX1_clear (i : Nat) (M0 : wM) : Option wM :=
  some (st (stL M0 i (0 : Int64)) i 1 (0 : Int32))
def fX1_add_J43 (i : Nat) (x1 : Int32)  (s1 : Int32) (M0 : wM) : Option wM :=
  some (st (stL (st M0 i 3 s1) i (((st M0 i 3 s1).2 i) + x1.toInt64)) i 1 (((stL (st M0 i 3 s1) i (((st M0 i 3 s1).2 i) + x1.toInt64)).1 i 1) + (1 : Int32)))
def fX1_add_J20 (i : Nat) (x1 : Int32)  (s1 : Int32) (M0 : wM) : Option wM :=
  if ((st M0 i 2 s1).1 i 1) = (0 : Int32) then fX1_add_J43 i x1 x1 (st M0 i 2 s1)
    else fX1_add_J43 i x1 (if ((st M0 i 2 s1).1 i 3) < x1 then x1 else ((st M0 i 2 s1).1 i 3)) (st M0 i 2 s1)
def fX1_add (i : Nat) (x1 : Int32) (M0 : wM) : Option wM :=
  if (M0.1 i 1) = (0 : Int32) then fX1_add_J20 i x1 x1 M0
    else fX1_add_J20 i x1 (if x1 < (M0.1 i 2) then x1 else (M0.1 i 2)) M0
def fJ9_floorDiv_f86c9_J27 (x0 : Int64) (x2 : Int64) (M0 : wM)  (x4 : Int64) : Option Int64 :=
  some x4
def fJ9_floorDiv_f86c9 (x0 : Int64) (x2 : Int64) (M0 : wM) : Option Int64 :=
  (dvL x0 x2).bind (fun v1 => if (0 : Int32) ≤ (lg_cmp (x0 ^^^ x2) (0 : Int64)) then fJ9_floorDiv_f86c9_J27 x0 x2 M0 v1
    else if (lg_cmp (v1 * x2) x0) = (0 : Int32) then fJ9_floorDiv_f86c9_J27 x0 x2 M0 v1
    else some (v1 - (1 : Int64)))
def fX6_divideDown (x0 : Int64) (x2 : Int64) (M0 : wM) : Option Int64 :=
  if (lg_cmp x2 (0 : Int64)) = (0 : Int32) then some (0 : Int64)
    else (fJ9_floorDiv_f86c9 x0 x2 M0).bind (fun v2 => some v2)
def fX1_height (i : Nat) (M0 : wM) : Option Int32 :=
  (fX6_divideDown (M0.2 i) ((M0.1 i 1).toInt64) M0).bind (fun v1 => some v1.toInt32)
def fX1_spread (i : Nat) (M0 : wM) : Option Int32 :=
  some ((M0.1 i 3) - (M0.1 i 2))
def fX2_track (i : Nat) (x1 : Int32) (M0 : wM) : Option Nat :=
  if x1 = (0 : Int32) then some (i + 3)
    else if x1 = (1 : Int32) then some (i + 5)
    else if x1 = (2 : Int32) then some (i + 7)
    else some (i + 1)
def fX2_setting (i : Nat) (x1 : Int32) (M0 : wM) : Option Int32 :=
  if x1 = (0 : Int32) then some (M0.1 i 4)
    else if x1 = (1 : Int32) then some (M0.1 i 5)
    else some (M0.1 i 6)
def fX2_putSetting (i : Nat) (x1 : Int32) (x2 : Int32) (M0 : wM) : Option wM :=
  if x1 = (0 : Int32) then some (st M0 i 4 x2)
    else if x1 = (1 : Int32) then some (st M0 i 5 x2)
    else some (st M0 i 6 x2)
def fX6_at (j0 : Nat) (x1 : Int32) (M0 : wM) : Option Int32 :=
  if x1 < (0 : Int32) then some (0 : Int32)
    else if (nI (ln j0)) ≤ x1 then some (0 : Int32)
    else (ix x1 (ln j0)).bind (fun k3 => some (M0.1 j0 k3))
def fX5_value (i : Nat) (x1 : Int32) (x2 : Int32) (M0 : wM) : Option Int32 :=
  (fX6_at (i + 1) ((x1 * (4 : Int32)) + x2) M0).bind (fun v1 => some v1)
def fX2_baseValue_J32 (i : Nat) (x1 : Int32) (x2 : Int32) (M0 : wM)  (x3 : Int32) : Option Int32 :=
  if x3 < (M0.1 (i + 1) 2) then (fX5_value (i + 1) x3 (0 : Int32) M0).bind (fun v2 => (fX5_value (i + 1) x3 x2 M0).bind (fun v3 => if v2 = x1 then some v3
    else if x3 = (0 : Int32) then some (-2000000004 : Int32)
    else (fX5_value (i + 1) (x3 - (1 : Int32)) (0 : Int32) M0).bind (fun v6 => (fX5_value (i + 1) (x3 - (1 : Int32)) x2 M0).bind (fun v7 => (fX6_divideDown (((v3 - v7).toInt64) * ((x1 - v6).toInt64)) ((v2 - v6).toInt64) M0).bind (fun v8 => some ((v7.toInt64 + v8).toInt32))))))
    else some (-2000000004 : Int32)
def fX2_baseValue_B2 (i : Nat) (x1 : Int32) (x2 : Int32) (M0 : wM) (bk2 : Int32 → Option Int32) (x3 : Int32) : Option Int32 :=
  if (M0.1 (i + 1) 2) ≤ x3 then fX2_baseValue_J32 i x1 x2 M0 x3
    else (fX5_value (i + 1) x3 (0 : Int32) M0).bind (fun v10 => if x1 ≤ v10 then fX2_baseValue_J32 i x1 x2 M0 x3
    else bk2 (x3 + (1 : Int32)))
def fX2_baseValue_L2 (i : Nat) (x1 : Int32) (x2 : Int32) (M0 : wM)  : Nat → Int32 → Option Int32
  | 0 => fun _ => none
  | n + 1 => fX2_baseValue_B2 i x1 x2 M0  (fX2_baseValue_L2 i x1 x2 M0  n)
def fX2_baseValue (i : Nat) (x1 : Int32) (x2 : Int32) (M0 : wM) : Option Int32 :=
  fX2_baseValue_L2 i x1 x2 M0 FU (0 : Int32)
def fJ9_floorDiv_7cf53 (x0 : Int32) (x1 : Int32) (M0 : wM) : Option Int32 :=
  (dvI x0 x1).bind (fun v1 => if (0 : Int32) ≤ (x0 ^^^ x1) then some v1
    else if (v1 * x1) = x0 then some v1
    else some (v1 - (1 : Int32)))
def fX2_heightAt (i : Nat) (x1 : Int32) (x2 : Int32) (x3 : Int32) (M0 : wM) : Option Int32 :=
  (fX2_baseValue i x1 (1 : Int32) M0).bind (fun v1 => if v1 = (-2000000004 : Int32) then some (-2000000004 : Int32)
    else (fX2_baseValue i x1 (2 : Int32) M0).bind (fun v3 => (fJ9_floorDiv_7cf53 (v3 + x3) (2 : Int32) M0).bind (fun v4 => (fJ9_floorDiv_7cf53 (v1 + x2) (2 : Int32) M0).bind (fun v5 => (fX6_divideDown (((2930 : Int64) * (((2732 : Int32) + v4).toInt64)) * ((v1 - x2).toInt64)) v5.toInt64 M0).bind (fun v6 => some ((((M0.1 i 4).toInt64) + v6).toInt32))))))
def fX2_isStepEnd (i : Nat) (x1 : Int32) (M0 : wM) : Option Bool :=
  (fX5_value (i + 1) x1 (2 : Int32) M0).bind (fun v1 => (fX5_value (i + 1) (x1 - (1 : Int32)) (2 : Int32) M0).bind (fun v2 => if (if (0 : Int32) ≤ (v1 - v2) then (v1 - v2) else 0 - (v1 - v2)) < (M0.1 i 6) then some false
    else some true))
def fX2_steps_B4 (i : Nat) (M0 : wM) (bk4 : Int32 → Int32 → Option Int32) (x1 : Int32) (x2 : Int32) : Option Int32 :=
  if (M0.1 (i + 1) 2) ≤ x2 then some x1
    else (fX2_isStepEnd i x2 M0).bind (fun v2 => if (b2 v2) = (0 : Int32) then bk4 (x1 + (0 : Int32)) (x2 + (1 : Int32))
    else bk4 (x1 + (1 : Int32)) (x2 + (1 : Int32)))
def fX2_steps_L4 (i : Nat) (M0 : wM)  : Nat → Int32 → Int32 → Option Int32
  | 0 => fun _ _ => none
  | n + 1 => fX2_steps_B4 i M0  (fX2_steps_L4 i M0  n)
def fX2_steps (i : Nat) (M0 : wM) : Option Int32 :=
  fX2_steps_L4 i M0 FU (0 : Int32) (1 : Int32)
def fX6_put (j0 : Nat) (x1 : Int32) (x2 : Int32) (M0 : wM) : Option wM :=
  if x1 < (0 : Int32) then some M0
    else if (nI (ln j0)) ≤ x1 then some M0
    else (ix x1 (ln j0)).bind (fun k3 => some (st M0 j0 k3 x2))
def fX5_standsOut_J59 (i : Nat) (x1 : Int32) (x2 : Int32) (M0 : wM)  (x4 : Int32) (x5 : Int32) : Option Bool :=
  if (-x2) ≤ x4 then some false
    else if (-x2) ≤ x5 then some false
    else some true
def fX5_standsOut (i : Nat) (x1 : Int32) (x2 : Int32) (M0 : wM) : Option Bool :=
  if x1 ≤ (0 : Int32) then some false
    else if x1 < ((M0.1 i 2) - (1 : Int32)) then (fX5_value i x1 (1 : Int32) M0).bind (fun v5 => (fX5_value i (x1 - (1 : Int32)) (1 : Int32) M0).bind (fun v6 => (fX5_value i (x1 + (1 : Int32)) (1 : Int32) M0).bind (fun v7 => if (v5 - v6) ≤ x2 then fX5_standsOut_J59 i x1 x2 M0 (v5 - v6) (v5 - v7)
    else if x2 < (v5 - v7) then some true
    else fX5_standsOut_J59 i x1 x2 M0 (v5 - v6) (v5 - v7))))
    else some false
def fX3_isGust (i : Nat) (x1 : Int32) (M0 : wM) : Option Bool :=
  (fX6_at (i + 4) x1 M0).bind (fun v1 => if v1 = (1 : Int32) then some true
    else some false)
def fX3_isGood (i : Nat) (x1 : Int32) (M0 : wM) : Option Bool :=
  (fX6_at (i + 3) x1 M0).bind (fun v1 => if v1 = (-2000000004 : Int32) then some false
    else (fX6_at (i + 4) x1 M0).bind (fun v3 => if v3 = (0 : Int32) then some true
    else some false))
def fX3_countKinds_J60 (i : Nat) (bk12 : Int32 → wM → Option wM) (x1 : Int32) (s1 : Int32) (s2 : Int32) (M0 : wM) : Option wM :=
  bk12 (x1 + (1 : Int32)) (st M0 i 10 (s1 + s2))
def fX3_countKinds_J38 (i : Nat) (bk12 : Int32 → wM → Option wM) (x1 : Int32) (s1 : Int32) (s2 : Int32) (M0 : wM) : Option wM :=
  (fX3_isGood i x1 (st M0 i 9 (s1 + s2))).bind (fun v1 => if (b2 v1) = (0 : Int32) then fX3_countKinds_J60 i bk12 x1 ((st M0 i 9 (s1 + s2)).1 i 10) (0 : Int32) (st M0 i 9 (s1 + s2))
    else fX3_countKinds_J60 i bk12 x1 ((st M0 i 9 (s1 + s2)).1 i 10) (1 : Int32) (st M0 i 9 (s1 + s2)))
def fX3_countKinds_B12 (i : Nat) (bk12 : Int32 → wM → Option wM) (x1 : Int32) (M0 : wM) : Option wM :=
  if (M0.1 i 8) ≤ x1 then some M0
    else (fX3_isGust i x1 M0).bind (fun v4 => if (b2 v4) = (0 : Int32) then fX3_countKinds_J38 i bk12 x1 (M0.1 i 9) (0 : Int32) M0
    else fX3_countKinds_J38 i bk12 x1 (M0.1 i 9) (1 : Int32) M0)
def fX3_countKinds_L12 (i : Nat)  : Nat → Int32 → wM → Option wM
  | 0 => fun _ _ => none
  | n + 1 => fX3_countKinds_B12 i  (fX3_countKinds_L12 i  n)
def fX3_countKinds (i : Nat) (M0 : wM) : Option wM :=
  fX3_countKinds_L12 i FU (0 : Int32) (st (st M0 i 9 (0 : Int32)) i 10 (0 : Int32))
def fX3_lastVisit_B13 (i : Nat) (x1 : Int32) (M0 : wM) (bk13 : Int32 → Int32 → Option Int32) (x2 : Int32) (x3 : Int32) : Option Int32 :=
  if x3 < (0 : Int32) then some (-1 : Int32)
    else (fX3_isGood i x3 M0).bind (fun v2 => if (b2 v2) = (0 : Int32) then bk13 x2 (x3 + (-1 : Int32))
    else (fX6_at (i + 2) x3 M0).bind (fun v4 => if v4 = x2 then some x3
    else bk13 x2 (x3 + (-1 : Int32))))
def fX3_lastVisit_L13 (i : Nat) (x1 : Int32) (M0 : wM)  : Nat → Int32 → Int32 → Option Int32
  | 0 => fun _ _ => none
  | n + 1 => fX3_lastVisit_B13 i x1 M0  (fX3_lastVisit_L13 i x1 M0  n)
def fX3_lastVisit (i : Nat) (x1 : Int32) (M0 : wM) : Option Int32 :=
  (fX6_at (i + 2) x1 M0).bind (fun v6 => fX3_lastVisit_L13 i x1 M0 FU v6 (x1 - (1 : Int32)))
def fX3_findLoops_J32 (i : Nat) (bk7 : Int32 → wM → Option wM) (x1 : Int32) (s0 : Int32) (M0 : wM) : Option wM :=
  if s0 = (-1 : Int32) then bk7 (x1 + (1 : Int32)) M0
    else (fX6_put (i + 7) (M0.1 i 11) s0 M0).bind (fun M2 => (fX6_put (i + 8) (M2.1 i 11) x1 M2).bind (fun M3 => bk7 (x1 + (1 : Int32)) (st M3 i 11 ((M3.1 i 11) + (1 : Int32)))))
def fX3_findLoops_B7 (i : Nat) (bk7 : Int32 → wM → Option wM) (x1 : Int32) (M0 : wM) : Option wM :=
  if (M0.1 i 8) ≤ x1 then some M0
    else (fX3_isGood i x1 M0).bind (fun v5 => if (b2 v5) = (0 : Int32) then fX3_findLoops_J32 i bk7 x1 (-1 : Int32) M0
    else (fX3_lastVisit i x1 M0).bind (fun v7 => fX3_findLoops_J32 i bk7 x1 v7 M0))
def fX3_findLoops_L7 (i : Nat)  : Nat → Int32 → wM → Option wM
  | 0 => fun _ _ => none
  | n + 1 => fX3_findLoops_B7 i  (fX3_findLoops_L7 i  n)
def fX3_findLoops (i : Nat) (M0 : wM) : Option wM :=
  fX3_findLoops_L7 i FU (0 : Int32) (st M0 i 11 (0 : Int32))
def fX3_begin (i : Nat) (x1 : Int32) (M0 : wM) : Option Int32 :=
  (fX6_at (i + 7) x1 M0).bind (fun v1 => some v1)
def fX3_end (i : Nat) (x1 : Int32) (M0 : wM) : Option Int32 :=
  (fX6_at (i + 8) x1 M0).bind (fun v1 => some v1)
def fX3_minutes (i : Nat) (x1 : Int32) (M0 : wM) : Option Int32 :=
  (fX3_end i x1 M0).bind (fun v1 => (fX6_at (i + 1) v1 M0).bind (fun v2 => (fX3_begin i x1 M0).bind (fun v3 => (fX6_at (i + 1) v3 M0).bind (fun v4 => some (v2 - v4)))))
def fX3_shortestLoop_J45 (i : Nat) (x1 : Int32) (M0 : wM) (bk14 : Int32 → Int32 → Option Int32) (x2 : Int32) (x3 : Int32) (s0 : Int32) : Option Int32 :=
  if s0 = (0 : Int32) then bk14 x2 (x3 + (1 : Int32))
    else if x2 = (-1 : Int32) then bk14 x3 (x3 + (1 : Int32))
    else (fX3_minutes i x3 M0).bind (fun v3 => (fX3_minutes i x2 M0).bind (fun v4 => if v4 ≤ v3 then bk14 x2 (x3 + (1 : Int32))
    else bk14 x3 (x3 + (1 : Int32))))
def fX3_shortestLoop_B14 (i : Nat) (x1 : Int32) (M0 : wM) (bk14 : Int32 → Int32 → Option Int32) (x2 : Int32) (x3 : Int32) : Option Int32 :=
  if (M0.1 i 11) ≤ x3 then some x2
    else (fX3_begin i x3 M0).bind (fun v7 => if x1 < v7 then fX3_shortestLoop_J45 i x1 M0 bk14 x2 x3 (0 : Int32)
    else (fX3_end i x3 M0).bind (fun v9 => if v9 < x1 then fX3_shortestLoop_J45 i x1 M0 bk14 x2 x3 (0 : Int32)
    else fX3_shortestLoop_J45 i x1 M0 bk14 x2 x3 (1 : Int32)))
def fX3_shortestLoop_L14 (i : Nat) (x1 : Int32) (M0 : wM)  : Nat → Int32 → Int32 → Option Int32
  | 0 => fun _ _ => none
  | n + 1 => fX3_shortestLoop_B14 i x1 M0  (fX3_shortestLoop_L14 i x1 M0  n)
def fX3_shortestLoop (i : Nat) (x1 : Int32) (M0 : wM) : Option Int32 :=
  (fX3_isGood i x1 M0).bind (fun v11 => if (b2 v11) = (0 : Int32) then some (-1 : Int32)
    else fX3_shortestLoop_L14 i x1 M0 FU (-1 : Int32) (0 : Int32))
def fX3_openLoopOf (i : Nat) (x1 : Int32) (M0 : wM) : Option Int32 :=
  (fX6_at (i + 5) x1 M0).bind (fun v1 => some v1)
def fX3_rawHeight (i : Nat) (x1 : Int32) (M0 : wM) : Option Int32 :=
  (fX6_at (i + 3) x1 M0).bind (fun v1 => some v1)
def fX3_misclosure (i : Nat) (x1 : Int32) (M0 : wM) : Option Int32 :=
  (fX3_end i x1 M0).bind (fun v1 => (fX3_rawHeight i v1 M0).bind (fun v2 => (fX3_begin i x1 M0).bind (fun v3 => (fX3_rawHeight i v3 M0).bind (fun v4 => some (v2 - v4)))))
def fX3_withoutDrift (i : Nat) (x1 : Int32) (M0 : wM) : Option Int32 :=
  (fX3_isGood i x1 M0).bind (fun v1 => if (b2 v1) = (0 : Int32) then some (-2000000004 : Int32)
    else (fX3_openLoopOf i x1 M0).bind (fun v3 => if v3 = (-1 : Int32) then (fX3_rawHeight i x1 M0).bind (fun v12 => some v12)
    else (fX6_at (i + 1) x1 M0).bind (fun v5 => (fX3_begin i v3 M0).bind (fun v6 => (fX6_at (i + 1) v6 M0).bind (fun v7 => (fX3_rawHeight i x1 M0).bind (fun v8 => (fX3_misclosure i v3 M0).bind (fun v9 => (fX3_minutes i v3 M0).bind (fun v10 => (fX6_divideDown (v9.toInt64 * ((v5 - v7).toInt64)) v10.toInt64 M0).bind (fun v11 => some ((v8.toInt64 - v11).toInt32))))))))))
def fX3_workOut_B143 (i : Nat) (j1 : Nat) (x2 : Int32) (bk143 : Int32 → wM → Option wM) (x4 : Int32) (M0 : wM) : Option wM :=
  if (M0.1 i 8) ≤ x4 then some M0
    else (fX3_shortestLoop i x4 M0).bind (fun v2 => (fX6_put (i + 5) x4 v2 M0).bind (fun M3 => (fX3_withoutDrift i x4 M3).bind (fun v4 => (fX6_put (i + 6) x4 v4 M3).bind (fun M5 => bk143 (x4 + (1 : Int32)) M5))))
def fX3_workOut_L143 (i : Nat) (j1 : Nat) (x2 : Int32)  : Nat → Int32 → wM → Option wM
  | 0 => fun _ _ => none
  | n + 1 => fX3_workOut_B143 i j1 x2  (fX3_workOut_L143 i j1 x2  n)
def fX3_workOut_J123 (i : Nat) (j1 : Nat) (x2 : Int32) (bk17 : Nat → Int32 → wM → Option wM) (j3 : Nat) (x4 : Int32) (q0 : Nat) (s1 : Int32) (s2 : Int32) (M0 : wM) : Option wM :=
  (fX6_put q0 s1 s2 M0).bind (fun M6 => bk17 j3 (x4 + (1 : Int32)) M6)
def fX3_workOut_B17 (i : Nat) (j1 : Nat) (x2 : Int32) (bk17 : Nat → Int32 → wM → Option wM) (j3 : Nat) (x4 : Int32) (M0 : wM) : Option wM :=
  if (M0.1 i 8) ≤ x4 then (fX3_countKinds i M0).bind (fun M8 => (fX3_findLoops i M8).bind (fun M9 => fX3_workOut_L143 i j1 x2 FU (0 : Int32) M9))
    else (fX5_value j3 x4 (0 : Int32) M0).bind (fun v10 => (fX5_value j3 x4 (1 : Int32) M0).bind (fun v11 => (fX5_value j3 x4 (2 : Int32) M0).bind (fun v12 => (fX6_put (i + 1) x4 v10 M0).bind (fun M13 => (fX5_value j3 x4 (3 : Int32) M13).bind (fun v14 => (fX6_put (i + 2) x4 v14 M13).bind (fun M15 => (fX2_heightAt j1 v10 v11 v12 M15).bind (fun v16 => (fX6_put (i + 3) x4 v16 M15).bind (fun M17 => (fX5_standsOut j3 x4 (M17.1 j1 5) M17).bind (fun v18 => if (b2 v18) = (0 : Int32) then fX3_workOut_J123 i j1 x2 bk17 j3 x4 (i + 4) x4 (0 : Int32) M17
    else fX3_workOut_J123 i j1 x2 bk17 j3 x4 (i + 4) x4 (1 : Int32) M17)))))))))
def fX3_workOut_L17 (i : Nat) (j1 : Nat) (x2 : Int32)  : Nat → Nat → Int32 → wM → Option wM
  | 0 => fun _ _ _ => none
  | n + 1 => fX3_workOut_B17 i j1 x2  (fX3_workOut_L17 i j1 x2  n)
def fX3_workOut (i : Nat) (j1 : Nat) (x2 : Int32) (M0 : wM) : Option wM :=
  (fX2_track j1 x2 M0).bind (fun v20 => (gk v20 5).bind (fun _ => fX3_workOut_L17 i j1 x2 FU v20 (0 : Int32) (st M0 i 8 (M0.1 v20 2))))
def fX3_correctedHeight (i : Nat) (x1 : Int32) (M0 : wM) : Option Int32 :=
  (fX6_at (i + 6) x1 M0).bind (fun v1 => some v1)
def fX3_misclosureBySteps_B21 (i : Nat) (x1 : Int32) (M0 : wM) (bk21 : Int32 → Int32 → Int32 → Option Int32) (x2 : Int32) (x3 : Int32) (x4 : Int32) : Option Int32 :=
  (fX3_end i x1 M0).bind (fun v1 => if v1 < x4 then some x2
    else if (M0.1 i 8) ≤ x4 then some x2
    else (fX3_isGood i x4 M0).bind (fun v4 => if (b2 v4) = (0 : Int32) then bk21 x2 x3 (x4 + (1 : Int32))
    else (fX3_rawHeight i x4 M0).bind (fun v6 => (fX3_rawHeight i x4 M0).bind (fun v7 => bk21 (x2 + (v6 - x3)) v7 (x4 + (1 : Int32))))))
def fX3_misclosureBySteps_L21 (i : Nat) (x1 : Int32) (M0 : wM)  : Nat → Int32 → Int32 → Int32 → Option Int32
  | 0 => fun _ _ _ => none
  | n + 1 => fX3_misclosureBySteps_B21 i x1 M0  (fX3_misclosureBySteps_L21 i x1 M0  n)
def fX3_misclosureBySteps (i : Nat) (x1 : Int32) (M0 : wM) : Option Int32 :=
  (fX3_begin i x1 M0).bind (fun v8 => (fX3_rawHeight i v8 M0).bind (fun v9 => (fX3_begin i x1 M0).bind (fun v10 => fX3_misclosureBySteps_L21 i x1 M0 FU (0 : Int32) v9 (v10 + (1 : Int32)))))
def fX3_endsOpenLoop (i : Nat) (x1 : Int32) (M0 : wM) : Option Bool :=
  (fX3_openLoopOf i x1 M0).bind (fun v1 => if v1 = (-1 : Int32) then some false
    else (fX3_end i v1 M0).bind (fun v3 => if v3 = x1 then some true
    else some false))
def fX3_addTo_B2 (i : Nat) (j1 : Nat) (x2 : Int32) (bk2 : Int32 → wM → Option wM) (x3 : Int32) (M0 : wM) : Option wM :=
  if (M0.1 i 8) ≤ x3 then some M0
    else (fX3_isGood i x3 M0).bind (fun v2 => if (b2 v2) = (0 : Int32) then bk2 (x3 + (1 : Int32)) M0
    else (fX6_at (i + 2) x3 M0).bind (fun v4 => if v4 = x2 then (fX3_endsOpenLoop i x3 M0).bind (fun v6 => if (b2 v6) = (0 : Int32) then (fX3_correctedHeight i x3 M0).bind (fun v8 => (fX1_add j1 v8 M0).bind (fun M9 => bk2 (x3 + (1 : Int32)) M9))
    else bk2 (x3 + (1 : Int32)) M0)
    else bk2 (x3 + (1 : Int32)) M0))
def fX3_addTo_L2 (i : Nat) (j1 : Nat) (x2 : Int32)  : Nat → Int32 → wM → Option wM
  | 0 => fun _ _ => none
  | n + 1 => fX3_addTo_B2 i j1 x2  (fX3_addTo_L2 i j1 x2  n)
def fX3_addTo (i : Nat) (j1 : Nat) (x2 : Int32) (M0 : wM) : Option wM :=
  fX3_addTo_L2 i j1 x2 FU (0 : Int32) M0
def fX5_isFull (i : Nat) (M0 : wM) : Option Bool :=
  if (M0.1 i 2) < (M0.1 i 1) then some false
    else some true
def fX5_hasTime_B2 (i : Nat) (x1 : Int32) (M0 : wM) (bk2 : Int32 → Option Bool) (x2 : Int32) : Option Bool :=
  if (M0.1 i 2) ≤ x2 then some false
    else (fX5_value i x2 (0 : Int32) M0).bind (fun v2 => if v2 = x1 then some true
    else bk2 (x2 + (1 : Int32)))
def fX5_hasTime_L2 (i : Nat) (x1 : Int32) (M0 : wM)  : Nat → Int32 → Option Bool
  | 0 => fun _ => none
  | n + 1 => fX5_hasTime_B2 i x1 M0  (fX5_hasTime_L2 i x1 M0  n)
def fX5_hasTime (i : Nat) (x1 : Int32) (M0 : wM) : Option Bool :=
  fX5_hasTime_L2 i x1 M0 FU (0 : Int32)
def fX5_move_B2 (i : Nat) (x1 : Int32) (x2 : Int32) (bk2 : Int32 → wM → Option wM) (x3 : Int32) (M0 : wM) : Option wM :=
  if (4 : Int32) ≤ x3 then some M0
    else (fX5_value i x1 x3 M0).bind (fun v2 => (fX6_put (i + 1) ((x2 * (4 : Int32)) + x3) v2 M0).bind (fun M3 => bk2 (x3 + (1 : Int32)) M3))
def fX5_move_L2 (i : Nat) (x1 : Int32) (x2 : Int32)  : Nat → Int32 → wM → Option wM
  | 0 => fun _ _ => none
  | n + 1 => fX5_move_B2 i x1 x2  (fX5_move_L2 i x1 x2  n)
def fX5_move (i : Nat) (x1 : Int32) (x2 : Int32) (M0 : wM) : Option wM :=
  fX5_move_L2 i x1 x2 FU (0 : Int32) M0
def fX5_insert_J40 (i : Nat) (x1 : Int32) (x2 : Int32) (x3 : Int32) (x4 : Int32)  (x5 : Int32) (M0 : wM) : Option (Int32 × wM) :=
  (fX6_put (i + 1) ((x5 * (4 : Int32)) + (0 : Int32)) x2 M0).bind (fun M1 => (fX6_put (i + 1) ((x5 * (4 : Int32)) + (1 : Int32)) x3 M1).bind (fun M2 => (fX6_put (i + 1) ((x5 * (4 : Int32)) + (2 : Int32)) x4 M2).bind (fun M3 => (fX6_put (i + 1) ((x5 * (4 : Int32)) + (3 : Int32)) x1 M3).bind (fun M4 => some (x5, (st M4 i 2 ((M4.1 i 2) + (1 : Int32))))))))
def fX5_insert_B6 (i : Nat) (x1 : Int32) (x2 : Int32) (x3 : Int32) (x4 : Int32) (bk6 : Int32 → wM → Option (Int32 × wM)) (x5 : Int32) (M0 : wM) : Option (Int32 × wM) :=
  if x5 ≤ (0 : Int32) then fX5_insert_J40 i x1 x2 x3 x4 x5 M0
    else (fX5_value i (x5 - (1 : Int32)) (0 : Int32) M0).bind (fun v6 => if v6 ≤ x2 then fX5_insert_J40 i x1 x2 x3 x4 x5 M0
    else (fX5_move i (x5 - (1 : Int32)) x5 M0).bind (fun M8 => bk6 (x5 + (-1 : Int32)) M8))
def fX5_insert_L6 (i : Nat) (x1 : Int32) (x2 : Int32) (x3 : Int32) (x4 : Int32)  : Nat → Int32 → wM → Option (Int32 × wM)
  | 0 => fun _ _ => none
  | n + 1 => fX5_insert_B6 i x1 x2 x3 x4  (fX5_insert_L6 i x1 x2 x3 x4  n)
def fX5_insert (i : Nat) (x1 : Int32) (x2 : Int32) (x3 : Int32) (x4 : Int32) (M0 : wM) : Option (Int32 × wM) :=
  fX5_insert_L6 i x1 x2 x3 x4 FU (M0.1 i 2) M0
def fX5_remove_B4 (i : Nat) (x1 : Int32) (bk4 : Int32 → wM → Option wM) (x2 : Int32) (M0 : wM) : Option wM :=
  if (M0.1 i 2) ≤ x2 then some (st M0 i 2 ((M0.1 i 2) - (1 : Int32)))
    else (fX5_move i x2 (x2 - (1 : Int32)) M0).bind (fun M2 => bk4 (x2 + (1 : Int32)) M2)
def fX5_remove_L4 (i : Nat) (x1 : Int32)  : Nat → Int32 → wM → Option wM
  | 0 => fun _ _ => none
  | n + 1 => fX5_remove_B4 i x1  (fX5_remove_L4 i x1  n)
def fX5_remove (i : Nat) (x1 : Int32) (M0 : wM) : Option wM :=
  fX5_remove_L4 i x1 FU (x1 + (1 : Int32)) M0
def fX6_within (x0 : Int32) (x1 : Int32) (x2 : Int32) (M0 : wM) : Option Bool :=
  if x0 < x1 then some false
    else if x2 < x0 then some false
    else some true
def fX6_isSetting (x0 : Int32) (x1 : Int32) (M0 : wM) : Option Bool :=
  if x0 = (0 : Int32) then (fX6_within x1 (-500000 : Int32) (9000000 : Int32) M0).bind (fun v2 => some v2)
    else if x0 = (1 : Int32) then (fX6_within x1 (1 : Int32) (5000 : Int32) M0).bind (fun v4 => some v4)
    else if x0 = (2 : Int32) then (fX6_within x1 (1 : Int32) (500 : Int32) M0).bind (fun v6 => some v6)
    else some false
def fX6_record  (M0 : wM) : Option wM :=
  (fX0_keep 19 1 M0).bind (fun M1 => some (st M1 0 8 (1 : Int32)))
def fX6_set (x1 : Int32) (x2 : Int32) (M0 : wM) : Option (Int32 × wM) :=
  (fX6_isSetting x1 x2 M0).bind (fun v1 => if (b2 v1) = (0 : Int32) then some ((-2000000001 : Int32), M0)
    else (fX6_record M0).bind (fun M3 => (fX2_setting 1 x1 M3).bind (fun v4 => (fX2_putSetting 1 x1 x2 M3).bind (fun M5 => some (v4, M5)))))
def fX6_isTime (x0 : Int32) (M0 : wM) : Option Bool :=
  (fX6_within x0 (0 : Int32) (10000 : Int32) M0).bind (fun v1 => some v1)
def fX6_isTemperature (x0 : Int32) (M0 : wM) : Option Bool :=
  (fX6_within x0 (-300 : Int32) (500 : Int32) M0).bind (fun v1 => some v1)
def fX6_isReading (x0 : Int32) (x1 : Int32) (x2 : Int32) (M0 : wM) : Option Bool :=
  (fX6_isTime x0 M0).bind (fun v1 => if (b2 v1) = (0 : Int32) then some false
    else (fX6_within x1 (50000 : Int32) (110000 : Int32) M0).bind (fun v3 => if (b2 v3) = (0 : Int32) then some false
    else (fX6_isTemperature x2 M0).bind (fun v5 => if (b2 v5) = (0 : Int32) then some false
    else some true)))
def fX6_take (x1 : Int32) (x2 : Int32) (x3 : Int32) (x4 : Int32) (x5 : Int32) (M0 : wM) : Option (Int32 × wM) :=
  (fX2_track 1 x1 M0).bind (fun v1 => (gk v1 5).bind (fun _ => (fX5_hasTime v1 x3 M0).bind (fun v3 => if (b2 v3) = (0 : Int32) then (fX5_isFull v1 M0).bind (fun v5 => if (b2 v5) = (0 : Int32) then (fX6_record M0).bind (fun M7 => (fX5_insert v1 x2 x3 x4 x5 M7).bind (fun p8 => some (p8.1, p8.2)))
    else some ((-2000000003 : Int32), M0))
    else some ((-2000000002 : Int32), M0))))
def fX6_base (x1 : Int32) (x2 : Int32) (x3 : Int32) (M0 : wM) : Option (Int32 × wM) :=
  (fX6_isReading x1 x2 x3 M0).bind (fun v1 => if (b2 v1) = (0 : Int32) then some ((-2000000001 : Int32), M0)
    else (fX6_take (-1 : Int32) (0 : Int32) x1 x2 x3 M0).bind (fun p3 => some (p3.1, p3.2)))
def fX6_isCell (x0 : Int32) (M0 : wM) : Option Bool :=
  (fX6_within x0 (0 : Int32) (2 : Int32) M0).bind (fun v1 => some v1)
def fX6_isPoint (x0 : Int32) (M0 : wM) : Option Bool :=
  (fX6_within x0 (0 : Int32) (9 : Int32) M0).bind (fun v1 => some v1)
def fX6_read (x1 : Int32) (x2 : Int32) (x3 : Int32) (x4 : Int32) (x5 : Int32) (M0 : wM) : Option (Int32 × wM) :=
  (fX6_isCell x1 M0).bind (fun v1 => if (b2 v1) = (0 : Int32) then some ((-2000000001 : Int32), M0)
    else (fX6_isPoint x2 M0).bind (fun v3 => if (b2 v3) = (0 : Int32) then some ((-2000000001 : Int32), M0)
    else (fX6_isReading x3 x4 x5 M0).bind (fun v5 => if (b2 v5) = (0 : Int32) then some ((-2000000001 : Int32), M0)
    else (fX6_take x1 x2 x3 x4 x5 M0).bind (fun p7 => some (p7.1, p7.2)))))
def fX6_isReadingOf_J12 (x1 : Int32) (x2 : Int32) (M0 : wM)   : Option Bool :=
  (fX2_track 1 x1 M0).bind (fun v1 => (gk v1 5).bind (fun _ => (fX6_within x2 (0 : Int32) ((M0.1 v1 2) - (1 : Int32)) M0).bind (fun v3 => if (b2 v3) = (0 : Int32) then some false
    else some true)))
def fX6_isReadingOf (x1 : Int32) (x2 : Int32) (M0 : wM) : Option Bool :=
  if x1 = (-1 : Int32) then fX6_isReadingOf_J12 x1 x2 M0
    else (fX6_isCell x1 M0).bind (fun v6 => if (b2 v6) = (0 : Int32) then some false
    else fX6_isReadingOf_J12 x1 x2 M0)
def fX6_drop (x1 : Int32) (x2 : Int32) (M0 : wM) : Option (Int32 × wM) :=
  (fX6_isReadingOf x1 x2 M0).bind (fun v1 => if (b2 v1) = (0 : Int32) then some ((-2000000001 : Int32), M0)
    else (fX6_record M0).bind (fun M3 => (fX2_track 1 x1 M3).bind (fun v4 => (gk v4 5).bind (fun _ => (fX5_remove v4 x2 M3).bind (fun M6 => some (M6.1 v4 2, M6))))))
def fX6_refresh  (M0 : wM) : Option wM :=
  if (M0.1 0 8) = (0 : Int32) then some M0
    else (fX3_workOut 66 1 (0 : Int32) M0).bind (fun M2 => (fX3_workOut 75 1 (1 : Int32) M2).bind (fun M3 => (fX3_workOut 84 1 (2 : Int32) M3).bind (fun M4 => some (st M4 0 8 (0 : Int32)))))
def fX6_surveyOf (x1 : Int32) (M0 : wM) : Option Nat :=
  if x1 = (0 : Int32) then some 66
    else if x1 = (1 : Int32) then some 75
    else some 84
def fX6_reading_J34 (x1 : Int32) (x2 : Int32) (x3 : Int32)   (M0 : wM) : Option (Int32 × wM) :=
  (fX6_refresh M0).bind (fun M1 => if x3 = (4 : Int32) then (fX6_surveyOf x1 M1).bind (fun v3 => (gk v3 3).bind (fun _ => (fX3_isGust v3 x2 M1).bind (fun v5 => if (b2 v5) = (0 : Int32) then some ((0 : Int32), M1)
    else some ((1 : Int32), M1))))
    else if x3 = (5 : Int32) then (fX6_surveyOf x1 M1).bind (fun v8 => (gk v8 3).bind (fun _ => (fX3_isGood v8 x2 M1).bind (fun v10 => if (b2 v10) = (0 : Int32) then some ((0 : Int32), M1)
    else some ((1 : Int32), M1))))
    else (fX2_track 1 x1 M1).bind (fun v12 => (gk v12 5).bind (fun _ => (fX5_value v12 x2 x3 M1).bind (fun v14 => some (v14, M1)))))
def fX6_reading (x1 : Int32) (x2 : Int32) (x3 : Int32) (M0 : wM) : Option (Int32 × wM) :=
  (fX6_isReadingOf x1 x2 M0).bind (fun v15 => if (b2 v15) = (0 : Int32) then some ((-2000000001 : Int32), M0)
    else (fX6_within x3 (0 : Int32) (5 : Int32) M0).bind (fun v17 => if (b2 v17) = (0 : Int32) then some ((-2000000001 : Int32), M0)
    else if x1 = (-1 : Int32) then if x3 < (3 : Int32) then fX6_reading_J34 x1 x2 x3 M0
    else some ((-2000000004 : Int32), M0)
    else fX6_reading_J34 x1 x2 x3 M0))
def fX6_gather_B9 (x1 : Int32) (bk9 : Int32 → wM → Option wM) (x2 : Int32) (M0 : wM) : Option wM :=
  if (3 : Int32) ≤ x2 then some M0
    else (fX6_surveyOf x2 M0).bind (fun v2 => (gk v2 3).bind (fun _ => (fX3_addTo v2 93 x1 M0).bind (fun M4 => bk9 (x2 + (1 : Int32)) M4)))
def fX6_gather_L9 (x1 : Int32)  : Nat → Int32 → wM → Option wM
  | 0 => fun _ _ => none
  | n + 1 => fX6_gather_B9 x1  (fX6_gather_L9 x1  n)
def fX6_gather (x1 : Int32) (M0 : wM) : Option wM :=
  (fX1_clear 93 M0).bind (fun M5 => fX6_gather_L9 x1 FU (0 : Int32) M5)
def fX6_pointsWithHeight_B4  (bk4 : Int32 → Int32 → wM → Option (Int32 × wM)) (x1 : Int32) (x2 : Int32) (M0 : wM) : Option (Int32 × wM) :=
  if (10 : Int32) ≤ x2 then some (x1, M0)
    else (fX6_gather x2 M0).bind (fun M2 => if (M2.1 93 1) ≤ (0 : Int32) then bk4 (x1 + (0 : Int32)) (x2 + (1 : Int32)) M2
    else bk4 (x1 + (1 : Int32)) (x2 + (1 : Int32)) M2)
def fX6_pointsWithHeight_L4   : Nat → Int32 → Int32 → wM → Option (Int32 × wM)
  | 0 => fun _ _ _ => none
  | n + 1 => fX6_pointsWithHeight_B4   (fX6_pointsWithHeight_L4   n)
def fX6_pointsWithHeight  (M0 : wM) : Option (Int32 × wM) :=
  fX6_pointsWithHeight_L4 FU (0 : Int32) (0 : Int32) M0
def fX6_count_J167 (x1 : Int32)   (M0 : wM) : Option (Int32 × wM) :=
  (fX2_setting 1 (x1 - (10 : Int32)) M0).bind (fun v1 => some (v1, M0))
def fX6_count_J76 (x1 : Int32)   (M0 : wM) : Option (Int32 × wM) :=
  (fX2_track 1 (x1 - (1 : Int32)) M0).bind (fun v2 => (gk v2 5).bind (fun _ => some (M0.1 v2 2, M0)))
def fX6_count (x1 : Int32) (M0 : wM) : Option (Int32 × wM) :=
  (fX6_refresh M0).bind (fun M4 => if x1 = (0 : Int32) then fX6_count_J76 x1 M4
    else if x1 = (1 : Int32) then fX6_count_J76 x1 M4
    else if x1 = (2 : Int32) then fX6_count_J76 x1 M4
    else if x1 = (3 : Int32) then fX6_count_J76 x1 M4
    else if x1 = (4 : Int32) then some (((M4.1 66 9) + (M4.1 75 9)) + (M4.1 84 9), M4)
    else if x1 = (5 : Int32) then some (((M4.1 66 11) + (M4.1 75 11)) + (M4.1 84 11), M4)
    else if x1 = (6 : Int32) then (fX2_steps 1 M4).bind (fun v12 => some (v12, M4))
    else if x1 = (7 : Int32) then (fX6_pointsWithHeight M4).bind (fun p14 => some (p14.1, p14.2))
    else if x1 = (8 : Int32) then some (M4.1 19 2, M4)
    else if x1 = (9 : Int32) then some (M4.1 94 1, M4)
    else if x1 = (10 : Int32) then fX6_count_J167 x1 M4
    else if x1 = (11 : Int32) then fX6_count_J167 x1 M4
    else if x1 = (12 : Int32) then fX6_count_J167 x1 M4
    else if x1 = (13 : Int32) then some (((M4.1 66 10) + (M4.1 75 10)) + (M4.1 84 10), M4)
    else some ((-2000000001 : Int32), M4))
def fX6_undo  (M0 : wM) : Option (Int32 × wM) :=
  if (M0.1 19 2) = (0 : Int32) then some ((-2000000002 : Int32), M0)
    else (fX0_giveBack 19 1 M0).bind (fun M2 => some ((st M2 0 8 (1 : Int32)).1 19 2, (st M2 0 8 (1 : Int32))))
def fX6_baseAt_J33 (x1 : Int32) (x2 : Int32) (M0 : wM)  (s1 : Int32) (s2 : Int32) : Option Int32 :=
  (fX2_baseValue 1 s1 s2 M0).bind (fun v1 => some v1)
def fX6_baseAt (x1 : Int32) (x2 : Int32) (M0 : wM) : Option Int32 :=
  (fX6_isTime x1 M0).bind (fun v2 => if (b2 v2) = (0 : Int32) then some (-2000000001 : Int32)
    else (fX6_within x2 (0 : Int32) (1 : Int32) M0).bind (fun v4 => if (b2 v4) = (0 : Int32) then some (-2000000001 : Int32)
    else if x2 = (0 : Int32) then fX6_baseAt_J33 x1 x2 M0 x1 (1 : Int32)
    else fX6_baseAt_J33 x1 x2 M0 x1 (2 : Int32)))
def fX6_raw (x1 : Int32) (x2 : Int32) (M0 : wM) : Option (Int32 × wM) :=
  (fX6_isCell x1 M0).bind (fun v1 => if (b2 v1) = (0 : Int32) then some ((-2000000001 : Int32), M0)
    else (fX6_isReadingOf x1 x2 M0).bind (fun v3 => if (b2 v3) = (0 : Int32) then some ((-2000000001 : Int32), M0)
    else (fX6_refresh M0).bind (fun M5 => (fX6_surveyOf x1 M5).bind (fun v6 => (gk v6 3).bind (fun _ => (fX3_rawHeight v6 x2 M5).bind (fun v8 => some (v8, M5)))))))
def fX6_would (x1 : Int32) (x2 : Int32) (x3 : Int32) (M0 : wM) : Option Int32 :=
  (fX6_isReading x1 x2 x3 M0).bind (fun v1 => if (b2 v1) = (0 : Int32) then some (-2000000001 : Int32)
    else (fX2_heightAt 1 x1 x2 x3 M0).bind (fun v3 => some v3))
def fX6_loops (x1 : Int32) (M0 : wM) : Option (Int32 × wM) :=
  (fX6_isCell x1 M0).bind (fun v1 => if (b2 v1) = (0 : Int32) then some ((-2000000001 : Int32), M0)
    else (fX6_refresh M0).bind (fun M3 => (fX6_surveyOf x1 M3).bind (fun v4 => (gk v4 3).bind (fun _ => some (M3.1 v4 11, M3)))))
def fX6_loop (x1 : Int32) (x2 : Int32) (x3 : Int32) (M0 : wM) : Option (Int32 × wM) :=
  (fX6_isCell x1 M0).bind (fun v1 => if (b2 v1) = (0 : Int32) then some ((-2000000001 : Int32), M0)
    else (fX6_refresh M0).bind (fun M3 => (fX6_surveyOf x1 M3).bind (fun v4 => (gk v4 3).bind (fun _ => (fX6_within x2 (0 : Int32) ((M3.1 v4 11) - (1 : Int32)) M3).bind (fun v6 => if (b2 v6) = (0 : Int32) then some ((-2000000001 : Int32), M3)
    else if x3 = (0 : Int32) then (fX3_begin v4 x2 M3).bind (fun v9 => some (v9, M3))
    else if x3 = (1 : Int32) then (fX3_end v4 x2 M3).bind (fun v11 => some (v11, M3))
    else if x3 = (2 : Int32) then (fX3_misclosure v4 x2 M3).bind (fun v13 => some (v13, M3))
    else if x3 = (3 : Int32) then (fX3_misclosureBySteps v4 x2 M3).bind (fun v15 => some (v15, M3))
    else if x3 = (4 : Int32) then (fX3_minutes v4 x2 M3).bind (fun v17 => some (v17, M3))
    else some ((-2000000001 : Int32), M3))))))
def fX6_openLoop (x1 : Int32) (x2 : Int32) (M0 : wM) : Option (Int32 × wM) :=
  (fX6_isCell x1 M0).bind (fun v1 => if (b2 v1) = (0 : Int32) then some ((-2000000001 : Int32), M0)
    else (fX6_isReadingOf x1 x2 M0).bind (fun v3 => if (b2 v3) = (0 : Int32) then some ((-2000000001 : Int32), M0)
    else (fX6_refresh M0).bind (fun M5 => (fX6_surveyOf x1 M5).bind (fun v6 => (gk v6 3).bind (fun _ => (fX3_openLoopOf v6 x2 M5).bind (fun v8 => if v8 = (-1 : Int32) then some ((-2000000004 : Int32), M5)
    else some (v8, M5)))))))
def fX6_corrected (x1 : Int32) (x2 : Int32) (M0 : wM) : Option (Int32 × wM) :=
  (fX6_isCell x1 M0).bind (fun v1 => if (b2 v1) = (0 : Int32) then some ((-2000000001 : Int32), M0)
    else (fX6_isReadingOf x1 x2 M0).bind (fun v3 => if (b2 v3) = (0 : Int32) then some ((-2000000001 : Int32), M0)
    else (fX6_refresh M0).bind (fun M5 => (fX6_surveyOf x1 M5).bind (fun v6 => (gk v6 3).bind (fun _ => (fX3_correctedHeight v6 x2 M5).bind (fun v8 => some (v8, M5)))))))
def fX6_point (x1 : Int32) (x2 : Int32) (M0 : wM) : Option (Int32 × wM) :=
  (fX6_isPoint x1 M0).bind (fun v1 => if (b2 v1) = (0 : Int32) then some ((-2000000001 : Int32), M0)
    else (fX6_within x2 (0 : Int32) (2 : Int32) M0).bind (fun v3 => if (b2 v3) = (0 : Int32) then some ((-2000000001 : Int32), M0)
    else (fX6_refresh M0).bind (fun M5 => (fX6_gather x1 M5).bind (fun M6 => if x2 = (2 : Int32) then some (M6.1 93 1, M6)
    else if (M6.1 93 1) = (0 : Int32) then some ((-2000000004 : Int32), M6)
    else if x2 = (0 : Int32) then (fX1_height 93 M6).bind (fun v11 => some (v11, M6))
    else (fX1_spread 93 M6).bind (fun v10 => some (v10, M6))))))
def fL_holds_J463   (x1 : Int32) (x2 : Int32) (M0 : wM) : Option (Bool × wM) :=
  if x1 = (0 : Int32) then some (false, M0)
    else (fX6_count (13 : Int32) M0).bind (fun p2 => if p2.1 < x2 then some (false, p2.2)
    else (fX6_count (13 : Int32) p2.2).bind (fun p4 => (fX6_count (5 : Int32) p4.2).bind (fun p5 => if x2 < (p4.1 - p5.1) then some (false, p5.2)
    else some (true, p5.2))))
def fL_holds_B395  (bk395 : Int32 → Int32 → Int32 → wM → Option (Bool × wM)) (x1 : Int32) (x2 : Int32) (x3 : Int32) (M0 : wM) : Option (Bool × wM) :=
  if (10 : Int32) ≤ x3 then fL_holds_J463 x1 x2 M0
    else if x1 = (0 : Int32) then fL_holds_J463 x1 x2 M0
    else (fX6_point x3 (2 : Int32) M0).bind (fun p9 => (fX6_point x3 (2 : Int32) p9.2).bind (fun p10 => if p10.1 = (0 : Int32) then bk395 (1 : Int32) (x2 + p9.1) (x3 + (1 : Int32)) p10.2
    else (fX6_point x3 (1 : Int32) p10.2).bind (fun p12 => if p12.1 < (0 : Int32) then bk395 (0 : Int32) (x2 + p9.1) (x3 + (1 : Int32)) p12.2
    else (fX6_point x3 (2 : Int32) p12.2).bind (fun p14 => if (1 : Int32) < p14.1 then bk395 (1 : Int32) (x2 + p9.1) (x3 + (1 : Int32)) p14.2
    else (fX6_point x3 (1 : Int32) p14.2).bind (fun p16 => if p16.1 = (0 : Int32) then bk395 (1 : Int32) (x2 + p9.1) (x3 + (1 : Int32)) p16.2
    else bk395 (0 : Int32) (x2 + p9.1) (x3 + (1 : Int32)) p16.2)))))
def fL_holds_L395   : Nat → Int32 → Int32 → Int32 → wM → Option (Bool × wM)
  | 0 => fun _ _ _ _ => none
  | n + 1 => fL_holds_B395   (fL_holds_L395   n)
def fL_holds_J341  (bk83 : Int32 → Int32 → wM → Option (Bool × wM)) (bk276 : Int32 → Int32 → Int32 → wM → Option (Bool × wM)) (x2 : Int32) (x3 : Int32) (x4 : Int32) (s0 : Int32) (s1 : Int32) (M0 : wM) : Option (Bool × wM) :=
  if s0 = s1 then if x4 < (0 : Int32) then bk276 (1 : Int32) x2 (x3 + (1 : Int32)) M0
    else (fX6_loop x2 x4 (0 : Int32) M0).bind (fun p20 => if x3 < p20.1 then bk276 (0 : Int32) x2 (x3 + (1 : Int32)) p20.2
    else (fX6_loop x2 x4 (1 : Int32) p20.2).bind (fun p22 => if p22.1 < x3 then bk276 (0 : Int32) x2 (x3 + (1 : Int32)) p22.2
    else bk276 (1 : Int32) x2 (x3 + (1 : Int32)) p22.2))
    else bk276 (0 : Int32) x2 (x3 + (1 : Int32)) M0
def fL_holds_J315  (bk83 : Int32 → Int32 → wM → Option (Bool × wM)) (bk276 : Int32 → Int32 → Int32 → wM → Option (Bool × wM)) (x2 : Int32) (x3 : Int32) (x4 : Int32) (s0 : Int32) (M0 : wM) : Option (Bool × wM) :=
  (fX6_reading x2 x3 (4 : Int32) M0).bind (fun p24 => if p24.1 = (0 : Int32) then (fX6_raw x2 x3 p24.2).bind (fun p26 => if p26.1 = (-2000000004 : Int32) then fL_holds_J341 bk83 bk276 x2 x3 x4 s0 (0 : Int32) p26.2
    else fL_holds_J341 bk83 bk276 x2 x3 x4 s0 (1 : Int32) p26.2)
    else fL_holds_J341 bk83 bk276 x2 x3 x4 s0 (0 : Int32) p24.2)
def fL_holds_B276  (bk83 : Int32 → Int32 → wM → Option (Bool × wM)) (bk276 : Int32 → Int32 → Int32 → wM → Option (Bool × wM)) (x1 : Int32) (x2 : Int32) (x3 : Int32) (M0 : wM) : Option (Bool × wM) :=
  (fX6_count ((1 : Int32) + x2) M0).bind (fun p28 => if p28.1 ≤ x3 then bk83 x1 (x2 + (1 : Int32)) p28.2
    else if x1 = (0 : Int32) then bk83 x1 (x2 + (1 : Int32)) p28.2
    else (fX6_openLoop x2 x3 p28.2).bind (fun p31 => (fX6_reading x2 x3 (5 : Int32) p31.2).bind (fun p32 => if p32.1 = (1 : Int32) then fL_holds_J315 bk83 bk276 x2 x3 p31.1 (1 : Int32) p32.2
    else fL_holds_J315 bk83 bk276 x2 x3 p31.1 (0 : Int32) p32.2)))
def fL_holds_L276  (bk83 : Int32 → Int32 → wM → Option (Bool × wM)) : Nat → Int32 → Int32 → Int32 → wM → Option (Bool × wM)
  | 0 => fun _ _ _ _ => none
  | n + 1 => fL_holds_B276  bk83 (fL_holds_L276  bk83 n)
def fL_holds_J201  (bk83 : Int32 → Int32 → wM → Option (Bool × wM)) (bk94 : Int32 → Int32 → Int32 → wM → Option (Bool × wM)) (x2 : Int32) (x3 : Int32) (x4 : Int32) (x5 : Int32) (s0 : Int32) (M0 : wM) : Option (Bool × wM) :=
  if s0 = (0 : Int32) then bk94 (0 : Int32) x2 (x3 + (1 : Int32)) M0
    else (fX6_openLoop x2 x4 M0).bind (fun p35 => if p35.1 = x3 then (fX6_openLoop x2 x5 p35.2).bind (fun p37 => if p37.1 = x3 then (fX6_corrected x2 x4 p37.2).bind (fun p39 => (fX6_corrected x2 x5 p39.2).bind (fun p40 => if p39.1 = p40.1 then (fX6_corrected x2 x4 p40.2).bind (fun p42 => (fX6_raw x2 x4 p42.2).bind (fun p43 => if p42.1 = p43.1 then bk94 (1 : Int32) x2 (x3 + (1 : Int32)) p43.2
    else bk94 (0 : Int32) x2 (x3 + (1 : Int32)) p43.2))
    else bk94 (0 : Int32) x2 (x3 + (1 : Int32)) p40.2))
    else bk94 (1 : Int32) x2 (x3 + (1 : Int32)) p37.2)
    else bk94 (1 : Int32) x2 (x3 + (1 : Int32)) p35.2)
def fL_holds_B94  (bk83 : Int32 → Int32 → wM → Option (Bool × wM)) (bk94 : Int32 → Int32 → Int32 → wM → Option (Bool × wM)) (x1 : Int32) (x2 : Int32) (x3 : Int32) (M0 : wM) : Option (Bool × wM) :=
  (fX6_loops x2 M0).bind (fun p45 => if p45.1 ≤ x3 then fL_holds_L276 bk83 FU x1 x2 (0 : Int32) p45.2
    else if x1 = (0 : Int32) then fL_holds_L276 bk83 FU x1 x2 (0 : Int32) p45.2
    else (fX6_loop x2 x3 (0 : Int32) p45.2).bind (fun p48 => (fX6_loop x2 x3 (1 : Int32) p48.2).bind (fun p49 => if p49.1 ≤ p48.1 then fL_holds_J201 bk83 bk94 x2 x3 p48.1 p49.1 (0 : Int32) p49.2
    else (fX6_reading x2 p48.1 (3 : Int32) p49.2).bind (fun p51 => (fX6_reading x2 p49.1 (3 : Int32) p51.2).bind (fun p52 => if p51.1 = p52.1 then (fX6_loop x2 x3 (2 : Int32) p52.2).bind (fun p54 => (fX6_loop x2 x3 (3 : Int32) p54.2).bind (fun p55 => if p54.1 = p55.1 then (fX6_loop x2 x3 (4 : Int32) p55.2).bind (fun p57 => if p57.1 ≤ (0 : Int32) then fL_holds_J201 bk83 bk94 x2 x3 p48.1 p49.1 (0 : Int32) p57.2
    else if x3 = (0 : Int32) then fL_holds_J201 bk83 bk94 x2 x3 p48.1 p49.1 (1 : Int32) p57.2
    else (fX6_loop x2 (x3 - (1 : Int32)) (1 : Int32) p57.2).bind (fun p60 => if p49.1 ≤ p60.1 then fL_holds_J201 bk83 bk94 x2 x3 p48.1 p49.1 (0 : Int32) p60.2
    else fL_holds_J201 bk83 bk94 x2 x3 p48.1 p49.1 (1 : Int32) p60.2))
    else fL_holds_J201 bk83 bk94 x2 x3 p48.1 p49.1 (0 : Int32) p55.2))
    else fL_holds_J201 bk83 bk94 x2 x3 p48.1 p49.1 (0 : Int32) p52.2)))))
def fL_holds_L94  (bk83 : Int32 → Int32 → wM → Option (Bool × wM)) : Nat → Int32 → Int32 → Int32 → wM → Option (Bool × wM)
  | 0 => fun _ _ _ _ => none
  | n + 1 => fL_holds_B94  bk83 (fL_holds_L94  bk83 n)
def fL_holds_B83  (bk83 : Int32 → Int32 → wM → Option (Bool × wM)) (x1 : Int32) (x2 : Int32) (M0 : wM) : Option (Bool × wM) :=
  if (3 : Int32) ≤ x2 then fL_holds_L395 FU x1 (0 : Int32) (0 : Int32) M0
    else if x1 = (0 : Int32) then fL_holds_L395 FU x1 (0 : Int32) (0 : Int32) M0
    else fL_holds_L94 bk83 FU x1 x2 (0 : Int32) M0
def fL_holds_L83   : Nat → Int32 → Int32 → wM → Option (Bool × wM)
  | 0 => fun _ _ _ => none
  | n + 1 => fL_holds_B83   (fL_holds_L83   n)
def fL_holds_B29  (bk18 : Int32 → Int32 → wM → Option (Bool × wM)) (bk29 : Int32 → Int32 → Int32 → wM → Option (Bool × wM)) (x1 : Int32) (x2 : Int32) (x3 : Int32) (M0 : wM) : Option (Bool × wM) :=
  (fX6_count ((1 : Int32) + x2) M0).bind (fun p64 => if p64.1 ≤ x3 then bk18 x1 (x2 + (1 : Int32)) p64.2
    else if x1 = (0 : Int32) then bk29 (0 : Int32) x2 (x3 + (1 : Int32)) p64.2
    else (fX6_reading x2 x3 (0 : Int32) p64.2).bind (fun p67 => (fX6_reading x2 (x3 - (1 : Int32)) (0 : Int32) p67.2).bind (fun p68 => if p67.1 ≤ p68.1 then bk29 (0 : Int32) x2 (x3 + (1 : Int32)) p68.2
    else bk29 (1 : Int32) x2 (x3 + (1 : Int32)) p68.2)))
def fL_holds_L29  (bk18 : Int32 → Int32 → wM → Option (Bool × wM)) : Nat → Int32 → Int32 → Int32 → wM → Option (Bool × wM)
  | 0 => fun _ _ _ _ => none
  | n + 1 => fL_holds_B29  bk18 (fL_holds_L29  bk18 n)
def fL_holds_B18  (bk18 : Int32 → Int32 → wM → Option (Bool × wM)) (x1 : Int32) (x2 : Int32) (M0 : wM) : Option (Bool × wM) :=
  if (3 : Int32) ≤ x2 then fL_holds_L83 FU x1 (0 : Int32) M0
    else if x1 = (0 : Int32) then fL_holds_L83 FU x1 (0 : Int32) M0
    else fL_holds_L29 bk18 FU x1 x2 (1 : Int32) M0
def fL_holds_L18   : Nat → Int32 → Int32 → wM → Option (Bool × wM)
  | 0 => fun _ _ _ => none
  | n + 1 => fL_holds_B18   (fL_holds_L18   n)
def fL_holds  (M0 : wM) : Option (Bool × wM) :=
  (fX6_count (0 : Int32) M0).bind (fun p72 => if (12 : Int32) < p72.1 then fL_holds_L18 FU (0 : Int32) (-1 : Int32) p72.2
    else fL_holds_L18 FU (1 : Int32) (-1 : Int32) p72.2)
def fL_level_B4  (bk4 : Int32 → Int32 → wM → Option (Bool × wM)) (x1 : Int32) (x2 : Int32) (M0 : wM) : Option (Bool × wM) :=
  (fX6_count (0 : Int32) M0).bind (fun p1 => if p1.1 ≤ x2 then (bz x1).bind (fun b3 => some (b3, p1.2))
    else if x1 = (0 : Int32) then (bz x1).bind (fun b5 => some (b5, p1.2))
    else (fX6_reading (-1 : Int32) x2 (0 : Int32) p1.2).bind (fun p6 => (fX6_baseAt p6.1 (0 : Int32) p6.2).bind (fun v7 => (fX6_reading (-1 : Int32) x2 (1 : Int32) p6.2).bind (fun p8 => if v7 = p8.1 then (fX6_baseAt p6.1 (1 : Int32) p8.2).bind (fun v10 => (fX6_reading (-1 : Int32) x2 (2 : Int32) p8.2).bind (fun p11 => if v10 = p11.1 then (fX6_reading (-1 : Int32) x2 (1 : Int32) p11.2).bind (fun p13 => (fX6_reading (-1 : Int32) x2 (2 : Int32) p13.2).bind (fun p14 => (fX6_would p6.1 p13.1 p14.1 p14.2).bind (fun v15 => (fX6_count (10 : Int32) p14.2).bind (fun p16 => if v15 = p16.1 then bk4 (1 : Int32) (x2 + (1 : Int32)) p16.2
    else bk4 (0 : Int32) (x2 + (1 : Int32)) p16.2))))
    else bk4 (0 : Int32) (x2 + (1 : Int32)) p11.2))
    else bk4 (0 : Int32) (x2 + (1 : Int32)) p8.2))))
def fL_level_L4   : Nat → Int32 → Int32 → wM → Option (Bool × wM)
  | 0 => fun _ _ _ => none
  | n + 1 => fL_level_B4   (fL_level_L4   n)
def fL_level  (M0 : wM) : Option (Bool × wM) :=
  fL_level_L4 FU (1 : Int32) (0 : Int32) M0
