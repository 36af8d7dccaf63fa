/-! the law from the made object on, as a function (written by program) -/
def cellV (L : Nat) (xs : Nat → Int32) (k : Int32) : Int32 := (if k < Int32.ofNat L then xs k.toNatClampNeg else 15485959 * k + 109) &&& 2147483647
def cellG (L : Nat) (xs : Nat → Int32) (k : Int32) : Option Int32 := if k < 0 then none else some (cellV L xs k)
def fL_law_J531 (L : Nat) (xs : Nat → Int32)  (s0 : Int32) (M0 : wM) : Option (Bool × wM) :=
  if s0 = (0 : Int32) then some (false, M0)
    else (fL_holds M0).bind (fun p2 => if (b2 p2.1) = (0 : Int32) then some (false, p2.2)
    else some (true, p2.2))
def fL_law_J513 (L : Nat) (xs : Nat → Int32)  (x4 : Int32) (s0 : Int32) (s1 : Int32) (M0 : wM) : Option (Bool × wM) :=
  if s0 = s1 then (fX6_count (0 : Int32) M0).bind (fun p5 => if p5.1 = x4 then fL_law_J531 L xs (1 : Int32) p5.2
    else fL_law_J531 L xs (0 : Int32) p5.2)
    else fL_law_J531 L xs (0 : Int32) M0
def fL_law_J461 (L : Nat) (xs : Nat → Int32)  (x2 : Int32) (M0 : wM) : Option (Bool × wM) :=
  (fX6_count (8 : Int32) M0).bind (fun p7 => (fX6_count (0 : Int32) p7.2).bind (fun p8 => if x2 = (0 : Int32) then fL_law_J531 L xs (0 : Int32) p8.2
    else (fX6_drop (-1 : Int32) (0 : Int32) p8.2).bind (fun p10 => if p10.1 = (p8.1 - (1 : Int32)) then (fL_holds p10.2).bind (fun p12 => if (b2 p12.1) = (0 : Int32) then fL_law_J531 L xs (0 : Int32) p12.2
    else (fX6_undo p12.2).bind (fun p14 => if (5 : Int32) ≤ p7.1 then fL_law_J513 L xs p8.1 p14.1 (4 : Int32) p14.2
    else fL_law_J513 L xs p8.1 p14.1 p7.1 p14.2))
    else fL_law_J531 L xs (0 : Int32) p10.2)))
def fL_law_J431 (L : Nat) (xs : Nat → Int32) (bk94 : Int32 → Int32 → wM → Option (Bool × wM)) (x2 : Int32) (x3 : Int32) (M0 : wM) : Option (Bool × wM) :=
  if x2 = (0 : Int32) then bk94 (0 : Int32) (x3 + (1 : Int32)) M0
    else (fL_holds M0).bind (fun p17 => if (b2 p17.1) = (0 : Int32) then bk94 (0 : Int32) (x3 + (1 : Int32)) p17.2
    else (fL_level p17.2).bind (fun p19 => if (b2 p19.1) = (0 : Int32) then bk94 (0 : Int32) (x3 + (1 : Int32)) p19.2
    else bk94 (1 : Int32) (x3 + (1 : Int32)) p19.2))
def fL_law_J422 (L : Nat) (xs : Nat → Int32) (bk94 : Int32 → Int32 → wM → Option (Bool × wM)) (x3 : Int32) (s0 : Int32) (s1 : Int32) (M0 : wM) : Option (Bool × wM) :=
  if s0 = s1 then fL_law_J431 L xs bk94 (1 : Int32) x3 M0
    else fL_law_J431 L xs bk94 (0 : Int32) x3 M0
def fL_law_J392 (L : Nat) (xs : Nat → Int32) (bk94 : Int32 → Int32 → wM → Option (Bool × wM)) (x3 : Int32) (x6 : Int32) (x7 : Int32) (x9 : Int32) (x11 : Int32) (s0 : Int32) (s1 : Int32) (M0 : wM) : Option (Bool × wM) :=
  if s0 = s1 then (fX6_corrected x6 (x7 - (1 : Int32)) M0).bind (fun p23 => if x11 = (-2000000004 : Int32) then fL_law_J422 L xs bk94 x3 p23.1 x11 p23.2
    else fL_law_J422 L xs bk94 x3 p23.1 (x11 + x9) p23.2)
    else fL_law_J431 L xs bk94 (0 : Int32) x3 M0
def fL_law_J346 (L : Nat) (xs : Nat → Int32) (bk94 : Int32 → Int32 → wM → Option (Bool × wM)) (x3 : Int32) (x6 : Int32) (x7 : Int32) (x8 : Int32) (x9 : Int32) (x10 : Int32) (s0 : Int32) (M0 : wM) : Option (Bool × wM) :=
  (fX6_set (0 : Int32) (x8 + x9) M0).bind (fun p25 => if p25.1 = x8 then if x7 = (0 : Int32) then fL_law_J431 L xs bk94 (1 : Int32) x3 p25.2
    else (fX6_raw x6 (0 : Int32) p25.2).bind (fun p28 => if x10 = (-2000000004 : Int32) then fL_law_J392 L xs bk94 x3 x6 x7 x9 s0 p28.1 x10 p28.2
    else fL_law_J392 L xs bk94 x3 x6 x7 x9 s0 p28.1 (x10 + x9) p28.2)
    else fL_law_J431 L xs bk94 (0 : Int32) x3 p25.2)
def fL_law_J325 (L : Nat) (xs : Nat → Int32) (bk94 : Int32 → Int32 → wM → Option (Bool × wM)) (x3 : Int32) (x6 : Int32) (x7 : Int32) (x8 : Int32) (x9 : Int32) (s0 : Int32) (M0 : wM) : Option (Bool × wM) :=
  if x7 = (0 : Int32) then fL_law_J346 L xs bk94 x3 x6 x7 x8 x9 s0 (0 : Int32) M0
    else (fX6_corrected x6 (x7 - (1 : Int32)) M0).bind (fun p31 => fL_law_J346 L xs bk94 x3 x6 x7 x8 x9 s0 p31.1 p31.2)
def fL_law_B94 (L : Nat) (xs : Nat → Int32) (bk94 : Int32 → Int32 → wM → Option (Bool × wM)) (x2 : Int32) (x3 : Int32) (M0 : wM) : Option (Bool × wM) :=
  if (36 : Int32) ≤ x3 then fL_law_J461 L xs x2 M0
    else if x2 = (0 : Int32) then fL_law_J461 L xs x2 M0
    else (cellG L xs ((5 : Int32) + x3)).bind (fun v34 => (dvI v34 (8 : Int32)).bind (fun v35 => (rmI v35 (3 : Int32)).bind (fun v36 => (fX6_count ((1 : Int32) + v36) M0).bind (fun p37 => (rmI v34 (8 : Int32)).bind (fun v38 => if (6 : Int32) ≤ v38 then (rmI v34 (8 : Int32)).bind (fun v40 => if v40 = (6 : Int32) then if p37.1 = (0 : Int32) then fL_law_J431 L xs bk94 (1 : Int32) x3 p37.2
    else (dvI v35 (4 : Int32)).bind (fun v47 => (rmI v47 p37.1).bind (fun v48 => (fX6_drop v36 v48 p37.2).bind (fun p49 => if p49.1 = (p37.1 - (1 : Int32)) then fL_law_J431 L xs bk94 (1 : Int32) x3 p49.2
    else fL_law_J431 L xs bk94 (0 : Int32) x3 p49.2)))
    else (fX6_count (10 : Int32) p37.2).bind (fun p42 => (rmI v35 (5000 : Int32)).bind (fun v43 => if p37.1 = (0 : Int32) then fL_law_J325 L xs bk94 x3 v36 p37.1 p42.1 v43 (0 : Int32) p42.2
    else (fX6_raw v36 (0 : Int32) p42.2).bind (fun p45 => fL_law_J325 L xs bk94 x3 v36 p37.1 p42.1 v43 p45.1 p45.2))))
    else (dvI v35 (4 : Int32)).bind (fun v51 => (rmI v51 (3 : Int32)).bind (fun v52 => (dvI v35 (16 : Int32)).bind (fun v53 => (rmI v53 (105 : Int32)).bind (fun v54 => (dvI v35 (32 : Int32)).bind (fun v55 => (rmI v55 (500 : Int32)).bind (fun v56 => (dvI v35 (64 : Int32)).bind (fun v57 => (rmI v57 (300 : Int32)).bind (fun v58 => (fX6_read v36 v52 v54 ((94800 : Int32) + v56) (v58 - (80 : Int32)) p37.2).bind (fun p59 => if p59.1 < (0 : Int32) then (fX6_count ((1 : Int32) + v36) p59.2).bind (fun p61 => if p61.1 = p37.1 then fL_law_J431 L xs bk94 (1 : Int32) x3 p61.2
    else fL_law_J431 L xs bk94 (0 : Int32) x3 p61.2)
    else (fX6_count ((1 : Int32) + v36) p59.2).bind (fun p63 => if p63.1 = (p37.1 + (1 : Int32)) then if p37.1 < p59.1 then fL_law_J431 L xs bk94 (0 : Int32) x3 p63.2
    else fL_law_J431 L xs bk94 (1 : Int32) x3 p63.2
    else fL_law_J431 L xs bk94 (0 : Int32) x3 p63.2)))))))))))))))
def fL_law_L94 (L : Nat) (xs : Nat → Int32)  : Nat → Int32 → Int32 → wM → Option (Bool × wM)
  | 0 => fun _ _ _ => none
  | n + 1 => fL_law_B94 L xs  (fL_law_L94 L xs  n)
def fL_law_B30 (L : Nat) (xs : Nat → Int32) (bk30 : Int32 → Int32 → wM → Option (Bool × wM)) (x2 : Int32) (x3 : Int32) (M0 : wM) : Option (Bool × wM) :=
  if (5 : Int32) ≤ x3 then fL_law_L94 L xs FU x2 (0 : Int32) M0
    else if x2 = (0 : Int32) then fL_law_L94 L xs FU x2 (0 : Int32) M0
    else (cellG L xs x3).bind (fun v68 => (rmI v68 (300 : Int32)).bind (fun v69 => (dvI v68 (512 : Int32)).bind (fun v70 => (rmI v70 (400 : Int32)).bind (fun v71 => (fX6_base ((25 : Int32) * x3) ((95000 : Int32) + v69) (v71 - (100 : Int32)) M0).bind (fun p72 => if p72.1 = x3 then bk30 (1 : Int32) (x3 + (1 : Int32)) p72.2
    else bk30 (0 : Int32) (x3 + (1 : Int32)) p72.2)))))
def fL_law_L30 (L : Nat) (xs : Nat → Int32)  : Nat → Int32 → Int32 → wM → Option (Bool × wM)
  | 0 => fun _ _ _ => none
  | n + 1 => fL_law_B30 L xs  (fL_law_L30 L xs  n)
def fL_law (L : Nat) (xs : Nat → Int32) (M0 : wM) : Option (Bool × wM) :=
  (fL_holds M0).bind (fun p74 => if (b2 p74.1) = (0 : Int32) then fL_law_L30 L xs FU (0 : Int32) (0 : Int32) p74.2
    else (fL_level p74.2).bind (fun p76 => if (b2 p76.1) = (0 : Int32) then fL_law_L30 L xs FU (0 : Int32) (0 : Int32) p76.2
    else fL_law_L30 L xs FU (1 : Int32) (0 : Int32) p76.2))
