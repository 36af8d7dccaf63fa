/-! reading, point, worst, step -/
theorem ptA_num {V : wV} {p : Int32} (hV : OkV V) : (ptA V p).2.1 ≤ 60 := by
  have n1 := hV.n (w := 1) (by omega)
  have n2 := hV.n (w := 2) (by omega)
  have n3 := hV.n (w := 3) (by omega)
  have a1 : (foldF (ptS V 1 p) 0 (V.2.1 1) (0, 0, 0, 0)).2.1 ≤ 0 + V.2.1 1 := ptF_num (V := V) (w := 1) (p := p) (c := V.2.1 1) (k := 0) (s := (0, 0, 0, 0))
  have a2 := ptF_num (V := V) (w := 2) (p := p) (c := V.2.1 2) (k := 0) (s := ptW V p 1 (0, 0, 0, 0))
  have a3 := ptF_num (V := V) (w := 3) (p := p) (c := V.2.1 3) (k := 0) (s := ptW V p 2 (ptW V p 1 (0, 0, 0, 0)))
  unfold ptW at a2 a3
  unfold ptA ptW
  omega
theorem num5 {y : Int32} (h : inR y 0 5 = true) : ∃ f : Nat, f ≤ 5 ∧ y = nI f := by
  obtain ⟨a, b⟩ := inR_iff.mp h
  exact nI_of2 (x := y) (M := 5) (n := 5) (by decide) (Int32.not_lt.mpr a) b
section Q2
variable {V : wV} {hs : List wV} {tl : Nat} {tx : Nat → Int32}
def ptR (s : wT) (y : Int32) : Int32 := if y = 2 then nI s.2.1 else if s.2.1 = 0 then -2000000004 else if y = 0 then (dn s.1 (nI s.2.1).toInt64).toInt32 else s.2.2.2 - s.2.2.1
/-! worst -/
def absI (x : Int32) : Int32 := if (0 : Int32) ≤ x then x else 0 - x
abbrev wB3 : Type := Int32 × Option (Nat × Nat)
def wS (V : wV) (w : Nat) (a : wB3) (k : Nat) : wB3 := if a.1 < absI (mis V w k) then (absI (mis V w k), some (w - 1, k)) else a
def wW (V : wV) (w : Nat) (a : wB3) : wB3 := foldF (wS V w) 0 (lpL V w).length a
def wAll (V : wV) : wB3 := wW V 3 (wW V 2 (wW V 1 (-1, none)))
def cI (o : Option (Nat × Nat)) : Int32 := match o with
  | none => -2000000004
  | some x => nI x.1
def kI (o : Option (Nat × Nat)) : Int32 := match o with
  | none => -2000000004
  | some x => nI x.2
def fI (o : Option (Nat × Nat)) : Int32 := match o with
  | none => -1
  | some x => nI (20 * x.1 + x.2)
/-- the worst one's numbers are small -/
def wOk (a : wB3) : Prop := ∀ x, a.2 = some x → x.1 < 3 ∧ x.2 < 20
theorem wS_ok {w : Nat} (hw0 : 0 < w) (hw : w < 4) (hV : OkV V) : ∀ {n k : Nat} {a : wB3}, k + n = (lpL V w).length → wOk a → wOk (foldF (wS V w) k n a)
  | 0, k, a, _, h => h
  | n + 1, k, a, hkn, h => by
    have hl := lpL_len (V := V) (w := w)
    have hn := hV.n hw
    refine wS_ok hw0 hw hV (n := n) (k := k + 1) (by omega) ?_
    unfold wS
    rcases ite_or (c := a.1 < absI (mis V w k)) (a := (absI (mis V w k), some (w - 1, k))) (b := a) with e | e
    · rw [e]
      intro x hx
      cases hx
      have hm : k < (lpL V w).length := by omega
      obtain ⟨g1, g2, -, -⟩ := lpL_in hm
      refine ⟨by omega, ?_⟩
      show k < 20
      omega
    · rw [e]; exact h
end Q2
