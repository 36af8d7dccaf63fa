/-! what the constructor leaves is the one world, with its first memory -/
def M0v (i k : Nat) : Int32 := if kd i = 5 ∧ k = 1 then (if kd (i - 1) = 2 then 12 else 20) else if kd i = 2 ∧ k = 5 then 60 else if kd i = 2 ∧ k = 6 then 50 else if i = 0 ∧ k = 8 then 1 else if i = 94 ∧ k = 9 then -1 else 0
def wM0 : wM := (M0v, fun _ => 0)
def up5 (a : Nat → Nat) : Nat → Option Nat := va_up (va_up (va_up (va_up (va_up no5 0 (some (a 2))) 1 (some (a 11))) 2 (some (a 20))) 3 (some (a 29))) 4 (some (a 38))
set_option maxRecDepth 20000 in
theorem world0 (G : wG) : bB G (ga G) = (wl G wM0).set 20 (ga G 20, .inl (gO G, 5, .inr (.inr (.inr (.inr (up5 (fun i => ga G (19 + i)))))))) := by rfl
theorem hist5 (G : wG) : vp_cell (gO G) (5, .inr (.inr (.inr (.inr (up5 (fun i => ga G (19 + i))))))) = vp_cell (gO G) (5, .inr (.inr (.inr (.inr (fun k => some (ga G (20 + 1 + 9 * k))))))) := by rfl
theorem world_P {G : wG} {H : Heap} (hP : va_P (gD G) vwCl (bB G (ga G)) H) : va_P (gD G) vwCl (wl G wM0) H := by
  rw [world0] at hP
  intro k q hq
  by_cases e : k = 20
  · subst e
    obtain ⟨-, rfl⟩ := wl_of hq
    have h := hP 20 (ga G 20, .inl (gO G, 5, .inr (.inr (.inr (.inr (up5 (fun i => ga G (19 + i)))))))) (by rw [List.getElem?_set_self (by simp [wl])])
    rw [ce8 (show kd 20 = 8 from rfl)]
    show H[ga G 20]? = some (vp_cell (gO G) _)
    rw [← hist5]
    exact h
  · exact hP k q (by rw [List.getElem?_set_ne (fun z => e z.symm)]; exact hq)
theorem world_D {A : Nat → Prop} {G : wG} (hD : va_D A (bB G (ga G))) : gi G ∧ ∀ i, i < 96 → A (ga G i) := by
  rw [world0] at hD
  have at' : ∀ i, i < 96 → ∃ e, ((wl G wM0).set 20 (ga G 20, .inl (gO G, 5, .inr (.inr (.inr (.inr (up5 (fun i => ga G (19 + i)))))))))[i]? = some (ga G i, e) := fun i hi => by
    by_cases e : i = 20
    · subst e
      exact ⟨_, by rw [List.getElem?_set_self (by simp [wl])]⟩
    · exact ⟨_, by rw [List.getElem?_set_ne (fun z => e z.symm)]; exact wl_at hi⟩
  refine ⟨fun i j hi hj hij => ?_, fun i hi => ?_⟩
  · obtain ⟨e1, h1⟩ := at' i hi
    obtain ⟨e2, h2⟩ := at' j hj
    exact hD.1 i j _ _ h1 h2 hij
  · obtain ⟨e1, h1⟩ := at' i hi
    exact hD.2 i _ h1
def wV0 : wV := (fun k => if k = 1 then 60 else if k = 2 then 50 else 0, fun _ => 0, fun _ _ _ => 0)
theorem wV0_ok : OkV wV0 := ⟨by decide, fun w hw => ⟨Nat.zero_le _, fun r hr => absurd hr (Nat.not_lt_zero r), fun r r' h1 h2 => absurd h2 (Nat.not_lt_zero r')⟩⟩
theorem rooms0 {s : Nat} (h : ∀ w, w < 4 → wM0.1 (tk s w) 1 = nI (cap w)) : Rooms s wM0 := h
theorem four {p : Nat → Prop} (h0 : p 0) (h1 : p 1) (h2 : p 2) (h3 : p 3) : ∀ w, w < 4 → p w := fun w hw => by
  rcases (show w = 0 ∨ w = 1 ∨ w = 2 ∨ w = 3 by omega) with rfl | rfl | rfl | rfl
  · exact h0
  · exact h1
  · exact h2
  · exact h3
theorem IC0 (tx : Nat → Int32) : IC wV0 [] 0 tx wM0 := by
  refine ⟨wV0_ok, ⟨fun k hk => ?_, ?_⟩, ⟨0, by omega, rfl, rfl, Nat.zero_le _, fun k V h => ?_, fun j hj => ?_⟩, ?_, rfl, fun k hk => absurd hk (Nat.not_lt_zero k), Or.inl rfl⟩
  · rcases (show k = 0 ∨ k = 1 ∨ k = 2 by omega) with rfl | rfl | rfl <;> rfl
  · refine four ?_ ?_ ?_ ?_ <;> exact ⟨rfl, rfl, fun r f hr _ => absurd hr (Nat.not_lt_zero r)⟩
  · simp at h
  · rcases (show j = 0 ∨ j = 1 ∨ j = 2 ∨ j = 3 ∨ j = 4 by omega) with rfl | rfl | rfl | rfl | rfl <;> exact four rfl rfl rfl rfl
  · exact four rfl rfl rfl rfl
