/-! pure facts: numbers, rows, and the readings of one track in the class and in the reference -/
theorem bs {α β : Type} {a : α} {f : α → Option β} : (some a).bind f = f a := rfl
theorem b2_t : b2 true = 1 := rfl
theorem b2_f : b2 false = 0 := rfl
theorem b2_0 (b : Bool) : (b2 b = 0) ↔ b = false := by cases b <;> decide
theorem b2_1 (b : Bool) : (b2 b = 1) ↔ b = true := by cases b <;> decide
theorem nIm1 {k : Nat} (h : 0 < k) : nI k - (1 : Int32) = nI (k - 1) := by
  have e := pk_sub (a := k) (b := 1) h
  exact e
theorem nIp1 (k : Nat) : nI k + (1 : Int32) = nI (k + 1) := nI_1 k
theorem nId1 {k : Nat} (h : 0 < k) : nI k + (-1 : Int32) = nI (k - 1) := by
  obtain ⟨j, rfl⟩ : ∃ j, k = j + 1 := ⟨k - 1, by omega⟩
  exact pk_m1 j
theorem ln_lt (a : Nat) : ln a < 2000 := by
  rcases Nat.lt_or_ge a 96 with h | h
  · have key : ∀ j, j < 96 → ln j < 2000 := by decide +kernel
    exact key a h
  · have e0 : lnL[a]? = none := List.getElem?_eq_none (by have e : lnL.length = 96 := rfl; omega)
    show (lnL[a]?).getD 0 < 2000
    rw [e0]; decide
theorem ix_in {k n : Nat} (h : k < n) (hn : n < 2 ^ 31) : ix (nI k) n = some k := by
  unfold ix
  rw [nI_clamp (by omega), if_neg (fun q => q.elim (nI_pos (by omega)) (fun q => absurd h (by omega)))]
theorem at_in {a k : Nat} {M : wM} (h : k < ln a) : fX6_at a (nI k) M = some (M.1 a k) := by
  have hl := ln_lt a
  unfold fX6_at
  rw [if_neg (nI_pos (by omega)), if_neg (by rw [nI_leI (by omega) (by omega)]; omega), ix_in h (by omega)]
  rfl
theorem put_in {a k : Nat} {v : Int32} {M : wM} (h : k < ln a) : fX6_put a (nI k) v M = some (st M a k v) := by
  have hl := ln_lt a
  unfold fX6_put
  rw [if_neg (nI_pos (by omega)), if_neg (by rw [nI_leI (by omega) (by omega)]; omega), ix_in h (by omega)]
  rfl
theorem ix4 (r f : Nat) : nI r * (4 : Int32) + nI f = nI (4 * r + f) := by
  rw [show (4 : Int32) = nI 4 from rfl, pk_mul, nI_add, Nat.mul_comm]
/-! searching and folding upward, with the count of places left -/
def anyF (p : Nat → Bool) : Nat → Nat → Bool
  | _, 0 => false
  | k, c + 1 => p k || anyF p (k + 1) c
theorem anyF_iff {p : Nat → Bool} : ∀ {c k : Nat}, anyF p k c = true ↔ ∃ j, k ≤ j ∧ j < k + c ∧ p j = true
  | 0, k => by simp [anyF]; omega
  | c + 1, k => by
    simp only [anyF, Bool.or_eq_true, anyF_iff (c := c) (k := k + 1)]
    constructor
    · rintro (h | ⟨j, h1, h2, h3⟩)
      · exact ⟨k, by omega, by omega, h⟩
      · exact ⟨j, by omega, by omega, h3⟩
    · rintro ⟨j, h1, h2, h3⟩
      rcases Nat.eq_or_lt_of_le h1 with rfl | h
      · exact Or.inl h3
      · exact Or.inr ⟨j, by omega, by omega, h3⟩
theorem anyF_cong {p q : Nat → Bool} : ∀ {c k : Nat}, (∀ j, k ≤ j → j < k + c → p j = q j) → anyF p k c = anyF q k c
  | 0, k, _ => rfl
  | c + 1, k, h => by
    rw [anyF, anyF, h k (by omega) (by omega), anyF_cong (c := c) (k := k + 1) (fun j h1 h2 => h j (by omega) (by omega))]
/-- the first place from k on that passes, else the end -/
def fstF (p : Nat → Bool) : Nat → Nat → Nat
  | k, 0 => k
  | k, c + 1 => if p k then k else fstF p (k + 1) c
def foldF {σ : Type} (g : σ → Nat → σ) : Nat → Nat → σ → σ
  | _, 0, s => s
  | k, c + 1, s => foldF g (k + 1) c (g s k)
/-- the last place below k that passes -/
def dnF (p : Nat → Bool) : Nat → Option Nat
  | 0 => none
  | k + 1 => if p k then some k else dnF p k
theorem dnF_lt {p : Nat → Bool} : ∀ {k j : Nat}, dnF p k = some j → j < k ∧ p j = true
  | 0, j, h => by cases h
  | k + 1, j, h => by
    unfold dnF at h
    split at h
    · next q => cases h; exact ⟨by omega, q⟩
    · have := dnF_lt h; exact ⟨by omega, this.2⟩
/-! one track: n readings, room cp; d f r is the f-th number (time, pressure, temperature, point) of reading r -/
def RT (t : Nat) (M : wM) (n cp : Nat) (d : Nat → Nat → Int32) : Prop := M.1 t 2 = nI n ∧ M.1 t 1 = nI cp ∧ ∀ r f, r < n → f < 4 → M.1 (t + 1) (4 * r + f) = d f r
theorem tv_raw {t r f : Nat} {M : wM} (hk : kd t = 5) (hr : r < 20) (hf : f < 4) : fX5_value t (nI r) (nI f) M = some (M.1 (t + 1) (4 * r + f)) := by
  unfold fX5_value
  rw [ix4, at_in (by rw [lkf5_0 hk]; omega)]
  rfl
section TR
variable {t n cp : Nat} {M : wM} {d : Nat → Nat → Int32} (hk : kd t = 5) (hR : RT t M n cp d) (hn : n ≤ 20)
theorem tv {r f : Nat} (hk : kd t = 5) (hR : RT t M n cp d) (hn : n ≤ 20) (hr : r < n) (hf : f < 4) : fX5_value t (nI r) (nI f) M = some (d f r) := by
  rw [tv_raw hk (by omega) hf, hR.2.2 r f hr hf]
theorem tv0 {r : Nat} (hk : kd t = 5) (hR : RT t M n cp d) (hn : n ≤ 20) (hr : r < n) : fX5_value t (nI r) (0 : Int32) M = some (d 0 r) := tv (f := 0) hk hR hn hr (by omega)
theorem tv1 {r : Nat} (hk : kd t = 5) (hR : RT t M n cp d) (hn : n ≤ 20) (hr : r < n) : fX5_value t (nI r) (1 : Int32) M = some (d 1 r) := tv (f := 1) hk hR hn hr (by omega)
theorem tv2 {r : Nat} (hk : kd t = 5) (hR : RT t M n cp d) (hn : n ≤ 20) (hr : r < n) : fX5_value t (nI r) (2 : Int32) M = some (d 2 r) := tv (f := 2) hk hR hn hr (by omega)
theorem tv3 {r : Nat} (hk : kd t = 5) (hR : RT t M n cp d) (hn : n ≤ 20) (hr : r < n) : fX5_value t (nI r) (3 : Int32) M = some (d 3 r) := tv (f := 3) hk hR hn hr (by omega)
theorem hasTime_L {x : Int32} (hk : kd t = 5) (hR : RT t M n cp d) (hn : n ≤ 20) : ∀ (c k fu : Nat), k + c = n → c < fu → fX5_hasTime_L2 t x M fu (nI k) = some (anyF (fun r => decide (d 0 r = x)) k c)
  | 0, k, fu, hkc, hfu => by
    obtain ⟨fu, rfl⟩ : ∃ z, fu = z + 1 := ⟨fu - 1, by omega⟩
    show fX5_hasTime_B2 t x M _ (nI k) = _
    unfold fX5_hasTime_B2
    rw [hR.1, if_pos ((nI_leI (by omega) (by omega)).mpr (by omega))]
    rfl
  | c + 1, k, fu, hkc, hfu => by
    obtain ⟨fu, rfl⟩ : ∃ z, fu = z + 1 := ⟨fu - 1, by omega⟩
    show fX5_hasTime_B2 t x M _ (nI k) = _
    unfold fX5_hasTime_B2
    rw [hR.1, if_neg (by rw [nI_leI (by omega) (by omega)]; omega), tv0 hk hR hn (by omega), bs, nIp1, hasTime_L hk hR hn c (k + 1) fu (by omega) (by omega), anyF]
    by_cases h : d 0 k = x
    · rw [if_pos h, decide_eq_true h, Bool.true_or]
    · rw [if_neg h, decide_eq_false h, Bool.false_or]
theorem hasTime_t {x : Int32} (hk : kd t = 5) (hR : RT t M n cp d) (hn : n ≤ 20) : fX5_hasTime t x M = some (anyF (fun r => decide (d 0 r = x)) 0 n) := hasTime_L hk hR hn n 0 FU (by omega) (by unfold FU; omega)
theorem isFull_t (hR : RT t M n cp d) (hn : n ≤ 20) (hc : cp ≤ 20) : fX5_isFull t M = some (decide (cp ≤ n)) := by
  unfold fX5_isFull
  rw [hR.1, hR.2.1]
  by_cases h : cp ≤ n
  · rw [if_neg (by rw [nI_ltI (by omega) (by omega)]; omega), decide_eq_true h]
  · rw [if_pos ((nI_ltI (by omega) (by omega)).mpr (by omega)), decide_eq_false h]
/-- a gust, by the numbers -/
def gustF (n : Nat) (d : Nat → Nat → Int32) (g : Int32) (r : Nat) : Bool :=
  if r = 0 ∨ n ≤ r + 1 then false else
  (decide (g < d 1 r - d 1 (r - 1)) && decide (g < d 1 r - d 1 (r + 1))) || (decide (d 1 r - d 1 (r - 1) < -g) && decide (d 1 r - d 1 (r + 1) < -g))
theorem standsOut_t {g : Int32} {r : Nat} (hk : kd t = 5) (hR : RT t M n cp d) (hn : n ≤ 20) (hr : r < n) : fX5_standsOut t (nI r) g M = some (gustF n d g r) := by
  unfold fX5_standsOut gustF
  by_cases h0 : r = 0
  · subst h0
    rw [if_pos (show nI 0 ≤ (0 : Int32) from by decide), if_pos (Or.inl rfl)]
  rw [if_neg (show ¬ nI r ≤ (0 : Int32) from nI_nle (by omega) (by omega)), hR.1, nIm1 (by omega)]
  by_cases h1 : n ≤ r + 1
  · rw [if_neg (by rw [nI_ltI (by omega) (by omega)]; omega), if_pos (Or.inr h1)]
  rw [if_pos ((nI_ltI (by omega) (by omega)).mpr (by omega)), if_neg (by omega), nIm1 (by omega), nIp1, tv1 hk hR hn hr, tv1 hk hR hn (by omega), tv1 hk hR hn (by omega)]
  simp only [bs]
  generalize d 1 r - d 1 (r - 1) = u
  generalize d 1 r - d 1 (r + 1) = v
  have hle : ∀ a b : Int32, (a ≤ b) = ¬ (b < a) := fun a b => propext Int32.not_lt.symm
  unfold fX5_standsOut_J59
  simp only [hle]
  by_cases a1 : g < u <;> by_cases a2 : g < v <;> by_cases a3 : u < -g <;> by_cases a4 : v < -g <;> simp [a1, a2, a3, a4]
end TR
