/-! what stays: all cells but those of P -/
def Fr (P : Nat → Prop) (M M' : wM) : Prop := ∀ i, ¬ P i → M'.1 i = M.1 i ∧ M'.2 i = M.2 i
theorem Fr.rf {P : Nat → Prop} {M : wM} : Fr P M M := fun _ _ => ⟨rfl, rfl⟩
theorem Fr.tr {P : Nat → Prop} {M M' M'' : wM} (h : Fr P M M') (h2 : Fr P M' M'') : Fr P M M'' := fun i hi => ⟨(h2 i hi).1.trans (h i hi).1, (h2 i hi).2.trans (h i hi).2⟩
theorem Fr.mono {P Q : Nat → Prop} {M M' : wM} (h : Fr P M M') (hPQ : ∀ i, P i → Q i) : Fr Q M M' := fun i hi => h i (fun q => hi (hPQ i q))
theorem Fr.st {P : Nat → Prop} {M : wM} {a k : Nat} {v : Int32} (h : P a) : Fr P M (st M a k v) := fun i hi => ⟨st_row (fun q => hi (q ▸ h)), rfl⟩
theorem Fr.stL {P : Nat → Prop} {M : wM} {a : Nat} {v : Int64} (h : P a) : Fr P M (stL M a v) := fun i hi => ⟨rfl, stL_ne (fun q => hi (q ▸ h))⟩
theorem Fr.at {P : Nat → Prop} {M M' : wM} (h : Fr P M M') {i : Nat} (hi : ¬ P i) (j : Nat) : M'.1 i j = M.1 i j := by rw [(h i hi).1]
theorem FU_succ {c : Nat} (h : c < 100000) : ∃ z, FU = z + (c + 1) := ⟨99999 - c, by unfold FU; omega⟩
/-! Track.move, insert, remove -/
theorem move_L {t a b : Nat} (hk : kd t = 5) (ha : a < 20) (hb : b < 20) (hab : a ≠ b) : ∀ (c k fu : Nat) (N : wM), k + c = 4 → c < fu → ∃ M', fX5_move_L2 t (nI a) (nI b) fu (nI k) N = some M' ∧ Fr (fun i => i = t + 1) N M' ∧ (∀ j, (j < 4 * b + k ∨ 4 * b + 4 ≤ j) → M'.1 (t + 1) j = N.1 (t + 1) j) ∧ ∀ f, k ≤ f → f < 4 → M'.1 (t + 1) (4 * b + f) = N.1 (t + 1) (4 * a + f)
  | 0, k, fu, N, hkc, hfu => by
    obtain ⟨fu, rfl⟩ : ∃ z, fu = z + 1 := ⟨fu - 1, by omega⟩
    refine ⟨N, ?_, Fr.rf, fun _ _ => rfl, fun f h1 h2 => absurd h1 (by omega)⟩
    show fX5_move_B2 t _ _ _ (nI k) N = _
    unfold fX5_move_B2
    rw [if_pos (show (4 : Int32) ≤ nI k from (nI_leI (a := 4) (by omega) (by omega)).mpr (by omega))]
  | c + 1, k, fu, N, hkc, hfu => by
    obtain ⟨fu, rfl⟩ : ∃ z, fu = z + 1 := ⟨fu - 1, by omega⟩
    obtain ⟨M', h1, h2, h3, h4⟩ := move_L hk ha hb hab c (k + 1) fu (st N (t + 1) (4 * b + k) (N.1 (t + 1) (4 * a + k))) (by omega) (by omega)
    refine ⟨M', ?_, (Fr.st (P := fun i => i = t + 1) rfl).tr h2, fun j hj => ?_, fun f hf1 hf2 => ?_⟩
    · show fX5_move_B2 t _ _ _ (nI k) N = _
      unfold fX5_move_B2
      rw [if_neg (show ¬ (4 : Int32) ≤ nI k from fun q => absurd ((nI_leI (a := 4) (by omega) (by omega)).mp q) (by omega)), tv_raw hk ha (by omega), bs, ix4, put_in (by rw [lkf5_0 hk]; omega), bs, nIp1]
      exact h1
    · rw [h3 j (by omega), st_col (by omega)]
    · rcases Nat.eq_or_lt_of_le hf1 with rfl | hlt
      · rw [h3 _ (by omega), st_same]
      · rw [h4 f (by omega) hf2, st_col (by omega)]
theorem move_t {t a b : Nat} (hk : kd t = 5) (ha : a < 20) (hb : b < 20) (hab : a ≠ b) (N : wM) : ∃ M', fX5_move t (nI a) (nI b) N = some M' ∧ Fr (fun i => i = t + 1) N M' ∧ (∀ j, (j < 4 * b ∨ 4 * b + 4 ≤ j) → M'.1 (t + 1) j = N.1 (t + 1) j) ∧ ∀ f, f < 4 → M'.1 (t + 1) (4 * b + f) = N.1 (t + 1) (4 * a + f) := by
  obtain ⟨M', h1, h2, h3, h4⟩ := move_L hk ha hb hab 4 0 FU N (by omega) (by unfold FU; omega)
  exact ⟨M', h1, h2, h3, fun f hf => h4 f (by omega) hf⟩
/-- where a reading of time x comes to stand -/
def insK (d0 : Nat → Int32) (x : Int32) : Nat → Nat
  | 0 => 0
  | k + 1 => if x < d0 k then insK d0 x k else k + 1
theorem insK_le {d0 : Nat → Int32} {x : Int32} : ∀ n, insK d0 x n ≤ n
  | 0 => Nat.le_refl _
  | n + 1 => by
    unfold insK
    split
    · exact Nat.le_succ_of_le (insK_le n)
    · exact Nat.le_refl _
def insD (d : Nat → Nat → Int32) (k : Nat) (v : Nat → Int32) : Nat → Nat → Int32 := fun f r => if r < k then d f r else if r = k then v f else d f (r - 1)
def remD (d : Nat → Nat → Int32) (k : Nat) : Nat → Nat → Int32 := fun f r => if r < k then d f r else d f (r + 1)
/-- the four numbers of a reading, in the order of their fields -/
def rd4 (ti p c pt : Int32) : Nat → Int32 := fun f => if f = 0 then ti else if f = 1 then p else if f = 2 then c else pt
theorem insert_J {t k n : Nat} {ti p c pt : Int32} {N : wM} (hk : kd t = 5) (hkn : k < 20) (h2 : N.1 t 2 = nI n) : ∃ M', fX5_insert_J40 t pt ti p c (nI k) N = some (nI k, M') ∧ Fr (fun i => i = t ∨ i = t + 1) N M' ∧ M'.1 t 2 = nI (n + 1) ∧ (∀ j, j ≠ 2 → M'.1 t j = N.1 t j) ∧ (∀ j, (j < 4 * k ∨ 4 * k + 4 ≤ j) → M'.1 (t + 1) j = N.1 (t + 1) j) ∧ ∀ f, f < 4 → M'.1 (t + 1) (4 * k + f) = rd4 ti p c pt f := by
  have e0 : nI k * (4 : Int32) + (0 : Int32) = nI (4 * k + 0) := ix4 k 0
  have e1 : nI k * (4 : Int32) + (1 : Int32) = nI (4 * k + 1) := ix4 k 1
  have e2 : nI k * (4 : Int32) + (2 : Int32) = nI (4 * k + 2) := ix4 k 2
  have e3 : nI k * (4 : Int32) + (3 : Int32) = nI (4 * k + 3) := ix4 k 3
  have hln : ln (t + 1) = 80 := lkf5_0 hk
  unfold fX5_insert_J40
  rw [e0, e1, e2, e3, put_in (by omega), bs, put_in (by omega), bs, put_in (by omega), bs, put_in (by omega), bs]
  refine ⟨_, rfl, ?_, ?_, ?_, ?_, ?_⟩
  · exact (((((Fr.st (Or.inr rfl)).tr (Fr.st (Or.inr rfl))).tr (Fr.st (Or.inr rfl))).tr (Fr.st (Or.inr rfl))).tr (Fr.st (Or.inl rfl)))
  · rw [st_same]
    simp only [st_row (show t ≠ t + 1 by omega), h2]
    exact nIp1 n
  · intro j hj
    rw [st_col hj]
    simp only [st_row (show t ≠ t + 1 by omega)]
  · intro j hj
    rw [st_row (show t + 1 ≠ t by omega)]
    rw [st_col (by omega), st_col (by omega), st_col (by omega), st_col (by omega)]
  · intro f hf
    rw [st_row (show t + 1 ≠ t by omega)]
    rcases (show f = 0 ∨ f = 1 ∨ f = 2 ∨ f = 3 by omega) with rfl | rfl | rfl | rfl
    · rw [st_col (by omega), st_col (by omega), st_col (by omega), st_same]; rfl
    · rw [st_col (by omega), st_col (by omega), st_same]; rfl
    · rw [st_col (by omega), st_same]; rfl
    · rw [st_same]; rfl
theorem insert_L {t n : Nat} {ti p c pt : Int32} {d : Nat → Nat → Int32} (hk : kd t = 5) (hn : n < 20) : ∀ (k fu : Nat) (N : wM), k ≤ n → k < fu → N.1 t 2 = nI n → (∀ r f, f < 4 → r < k → N.1 (t + 1) (4 * r + f) = d f r) → (∀ r f, f < 4 → k < r → r ≤ n → N.1 (t + 1) (4 * r + f) = d f (r - 1)) →
    ∃ M', fX5_insert_L6 t pt ti p c fu (nI k) N = some (nI (insK (d 0) ti k), M') ∧ Fr (fun i => i = t ∨ i = t + 1) N M' ∧ M'.1 t 2 = nI (n + 1) ∧ (∀ j, j ≠ 2 → M'.1 t j = N.1 t j) ∧ ∀ r f, r < n + 1 → f < 4 → M'.1 (t + 1) (4 * r + f) = insD d (insK (d 0) ti k) (rd4 ti p c pt) f r
  | k, fu, N, hkn, hfu, h2, hlo, hhi => by
    obtain ⟨fu, rfl⟩ : ∃ z, fu = z + 1 := ⟨fu - 1, by omega⟩
    have fin : ∃ M', fX5_insert_J40 t pt ti p c (nI k) N = some (nI k, M') ∧ Fr (fun i => i = t ∨ i = t + 1) N M' ∧ M'.1 t 2 = nI (n + 1) ∧ (∀ j, j ≠ 2 → M'.1 t j = N.1 t j) ∧ ∀ r f, r < n + 1 → f < 4 → M'.1 (t + 1) (4 * r + f) = insD d k (rd4 ti p c pt) f r := by
      obtain ⟨M', a1, a2, a3, a4, a5, a6⟩ := insert_J (ti := ti) (p := p) (c := c) (pt := pt) hk (show k < 20 by omega) h2
      refine ⟨M', a1, a2, a3, a4, fun r f hr hf => ?_⟩
      unfold insD
      rcases Nat.lt_trichotomy r k with h | h | h
      · rw [a5 _ (by omega), hlo r f hf h, if_pos h]
      · subst h
        rw [a6 f hf, if_neg (by omega), if_pos rfl]
      · rw [a5 _ (by omega), hhi r f hf h (by omega), if_neg (by omega), if_neg (by omega)]
    show ∃ M', fX5_insert_B6 t pt ti p c _ (nI k) N = _ ∧ _
    unfold fX5_insert_B6
    cases k with
    | zero =>
      rw [if_pos (show nI 0 ≤ (0 : Int32) from by decide)]
      exact fin
    | succ k =>
      have ev : fX5_value t (nI k) (0 : Int32) N = some (d 0 k) := by
        rw [show (0 : Int32) = nI 0 from rfl, tv_raw hk (by omega) (by omega), hlo k 0 (by omega) (by omega)]
      rw [if_neg (show ¬ nI (k + 1) ≤ (0 : Int32) from nI_nle (by omega) (by omega)), nIm1 (by omega), nId1 (by omega), Nat.add_sub_cancel, ev, bs]
      unfold insK
      by_cases hlt : ti < d 0 k
      · rw [if_neg (Int32.not_le.mpr hlt)]
        simp only [if_pos hlt]
        obtain ⟨N1, b1, b2, b3, b4⟩ := move_t hk (show k < 20 by omega) (show k + 1 < 20 by omega) (by omega) N
        rw [b1, bs]
        obtain ⟨M', c1, c2, c3, c4, c5⟩ := insert_L (ti := ti) (p := p) (c := c) (pt := pt) (d := d) hk hn k fu N1 (by omega) (by omega) (by rw [b2.at (show ¬ t = t + 1 by omega), h2]) (fun r f hf hr => by rw [b3 _ (by omega), hlo r f hf (by omega)]) (fun r f hf hr1 hr2 => by
          rcases Nat.eq_or_lt_of_le (show k + 1 ≤ r from hr1) with rfl | h
          · rw [b4 f hf, hlo k f hf (by omega), Nat.add_sub_cancel]
          · rw [b3 _ (by omega), hhi r f hf h hr2])
        exact ⟨M', c1, (b2.mono (fun i hi => Or.inr hi)).tr c2, c3, fun j hj => by rw [c4 j hj, b2.at (show ¬ t = t + 1 by omega)], c5⟩
      · rw [if_pos (Int32.not_lt.mp hlt)]
        simp only [if_neg hlt]
        exact fin
  termination_by k => k
theorem insert_t {t n cp : Nat} {ti p c pt : Int32} {d : Nat → Nat → Int32} {N : wM} (hk : kd t = 5) (hR : RT t N n cp d) (hn : n < 20) :
    ∃ M', fX5_insert t pt ti p c N = some (nI (insK (d 0) ti n), M') ∧ Fr (fun i => i = t ∨ i = t + 1) N M' ∧ RT t M' (n + 1) cp (insD d (insK (d 0) ti n) (rd4 ti p c pt)) := by
  obtain ⟨M', a1, a2, a3, a4, a5⟩ := insert_L (ti := ti) (p := p) (c := c) (pt := pt) (d := d) hk hn n FU N (Nat.le_refl _) (by unfold FU; omega) hR.1 (fun r f hf hr => hR.2.2 r f hr hf) (fun r f hf h1 h2 => absurd h1 (by omega))
  refine ⟨M', ?_, a2, a3, by rw [a4 1 (by omega)]; exact hR.2.1, a5⟩
  unfold fX5_insert
  rw [hR.1]
  exact a1
theorem remove_L {t n x : Nat} {d : Nat → Nat → Int32} (hk : kd t = 5) (hn : n ≤ 20) (hx : x < n) : ∀ (c k fu : Nat) (N : wM), k + c = n → x < k → c < fu → N.1 t 2 = nI n → (∀ r f, f < 4 → r + 1 < k → N.1 (t + 1) (4 * r + f) = remD d x f r) → (∀ r f, f < 4 → k ≤ r → r < n → N.1 (t + 1) (4 * r + f) = d f r) →
    ∃ M', fX5_remove_L4 t (nI x) fu (nI k) N = some M' ∧ Fr (fun i => i = t ∨ i = t + 1) N M' ∧ M'.1 t 2 = nI (n - 1) ∧ (∀ j, j ≠ 2 → M'.1 t j = N.1 t j) ∧ ∀ r f, r < n - 1 → f < 4 → M'.1 (t + 1) (4 * r + f) = remD d x f r
  | 0, k, fu, N, hkc, hxk, hfu, h2, hlo, hhi => by
    obtain ⟨fu, rfl⟩ : ∃ z, fu = z + 1 := ⟨fu - 1, by omega⟩
    refine ⟨st N t 2 (nI n - 1), ?_, Fr.st (Or.inl rfl), ?_, fun j hj => st_col hj, fun r f hr hf => ?_⟩
    · show fX5_remove_B4 t _ _ (nI k) N = _
      unfold fX5_remove_B4
      rw [h2, if_pos ((nI_leI (by omega) (by omega)).mpr (by omega))]
    · rw [st_same]; exact nIm1 (by omega)
    · rw [st_row (by omega), hlo r f hf (by omega)]
  | c + 1, k, fu, N, hkc, hxk, hfu, h2, hlo, hhi => by
    obtain ⟨fu, rfl⟩ : ∃ z, fu = z + 1 := ⟨fu - 1, by omega⟩
    obtain ⟨N1, b1, b2, b3, b4⟩ := move_t hk (show k < 20 by omega) (show k - 1 < 20 by omega) (by omega) N
    obtain ⟨M', c1, c2, c3, c4, c5⟩ := remove_L (d := d) hk hn hx c (k + 1) fu N1 (by omega) (by omega) (by omega) (by rw [b2.at (show ¬ t = t + 1 by omega), h2]) (fun r f hf hr => by
        rcases Nat.eq_or_lt_of_le (show r ≤ k - 1 by omega) with h | h
        · subst h
          rw [b4 f hf, hhi k f hf (by omega) (by omega)]
          unfold remD
          rw [if_neg (by omega), Nat.sub_add_cancel (by omega)]
        · rw [b3 _ (by omega), hlo r f hf (by omega)]) (fun r f hf h1 h2 => by rw [b3 _ (by omega), hhi r f hf (by omega) h2])
    refine ⟨M', ?_, (b2.mono (fun i hi => Or.inr hi)).tr c2, c3, fun j hj => by rw [c4 j hj, b2.at (show ¬ t = t + 1 by omega)], c5⟩
    show fX5_remove_B4 t _ _ (nI k) N = _
    unfold fX5_remove_B4
    rw [h2, if_neg (by rw [nI_leI (by omega) (by omega)]; omega), nIm1 (by omega), b1, bs, nIp1]
    exact c1
theorem remove_t {t n cp x : Nat} {d : Nat → Nat → Int32} {N : wM} (hk : kd t = 5) (hR : RT t N n cp d) (hn : n ≤ 20) (hx : x < n) :
    ∃ M', fX5_remove t (nI x) N = some M' ∧ Fr (fun i => i = t ∨ i = t + 1) N M' ∧ RT t M' (n - 1) cp (remD d x) := by
  obtain ⟨M', a1, a2, a3, a4, a5⟩ := remove_L (d := d) hk hn hx (n - (x + 1)) (x + 1) FU N (by omega) (by omega) (by unfold FU; omega) hR.1 (fun r f hf hr => by
    unfold remD; rw [if_pos (by omega)]; exact hR.2.2 r f (by omega) hf) (fun r f hf h1 h2 => hR.2.2 r f h2 hf)
  refine ⟨M', ?_, a2, a3, by rw [a4 1 (by omega)]; exact hR.2.1, a5⟩
  unfold fX5_remove
  rw [nIp1]
  exact a1
/-! copies -/
theorem copyT_t {t u : Nat} {M : wM} (hk : kd t = 5) (hu : kd u = 5) : fX5_copyFrom t u M = some (st (cpM M (u + 1) (t + 1) 80) t 2 (M.1 u 2)) := by
  unfold fX5_copyFrom
  have h1 : ln (t + 1) = 80 := lkf5_0 hk
  have h2 : ln (u + 1) = 80 := lkf5_0 hu
  have hkd : kd (t + 1) = 20 := kf5_0 hk
  rw [h1, h2, if_neg (show ¬ nI 80 < nI 80 from by decide), show cpG (nI 80) 80 80 = some 80 from by decide, bs]
  have e : (cpM M (u + 1) (t + 1) 80).1 u 2 = M.1 u 2 := by
    have hne : u ≠ t + 1 := fun q => by rw [q, hkd] at hu; exact absurd hu (by decide)
    simp [cpM, hne]
  rw [e]
theorem cpM_row {M : wM} {a b n i : Nat} (h : i ≠ b) : (cpM M a b n).1 i = M.1 i := by funext j; simp [cpM, h]
theorem cpM_in {M : wM} {a b n j : Nat} (h : j < n) : (cpM M a b n).1 b j = M.1 a j := by simp [cpM, va_cpy, h]
theorem copyT_RT {t u n cp cp2 : Nat} {M : wM} {d : Nat → Nat → Int32} (hk : kd t = 5) (hu : kd u = 5) (hR : RT u M n cp d) (hn : n ≤ 20) (hc : M.1 t 1 = nI cp2) :
    ∃ M', fX5_copyFrom t u M = some M' ∧ Fr (fun i => i = t ∨ i = t + 1) M M' ∧ RT t M' n cp2 d := by
  refine ⟨_, copyT_t hk hu, fun i hi => ⟨?_, rfl⟩, ?_, ?_, fun r f hr hf => ?_⟩
  · rw [st_row (fun q => hi (Or.inl q)), cpM_row (fun q => hi (Or.inr q))]
  · rw [st_same]; exact hR.1
  · rw [st_col (by omega), cpM_row (by omega)]; exact hc
  · rw [st_row (by omega), cpM_in (by omega)]; exact hR.2.2 r f hr hf
