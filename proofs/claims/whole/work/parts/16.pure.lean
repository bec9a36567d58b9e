/-! pure rows on the tree's row -/
theorem i64_le (x y : Int32) : (x.toInt64 ≤ y.toInt64) = (x ≤ y) := by
  rw [Int64.le_iff_toInt_le, Int32.le_iff_toInt_le, Int32.toInt_toInt64, Int32.toInt_toInt64]
theorem l_le_1 (x : Int32) : (x.toInt64 ≤ 1) = (x ≤ 1) := i64_le x 1
theorem l_le_2 (x : Int32) : (x.toInt64 ≤ 2) = (x ≤ 2) := i64_le x 2
theorem l_le_3 (x : Int32) : (x.toInt64 ≤ 3) = (x ≤ 3) := i64_le x 3
theorem l_le_5 (x : Int32) : (x.toInt64 ≤ 5) = (x ≤ 5) := i64_le x 5
theorem l_le_7 (x : Int32) : (x.toInt64 ≤ 7) = (x ≤ 7) := i64_le x 7
theorem l_le_8 (x : Int32) : (x.toInt64 ≤ 8) = (x ≤ 8) := i64_le x 8
theorem l_le_9 (x : Int32) : (x.toInt64 ≤ 9) = (x ≤ 9) := i64_le x 9
theorem l_le_10 (x : Int32) : (x.toInt64 ≤ 10) = (x ≤ 10) := i64_le x 10
theorem l_le_13 (x : Int32) : (x.toInt64 ≤ 13) = (x ≤ 13) := i64_le x 13
theorem l_le_20 (x : Int32) : (x.toInt64 ≤ 20) = (x ≤ 20) := i64_le x 20
theorem l_le_30 (x : Int32) : (x.toInt64 ≤ 30) = (x ≤ 30) := i64_le x 30
theorem l_le_60 (x : Int32) : (x.toInt64 ≤ 60) = (x ≤ 60) := i64_le x 60
theorem l_le_99 (x : Int32) : (x.toInt64 ≤ 99) = (x ≤ 99) := i64_le x 99
theorem l_le_9999 (x : Int32) : (x.toInt64 ≤ 9999) = (x ≤ 9999) := i64_le x 9999
theorem l_ge_0 (x : Int32) : (0 ≤ x.toInt64) = (0 ≤ x) := i64_le 0 x
theorem l_ge_1 (x : Int32) : (1 ≤ x.toInt64) = (1 ≤ x) := i64_le 1 x
theorem l_ge_6 (x : Int32) : (6 ≤ x.toInt64) = (6 ≤ x) := i64_le 6 x
theorem l_ge_m1 (x : Int32) : ((-1) ≤ x.toInt64) = ((-1) ≤ x) := i64_le (-1) x
theorem inN {o : Int32} {n : Nat} (h : 0 ≤ o ∧ o < nI n) (hn : n < 2 ^ 31) : ∃ j, j < n ∧ o = nI j := by
  rcases pk_ix o hn with h1 | h1 | h1
  · exact absurd h.1 (Int32.not_le.mpr h1)
  · exact absurd h.2 (Int32.not_lt.mpr h1)
  · exact h1
theorem inNc {o : Int32} {n : Nat} (c : Int32) (hc : c = nI n) (h : 0 ≤ o ∧ o ≤ c) (hn : n < 2 ^ 31) : ∃ j, j ≤ n ∧ o = nI j := by
  subst hc
  by_cases h1 : o = nI n
  · exact ⟨n, Nat.le_refl n, h1⟩
  · obtain ⟨j, hj, e⟩ := inN ⟨h.1, by grind⟩ hn
    exact ⟨j, by omega, e⟩
theorem wi_rng (v : Int32) : ∃ f, f ≤ 9 ∧ wi v = nI f := by
  unfold wi
  by_cases h1 : v < 0
  · exact ⟨0, by omega, by rw [if_pos h1]; rfl⟩
  · rw [if_neg h1]
    by_cases h2 : 9 < v
    · exact ⟨9, by omega, by rw [if_pos h2]; rfl⟩
    · rw [if_neg h2]
      exact inNc 9 rfl ⟨Int32.not_lt.mp h1, Int32.not_lt.mp h2⟩ (by decide)
theorem lea_rng {a m : Nat} (hm : m < 1000) (h : a ≤ m) : ∃ b, b ≤ m ∧ lea (nI m) (nI a + 1) = nI b := by
  unfold lea
  rw [nI_1]
  by_cases h1 : nI m < nI (a + 1)
  · exact ⟨m, Nat.le_refl m, by rw [if_pos h1]⟩
  · rw [if_neg h1]
    refine ⟨a + 1, ?_, rfl⟩
    rcases Nat.lt_or_ge m (a + 1) with h2 | h2
    · exact absurd (nI_lt h2 (by omega)) h1
    · exact h2
theorem yearR_at (s : Nat → Int32) (st : Nat → Bool) (n : Nat) (sum : Int32) (o k : Nat) : yearR s st n sum (8 + 6 * o + k) = ybS s st n (8 + 6 * o + k) := by
  unfold yearR
  rw [if_neg (by omega), if_neg (by omega)]
theorem WF_year {s : Nat → Int32} {n : Nat} (h : WF s n) (st : Nat → Bool) (sum : Int32) : WF (yearR s st n sum) n := by
  refine ⟨?_, h.2.1, fun o ho => ?_⟩
  · unfold yearR
    rw [if_neg (by omega), if_neg (by omega), ybS_low _ _ _ _ (by omega)]
    exact h.1
  · obtain ⟨k0, k1, k2, k3, k4, k5⟩ := h.2.2 o ho
    simp only [yearR_at]
    rw [ybS_at s st ho (show 0 < 6 by omega), ybS_at s st ho (show 1 < 6 by omega), ybS_at s st ho (show 2 < 6 by omega), ybS_at s st ho (show 3 < 6 by omega), ybS_at s st ho (show 4 < 6 by omega), ybS_at s st ho (show 5 < 6 by omega)]
    refine ⟨by simpa using k0, by simpa using k1, ?_, ?_, by simpa using k4, ?_⟩
    · simp only [if_true]
      by_cases hs : st o = true
      · rw [if_pos hs]; exact wi_rng _
      · rw [if_neg hs]; exact k2
    · rw [if_neg (by omega), if_pos rfl]
      by_cases hs : st o = true
      · rw [if_pos hs]
        obtain ⟨a, ha, ea⟩ := k3
        rw [ea]
        exact lea_rng (m := 99) (by omega) ha
      · rw [if_neg hs]; exact k3
    · rw [if_neg (by omega), if_neg (by omega), if_pos rfl]
      by_cases hc : s (8 + 6 * o + 5 - 1) = 1
      · rw [if_pos hc]
        obtain ⟨a, ha, ea⟩ := k5
        rw [ea]
        exact lea_rng (m := 9) (by omega) ha
      · rw [if_neg hc]; exact ⟨0, by omega, rfl⟩
/-- rows behind years, what is borne in them -/
def yrs (s : Nat → Int32) (n : Nat) : Nat → (Nat → Int32)
  | 0 => s
  | k + 1 => yearS (yrs s n k) n
def hvS (s : Nat → Int32) (n : Nat) : Nat → Int32
  | 0 => 0
  | k + 1 => hvS s n k + sumS (yrs s n k) n
theorem WF_yrs {s : Nat → Int32} {n : Nat} (h : WF s n) : ∀ k, WF (yrs s n k) n := by
  intro k
  induction k with
  | zero => exact h
  | succ k ih => exact WF_year ih _ _
theorem yr_hi (s : Nat → Int32) (st : Nat → Bool) {n : Nat} (hn : n ≤ 8) (sum : Int32) {j : Nat} (hj : 56 ≤ j) : yearR s st n sum j = s j := by
  unfold yearR ybS
  rw [if_neg (by omega), if_neg (by omega), if_neg (by omega)]
theorem yrs_hi (s : Nat → Int32) {n : Nat} (hn : n ≤ 8) {j : Nat} (hj : 56 ≤ j) : ∀ k, yrs s n k j = s j := by
  intro k
  induction k with
  | zero => rfl
  | succ k ih => rw [yrs, yearS, yr_hi _ _ hn _ hj, ih]
/-- a set is cut -/
def ctR (s : Nat → Int32) (set : Int32) (m : Nat) : Nat → Int32 := fun j => if 8 ≤ j ∧ j < 8 + 6 * m ∧ (j - 8) % 6 = 4 then s j ||| (if bt set ((j - 8) / 6) = true then 1 else 0) else s j
theorem ctR_0 (s : Nat → Int32) (set : Int32) : ctR s set 0 = s := by
  funext j
  unfold ctR
  rw [if_neg (by omega)]
theorem ctR_own (s : Nat → Int32) (set : Int32) (m k : Nat) : ctR s set m (8 + 6 * m + k) = s (8 + 6 * m + k) := by
  unfold ctR
  rw [if_neg (by omega)]
theorem ctR_low (s : Nat → Int32) (set : Int32) (m : Nat) {j : Nat} (h : j < 8) : ctR s set m j = s j := by
  unfold ctR
  rw [if_neg (by omega)]
theorem ctR_hi (s : Nat → Int32) (set : Int32) {m : Nat} (hm : m ≤ 8) {j : Nat} (h : 56 ≤ j) : ctR s set m j = s j := by
  unfold ctR
  rw [if_neg (by omega)]
theorem ctR_at (s : Nat → Int32) (set : Int32) {m o k : Nat} (ho : o < m) (hk : k < 6) : ctR s set m (8 + 6 * o + k) = if k = 4 then s (8 + 6 * o + k) ||| (if bt set o = true then 1 else 0) else s (8 + 6 * o + k) := by
  have e1 : (8 + 6 * o + k - 8) % 6 = k := by omega
  have e2 : (8 + 6 * o + k - 8) / 6 = o := by omega
  unfold ctR
  rw [e1, e2]
  by_cases h4 : k = 4
  · rw [if_pos (by omega), if_pos h4]
  · rw [if_neg (by omega), if_neg h4]
theorem ctR_step (s : Nat → Int32) (set : Int32) (m : Nat) : upd (ctR s set m) (8 + 6 * m + 4) (s (8 + 6 * m + 4) ||| (if bt set m = true then 1 else 0)) = ctR s set (m + 1) := by
  funext j
  by_cases e : j = 8 + 6 * m + 4
  · subst e
    rw [ctR_at s set (show m < m + 1 by omega) (show 4 < 6 by omega)]
    simp [upd]
  · have e0 : upd (ctR s set m) (8 + 6 * m + 4) (s (8 + 6 * m + 4) ||| (if bt set m = true then 1 else 0)) j = ctR s set m j := by simp [upd, e]
    rw [e0]
    unfold ctR
    by_cases h : 8 ≤ j ∧ j < 8 + 6 * m ∧ (j - 8) % 6 = 4
    · rw [if_pos h, if_pos (show 8 ≤ j ∧ j < 8 + 6 * (m + 1) ∧ (j - 8) % 6 = 4 by omega)]
    · rw [if_neg h, if_neg (show ¬ (8 ≤ j ∧ j < 8 + 6 * (m + 1) ∧ (j - 8) % 6 = 4) by omega)]
theorem WF_ctR {s : Nat → Int32} {n : Nat} (h : WF s n) (set : Int32) : WF (ctR s set n) n := by
  refine ⟨by rw [ctR_low _ _ _ (by omega)]; exact h.1, h.2.1, fun o ho => ?_⟩
  obtain ⟨k0, k1, k2, k3, k4, k5⟩ := h.2.2 o ho
  rw [ctR_at s set ho (show 0 < 6 by omega), ctR_at s set ho (show 1 < 6 by omega), ctR_at s set ho (show 2 < 6 by omega), ctR_at s set ho (show 3 < 6 by omega), ctR_at s set ho (show 4 < 6 by omega), ctR_at s set ho (show 5 < 6 by omega)]
  refine ⟨by simpa using k0, by simpa using k1, by simpa using k2, by simpa using k3, ?_, by simpa using k5⟩
  rw [if_pos rfl]
  rcases k4 with e | e <;> rw [e] <;> by_cases hb : bt set o = true <;> simp only [hb, if_true, if_false, Bool.false_eq_true] <;> decide
theorem WF_upd {s : Nat → Int32} {n : Nat} (h : WF s n) {j : Nat} (v : Int32) (h0 : j ≠ 0) (hv : ∀ o k, o < n → k < 6 → j = 8 + 6 * o + k → (k = 0 → ∃ a, a ≤ 5 ∧ v = nI a) ∧ (k = 1 → ∃ a, a ≤ o ∧ v = nI a) ∧ (k = 2 → ∃ a, a ≤ 9 ∧ v = nI a) ∧ (k = 3 → ∃ a, a ≤ 99 ∧ v = nI a) ∧ (k = 4 → v = 0 ∨ v = 1) ∧ (k = 5 → ∃ a, a ≤ 9 ∧ v = nI a)) : WF (upd s j v) n := by
  refine ⟨by rw [pk_un (by omega)]; exact h.1, h.2.1, fun o ho => ?_⟩
  obtain ⟨k0, k1, k2, k3, k4, k5⟩ := h.2.2 o ho
  have key : ∀ k, k < 6 → (upd s j v (8 + 6 * o + k) = s (8 + 6 * o + k)) ∨ (j = 8 + 6 * o + k ∧ upd s j v (8 + 6 * o + k) = v) := by
    intro k _
    by_cases e : 8 + 6 * o + k = j
    · exact Or.inr ⟨e.symm, by rw [e]; exact pk_us⟩
    · exact Or.inl (pk_un e)
  refine ⟨?_, ?_, ?_, ?_, ?_, ?_⟩
  · rcases key 0 (by omega) with e | ⟨e, e2⟩
    · rw [e]; exact k0
    · rw [e2]; exact (hv o 0 ho (by omega) e).1 rfl
  · rcases key 1 (by omega) with e | ⟨e, e2⟩
    · rw [e]; exact k1
    · rw [e2]; exact (hv o 1 ho (by omega) e).2.1 rfl
  · rcases key 2 (by omega) with e | ⟨e, e2⟩
    · rw [e]; exact k2
    · rw [e2]; exact (hv o 2 ho (by omega) e).2.2.1 rfl
  · rcases key 3 (by omega) with e | ⟨e, e2⟩
    · rw [e]; exact k3
    · rw [e2]; exact (hv o 3 ho (by omega) e).2.2.2.1 rfl
  · rcases key 4 (by omega) with e | ⟨e, e2⟩
    · rw [e]; exact k4
    · rw [e2]; exact (hv o 4 ho (by omega) e).2.2.2.2.1 rfl
  · rcases key 5 (by omega) with e | ⟨e, e2⟩
    · rw [e]; exact k5
    · rw [e2]; exact (hv o 5 ho (by omega) e).2.2.2.2.2 rfl
/-- how many are in a set (of eight) -/
def pcF : Nat → Nat → Nat
  | 0, _ => 0
  | f + 1, a => if a = 0 then 0 else 1 + pcF f (a &&& (a - 1))
def pcN (a : Nat) : Nat := pcF 256 a
theorem pc_step : ∀ a, a < 256 → a ≠ 0 → (nI a &&& (nI a - 1)) = nI (a &&& (a - 1)) ∧ a &&& (a - 1) < a := by decide +kernel
def bsN (st : Nat → Bool) : Nat → Nat
  | 0 => 0
  | k + 1 => bsN st k + (if st k = true then 2 ^ k else 0)
theorem bsN_lt (st : Nat → Bool) : ∀ k, bsN st k < 2 ^ k := by
  intro k
  induction k with
  | zero => simp [bsN]
  | succ k ih =>
    rw [bsN, Nat.pow_succ]
    split <;> omega
theorem bs_or : ∀ k, k < 8 → ∀ a, a < 128 → a < 2 ^ k → nI a ||| ((1 : Int32) <<< (nI k &&& 31)) = nI (a + 2 ^ k) := by decide +kernel
theorem bsF_N (st : Nat → Bool) : ∀ k, k ≤ 8 → bsF st k = nI (bsN st k) := by
  intro k
  induction k with
  | zero => intro _; rfl
  | succ k ih =>
    intro hk
    rw [bsF, bsN, ih (by omega)]
    have h1 := bsN_lt st k
    have h2 : (2 : Nat) ^ k ≤ 2 ^ 7 := Nat.pow_le_pow_right (by omega) (by omega)
    by_cases hs : st k = true
    · rw [if_pos hs, if_pos hs, bs_or k (by omega) _ (by omega) h1]
    · rw [if_neg hs, if_neg hs, Int32.or_zero, Nat.add_zero]
