/-! bits (the first family of kit/laws/BITS.to-paste, pasted) -/
def bt (x : Int32) (i : Nat) : Bool := x.toBitVec.getLsbD i
theorem b_ext {x y : Int32} (h : ∀ i, i < 32 → bt x i = bt y i) : x = y := Int32.toBitVec_inj.mp (BitVec.eq_of_getLsbD_eq (fun i hi => h i hi))
theorem b_or (x y : Int32) (i : Nat) : bt (x ||| y) i = (bt x i || bt y i) := by unfold bt; rw [Int32.toBitVec_or, BitVec.getLsbD_or]
theorem b_and (x y : Int32) (i : Nat) : bt (x &&& y) i = (bt x i && bt y i) := by unfold bt; rw [Int32.toBitVec_and, BitVec.getLsbD_and]
theorem b_xor (x y : Int32) (i : Nat) : bt (x ^^^ y) i = (bt x i ^^ bt y i) := by unfold bt; rw [Int32.toBitVec_xor, BitVec.getLsbD_xor]
theorem b_big {x : Int32} {i : Nat} (h : 32 ≤ i) : bt x i = false := BitVec.getLsbD_of_ge _ _ h
theorem b_255 (i : Nat) : bt 255 i = decide (i < 8) := by
  rcases Nat.lt_or_ge i 32 with h | h
  · exact (by decide +kernel : ∀ i, i < 32 → bt 255 i = decide (i < 8)) i h
  · rw [b_big h, decide_eq_false (by omega)]
theorem b_65535 (i : Nat) : bt 65535 i = decide (i < 16) := by
  rcases Nat.lt_or_ge i 32 with h | h
  · exact (by decide +kernel : ∀ i, i < 32 → bt 65535 i = decide (i < 16)) i h
  · rw [b_big h, decide_eq_false (by omega)]
theorem b_m1 : ∀ i, i < 32 → bt (-1) i = true := by decide +kernel
theorem b_0 (i : Nat) : bt 0 i = false := BitVec.getLsbD_zero
theorem s_l : ∀ n, n < 32 → ((nI n &&& 31).toBitVec.smod 32).toNat = n := by decide +kernel
theorem s_u : ∀ n, n < 32 → (((nI n).toUInt32 &&& Int32.toUInt32 31).toBitVec % 32).toNat = n := by decide +kernel
theorem b_shl (n : Nat) (hn : n < 32) (x : Int32) {i : Nat} (hi : i < 32) : bt (x <<< (nI n &&& 31)) i = (decide (n ≤ i) && bt x (i - n)) := by
  unfold bt
  rw [Int32.toBitVec_shiftLeft]
  show (x.toBitVec <<< ((nI n &&& 31).toBitVec.smod 32).toNat).getLsbD i = _
  rw [s_l n hn, BitVec.getLsbD_shiftLeft]
  rcases Nat.lt_or_ge i n with h | h
  · simp [h, Nat.not_le.mpr h]
  · simp [hi, h, Nat.not_lt.mpr h]
theorem b_ushr (n : Nat) (hn : n < 32) (x : Int32) (i : Nat) : bt ((x.toUInt32 >>> ((nI n).toUInt32 &&& Int32.toUInt32 31)).toInt32) i = bt x (n + i) := by
  show (x.toUInt32 >>> ((nI n).toUInt32 &&& Int32.toUInt32 31)).toBitVec.getLsbD i = x.toUInt32.toBitVec.getLsbD (n + i)
  rw [UInt32.toBitVec_shiftRight]
  show (x.toUInt32.toBitVec >>> (((nI n).toUInt32 &&& Int32.toUInt32 31).toBitVec % 32).toNat).getLsbD i = _
  rw [s_u n hn, BitVec.getLsbD_ushiftRight]
theorem b_sshr (n : Nat) (hn : n < 32) (x : Int32) {i : Nat} (hi : i < 32) : bt (x >>> (nI n &&& 31)) i = if n + i < 32 then bt x (n + i) else bt x 31 := by
  unfold bt
  rw [Int32.toBitVec_shiftRight]
  show (x.toBitVec.sshiftRight ((nI n &&& 31).toBitVec.smod 32).toNat).getLsbD i = _
  rw [s_l n hn, BitVec.getLsbD_sshiftRight, BitVec.msb_eq_getLsbD_last]
  simp [hi]

theorem bt_one (i : Nat) : bt 1 i = decide (i = 0) := by
  rcases Nat.lt_or_ge i 32 with h | h
  · exact (by decide +kernel : ∀ i, i < 32 → bt 1 i = decide (i = 0)) i h
  · rw [b_big h, decide_eq_false (by omega)]
theorem bit1 (x : Int32) {q : Nat} (hq : q < 32) : (x >>> (nI q &&& 31)) &&& 1 = if bt x q = true then 1 else 0 := by
  apply b_ext
  intro i hi
  rw [b_and, bt_one]
  by_cases h0 : i = 0
  · subst h0
    rw [b_sshr q hq x (by omega)]
    simp only [Nat.add_zero, hq, if_true, decide_true, Bool.and_true]
    cases hb : bt x q
    · simp [b_0]
    · simp only [if_true]; exact (by decide +kernel : bt 1 0 = true).symm
  · simp only [h0, decide_false, Bool.and_false]
    split
    · rw [bt_one]; simp [h0]
    · rw [b_0]
theorem bt_shl1 {k i : Nat} (hk : k < 32) (hi : i < 32) : bt ((1 : Int32) <<< (nI k &&& 31)) i = decide (i = k) := by
  rw [b_shl k hk 1 hi, bt_one]
  by_cases h : i = k
  · subst h; simp
  · simp only [h, decide_false, Bool.and_eq_false_iff, decide_eq_false_iff_not]
    omega
/-- a set told by bits -/
def bsF (st : Nat → Bool) : Nat → Int32
  | 0 => 0
  | k + 1 => bsF st k ||| (if st k = true then (1 : Int32) <<< (nI k &&& 31) else 0)
theorem bt_bsF (st : Nat → Bool) : ∀ (n : Nat), n ≤ 31 → ∀ i, i < 32 → bt (bsF st n) i = (decide (i < n) && st i) := by
  intro n
  induction n with
  | zero => intro _ i _; simp [bsF, b_0]
  | succ n ih =>
    intro hn i hi
    rw [bsF, b_or, ih (by omega) i hi]
    by_cases h : st n = true
    · rw [if_pos h, bt_shl1 (by omega) hi]
      by_cases e : i = n
      · subst e; simp [h]
      · have : (decide (i < n + 1)) = decide (i < n) := by
          by_cases h2 : i < n
          · simp [h2, Nat.lt_succ_of_lt h2]
          · simp [h2, show ¬ i < n + 1 by omega]
        rw [this]; simp [e]
    · rw [if_neg h, b_0]
      by_cases e : i = n
      · subst e
        have h' : st i = false := by cases hh : st i <;> simp_all
        simp [h']
      · have : (decide (i < n + 1)) = decide (i < n) := by
          by_cases h2 : i < n
          · simp [h2, Nat.lt_succ_of_lt h2]
          · simp [h2, show ¬ i < n + 1 by omega]
        rw [this]; simp
theorem bsF_congr {st st' : Nat → Bool} : ∀ (n : Nat), (∀ q, q < n → st q = st' q) → bsF st n = bsF st' n := by
  intro n
  induction n with
  | zero => intro _; rfl
  | succ n ih => intro h; rw [bsF, bsF, ih (fun q hq => h q (by omega)), h n (by omega)]
/-! the tree as a row of ints: 0 how many, 1 YEAR, 2 z, 3 CROP, 4 to 7 the LAWS; from 8 on six for each: KIND, ON, FORCE, AGE, CUT, LIES -/
def WF (s : Nat → Int32) (n : Nat) : Prop := s 0 = nI n ∧ n ≤ 8 ∧ ∀ o, o < n → (∃ k, k ≤ 5 ∧ s (8 + 6 * o + 0) = nI k) ∧ (∃ q, q ≤ o ∧ s (8 + 6 * o + 1) = nI q) ∧ (∃ f, f ≤ 9 ∧ s (8 + 6 * o + 2) = nI f) ∧ (∃ a, a ≤ 99 ∧ s (8 + 6 * o + 3) = nI a) ∧ (s (8 + 6 * o + 4) = 0 ∨ s (8 + 6 * o + 4) = 1) ∧ (∃ l, l ≤ 9 ∧ s (8 + 6 * o + 5) = nI l)
def sdF (s : Nat → Int32) : Nat → Nat → Bool
  | 0, _ => true
  | f + 1, o => if s (8 + 6 * o + 4) = 0 then (if s (8 + 6 * o + 1) = 0 then true else sdF s f ((s (8 + 6 * o + 1)).toNatClampNeg - 1)) else false
def sd (s : Nat → Int32) (o : Nat) : Bool := sdF s 8 o
theorem sdF_fuel {s : Nat → Int32} {n : Nat} (h : WF s n) : ∀ (f g o : Nat), o < n → o < f → o < g → sdF s f o = sdF s g o := by
  intro f
  induction f with
  | zero => intro g o _ h1; omega
  | succ f ih =>
    intro g o ho h1 h2
    match g, h2 with
    | g + 1, h2 =>
      unfold sdF
      obtain ⟨q, hq, eq⟩ := (h.2.2 o ho).2.1
      have e : (s (8 + 6 * o + 1)).toNatClampNeg = q := by rw [eq]; exact nI_clamp (by have := h.2.1; omega)
      by_cases hc : s (8 + 6 * o + 4) = 0
      · rw [if_pos hc, if_pos hc]
        by_cases h0 : s (8 + 6 * o + 1) = 0
        · rw [if_pos h0, if_pos h0]
        · rw [if_neg h0, if_neg h0, e]
          have hq0 : q ≠ 0 := by intro z; subst z; exact h0 eq
          exact ih g (q - 1) (by omega) (by omega) (by omega)
      · rw [if_neg hc, if_neg hc]
theorem sd_eq {s : Nat → Int32} {n : Nat} (h : WF s n) {o : Nat} (ho : o < n) : sd s o = if s (8 + 6 * o + 4) = 0 then (if s (8 + 6 * o + 1) = 0 then true else sd s ((s (8 + 6 * o + 1)).toNatClampNeg - 1)) else false := by
  unfold sd
  rw [sdF]
  obtain ⟨q, hq, eq⟩ := (h.2.2 o ho).2.1
  have e : (s (8 + 6 * o + 1)).toNatClampNeg = q := by rw [eq]; exact nI_clamp (by have := h.2.1; omega)
  by_cases hc : s (8 + 6 * o + 4) = 0
  · rw [if_pos hc, if_pos hc]
    by_cases h0 : s (8 + 6 * o + 1) = 0
    · rw [if_pos h0, if_pos h0]
    · rw [if_neg h0, if_neg h0, e]
      have hq0 : q ≠ 0 := by intro z; subst z; exact h0 eq
      have h8 := h.2.1
      exact sdF_fuel h 7 8 (q - 1) (by omega) (by omega) (by omega)
  · rw [if_neg hc, if_neg hc]
def hinS (s : Nat → Int32) (o : Nat) : Int32 :=
  if s (8 + 6 * o + 0) = 1 then s (8 + 6 * o + 2) / 3 - 1
  else if s (8 + 6 * o + 0) = 2 then s (8 + 6 * o + 2) / 3 + s 4
  else if s (8 + 6 * o + 0) = 3 then (if s 1 - s 1 / 2 * 2 = 0 then s (8 + 6 * o + 2) / 3 - 1 else 0)
  else if s (8 + 6 * o + 0) = 4 then 2 * (s (8 + 6 * o + 2) / 3 + s 4)
  else if s (8 + 6 * o + 0) = 5 then 0
  else s (8 + 6 * o + 2) / 3
def plS (s : Nat → Int32) (st : Nat → Bool) (o : Nat) : Nat → Int32
  | 0 => s (8 + 6 * o + 2)
  | q + 1 => plS s st o q - (if st q = true ∧ q ≠ o ∧ s (8 + 6 * q + 1) = s (8 + 6 * o + 1) then hinS s q else 0)
def upS (s : Nat → Int32) (st : Nat → Bool) (o : Nat) : Nat → Int32
  | 0 => 0
  | q + 1 => upS s st o q + (if st q = true ∧ s (8 + 6 * q + 1) = 1 + nI o then 1 else 0)
def beS (s : Nat → Int32) (o : Nat) (plain upon : Int32) : Int32 :=
  if s (8 + 6 * o + 0) = 1 then plain + s 5
  else if s (8 + 6 * o + 0) = 2 then plain - upon
  else if s (8 + 6 * o + 0) = 3 then (if s (8 + 6 * o + 3) < 3 then 0 else plain + s 5)
  else if s (8 + 6 * o + 0) = 4 then plain - upon - s (8 + 6 * o + 3) / 10
  else if s (8 + 6 * o + 0) = 5 then (if s 1 - s 1 / 3 * 3 = 0 then plain + s 6 else plain)
  else plain
def bearS (s : Nat → Int32) (st : Nat → Bool) (n o : Nat) : Int32 := beS s o (plS s st o n) (upS s st o n)
def gainS (s : Nat → Int32) (o : Nat) : Int32 :=
  if s (8 + 6 * o + 0) = 1 then 2
  else if s (8 + 6 * o + 0) = 2 then (if s (8 + 6 * o + 3) < 20 then 1 else -1)
  else if s (8 + 6 * o + 0) = 3 then 3
  else if s (8 + 6 * o + 0) = 4 then 2 * (if s (8 + 6 * o + 3) < 20 then 1 else -1)
  else if s (8 + 6 * o + 0) = 5 then 0
  else 1
theorem plS_congr {s : Nat → Int32} {st st' : Nat → Bool} {o : Nat} : ∀ n, (∀ q, q < n → st q = st' q) → plS s st o n = plS s st' o n := by
  intro n
  induction n with
  | zero => intro _; rfl
  | succ n ih => intro h; rw [plS, plS, ih (fun q hq => h q (by omega)), h n (by omega)]
theorem upS_congr {s : Nat → Int32} {st st' : Nat → Bool} {o : Nat} : ∀ n, (∀ q, q < n → st q = st' q) → upS s st o n = upS s st' o n := by
  intro n
  induction n with
  | zero => intro _; rfl
  | succ n ih => intro h; rw [upS, upS, ih (fun q hq => h q (by omega)), h n (by omega)]
theorem bearS_congr {s : Nat → Int32} {st st' : Nat → Bool} {n o : Nat} (h : ∀ q, q < n → st q = st' q) : bearS s st n o = bearS s st' n o := by
  unfold bearS
  rw [plS_congr n h, upS_congr n h]
def smS (s : Nat → Int32) (st : Nat → Bool) (n : Nat) : Nat → Int32
  | 0 => 0
  | o + 1 => smS s st n o + (if st o = true ∧ 0 < bearS s st n o then bearS s st n o else 0)
/-- what all bear in a year -/
def sumS (s : Nat → Int32) (n : Nat) : Int32 := smS s (sd s) n n
theorem smS_congr {s : Nat → Int32} {st st' : Nat → Bool} {n : Nat} (h : ∀ q, q < n → st q = st' q) : ∀ k, k ≤ n → smS s st n k = smS s st' n k := by
  intro k
  induction k with
  | zero => intro _; rfl
  | succ k ih => intro hk; rw [smS, smS, ih (by omega), h k (by omega), bearS_congr h]
def lea (a b : Int32) : Int32 := if a < b then a else b
/-- the rows of the first m branches behind a year -/
def ybS (s : Nat → Int32) (st : Nat → Bool) (m : Nat) : Nat → Int32 := fun j =>
  if 8 ≤ j ∧ j < 8 + 6 * m then
    (if (j - 8) % 6 = 2 then (if st ((j - 8) / 6) = true then wi (s j + gainS s ((j - 8) / 6)) else s j)
     else if (j - 8) % 6 = 3 then (if st ((j - 8) / 6) = true then lea 99 (s j + 1) else s j)
     else if (j - 8) % 6 = 5 then (if s (j - 1) = 1 then lea 9 (s j + 1) else 0)
     else s j)
  else s j
def yearR (s : Nat → Int32) (st : Nat → Bool) (n : Nat) (sum : Int32) : Nat → Int32 := fun j =>
  if j = 1 then s 1 + 1 else if j = 3 then lea 99999 (s 3 + sum) else ybS s st n j
def yearS (s : Nat → Int32) (n : Nat) : Nat → Int32 := yearR s (sd s) n (sumS s n)
theorem ybS_own (s : Nat → Int32) (st : Nat → Bool) (m k : Nat) : ybS s st m (8 + 6 * m + k) = s (8 + 6 * m + k) := by
  unfold ybS
  rw [if_neg (by omega)]
theorem ybS_low (s : Nat → Int32) (st : Nat → Bool) (m j : Nat) (h : j < 8) : ybS s st m j = s j := by
  unfold ybS
  rw [if_neg (by omega)]
theorem ybS_0 (s : Nat → Int32) (st : Nat → Bool) : ybS s st 0 = s := by
  funext j
  unfold ybS
  rw [if_neg (by omega)]
theorem ybS_congr {s : Nat → Int32} {st st' : Nat → Bool} {n : Nat} (h : ∀ q, q < n → st q = st' q) : ybS s st n = ybS s st' n := by
  funext j
  unfold ybS
  by_cases hj : 8 ≤ j ∧ j < 8 + 6 * n
  · rw [if_pos hj, if_pos hj, h ((j - 8) / 6) (by omega)]
  · rw [if_neg hj, if_neg hj]
theorem ybS_at (s : Nat → Int32) (st : Nat → Bool) {m o k : Nat} (ho : o < m) (hk : k < 6) : ybS s st m (8 + 6 * o + k) = (if k = 2 then (if st o = true then wi (s (8 + 6 * o + k) + gainS s o) else s (8 + 6 * o + k)) else if k = 3 then (if st o = true then lea 99 (s (8 + 6 * o + k) + 1) else s (8 + 6 * o + k)) else if k = 5 then (if s (8 + 6 * o + k - 1) = 1 then lea 9 (s (8 + 6 * o + k) + 1) else 0) else s (8 + 6 * o + k)) := by
  have e1 : (8 + 6 * o + k - 8) % 6 = k := by omega
  have e2 : (8 + 6 * o + k - 8) / 6 = o := by omega
  unfold ybS
  rw [if_pos (by omega), e1, e2]
theorem ybS_step (s : Nat → Int32) (st : Nat → Bool) (m : Nat) : upd (if st m = true then upd (upd (ybS s st m) (8 + 6 * m + 2) (wi (s (8 + 6 * m + 2) + gainS s m))) (8 + 6 * m + 3) (lea 99 (s (8 + 6 * m + 3) + 1)) else ybS s st m) (8 + 6 * m + 5) (if s (8 + 6 * m + 4) = 1 then lea 9 (s (8 + 6 * m + 5) + 1) else 0) = ybS s st (m + 1) := by
  funext j
  by_cases hj : 8 ≤ j ∧ j < 8 + 6 * (m + 1)
  · obtain ⟨o, k, hk, ho, rfl⟩ : ∃ o k, k < 6 ∧ o < m + 1 ∧ j = 8 + 6 * o + k := ⟨(j - 8) / 6, (j - 8) % 6, by omega, by omega, by omega⟩
    rw [ybS_at s st ho hk]
    by_cases e : o = m
    · subst e
      have own := ybS_own s st o
      have k6 : k = 0 ∨ k = 1 ∨ k = 2 ∨ k = 3 ∨ k = 4 ∨ k = 5 := by omega
      rcases k6 with rfl | rfl | rfl | rfl | rfl | rfl <;> by_cases hs : st o = true <;> simp [upd, hs, own]
      all_goals (try rw [show 8 + 6 * o = 8 + 6 * o + 0 by omega, own 0])
    · have n2 : ¬ 8 + 6 * o + k = 8 + 6 * m + 2 := by omega
      have n3 : ¬ 8 + 6 * o + k = 8 + 6 * m + 3 := by omega
      have n5 : ¬ 8 + 6 * o + k = 8 + 6 * m + 5 := by omega
      have e0 : ybS s st m (8 + 6 * o + k) = _ := ybS_at s st (m := m) (by omega) hk
      rw [← e0]
      by_cases hs : st m = true <;> simp [upd, hs, n2, n3, n5]
  · have n2 : ¬ j = 8 + 6 * m + 2 := by omega
    have n3 : ¬ j = 8 + 6 * m + 3 := by omega
    have n5 : ¬ j = 8 + 6 * m + 5 := by omega
    have e1 : ybS s st m j = s j := by unfold ybS; rw [if_neg (by omega)]
    have e2 : ybS s st (m + 1) j = s j := by unfold ybS; rw [if_neg hj]
    rw [e2]
    by_cases hs : st m = true <;> simp [upd, hs, n2, n3, n5, e1]
