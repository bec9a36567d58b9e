/-! the model: odds -/
def facN : Nat → Nat
  | 0 => 1
  | n + 1 => (n + 1) * facN n
theorem product_ok (n : Nat) (M : Mm) (hn : n ≤ 8) : K 0 mX6_product [.int (nI n)] M (Rt (some (.long (lN (facN n)))) M) := by
  have loop : ∀ f k, f + k = n + 1 → 1 ≤ k → J 0 mX6_product 4 [some (.int (nI n)), some (.long (lN (facN (k - 1)))), none, some (.int (nI k))] [] M (Rt (some (.long (lN (facN n)))) M) := by
    intro f
    induction f with
    | zero =>
      intro k hk _
      have : k = n + 1 := by omega
      subst this
      refine J_blk a_X6_product_4 ?_
      simp only [b_X6_product_4, w_iload_n3, w_iload_n0, w_icmp_gt, w_nil, kd_46, kd_47, kd_48, kd_49, kd_50, kd_51, kd_52, kd_53, kd_54, kd_55, kd_56, kd_57, kd_58, kd_59, ln_47, ln_48, ln_49, ln_50, ln_51, ln_52, ln_53, ln_54, ln_55, ln_56, ln_57, ln_58, ln_59, Option.toList_some, Option.toList_none, List.cons_append, List.nil_append, true_and, and_true, if_true, if_false, true_or, or_true, Nat.reduceAdd, Int.reduceAdd, Bool.false_eq_true, tn_0, tn_1, tn_2, tn_3, tn_4, tn_5, tn_6, tn_7]
      refine ⟨fun _ => ?_, fun h => absurd (nI_lt (show n < n + 1 by omega) (by omega)) h⟩
      refine J_blk a_X6_product_20 ?_
      simp only [b_X6_product_20, w_lload_n1, w_lret, kd_46, kd_47, kd_48, kd_49, kd_50, kd_51, kd_52, kd_53, kd_54, kd_55, kd_56, kd_57, kd_58, kd_59, ln_47, ln_48, ln_49, ln_50, ln_51, ln_52, ln_53, ln_54, ln_55, ln_56, ln_57, ln_58, ln_59, Option.toList_some, Option.toList_none, List.cons_append, List.nil_append, true_and, and_true, if_true, if_false, true_or, or_true, Nat.reduceAdd, Int.reduceAdd, Bool.false_eq_true, tn_0, tn_1, tn_2, tn_3, tn_4, tn_5, tn_6, tn_7]
      first | exact ⟨rfl, rfl⟩ | (simp_all [Rt])
    | succ f ih =>
      intro k hk h1
      refine J_blk a_X6_product_4 ?_
      simp only [b_X6_product_4, w_iload_n3, w_iload_n0, w_icmp_gt, w_nil, kd_46, kd_47, kd_48, kd_49, kd_50, kd_51, kd_52, kd_53, kd_54, kd_55, kd_56, kd_57, kd_58, kd_59, ln_47, ln_48, ln_49, ln_50, ln_51, ln_52, ln_53, ln_54, ln_55, ln_56, ln_57, ln_58, ln_59, Option.toList_some, Option.toList_none, List.cons_append, List.nil_append, true_and, and_true, if_true, if_false, true_or, or_true, Nat.reduceAdd, Int.reduceAdd, Bool.false_eq_true, tn_0, tn_1, tn_2, tn_3, tn_4, tn_5, tn_6, tn_7]
      refine ⟨fun h => absurd h (nI_nlt (by omega) (by omega)), fun _ => ?_⟩
      refine J_blk a_X6_product_9 ?_
      simp only [b_X6_product_9, w_lload_n1, w_iload_n3, w_i2l, w_lmul, w_lstore1, nl_1n, nl_1i, nl_1a, w_iinc3, nl_3n, nl_3i, nl_3a, ci_1, w_goto, kd_46, kd_47, kd_48, kd_49, kd_50, kd_51, kd_52, kd_53, kd_54, kd_55, kd_56, kd_57, kd_58, kd_59, ln_47, ln_48, ln_49, ln_50, ln_51, ln_52, ln_53, ln_54, ln_55, ln_56, ln_57, ln_58, ln_59, Option.toList_some, Option.toList_none, List.cons_append, List.nil_append, true_and, and_true, if_true, if_false, true_or, or_true, Nat.reduceAdd, Int.reduceAdd, Bool.false_eq_true, tn_0, tn_1, tn_2, tn_3, tn_4, tn_5, tn_6, tn_7, nI_l (show k < 2 ^ 31 by omega), lN_mul, nI_1]
      have := ih (k + 1) (by omega) (by omega)
      obtain ⟨j, rfl⟩ : ∃ j, k = j + 1 := ⟨k - 1, by omega⟩
      rw [show j + 1 + 1 - 1 = j + 1 by omega, facN, Nat.mul_comm] at this
      exact this
  refine K_go 1 o_X6_product [none, none, none] rfl (Nat.le_of_ble_eq_true rfl) ?_
  simp only [lvA_i, lvA_a, lvA_l, lvA_nil, List.cons_append, List.nil_append]
  refine J_blk a_X6_product_0 ?_
  simp only [b_X6_product_0, w_lconst_1, w_lstore1, nl_1n, nl_1i, nl_1a, w_iconst_2, w_istore3, nl_3n, nl_3i, nl_3a, w_nil, kd_46, kd_47, kd_48, kd_49, kd_50, kd_51, kd_52, kd_53, kd_54, kd_55, kd_56, kd_57, kd_58, kd_59, ln_47, ln_48, ln_49, ln_50, ln_51, ln_52, ln_53, ln_54, ln_55, ln_56, ln_57, ln_58, ln_59, Option.toList_some, Option.toList_none, List.cons_append, List.nil_append, true_and, and_true, if_true, if_false, true_or, or_true, Nat.reduceAdd, Int.reduceAdd, Bool.false_eq_true, tn_0, tn_1, tn_2, tn_3, tn_4, tn_5, tn_6, tn_7]
  rcases Nat.lt_or_ge n 1 with h | h
  · have : n = 0 := by omega
    subst this
    refine J_blk a_X6_product_4 ?_
    simp only [b_X6_product_4, w_iload_n3, w_iload_n0, w_icmp_gt, w_nil, kd_46, kd_47, kd_48, kd_49, kd_50, kd_51, kd_52, kd_53, kd_54, kd_55, kd_56, kd_57, kd_58, kd_59, ln_47, ln_48, ln_49, ln_50, ln_51, ln_52, ln_53, ln_54, ln_55, ln_56, ln_57, ln_58, ln_59, Option.toList_some, Option.toList_none, List.cons_append, List.nil_append, true_and, and_true, if_true, if_false, true_or, or_true, Nat.reduceAdd, Int.reduceAdd, Bool.false_eq_true, tn_0, tn_1, tn_2, tn_3, tn_4, tn_5, tn_6, tn_7]
    refine ⟨fun _ => ?_, fun h => absurd (show (nI 0 : Int32) < 2 by decide) h⟩
    refine J_blk a_X6_product_20 ?_
    simp only [b_X6_product_20, w_lload_n1, w_lret, kd_46, kd_47, kd_48, kd_49, kd_50, kd_51, kd_52, kd_53, kd_54, kd_55, kd_56, kd_57, kd_58, kd_59, ln_47, ln_48, ln_49, ln_50, ln_51, ln_52, ln_53, ln_54, ln_55, ln_56, ln_57, ln_58, ln_59, Option.toList_some, Option.toList_none, List.cons_append, List.nil_append, true_and, and_true, if_true, if_false, true_or, or_true, Nat.reduceAdd, Int.reduceAdd, Bool.false_eq_true, tn_0, tn_1, tn_2, tn_3, tn_4, tn_5, tn_6, tn_7]
    first | exact ⟨rfl, rfl⟩ | (simp_all [Rt])
  · exact loop (n - 1) 2 (by omega) (by omega)
theorem partOf_ok (a b : Nat) (p : Int32) (M : Mm) (hb : 0 < b) (ha2 : a < 2 ^ 63) (hb2 : b < 2 ^ 63) : K 0 mX6_partOf [.long (lN a), .long (lN b), .int p] M (Rt (some (.long (lN ((if p = 0 then a else b) / Nat.gcd a b)))) M) := by
  have hg : 0 < Nat.gcd a b := Nat.gcd_pos_of_pos_right _ hb
  have hgb : Nat.gcd a b ≤ b := Nat.gcd_le_right _ hb
  have last : ∀ z y, J 0 mX6_partOf 31 [some (.long (lN a)), none, some (.long (lN b)), none, some (.int p), some (.long (lN (Nat.gcd a b))), none, some (.long 0), none, z, y] [] M (Rt (some (.long (lN ((if p = 0 then a else b) / Nat.gcd a b)))) M) := by
    intro z y
    have ne : ¬ lN (Nat.gcd a b) = 0 := fun e => absurd ((pk_lEQ (b := 0) (by omega) (by decide)).mp e) (by omega)
    refine J_blk a_X6_partOf_31 ?_
    simp only [b_X6_partOf_31, w_iload4, w_if_ne, w_nil, kd_46, kd_47, kd_48, kd_49, kd_50, kd_51, kd_52, kd_53, kd_54, kd_55, kd_56, kd_57, kd_58, kd_59, ln_47, ln_48, ln_49, ln_50, ln_51, ln_52, ln_53, ln_54, ln_55, ln_56, ln_57, ln_58, ln_59, Option.toList_some, Option.toList_none, List.cons_append, List.nil_append, true_and, and_true, if_true, if_false, true_or, or_true, Nat.reduceAdd, Int.reduceAdd, Bool.false_eq_true, tn_0, tn_1, tn_2, tn_3, tn_4, tn_5, tn_6, tn_7]
    refine ⟨fun c => ?_, fun c => ?_⟩
    · rw [if_neg c]
      refine J_blk a_X6_partOf_43 ?_
      simp only [b_X6_partOf_43, w_lload_n2, w_lload5, w_ldiv, w_nil, kd_46, kd_47, kd_48, kd_49, kd_50, kd_51, kd_52, kd_53, kd_54, kd_55, kd_56, kd_57, kd_58, kd_59, ln_47, ln_48, ln_49, ln_50, ln_51, ln_52, ln_53, ln_54, ln_55, ln_56, ln_57, ln_58, ln_59, Option.toList_some, Option.toList_none, List.cons_append, List.nil_append, true_and, and_true, if_true, if_false, true_or, or_true, Nat.reduceAdd, Int.reduceAdd, Bool.false_eq_true, tn_0, tn_1, tn_2, tn_3, tn_4, tn_5, tn_6, tn_7]
      refine ⟨ne, ?_⟩
      rw [pk_lDiv hb2 hg (by omega)]
      refine J_blk a_X6_partOf_47 ?_
      simp only [b_X6_partOf_47, w_lret, kd_46, kd_47, kd_48, kd_49, kd_50, kd_51, kd_52, kd_53, kd_54, kd_55, kd_56, kd_57, kd_58, kd_59, ln_47, ln_48, ln_49, ln_50, ln_51, ln_52, ln_53, ln_54, ln_55, ln_56, ln_57, ln_58, ln_59, Option.toList_some, Option.toList_none, List.cons_append, List.nil_append, true_and, and_true, if_true, if_false, true_or, or_true, Nat.reduceAdd, Int.reduceAdd, Bool.false_eq_true, tn_0, tn_1, tn_2, tn_3, tn_4, tn_5, tn_6, tn_7]
      first | exact ⟨rfl, rfl⟩ | (simp_all [Rt])
    · rw [if_pos c]
      refine J_blk a_X6_partOf_36 ?_
      simp only [b_X6_partOf_36, w_lload_n0, w_lload5, w_ldiv, w_goto, kd_46, kd_47, kd_48, kd_49, kd_50, kd_51, kd_52, kd_53, kd_54, kd_55, kd_56, kd_57, kd_58, kd_59, ln_47, ln_48, ln_49, ln_50, ln_51, ln_52, ln_53, ln_54, ln_55, ln_56, ln_57, ln_58, ln_59, Option.toList_some, Option.toList_none, List.cons_append, List.nil_append, true_and, and_true, if_true, if_false, true_or, or_true, Nat.reduceAdd, Int.reduceAdd, Bool.false_eq_true, tn_0, tn_1, tn_2, tn_3, tn_4, tn_5, tn_6, tn_7]
      refine ⟨ne, ?_⟩
      rw [pk_lDiv ha2 hg (by omega)]
      refine J_blk a_X6_partOf_47 ?_
      simp only [b_X6_partOf_47, w_lret, kd_46, kd_47, kd_48, kd_49, kd_50, kd_51, kd_52, kd_53, kd_54, kd_55, kd_56, kd_57, kd_58, kd_59, ln_47, ln_48, ln_49, ln_50, ln_51, ln_52, ln_53, ln_54, ln_55, ln_56, ln_57, ln_58, ln_59, Option.toList_some, Option.toList_none, List.cons_append, List.nil_append, true_and, and_true, if_true, if_false, true_or, or_true, Nat.reduceAdd, Int.reduceAdd, Bool.false_eq_true, tn_0, tn_1, tn_2, tn_3, tn_4, tn_5, tn_6, tn_7]
      first | exact ⟨rfl, rfl⟩ | (simp_all [Rt])
  have loop : ∀ f x y, y ≤ f → x < 2 ^ 63 → y < 2 ^ 63 → Nat.gcd y x = Nat.gcd a b → ∀ z w, J 0 mX6_partOf 6 [some (.long (lN a)), none, some (.long (lN b)), none, some (.int p), some (.long (lN x)), none, some (.long (lN y)), none, z, w] [] M (Rt (some (.long (lN ((if p = 0 then a else b) / Nat.gcd a b)))) M) := by
    intro f
    induction f with
    | zero =>
      intro x y hy _ _ hgx z w
      have : y = 0 := Nat.le_zero.mp hy
      subst this
      rw [Nat.gcd_zero_left] at hgx
      subst hgx
      refine J_blk a_X6_partOf_6 ?_
      simp only [b_X6_partOf_6, w_lload7, w_lconst_0, w_lcmp, w_if_eq, w_nil, kd_46, kd_47, kd_48, kd_49, kd_50, kd_51, kd_52, kd_53, kd_54, kd_55, kd_56, kd_57, kd_58, kd_59, ln_47, ln_48, ln_49, ln_50, ln_51, ln_52, ln_53, ln_54, ln_55, ln_56, ln_57, ln_58, ln_59, Option.toList_some, Option.toList_none, List.cons_append, List.nil_append, true_and, and_true, if_true, if_false, true_or, or_true, Nat.reduceAdd, Int.reduceAdd, Bool.false_eq_true, tn_0, tn_1, tn_2, tn_3, tn_4, tn_5, tn_6, tn_7, lgq]
      exact ⟨fun _ => last z w, fun h => absurd (show lN 0 = 0 from rfl) h⟩
    | succ f ih =>
      intro x y hy hx hy2 hgx z w
      rcases Nat.eq_zero_or_pos y with h0 | h0
      · subst h0
        rw [Nat.gcd_zero_left] at hgx
        subst hgx
        refine J_blk a_X6_partOf_6 ?_
        simp only [b_X6_partOf_6, w_lload7, w_lconst_0, w_lcmp, w_if_eq, w_nil, kd_46, kd_47, kd_48, kd_49, kd_50, kd_51, kd_52, kd_53, kd_54, kd_55, kd_56, kd_57, kd_58, kd_59, ln_47, ln_48, ln_49, ln_50, ln_51, ln_52, ln_53, ln_54, ln_55, ln_56, ln_57, ln_58, ln_59, Option.toList_some, Option.toList_none, List.cons_append, List.nil_append, true_and, and_true, if_true, if_false, true_or, or_true, Nat.reduceAdd, Int.reduceAdd, Bool.false_eq_true, tn_0, tn_1, tn_2, tn_3, tn_4, tn_5, tn_6, tn_7, lgq]
        exact ⟨fun _ => last z w, fun h => absurd (show lN 0 = 0 from rfl) h⟩
      · have ne : ¬ lN y = 0 := fun e => absurd ((pk_lEQ (b := 0) (by omega) (by decide)).mp e) (by omega)
        refine J_blk a_X6_partOf_6 ?_
        simp only [b_X6_partOf_6, w_lload7, w_lconst_0, w_lcmp, w_if_eq, w_nil, kd_46, kd_47, kd_48, kd_49, kd_50, kd_51, kd_52, kd_53, kd_54, kd_55, kd_56, kd_57, kd_58, kd_59, ln_47, ln_48, ln_49, ln_50, ln_51, ln_52, ln_53, ln_54, ln_55, ln_56, ln_57, ln_58, ln_59, Option.toList_some, Option.toList_none, List.cons_append, List.nil_append, true_and, and_true, if_true, if_false, true_or, or_true, Nat.reduceAdd, Int.reduceAdd, Bool.false_eq_true, tn_0, tn_1, tn_2, tn_3, tn_4, tn_5, tn_6, tn_7, lgq]
        refine ⟨fun h => absurd h ne, fun _ => ?_⟩
        refine J_blk a_X6_partOf_13 ?_
        simp only [b_X6_partOf_13, w_lload5, w_lload7, w_lrem, w_lstore9, nl_9n, nl_9i, nl_9a, w_lstore5, nl_5n, nl_5i, nl_5a, w_lload9, w_lstore7, nl_7n, nl_7i, nl_7a, w_goto, kd_46, kd_47, kd_48, kd_49, kd_50, kd_51, kd_52, kd_53, kd_54, kd_55, kd_56, kd_57, kd_58, kd_59, ln_47, ln_48, ln_49, ln_50, ln_51, ln_52, ln_53, ln_54, ln_55, ln_56, ln_57, ln_58, ln_59, Option.toList_some, Option.toList_none, List.cons_append, List.nil_append, true_and, and_true, if_true, if_false, true_or, or_true, Nat.reduceAdd, Int.reduceAdd, Bool.false_eq_true, tn_0, tn_1, tn_2, tn_3, tn_4, tn_5, tn_6, tn_7, pk_lRem hx h0 hy2]
        refine ⟨ne, ?_⟩
        have hm := Nat.mod_lt x h0
        exact ih y (x % y) (by omega) hy2 (by omega) (by rw [← Nat.gcd_rec]; exact hgx) _ _
  refine K_go 3 o_X6_partOf [none, none, none, none, none, none] rfl (Nat.le_of_ble_eq_true rfl) ?_
  simp only [lvA_i, lvA_a, lvA_l, lvA_nil, List.cons_append, List.nil_append]
  refine J_blk a_X6_partOf_0 ?_
  simp only [b_X6_partOf_0, w_lload_n2, w_lstore5, nl_5n, nl_5i, nl_5a, w_lload_n0, w_lstore7, nl_7n, nl_7i, nl_7a, w_nil, kd_46, kd_47, kd_48, kd_49, kd_50, kd_51, kd_52, kd_53, kd_54, kd_55, kd_56, kd_57, kd_58, kd_59, ln_47, ln_48, ln_49, ln_50, ln_51, ln_52, ln_53, ln_54, ln_55, ln_56, ln_57, ln_58, ln_59, Option.toList_some, Option.toList_none, List.cons_append, List.nil_append, true_and, and_true, if_true, if_false, true_or, or_true, Nat.reduceAdd, Int.reduceAdd, Bool.false_eq_true, tn_0, tn_1, tn_2, tn_3, tn_4, tn_5, tn_6, tn_7]
  exact loop a b a (Nat.le_refl _) hb2 ha2 rfl _ _
def odA (c f k : Nat) : Nat → Nat
  | 0 => c
  | i + 1 => odA c f k i * (if i < k then f else 100 - f)
theorem odA_le (c f k : Nat) (hf : f ≤ 100) : ∀ i, odA c f k i ≤ c * 100 ^ i := by
  intro i
  induction i with
  | zero => simp [odA]
  | succ i ih =>
    rw [odA, Nat.pow_succ, ← Nat.mul_assoc]
    exact Nat.mul_le_mul ih (by split <;> omega)
theorem chN : ∀ n, n ≤ 8 → ∀ k, k ≤ n → facN n / facN k / facN (n - k) ≤ 70 ∧ facN n < 2 ^ 63 ∧ 0 < facN k ∧ facN k < 2 ^ 63 ∧ 0 < facN (n - k) ∧ facN (n - k) < 2 ^ 63 ∧ facN n / facN k < 2 ^ 63 ∧ 100 ^ n ≤ 100 ^ 8 ∧ 0 < 100 ^ n := by decide +kernel
theorem modds_t (n k p f : Nat) (M : Mm) (hn : n ≤ 8) (hk : k ≤ n) (hp : p ≤ 1) (hf : f ≤ 99) (ef : M.1 47 7 = nI f) : K 2 mX6_odds [.ref 46, .int (nI n), .int (nI k), .int (nI p)] M (Rt (some (.long (lN ((if p = 0 then odA (facN n / facN k / facN (n - k)) f k n else 100 ^ n) / Nat.gcd (odA (facN n / facN k / facN (n - k)) f k n) (100 ^ n))))) M) := by
  obtain ⟨c1, c2, c3, c4, c5, c6, c7, c8, c9⟩ := chN n hn k hk
  have h1 : 0 ≤ nI n ∧ nI n ≤ 8 := ok2 (m := 8) (by omega) (by decide)
  have h2 : 0 ≤ nI k ∧ nI k ≤ nI n := ok2 hk (by omega)
  have h3 : 0 ≤ nI p ∧ nI p ≤ 1 := ok2 (m := 1) (by omega) (by decide)
  have ep : (nI p = 0) = (p = 0) := propext (nI_eq (b := 0) (by omega) (by decide))
  generalize hc : facN n / facN k / facN (n - k) = c at *
  have hA := odA_le c f k (by omega) n
  have hA2 : odA c f k n < 2 ^ 63 := by
    have : c * 100 ^ n ≤ 70 * 100 ^ 8 := Nat.mul_le_mul c1 c8
    omega
  have e7 : (7 : Int32).toNatClampNeg = 7 := rfl
  have ne : ∀ {a : Nat}, 0 < a → a < 2 ^ 63 → ¬ lN a = 0 := fun h0 h e => absurd ((pk_lEQ (b := 0) h (by decide)).mp e) (by omega)
  have ek : ∀ i, i < n → (nI k ≤ nI i) = (k ≤ i) := fun i hi => propext (nI_leI (by omega) (by omega))
  have e100 : (100 : Int32) - nI f = nI (100 - f) := pk_sub (a := 100) (by omega)
  have loop : ∀ i, i ≤ n → J 2 mX6_odds 61 [some (.ref 46), some (.int (nI n)), some (.int (nI k)), some (.int (nI p)), some (.long (lN (odA c f k i))), none, some (.long (lN (100 ^ i))), none, some (.int (nI i))] [] M (Rt (some (.long (lN ((if p = 0 then odA c f k n else 100 ^ n) / Nat.gcd (odA c f k n) (100 ^ n))))) M) := by
    refine down n ?_ ?_
    · refine J_blk a_X6_odds_61 ?_
      simp only [b_X6_odds_61, w_iload8, w_iload_n1, w_icmp_ge, w_nil, kd_46, kd_47, kd_48, kd_49, kd_50, kd_51, kd_52, kd_53, kd_54, kd_55, kd_56, kd_57, kd_58, kd_59, ln_47, ln_48, ln_49, ln_50, ln_51, ln_52, ln_53, ln_54, ln_55, ln_56, ln_57, ln_58, ln_59, Option.toList_some, Option.toList_none, List.cons_append, List.nil_append, true_and, and_true, if_true, if_false, true_or, or_true, Nat.reduceAdd, Int.reduceAdd, Bool.false_eq_true, tn_0, tn_1, tn_2, tn_3, tn_4, tn_5, tn_6, tn_7]
      refine ⟨fun _ => ?_, fun h => absurd (Int32.le_refl _) h⟩
      refine J_blk a_X6_odds_114 ?_
      simp only [b_X6_odds_114, w_lload4, w_lload6, w_iload_n3, w_nil, kd_46, kd_47, kd_48, kd_49, kd_50, kd_51, kd_52, kd_53, kd_54, kd_55, kd_56, kd_57, kd_58, kd_59, ln_47, ln_48, ln_49, ln_50, ln_51, ln_52, ln_53, ln_54, ln_55, ln_56, ln_57, ln_58, ln_59, Option.toList_some, Option.toList_none, List.cons_append, List.nil_append, true_and, and_true, if_true, if_false, true_or, or_true, Nat.reduceAdd, Int.reduceAdd, Bool.false_eq_true, tn_0, tn_1, tn_2, tn_3, tn_4, tn_5, tn_6, tn_7]
      refine J_callSr (partOf_ok _ _ _ _ c9 hA2 (by omega)) k_X6_odds_119 o_X6_partOf rfl (by decide) rfl (Nat.le_of_ble_eq_true rfl) ?_
      simp only [ep]
      refine J_blk a_X6_odds_122 ?_
      simp only [b_X6_odds_122, w_lret, kd_46, kd_47, kd_48, kd_49, kd_50, kd_51, kd_52, kd_53, kd_54, kd_55, kd_56, kd_57, kd_58, kd_59, ln_47, ln_48, ln_49, ln_50, ln_51, ln_52, ln_53, ln_54, ln_55, ln_56, ln_57, ln_58, ln_59, Option.toList_some, Option.toList_none, List.cons_append, List.nil_append, true_and, and_true, if_true, if_false, true_or, or_true, Nat.reduceAdd, Int.reduceAdd, Bool.false_eq_true, tn_0, tn_1, tn_2, tn_3, tn_4, tn_5, tn_6, tn_7]
      first | exact ⟨rfl, rfl⟩ | (simp_all [Rt])
    · intro i hi ih
      refine J_blk a_X6_odds_61 ?_
      simp only [b_X6_odds_61, w_iload8, w_iload_n1, w_icmp_ge, w_nil, kd_46, kd_47, kd_48, kd_49, kd_50, kd_51, kd_52, kd_53, kd_54, kd_55, kd_56, kd_57, kd_58, kd_59, ln_47, ln_48, ln_49, ln_50, ln_51, ln_52, ln_53, ln_54, ln_55, ln_56, ln_57, ln_58, ln_59, Option.toList_some, Option.toList_none, List.cons_append, List.nil_append, true_and, and_true, if_true, if_false, true_or, or_true, Nat.reduceAdd, Int.reduceAdd, Bool.false_eq_true, tn_0, tn_1, tn_2, tn_3, tn_4, tn_5, tn_6, tn_7]
      refine ⟨fun h => absurd h (nI_ge hi (by omega)), fun _ => ?_⟩
      have nx : ∀ v, v = (if i < k then f else 100 - f) → J 2 mX6_odds 97 [some (.ref 46), some (.int (nI n)), some (.int (nI k)), some (.int (nI p)), some (.long (lN (odA c f k i))), none, some (.long (lN (100 ^ i))), none, some (.int (nI i))] [.long (lN v), .long (lN (odA c f k i))] M (Rt (some (.long (lN ((if p = 0 then odA c f k n else 100 ^ n) / Nat.gcd (odA c f k n) (100 ^ n))))) M) := by
        intro v hv
        refine J_blk a_X6_odds_97 ?_
        simp only [b_X6_odds_97, w_lmul, w_lstore4, nl_4n, nl_4i, nl_4a, w_lload6, w_ldc2, cl_100, w_lstore6, nl_6n, nl_6i, nl_6a, w_iinc8, nl_8n, nl_8i, nl_8a, ci_1, w_goto, kd_46, kd_47, kd_48, kd_49, kd_50, kd_51, kd_52, kd_53, kd_54, kd_55, kd_56, kd_57, kd_58, kd_59, ln_47, ln_48, ln_49, ln_50, ln_51, ln_52, ln_53, ln_54, ln_55, ln_56, ln_57, ln_58, ln_59, Option.toList_some, Option.toList_none, List.cons_append, List.nil_append, true_and, and_true, if_true, if_false, true_or, or_true, Nat.reduceAdd, Int.reduceAdd, Bool.false_eq_true, tn_0, tn_1, tn_2, tn_3, tn_4, tn_5, tn_6, tn_7, lN_mul, show (100 : Int64) = lN 100 from rfl, nI_1]
        rw [odA, ← hv, Nat.pow_succ] at ih
        exact ih
      refine J_blk a_X6_odds_67 ?_
      simp only [b_X6_odds_67, w_lload4, w_iload8, w_iload_n2, w_icmp_ge, w_nil, kd_46, kd_47, kd_48, kd_49, kd_50, kd_51, kd_52, kd_53, kd_54, kd_55, kd_56, kd_57, kd_58, kd_59, ln_47, ln_48, ln_49, ln_50, ln_51, ln_52, ln_53, ln_54, ln_55, ln_56, ln_57, ln_58, ln_59, Option.toList_some, Option.toList_none, List.cons_append, List.nil_append, true_and, and_true, if_true, if_false, true_or, or_true, Nat.reduceAdd, Int.reduceAdd, Bool.false_eq_true, tn_0, tn_1, tn_2, tn_3, tn_4, tn_5, tn_6, tn_7, ek i hi]
      refine ⟨fun h => ?_, fun h => ?_⟩
      · refine J_blk a_X6_odds_86 ?_
        simp only [b_X6_odds_86, w_bipush, ci_100, w_aload_n0, w_getf6, ne0_1, ci_7, w_iald, w_isub, w_i2l, w_nil, kd_46, kd_47, kd_48, kd_49, kd_50, kd_51, kd_52, kd_53, kd_54, kd_55, kd_56, kd_57, kd_58, kd_59, ln_47, ln_48, ln_49, ln_50, ln_51, ln_52, ln_53, ln_54, ln_55, ln_56, ln_57, ln_58, ln_59, Option.toList_some, Option.toList_none, List.cons_append, List.nil_append, true_and, and_true, if_true, if_false, true_or, or_true, Nat.reduceAdd, Int.reduceAdd, Bool.false_eq_true, tn_0, tn_1, tn_2, tn_3, tn_4, tn_5, tn_6, tn_7, ef, e7, e100, nI_l (show 100 - f < 2 ^ 31 by omega)]
        exact ⟨vlit (by decide), nx _ (by rw [if_neg (by omega)])⟩
      · refine J_blk a_X6_odds_75 ?_
        simp only [b_X6_odds_75, w_aload_n0, w_getf6, ne0_1, w_bipush, ci_7, w_iald, w_i2l, w_goto, kd_46, kd_47, kd_48, kd_49, kd_50, kd_51, kd_52, kd_53, kd_54, kd_55, kd_56, kd_57, kd_58, kd_59, ln_47, ln_48, ln_49, ln_50, ln_51, ln_52, ln_53, ln_54, ln_55, ln_56, ln_57, ln_58, ln_59, Option.toList_some, Option.toList_none, List.cons_append, List.nil_append, true_and, and_true, if_true, if_false, true_or, or_true, Nat.reduceAdd, Int.reduceAdd, Bool.false_eq_true, tn_0, tn_1, tn_2, tn_3, tn_4, tn_5, tn_6, tn_7, ef, e7, nI_l (show f < 2 ^ 31 by omega)]
        exact ⟨vlit (by decide), nx _ (by rw [if_pos (by omega)])⟩
  have go : J 2 mX6_odds 37 [some (.ref 46), some (.int (nI n)), some (.int (nI k)), some (.int (nI p)), none, none, none, none, none] [] M (Rt (some (.long (lN ((if p = 0 then odA c f k n else 100 ^ n) / Nat.gcd (odA c f k n) (100 ^ n))))) M) := by
    refine J_blk a_X6_odds_37 ?_
    simp only [b_X6_odds_37, w_iload_n1, w_nil, kd_46, kd_47, kd_48, kd_49, kd_50, kd_51, kd_52, kd_53, kd_54, kd_55, kd_56, kd_57, kd_58, kd_59, ln_47, ln_48, ln_49, ln_50, ln_51, ln_52, ln_53, ln_54, ln_55, ln_56, ln_57, ln_58, ln_59, Option.toList_some, Option.toList_none, List.cons_append, List.nil_append, true_and, and_true, if_true, if_false, true_or, or_true, Nat.reduceAdd, Int.reduceAdd, Bool.false_eq_true, tn_0, tn_1, tn_2, tn_3, tn_4, tn_5, tn_6, tn_7]
    refine J_callSr (product_ok n M hn) k_X6_odds_38 o_X6_product rfl (by decide) rfl (Nat.le_of_ble_eq_true rfl) ?_
    refine J_blk a_X6_odds_41 ?_
    simp only [b_X6_odds_41, w_iload_n2, w_nil, kd_46, kd_47, kd_48, kd_49, kd_50, kd_51, kd_52, kd_53, kd_54, kd_55, kd_56, kd_57, kd_58, kd_59, ln_47, ln_48, ln_49, ln_50, ln_51, ln_52, ln_53, ln_54, ln_55, ln_56, ln_57, ln_58, ln_59, Option.toList_some, Option.toList_none, List.cons_append, List.nil_append, true_and, and_true, if_true, if_false, true_or, or_true, Nat.reduceAdd, Int.reduceAdd, Bool.false_eq_true, tn_0, tn_1, tn_2, tn_3, tn_4, tn_5, tn_6, tn_7]
    refine J_callSr (product_ok k M (by omega)) k_X6_odds_42 o_X6_product rfl (by decide) rfl (Nat.le_of_ble_eq_true rfl) ?_
    refine J_blk a_X6_odds_45 ?_
    simp only [b_X6_odds_45, w_ldiv, w_iload_n1, w_iload_n2, w_isub, w_nil, kd_46, kd_47, kd_48, kd_49, kd_50, kd_51, kd_52, kd_53, kd_54, kd_55, kd_56, kd_57, kd_58, kd_59, ln_47, ln_48, ln_49, ln_50, ln_51, ln_52, ln_53, ln_54, ln_55, ln_56, ln_57, ln_58, ln_59, Option.toList_some, Option.toList_none, List.cons_append, List.nil_append, true_and, and_true, if_true, if_false, true_or, or_true, Nat.reduceAdd, Int.reduceAdd, Bool.false_eq_true, tn_0, tn_1, tn_2, tn_3, tn_4, tn_5, tn_6, tn_7, pk_lDiv c2 c3 c4, pk_sub hk]
    refine ⟨ne c3 c4, ?_⟩
    refine J_callSr (product_ok (n - k) M (by omega)) k_X6_odds_49 o_X6_product rfl (by decide) rfl (Nat.le_of_ble_eq_true rfl) ?_
    refine J_blk a_X6_odds_52 ?_
    simp only [b_X6_odds_52, w_ldiv, w_lstore4, nl_4n, nl_4i, nl_4a, w_lconst_1, w_lstore6, nl_6n, nl_6i, nl_6a, w_iconst_0, w_istore8, nl_8n, nl_8i, nl_8a, w_nil, kd_46, kd_47, kd_48, kd_49, kd_50, kd_51, kd_52, kd_53, kd_54, kd_55, kd_56, kd_57, kd_58, kd_59, ln_47, ln_48, ln_49, ln_50, ln_51, ln_52, ln_53, ln_54, ln_55, ln_56, ln_57, ln_58, ln_59, Option.toList_some, Option.toList_none, List.cons_append, List.nil_append, true_and, and_true, if_true, if_false, true_or, or_true, Nat.reduceAdd, Int.reduceAdd, Bool.false_eq_true, tn_0, tn_1, tn_2, tn_3, tn_4, tn_5, tn_6, tn_7, pk_lDiv c7 c5 c6]
    rw [hc]
    exact ⟨ne c5 c6, loop 0 (by omega)⟩
  refine K_go 3 o_X6_odds [none, none, none, none, none] rfl (Nat.le_of_ble_eq_true rfl) ?_
  simp only [lvA_i, lvA_a, lvA_l, lvA_nil, List.cons_append, List.nil_append]
  refine J_blk a_X6_odds_0 ?_
  simp only [b_X6_odds_0, w_iload_n1, w_i2l, w_lconst_0, w_ldc2, cl_8, w_nil, kd_46, kd_47, kd_48, kd_49, kd_50, kd_51, kd_52, kd_53, kd_54, kd_55, kd_56, kd_57, kd_58, kd_59, ln_47, ln_48, ln_49, ln_50, ln_51, ln_52, ln_53, ln_54, ln_55, ln_56, ln_57, ln_58, ln_59, Option.toList_some, Option.toList_none, List.cons_append, List.nil_append, true_and, and_true, if_true, if_false, true_or, or_true, Nat.reduceAdd, Int.reduceAdd, Bool.false_eq_true, tn_0, tn_1, tn_2, tn_3, tn_4, tn_5, tn_6, tn_7]
  refine J_callSr (isIn_ok _ _ _ _) k_X6_odds_6 o_X6_isIn rfl (by decide) rfl (Nat.le_of_ble_eq_true rfl) ?_
  (simp only [l_le_1, l_le_2, l_le_3, l_le_5, l_le_7, l_le_8, l_le_9, l_le_10, l_le_13, l_le_20, l_le_30, l_le_60, l_le_99, l_le_9999, l_ge_0, l_ge_1, l_ge_6, l_ge_m1, i64_le]; rw [if_pos (by first | exact h1 | exact h2 | exact h3 | exact h4)])
  refine J_blk a_X6_odds_9 ?_
  simp only [b_X6_odds_9, w_if_eq, w_nil, kd_46, kd_47, kd_48, kd_49, kd_50, kd_51, kd_52, kd_53, kd_54, kd_55, kd_56, kd_57, kd_58, kd_59, ln_47, ln_48, ln_49, ln_50, ln_51, ln_52, ln_53, ln_54, ln_55, ln_56, ln_57, ln_58, ln_59, Option.toList_some, Option.toList_none, List.cons_append, List.nil_append, true_and, and_true, if_true, if_false, true_or, or_true, Nat.reduceAdd, Int.reduceAdd, Bool.false_eq_true, tn_0, tn_1, tn_2, tn_3, tn_4, tn_5, tn_6, tn_7]
  refine ⟨fun c1 => ?_, fun c1 => ?_⟩
  · first
      | exact absurd c1 (by decide)
      | (refine J_blk a_X6_odds_33 ?_
         simp only [b_X6_odds_33, w_ldc2, cl_m1, w_lret, kd_46, kd_47, kd_48, kd_49, kd_50, kd_51, kd_52, kd_53, kd_54, kd_55, kd_56, kd_57, kd_58, kd_59, ln_47, ln_48, ln_49, ln_50, ln_51, ln_52, ln_53, ln_54, ln_55, ln_56, ln_57, ln_58, ln_59, Option.toList_some, Option.toList_none, List.cons_append, List.nil_append, true_and, and_true, if_true, if_false, true_or, or_true, Nat.reduceAdd, Int.reduceAdd, Bool.false_eq_true, tn_0, tn_1, tn_2, tn_3, tn_4, tn_5, tn_6, tn_7]
         first | exact ⟨rfl, rfl⟩ | (simp_all [Rt]))
  · first
      | exact absurd c1 (by decide)
      | (refine J_blk a_X6_odds_12 ?_
         simp only [b_X6_odds_12, w_iload_n2, w_i2l, w_lconst_0, w_iload_n1, w_nil, kd_46, kd_47, kd_48, kd_49, kd_50, kd_51, kd_52, kd_53, kd_54, kd_55, kd_56, kd_57, kd_58, kd_59, ln_47, ln_48, ln_49, ln_50, ln_51, ln_52, ln_53, ln_54, ln_55, ln_56, ln_57, ln_58, ln_59, Option.toList_some, Option.toList_none, List.cons_append, List.nil_append, true_and, and_true, if_true, if_false, true_or, or_true, Nat.reduceAdd, Int.reduceAdd, Bool.false_eq_true, tn_0, tn_1, tn_2, tn_3, tn_4, tn_5, tn_6, tn_7]
         refine J_callSr (isIn_ok _ _ _ _) k_X6_odds_17 o_X6_isIn rfl (by decide) rfl (Nat.le_of_ble_eq_true rfl) ?_
         (simp only [l_le_1, l_le_2, l_le_3, l_le_5, l_le_7, l_le_8, l_le_9, l_le_10, l_le_13, l_le_20, l_le_30, l_le_60, l_le_99, l_le_9999, l_ge_0, l_ge_1, l_ge_6, l_ge_m1, i64_le]; rw [if_pos (by first | exact h1 | exact h2 | exact h3 | exact h4)])
         refine J_blk a_X6_odds_20 ?_
         simp only [b_X6_odds_20, w_if_eq, w_nil, kd_46, kd_47, kd_48, kd_49, kd_50, kd_51, kd_52, kd_53, kd_54, kd_55, kd_56, kd_57, kd_58, kd_59, ln_47, ln_48, ln_49, ln_50, ln_51, ln_52, ln_53, ln_54, ln_55, ln_56, ln_57, ln_58, ln_59, Option.toList_some, Option.toList_none, List.cons_append, List.nil_append, true_and, and_true, if_true, if_false, true_or, or_true, Nat.reduceAdd, Int.reduceAdd, Bool.false_eq_true, tn_0, tn_1, tn_2, tn_3, tn_4, tn_5, tn_6, tn_7]
         refine ⟨fun c2 => ?_, fun c2 => ?_⟩
         · first
             | exact absurd c2 (by decide)
             | (refine J_blk a_X6_odds_33 ?_
                simp only [b_X6_odds_33, w_ldc2, cl_m1, w_lret, kd_46, kd_47, kd_48, kd_49, kd_50, kd_51, kd_52, kd_53, kd_54, kd_55, kd_56, kd_57, kd_58, kd_59, ln_47, ln_48, ln_49, ln_50, ln_51, ln_52, ln_53, ln_54, ln_55, ln_56, ln_57, ln_58, ln_59, Option.toList_some, Option.toList_none, List.cons_append, List.nil_append, true_and, and_true, if_true, if_false, true_or, or_true, Nat.reduceAdd, Int.reduceAdd, Bool.false_eq_true, tn_0, tn_1, tn_2, tn_3, tn_4, tn_5, tn_6, tn_7]
                first | exact ⟨rfl, rfl⟩ | (simp_all [Rt]))
         · first
             | exact absurd c2 (by decide)
             | (refine J_blk a_X6_odds_23 ?_
                simp only [b_X6_odds_23, w_iload_n3, w_i2l, w_lconst_0, w_lconst_1, w_nil, kd_46, kd_47, kd_48, kd_49, kd_50, kd_51, kd_52, kd_53, kd_54, kd_55, kd_56, kd_57, kd_58, kd_59, ln_47, ln_48, ln_49, ln_50, ln_51, ln_52, ln_53, ln_54, ln_55, ln_56, ln_57, ln_58, ln_59, Option.toList_some, Option.toList_none, List.cons_append, List.nil_append, true_and, and_true, if_true, if_false, true_or, or_true, Nat.reduceAdd, Int.reduceAdd, Bool.false_eq_true, tn_0, tn_1, tn_2, tn_3, tn_4, tn_5, tn_6, tn_7]
                refine J_callSr (isIn_ok _ _ _ _) k_X6_odds_27 o_X6_isIn rfl (by decide) rfl (Nat.le_of_ble_eq_true rfl) ?_
                (simp only [l_le_1, l_le_2, l_le_3, l_le_5, l_le_7, l_le_8, l_le_9, l_le_10, l_le_13, l_le_20, l_le_30, l_le_60, l_le_99, l_le_9999, l_ge_0, l_ge_1, l_ge_6, l_ge_m1, i64_le]; rw [if_pos (by first | exact h1 | exact h2 | exact h3 | exact h4)])
                refine J_blk a_X6_odds_30 ?_
                simp only [b_X6_odds_30, w_if_ne, w_nil, kd_46, kd_47, kd_48, kd_49, kd_50, kd_51, kd_52, kd_53, kd_54, kd_55, kd_56, kd_57, kd_58, kd_59, ln_47, ln_48, ln_49, ln_50, ln_51, ln_52, ln_53, ln_54, ln_55, ln_56, ln_57, ln_58, ln_59, Option.toList_some, Option.toList_none, List.cons_append, List.nil_append, true_and, and_true, if_true, if_false, true_or, or_true, Nat.reduceAdd, Int.reduceAdd, Bool.false_eq_true, tn_0, tn_1, tn_2, tn_3, tn_4, tn_5, tn_6, tn_7]
                refine ⟨fun c3 => ?_, fun c3 => ?_⟩
                · first
                    | exact absurd c3 (by decide)
                    | (exact go)
                · first
                    | exact absurd c3 (by decide)
                    | (refine J_blk a_X6_odds_33 ?_
                       simp only [b_X6_odds_33, w_ldc2, cl_m1, w_lret, kd_46, kd_47, kd_48, kd_49, kd_50, kd_51, kd_52, kd_53, kd_54, kd_55, kd_56, kd_57, kd_58, kd_59, ln_47, ln_48, ln_49, ln_50, ln_51, ln_52, ln_53, ln_54, ln_55, ln_56, ln_57, ln_58, ln_59, Option.toList_some, Option.toList_none, List.cons_append, List.nil_append, true_and, and_true, if_true, if_false, true_or, or_true, Nat.reduceAdd, Int.reduceAdd, Bool.false_eq_true, tn_0, tn_1, tn_2, tn_3, tn_4, tn_5, tn_6, tn_7]
                       first | exact ⟨rfl, rfl⟩ | (simp_all [Rt]))))
theorem mhope_t (a p f : Nat) (M : Mm) (ha : a ≤ 99) (hp : p ≤ 1) (hf : f ≤ 99) (ef : M.1 47 7 = nI f) : K 2 mX6_hope [.ref 46, .int (nI a), .int (nI p)] M (Rt (some (.long (lN ((if p = 0 then a * f else 100) / Nat.gcd (a * f) 100)))) M) := by
  have h1 : 0 ≤ nI a ∧ nI a ≤ 99 := ok2 (m := 99) (by omega) (by decide)
  have h3 : 0 ≤ nI p ∧ nI p ≤ 1 := ok2 (m := 1) (by omega) (by decide)
  have ep : (nI p = 0) = (p = 0) := propext (nI_eq (b := 0) (by omega) (by decide))
  have e7 : (7 : Int32).toNatClampNeg = 7 := rfl
  have haf : a * f ≤ 99 * 99 := Nat.mul_le_mul ha hf
  have go : J 2 mX6_hope 22 [some (.ref 46), some (.int (nI a)), some (.int (nI p))] [] M (Rt (some (.long (lN ((if p = 0 then a * f else 100) / Nat.gcd (a * f) 100)))) M) := by
    refine J_blk a_X6_hope_22 ?_
    simp only [b_X6_hope_22, w_iload_n1, w_i2l, w_aload_n0, w_getf6, ne0_1, w_bipush, ci_7, w_iald, w_lmul, w_ldc2, cl_100, w_iload_n2, w_nil, kd_46, kd_47, kd_48, kd_49, kd_50, kd_51, kd_52, kd_53, kd_54, kd_55, kd_56, kd_57, kd_58, kd_59, ln_47, ln_48, ln_49, ln_50, ln_51, ln_52, ln_53, ln_54, ln_55, ln_56, ln_57, ln_58, ln_59, Option.toList_some, Option.toList_none, List.cons_append, List.nil_append, true_and, and_true, if_true, if_false, true_or, or_true, Nat.reduceAdd, Int.reduceAdd, Bool.false_eq_true, tn_0, tn_1, tn_2, tn_3, tn_4, tn_5, tn_6, tn_7, ef, e7, nI_l (show f < 2 ^ 31 by omega), nI_l (show a < 2 ^ 31 by omega), lN_mul]
    refine ⟨vlit (by decide), ?_⟩
    refine J_callSr (partOf_ok (a * f) 100 _ _ (by omega) (by omega) (by omega)) k_X6_hope_37 o_X6_partOf rfl (by decide) rfl (Nat.le_of_ble_eq_true rfl) ?_
    simp only [ep]
    refine J_blk a_X6_hope_40 ?_
    simp only [b_X6_hope_40, w_goto, kd_46, kd_47, kd_48, kd_49, kd_50, kd_51, kd_52, kd_53, kd_54, kd_55, kd_56, kd_57, kd_58, kd_59, ln_47, ln_48, ln_49, ln_50, ln_51, ln_52, ln_53, ln_54, ln_55, ln_56, ln_57, ln_58, ln_59, Option.toList_some, Option.toList_none, List.cons_append, List.nil_append, true_and, and_true, if_true, if_false, true_or, or_true, Nat.reduceAdd, Int.reduceAdd, Bool.false_eq_true, tn_0, tn_1, tn_2, tn_3, tn_4, tn_5, tn_6, tn_7]
    refine J_blk a_X6_hope_46 ?_
    simp only [b_X6_hope_46, w_lret, kd_46, kd_47, kd_48, kd_49, kd_50, kd_51, kd_52, kd_53, kd_54, kd_55, kd_56, kd_57, kd_58, kd_59, ln_47, ln_48, ln_49, ln_50, ln_51, ln_52, ln_53, ln_54, ln_55, ln_56, ln_57, ln_58, ln_59, Option.toList_some, Option.toList_none, List.cons_append, List.nil_append, true_and, and_true, if_true, if_false, true_or, or_true, Nat.reduceAdd, Int.reduceAdd, Bool.false_eq_true, tn_0, tn_1, tn_2, tn_3, tn_4, tn_5, tn_6, tn_7]
    first | exact ⟨rfl, rfl⟩ | (simp_all [Rt])
  refine K_go 2 o_X6_hope [] rfl (Nat.le_of_ble_eq_true rfl) ?_
  simp only [lvA_i, lvA_a, lvA_l, lvA_nil, List.cons_append, List.nil_append]
  refine J_blk a_X6_hope_0 ?_
  simp only [b_X6_hope_0, w_iload_n1, w_i2l, w_lconst_0, w_ldc2, cl_99, w_nil, kd_46, kd_47, kd_48, kd_49, kd_50, kd_51, kd_52, kd_53, kd_54, kd_55, kd_56, kd_57, kd_58, kd_59, ln_47, ln_48, ln_49, ln_50, ln_51, ln_52, ln_53, ln_54, ln_55, ln_56, ln_57, ln_58, ln_59, Option.toList_some, Option.toList_none, List.cons_append, List.nil_append, true_and, and_true, if_true, if_false, true_or, or_true, Nat.reduceAdd, Int.reduceAdd, Bool.false_eq_true, tn_0, tn_1, tn_2, tn_3, tn_4, tn_5, tn_6, tn_7]
  refine J_callSr (isIn_ok _ _ _ _) k_X6_hope_6 o_X6_isIn rfl (by decide) rfl (Nat.le_of_ble_eq_true rfl) ?_
  (simp only [l_le_1, l_le_2, l_le_3, l_le_5, l_le_7, l_le_8, l_le_9, l_le_10, l_le_13, l_le_20, l_le_30, l_le_60, l_le_99, l_le_9999, l_ge_0, l_ge_1, l_ge_6, l_ge_m1, i64_le]; rw [if_pos (by first | exact h1 | exact h2 | exact h3 | exact h4)])
  refine J_blk a_X6_hope_9 ?_
  simp only [b_X6_hope_9, w_if_eq, w_nil, kd_46, kd_47, kd_48, kd_49, kd_50, kd_51, kd_52, kd_53, kd_54, kd_55, kd_56, kd_57, kd_58, kd_59, ln_47, ln_48, ln_49, ln_50, ln_51, ln_52, ln_53, ln_54, ln_55, ln_56, ln_57, ln_58, ln_59, Option.toList_some, Option.toList_none, List.cons_append, List.nil_append, true_and, and_true, if_true, if_false, true_or, or_true, Nat.reduceAdd, Int.reduceAdd, Bool.false_eq_true, tn_0, tn_1, tn_2, tn_3, tn_4, tn_5, tn_6, tn_7]
  refine ⟨fun c4 => ?_, fun c4 => ?_⟩
  · first
      | exact absurd c4 (by decide)
      | (refine J_blk a_X6_hope_43 ?_
         simp only [b_X6_hope_43, w_ldc2, cl_m1, w_nil, kd_46, kd_47, kd_48, kd_49, kd_50, kd_51, kd_52, kd_53, kd_54, kd_55, kd_56, kd_57, kd_58, kd_59, ln_47, ln_48, ln_49, ln_50, ln_51, ln_52, ln_53, ln_54, ln_55, ln_56, ln_57, ln_58, ln_59, Option.toList_some, Option.toList_none, List.cons_append, List.nil_append, true_and, and_true, if_true, if_false, true_or, or_true, Nat.reduceAdd, Int.reduceAdd, Bool.false_eq_true, tn_0, tn_1, tn_2, tn_3, tn_4, tn_5, tn_6, tn_7]
         refine J_blk a_X6_hope_46 ?_
         simp only [b_X6_hope_46, w_lret, kd_46, kd_47, kd_48, kd_49, kd_50, kd_51, kd_52, kd_53, kd_54, kd_55, kd_56, kd_57, kd_58, kd_59, ln_47, ln_48, ln_49, ln_50, ln_51, ln_52, ln_53, ln_54, ln_55, ln_56, ln_57, ln_58, ln_59, Option.toList_some, Option.toList_none, List.cons_append, List.nil_append, true_and, and_true, if_true, if_false, true_or, or_true, Nat.reduceAdd, Int.reduceAdd, Bool.false_eq_true, tn_0, tn_1, tn_2, tn_3, tn_4, tn_5, tn_6, tn_7]
         first | exact ⟨rfl, rfl⟩ | (simp_all [Rt]))
  · first
      | exact absurd c4 (by decide)
      | (refine J_blk a_X6_hope_12 ?_
         simp only [b_X6_hope_12, w_iload_n2, w_i2l, w_lconst_0, w_lconst_1, w_nil, kd_46, kd_47, kd_48, kd_49, kd_50, kd_51, kd_52, kd_53, kd_54, kd_55, kd_56, kd_57, kd_58, kd_59, ln_47, ln_48, ln_49, ln_50, ln_51, ln_52, ln_53, ln_54, ln_55, ln_56, ln_57, ln_58, ln_59, Option.toList_some, Option.toList_none, List.cons_append, List.nil_append, true_and, and_true, if_true, if_false, true_or, or_true, Nat.reduceAdd, Int.reduceAdd, Bool.false_eq_true, tn_0, tn_1, tn_2, tn_3, tn_4, tn_5, tn_6, tn_7]
         refine J_callSr (isIn_ok _ _ _ _) k_X6_hope_16 o_X6_isIn rfl (by decide) rfl (Nat.le_of_ble_eq_true rfl) ?_
         (simp only [l_le_1, l_le_2, l_le_3, l_le_5, l_le_7, l_le_8, l_le_9, l_le_10, l_le_13, l_le_20, l_le_30, l_le_60, l_le_99, l_le_9999, l_ge_0, l_ge_1, l_ge_6, l_ge_m1, i64_le]; rw [if_pos (by first | exact h1 | exact h2 | exact h3 | exact h4)])
         refine J_blk a_X6_hope_19 ?_
         simp only [b_X6_hope_19, w_if_eq, w_nil, kd_46, kd_47, kd_48, kd_49, kd_50, kd_51, kd_52, kd_53, kd_54, kd_55, kd_56, kd_57, kd_58, kd_59, ln_47, ln_48, ln_49, ln_50, ln_51, ln_52, ln_53, ln_54, ln_55, ln_56, ln_57, ln_58, ln_59, Option.toList_some, Option.toList_none, List.cons_append, List.nil_append, true_and, and_true, if_true, if_false, true_or, or_true, Nat.reduceAdd, Int.reduceAdd, Bool.false_eq_true, tn_0, tn_1, tn_2, tn_3, tn_4, tn_5, tn_6, tn_7]
         refine ⟨fun c5 => ?_, fun c5 => ?_⟩
         · first
             | exact absurd c5 (by decide)
             | (refine J_blk a_X6_hope_43 ?_
                simp only [b_X6_hope_43, w_ldc2, cl_m1, w_nil, kd_46, kd_47, kd_48, kd_49, kd_50, kd_51, kd_52, kd_53, kd_54, kd_55, kd_56, kd_57, kd_58, kd_59, ln_47, ln_48, ln_49, ln_50, ln_51, ln_52, ln_53, ln_54, ln_55, ln_56, ln_57, ln_58, ln_59, Option.toList_some, Option.toList_none, List.cons_append, List.nil_append, true_and, and_true, if_true, if_false, true_or, or_true, Nat.reduceAdd, Int.reduceAdd, Bool.false_eq_true, tn_0, tn_1, tn_2, tn_3, tn_4, tn_5, tn_6, tn_7]
                refine J_blk a_X6_hope_46 ?_
                simp only [b_X6_hope_46, w_lret, kd_46, kd_47, kd_48, kd_49, kd_50, kd_51, kd_52, kd_53, kd_54, kd_55, kd_56, kd_57, kd_58, kd_59, ln_47, ln_48, ln_49, ln_50, ln_51, ln_52, ln_53, ln_54, ln_55, ln_56, ln_57, ln_58, ln_59, Option.toList_some, Option.toList_none, List.cons_append, List.nil_append, true_and, and_true, if_true, if_false, true_or, or_true, Nat.reduceAdd, Int.reduceAdd, Bool.false_eq_true, tn_0, tn_1, tn_2, tn_3, tn_4, tn_5, tn_6, tn_7]
                first | exact ⟨rfl, rfl⟩ | (simp_all [Rt]))
         · first
             | exact absurd c5 (by decide)
             | (exact go))

