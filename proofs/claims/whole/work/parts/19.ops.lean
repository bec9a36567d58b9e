/-! the model's public methods: the tree, answers -/
theorem mset_t (j a : Nat) (M : Mm) (hj : j < 4) (ha : a ≤ (if j = 3 then 99 else 9)) : K 1 mX6_set [.ref 46, .int (nI j), .int (nI a)] M (Rt (some (.int (M.1 47 (4 + j)))) (su M 47 (upd (M.1 47) (4 + j) (nI a)))) := by
  have h1 : 0 ≤ nI j ∧ nI j ≤ 3 := ok2 (m := 3) (by omega) (by decide)
  have e4 : (4 : Int32) + nI j = nI (4 + j) := nI_add 4 j
  have e3 : (nI j = 3) = (j = 3) := propext (nI_eq (b := 3) (by omega) (by decide))
  refine K_go 2 o_X6_set [] rfl (Nat.le_of_ble_eq_true rfl) ?_
  simp only [lvA_i, lvA_a, lvA_l, lvA_nil, List.cons_append, List.nil_append]
  refine J_blk a_X6_set_0 ?_
  simp only [b_X6_set_0, w_iload_n1, w_i2l, w_lconst_0, w_ldc2, cl_3, w_nil, kd_46, kd_47, kd_48, kd_49, kd_50, kd_51, kd_52, kd_53, kd_54, kd_55, kd_56, kd_57, kd_58, kd_59, ln_47, ln_48, ln_49, ln_50, ln_51, ln_52, ln_53, ln_54, ln_55, ln_56, ln_57, ln_58, ln_59, Option.toList_some, Option.toList_none, List.cons_append, List.nil_append, true_and, and_true, if_true, if_false, true_or, or_true, Nat.reduceAdd, Int.reduceAdd, Bool.false_eq_true, tn_0, tn_1, tn_2, tn_3, tn_4, tn_5, tn_6, tn_7]
  refine J_callSr (isIn_ok _ _ _ _) k_X6_set_6 o_X6_isIn rfl (by decide) rfl (Nat.le_of_ble_eq_true rfl) ?_
  simp only [l_le_1, l_le_2, l_le_3, l_le_5, l_le_7, l_le_8, l_le_9, l_le_10, l_le_13, l_le_20, l_le_30, l_le_60, l_le_99, l_le_9999, l_ge_0, l_ge_1, l_ge_6, l_ge_m1]
  rw [if_pos h1]
  refine J_blk a_X6_set_9 ?_
  simp only [b_X6_set_9, w_if_eq, w_nil, kd_46, kd_47, kd_48, kd_49, kd_50, kd_51, kd_52, kd_53, kd_54, kd_55, kd_56, kd_57, kd_58, kd_59, ln_47, ln_48, ln_49, ln_50, ln_51, ln_52, ln_53, ln_54, ln_55, ln_56, ln_57, ln_58, ln_59, Option.toList_some, Option.toList_none, List.cons_append, List.nil_append, true_and, and_true, if_true, if_false, true_or, or_true, Nat.reduceAdd, Int.reduceAdd, Bool.false_eq_true, tn_0, tn_1, tn_2, tn_3, tn_4, tn_5, tn_6, tn_7]
  refine ⟨fun h => absurd h (by decide), fun _ => ?_⟩
  refine J_blk a_X6_set_12 ?_
  simp only [b_X6_set_12, w_iload_n2, w_i2l, w_lconst_0, w_iload_n1, w_iconst_3, w_icmp_ne, w_nil, kd_46, kd_47, kd_48, kd_49, kd_50, kd_51, kd_52, kd_53, kd_54, kd_55, kd_56, kd_57, kd_58, kd_59, ln_47, ln_48, ln_49, ln_50, ln_51, ln_52, ln_53, ln_54, ln_55, ln_56, ln_57, ln_58, ln_59, Option.toList_some, Option.toList_none, List.cons_append, List.nil_append, true_and, and_true, if_true, if_false, true_or, or_true, Nat.reduceAdd, Int.reduceAdd, Bool.false_eq_true, tn_0, tn_1, tn_2, tn_3, tn_4, tn_5, tn_6, tn_7, e3]
  refine ⟨fun c => ?_, fun c => ?_⟩
  · rw [if_neg c] at ha
    have h2 : 0 ≤ nI a ∧ nI a ≤ 9 := ok2 (m := 9) ha (by decide)
    refine J_blk a_X6_set_26 ?_
    simp only [b_X6_set_26, w_ldc2, cl_9, w_nil, kd_46, kd_47, kd_48, kd_49, kd_50, kd_51, kd_52, kd_53, kd_54, kd_55, kd_56, kd_57, kd_58, kd_59, ln_47, ln_48, ln_49, ln_50, ln_51, ln_52, ln_53, ln_54, ln_55, ln_56, ln_57, ln_58, ln_59, Option.toList_some, Option.toList_none, List.cons_append, List.nil_append, true_and, and_true, if_true, if_false, true_or, or_true, Nat.reduceAdd, Int.reduceAdd, Bool.false_eq_true, tn_0, tn_1, tn_2, tn_3, tn_4, tn_5, tn_6, tn_7, e4]
    refine J_callSr (isIn_ok _ _ _ _) k_X6_set_29 o_X6_isIn rfl (by decide) rfl (Nat.le_of_ble_eq_true rfl) ?_
    (simp only [l_le_1, l_le_2, l_le_3, l_le_5, l_le_7, l_le_8, l_le_9, l_le_10, l_le_13, l_le_20, l_le_30, l_le_60, l_le_99, l_le_9999, l_ge_0, l_ge_1, l_ge_6, l_ge_m1, i64_le]; rw [if_pos (by first | exact h1 | exact h2 | exact h3 | exact h4)])
    refine J_blk a_X6_set_32 ?_
    simp only [b_X6_set_32, w_if_eq, w_nil, kd_46, kd_47, kd_48, kd_49, kd_50, kd_51, kd_52, kd_53, kd_54, kd_55, kd_56, kd_57, kd_58, kd_59, ln_47, ln_48, ln_49, ln_50, ln_51, ln_52, ln_53, ln_54, ln_55, ln_56, ln_57, ln_58, ln_59, Option.toList_some, Option.toList_none, List.cons_append, List.nil_append, true_and, and_true, if_true, if_false, true_or, or_true, Nat.reduceAdd, Int.reduceAdd, Bool.false_eq_true, tn_0, tn_1, tn_2, tn_3, tn_4, tn_5, tn_6, tn_7, e4]
    refine ⟨fun c1 => ?_, fun c1 => ?_⟩
    · first
        | exact absurd c1 (by decide)
        | (refine J_blk a_X6_set_46 ?_
           simp only [b_X6_set_46, w_iconst_m1, w_nil, kd_46, kd_47, kd_48, kd_49, kd_50, kd_51, kd_52, kd_53, kd_54, kd_55, kd_56, kd_57, kd_58, kd_59, ln_47, ln_48, ln_49, ln_50, ln_51, ln_52, ln_53, ln_54, ln_55, ln_56, ln_57, ln_58, ln_59, Option.toList_some, Option.toList_none, List.cons_append, List.nil_append, true_and, and_true, if_true, if_false, true_or, or_true, Nat.reduceAdd, Int.reduceAdd, Bool.false_eq_true, tn_0, tn_1, tn_2, tn_3, tn_4, tn_5, tn_6, tn_7, e4]
           refine J_blk a_X6_set_47 ?_
           simp only [b_X6_set_47, w_ireti, kd_46, kd_47, kd_48, kd_49, kd_50, kd_51, kd_52, kd_53, kd_54, kd_55, kd_56, kd_57, kd_58, kd_59, ln_47, ln_48, ln_49, ln_50, ln_51, ln_52, ln_53, ln_54, ln_55, ln_56, ln_57, ln_58, ln_59, Option.toList_some, Option.toList_none, List.cons_append, List.nil_append, true_and, and_true, if_true, if_false, true_or, or_true, Nat.reduceAdd, Int.reduceAdd, Bool.false_eq_true, tn_0, tn_1, tn_2, tn_3, tn_4, tn_5, tn_6, tn_7, e4]
           exact ⟨rfl, by rw [u1_row]⟩)
    · first
        | exact absurd c1 (by decide)
        | (refine J_blk a_X6_set_35 ?_
           simp only [b_X6_set_35, w_aload_n0, w_iconst_4, w_iload_n1, w_iadd, w_iload_n2, w_nil, kd_46, kd_47, kd_48, kd_49, kd_50, kd_51, kd_52, kd_53, kd_54, kd_55, kd_56, kd_57, kd_58, kd_59, ln_47, ln_48, ln_49, ln_50, ln_51, ln_52, ln_53, ln_54, ln_55, ln_56, ln_57, ln_58, ln_59, Option.toList_some, Option.toList_none, List.cons_append, List.nil_append, true_and, and_true, if_true, if_false, true_or, or_true, Nat.reduceAdd, Int.reduceAdd, Bool.false_eq_true, tn_0, tn_1, tn_2, tn_3, tn_4, tn_5, tn_6, tn_7, e4]
           refine J_callVr (ci := 6) (becomes_ok (4 + j) _ _ (by omega)) k_X6_set_40 o_X6_becomes rfl rfl rfl rfl (by decide) rfl (Nat.le_of_ble_eq_true rfl) ?_
           refine J_blk a_X6_set_43 ?_
           simp only [b_X6_set_43, w_goto, kd_46, kd_47, kd_48, kd_49, kd_50, kd_51, kd_52, kd_53, kd_54, kd_55, kd_56, kd_57, kd_58, kd_59, ln_47, ln_48, ln_49, ln_50, ln_51, ln_52, ln_53, ln_54, ln_55, ln_56, ln_57, ln_58, ln_59, Option.toList_some, Option.toList_none, List.cons_append, List.nil_append, true_and, and_true, if_true, if_false, true_or, or_true, Nat.reduceAdd, Int.reduceAdd, Bool.false_eq_true, tn_0, tn_1, tn_2, tn_3, tn_4, tn_5, tn_6, tn_7, e4]
           refine J_blk a_X6_set_47 ?_
           simp only [b_X6_set_47, w_ireti, kd_46, kd_47, kd_48, kd_49, kd_50, kd_51, kd_52, kd_53, kd_54, kd_55, kd_56, kd_57, kd_58, kd_59, ln_47, ln_48, ln_49, ln_50, ln_51, ln_52, ln_53, ln_54, ln_55, ln_56, ln_57, ln_58, ln_59, Option.toList_some, Option.toList_none, List.cons_append, List.nil_append, true_and, and_true, if_true, if_false, true_or, or_true, Nat.reduceAdd, Int.reduceAdd, Bool.false_eq_true, tn_0, tn_1, tn_2, tn_3, tn_4, tn_5, tn_6, tn_7, e4]
           exact ⟨rfl, by rw [u1_row]⟩)
  · rw [if_pos c] at ha
    have h2 : 0 ≤ nI a ∧ nI a ≤ 99 := ok2 (m := 99) ha (by decide)
    refine J_blk a_X6_set_20 ?_
    simp only [b_X6_set_20, w_ldc2, cl_99, w_goto, kd_46, kd_47, kd_48, kd_49, kd_50, kd_51, kd_52, kd_53, kd_54, kd_55, kd_56, kd_57, kd_58, kd_59, ln_47, ln_48, ln_49, ln_50, ln_51, ln_52, ln_53, ln_54, ln_55, ln_56, ln_57, ln_58, ln_59, Option.toList_some, Option.toList_none, List.cons_append, List.nil_append, true_and, and_true, if_true, if_false, true_or, or_true, Nat.reduceAdd, Int.reduceAdd, Bool.false_eq_true, tn_0, tn_1, tn_2, tn_3, tn_4, tn_5, tn_6, tn_7, e4]
    refine J_callSr (isIn_ok _ _ _ _) k_X6_set_29 o_X6_isIn rfl (by decide) rfl (Nat.le_of_ble_eq_true rfl) ?_
    (simp only [l_le_1, l_le_2, l_le_3, l_le_5, l_le_7, l_le_8, l_le_9, l_le_10, l_le_13, l_le_20, l_le_30, l_le_60, l_le_99, l_le_9999, l_ge_0, l_ge_1, l_ge_6, l_ge_m1, i64_le]; rw [if_pos (by first | exact h1 | exact h2 | exact h3 | exact h4)])
    refine J_blk a_X6_set_32 ?_
    simp only [b_X6_set_32, w_if_eq, w_nil, kd_46, kd_47, kd_48, kd_49, kd_50, kd_51, kd_52, kd_53, kd_54, kd_55, kd_56, kd_57, kd_58, kd_59, ln_47, ln_48, ln_49, ln_50, ln_51, ln_52, ln_53, ln_54, ln_55, ln_56, ln_57, ln_58, ln_59, Option.toList_some, Option.toList_none, List.cons_append, List.nil_append, true_and, and_true, if_true, if_false, true_or, or_true, Nat.reduceAdd, Int.reduceAdd, Bool.false_eq_true, tn_0, tn_1, tn_2, tn_3, tn_4, tn_5, tn_6, tn_7, e4]
    refine ⟨fun c2 => ?_, fun c2 => ?_⟩
    · first
        | exact absurd c2 (by decide)
        | (refine J_blk a_X6_set_46 ?_
           simp only [b_X6_set_46, w_iconst_m1, w_nil, kd_46, kd_47, kd_48, kd_49, kd_50, kd_51, kd_52, kd_53, kd_54, kd_55, kd_56, kd_57, kd_58, kd_59, ln_47, ln_48, ln_49, ln_50, ln_51, ln_52, ln_53, ln_54, ln_55, ln_56, ln_57, ln_58, ln_59, Option.toList_some, Option.toList_none, List.cons_append, List.nil_append, true_and, and_true, if_true, if_false, true_or, or_true, Nat.reduceAdd, Int.reduceAdd, Bool.false_eq_true, tn_0, tn_1, tn_2, tn_3, tn_4, tn_5, tn_6, tn_7, e4]
           refine J_blk a_X6_set_47 ?_
           simp only [b_X6_set_47, w_ireti, kd_46, kd_47, kd_48, kd_49, kd_50, kd_51, kd_52, kd_53, kd_54, kd_55, kd_56, kd_57, kd_58, kd_59, ln_47, ln_48, ln_49, ln_50, ln_51, ln_52, ln_53, ln_54, ln_55, ln_56, ln_57, ln_58, ln_59, Option.toList_some, Option.toList_none, List.cons_append, List.nil_append, true_and, and_true, if_true, if_false, true_or, or_true, Nat.reduceAdd, Int.reduceAdd, Bool.false_eq_true, tn_0, tn_1, tn_2, tn_3, tn_4, tn_5, tn_6, tn_7, e4]
           exact ⟨rfl, by rw [u1_row]⟩)
    · first
        | exact absurd c2 (by decide)
        | (refine J_blk a_X6_set_35 ?_
           simp only [b_X6_set_35, w_aload_n0, w_iconst_4, w_iload_n1, w_iadd, w_iload_n2, w_nil, kd_46, kd_47, kd_48, kd_49, kd_50, kd_51, kd_52, kd_53, kd_54, kd_55, kd_56, kd_57, kd_58, kd_59, ln_47, ln_48, ln_49, ln_50, ln_51, ln_52, ln_53, ln_54, ln_55, ln_56, ln_57, ln_58, ln_59, Option.toList_some, Option.toList_none, List.cons_append, List.nil_append, true_and, and_true, if_true, if_false, true_or, or_true, Nat.reduceAdd, Int.reduceAdd, Bool.false_eq_true, tn_0, tn_1, tn_2, tn_3, tn_4, tn_5, tn_6, tn_7, e4]
           refine J_callVr (ci := 6) (becomes_ok (4 + j) _ _ (by omega)) k_X6_set_40 o_X6_becomes rfl rfl rfl rfl (by decide) rfl (Nat.le_of_ble_eq_true rfl) ?_
           refine J_blk a_X6_set_43 ?_
           simp only [b_X6_set_43, w_goto, kd_46, kd_47, kd_48, kd_49, kd_50, kd_51, kd_52, kd_53, kd_54, kd_55, kd_56, kd_57, kd_58, kd_59, ln_47, ln_48, ln_49, ln_50, ln_51, ln_52, ln_53, ln_54, ln_55, ln_56, ln_57, ln_58, ln_59, Option.toList_some, Option.toList_none, List.cons_append, List.nil_append, true_and, and_true, if_true, if_false, true_or, or_true, Nat.reduceAdd, Int.reduceAdd, Bool.false_eq_true, tn_0, tn_1, tn_2, tn_3, tn_4, tn_5, tn_6, tn_7, e4]
           refine J_blk a_X6_set_47 ?_
           simp only [b_X6_set_47, w_ireti, kd_46, kd_47, kd_48, kd_49, kd_50, kd_51, kd_52, kd_53, kd_54, kd_55, kd_56, kd_57, kd_58, kd_59, ln_47, ln_48, ln_49, ln_50, ln_51, ln_52, ln_53, ln_54, ln_55, ln_56, ln_57, ln_58, ln_59, Option.toList_some, Option.toList_none, List.cons_append, List.nil_append, true_and, and_true, if_true, if_false, true_or, or_true, Nat.reduceAdd, Int.reduceAdd, Bool.false_eq_true, tn_0, tn_1, tn_2, tn_3, tn_4, tn_5, tn_6, tn_7, e4]
           exact ⟨rfl, by rw [u1_row]⟩)
theorem mlawOf_t (j : Nat) (M : Mm) (hj : j < 4) : K 1 mX6_lawOf [.ref 46, .int (nI j)] M (Rt (some (.int (M.1 47 (4 + j)))) M) := by
  have h1 : 0 ≤ nI j ∧ nI j ≤ 3 := ok2 (m := 3) (by omega) (by decide)
  have e4 : (4 : Int32) + nI j = nI (4 + j) := nI_add 4 j
  have t4 : (nI (4 + j)).toNatClampNeg = 4 + j := nI_clamp (by omega)
  refine K_go 1 o_X6_lawOf [] rfl (Nat.le_of_ble_eq_true rfl) ?_
  simp only [lvA_i, lvA_a, lvA_l, lvA_nil, List.cons_append, List.nil_append]
  refine J_blk a_X6_lawOf_0 ?_
  simp only [b_X6_lawOf_0, w_iload_n1, w_i2l, w_lconst_0, w_ldc2, cl_3, w_nil, kd_46, kd_47, kd_48, kd_49, kd_50, kd_51, kd_52, kd_53, kd_54, kd_55, kd_56, kd_57, kd_58, kd_59, ln_47, ln_48, ln_49, ln_50, ln_51, ln_52, ln_53, ln_54, ln_55, ln_56, ln_57, ln_58, ln_59, Option.toList_some, Option.toList_none, List.cons_append, List.nil_append, true_and, and_true, if_true, if_false, true_or, or_true, Nat.reduceAdd, Int.reduceAdd, Bool.false_eq_true, tn_0, tn_1, tn_2, tn_3, tn_4, tn_5, tn_6, tn_7, e4, t4]
  refine J_callSr (isIn_ok _ _ _ _) k_X6_lawOf_6 o_X6_isIn rfl (by decide) rfl (Nat.le_of_ble_eq_true rfl) ?_
  (simp only [l_le_1, l_le_2, l_le_3, l_le_5, l_le_7, l_le_8, l_le_9, l_le_10, l_le_13, l_le_20, l_le_30, l_le_60, l_le_99, l_le_9999, l_ge_0, l_ge_1, l_ge_6, l_ge_m1, i64_le]; rw [if_pos (by first | exact h1 | exact h2 | exact h3 | exact h4)])
  refine J_blk a_X6_lawOf_9 ?_
  simp only [b_X6_lawOf_9, w_if_eq, w_nil, kd_46, kd_47, kd_48, kd_49, kd_50, kd_51, kd_52, kd_53, kd_54, kd_55, kd_56, kd_57, kd_58, kd_59, ln_47, ln_48, ln_49, ln_50, ln_51, ln_52, ln_53, ln_54, ln_55, ln_56, ln_57, ln_58, ln_59, Option.toList_some, Option.toList_none, List.cons_append, List.nil_append, true_and, and_true, if_true, if_false, true_or, or_true, Nat.reduceAdd, Int.reduceAdd, Bool.false_eq_true, tn_0, tn_1, tn_2, tn_3, tn_4, tn_5, tn_6, tn_7, e4, t4]
  refine ⟨fun c3 => ?_, fun c3 => ?_⟩
  · first
      | exact absurd c3 (by decide)
      | (refine J_blk a_X6_lawOf_23 ?_
         simp only [b_X6_lawOf_23, w_iconst_m1, w_nil, kd_46, kd_47, kd_48, kd_49, kd_50, kd_51, kd_52, kd_53, kd_54, kd_55, kd_56, kd_57, kd_58, kd_59, ln_47, ln_48, ln_49, ln_50, ln_51, ln_52, ln_53, ln_54, ln_55, ln_56, ln_57, ln_58, ln_59, Option.toList_some, Option.toList_none, List.cons_append, List.nil_append, true_and, and_true, if_true, if_false, true_or, or_true, Nat.reduceAdd, Int.reduceAdd, Bool.false_eq_true, tn_0, tn_1, tn_2, tn_3, tn_4, tn_5, tn_6, tn_7, e4, t4]
         refine J_blk a_X6_lawOf_24 ?_
         simp only [b_X6_lawOf_24, w_ireti, kd_46, kd_47, kd_48, kd_49, kd_50, kd_51, kd_52, kd_53, kd_54, kd_55, kd_56, kd_57, kd_58, kd_59, ln_47, ln_48, ln_49, ln_50, ln_51, ln_52, ln_53, ln_54, ln_55, ln_56, ln_57, ln_58, ln_59, Option.toList_some, Option.toList_none, List.cons_append, List.nil_append, true_and, and_true, if_true, if_false, true_or, or_true, Nat.reduceAdd, Int.reduceAdd, Bool.false_eq_true, tn_0, tn_1, tn_2, tn_3, tn_4, tn_5, tn_6, tn_7, e4, t4]
         exact ⟨rfl, rfl⟩)
  · first
      | exact absurd c3 (by decide)
      | (refine J_blk a_X6_lawOf_12 ?_
         simp only [b_X6_lawOf_12, w_aload_n0, w_getf6, ne0_1, w_iconst_4, w_iload_n1, w_iadd, w_iald, w_goto, kd_46, kd_47, kd_48, kd_49, kd_50, kd_51, kd_52, kd_53, kd_54, kd_55, kd_56, kd_57, kd_58, kd_59, ln_47, ln_48, ln_49, ln_50, ln_51, ln_52, ln_53, ln_54, ln_55, ln_56, ln_57, ln_58, ln_59, Option.toList_some, Option.toList_none, List.cons_append, List.nil_append, true_and, and_true, if_true, if_false, true_or, or_true, Nat.reduceAdd, Int.reduceAdd, Bool.false_eq_true, tn_0, tn_1, tn_2, tn_3, tn_4, tn_5, tn_6, tn_7, e4, t4]
         refine ⟨(vinN (by omega) (by decide)), ?_⟩
         refine J_blk a_X6_lawOf_24 ?_
         simp only [b_X6_lawOf_24, w_ireti, kd_46, kd_47, kd_48, kd_49, kd_50, kd_51, kd_52, kd_53, kd_54, kd_55, kd_56, kd_57, kd_58, kd_59, ln_47, ln_48, ln_49, ln_50, ln_51, ln_52, ln_53, ln_54, ln_55, ln_56, ln_57, ln_58, ln_59, Option.toList_some, Option.toList_none, List.cons_append, List.nil_append, true_and, and_true, if_true, if_false, true_or, or_true, Nat.reduceAdd, Int.reduceAdd, Bool.false_eq_true, tn_0, tn_1, tn_2, tn_3, tn_4, tn_5, tn_6, tn_7, e4, t4]
         exact ⟨rfl, rfl⟩)
def brR (s : Nat → Int32) (n : Nat) (k on f a : Int32) : Nat → Int32 := upd (upd (upd (upd (upd (upd (upd s (8 + 6 * n) k) (8 + 6 * n + 1) on) (8 + 6 * n + 2) f) (8 + 6 * n + 3) a) (8 + 6 * n + 4) 0) (8 + 6 * n + 5) 0) 0 (nI (n + 1))
theorem mbranch_t (n k q f a : Nat) (M : Mm) (hw : WF (M.1 47) n) (hn : n < 8) (hk : k ≤ 5) (hq : q ≤ n) (hf : f ≤ 9) (ha : a ≤ 99) : K 1 mX6_branch [.ref 46, .int (nI k), .int (nI q), .int (nI f), .int (nI a)] M (Rt (some (.int (nI n))) (su M 47 (brR (M.1 47) n (nI k) (nI q) (nI f) (nI a)))) := by
  have h0 := hw.1
  have h1 : 0 ≤ nI k ∧ nI k ≤ 5 := ok2 (m := 5) hk (by decide)
  have h2 : 0 ≤ nI q ∧ nI q ≤ nI n := ok2 hq (by omega)
  have h3 : 0 ≤ nI f ∧ nI f ≤ 9 := ok2 (m := 9) hf (by decide)
  have h4 : 0 ≤ nI a ∧ nI a ≤ 99 := ok2 (m := 99) ha (by decide)
  have e8 : (nI n = 8) = (n = 8) := propext (nI_eq (b := 8) (by omega) (by decide))
  have t0 : (nI (8 + 6 * n)).toNatClampNeg = 8 + 6 * n := nI_clamp (by omega)
  have t1 : (nI (8 + 6 * n + 1)).toNatClampNeg = 8 + 6 * n + 1 := nI_clamp (by omega)
  have t2 : (nI (8 + 6 * n + 2)).toNatClampNeg = 8 + 6 * n + 2 := nI_clamp (by omega)
  have t3 : (nI (8 + 6 * n + 3)).toNatClampNeg = 8 + 6 * n + 3 := nI_clamp (by omega)
  have t4 : (nI (8 + 6 * n + 4)).toNatClampNeg = 8 + 6 * n + 4 := nI_clamp (by omega)
  have t5 : (nI (8 + 6 * n + 5)).toNatClampNeg = 8 + 6 * n + 5 := nI_clamp (by omega)
  have go : J 1 mX6_branch 55 [some (.ref 46), some (.int (nI k)), some (.int (nI q)), some (.int (nI f)), some (.int (nI a)), none] [] M (Rt (some (.int (nI n))) (su M 47 (brR (M.1 47) n (nI k) (nI q) (nI f) (nI a)))) := by
    refine J_blk a_X6_branch_55 ?_
    simp only [b_X6_branch_55, w_aload_n0, w_getf6, ne0_1, w_iconst_0, w_iald, w_bipush, ci_8, w_icmp_ne, w_nil, kd_46, kd_47, kd_48, kd_49, kd_50, kd_51, kd_52, kd_53, kd_54, kd_55, kd_56, kd_57, kd_58, kd_59, ln_47, ln_48, ln_49, ln_50, ln_51, ln_52, ln_53, ln_54, ln_55, ln_56, ln_57, ln_58, ln_59, Option.toList_some, Option.toList_none, List.cons_append, List.nil_append, true_and, and_true, if_true, if_false, true_or, or_true, Nat.reduceAdd, Int.reduceAdd, Bool.false_eq_true, tn_0, tn_1, tn_2, tn_3, tn_4, tn_5, tn_6, tn_7, h0, e8]
    refine ⟨vlit (by decide), fun _ => ?_, fun c => absurd c (by omega)⟩
    refine J_blk a_X6_branch_69 ?_
    simp only [b_X6_branch_69, w_bipush, ci_8, ci_6, w_aload_n0, w_getf6, ne0_1, w_iconst_0, w_iald, w_imul, w_iadd, w_istore5, nl_5n, nl_5i, nl_5a, w_iload5, w_iload_n1, w_iast, w_iconst_1, w_iload_n2, w_iconst_2, w_iload_n3, w_iconst_3, w_iload4, w_iconst_4, w_iconst_5, w_dup2_ia, w_isub, w_ireti, kd_46, kd_47, kd_48, kd_49, kd_50, kd_51, kd_52, kd_53, kd_54, kd_55, kd_56, kd_57, kd_58, kd_59, ln_47, ln_48, ln_49, ln_50, ln_51, ln_52, ln_53, ln_54, ln_55, ln_56, ln_57, ln_58, ln_59, Option.toList_some, Option.toList_none, List.cons_append, List.nil_append, true_and, and_true, if_true, if_false, true_or, or_true, Nat.reduceAdd, Int.reduceAdd, Bool.false_eq_true, tn_0, tn_1, tn_2, tn_3, tn_4, tn_5, tn_6, tn_7, h0, ix0, ad1, ad2, ad3, ad4, ad5, u1_row, su_at, su_su, t0, t1, t2, t3, t4, t5]
    refine ⟨vlit (by decide), vinN (by omega) (by decide), vinN (by omega) (by decide), vinN (by omega) (by decide), vinN (by omega) (by decide), vinN (by omega) (by decide), vinN (by omega) (by decide), vlit (by decide), vlit (by decide), vlit (by decide), ?_⟩
    have e0 : upd (upd (upd (upd (upd (upd (M.1 47) (8 + 6 * n) (nI k)) (8 + 6 * n + 1) (nI q)) (8 + 6 * n + 2) (nI f)) (8 + 6 * n + 3) (nI a)) (8 + 6 * n + 4) 0) (8 + 6 * n + 5) 0 0 = nI n := by
      rw [pk_un (by omega), pk_un (by omega), pk_un (by omega), pk_un (by omega), pk_un (by omega), pk_un (by omega)]
      exact h0
    rw [e0, nI_1, pk_us, nI_pred]
    exact ⟨rfl, rfl⟩
  refine K_go 4 o_X6_branch [none] rfl (Nat.le_of_ble_eq_true rfl) ?_
  simp only [lvA_i, lvA_a, lvA_l, lvA_nil, List.cons_append, List.nil_append]
  refine J_blk a_X6_branch_0 ?_
  simp only [b_X6_branch_0, w_iload_n1, w_i2l, w_lconst_0, w_ldc2, cl_5, w_nil, kd_46, kd_47, kd_48, kd_49, kd_50, kd_51, kd_52, kd_53, kd_54, kd_55, kd_56, kd_57, kd_58, kd_59, ln_47, ln_48, ln_49, ln_50, ln_51, ln_52, ln_53, ln_54, ln_55, ln_56, ln_57, ln_58, ln_59, Option.toList_some, Option.toList_none, List.cons_append, List.nil_append, true_and, and_true, if_true, if_false, true_or, or_true, Nat.reduceAdd, Int.reduceAdd, Bool.false_eq_true, tn_0, tn_1, tn_2, tn_3, tn_4, tn_5, tn_6, tn_7, h0]
  refine J_callSr (isIn_ok _ _ _ _) k_X6_branch_6 o_X6_isIn rfl (by decide) rfl (Nat.le_of_ble_eq_true rfl) ?_
  (simp only [l_le_1, l_le_2, l_le_3, l_le_5, l_le_7, l_le_8, l_le_9, l_le_10, l_le_13, l_le_20, l_le_30, l_le_60, l_le_99, l_le_9999, l_ge_0, l_ge_1, l_ge_6, l_ge_m1, i64_le]; rw [if_pos (by first | exact h1 | exact h2 | exact h3 | exact h4)])
  refine J_blk a_X6_branch_9 ?_
  simp only [b_X6_branch_9, w_if_eq, w_nil, kd_46, kd_47, kd_48, kd_49, kd_50, kd_51, kd_52, kd_53, kd_54, kd_55, kd_56, kd_57, kd_58, kd_59, ln_47, ln_48, ln_49, ln_50, ln_51, ln_52, ln_53, ln_54, ln_55, ln_56, ln_57, ln_58, ln_59, Option.toList_some, Option.toList_none, List.cons_append, List.nil_append, true_and, and_true, if_true, if_false, true_or, or_true, Nat.reduceAdd, Int.reduceAdd, Bool.false_eq_true, tn_0, tn_1, tn_2, tn_3, tn_4, tn_5, tn_6, tn_7, h0]
  refine ⟨fun c4 => ?_, fun c4 => ?_⟩
  · first
      | exact absurd c4 (by decide)
      | (refine J_blk a_X6_branch_53 ?_
         simp only [b_X6_branch_53, w_iconst_m1, w_ireti, kd_46, kd_47, kd_48, kd_49, kd_50, kd_51, kd_52, kd_53, kd_54, kd_55, kd_56, kd_57, kd_58, kd_59, ln_47, ln_48, ln_49, ln_50, ln_51, ln_52, ln_53, ln_54, ln_55, ln_56, ln_57, ln_58, ln_59, Option.toList_some, Option.toList_none, List.cons_append, List.nil_append, true_and, and_true, if_true, if_false, true_or, or_true, Nat.reduceAdd, Int.reduceAdd, Bool.false_eq_true, tn_0, tn_1, tn_2, tn_3, tn_4, tn_5, tn_6, tn_7, h0]
         first | exact ⟨rfl, rfl⟩ | (simp_all [Rt]))
  · first
      | exact absurd c4 (by decide)
      | (refine J_blk a_X6_branch_12 ?_
         simp only [b_X6_branch_12, w_iload_n2, w_i2l, w_lconst_0, w_aload_n0, w_getf6, ne0_1, w_iconst_0, w_iald, w_nil, kd_46, kd_47, kd_48, kd_49, kd_50, kd_51, kd_52, kd_53, kd_54, kd_55, kd_56, kd_57, kd_58, kd_59, ln_47, ln_48, ln_49, ln_50, ln_51, ln_52, ln_53, ln_54, ln_55, ln_56, ln_57, ln_58, ln_59, Option.toList_some, Option.toList_none, List.cons_append, List.nil_append, true_and, and_true, if_true, if_false, true_or, or_true, Nat.reduceAdd, Int.reduceAdd, Bool.false_eq_true, tn_0, tn_1, tn_2, tn_3, tn_4, tn_5, tn_6, tn_7, h0]
         refine ⟨(vlit (by decide)), ?_⟩
         refine J_callSr (isIn_ok _ _ _ _) k_X6_branch_22 o_X6_isIn rfl (by decide) rfl (Nat.le_of_ble_eq_true rfl) ?_
         (simp only [l_le_1, l_le_2, l_le_3, l_le_5, l_le_7, l_le_8, l_le_9, l_le_10, l_le_13, l_le_20, l_le_30, l_le_60, l_le_99, l_le_9999, l_ge_0, l_ge_1, l_ge_6, l_ge_m1, i64_le]; rw [if_pos (by first | exact h1 | exact h2 | exact h3 | exact h4)])
         refine J_blk a_X6_branch_25 ?_
         simp only [b_X6_branch_25, w_if_eq, w_nil, kd_46, kd_47, kd_48, kd_49, kd_50, kd_51, kd_52, kd_53, kd_54, kd_55, kd_56, kd_57, kd_58, kd_59, ln_47, ln_48, ln_49, ln_50, ln_51, ln_52, ln_53, ln_54, ln_55, ln_56, ln_57, ln_58, ln_59, Option.toList_some, Option.toList_none, List.cons_append, List.nil_append, true_and, and_true, if_true, if_false, true_or, or_true, Nat.reduceAdd, Int.reduceAdd, Bool.false_eq_true, tn_0, tn_1, tn_2, tn_3, tn_4, tn_5, tn_6, tn_7, h0]
         refine ⟨fun c5 => ?_, fun c5 => ?_⟩
         · first
             | exact absurd c5 (by decide)
             | (refine J_blk a_X6_branch_53 ?_
                simp only [b_X6_branch_53, w_iconst_m1, w_ireti, kd_46, kd_47, kd_48, kd_49, kd_50, kd_51, kd_52, kd_53, kd_54, kd_55, kd_56, kd_57, kd_58, kd_59, ln_47, ln_48, ln_49, ln_50, ln_51, ln_52, ln_53, ln_54, ln_55, ln_56, ln_57, ln_58, ln_59, Option.toList_some, Option.toList_none, List.cons_append, List.nil_append, true_and, and_true, if_true, if_false, true_or, or_true, Nat.reduceAdd, Int.reduceAdd, Bool.false_eq_true, tn_0, tn_1, tn_2, tn_3, tn_4, tn_5, tn_6, tn_7, h0]
                first | exact ⟨rfl, rfl⟩ | (simp_all [Rt]))
         · first
             | exact absurd c5 (by decide)
             | (refine J_blk a_X6_branch_28 ?_
                simp only [b_X6_branch_28, w_iload_n3, w_i2l, w_lconst_0, w_ldc2, cl_9, w_nil, kd_46, kd_47, kd_48, kd_49, kd_50, kd_51, kd_52, kd_53, kd_54, kd_55, kd_56, kd_57, kd_58, kd_59, ln_47, ln_48, ln_49, ln_50, ln_51, ln_52, ln_53, ln_54, ln_55, ln_56, ln_57, ln_58, ln_59, Option.toList_some, Option.toList_none, List.cons_append, List.nil_append, true_and, and_true, if_true, if_false, true_or, or_true, Nat.reduceAdd, Int.reduceAdd, Bool.false_eq_true, tn_0, tn_1, tn_2, tn_3, tn_4, tn_5, tn_6, tn_7, h0]
                refine J_callSr (isIn_ok _ _ _ _) k_X6_branch_34 o_X6_isIn rfl (by decide) rfl (Nat.le_of_ble_eq_true rfl) ?_
                (simp only [l_le_1, l_le_2, l_le_3, l_le_5, l_le_7, l_le_8, l_le_9, l_le_10, l_le_13, l_le_20, l_le_30, l_le_60, l_le_99, l_le_9999, l_ge_0, l_ge_1, l_ge_6, l_ge_m1, i64_le]; rw [if_pos (by first | exact h1 | exact h2 | exact h3 | exact h4)])
                refine J_blk a_X6_branch_37 ?_
                simp only [b_X6_branch_37, w_if_eq, w_nil, kd_46, kd_47, kd_48, kd_49, kd_50, kd_51, kd_52, kd_53, kd_54, kd_55, kd_56, kd_57, kd_58, kd_59, ln_47, ln_48, ln_49, ln_50, ln_51, ln_52, ln_53, ln_54, ln_55, ln_56, ln_57, ln_58, ln_59, Option.toList_some, Option.toList_none, List.cons_append, List.nil_append, true_and, and_true, if_true, if_false, true_or, or_true, Nat.reduceAdd, Int.reduceAdd, Bool.false_eq_true, tn_0, tn_1, tn_2, tn_3, tn_4, tn_5, tn_6, tn_7, h0]
                refine ⟨fun c6 => ?_, fun c6 => ?_⟩
                · first
                    | exact absurd c6 (by decide)
                    | (refine J_blk a_X6_branch_53 ?_
                       simp only [b_X6_branch_53, w_iconst_m1, w_ireti, kd_46, kd_47, kd_48, kd_49, kd_50, kd_51, kd_52, kd_53, kd_54, kd_55, kd_56, kd_57, kd_58, kd_59, ln_47, ln_48, ln_49, ln_50, ln_51, ln_52, ln_53, ln_54, ln_55, ln_56, ln_57, ln_58, ln_59, Option.toList_some, Option.toList_none, List.cons_append, List.nil_append, true_and, and_true, if_true, if_false, true_or, or_true, Nat.reduceAdd, Int.reduceAdd, Bool.false_eq_true, tn_0, tn_1, tn_2, tn_3, tn_4, tn_5, tn_6, tn_7, h0]
                       first | exact ⟨rfl, rfl⟩ | (simp_all [Rt]))
                · first
                    | exact absurd c6 (by decide)
                    | (refine J_blk a_X6_branch_40 ?_
                       simp only [b_X6_branch_40, w_iload4, w_i2l, w_lconst_0, w_ldc2, cl_99, w_nil, kd_46, kd_47, kd_48, kd_49, kd_50, kd_51, kd_52, kd_53, kd_54, kd_55, kd_56, kd_57, kd_58, kd_59, ln_47, ln_48, ln_49, ln_50, ln_51, ln_52, ln_53, ln_54, ln_55, ln_56, ln_57, ln_58, ln_59, Option.toList_some, Option.toList_none, List.cons_append, List.nil_append, true_and, and_true, if_true, if_false, true_or, or_true, Nat.reduceAdd, Int.reduceAdd, Bool.false_eq_true, tn_0, tn_1, tn_2, tn_3, tn_4, tn_5, tn_6, tn_7, h0]
                       refine J_callSr (isIn_ok _ _ _ _) k_X6_branch_47 o_X6_isIn rfl (by decide) rfl (Nat.le_of_ble_eq_true rfl) ?_
                       (simp only [l_le_1, l_le_2, l_le_3, l_le_5, l_le_7, l_le_8, l_le_9, l_le_10, l_le_13, l_le_20, l_le_30, l_le_60, l_le_99, l_le_9999, l_ge_0, l_ge_1, l_ge_6, l_ge_m1, i64_le]; rw [if_pos (by first | exact h1 | exact h2 | exact h3 | exact h4)])
                       refine J_blk a_X6_branch_50 ?_
                       simp only [b_X6_branch_50, w_if_ne, w_nil, kd_46, kd_47, kd_48, kd_49, kd_50, kd_51, kd_52, kd_53, kd_54, kd_55, kd_56, kd_57, kd_58, kd_59, ln_47, ln_48, ln_49, ln_50, ln_51, ln_52, ln_53, ln_54, ln_55, ln_56, ln_57, ln_58, ln_59, Option.toList_some, Option.toList_none, List.cons_append, List.nil_append, true_and, and_true, if_true, if_false, true_or, or_true, Nat.reduceAdd, Int.reduceAdd, Bool.false_eq_true, tn_0, tn_1, tn_2, tn_3, tn_4, tn_5, tn_6, tn_7, h0]
                       refine ⟨fun c7 => ?_, fun c7 => ?_⟩
                       · first
                           | exact absurd c7 (by decide)
                           | (exact go)
                       · first
                           | exact absurd c7 (by decide)
                           | (refine J_blk a_X6_branch_53 ?_
                              simp only [b_X6_branch_53, w_iconst_m1, w_ireti, kd_46, kd_47, kd_48, kd_49, kd_50, kd_51, kd_52, kd_53, kd_54, kd_55, kd_56, kd_57, kd_58, kd_59, ln_47, ln_48, ln_49, ln_50, ln_51, ln_52, ln_53, ln_54, ln_55, ln_56, ln_57, ln_58, ln_59, Option.toList_some, Option.toList_none, List.cons_append, List.nil_append, true_and, and_true, if_true, if_false, true_or, or_true, Nat.reduceAdd, Int.reduceAdd, Bool.false_eq_true, tn_0, tn_1, tn_2, tn_3, tn_4, tn_5, tn_6, tn_7, h0]
                              first | exact ⟨rfl, rfl⟩ | (simp_all [Rt])))))
theorem mbranch_n (k q f a : Nat) (M : Mm) (hw : WF (M.1 47) 8) (hk : k ≤ 5) (hq : q ≤ 8) (hf : f ≤ 9) (ha : a ≤ 99) : K 1 mX6_branch [.ref 46, .int (nI k), .int (nI q), .int (nI f), .int (nI a)] M (Rt (some (.int (-2))) M) := by
  have h0 := hw.1
  have h1 : 0 ≤ nI k ∧ nI k ≤ 5 := ok2 (m := 5) hk (by decide)
  have h2 : 0 ≤ nI q ∧ nI q ≤ nI 8 := ok2 hq (by omega)
  have h3 : 0 ≤ nI f ∧ nI f ≤ 9 := ok2 (m := 9) hf (by decide)
  have h4 : 0 ≤ nI a ∧ nI a ≤ 99 := ok2 (m := 99) ha (by decide)
  refine K_go 4 o_X6_branch [none] rfl (Nat.le_of_ble_eq_true rfl) ?_
  simp only [lvA_i, lvA_a, lvA_l, lvA_nil, List.cons_append, List.nil_append]
  refine J_blk a_X6_branch_0 ?_
  simp only [b_X6_branch_0, w_iload_n1, w_i2l, w_lconst_0, w_ldc2, cl_5, w_nil, kd_46, kd_47, kd_48, kd_49, kd_50, kd_51, kd_52, kd_53, kd_54, kd_55, kd_56, kd_57, kd_58, kd_59, ln_47, ln_48, ln_49, ln_50, ln_51, ln_52, ln_53, ln_54, ln_55, ln_56, ln_57, ln_58, ln_59, Option.toList_some, Option.toList_none, List.cons_append, List.nil_append, true_and, and_true, if_true, if_false, true_or, or_true, Nat.reduceAdd, Int.reduceAdd, Bool.false_eq_true, tn_0, tn_1, tn_2, tn_3, tn_4, tn_5, tn_6, tn_7, h0]
  refine J_callSr (isIn_ok _ _ _ _) k_X6_branch_6 o_X6_isIn rfl (by decide) rfl (Nat.le_of_ble_eq_true rfl) ?_
  (simp only [l_le_1, l_le_2, l_le_3, l_le_5, l_le_7, l_le_8, l_le_9, l_le_10, l_le_13, l_le_20, l_le_30, l_le_60, l_le_99, l_le_9999, l_ge_0, l_ge_1, l_ge_6, l_ge_m1, i64_le]; rw [if_pos (by first | exact h1 | exact h2 | exact h3 | exact h4)])
  refine J_blk a_X6_branch_9 ?_
  simp only [b_X6_branch_9, w_if_eq, w_nil, kd_46, kd_47, kd_48, kd_49, kd_50, kd_51, kd_52, kd_53, kd_54, kd_55, kd_56, kd_57, kd_58, kd_59, ln_47, ln_48, ln_49, ln_50, ln_51, ln_52, ln_53, ln_54, ln_55, ln_56, ln_57, ln_58, ln_59, Option.toList_some, Option.toList_none, List.cons_append, List.nil_append, true_and, and_true, if_true, if_false, true_or, or_true, Nat.reduceAdd, Int.reduceAdd, Bool.false_eq_true, tn_0, tn_1, tn_2, tn_3, tn_4, tn_5, tn_6, tn_7, h0]
  refine ⟨fun c8 => ?_, fun c8 => ?_⟩
  · first
      | exact absurd c8 (by decide)
      | (refine J_blk a_X6_branch_53 ?_
         simp only [b_X6_branch_53, w_iconst_m1, w_ireti, kd_46, kd_47, kd_48, kd_49, kd_50, kd_51, kd_52, kd_53, kd_54, kd_55, kd_56, kd_57, kd_58, kd_59, ln_47, ln_48, ln_49, ln_50, ln_51, ln_52, ln_53, ln_54, ln_55, ln_56, ln_57, ln_58, ln_59, Option.toList_some, Option.toList_none, List.cons_append, List.nil_append, true_and, and_true, if_true, if_false, true_or, or_true, Nat.reduceAdd, Int.reduceAdd, Bool.false_eq_true, tn_0, tn_1, tn_2, tn_3, tn_4, tn_5, tn_6, tn_7, h0]
         exact ⟨rfl, rfl⟩)
  · first
      | exact absurd c8 (by decide)
      | (refine J_blk a_X6_branch_12 ?_
         simp only [b_X6_branch_12, w_iload_n2, w_i2l, w_lconst_0, w_aload_n0, w_getf6, ne0_1, w_iconst_0, w_iald, w_nil, kd_46, kd_47, kd_48, kd_49, kd_50, kd_51, kd_52, kd_53, kd_54, kd_55, kd_56, kd_57, kd_58, kd_59, ln_47, ln_48, ln_49, ln_50, ln_51, ln_52, ln_53, ln_54, ln_55, ln_56, ln_57, ln_58, ln_59, Option.toList_some, Option.toList_none, List.cons_append, List.nil_append, true_and, and_true, if_true, if_false, true_or, or_true, Nat.reduceAdd, Int.reduceAdd, Bool.false_eq_true, tn_0, tn_1, tn_2, tn_3, tn_4, tn_5, tn_6, tn_7, h0]
         refine ⟨(vlit (by decide)), ?_⟩
         refine J_callSr (isIn_ok _ _ _ _) k_X6_branch_22 o_X6_isIn rfl (by decide) rfl (Nat.le_of_ble_eq_true rfl) ?_
         (simp only [l_le_1, l_le_2, l_le_3, l_le_5, l_le_7, l_le_8, l_le_9, l_le_10, l_le_13, l_le_20, l_le_30, l_le_60, l_le_99, l_le_9999, l_ge_0, l_ge_1, l_ge_6, l_ge_m1, i64_le]; rw [if_pos (by first | exact h1 | exact h2 | exact h3 | exact h4)])
         refine J_blk a_X6_branch_25 ?_
         simp only [b_X6_branch_25, w_if_eq, w_nil, kd_46, kd_47, kd_48, kd_49, kd_50, kd_51, kd_52, kd_53, kd_54, kd_55, kd_56, kd_57, kd_58, kd_59, ln_47, ln_48, ln_49, ln_50, ln_51, ln_52, ln_53, ln_54, ln_55, ln_56, ln_57, ln_58, ln_59, Option.toList_some, Option.toList_none, List.cons_append, List.nil_append, true_and, and_true, if_true, if_false, true_or, or_true, Nat.reduceAdd, Int.reduceAdd, Bool.false_eq_true, tn_0, tn_1, tn_2, tn_3, tn_4, tn_5, tn_6, tn_7, h0]
         refine ⟨fun c9 => ?_, fun c9 => ?_⟩
         · first
             | exact absurd c9 (by decide)
             | (refine J_blk a_X6_branch_53 ?_
                simp only [b_X6_branch_53, w_iconst_m1, w_ireti, kd_46, kd_47, kd_48, kd_49, kd_50, kd_51, kd_52, kd_53, kd_54, kd_55, kd_56, kd_57, kd_58, kd_59, ln_47, ln_48, ln_49, ln_50, ln_51, ln_52, ln_53, ln_54, ln_55, ln_56, ln_57, ln_58, ln_59, Option.toList_some, Option.toList_none, List.cons_append, List.nil_append, true_and, and_true, if_true, if_false, true_or, or_true, Nat.reduceAdd, Int.reduceAdd, Bool.false_eq_true, tn_0, tn_1, tn_2, tn_3, tn_4, tn_5, tn_6, tn_7, h0]
                exact ⟨rfl, rfl⟩)
         · first
             | exact absurd c9 (by decide)
             | (refine J_blk a_X6_branch_28 ?_
                simp only [b_X6_branch_28, w_iload_n3, w_i2l, w_lconst_0, w_ldc2, cl_9, w_nil, kd_46, kd_47, kd_48, kd_49, kd_50, kd_51, kd_52, kd_53, kd_54, kd_55, kd_56, kd_57, kd_58, kd_59, ln_47, ln_48, ln_49, ln_50, ln_51, ln_52, ln_53, ln_54, ln_55, ln_56, ln_57, ln_58, ln_59, Option.toList_some, Option.toList_none, List.cons_append, List.nil_append, true_and, and_true, if_true, if_false, true_or, or_true, Nat.reduceAdd, Int.reduceAdd, Bool.false_eq_true, tn_0, tn_1, tn_2, tn_3, tn_4, tn_5, tn_6, tn_7, h0]
                refine J_callSr (isIn_ok _ _ _ _) k_X6_branch_34 o_X6_isIn rfl (by decide) rfl (Nat.le_of_ble_eq_true rfl) ?_
                (simp only [l_le_1, l_le_2, l_le_3, l_le_5, l_le_7, l_le_8, l_le_9, l_le_10, l_le_13, l_le_20, l_le_30, l_le_60, l_le_99, l_le_9999, l_ge_0, l_ge_1, l_ge_6, l_ge_m1, i64_le]; rw [if_pos (by first | exact h1 | exact h2 | exact h3 | exact h4)])
                refine J_blk a_X6_branch_37 ?_
                simp only [b_X6_branch_37, w_if_eq, w_nil, kd_46, kd_47, kd_48, kd_49, kd_50, kd_51, kd_52, kd_53, kd_54, kd_55, kd_56, kd_57, kd_58, kd_59, ln_47, ln_48, ln_49, ln_50, ln_51, ln_52, ln_53, ln_54, ln_55, ln_56, ln_57, ln_58, ln_59, Option.toList_some, Option.toList_none, List.cons_append, List.nil_append, true_and, and_true, if_true, if_false, true_or, or_true, Nat.reduceAdd, Int.reduceAdd, Bool.false_eq_true, tn_0, tn_1, tn_2, tn_3, tn_4, tn_5, tn_6, tn_7, h0]
                refine ⟨fun c10 => ?_, fun c10 => ?_⟩
                · first
                    | exact absurd c10 (by decide)
                    | (refine J_blk a_X6_branch_53 ?_
                       simp only [b_X6_branch_53, w_iconst_m1, w_ireti, kd_46, kd_47, kd_48, kd_49, kd_50, kd_51, kd_52, kd_53, kd_54, kd_55, kd_56, kd_57, kd_58, kd_59, ln_47, ln_48, ln_49, ln_50, ln_51, ln_52, ln_53, ln_54, ln_55, ln_56, ln_57, ln_58, ln_59, Option.toList_some, Option.toList_none, List.cons_append, List.nil_append, true_and, and_true, if_true, if_false, true_or, or_true, Nat.reduceAdd, Int.reduceAdd, Bool.false_eq_true, tn_0, tn_1, tn_2, tn_3, tn_4, tn_5, tn_6, tn_7, h0]
                       exact ⟨rfl, rfl⟩)
                · first
                    | exact absurd c10 (by decide)
                    | (refine J_blk a_X6_branch_40 ?_
                       simp only [b_X6_branch_40, w_iload4, w_i2l, w_lconst_0, w_ldc2, cl_99, w_nil, kd_46, kd_47, kd_48, kd_49, kd_50, kd_51, kd_52, kd_53, kd_54, kd_55, kd_56, kd_57, kd_58, kd_59, ln_47, ln_48, ln_49, ln_50, ln_51, ln_52, ln_53, ln_54, ln_55, ln_56, ln_57, ln_58, ln_59, Option.toList_some, Option.toList_none, List.cons_append, List.nil_append, true_and, and_true, if_true, if_false, true_or, or_true, Nat.reduceAdd, Int.reduceAdd, Bool.false_eq_true, tn_0, tn_1, tn_2, tn_3, tn_4, tn_5, tn_6, tn_7, h0]
                       refine J_callSr (isIn_ok _ _ _ _) k_X6_branch_47 o_X6_isIn rfl (by decide) rfl (Nat.le_of_ble_eq_true rfl) ?_
                       (simp only [l_le_1, l_le_2, l_le_3, l_le_5, l_le_7, l_le_8, l_le_9, l_le_10, l_le_13, l_le_20, l_le_30, l_le_60, l_le_99, l_le_9999, l_ge_0, l_ge_1, l_ge_6, l_ge_m1, i64_le]; rw [if_pos (by first | exact h1 | exact h2 | exact h3 | exact h4)])
                       refine J_blk a_X6_branch_50 ?_
                       simp only [b_X6_branch_50, w_if_ne, w_nil, kd_46, kd_47, kd_48, kd_49, kd_50, kd_51, kd_52, kd_53, kd_54, kd_55, kd_56, kd_57, kd_58, kd_59, ln_47, ln_48, ln_49, ln_50, ln_51, ln_52, ln_53, ln_54, ln_55, ln_56, ln_57, ln_58, ln_59, Option.toList_some, Option.toList_none, List.cons_append, List.nil_append, true_and, and_true, if_true, if_false, true_or, or_true, Nat.reduceAdd, Int.reduceAdd, Bool.false_eq_true, tn_0, tn_1, tn_2, tn_3, tn_4, tn_5, tn_6, tn_7, h0]
                       refine ⟨fun c11 => ?_, fun c11 => ?_⟩
                       · first
                           | exact absurd c11 (by decide)
                           | (refine J_blk a_X6_branch_55 ?_
                              simp only [b_X6_branch_55, w_aload_n0, w_getf6, ne0_1, w_iconst_0, w_iald, w_bipush, ci_8, w_icmp_ne, w_nil, kd_46, kd_47, kd_48, kd_49, kd_50, kd_51, kd_52, kd_53, kd_54, kd_55, kd_56, kd_57, kd_58, kd_59, ln_47, ln_48, ln_49, ln_50, ln_51, ln_52, ln_53, ln_54, ln_55, ln_56, ln_57, ln_58, ln_59, Option.toList_some, Option.toList_none, List.cons_append, List.nil_append, true_and, and_true, if_true, if_false, true_or, or_true, Nat.reduceAdd, Int.reduceAdd, Bool.false_eq_true, tn_0, tn_1, tn_2, tn_3, tn_4, tn_5, tn_6, tn_7, h0]
                              refine ⟨(vlit (by decide)), ?_⟩
                              refine ⟨fun c12 => ?_, fun c12 => ?_⟩
                              · first
                                  | exact absurd c12 (by decide)
                                  | (exact absurd (show nI 8 = 8 from rfl) (by assumption))
                              · first
                                  | exact absurd c12 (by decide)
                                  | (refine J_blk a_X6_branch_66 ?_
                                     simp only [b_X6_branch_66, w_bipush, ci_m2, w_ireti, kd_46, kd_47, kd_48, kd_49, kd_50, kd_51, kd_52, kd_53, kd_54, kd_55, kd_56, kd_57, kd_58, kd_59, ln_47, ln_48, ln_49, ln_50, ln_51, ln_52, ln_53, ln_54, ln_55, ln_56, ln_57, ln_58, ln_59, Option.toList_some, Option.toList_none, List.cons_append, List.nil_append, true_and, and_true, if_true, if_false, true_or, or_true, Nat.reduceAdd, Int.reduceAdd, Bool.false_eq_true, tn_0, tn_1, tn_2, tn_3, tn_4, tn_5, tn_6, tn_7, h0]
                                     exact ⟨rfl, rfl⟩))
                       · first
                           | exact absurd c11 (by decide)
                           | (refine J_blk a_X6_branch_53 ?_
                              simp only [b_X6_branch_53, w_iconst_m1, w_ireti, kd_46, kd_47, kd_48, kd_49, kd_50, kd_51, kd_52, kd_53, kd_54, kd_55, kd_56, kd_57, kd_58, kd_59, ln_47, ln_48, ln_49, ln_50, ln_51, ln_52, ln_53, ln_54, ln_55, ln_56, ln_57, ln_58, ln_59, Option.toList_some, Option.toList_none, List.cons_append, List.nil_append, true_and, and_true, if_true, if_false, true_or, or_true, Nat.reduceAdd, Int.reduceAdd, Bool.false_eq_true, tn_0, tn_1, tn_2, tn_3, tn_4, tn_5, tn_6, tn_7, h0]
                              exact ⟨rfl, rfl⟩))))
def ofS (s : Nat → Int32) (o w : Nat) : Int32 := if w < 6 then s (8 + 6 * o + w) else if w = 7 then nI (dpS s o) else if sd s o = true then 1 else 0
theorem mof_t (n o w : Nat) (M : Mm) (hw : WF (M.1 47) n) (hj : o < n) (h7 : w ≤ 7) : K 2 mX6_of [.ref 46, .int (nI o), .int (nI w)] M (Rt (some (.int (ofS (M.1 47) o w))) M) := by
  have h0 := hw.1
  have h8 := hw.2.1
  have ho := ok1 hj (by omega)
  have h1 : 0 ≤ nI w ∧ nI w ≤ 7 := ok2 (m := 7) h7 (by decide)
  have e6 : (6 ≤ nI w) = (6 ≤ w) := propext (nI_leI (a := 6) (by decide) (by omega))
  have e7 : (nI w = 7) = (w = 7) := propext (nI_eq (b := 7) (by omega) (by decide))
  unfold ofS
  refine K_go 2 o_X6_of [] rfl (Nat.le_of_ble_eq_true rfl) ?_
  simp only [lvA_i, lvA_a, lvA_l, lvA_nil, List.cons_append, List.nil_append]
  refine J_blk a_X6_of_0 ?_
  simp only [b_X6_of_0, w_aload_n0, w_iload_n1, w_nil, kd_46, kd_47, kd_48, kd_49, kd_50, kd_51, kd_52, kd_53, kd_54, kd_55, kd_56, kd_57, kd_58, kd_59, ln_47, ln_48, ln_49, ln_50, ln_51, ln_52, ln_53, ln_54, ln_55, ln_56, ln_57, ln_58, ln_59, Option.toList_some, Option.toList_none, List.cons_append, List.nil_append, true_and, and_true, if_true, if_false, true_or, or_true, Nat.reduceAdd, Int.reduceAdd, Bool.false_eq_true, tn_0, tn_1, tn_2, tn_3, tn_4, tn_5, tn_6, tn_7, e6, e7]
  refine J_callVr (ci := 6) (isOne_ok _ _) k_X6_of_2 o_X6_isOne rfl rfl rfl rfl (by decide) rfl (Nat.le_of_ble_eq_true rfl) ?_
  rw [h0, if_pos ho]
  refine J_blk a_X6_of_5 ?_
  simp only [b_X6_of_5, w_if_eq, w_nil, kd_46, kd_47, kd_48, kd_49, kd_50, kd_51, kd_52, kd_53, kd_54, kd_55, kd_56, kd_57, kd_58, kd_59, ln_47, ln_48, ln_49, ln_50, ln_51, ln_52, ln_53, ln_54, ln_55, ln_56, ln_57, ln_58, ln_59, Option.toList_some, Option.toList_none, List.cons_append, List.nil_append, true_and, and_true, if_true, if_false, true_or, or_true, Nat.reduceAdd, Int.reduceAdd, Bool.false_eq_true, tn_0, tn_1, tn_2, tn_3, tn_4, tn_5, tn_6, tn_7, e6, e7]
  refine ⟨fun c13 => ?_, fun c13 => ?_⟩
  · first
      | exact absurd c13 (by decide)
      | (refine J_blk a_X6_of_20 ?_
         simp only [b_X6_of_20, w_iconst_m1, w_ireti, kd_46, kd_47, kd_48, kd_49, kd_50, kd_51, kd_52, kd_53, kd_54, kd_55, kd_56, kd_57, kd_58, kd_59, ln_47, ln_48, ln_49, ln_50, ln_51, ln_52, ln_53, ln_54, ln_55, ln_56, ln_57, ln_58, ln_59, Option.toList_some, Option.toList_none, List.cons_append, List.nil_append, true_and, and_true, if_true, if_false, true_or, or_true, Nat.reduceAdd, Int.reduceAdd, Bool.false_eq_true, tn_0, tn_1, tn_2, tn_3, tn_4, tn_5, tn_6, tn_7, e6, e7]
         exact ⟨by grind, rfl⟩)
  · first
      | exact absurd c13 (by decide)
      | (refine J_blk a_X6_of_8 ?_
         simp only [b_X6_of_8, w_iload_n2, w_i2l, w_lconst_0, w_ldc2, cl_7, w_nil, kd_46, kd_47, kd_48, kd_49, kd_50, kd_51, kd_52, kd_53, kd_54, kd_55, kd_56, kd_57, kd_58, kd_59, ln_47, ln_48, ln_49, ln_50, ln_51, ln_52, ln_53, ln_54, ln_55, ln_56, ln_57, ln_58, ln_59, Option.toList_some, Option.toList_none, List.cons_append, List.nil_append, true_and, and_true, if_true, if_false, true_or, or_true, Nat.reduceAdd, Int.reduceAdd, Bool.false_eq_true, tn_0, tn_1, tn_2, tn_3, tn_4, tn_5, tn_6, tn_7, e6, e7]
         refine J_callSr (isIn_ok _ _ _ _) k_X6_of_14 o_X6_isIn rfl (by decide) rfl (Nat.le_of_ble_eq_true rfl) ?_
         (simp only [l_le_1, l_le_2, l_le_3, l_le_5, l_le_7, l_le_8, l_le_9, l_le_10, l_le_13, l_le_20, l_le_30, l_le_60, l_le_99, l_le_9999, l_ge_0, l_ge_1, l_ge_6, l_ge_m1, i64_le]; rw [if_pos (by first | exact h1 | exact h2 | exact h3 | exact h4)])
         refine J_blk a_X6_of_17 ?_
         simp only [b_X6_of_17, w_if_ne, w_nil, kd_46, kd_47, kd_48, kd_49, kd_50, kd_51, kd_52, kd_53, kd_54, kd_55, kd_56, kd_57, kd_58, kd_59, ln_47, ln_48, ln_49, ln_50, ln_51, ln_52, ln_53, ln_54, ln_55, ln_56, ln_57, ln_58, ln_59, Option.toList_some, Option.toList_none, List.cons_append, List.nil_append, true_and, and_true, if_true, if_false, true_or, or_true, Nat.reduceAdd, Int.reduceAdd, Bool.false_eq_true, tn_0, tn_1, tn_2, tn_3, tn_4, tn_5, tn_6, tn_7, e6, e7]
         refine ⟨fun c14 => ?_, fun c14 => ?_⟩
         · first
             | exact absurd c14 (by decide)
             | (refine J_blk a_X6_of_22 ?_
                simp only [b_X6_of_22, w_iload_n2, w_bipush, ci_6, w_icmp_ge, w_nil, kd_46, kd_47, kd_48, kd_49, kd_50, kd_51, kd_52, kd_53, kd_54, kd_55, kd_56, kd_57, kd_58, kd_59, ln_47, ln_48, ln_49, ln_50, ln_51, ln_52, ln_53, ln_54, ln_55, ln_56, ln_57, ln_58, ln_59, Option.toList_some, Option.toList_none, List.cons_append, List.nil_append, true_and, and_true, if_true, if_false, true_or, or_true, Nat.reduceAdd, Int.reduceAdd, Bool.false_eq_true, tn_0, tn_1, tn_2, tn_3, tn_4, tn_5, tn_6, tn_7, e6, e7]
                refine ⟨fun c15 => ?_, fun c15 => ?_⟩
                · first
                    | exact absurd c15 (by decide)
                    | (refine J_blk a_X6_of_37 ?_
                       simp only [b_X6_of_37, w_iload_n2, w_bipush, ci_7, w_icmp_ne, w_nil, kd_46, kd_47, kd_48, kd_49, kd_50, kd_51, kd_52, kd_53, kd_54, kd_55, kd_56, kd_57, kd_58, kd_59, ln_47, ln_48, ln_49, ln_50, ln_51, ln_52, ln_53, ln_54, ln_55, ln_56, ln_57, ln_58, ln_59, Option.toList_some, Option.toList_none, List.cons_append, List.nil_append, true_and, and_true, if_true, if_false, true_or, or_true, Nat.reduceAdd, Int.reduceAdd, Bool.false_eq_true, tn_0, tn_1, tn_2, tn_3, tn_4, tn_5, tn_6, tn_7, e6, e7]
                       refine ⟨fun c16 => ?_, fun c16 => ?_⟩
                       · first
                           | exact absurd c16 (by decide)
                           | (refine J_blk a_X6_of_51 ?_
                              simp only [b_X6_of_51, w_aload_n0, w_iload_n1, w_nil, kd_46, kd_47, kd_48, kd_49, kd_50, kd_51, kd_52, kd_53, kd_54, kd_55, kd_56, kd_57, kd_58, kd_59, ln_47, ln_48, ln_49, ln_50, ln_51, ln_52, ln_53, ln_54, ln_55, ln_56, ln_57, ln_58, ln_59, Option.toList_some, Option.toList_none, List.cons_append, List.nil_append, true_and, and_true, if_true, if_false, true_or, or_true, Nat.reduceAdd, Int.reduceAdd, Bool.false_eq_true, tn_0, tn_1, tn_2, tn_3, tn_4, tn_5, tn_6, tn_7, e6, e7]
                              refine J_callVr (ci := 6) (stands_ok _ n _ hw hj) k_X6_of_53 o_X6_stands rfl rfl rfl rfl (by decide) rfl (Nat.le_of_ble_eq_true rfl) ?_
                              refine J_blk a_X6_of_56 ?_
                              simp only [b_X6_of_56, w_if_eq, w_nil, kd_46, kd_47, kd_48, kd_49, kd_50, kd_51, kd_52, kd_53, kd_54, kd_55, kd_56, kd_57, kd_58, kd_59, ln_47, ln_48, ln_49, ln_50, ln_51, ln_52, ln_53, ln_54, ln_55, ln_56, ln_57, ln_58, ln_59, Option.toList_some, Option.toList_none, List.cons_append, List.nil_append, true_and, and_true, if_true, if_false, true_or, or_true, Nat.reduceAdd, Int.reduceAdd, Bool.false_eq_true, tn_0, tn_1, tn_2, tn_3, tn_4, tn_5, tn_6, tn_7, e6, e7]
                              refine ⟨fun c17 => ?_, fun c17 => ?_⟩
                              · first
                                  | exact absurd c17 (by decide)
                                  | (refine J_blk a_X6_of_63 ?_
                                     simp only [b_X6_of_63, w_iconst_0, w_nil, kd_46, kd_47, kd_48, kd_49, kd_50, kd_51, kd_52, kd_53, kd_54, kd_55, kd_56, kd_57, kd_58, kd_59, ln_47, ln_48, ln_49, ln_50, ln_51, ln_52, ln_53, ln_54, ln_55, ln_56, ln_57, ln_58, ln_59, Option.toList_some, Option.toList_none, List.cons_append, List.nil_append, true_and, and_true, if_true, if_false, true_or, or_true, Nat.reduceAdd, Int.reduceAdd, Bool.false_eq_true, tn_0, tn_1, tn_2, tn_3, tn_4, tn_5, tn_6, tn_7, e6, e7]
                                     refine J_blk a_X6_of_64 ?_
                                     simp only [b_X6_of_64, w_ireti, kd_46, kd_47, kd_48, kd_49, kd_50, kd_51, kd_52, kd_53, kd_54, kd_55, kd_56, kd_57, kd_58, kd_59, ln_47, ln_48, ln_49, ln_50, ln_51, ln_52, ln_53, ln_54, ln_55, ln_56, ln_57, ln_58, ln_59, Option.toList_some, Option.toList_none, List.cons_append, List.nil_append, true_and, and_true, if_true, if_false, true_or, or_true, Nat.reduceAdd, Int.reduceAdd, Bool.false_eq_true, tn_0, tn_1, tn_2, tn_3, tn_4, tn_5, tn_6, tn_7, e6, e7]
                                     exact ⟨by grind, rfl⟩)
                              · first
                                  | exact absurd c17 (by decide)
                                  | (refine J_blk a_X6_of_59 ?_
                                     simp only [b_X6_of_59, w_iconst_1, w_goto, kd_46, kd_47, kd_48, kd_49, kd_50, kd_51, kd_52, kd_53, kd_54, kd_55, kd_56, kd_57, kd_58, kd_59, ln_47, ln_48, ln_49, ln_50, ln_51, ln_52, ln_53, ln_54, ln_55, ln_56, ln_57, ln_58, ln_59, Option.toList_some, Option.toList_none, List.cons_append, List.nil_append, true_and, and_true, if_true, if_false, true_or, or_true, Nat.reduceAdd, Int.reduceAdd, Bool.false_eq_true, tn_0, tn_1, tn_2, tn_3, tn_4, tn_5, tn_6, tn_7, e6, e7]
                                     refine J_blk a_X6_of_64 ?_
                                     simp only [b_X6_of_64, w_ireti, kd_46, kd_47, kd_48, kd_49, kd_50, kd_51, kd_52, kd_53, kd_54, kd_55, kd_56, kd_57, kd_58, kd_59, ln_47, ln_48, ln_49, ln_50, ln_51, ln_52, ln_53, ln_54, ln_55, ln_56, ln_57, ln_58, ln_59, Option.toList_some, Option.toList_none, List.cons_append, List.nil_append, true_and, and_true, if_true, if_false, true_or, or_true, Nat.reduceAdd, Int.reduceAdd, Bool.false_eq_true, tn_0, tn_1, tn_2, tn_3, tn_4, tn_5, tn_6, tn_7, e6, e7]
                                     exact ⟨by grind, rfl⟩))
                       · first
                           | exact absurd c16 (by decide)
                           | (refine J_blk a_X6_of_43 ?_
                              simp only [b_X6_of_43, w_aload_n0, w_iload_n1, w_nil, kd_46, kd_47, kd_48, kd_49, kd_50, kd_51, kd_52, kd_53, kd_54, kd_55, kd_56, kd_57, kd_58, kd_59, ln_47, ln_48, ln_49, ln_50, ln_51, ln_52, ln_53, ln_54, ln_55, ln_56, ln_57, ln_58, ln_59, Option.toList_some, Option.toList_none, List.cons_append, List.nil_append, true_and, and_true, if_true, if_false, true_or, or_true, Nat.reduceAdd, Int.reduceAdd, Bool.false_eq_true, tn_0, tn_1, tn_2, tn_3, tn_4, tn_5, tn_6, tn_7, e6, e7]
                              refine J_callVr (ci := 6) (deep_ok _ n _ hw hj) k_X6_of_45 o_X6_deep rfl rfl rfl rfl (by decide) rfl (Nat.le_of_ble_eq_true rfl) ?_
                              refine J_blk a_X6_of_48 ?_
                              simp only [b_X6_of_48, w_goto, kd_46, kd_47, kd_48, kd_49, kd_50, kd_51, kd_52, kd_53, kd_54, kd_55, kd_56, kd_57, kd_58, kd_59, ln_47, ln_48, ln_49, ln_50, ln_51, ln_52, ln_53, ln_54, ln_55, ln_56, ln_57, ln_58, ln_59, Option.toList_some, Option.toList_none, List.cons_append, List.nil_append, true_and, and_true, if_true, if_false, true_or, or_true, Nat.reduceAdd, Int.reduceAdd, Bool.false_eq_true, tn_0, tn_1, tn_2, tn_3, tn_4, tn_5, tn_6, tn_7, e6, e7]
                              refine J_blk a_X6_of_64 ?_
                              simp only [b_X6_of_64, w_ireti, kd_46, kd_47, kd_48, kd_49, kd_50, kd_51, kd_52, kd_53, kd_54, kd_55, kd_56, kd_57, kd_58, kd_59, ln_47, ln_48, ln_49, ln_50, ln_51, ln_52, ln_53, ln_54, ln_55, ln_56, ln_57, ln_58, ln_59, Option.toList_some, Option.toList_none, List.cons_append, List.nil_append, true_and, and_true, if_true, if_false, true_or, or_true, Nat.reduceAdd, Int.reduceAdd, Bool.false_eq_true, tn_0, tn_1, tn_2, tn_3, tn_4, tn_5, tn_6, tn_7, e6, e7]
                              exact ⟨by grind, rfl⟩))
                · first
                    | exact absurd c15 (by decide)
                    | (refine J_blk a_X6_of_28 ?_
                       simp only [b_X6_of_28, w_aload_n0, w_iload_n1, w_iload_n2, w_nil, kd_46, kd_47, kd_48, kd_49, kd_50, kd_51, kd_52, kd_53, kd_54, kd_55, kd_56, kd_57, kd_58, kd_59, ln_47, ln_48, ln_49, ln_50, ln_51, ln_52, ln_53, ln_54, ln_55, ln_56, ln_57, ln_58, ln_59, Option.toList_some, Option.toList_none, List.cons_append, List.nil_append, true_and, and_true, if_true, if_false, true_or, or_true, Nat.reduceAdd, Int.reduceAdd, Bool.false_eq_true, tn_0, tn_1, tn_2, tn_3, tn_4, tn_5, tn_6, tn_7, e6, e7]
                       refine J_callVr (ci := 6) (its_ok _ _ _ (by omega)) k_X6_of_31 o_X6_its rfl rfl rfl rfl (by decide) rfl (Nat.le_of_ble_eq_true rfl) ?_
                       refine J_blk a_X6_of_34 ?_
                       simp only [b_X6_of_34, w_goto, kd_46, kd_47, kd_48, kd_49, kd_50, kd_51, kd_52, kd_53, kd_54, kd_55, kd_56, kd_57, kd_58, kd_59, ln_47, ln_48, ln_49, ln_50, ln_51, ln_52, ln_53, ln_54, ln_55, ln_56, ln_57, ln_58, ln_59, Option.toList_some, Option.toList_none, List.cons_append, List.nil_append, true_and, and_true, if_true, if_false, true_or, or_true, Nat.reduceAdd, Int.reduceAdd, Bool.false_eq_true, tn_0, tn_1, tn_2, tn_3, tn_4, tn_5, tn_6, tn_7, e6, e7]
                       refine J_blk a_X6_of_64 ?_
                       simp only [b_X6_of_64, w_ireti, kd_46, kd_47, kd_48, kd_49, kd_50, kd_51, kd_52, kd_53, kd_54, kd_55, kd_56, kd_57, kd_58, kd_59, ln_47, ln_48, ln_49, ln_50, ln_51, ln_52, ln_53, ln_54, ln_55, ln_56, ln_57, ln_58, ln_59, Option.toList_some, Option.toList_none, List.cons_append, List.nil_append, true_and, and_true, if_true, if_false, true_or, or_true, Nat.reduceAdd, Int.reduceAdd, Bool.false_eq_true, tn_0, tn_1, tn_2, tn_3, tn_4, tn_5, tn_6, tn_7, e6, e7]
                       exact ⟨by grind, rfl⟩))
         · first
             | exact absurd c14 (by decide)
             | (refine J_blk a_X6_of_20 ?_
                simp only [b_X6_of_20, w_iconst_m1, w_ireti, kd_46, kd_47, kd_48, kd_49, kd_50, kd_51, kd_52, kd_53, kd_54, kd_55, kd_56, kd_57, kd_58, kd_59, ln_47, ln_48, ln_49, ln_50, ln_51, ln_52, ln_53, ln_54, ln_55, ln_56, ln_57, ln_58, ln_59, Option.toList_some, Option.toList_none, List.cons_append, List.nil_append, true_and, and_true, if_true, if_false, true_or, or_true, Nat.reduceAdd, Int.reduceAdd, Bool.false_eq_true, tn_0, tn_1, tn_2, tn_3, tn_4, tn_5, tn_6, tn_7, e6, e7]
                exact ⟨by grind, rfl⟩))
def doS (s : Nat → Int32) (n o w : Nat) : Int32 := 1000 + (if w = 0 then hinS s o else if w = 1 then bearS s (sd s) n o else gainS s o)
theorem ctR_zero (s : Nat → Int32) (n : Nat) : ctR s 0 n = s := by
  funext j
  unfold ctR
  split
  · rw [b_0]; simp
  · rfl
theorem bt_sd {s : Nat → Int32} {n : Nat} (h8 : n ≤ 8) {q : Nat} (hq : q < n) : bt (bsF (sd s) n) q = sd s q := by
  rw [bt_bsF _ n (by omega) q (by omega)]
  simp [hq]
theorem bear_sd {s : Nat → Int32} {n o : Nat} (h8 : n ≤ 8) : bearS s (bt (bsF (sd s) n)) n o = bearS s (sd s) n o := bearS_congr (fun _ hq => bt_sd h8 hq)
theorem mdoes_t (n o w : Nat) (M : Mm) (hw : WF (M.1 47) n) (hj : o < n) (h2 : w ≤ 2) : K 3 mX6_does [.ref 46, .int (nI o), .int (nI w)] M (Rt (some (.int (doS (M.1 47) n o w))) M) := by
  have h0 := hw.1
  have h8 := hw.2.1
  have ho := ok1 hj (by omega)
  have h1 : 0 ≤ nI w ∧ nI w ≤ 2 := ok2 (m := 2) h2 (by decide)
  have e0 : (nI w = 0) = (w = 0) := propext (nI_eq (b := 0) (by omega) (by decide))
  have e1 : (nI w = 1) = (w = 1) := propext (nI_eq (b := 1) (by omega) (by decide))
  unfold doS
  rw [← bear_sd h8]
  refine K_go 2 o_X6_does [] rfl (Nat.le_of_ble_eq_true rfl) ?_
  simp only [lvA_i, lvA_a, lvA_l, lvA_nil, List.cons_append, List.nil_append]
  refine J_blk a_X6_does_0 ?_
  simp only [b_X6_does_0, w_aload_n0, w_iload_n1, w_nil, kd_46, kd_47, kd_48, kd_49, kd_50, kd_51, kd_52, kd_53, kd_54, kd_55, kd_56, kd_57, kd_58, kd_59, ln_47, ln_48, ln_49, ln_50, ln_51, ln_52, ln_53, ln_54, ln_55, ln_56, ln_57, ln_58, ln_59, Option.toList_some, Option.toList_none, List.cons_append, List.nil_append, true_and, and_true, if_true, if_false, true_or, or_true, Nat.reduceAdd, Int.reduceAdd, Bool.false_eq_true, tn_0, tn_1, tn_2, tn_3, tn_4, tn_5, tn_6, tn_7, e0, e1]
  refine J_callVr (ci := 6) (isOne_ok _ _) k_X6_does_2 o_X6_isOne rfl rfl rfl rfl (by decide) rfl (Nat.le_of_ble_eq_true rfl) ?_
  rw [h0, if_pos ho]
  refine J_blk a_X6_does_5 ?_
  simp only [b_X6_does_5, w_if_eq, w_nil, kd_46, kd_47, kd_48, kd_49, kd_50, kd_51, kd_52, kd_53, kd_54, kd_55, kd_56, kd_57, kd_58, kd_59, ln_47, ln_48, ln_49, ln_50, ln_51, ln_52, ln_53, ln_54, ln_55, ln_56, ln_57, ln_58, ln_59, Option.toList_some, Option.toList_none, List.cons_append, List.nil_append, true_and, and_true, if_true, if_false, true_or, or_true, Nat.reduceAdd, Int.reduceAdd, Bool.false_eq_true, tn_0, tn_1, tn_2, tn_3, tn_4, tn_5, tn_6, tn_7, e0, e1]
  refine ⟨fun c18 => ?_, fun c18 => ?_⟩
  · first
      | exact absurd c18 (by decide)
      | (refine J_blk a_X6_does_20 ?_
         simp only [b_X6_does_20, w_iconst_m1, w_ireti, kd_46, kd_47, kd_48, kd_49, kd_50, kd_51, kd_52, kd_53, kd_54, kd_55, kd_56, kd_57, kd_58, kd_59, ln_47, ln_48, ln_49, ln_50, ln_51, ln_52, ln_53, ln_54, ln_55, ln_56, ln_57, ln_58, ln_59, Option.toList_some, Option.toList_none, List.cons_append, List.nil_append, true_and, and_true, if_true, if_false, true_or, or_true, Nat.reduceAdd, Int.reduceAdd, Bool.false_eq_true, tn_0, tn_1, tn_2, tn_3, tn_4, tn_5, tn_6, tn_7, e0, e1]
         exact ⟨by grind, rfl⟩)
  · first
      | exact absurd c18 (by decide)
      | (refine J_blk a_X6_does_8 ?_
         simp only [b_X6_does_8, w_iload_n2, w_i2l, w_lconst_0, w_ldc2, cl_2, w_nil, kd_46, kd_47, kd_48, kd_49, kd_50, kd_51, kd_52, kd_53, kd_54, kd_55, kd_56, kd_57, kd_58, kd_59, ln_47, ln_48, ln_49, ln_50, ln_51, ln_52, ln_53, ln_54, ln_55, ln_56, ln_57, ln_58, ln_59, Option.toList_some, Option.toList_none, List.cons_append, List.nil_append, true_and, and_true, if_true, if_false, true_or, or_true, Nat.reduceAdd, Int.reduceAdd, Bool.false_eq_true, tn_0, tn_1, tn_2, tn_3, tn_4, tn_5, tn_6, tn_7, e0, e1]
         refine J_callSr (isIn_ok _ _ _ _) k_X6_does_14 o_X6_isIn rfl (by decide) rfl (Nat.le_of_ble_eq_true rfl) ?_
         (simp only [l_le_1, l_le_2, l_le_3, l_le_5, l_le_7, l_le_8, l_le_9, l_le_10, l_le_13, l_le_20, l_le_30, l_le_60, l_le_99, l_le_9999, l_ge_0, l_ge_1, l_ge_6, l_ge_m1, i64_le]; rw [if_pos (by first | exact h1 | exact h2 | exact h3 | exact h4)])
         refine J_blk a_X6_does_17 ?_
         simp only [b_X6_does_17, w_if_ne, w_nil, kd_46, kd_47, kd_48, kd_49, kd_50, kd_51, kd_52, kd_53, kd_54, kd_55, kd_56, kd_57, kd_58, kd_59, ln_47, ln_48, ln_49, ln_50, ln_51, ln_52, ln_53, ln_54, ln_55, ln_56, ln_57, ln_58, ln_59, Option.toList_some, Option.toList_none, List.cons_append, List.nil_append, true_and, and_true, if_true, if_false, true_or, or_true, Nat.reduceAdd, Int.reduceAdd, Bool.false_eq_true, tn_0, tn_1, tn_2, tn_3, tn_4, tn_5, tn_6, tn_7, e0, e1]
         refine ⟨fun c19 => ?_, fun c19 => ?_⟩
         · first
             | exact absurd c19 (by decide)
             | (refine J_blk a_X6_does_22 ?_
                simp only [b_X6_does_22, w_sipush, ci_1000, w_iload_n2, w_if_ne, w_nil, kd_46, kd_47, kd_48, kd_49, kd_50, kd_51, kd_52, kd_53, kd_54, kd_55, kd_56, kd_57, kd_58, kd_59, ln_47, ln_48, ln_49, ln_50, ln_51, ln_52, ln_53, ln_54, ln_55, ln_56, ln_57, ln_58, ln_59, Option.toList_some, Option.toList_none, List.cons_append, List.nil_append, true_and, and_true, if_true, if_false, true_or, or_true, Nat.reduceAdd, Int.reduceAdd, Bool.false_eq_true, tn_0, tn_1, tn_2, tn_3, tn_4, tn_5, tn_6, tn_7, e0, e1]
                refine ⟨fun c20 => ?_, fun c20 => ?_⟩
                · first
                    | exact absurd c20 (by decide)
                    | (refine J_blk a_X6_does_37 ?_
                       simp only [b_X6_does_37, w_iload_n2, w_iconst_1, w_icmp_ne, w_nil, kd_46, kd_47, kd_48, kd_49, kd_50, kd_51, kd_52, kd_53, kd_54, kd_55, kd_56, kd_57, kd_58, kd_59, ln_47, ln_48, ln_49, ln_50, ln_51, ln_52, ln_53, ln_54, ln_55, ln_56, ln_57, ln_58, ln_59, Option.toList_some, Option.toList_none, List.cons_append, List.nil_append, true_and, and_true, if_true, if_false, true_or, or_true, Nat.reduceAdd, Int.reduceAdd, Bool.false_eq_true, tn_0, tn_1, tn_2, tn_3, tn_4, tn_5, tn_6, tn_7, e0, e1]
                       refine ⟨fun c21 => ?_, fun c21 => ?_⟩
                       · first
                           | exact absurd c21 (by decide)
                           | (refine J_blk a_X6_does_54 ?_
                              simp only [b_X6_does_54, w_aload_n0, w_iload_n1, w_nil, kd_46, kd_47, kd_48, kd_49, kd_50, kd_51, kd_52, kd_53, kd_54, kd_55, kd_56, kd_57, kd_58, kd_59, ln_47, ln_48, ln_49, ln_50, ln_51, ln_52, ln_53, ln_54, ln_55, ln_56, ln_57, ln_58, ln_59, Option.toList_some, Option.toList_none, List.cons_append, List.nil_append, true_and, and_true, if_true, if_false, true_or, or_true, Nat.reduceAdd, Int.reduceAdd, Bool.false_eq_true, tn_0, tn_1, tn_2, tn_3, tn_4, tn_5, tn_6, tn_7, e0, e1]
                              refine J_callVr (ci := 6) (gains_ok _ n _ hj h8) k_X6_does_56 o_X6_gains rfl rfl rfl rfl (by decide) rfl (Nat.le_of_ble_eq_true rfl) ?_
                              refine J_blk a_X6_does_59 ?_
                              simp only [b_X6_does_59, w_iadd, w_ireti, kd_46, kd_47, kd_48, kd_49, kd_50, kd_51, kd_52, kd_53, kd_54, kd_55, kd_56, kd_57, kd_58, kd_59, ln_47, ln_48, ln_49, ln_50, ln_51, ln_52, ln_53, ln_54, ln_55, ln_56, ln_57, ln_58, ln_59, Option.toList_some, Option.toList_none, List.cons_append, List.nil_append, true_and, and_true, if_true, if_false, true_or, or_true, Nat.reduceAdd, Int.reduceAdd, Bool.false_eq_true, tn_0, tn_1, tn_2, tn_3, tn_4, tn_5, tn_6, tn_7, e0, e1]
                              exact ⟨by grind, rfl⟩)
                       · first
                           | exact absurd c21 (by decide)
                           | (refine J_blk a_X6_does_42 ?_
                              simp only [b_X6_does_42, w_aload_n0, w_iload_n1, w_nil, kd_46, kd_47, kd_48, kd_49, kd_50, kd_51, kd_52, kd_53, kd_54, kd_55, kd_56, kd_57, kd_58, kd_59, ln_47, ln_48, ln_49, ln_50, ln_51, ln_52, ln_53, ln_54, ln_55, ln_56, ln_57, ln_58, ln_59, Option.toList_some, Option.toList_none, List.cons_append, List.nil_append, true_and, and_true, if_true, if_false, true_or, or_true, Nat.reduceAdd, Int.reduceAdd, Bool.false_eq_true, tn_0, tn_1, tn_2, tn_3, tn_4, tn_5, tn_6, tn_7, e0, e1]
                              refine J_callVr (ci := 6) (standing_ok n _ hw) k_X6_does_45 o_X6_standing rfl rfl rfl rfl (by decide) rfl (Nat.le_of_ble_eq_true rfl) ?_
                              refine J_callVr (ci := 6) (bears_ok _ n _ _ hw hj) k_X6_does_48 o_X6_bears rfl rfl rfl rfl (by decide) rfl (Nat.le_of_ble_eq_true rfl) ?_
                              refine J_blk a_X6_does_51 ?_
                              simp only [b_X6_does_51, w_goto, kd_46, kd_47, kd_48, kd_49, kd_50, kd_51, kd_52, kd_53, kd_54, kd_55, kd_56, kd_57, kd_58, kd_59, ln_47, ln_48, ln_49, ln_50, ln_51, ln_52, ln_53, ln_54, ln_55, ln_56, ln_57, ln_58, ln_59, Option.toList_some, Option.toList_none, List.cons_append, List.nil_append, true_and, and_true, if_true, if_false, true_or, or_true, Nat.reduceAdd, Int.reduceAdd, Bool.false_eq_true, tn_0, tn_1, tn_2, tn_3, tn_4, tn_5, tn_6, tn_7, e0, e1]
                              refine J_blk a_X6_does_59 ?_
                              simp only [b_X6_does_59, w_iadd, w_ireti, kd_46, kd_47, kd_48, kd_49, kd_50, kd_51, kd_52, kd_53, kd_54, kd_55, kd_56, kd_57, kd_58, kd_59, ln_47, ln_48, ln_49, ln_50, ln_51, ln_52, ln_53, ln_54, ln_55, ln_56, ln_57, ln_58, ln_59, Option.toList_some, Option.toList_none, List.cons_append, List.nil_append, true_and, and_true, if_true, if_false, true_or, or_true, Nat.reduceAdd, Int.reduceAdd, Bool.false_eq_true, tn_0, tn_1, tn_2, tn_3, tn_4, tn_5, tn_6, tn_7, e0, e1]
                              exact ⟨by grind, rfl⟩))
                · first
                    | exact absurd c20 (by decide)
                    | (refine J_blk a_X6_does_29 ?_
                       simp only [b_X6_does_29, w_aload_n0, w_iload_n1, w_nil, kd_46, kd_47, kd_48, kd_49, kd_50, kd_51, kd_52, kd_53, kd_54, kd_55, kd_56, kd_57, kd_58, kd_59, ln_47, ln_48, ln_49, ln_50, ln_51, ln_52, ln_53, ln_54, ln_55, ln_56, ln_57, ln_58, ln_59, Option.toList_some, Option.toList_none, List.cons_append, List.nil_append, true_and, and_true, if_true, if_false, true_or, or_true, Nat.reduceAdd, Int.reduceAdd, Bool.false_eq_true, tn_0, tn_1, tn_2, tn_3, tn_4, tn_5, tn_6, tn_7, e0, e1]
                       refine J_callVr (ci := 6) (hinders_ok _ n _ hw hj) k_X6_does_31 o_X6_hinders rfl rfl rfl rfl (by decide) rfl (Nat.le_of_ble_eq_true rfl) ?_
                       refine J_blk a_X6_does_34 ?_
                       simp only [b_X6_does_34, w_goto, kd_46, kd_47, kd_48, kd_49, kd_50, kd_51, kd_52, kd_53, kd_54, kd_55, kd_56, kd_57, kd_58, kd_59, ln_47, ln_48, ln_49, ln_50, ln_51, ln_52, ln_53, ln_54, ln_55, ln_56, ln_57, ln_58, ln_59, Option.toList_some, Option.toList_none, List.cons_append, List.nil_append, true_and, and_true, if_true, if_false, true_or, or_true, Nat.reduceAdd, Int.reduceAdd, Bool.false_eq_true, tn_0, tn_1, tn_2, tn_3, tn_4, tn_5, tn_6, tn_7, e0, e1]
                       refine J_blk a_X6_does_59 ?_
                       simp only [b_X6_does_59, w_iadd, w_ireti, kd_46, kd_47, kd_48, kd_49, kd_50, kd_51, kd_52, kd_53, kd_54, kd_55, kd_56, kd_57, kd_58, kd_59, ln_47, ln_48, ln_49, ln_50, ln_51, ln_52, ln_53, ln_54, ln_55, ln_56, ln_57, ln_58, ln_59, Option.toList_some, Option.toList_none, List.cons_append, List.nil_append, true_and, and_true, if_true, if_false, true_or, or_true, Nat.reduceAdd, Int.reduceAdd, Bool.false_eq_true, tn_0, tn_1, tn_2, tn_3, tn_4, tn_5, tn_6, tn_7, e0, e1]
                       exact ⟨by grind, rfl⟩))
         · first
             | exact absurd c19 (by decide)
             | (refine J_blk a_X6_does_20 ?_
                simp only [b_X6_does_20, w_iconst_m1, w_ireti, kd_46, kd_47, kd_48, kd_49, kd_50, kd_51, kd_52, kd_53, kd_54, kd_55, kd_56, kd_57, kd_58, kd_59, ln_47, ln_48, ln_49, ln_50, ln_51, ln_52, ln_53, ln_54, ln_55, ln_56, ln_57, ln_58, ln_59, Option.toList_some, Option.toList_none, List.cons_append, List.nil_append, true_and, and_true, if_true, if_false, true_or, or_true, Nat.reduceAdd, Int.reduceAdd, Bool.false_eq_true, tn_0, tn_1, tn_2, tn_3, tn_4, tn_5, tn_6, tn_7, e0, e1]
                exact ⟨by grind, rfl⟩))
theorem mmind_t (n o k f : Nat) (M : Mm) (hw : WF (M.1 47) n) (hj : o < n) (hk : k ≤ 5) (hf : f ≤ 9) : K 1 mX6_mind [.ref 46, .int (nI o), .int (nI k), .int (nI f)] M (Rt (some (.int (M.1 47 (8 + 6 * o)))) (su M 47 (upd (upd (M.1 47) (8 + 6 * o + 2) (nI f)) (8 + 6 * o) (nI k)))) := by
  have h0 := hw.1
  have h8 := hw.2.1
  have ho := ok1 hj (by omega)
  have h1 : 0 ≤ nI k ∧ nI k ≤ 5 := ok2 (m := 5) hk (by decide)
  have h2 : 0 ≤ nI f ∧ nI f ≤ 9 := ok2 (m := 9) hf (by decide)
  have t2 : (nI (8 + 6 * o + 2)).toNatClampNeg = 8 + 6 * o + 2 := nI_clamp (by omega)
  refine K_go 3 o_X6_mind [] rfl (Nat.le_of_ble_eq_true rfl) ?_
  simp only [lvA_i, lvA_a, lvA_l, lvA_nil, List.cons_append, List.nil_append]
  refine J_blk a_X6_mind_0 ?_
  simp only [b_X6_mind_0, w_aload_n0, w_iload_n1, w_nil, kd_46, kd_47, kd_48, kd_49, kd_50, kd_51, kd_52, kd_53, kd_54, kd_55, kd_56, kd_57, kd_58, kd_59, ln_47, ln_48, ln_49, ln_50, ln_51, ln_52, ln_53, ln_54, ln_55, ln_56, ln_57, ln_58, ln_59, Option.toList_some, Option.toList_none, List.cons_append, List.nil_append, true_and, and_true, if_true, if_false, true_or, or_true, Nat.reduceAdd, Int.reduceAdd, Bool.false_eq_true, tn_0, tn_1, tn_2, tn_3, tn_4, tn_5, tn_6, tn_7, ix0, ad2, t2]
  refine J_callVr (ci := 6) (isOne_ok _ _) k_X6_mind_2 o_X6_isOne rfl rfl rfl rfl (by decide) rfl (Nat.le_of_ble_eq_true rfl) ?_
  rw [h0, if_pos ho]
  refine J_blk a_X6_mind_5 ?_
  simp only [b_X6_mind_5, w_if_eq, w_nil, kd_46, kd_47, kd_48, kd_49, kd_50, kd_51, kd_52, kd_53, kd_54, kd_55, kd_56, kd_57, kd_58, kd_59, ln_47, ln_48, ln_49, ln_50, ln_51, ln_52, ln_53, ln_54, ln_55, ln_56, ln_57, ln_58, ln_59, Option.toList_some, Option.toList_none, List.cons_append, List.nil_append, true_and, and_true, if_true, if_false, true_or, or_true, Nat.reduceAdd, Int.reduceAdd, Bool.false_eq_true, tn_0, tn_1, tn_2, tn_3, tn_4, tn_5, tn_6, tn_7, ix0, ad2, t2]
  refine ⟨fun c22 => ?_, fun c22 => ?_⟩
  · first
      | exact absurd c22 (by decide)
      | (refine J_blk a_X6_mind_32 ?_
         simp only [b_X6_mind_32, w_iconst_m1, w_ireti, kd_46, kd_47, kd_48, kd_49, kd_50, kd_51, kd_52, kd_53, kd_54, kd_55, kd_56, kd_57, kd_58, kd_59, ln_47, ln_48, ln_49, ln_50, ln_51, ln_52, ln_53, ln_54, ln_55, ln_56, ln_57, ln_58, ln_59, Option.toList_some, Option.toList_none, List.cons_append, List.nil_append, true_and, and_true, if_true, if_false, true_or, or_true, Nat.reduceAdd, Int.reduceAdd, Bool.false_eq_true, tn_0, tn_1, tn_2, tn_3, tn_4, tn_5, tn_6, tn_7, ix0, ad2, t2]
         exact ⟨by rw [u1_row, su_at, pk_un (by omega)], by rw [u1_row M, u1_su]⟩)
  · first
      | exact absurd c22 (by decide)
      | (refine J_blk a_X6_mind_8 ?_
         simp only [b_X6_mind_8, w_iload_n2, w_i2l, w_lconst_0, w_ldc2, cl_5, w_nil, kd_46, kd_47, kd_48, kd_49, kd_50, kd_51, kd_52, kd_53, kd_54, kd_55, kd_56, kd_57, kd_58, kd_59, ln_47, ln_48, ln_49, ln_50, ln_51, ln_52, ln_53, ln_54, ln_55, ln_56, ln_57, ln_58, ln_59, Option.toList_some, Option.toList_none, List.cons_append, List.nil_append, true_and, and_true, if_true, if_false, true_or, or_true, Nat.reduceAdd, Int.reduceAdd, Bool.false_eq_true, tn_0, tn_1, tn_2, tn_3, tn_4, tn_5, tn_6, tn_7, ix0, ad2, t2]
         refine J_callSr (isIn_ok _ _ _ _) k_X6_mind_14 o_X6_isIn rfl (by decide) rfl (Nat.le_of_ble_eq_true rfl) ?_
         (simp only [l_le_1, l_le_2, l_le_3, l_le_5, l_le_7, l_le_8, l_le_9, l_le_10, l_le_13, l_le_20, l_le_30, l_le_60, l_le_99, l_le_9999, l_ge_0, l_ge_1, l_ge_6, l_ge_m1, i64_le]; rw [if_pos (by first | exact h1 | exact h2 | exact h3 | exact h4)])
         refine J_blk a_X6_mind_17 ?_
         simp only [b_X6_mind_17, w_if_eq, w_nil, kd_46, kd_47, kd_48, kd_49, kd_50, kd_51, kd_52, kd_53, kd_54, kd_55, kd_56, kd_57, kd_58, kd_59, ln_47, ln_48, ln_49, ln_50, ln_51, ln_52, ln_53, ln_54, ln_55, ln_56, ln_57, ln_58, ln_59, Option.toList_some, Option.toList_none, List.cons_append, List.nil_append, true_and, and_true, if_true, if_false, true_or, or_true, Nat.reduceAdd, Int.reduceAdd, Bool.false_eq_true, tn_0, tn_1, tn_2, tn_3, tn_4, tn_5, tn_6, tn_7, ix0, ad2, t2]
         refine ⟨fun c23 => ?_, fun c23 => ?_⟩
         · first
             | exact absurd c23 (by decide)
             | (refine J_blk a_X6_mind_32 ?_
                simp only [b_X6_mind_32, w_iconst_m1, w_ireti, kd_46, kd_47, kd_48, kd_49, kd_50, kd_51, kd_52, kd_53, kd_54, kd_55, kd_56, kd_57, kd_58, kd_59, ln_47, ln_48, ln_49, ln_50, ln_51, ln_52, ln_53, ln_54, ln_55, ln_56, ln_57, ln_58, ln_59, Option.toList_some, Option.toList_none, List.cons_append, List.nil_append, true_and, and_true, if_true, if_false, true_or, or_true, Nat.reduceAdd, Int.reduceAdd, Bool.false_eq_true, tn_0, tn_1, tn_2, tn_3, tn_4, tn_5, tn_6, tn_7, ix0, ad2, t2]
                exact ⟨by rw [u1_row, su_at, pk_un (by omega)], by rw [u1_row M, u1_su]⟩)
         · first
             | exact absurd c23 (by decide)
             | (refine J_blk a_X6_mind_20 ?_
                simp only [b_X6_mind_20, w_iload_n3, w_i2l, w_lconst_0, w_ldc2, cl_9, w_nil, kd_46, kd_47, kd_48, kd_49, kd_50, kd_51, kd_52, kd_53, kd_54, kd_55, kd_56, kd_57, kd_58, kd_59, ln_47, ln_48, ln_49, ln_50, ln_51, ln_52, ln_53, ln_54, ln_55, ln_56, ln_57, ln_58, ln_59, Option.toList_some, Option.toList_none, List.cons_append, List.nil_append, true_and, and_true, if_true, if_false, true_or, or_true, Nat.reduceAdd, Int.reduceAdd, Bool.false_eq_true, tn_0, tn_1, tn_2, tn_3, tn_4, tn_5, tn_6, tn_7, ix0, ad2, t2]
                refine J_callSr (isIn_ok _ _ _ _) k_X6_mind_26 o_X6_isIn rfl (by decide) rfl (Nat.le_of_ble_eq_true rfl) ?_
                (simp only [l_le_1, l_le_2, l_le_3, l_le_5, l_le_7, l_le_8, l_le_9, l_le_10, l_le_13, l_le_20, l_le_30, l_le_60, l_le_99, l_le_9999, l_ge_0, l_ge_1, l_ge_6, l_ge_m1, i64_le]; rw [if_pos (by first | exact h1 | exact h2 | exact h3 | exact h4)])
                refine J_blk a_X6_mind_29 ?_
                simp only [b_X6_mind_29, w_if_ne, w_nil, kd_46, kd_47, kd_48, kd_49, kd_50, kd_51, kd_52, kd_53, kd_54, kd_55, kd_56, kd_57, kd_58, kd_59, ln_47, ln_48, ln_49, ln_50, ln_51, ln_52, ln_53, ln_54, ln_55, ln_56, ln_57, ln_58, ln_59, Option.toList_some, Option.toList_none, List.cons_append, List.nil_append, true_and, and_true, if_true, if_false, true_or, or_true, Nat.reduceAdd, Int.reduceAdd, Bool.false_eq_true, tn_0, tn_1, tn_2, tn_3, tn_4, tn_5, tn_6, tn_7, ix0, ad2, t2]
                refine ⟨fun c24 => ?_, fun c24 => ?_⟩
                · first
                    | exact absurd c24 (by decide)
                    | (refine J_blk a_X6_mind_34 ?_
                       simp only [b_X6_mind_34, w_aload_n0, w_getf6, ne0_1, w_bipush, ci_8, ci_6, w_iload_n1, w_imul, w_iadd, w_iconst_2, w_iload_n3, w_iast, w_iload_n2, w_nil, kd_46, kd_47, kd_48, kd_49, kd_50, kd_51, kd_52, kd_53, kd_54, kd_55, kd_56, kd_57, kd_58, kd_59, ln_47, ln_48, ln_49, ln_50, ln_51, ln_52, ln_53, ln_54, ln_55, ln_56, ln_57, ln_58, ln_59, Option.toList_some, Option.toList_none, List.cons_append, List.nil_append, true_and, and_true, if_true, if_false, true_or, or_true, Nat.reduceAdd, Int.reduceAdd, Bool.false_eq_true, tn_0, tn_1, tn_2, tn_3, tn_4, tn_5, tn_6, tn_7, ix0, ad2, t2]
                       refine ⟨(vinN (by omega) (by decide)), ?_⟩
                       refine J_callVr (ci := 6) (becomes_ok (8 + 6 * o) _ _ (by omega)) k_X6_mind_58 o_X6_becomes rfl rfl rfl rfl (by decide) rfl (Nat.le_of_ble_eq_true rfl) ?_
                       refine J_blk a_X6_mind_61 ?_
                       simp only [b_X6_mind_61, w_ireti, kd_46, kd_47, kd_48, kd_49, kd_50, kd_51, kd_52, kd_53, kd_54, kd_55, kd_56, kd_57, kd_58, kd_59, ln_47, ln_48, ln_49, ln_50, ln_51, ln_52, ln_53, ln_54, ln_55, ln_56, ln_57, ln_58, ln_59, Option.toList_some, Option.toList_none, List.cons_append, List.nil_append, true_and, and_true, if_true, if_false, true_or, or_true, Nat.reduceAdd, Int.reduceAdd, Bool.false_eq_true, tn_0, tn_1, tn_2, tn_3, tn_4, tn_5, tn_6, tn_7, ix0, ad2, t2]
                       exact ⟨by rw [u1_row, su_at, pk_un (by omega)], by rw [u1_row M, u1_su]⟩)
                · first
                    | exact absurd c24 (by decide)
                    | (refine J_blk a_X6_mind_32 ?_
                       simp only [b_X6_mind_32, w_iconst_m1, w_ireti, kd_46, kd_47, kd_48, kd_49, kd_50, kd_51, kd_52, kd_53, kd_54, kd_55, kd_56, kd_57, kd_58, kd_59, ln_47, ln_48, ln_49, ln_50, ln_51, ln_52, ln_53, ln_54, ln_55, ln_56, ln_57, ln_58, ln_59, Option.toList_some, Option.toList_none, List.cons_append, List.nil_append, true_and, and_true, if_true, if_false, true_or, or_true, Nat.reduceAdd, Int.reduceAdd, Bool.false_eq_true, tn_0, tn_1, tn_2, tn_3, tn_4, tn_5, tn_6, tn_7, ix0, ad2, t2]
                       exact ⟨by rw [u1_row, su_at, pk_un (by omega)], by rw [u1_row M, u1_su]⟩)))
theorem mage_t (n o a : Nat) (M : Mm) (hw : WF (M.1 47) n) (hj : o < n) (ha : a ≤ 99) : K 1 mX6_age [.ref 46, .int (nI o), .int (nI a)] M (Rt (some (.int (M.1 47 (8 + 6 * o + 3)))) (su M 47 (upd (M.1 47) (8 + 6 * o + 3) (nI a)))) := by
  have h0 := hw.1
  have h8 := hw.2.1
  have ho := ok1 hj (by omega)
  have h1 : 0 ≤ nI a ∧ nI a ≤ 99 := ok2 (m := 99) ha (by decide)
  refine K_go 2 o_X6_age [] rfl (Nat.le_of_ble_eq_true rfl) ?_
  simp only [lvA_i, lvA_a, lvA_l, lvA_nil, List.cons_append, List.nil_append]
  refine J_blk a_X6_age_0 ?_
  simp only [b_X6_age_0, w_aload_n0, w_iload_n1, w_nil, kd_46, kd_47, kd_48, kd_49, kd_50, kd_51, kd_52, kd_53, kd_54, kd_55, kd_56, kd_57, kd_58, kd_59, ln_47, ln_48, ln_49, ln_50, ln_51, ln_52, ln_53, ln_54, ln_55, ln_56, ln_57, ln_58, ln_59, Option.toList_some, Option.toList_none, List.cons_append, List.nil_append, true_and, and_true, if_true, if_false, true_or, or_true, Nat.reduceAdd, Int.reduceAdd, Bool.false_eq_true, tn_0, tn_1, tn_2, tn_3, tn_4, tn_5, tn_6, tn_7, ix0, ad3]
  refine J_callVr (ci := 6) (isOne_ok _ _) k_X6_age_2 o_X6_isOne rfl rfl rfl rfl (by decide) rfl (Nat.le_of_ble_eq_true rfl) ?_
  rw [h0, if_pos ho]
  refine J_blk a_X6_age_5 ?_
  simp only [b_X6_age_5, w_if_eq, w_nil, kd_46, kd_47, kd_48, kd_49, kd_50, kd_51, kd_52, kd_53, kd_54, kd_55, kd_56, kd_57, kd_58, kd_59, ln_47, ln_48, ln_49, ln_50, ln_51, ln_52, ln_53, ln_54, ln_55, ln_56, ln_57, ln_58, ln_59, Option.toList_some, Option.toList_none, List.cons_append, List.nil_append, true_and, and_true, if_true, if_false, true_or, or_true, Nat.reduceAdd, Int.reduceAdd, Bool.false_eq_true, tn_0, tn_1, tn_2, tn_3, tn_4, tn_5, tn_6, tn_7, ix0, ad3]
  refine ⟨fun c25 => ?_, fun c25 => ?_⟩
  · first
      | exact absurd c25 (by decide)
      | (refine J_blk a_X6_age_37 ?_
         simp only [b_X6_age_37, w_iconst_m1, w_nil, kd_46, kd_47, kd_48, kd_49, kd_50, kd_51, kd_52, kd_53, kd_54, kd_55, kd_56, kd_57, kd_58, kd_59, ln_47, ln_48, ln_49, ln_50, ln_51, ln_52, ln_53, ln_54, ln_55, ln_56, ln_57, ln_58, ln_59, Option.toList_some, Option.toList_none, List.cons_append, List.nil_append, true_and, and_true, if_true, if_false, true_or, or_true, Nat.reduceAdd, Int.reduceAdd, Bool.false_eq_true, tn_0, tn_1, tn_2, tn_3, tn_4, tn_5, tn_6, tn_7, ix0, ad3]
         refine J_blk a_X6_age_38 ?_
         simp only [b_X6_age_38, w_ireti, kd_46, kd_47, kd_48, kd_49, kd_50, kd_51, kd_52, kd_53, kd_54, kd_55, kd_56, kd_57, kd_58, kd_59, ln_47, ln_48, ln_49, ln_50, ln_51, ln_52, ln_53, ln_54, ln_55, ln_56, ln_57, ln_58, ln_59, Option.toList_some, Option.toList_none, List.cons_append, List.nil_append, true_and, and_true, if_true, if_false, true_or, or_true, Nat.reduceAdd, Int.reduceAdd, Bool.false_eq_true, tn_0, tn_1, tn_2, tn_3, tn_4, tn_5, tn_6, tn_7, ix0, ad3]
         exact ⟨rfl, by rw [u1_row]⟩)
  · first
      | exact absurd c25 (by decide)
      | (refine J_blk a_X6_age_8 ?_
         simp only [b_X6_age_8, w_iload_n2, w_i2l, w_lconst_0, w_ldc2, cl_99, w_nil, kd_46, kd_47, kd_48, kd_49, kd_50, kd_51, kd_52, kd_53, kd_54, kd_55, kd_56, kd_57, kd_58, kd_59, ln_47, ln_48, ln_49, ln_50, ln_51, ln_52, ln_53, ln_54, ln_55, ln_56, ln_57, ln_58, ln_59, Option.toList_some, Option.toList_none, List.cons_append, List.nil_append, true_and, and_true, if_true, if_false, true_or, or_true, Nat.reduceAdd, Int.reduceAdd, Bool.false_eq_true, tn_0, tn_1, tn_2, tn_3, tn_4, tn_5, tn_6, tn_7, ix0, ad3]
         refine J_callSr (isIn_ok _ _ _ _) k_X6_age_14 o_X6_isIn rfl (by decide) rfl (Nat.le_of_ble_eq_true rfl) ?_
         (simp only [l_le_1, l_le_2, l_le_3, l_le_5, l_le_7, l_le_8, l_le_9, l_le_10, l_le_13, l_le_20, l_le_30, l_le_60, l_le_99, l_le_9999, l_ge_0, l_ge_1, l_ge_6, l_ge_m1, i64_le]; rw [if_pos (by first | exact h1 | exact h2 | exact h3 | exact h4)])
         refine J_blk a_X6_age_17 ?_
         simp only [b_X6_age_17, w_if_eq, w_nil, kd_46, kd_47, kd_48, kd_49, kd_50, kd_51, kd_52, kd_53, kd_54, kd_55, kd_56, kd_57, kd_58, kd_59, ln_47, ln_48, ln_49, ln_50, ln_51, ln_52, ln_53, ln_54, ln_55, ln_56, ln_57, ln_58, ln_59, Option.toList_some, Option.toList_none, List.cons_append, List.nil_append, true_and, and_true, if_true, if_false, true_or, or_true, Nat.reduceAdd, Int.reduceAdd, Bool.false_eq_true, tn_0, tn_1, tn_2, tn_3, tn_4, tn_5, tn_6, tn_7, ix0, ad3]
         refine ⟨fun c26 => ?_, fun c26 => ?_⟩
         · first
             | exact absurd c26 (by decide)
             | (refine J_blk a_X6_age_37 ?_
                simp only [b_X6_age_37, w_iconst_m1, w_nil, kd_46, kd_47, kd_48, kd_49, kd_50, kd_51, kd_52, kd_53, kd_54, kd_55, kd_56, kd_57, kd_58, kd_59, ln_47, ln_48, ln_49, ln_50, ln_51, ln_52, ln_53, ln_54, ln_55, ln_56, ln_57, ln_58, ln_59, Option.toList_some, Option.toList_none, List.cons_append, List.nil_append, true_and, and_true, if_true, if_false, true_or, or_true, Nat.reduceAdd, Int.reduceAdd, Bool.false_eq_true, tn_0, tn_1, tn_2, tn_3, tn_4, tn_5, tn_6, tn_7, ix0, ad3]
                refine J_blk a_X6_age_38 ?_
                simp only [b_X6_age_38, w_ireti, kd_46, kd_47, kd_48, kd_49, kd_50, kd_51, kd_52, kd_53, kd_54, kd_55, kd_56, kd_57, kd_58, kd_59, ln_47, ln_48, ln_49, ln_50, ln_51, ln_52, ln_53, ln_54, ln_55, ln_56, ln_57, ln_58, ln_59, Option.toList_some, Option.toList_none, List.cons_append, List.nil_append, true_and, and_true, if_true, if_false, true_or, or_true, Nat.reduceAdd, Int.reduceAdd, Bool.false_eq_true, tn_0, tn_1, tn_2, tn_3, tn_4, tn_5, tn_6, tn_7, ix0, ad3]
                exact ⟨rfl, by rw [u1_row]⟩)
         · first
             | exact absurd c26 (by decide)
             | (refine J_blk a_X6_age_20 ?_
                simp only [b_X6_age_20, w_aload_n0, w_bipush, ci_8, ci_6, w_iload_n1, w_imul, w_iadd, w_iconst_3, w_iload_n2, w_nil, kd_46, kd_47, kd_48, kd_49, kd_50, kd_51, kd_52, kd_53, kd_54, kd_55, kd_56, kd_57, kd_58, kd_59, ln_47, ln_48, ln_49, ln_50, ln_51, ln_52, ln_53, ln_54, ln_55, ln_56, ln_57, ln_58, ln_59, Option.toList_some, Option.toList_none, List.cons_append, List.nil_append, true_and, and_true, if_true, if_false, true_or, or_true, Nat.reduceAdd, Int.reduceAdd, Bool.false_eq_true, tn_0, tn_1, tn_2, tn_3, tn_4, tn_5, tn_6, tn_7, ix0, ad3]
                refine J_callVr (ci := 6) (becomes_ok (8 + 6 * o + 3) _ _ (by omega)) k_X6_age_31 o_X6_becomes rfl rfl rfl rfl (by decide) rfl (Nat.le_of_ble_eq_true rfl) ?_
                refine J_blk a_X6_age_34 ?_
                simp only [b_X6_age_34, w_goto, kd_46, kd_47, kd_48, kd_49, kd_50, kd_51, kd_52, kd_53, kd_54, kd_55, kd_56, kd_57, kd_58, kd_59, ln_47, ln_48, ln_49, ln_50, ln_51, ln_52, ln_53, ln_54, ln_55, ln_56, ln_57, ln_58, ln_59, Option.toList_some, Option.toList_none, List.cons_append, List.nil_append, true_and, and_true, if_true, if_false, true_or, or_true, Nat.reduceAdd, Int.reduceAdd, Bool.false_eq_true, tn_0, tn_1, tn_2, tn_3, tn_4, tn_5, tn_6, tn_7, ix0, ad3]
                refine J_blk a_X6_age_38 ?_
                simp only [b_X6_age_38, w_ireti, kd_46, kd_47, kd_48, kd_49, kd_50, kd_51, kd_52, kd_53, kd_54, kd_55, kd_56, kd_57, kd_58, kd_59, ln_47, ln_48, ln_49, ln_50, ln_51, ln_52, ln_53, ln_54, ln_55, ln_56, ln_57, ln_58, ln_59, Option.toList_some, Option.toList_none, List.cons_append, List.nil_append, true_and, and_true, if_true, if_false, true_or, or_true, Nat.reduceAdd, Int.reduceAdd, Bool.false_eq_true, tn_0, tn_1, tn_2, tn_3, tn_4, tn_5, tn_6, tn_7, ix0, ad3]
                exact ⟨rfl, by rw [u1_row]⟩))
theorem mgraft_t (n o a : Nat) (M : Mm) (hw : WF (M.1 47) n) (hj : o < n) (ha : a ≤ o) : K 1 mX6_graft [.ref 46, .int (nI o), .int (nI a)] M (Rt (some (.int (M.1 47 (8 + 6 * o + 1)))) (su M 47 (upd (M.1 47) (8 + 6 * o + 1) (nI a)))) := by
  have h0 := hw.1
  have h8 := hw.2.1
  have ho := ok1 hj (by omega)
  have h1 : 0 ≤ nI a ∧ nI a ≤ nI o := ok2 ha (by omega)
  refine K_go 2 o_X6_graft [] rfl (Nat.le_of_ble_eq_true rfl) ?_
  simp only [lvA_i, lvA_a, lvA_l, lvA_nil, List.cons_append, List.nil_append]
  refine J_blk a_X6_graft_0 ?_
  simp only [b_X6_graft_0, w_aload_n0, w_iload_n1, w_nil, kd_46, kd_47, kd_48, kd_49, kd_50, kd_51, kd_52, kd_53, kd_54, kd_55, kd_56, kd_57, kd_58, kd_59, ln_47, ln_48, ln_49, ln_50, ln_51, ln_52, ln_53, ln_54, ln_55, ln_56, ln_57, ln_58, ln_59, Option.toList_some, Option.toList_none, List.cons_append, List.nil_append, true_and, and_true, if_true, if_false, true_or, or_true, Nat.reduceAdd, Int.reduceAdd, Bool.false_eq_true, tn_0, tn_1, tn_2, tn_3, tn_4, tn_5, tn_6, tn_7, ix0, ad1]
  refine J_callVr (ci := 6) (isOne_ok _ _) k_X6_graft_2 o_X6_isOne rfl rfl rfl rfl (by decide) rfl (Nat.le_of_ble_eq_true rfl) ?_
  rw [h0, if_pos ho]
  refine J_blk a_X6_graft_5 ?_
  simp only [b_X6_graft_5, w_if_eq, w_nil, kd_46, kd_47, kd_48, kd_49, kd_50, kd_51, kd_52, kd_53, kd_54, kd_55, kd_56, kd_57, kd_58, kd_59, ln_47, ln_48, ln_49, ln_50, ln_51, ln_52, ln_53, ln_54, ln_55, ln_56, ln_57, ln_58, ln_59, Option.toList_some, Option.toList_none, List.cons_append, List.nil_append, true_and, and_true, if_true, if_false, true_or, or_true, Nat.reduceAdd, Int.reduceAdd, Bool.false_eq_true, tn_0, tn_1, tn_2, tn_3, tn_4, tn_5, tn_6, tn_7, ix0, ad1]
  refine ⟨fun c27 => ?_, fun c27 => ?_⟩
  · first
      | exact absurd c27 (by decide)
      | (refine J_blk a_X6_graft_36 ?_
         simp only [b_X6_graft_36, w_iconst_m1, w_nil, kd_46, kd_47, kd_48, kd_49, kd_50, kd_51, kd_52, kd_53, kd_54, kd_55, kd_56, kd_57, kd_58, kd_59, ln_47, ln_48, ln_49, ln_50, ln_51, ln_52, ln_53, ln_54, ln_55, ln_56, ln_57, ln_58, ln_59, Option.toList_some, Option.toList_none, List.cons_append, List.nil_append, true_and, and_true, if_true, if_false, true_or, or_true, Nat.reduceAdd, Int.reduceAdd, Bool.false_eq_true, tn_0, tn_1, tn_2, tn_3, tn_4, tn_5, tn_6, tn_7, ix0, ad1]
         refine J_blk a_X6_graft_37 ?_
         simp only [b_X6_graft_37, w_ireti, kd_46, kd_47, kd_48, kd_49, kd_50, kd_51, kd_52, kd_53, kd_54, kd_55, kd_56, kd_57, kd_58, kd_59, ln_47, ln_48, ln_49, ln_50, ln_51, ln_52, ln_53, ln_54, ln_55, ln_56, ln_57, ln_58, ln_59, Option.toList_some, Option.toList_none, List.cons_append, List.nil_append, true_and, and_true, if_true, if_false, true_or, or_true, Nat.reduceAdd, Int.reduceAdd, Bool.false_eq_true, tn_0, tn_1, tn_2, tn_3, tn_4, tn_5, tn_6, tn_7, ix0, ad1]
         exact ⟨rfl, by rw [u1_row]⟩)
  · first
      | exact absurd c27 (by decide)
      | (refine J_blk a_X6_graft_8 ?_
         simp only [b_X6_graft_8, w_iload_n2, w_i2l, w_lconst_0, w_iload_n1, w_nil, kd_46, kd_47, kd_48, kd_49, kd_50, kd_51, kd_52, kd_53, kd_54, kd_55, kd_56, kd_57, kd_58, kd_59, ln_47, ln_48, ln_49, ln_50, ln_51, ln_52, ln_53, ln_54, ln_55, ln_56, ln_57, ln_58, ln_59, Option.toList_some, Option.toList_none, List.cons_append, List.nil_append, true_and, and_true, if_true, if_false, true_or, or_true, Nat.reduceAdd, Int.reduceAdd, Bool.false_eq_true, tn_0, tn_1, tn_2, tn_3, tn_4, tn_5, tn_6, tn_7, ix0, ad1]
         refine J_callSr (isIn_ok _ _ _ _) k_X6_graft_13 o_X6_isIn rfl (by decide) rfl (Nat.le_of_ble_eq_true rfl) ?_
         (simp only [l_le_1, l_le_2, l_le_3, l_le_5, l_le_7, l_le_8, l_le_9, l_le_10, l_le_13, l_le_20, l_le_30, l_le_60, l_le_99, l_le_9999, l_ge_0, l_ge_1, l_ge_6, l_ge_m1, i64_le]; rw [if_pos (by first | exact h1 | exact h2 | exact h3 | exact h4)])
         refine J_blk a_X6_graft_16 ?_
         simp only [b_X6_graft_16, w_if_eq, w_nil, kd_46, kd_47, kd_48, kd_49, kd_50, kd_51, kd_52, kd_53, kd_54, kd_55, kd_56, kd_57, kd_58, kd_59, ln_47, ln_48, ln_49, ln_50, ln_51, ln_52, ln_53, ln_54, ln_55, ln_56, ln_57, ln_58, ln_59, Option.toList_some, Option.toList_none, List.cons_append, List.nil_append, true_and, and_true, if_true, if_false, true_or, or_true, Nat.reduceAdd, Int.reduceAdd, Bool.false_eq_true, tn_0, tn_1, tn_2, tn_3, tn_4, tn_5, tn_6, tn_7, ix0, ad1]
         refine ⟨fun c28 => ?_, fun c28 => ?_⟩
         · first
             | exact absurd c28 (by decide)
             | (refine J_blk a_X6_graft_36 ?_
                simp only [b_X6_graft_36, w_iconst_m1, w_nil, kd_46, kd_47, kd_48, kd_49, kd_50, kd_51, kd_52, kd_53, kd_54, kd_55, kd_56, kd_57, kd_58, kd_59, ln_47, ln_48, ln_49, ln_50, ln_51, ln_52, ln_53, ln_54, ln_55, ln_56, ln_57, ln_58, ln_59, Option.toList_some, Option.toList_none, List.cons_append, List.nil_append, true_and, and_true, if_true, if_false, true_or, or_true, Nat.reduceAdd, Int.reduceAdd, Bool.false_eq_true, tn_0, tn_1, tn_2, tn_3, tn_4, tn_5, tn_6, tn_7, ix0, ad1]
                refine J_blk a_X6_graft_37 ?_
                simp only [b_X6_graft_37, w_ireti, kd_46, kd_47, kd_48, kd_49, kd_50, kd_51, kd_52, kd_53, kd_54, kd_55, kd_56, kd_57, kd_58, kd_59, ln_47, ln_48, ln_49, ln_50, ln_51, ln_52, ln_53, ln_54, ln_55, ln_56, ln_57, ln_58, ln_59, Option.toList_some, Option.toList_none, List.cons_append, List.nil_append, true_and, and_true, if_true, if_false, true_or, or_true, Nat.reduceAdd, Int.reduceAdd, Bool.false_eq_true, tn_0, tn_1, tn_2, tn_3, tn_4, tn_5, tn_6, tn_7, ix0, ad1]
                exact ⟨rfl, by rw [u1_row]⟩)
         · first
             | exact absurd c28 (by decide)
             | (refine J_blk a_X6_graft_19 ?_
                simp only [b_X6_graft_19, w_aload_n0, w_bipush, ci_8, ci_6, w_iload_n1, w_imul, w_iadd, w_iconst_1, w_iload_n2, w_nil, kd_46, kd_47, kd_48, kd_49, kd_50, kd_51, kd_52, kd_53, kd_54, kd_55, kd_56, kd_57, kd_58, kd_59, ln_47, ln_48, ln_49, ln_50, ln_51, ln_52, ln_53, ln_54, ln_55, ln_56, ln_57, ln_58, ln_59, Option.toList_some, Option.toList_none, List.cons_append, List.nil_append, true_and, and_true, if_true, if_false, true_or, or_true, Nat.reduceAdd, Int.reduceAdd, Bool.false_eq_true, tn_0, tn_1, tn_2, tn_3, tn_4, tn_5, tn_6, tn_7, ix0, ad1]
                refine J_callVr (ci := 6) (becomes_ok (8 + 6 * o + 1) _ _ (by omega)) k_X6_graft_30 o_X6_becomes rfl rfl rfl rfl (by decide) rfl (Nat.le_of_ble_eq_true rfl) ?_
                refine J_blk a_X6_graft_33 ?_
                simp only [b_X6_graft_33, w_goto, kd_46, kd_47, kd_48, kd_49, kd_50, kd_51, kd_52, kd_53, kd_54, kd_55, kd_56, kd_57, kd_58, kd_59, ln_47, ln_48, ln_49, ln_50, ln_51, ln_52, ln_53, ln_54, ln_55, ln_56, ln_57, ln_58, ln_59, Option.toList_some, Option.toList_none, List.cons_append, List.nil_append, true_and, and_true, if_true, if_false, true_or, or_true, Nat.reduceAdd, Int.reduceAdd, Bool.false_eq_true, tn_0, tn_1, tn_2, tn_3, tn_4, tn_5, tn_6, tn_7, ix0, ad1]
                refine J_blk a_X6_graft_37 ?_
                simp only [b_X6_graft_37, w_ireti, kd_46, kd_47, kd_48, kd_49, kd_50, kd_51, kd_52, kd_53, kd_54, kd_55, kd_56, kd_57, kd_58, kd_59, ln_47, ln_48, ln_49, ln_50, ln_51, ln_52, ln_53, ln_54, ln_55, ln_56, ln_57, ln_58, ln_59, Option.toList_some, Option.toList_none, List.cons_append, List.nil_append, true_and, and_true, if_true, if_false, true_or, or_true, Nat.reduceAdd, Int.reduceAdd, Bool.false_eq_true, tn_0, tn_1, tn_2, tn_3, tn_4, tn_5, tn_6, tn_7, ix0, ad1]
                exact ⟨rfl, by rw [u1_row]⟩))
theorem mseed_ok (v : Int32) (M : Mm) : K 1 mX6_seed [.ref 46, .int v] M (Rt (some (.int (M.1 47 2))) (su M 47 (upd (M.1 47) 2 v))) := by
  refine K_go 1 o_X6_seed [] rfl (Nat.le_of_ble_eq_true rfl) ?_
  simp only [lvA_i, lvA_a, lvA_l, lvA_nil, List.cons_append, List.nil_append]
  refine J_blk a_X6_seed_0 ?_
  simp only [b_X6_seed_0, w_aload_n0, w_iconst_2, w_iload_n1, w_nil, kd_46, kd_47, kd_48, kd_49, kd_50, kd_51, kd_52, kd_53, kd_54, kd_55, kd_56, kd_57, kd_58, kd_59, ln_47, ln_48, ln_49, ln_50, ln_51, ln_52, ln_53, ln_54, ln_55, ln_56, ln_57, ln_58, ln_59, Option.toList_some, Option.toList_none, List.cons_append, List.nil_append, true_and, and_true, if_true, if_false, true_or, or_true, Nat.reduceAdd, Int.reduceAdd, Bool.false_eq_true, tn_0, tn_1, tn_2, tn_3, tn_4, tn_5, tn_6, tn_7]
  refine J_callVr (ci := 6) (becomes_ok 2 _ _ (by omega)) k_X6_seed_3 o_X6_becomes rfl rfl rfl rfl (by decide) rfl (Nat.le_of_ble_eq_true rfl) ?_
  refine J_blk a_X6_seed_6 ?_
  simp only [b_X6_seed_6, w_ireti, kd_46, kd_47, kd_48, kd_49, kd_50, kd_51, kd_52, kd_53, kd_54, kd_55, kd_56, kd_57, kd_58, kd_59, ln_47, ln_48, ln_49, ln_50, ln_51, ln_52, ln_53, ln_54, ln_55, ln_56, ln_57, ln_58, ln_59, Option.toList_some, Option.toList_none, List.cons_append, List.nil_append, true_and, and_true, if_true, if_false, true_or, or_true, Nat.reduceAdd, Int.reduceAdd, Bool.false_eq_true, tn_0, tn_1, tn_2, tn_3, tn_4, tn_5, tn_6, tn_7]
  exact ⟨rfl, by rw [u1_row]⟩
/-- how many stand -/
def nsS (s : Nat → Int32) (n : Nat) : Int32 := nI (pcN (bsN (sd s) n))
theorem bs256 (st : Nat → Bool) {n : Nat} (h : n ≤ 8) : bsN st n < 256 := by
  have h1 := bsN_lt st n
  have h2 : (2 : Nat) ^ n ≤ 2 ^ 8 := Nat.pow_le_pow_right (by omega) h
  omega
theorem WF_cut {s : Nat → Int32} {n o : Nat} (hw : WF s n) (v : Int32) (hv : v = 0 ∨ v = 1) : WF (upd s (8 + 6 * o + 4) v) n := WF_upd hw v (by omega) (fun o' k ho' hk e => by
  have : k = 4 := by omega
  subst this
  refine ⟨fun h => absurd h (by omega), fun h => absurd h (by omega), fun h => absurd h (by omega), fun h => absurd h (by omega), fun _ => hv, fun h => absurd h (by omega)⟩)
theorem WF_lies {s : Nat → Int32} {n o a : Nat} (hw : WF s n) (ha : a ≤ 9) : WF (upd s (8 + 6 * o + 5) (nI a)) n := WF_upd hw _ (by omega) (fun o' k ho' hk e => by
  have : k = 5 := by omega
  subst this
  refine ⟨fun h => absurd h (by omega), fun h => absurd h (by omega), fun h => absurd h (by omega), fun h => absurd h (by omega), fun h => absurd h (by omega), fun _ => ⟨a, ha, rfl⟩⟩)
theorem mcut_n (n o : Nat) (M : Mm) (hw : WF (M.1 47) n) (hj : o < n) (hc : M.1 47 (8 + 6 * o + 4) = 1) : K 3 mX6_cut [.ref 46, .int (nI o)] M (Rt (some (.int (-3))) M) := by
  have h0 := hw.1
  have h8 := hw.2.1
  have ho := ok1 hj (by omega)
  refine K_go 1 o_X6_cut [] rfl (Nat.le_of_ble_eq_true rfl) ?_
  simp only [lvA_i, lvA_a, lvA_l, lvA_nil, List.cons_append, List.nil_append]
  refine J_blk a_X6_cut_0 ?_
  simp only [b_X6_cut_0, w_aload_n0, w_iload_n1, w_nil, kd_46, kd_47, kd_48, kd_49, kd_50, kd_51, kd_52, kd_53, kd_54, kd_55, kd_56, kd_57, kd_58, kd_59, ln_47, ln_48, ln_49, ln_50, ln_51, ln_52, ln_53, ln_54, ln_55, ln_56, ln_57, ln_58, ln_59, Option.toList_some, Option.toList_none, List.cons_append, List.nil_append, true_and, and_true, if_true, if_false, true_or, or_true, Nat.reduceAdd, Int.reduceAdd, Bool.false_eq_true, tn_0, tn_1, tn_2, tn_3, tn_4, tn_5, tn_6, tn_7]
  refine J_callVr (ci := 6) (isOne_ok _ _) k_X6_cut_2 o_X6_isOne rfl rfl rfl rfl (by decide) rfl (Nat.le_of_ble_eq_true rfl) ?_
  rw [h0, if_pos ho]
  refine J_blk a_X6_cut_5 ?_
  simp only [b_X6_cut_5, w_if_ne, w_nil, kd_46, kd_47, kd_48, kd_49, kd_50, kd_51, kd_52, kd_53, kd_54, kd_55, kd_56, kd_57, kd_58, kd_59, ln_47, ln_48, ln_49, ln_50, ln_51, ln_52, ln_53, ln_54, ln_55, ln_56, ln_57, ln_58, ln_59, Option.toList_some, Option.toList_none, List.cons_append, List.nil_append, true_and, and_true, if_true, if_false, true_or, or_true, Nat.reduceAdd, Int.reduceAdd, Bool.false_eq_true, tn_0, tn_1, tn_2, tn_3, tn_4, tn_5, tn_6, tn_7]
  refine ⟨fun c29 => ?_, fun c29 => ?_⟩
  · first
      | exact absurd c29 (by decide)
      | (refine J_blk a_X6_cut_10 ?_
         simp only [b_X6_cut_10, w_aload_n0, w_iload_n1, w_iconst_4, w_nil, kd_46, kd_47, kd_48, kd_49, kd_50, kd_51, kd_52, kd_53, kd_54, kd_55, kd_56, kd_57, kd_58, kd_59, ln_47, ln_48, ln_49, ln_50, ln_51, ln_52, ln_53, ln_54, ln_55, ln_56, ln_57, ln_58, ln_59, Option.toList_some, Option.toList_none, List.cons_append, List.nil_append, true_and, and_true, if_true, if_false, true_or, or_true, Nat.reduceAdd, Int.reduceAdd, Bool.false_eq_true, tn_0, tn_1, tn_2, tn_3, tn_4, tn_5, tn_6, tn_7]
         refine J_callVr (ci := 6) (its_ok _ 4 _ (by omega)) k_X6_cut_13 o_X6_its rfl rfl rfl rfl (by decide) rfl (Nat.le_of_ble_eq_true rfl) ?_
         refine J_blk a_X6_cut_16 ?_
         simp only [b_X6_cut_16, w_iconst_1, w_icmp_ne, w_nil, kd_46, kd_47, kd_48, kd_49, kd_50, kd_51, kd_52, kd_53, kd_54, kd_55, kd_56, kd_57, kd_58, kd_59, ln_47, ln_48, ln_49, ln_50, ln_51, ln_52, ln_53, ln_54, ln_55, ln_56, ln_57, ln_58, ln_59, Option.toList_some, Option.toList_none, List.cons_append, List.nil_append, true_and, and_true, if_true, if_false, true_or, or_true, Nat.reduceAdd, Int.reduceAdd, Bool.false_eq_true, tn_0, tn_1, tn_2, tn_3, tn_4, tn_5, tn_6, tn_7]
         refine ⟨fun c30 => ?_, fun c30 => ?_⟩
         · first
             | exact absurd c30 (by decide)
             | (exact absurd hc (by assumption))
         · first
             | exact absurd c30 (by decide)
             | (refine J_blk a_X6_cut_20 ?_
                simp only [b_X6_cut_20, w_bipush, ci_m3, w_ireti, kd_46, kd_47, kd_48, kd_49, kd_50, kd_51, kd_52, kd_53, kd_54, kd_55, kd_56, kd_57, kd_58, kd_59, ln_47, ln_48, ln_49, ln_50, ln_51, ln_52, ln_53, ln_54, ln_55, ln_56, ln_57, ln_58, ln_59, Option.toList_some, Option.toList_none, List.cons_append, List.nil_append, true_and, and_true, if_true, if_false, true_or, or_true, Nat.reduceAdd, Int.reduceAdd, Bool.false_eq_true, tn_0, tn_1, tn_2, tn_3, tn_4, tn_5, tn_6, tn_7]
                exact ⟨rfl, rfl⟩))
  · first
      | exact absurd c29 (by decide)
      | (refine J_blk a_X6_cut_8 ?_
         simp only [b_X6_cut_8, w_iconst_m1, w_ireti, kd_46, kd_47, kd_48, kd_49, kd_50, kd_51, kd_52, kd_53, kd_54, kd_55, kd_56, kd_57, kd_58, kd_59, ln_47, ln_48, ln_49, ln_50, ln_51, ln_52, ln_53, ln_54, ln_55, ln_56, ln_57, ln_58, ln_59, Option.toList_some, Option.toList_none, List.cons_append, List.nil_append, true_and, and_true, if_true, if_false, true_or, or_true, Nat.reduceAdd, Int.reduceAdd, Bool.false_eq_true, tn_0, tn_1, tn_2, tn_3, tn_4, tn_5, tn_6, tn_7]
         exact ⟨rfl, rfl⟩)
theorem mcut_t (n o : Nat) (M : Mm) (hw : WF (M.1 47) n) (hj : o < n) (hc : ¬ M.1 47 (8 + 6 * o + 4) = 1) : K 3 mX6_cut [.ref 46, .int (nI o)] M (Rt (some (.int (nsS (upd (M.1 47) (8 + 6 * o + 4) 1) n))) (su M 47 (upd (M.1 47) (8 + 6 * o + 4) 1))) := by
  have h0 := hw.1
  have h8 := hw.2.1
  have ho := ok1 hj (by omega)
  have t4 : (nI (8 + 6 * o + 4)).toNatClampNeg = 8 + 6 * o + 4 := nI_clamp (by omega)
  have go : J 3 mX6_cut 23 [some (.ref 46), some (.int (nI o))] [] M (Rt (some (.int (nsS (upd (M.1 47) (8 + 6 * o + 4) 1) n))) (su M 47 (upd (M.1 47) (8 + 6 * o + 4) 1))) := by
    refine J_blk a_X6_cut_23 ?_
    simp only [b_X6_cut_23, w_aload_n0, w_getf6, ne0_1, w_bipush, ci_8, ci_6, w_iload_n1, w_imul, w_iadd, w_iconst_4, w_iconst_1, w_iast, w_nil, kd_46, kd_47, kd_48, kd_49, kd_50, kd_51, kd_52, kd_53, kd_54, kd_55, kd_56, kd_57, kd_58, kd_59, ln_47, ln_48, ln_49, ln_50, ln_51, ln_52, ln_53, ln_54, ln_55, ln_56, ln_57, ln_58, ln_59, Option.toList_some, Option.toList_none, List.cons_append, List.nil_append, true_and, and_true, if_true, if_false, true_or, or_true, Nat.reduceAdd, Int.reduceAdd, Bool.false_eq_true, tn_0, tn_1, tn_2, tn_3, tn_4, tn_5, tn_6, tn_7, ix0, ad4, t4, u1_row]
    refine ⟨vinN (by omega) (by decide), ?_⟩
    refine J_callVr (ci := 6) (standing_ok n _ (by rw [su_at]; exact WF_cut hw 1 (Or.inr rfl))) k_X6_cut_39 o_X6_standing rfl rfl rfl rfl (by decide) rfl (Nat.le_of_ble_eq_true rfl) ?_
    rw [su_at, bsF_N _ n h8]
    refine J_callSr (size_ok _ _ (bs256 _ h8)) k_X6_cut_42 o_X6_size rfl (by decide) rfl (Nat.le_of_ble_eq_true rfl) ?_
    refine J_blk a_X6_cut_45 ?_
    simp only [b_X6_cut_45, w_ireti, kd_46, kd_47, kd_48, kd_49, kd_50, kd_51, kd_52, kd_53, kd_54, kd_55, kd_56, kd_57, kd_58, kd_59, ln_47, ln_48, ln_49, ln_50, ln_51, ln_52, ln_53, ln_54, ln_55, ln_56, ln_57, ln_58, ln_59, Option.toList_some, Option.toList_none, List.cons_append, List.nil_append, true_and, and_true, if_true, if_false, true_or, or_true, Nat.reduceAdd, Int.reduceAdd, Bool.false_eq_true, tn_0, tn_1, tn_2, tn_3, tn_4, tn_5, tn_6, tn_7]
    exact ⟨rfl, rfl⟩
  refine K_go 1 o_X6_cut [] rfl (Nat.le_of_ble_eq_true rfl) ?_
  simp only [lvA_i, lvA_a, lvA_l, lvA_nil, List.cons_append, List.nil_append]
  refine J_blk a_X6_cut_0 ?_
  simp only [b_X6_cut_0, w_aload_n0, w_iload_n1, w_nil, kd_46, kd_47, kd_48, kd_49, kd_50, kd_51, kd_52, kd_53, kd_54, kd_55, kd_56, kd_57, kd_58, kd_59, ln_47, ln_48, ln_49, ln_50, ln_51, ln_52, ln_53, ln_54, ln_55, ln_56, ln_57, ln_58, ln_59, Option.toList_some, Option.toList_none, List.cons_append, List.nil_append, true_and, and_true, if_true, if_false, true_or, or_true, Nat.reduceAdd, Int.reduceAdd, Bool.false_eq_true, tn_0, tn_1, tn_2, tn_3, tn_4, tn_5, tn_6, tn_7]
  refine J_callVr (ci := 6) (isOne_ok _ _) k_X6_cut_2 o_X6_isOne rfl rfl rfl rfl (by decide) rfl (Nat.le_of_ble_eq_true rfl) ?_
  rw [h0, if_pos ho]
  refine J_blk a_X6_cut_5 ?_
  simp only [b_X6_cut_5, w_if_ne, w_nil, kd_46, kd_47, kd_48, kd_49, kd_50, kd_51, kd_52, kd_53, kd_54, kd_55, kd_56, kd_57, kd_58, kd_59, ln_47, ln_48, ln_49, ln_50, ln_51, ln_52, ln_53, ln_54, ln_55, ln_56, ln_57, ln_58, ln_59, Option.toList_some, Option.toList_none, List.cons_append, List.nil_append, true_and, and_true, if_true, if_false, true_or, or_true, Nat.reduceAdd, Int.reduceAdd, Bool.false_eq_true, tn_0, tn_1, tn_2, tn_3, tn_4, tn_5, tn_6, tn_7]
  refine ⟨fun c31 => ?_, fun c31 => ?_⟩
  · first
      | exact absurd c31 (by decide)
      | (refine J_blk a_X6_cut_10 ?_
         simp only [b_X6_cut_10, w_aload_n0, w_iload_n1, w_iconst_4, w_nil, kd_46, kd_47, kd_48, kd_49, kd_50, kd_51, kd_52, kd_53, kd_54, kd_55, kd_56, kd_57, kd_58, kd_59, ln_47, ln_48, ln_49, ln_50, ln_51, ln_52, ln_53, ln_54, ln_55, ln_56, ln_57, ln_58, ln_59, Option.toList_some, Option.toList_none, List.cons_append, List.nil_append, true_and, and_true, if_true, if_false, true_or, or_true, Nat.reduceAdd, Int.reduceAdd, Bool.false_eq_true, tn_0, tn_1, tn_2, tn_3, tn_4, tn_5, tn_6, tn_7]
         refine J_callVr (ci := 6) (its_ok _ 4 _ (by omega)) k_X6_cut_13 o_X6_its rfl rfl rfl rfl (by decide) rfl (Nat.le_of_ble_eq_true rfl) ?_
         refine J_blk a_X6_cut_16 ?_
         simp only [b_X6_cut_16, w_iconst_1, w_icmp_ne, w_nil, kd_46, kd_47, kd_48, kd_49, kd_50, kd_51, kd_52, kd_53, kd_54, kd_55, kd_56, kd_57, kd_58, kd_59, ln_47, ln_48, ln_49, ln_50, ln_51, ln_52, ln_53, ln_54, ln_55, ln_56, ln_57, ln_58, ln_59, Option.toList_some, Option.toList_none, List.cons_append, List.nil_append, true_and, and_true, if_true, if_false, true_or, or_true, Nat.reduceAdd, Int.reduceAdd, Bool.false_eq_true, tn_0, tn_1, tn_2, tn_3, tn_4, tn_5, tn_6, tn_7]
         refine ⟨fun c32 => ?_, fun c32 => ?_⟩
         · first
             | exact absurd c32 (by decide)
             | (exact go)
         · first
             | exact absurd c32 (by decide)
             | (exact absurd (by assumption) hc))
  · first
      | exact absurd c31 (by decide)
      | (refine J_blk a_X6_cut_8 ?_
         simp only [b_X6_cut_8, w_iconst_m1, w_ireti, kd_46, kd_47, kd_48, kd_49, kd_50, kd_51, kd_52, kd_53, kd_54, kd_55, kd_56, kd_57, kd_58, kd_59, ln_47, ln_48, ln_49, ln_50, ln_51, ln_52, ln_53, ln_54, ln_55, ln_56, ln_57, ln_58, ln_59, Option.toList_some, Option.toList_none, List.cons_append, List.nil_append, true_and, and_true, if_true, if_false, true_or, or_true, Nat.reduceAdd, Int.reduceAdd, Bool.false_eq_true, tn_0, tn_1, tn_2, tn_3, tn_4, tn_5, tn_6, tn_7]
         first | exact ⟨rfl, rfl⟩ | (simp_all [Rt]))
theorem mayBack_ok (n o : Nat) (M : Mm) (hw : WF (M.1 47) n) (hj : o < n) : K 1 mX6_mayBack [.ref 46, .int (nI o)] M (Rt (some (.int (if M.1 47 (8 + 6 * o + 4) = 1 ∧ ¬ 6 ≤ M.1 47 (8 + 6 * o + 5) then 1 else 0))) M) := by
  have h8 := hw.2.1
  refine K_go 1 o_X6_mayBack [] rfl (Nat.le_of_ble_eq_true rfl) ?_
  simp only [lvA_i, lvA_a, lvA_l, lvA_nil, List.cons_append, List.nil_append]
  refine J_blk a_X6_mayBack_0 ?_
  simp only [b_X6_mayBack_0, w_aload_n0, w_iload_n1, w_iconst_4, w_nil, kd_46, kd_47, kd_48, kd_49, kd_50, kd_51, kd_52, kd_53, kd_54, kd_55, kd_56, kd_57, kd_58, kd_59, ln_47, ln_48, ln_49, ln_50, ln_51, ln_52, ln_53, ln_54, ln_55, ln_56, ln_57, ln_58, ln_59, Option.toList_some, Option.toList_none, List.cons_append, List.nil_append, true_and, and_true, if_true, if_false, true_or, or_true, Nat.reduceAdd, Int.reduceAdd, Bool.false_eq_true, tn_0, tn_1, tn_2, tn_3, tn_4, tn_5, tn_6, tn_7]
  refine J_callVr (ci := 6) (its_ok o 4 M (by omega)) k_X6_mayBack_3 o_X6_its rfl rfl rfl rfl (by decide) rfl (Nat.le_of_ble_eq_true rfl) ?_
  refine J_blk a_X6_mayBack_6 ?_
  simp only [b_X6_mayBack_6, w_iconst_1, w_icmp_ne, w_nil, kd_46, kd_47, kd_48, kd_49, kd_50, kd_51, kd_52, kd_53, kd_54, kd_55, kd_56, kd_57, kd_58, kd_59, ln_47, ln_48, ln_49, ln_50, ln_51, ln_52, ln_53, ln_54, ln_55, ln_56, ln_57, ln_58, ln_59, Option.toList_some, Option.toList_none, List.cons_append, List.nil_append, true_and, and_true, if_true, if_false, true_or, or_true, Nat.reduceAdd, Int.reduceAdd, Bool.false_eq_true, tn_0, tn_1, tn_2, tn_3, tn_4, tn_5, tn_6, tn_7]
  refine ⟨fun c => ?_, fun c => ?_⟩
  · refine J_blk a_X6_mayBack_32 ?_
    simp only [b_X6_mayBack_32, w_iconst_0, w_nil, kd_46, kd_47, kd_48, kd_49, kd_50, kd_51, kd_52, kd_53, kd_54, kd_55, kd_56, kd_57, kd_58, kd_59, ln_47, ln_48, ln_49, ln_50, ln_51, ln_52, ln_53, ln_54, ln_55, ln_56, ln_57, ln_58, ln_59, Option.toList_some, Option.toList_none, List.cons_append, List.nil_append, true_and, and_true, if_true, if_false, true_or, or_true, Nat.reduceAdd, Int.reduceAdd, Bool.false_eq_true, tn_0, tn_1, tn_2, tn_3, tn_4, tn_5, tn_6, tn_7]
    refine J_blk a_X6_mayBack_33 ?_
    simp only [b_X6_mayBack_33, w_iretz, kd_46, kd_47, kd_48, kd_49, kd_50, kd_51, kd_52, kd_53, kd_54, kd_55, kd_56, kd_57, kd_58, kd_59, ln_47, ln_48, ln_49, ln_50, ln_51, ln_52, ln_53, ln_54, ln_55, ln_56, ln_57, ln_58, ln_59, Option.toList_some, Option.toList_none, List.cons_append, List.nil_append, true_and, and_true, if_true, if_false, true_or, or_true, Nat.reduceAdd, Int.reduceAdd, Bool.false_eq_true, tn_0, tn_1, tn_2, tn_3, tn_4, tn_5, tn_6, tn_7]
    try refine ⟨(by first | exact Or.inl rfl | exact Or.inr rfl), ?_⟩
    exact ⟨by rw [if_neg (fun h => c h.1)], rfl⟩
  · refine J_blk a_X6_mayBack_10 ?_
    simp only [b_X6_mayBack_10, w_aload_n0, w_iload_n1, w_iconst_4, w_nil, kd_46, kd_47, kd_48, kd_49, kd_50, kd_51, kd_52, kd_53, kd_54, kd_55, kd_56, kd_57, kd_58, kd_59, ln_47, ln_48, ln_49, ln_50, ln_51, ln_52, ln_53, ln_54, ln_55, ln_56, ln_57, ln_58, ln_59, Option.toList_some, Option.toList_none, List.cons_append, List.nil_append, true_and, and_true, if_true, if_false, true_or, or_true, Nat.reduceAdd, Int.reduceAdd, Bool.false_eq_true, tn_0, tn_1, tn_2, tn_3, tn_4, tn_5, tn_6, tn_7]
    refine J_callVr (ci := 6) (its_ok o 4 M (by omega)) k_X6_mayBack_13 o_X6_its rfl rfl rfl rfl (by decide) rfl (Nat.le_of_ble_eq_true rfl) ?_
    refine J_blk a_X6_mayBack_16 ?_
    simp only [b_X6_mayBack_16, w_aload_n0, w_iload_n1, w_iconst_5, w_nil, kd_46, kd_47, kd_48, kd_49, kd_50, kd_51, kd_52, kd_53, kd_54, kd_55, kd_56, kd_57, kd_58, kd_59, ln_47, ln_48, ln_49, ln_50, ln_51, ln_52, ln_53, ln_54, ln_55, ln_56, ln_57, ln_58, ln_59, Option.toList_some, Option.toList_none, List.cons_append, List.nil_append, true_and, and_true, if_true, if_false, true_or, or_true, Nat.reduceAdd, Int.reduceAdd, Bool.false_eq_true, tn_0, tn_1, tn_2, tn_3, tn_4, tn_5, tn_6, tn_7]
    refine J_callVr (ci := 6) (its_ok o 5 M (by omega)) k_X6_mayBack_19 o_X6_its rfl rfl rfl rfl (by decide) rfl (Nat.le_of_ble_eq_true rfl) ?_
    refine J_callSr (isBurnt_ok _ _ _) k_X6_mayBack_22 o_X6_isBurnt rfl (by decide) rfl (Nat.le_of_ble_eq_true rfl) ?_
    refine J_blk a_X6_mayBack_25 ?_
    simp only [b_X6_mayBack_25, w_if_ne, w_nil, kd_46, kd_47, kd_48, kd_49, kd_50, kd_51, kd_52, kd_53, kd_54, kd_55, kd_56, kd_57, kd_58, kd_59, ln_47, ln_48, ln_49, ln_50, ln_51, ln_52, ln_53, ln_54, ln_55, ln_56, ln_57, ln_58, ln_59, Option.toList_some, Option.toList_none, List.cons_append, List.nil_append, true_and, and_true, if_true, if_false, true_or, or_true, Nat.reduceAdd, Int.reduceAdd, Bool.false_eq_true, tn_0, tn_1, tn_2, tn_3, tn_4, tn_5, tn_6, tn_7]
    refine ⟨fun c33 => ?_, fun c33 => ?_⟩
    · refine J_blk a_X6_mayBack_32 ?_
      simp only [b_X6_mayBack_32, w_iconst_0, w_nil, kd_46, kd_47, kd_48, kd_49, kd_50, kd_51, kd_52, kd_53, kd_54, kd_55, kd_56, kd_57, kd_58, kd_59, ln_47, ln_48, ln_49, ln_50, ln_51, ln_52, ln_53, ln_54, ln_55, ln_56, ln_57, ln_58, ln_59, Option.toList_some, Option.toList_none, List.cons_append, List.nil_append, true_and, and_true, if_true, if_false, true_or, or_true, Nat.reduceAdd, Int.reduceAdd, Bool.false_eq_true, tn_0, tn_1, tn_2, tn_3, tn_4, tn_5, tn_6, tn_7]
      refine J_blk a_X6_mayBack_33 ?_
      simp only [b_X6_mayBack_33, w_iretz, kd_46, kd_47, kd_48, kd_49, kd_50, kd_51, kd_52, kd_53, kd_54, kd_55, kd_56, kd_57, kd_58, kd_59, ln_47, ln_48, ln_49, ln_50, ln_51, ln_52, ln_53, ln_54, ln_55, ln_56, ln_57, ln_58, ln_59, Option.toList_some, Option.toList_none, List.cons_append, List.nil_append, true_and, and_true, if_true, if_false, true_or, or_true, Nat.reduceAdd, Int.reduceAdd, Bool.false_eq_true, tn_0, tn_1, tn_2, tn_3, tn_4, tn_5, tn_6, tn_7]
      try refine ⟨(by first | exact Or.inl rfl | exact Or.inr rfl), ?_⟩
      exact ⟨by grind, rfl⟩
    · refine J_blk a_X6_mayBack_28 ?_
      simp only [b_X6_mayBack_28, w_iconst_1, w_goto, kd_46, kd_47, kd_48, kd_49, kd_50, kd_51, kd_52, kd_53, kd_54, kd_55, kd_56, kd_57, kd_58, kd_59, ln_47, ln_48, ln_49, ln_50, ln_51, ln_52, ln_53, ln_54, ln_55, ln_56, ln_57, ln_58, ln_59, Option.toList_some, Option.toList_none, List.cons_append, List.nil_append, true_and, and_true, if_true, if_false, true_or, or_true, Nat.reduceAdd, Int.reduceAdd, Bool.false_eq_true, tn_0, tn_1, tn_2, tn_3, tn_4, tn_5, tn_6, tn_7]
      refine J_blk a_X6_mayBack_33 ?_
      simp only [b_X6_mayBack_33, w_iretz, kd_46, kd_47, kd_48, kd_49, kd_50, kd_51, kd_52, kd_53, kd_54, kd_55, kd_56, kd_57, kd_58, kd_59, ln_47, ln_48, ln_49, ln_50, ln_51, ln_52, ln_53, ln_54, ln_55, ln_56, ln_57, ln_58, ln_59, Option.toList_some, Option.toList_none, List.cons_append, List.nil_append, true_and, and_true, if_true, if_false, true_or, or_true, Nat.reduceAdd, Int.reduceAdd, Bool.false_eq_true, tn_0, tn_1, tn_2, tn_3, tn_4, tn_5, tn_6, tn_7]
      try refine ⟨(by first | exact Or.inl rfl | exact Or.inr rfl), ?_⟩
      exact ⟨by grind, rfl⟩
def cbR (s : Nat → Int32) (o : Nat) : Nat → Int32 := upd (upd s (8 + 6 * o + 4) 0) (8 + 6 * o + 5) 0
theorem comesBack_ok (o : Nat) (M : Mm) (hj : o < 8) : K 0 mX6_comesBack [.ref 46, .int (nI o)] M (Rt none (su M 47 (cbR (M.1 47) o))) := by
  have t4 : (nI (8 + 6 * o + 4)).toNatClampNeg = 8 + 6 * o + 4 := nI_clamp (by omega)
  have t5 : (nI (8 + 6 * o + 5)).toNatClampNeg = 8 + 6 * o + 5 := nI_clamp (by omega)
  refine K_go 1 o_X6_comesBack [] rfl (Nat.le_of_ble_eq_true rfl) ?_
  simp only [lvA_i, lvA_a, lvA_l, lvA_nil, List.cons_append, List.nil_append]
  refine J_blk a_X6_comesBack_0 ?_
  simp only [b_X6_comesBack_0, w_aload_n0, w_getf6, ne0_1, w_bipush, ci_8, ci_6, w_iload_n1, w_imul, w_iadd, w_iconst_4, w_iconst_0, w_iast, w_iconst_5, w_vret, kd_46, kd_47, kd_48, kd_49, kd_50, kd_51, kd_52, kd_53, kd_54, kd_55, kd_56, kd_57, kd_58, kd_59, ln_47, ln_48, ln_49, ln_50, ln_51, ln_52, ln_53, ln_54, ln_55, ln_56, ln_57, ln_58, ln_59, Option.toList_some, Option.toList_none, List.cons_append, List.nil_append, true_and, and_true, if_true, if_false, true_or, or_true, Nat.reduceAdd, Int.reduceAdd, Bool.false_eq_true, tn_0, tn_1, tn_2, tn_3, tn_4, tn_5, tn_6, tn_7, ix0, ad4, ad5, t4, t5]
  exact ⟨vinN (by omega) (by decide), vinN (by omega) (by decide), rfl, by rw [u1_row M, u1_su]; rfl⟩
theorem WF_cb {s : Nat → Int32} {n o : Nat} (hw : WF s n) : WF (cbR s o) n := WF_lies (a := 0) (WF_cut hw 0 (Or.inl rfl)) (by omega)
theorem mback_n (n o : Nat) (M : Mm) (hw : WF (M.1 47) n) (hj : o < n) (hc : ¬ (M.1 47 (8 + 6 * o + 4) = 1 ∧ ¬ 6 ≤ M.1 47 (8 + 6 * o + 5))) : K 3 mX6_back [.ref 46, .int (nI o)] M (Rt (some (.int (-3))) M) := by
  have h0 := hw.1
  have h8 := hw.2.1
  have ho := ok1 hj (by omega)
  refine K_go 1 o_X6_back [] rfl (Nat.le_of_ble_eq_true rfl) ?_
  simp only [lvA_i, lvA_a, lvA_l, lvA_nil, List.cons_append, List.nil_append]
  refine J_blk a_X6_back_0 ?_
  simp only [b_X6_back_0, w_aload_n0, w_iload_n1, w_nil, kd_46, kd_47, kd_48, kd_49, kd_50, kd_51, kd_52, kd_53, kd_54, kd_55, kd_56, kd_57, kd_58, kd_59, ln_47, ln_48, ln_49, ln_50, ln_51, ln_52, ln_53, ln_54, ln_55, ln_56, ln_57, ln_58, ln_59, Option.toList_some, Option.toList_none, List.cons_append, List.nil_append, true_and, and_true, if_true, if_false, true_or, or_true, Nat.reduceAdd, Int.reduceAdd, Bool.false_eq_true, tn_0, tn_1, tn_2, tn_3, tn_4, tn_5, tn_6, tn_7]
  refine J_callVr (ci := 6) (isOne_ok _ _) k_X6_back_2 o_X6_isOne rfl rfl rfl rfl (by decide) rfl (Nat.le_of_ble_eq_true rfl) ?_
  rw [h0, if_pos ho]
  refine J_blk a_X6_back_5 ?_
  simp only [b_X6_back_5, w_if_ne, w_nil, kd_46, kd_47, kd_48, kd_49, kd_50, kd_51, kd_52, kd_53, kd_54, kd_55, kd_56, kd_57, kd_58, kd_59, ln_47, ln_48, ln_49, ln_50, ln_51, ln_52, ln_53, ln_54, ln_55, ln_56, ln_57, ln_58, ln_59, Option.toList_some, Option.toList_none, List.cons_append, List.nil_append, true_and, and_true, if_true, if_false, true_or, or_true, Nat.reduceAdd, Int.reduceAdd, Bool.false_eq_true, tn_0, tn_1, tn_2, tn_3, tn_4, tn_5, tn_6, tn_7]
  refine ⟨fun c34 => ?_, fun c34 => ?_⟩
  · first
      | exact absurd c34 (by decide)
      | (refine J_blk a_X6_back_10 ?_
         simp only [b_X6_back_10, w_aload_n0, w_iload_n1, w_nil, kd_46, kd_47, kd_48, kd_49, kd_50, kd_51, kd_52, kd_53, kd_54, kd_55, kd_56, kd_57, kd_58, kd_59, ln_47, ln_48, ln_49, ln_50, ln_51, ln_52, ln_53, ln_54, ln_55, ln_56, ln_57, ln_58, ln_59, Option.toList_some, Option.toList_none, List.cons_append, List.nil_append, true_and, and_true, if_true, if_false, true_or, or_true, Nat.reduceAdd, Int.reduceAdd, Bool.false_eq_true, tn_0, tn_1, tn_2, tn_3, tn_4, tn_5, tn_6, tn_7]
         refine J_callVr (ci := 6) (mayBack_ok n o _ hw hj) k_X6_back_12 o_X6_mayBack rfl rfl rfl rfl (by decide) rfl (Nat.le_of_ble_eq_true rfl) ?_
         rw [if_neg hc]
         refine J_blk a_X6_back_15 ?_
         simp only [b_X6_back_15, w_if_ne, w_nil, kd_46, kd_47, kd_48, kd_49, kd_50, kd_51, kd_52, kd_53, kd_54, kd_55, kd_56, kd_57, kd_58, kd_59, ln_47, ln_48, ln_49, ln_50, ln_51, ln_52, ln_53, ln_54, ln_55, ln_56, ln_57, ln_58, ln_59, Option.toList_some, Option.toList_none, List.cons_append, List.nil_append, true_and, and_true, if_true, if_false, true_or, or_true, Nat.reduceAdd, Int.reduceAdd, Bool.false_eq_true, tn_0, tn_1, tn_2, tn_3, tn_4, tn_5, tn_6, tn_7]
         refine ⟨fun c35 => ?_, fun c35 => ?_⟩
         · first
             | exact absurd c35 (by decide)
             | (exact absurd rfl (by assumption))
         · first
             | exact absurd c35 (by decide)
             | (refine J_blk a_X6_back_18 ?_
                simp only [b_X6_back_18, w_bipush, ci_m3, w_ireti, kd_46, kd_47, kd_48, kd_49, kd_50, kd_51, kd_52, kd_53, kd_54, kd_55, kd_56, kd_57, kd_58, kd_59, ln_47, ln_48, ln_49, ln_50, ln_51, ln_52, ln_53, ln_54, ln_55, ln_56, ln_57, ln_58, ln_59, Option.toList_some, Option.toList_none, List.cons_append, List.nil_append, true_and, and_true, if_true, if_false, true_or, or_true, Nat.reduceAdd, Int.reduceAdd, Bool.false_eq_true, tn_0, tn_1, tn_2, tn_3, tn_4, tn_5, tn_6, tn_7]
                exact ⟨rfl, rfl⟩))
  · first
      | exact absurd c34 (by decide)
      | (refine J_blk a_X6_back_8 ?_
         simp only [b_X6_back_8, w_iconst_m1, w_ireti, kd_46, kd_47, kd_48, kd_49, kd_50, kd_51, kd_52, kd_53, kd_54, kd_55, kd_56, kd_57, kd_58, kd_59, ln_47, ln_48, ln_49, ln_50, ln_51, ln_52, ln_53, ln_54, ln_55, ln_56, ln_57, ln_58, ln_59, Option.toList_some, Option.toList_none, List.cons_append, List.nil_append, true_and, and_true, if_true, if_false, true_or, or_true, Nat.reduceAdd, Int.reduceAdd, Bool.false_eq_true, tn_0, tn_1, tn_2, tn_3, tn_4, tn_5, tn_6, tn_7]
         exact ⟨rfl, rfl⟩)
theorem mback_t (n o : Nat) (M : Mm) (hw : WF (M.1 47) n) (hj : o < n) (hc : M.1 47 (8 + 6 * o + 4) = 1 ∧ ¬ 6 ≤ M.1 47 (8 + 6 * o + 5)) : K 3 mX6_back [.ref 46, .int (nI o)] M (Rt (some (.int (nsS (cbR (M.1 47) o) n))) (su M 47 (cbR (M.1 47) o))) := by
  have h0 := hw.1
  have h8 := hw.2.1
  have ho := ok1 hj (by omega)
  have go : J 3 mX6_back 21 [some (.ref 46), some (.int (nI o))] [] M (Rt (some (.int (nsS (cbR (M.1 47) o) n))) (su M 47 (cbR (M.1 47) o))) := by
    refine J_blk a_X6_back_21 ?_
    simp only [b_X6_back_21, w_aload_n0, w_iload_n1, w_nil, kd_46, kd_47, kd_48, kd_49, kd_50, kd_51, kd_52, kd_53, kd_54, kd_55, kd_56, kd_57, kd_58, kd_59, ln_47, ln_48, ln_49, ln_50, ln_51, ln_52, ln_53, ln_54, ln_55, ln_56, ln_57, ln_58, ln_59, Option.toList_some, Option.toList_none, List.cons_append, List.nil_append, true_and, and_true, if_true, if_false, true_or, or_true, Nat.reduceAdd, Int.reduceAdd, Bool.false_eq_true, tn_0, tn_1, tn_2, tn_3, tn_4, tn_5, tn_6, tn_7]
    refine J_callVr (ci := 6) (comesBack_ok o M (by omega)) k_X6_back_23 o_X6_comesBack rfl rfl rfl rfl (by decide) rfl (Nat.le_of_ble_eq_true rfl) ?_
    refine J_blk a_X6_back_26 ?_
    simp only [b_X6_back_26, w_aload_n0, w_nil, kd_46, kd_47, kd_48, kd_49, kd_50, kd_51, kd_52, kd_53, kd_54, kd_55, kd_56, kd_57, kd_58, kd_59, ln_47, ln_48, ln_49, ln_50, ln_51, ln_52, ln_53, ln_54, ln_55, ln_56, ln_57, ln_58, ln_59, Option.toList_some, Option.toList_none, List.cons_append, List.nil_append, true_and, and_true, if_true, if_false, true_or, or_true, Nat.reduceAdd, Int.reduceAdd, Bool.false_eq_true, tn_0, tn_1, tn_2, tn_3, tn_4, tn_5, tn_6, tn_7]
    refine J_callVr (ci := 6) (standing_ok n _ (by rw [su_at]; exact WF_cb hw)) k_X6_back_27 o_X6_standing rfl rfl rfl rfl (by decide) rfl (Nat.le_of_ble_eq_true rfl) ?_
    rw [su_at, bsF_N _ n h8]
    refine J_callSr (size_ok _ _ (bs256 _ h8)) k_X6_back_30 o_X6_size rfl (by decide) rfl (Nat.le_of_ble_eq_true rfl) ?_
    refine J_blk a_X6_back_33 ?_
    simp only [b_X6_back_33, w_ireti, kd_46, kd_47, kd_48, kd_49, kd_50, kd_51, kd_52, kd_53, kd_54, kd_55, kd_56, kd_57, kd_58, kd_59, ln_47, ln_48, ln_49, ln_50, ln_51, ln_52, ln_53, ln_54, ln_55, ln_56, ln_57, ln_58, ln_59, Option.toList_some, Option.toList_none, List.cons_append, List.nil_append, true_and, and_true, if_true, if_false, true_or, or_true, Nat.reduceAdd, Int.reduceAdd, Bool.false_eq_true, tn_0, tn_1, tn_2, tn_3, tn_4, tn_5, tn_6, tn_7]
    exact ⟨rfl, rfl⟩
  refine K_go 1 o_X6_back [] rfl (Nat.le_of_ble_eq_true rfl) ?_
  simp only [lvA_i, lvA_a, lvA_l, lvA_nil, List.cons_append, List.nil_append]
  refine J_blk a_X6_back_0 ?_
  simp only [b_X6_back_0, w_aload_n0, w_iload_n1, w_nil, kd_46, kd_47, kd_48, kd_49, kd_50, kd_51, kd_52, kd_53, kd_54, kd_55, kd_56, kd_57, kd_58, kd_59, ln_47, ln_48, ln_49, ln_50, ln_51, ln_52, ln_53, ln_54, ln_55, ln_56, ln_57, ln_58, ln_59, Option.toList_some, Option.toList_none, List.cons_append, List.nil_append, true_and, and_true, if_true, if_false, true_or, or_true, Nat.reduceAdd, Int.reduceAdd, Bool.false_eq_true, tn_0, tn_1, tn_2, tn_3, tn_4, tn_5, tn_6, tn_7]
  refine J_callVr (ci := 6) (isOne_ok _ _) k_X6_back_2 o_X6_isOne rfl rfl rfl rfl (by decide) rfl (Nat.le_of_ble_eq_true rfl) ?_
  rw [h0, if_pos ho]
  refine J_blk a_X6_back_5 ?_
  simp only [b_X6_back_5, w_if_ne, w_nil, kd_46, kd_47, kd_48, kd_49, kd_50, kd_51, kd_52, kd_53, kd_54, kd_55, kd_56, kd_57, kd_58, kd_59, ln_47, ln_48, ln_49, ln_50, ln_51, ln_52, ln_53, ln_54, ln_55, ln_56, ln_57, ln_58, ln_59, Option.toList_some, Option.toList_none, List.cons_append, List.nil_append, true_and, and_true, if_true, if_false, true_or, or_true, Nat.reduceAdd, Int.reduceAdd, Bool.false_eq_true, tn_0, tn_1, tn_2, tn_3, tn_4, tn_5, tn_6, tn_7]
  refine ⟨fun c36 => ?_, fun c36 => ?_⟩
  · first
      | exact absurd c36 (by decide)
      | (refine J_blk a_X6_back_10 ?_
         simp only [b_X6_back_10, w_aload_n0, w_iload_n1, w_nil, kd_46, kd_47, kd_48, kd_49, kd_50, kd_51, kd_52, kd_53, kd_54, kd_55, kd_56, kd_57, kd_58, kd_59, ln_47, ln_48, ln_49, ln_50, ln_51, ln_52, ln_53, ln_54, ln_55, ln_56, ln_57, ln_58, ln_59, Option.toList_some, Option.toList_none, List.cons_append, List.nil_append, true_and, and_true, if_true, if_false, true_or, or_true, Nat.reduceAdd, Int.reduceAdd, Bool.false_eq_true, tn_0, tn_1, tn_2, tn_3, tn_4, tn_5, tn_6, tn_7]
         refine J_callVr (ci := 6) (mayBack_ok n o _ hw hj) k_X6_back_12 o_X6_mayBack rfl rfl rfl rfl (by decide) rfl (Nat.le_of_ble_eq_true rfl) ?_
         rw [if_pos hc]
         refine J_blk a_X6_back_15 ?_
         simp only [b_X6_back_15, w_if_ne, w_nil, kd_46, kd_47, kd_48, kd_49, kd_50, kd_51, kd_52, kd_53, kd_54, kd_55, kd_56, kd_57, kd_58, kd_59, ln_47, ln_48, ln_49, ln_50, ln_51, ln_52, ln_53, ln_54, ln_55, ln_56, ln_57, ln_58, ln_59, Option.toList_some, Option.toList_none, List.cons_append, List.nil_append, true_and, and_true, if_true, if_false, true_or, or_true, Nat.reduceAdd, Int.reduceAdd, Bool.false_eq_true, tn_0, tn_1, tn_2, tn_3, tn_4, tn_5, tn_6, tn_7]
         refine ⟨fun c37 => ?_, fun c37 => ?_⟩
         · first
             | exact absurd c37 (by decide)
             | (exact go)
         · first
             | exact absurd c37 (by decide)
             | (refine J_blk a_X6_back_18 ?_
                simp only [b_X6_back_18, w_bipush, ci_m3, w_ireti, kd_46, kd_47, kd_48, kd_49, kd_50, kd_51, kd_52, kd_53, kd_54, kd_55, kd_56, kd_57, kd_58, kd_59, ln_47, ln_48, ln_49, ln_50, ln_51, ln_52, ln_53, ln_54, ln_55, ln_56, ln_57, ln_58, ln_59, Option.toList_some, Option.toList_none, List.cons_append, List.nil_append, true_and, and_true, if_true, if_false, true_or, or_true, Nat.reduceAdd, Int.reduceAdd, Bool.false_eq_true, tn_0, tn_1, tn_2, tn_3, tn_4, tn_5, tn_6, tn_7]
                first | exact ⟨rfl, rfl⟩ | (simp_all [Rt])))
  · first
      | exact absurd c36 (by decide)
      | (refine J_blk a_X6_back_8 ?_
         simp only [b_X6_back_8, w_iconst_m1, w_ireti, kd_46, kd_47, kd_48, kd_49, kd_50, kd_51, kd_52, kd_53, kd_54, kd_55, kd_56, kd_57, kd_58, kd_59, ln_47, ln_48, ln_49, ln_50, ln_51, ln_52, ln_53, ln_54, ln_55, ln_56, ln_57, ln_58, ln_59, Option.toList_some, Option.toList_none, List.cons_append, List.nil_append, true_and, and_true, if_true, if_false, true_or, or_true, Nat.reduceAdd, Int.reduceAdd, Bool.false_eq_true, tn_0, tn_1, tn_2, tn_3, tn_4, tn_5, tn_6, tn_7]
         first | exact ⟨rfl, rfl⟩ | (simp_all [Rt]))
theorem myears_t (n y : Nat) (M : Mm) (hw : WF (M.1 47) n) (hy : 1 ≤ y) (hy2 : y ≤ 60) : K 4 mX6_years [.ref 46, .int (nI y)] M (Rt (some (.int (yrs (M.1 47) n y 3))) (su M 47 (yrs (M.1 47) n y))) := by
  have h1 : 1 ≤ nI y ∧ nI y ≤ 60 := ok3 (m := 60) hy hy2 (by decide)
  have loop : ∀ k, k ≤ y → ∀ z : Option Value, J 4 mX6_years 16 [some (.ref 46), some (.int (nI y)), some (.int (nI k)), z] [] (su M 47 (yrs (M.1 47) n k)) (Rt (some (.int (yrs (M.1 47) n y 3))) (su M 47 (yrs (M.1 47) n y))) := by
    refine down y ?_ ?_
    · intro z
      refine J_blk a_X6_years_16 ?_
      simp only [b_X6_years_16, w_iload_n2, w_iload_n1, w_icmp_ge, w_nil, kd_46, kd_47, kd_48, kd_49, kd_50, kd_51, kd_52, kd_53, kd_54, kd_55, kd_56, kd_57, kd_58, kd_59, ln_47, ln_48, ln_49, ln_50, ln_51, ln_52, ln_53, ln_54, ln_55, ln_56, ln_57, ln_58, ln_59, Option.toList_some, Option.toList_none, List.cons_append, List.nil_append, true_and, and_true, if_true, if_false, true_or, or_true, Nat.reduceAdd, Int.reduceAdd, Bool.false_eq_true, tn_0, tn_1, tn_2, tn_3, tn_4, tn_5, tn_6, tn_7]
      refine ⟨fun _ => ?_, fun h => absurd (Int32.le_refl _) h⟩
      refine J_blk a_X6_years_32 ?_
      simp only [b_X6_years_32, w_aload_n0, w_getf6, ne0_1, w_iconst_3, w_iald, w_ireti, kd_46, kd_47, kd_48, kd_49, kd_50, kd_51, kd_52, kd_53, kd_54, kd_55, kd_56, kd_57, kd_58, kd_59, ln_47, ln_48, ln_49, ln_50, ln_51, ln_52, ln_53, ln_54, ln_55, ln_56, ln_57, ln_58, ln_59, Option.toList_some, Option.toList_none, List.cons_append, List.nil_append, true_and, and_true, if_true, if_false, true_or, or_true, Nat.reduceAdd, Int.reduceAdd, Bool.false_eq_true, tn_0, tn_1, tn_2, tn_3, tn_4, tn_5, tn_6, tn_7, su_at]
      exact ⟨vlit (by decide), rfl, rfl⟩
    · intro k hk ih z
      refine J_blk a_X6_years_16 ?_
      simp only [b_X6_years_16, w_iload_n2, w_iload_n1, w_icmp_ge, w_nil, kd_46, kd_47, kd_48, kd_49, kd_50, kd_51, kd_52, kd_53, kd_54, kd_55, kd_56, kd_57, kd_58, kd_59, ln_47, ln_48, ln_49, ln_50, ln_51, ln_52, ln_53, ln_54, ln_55, ln_56, ln_57, ln_58, ln_59, Option.toList_some, Option.toList_none, List.cons_append, List.nil_append, true_and, and_true, if_true, if_false, true_or, or_true, Nat.reduceAdd, Int.reduceAdd, Bool.false_eq_true, tn_0, tn_1, tn_2, tn_3, tn_4, tn_5, tn_6, tn_7]
      refine ⟨fun h => absurd h (nI_ge hk (by omega)), fun _ => ?_⟩
      refine J_blk a_X6_years_21 ?_
      simp only [b_X6_years_21, w_aload_n0, w_nil, kd_46, kd_47, kd_48, kd_49, kd_50, kd_51, kd_52, kd_53, kd_54, kd_55, kd_56, kd_57, kd_58, kd_59, ln_47, ln_48, ln_49, ln_50, ln_51, ln_52, ln_53, ln_54, ln_55, ln_56, ln_57, ln_58, ln_59, Option.toList_some, Option.toList_none, List.cons_append, List.nil_append, true_and, and_true, if_true, if_false, true_or, or_true, Nat.reduceAdd, Int.reduceAdd, Bool.false_eq_true, tn_0, tn_1, tn_2, tn_3, tn_4, tn_5, tn_6, tn_7]
      refine J_callVr (ci := 6) (goesOn_ok n _ (by rw [su_at]; exact WF_yrs hw k)) k_X6_years_22 o_X6_goesOn rfl rfl rfl rfl (by decide) rfl (Nat.le_of_ble_eq_true rfl) ?_
      refine J_blk a_X6_years_25 ?_
      simp only [b_X6_years_25, w_istore3, nl_3n, nl_3i, nl_3a, w_iinc2, nl_2n, nl_2i, nl_2a, ci_1, w_goto, kd_46, kd_47, kd_48, kd_49, kd_50, kd_51, kd_52, kd_53, kd_54, kd_55, kd_56, kd_57, kd_58, kd_59, ln_47, ln_48, ln_49, ln_50, ln_51, ln_52, ln_53, ln_54, ln_55, ln_56, ln_57, ln_58, ln_59, Option.toList_some, Option.toList_none, List.cons_append, List.nil_append, true_and, and_true, if_true, if_false, true_or, or_true, Nat.reduceAdd, Int.reduceAdd, Bool.false_eq_true, tn_0, tn_1, tn_2, tn_3, tn_4, tn_5, tn_6, tn_7, su_at, su_su, nI_1]
      exact ih _
  have l0 := loop 0 (by omega) none
  rw [yrs, su_self] at l0
  refine K_go 1 o_X6_years [none, none] rfl (Nat.le_of_ble_eq_true rfl) ?_
  simp only [lvA_i, lvA_a, lvA_l, lvA_nil, List.cons_append, List.nil_append]
  refine J_blk a_X6_years_0 ?_
  simp only [b_X6_years_0, w_iload_n1, w_i2l, w_lconst_1, w_ldc2, cl_60, w_nil, kd_46, kd_47, kd_48, kd_49, kd_50, kd_51, kd_52, kd_53, kd_54, kd_55, kd_56, kd_57, kd_58, kd_59, ln_47, ln_48, ln_49, ln_50, ln_51, ln_52, ln_53, ln_54, ln_55, ln_56, ln_57, ln_58, ln_59, Option.toList_some, Option.toList_none, List.cons_append, List.nil_append, true_and, and_true, if_true, if_false, true_or, or_true, Nat.reduceAdd, Int.reduceAdd, Bool.false_eq_true, tn_0, tn_1, tn_2, tn_3, tn_4, tn_5, tn_6, tn_7]
  refine J_callSr (isIn_ok _ _ _ _) k_X6_years_6 o_X6_isIn rfl (by decide) rfl (Nat.le_of_ble_eq_true rfl) ?_
  (simp only [l_le_1, l_le_2, l_le_3, l_le_5, l_le_7, l_le_8, l_le_9, l_le_10, l_le_13, l_le_20, l_le_30, l_le_60, l_le_99, l_le_9999, l_ge_0, l_ge_1, l_ge_6, l_ge_m1, i64_le]; rw [if_pos (by first | exact h1 | exact h2 | exact h3 | exact h4)])
  refine J_blk a_X6_years_9 ?_
  simp only [b_X6_years_9, w_if_ne, w_nil, kd_46, kd_47, kd_48, kd_49, kd_50, kd_51, kd_52, kd_53, kd_54, kd_55, kd_56, kd_57, kd_58, kd_59, ln_47, ln_48, ln_49, ln_50, ln_51, ln_52, ln_53, ln_54, ln_55, ln_56, ln_57, ln_58, ln_59, Option.toList_some, Option.toList_none, List.cons_append, List.nil_append, true_and, and_true, if_true, if_false, true_or, or_true, Nat.reduceAdd, Int.reduceAdd, Bool.false_eq_true, tn_0, tn_1, tn_2, tn_3, tn_4, tn_5, tn_6, tn_7]
  refine ⟨fun c38 => ?_, fun c38 => ?_⟩
  · first
      | exact absurd c38 (by decide)
      | (refine J_blk a_X6_years_14 ?_
         simp only [b_X6_years_14, w_iconst_0, w_istore2, nl_2n, nl_2i, nl_2a, w_nil, kd_46, kd_47, kd_48, kd_49, kd_50, kd_51, kd_52, kd_53, kd_54, kd_55, kd_56, kd_57, kd_58, kd_59, ln_47, ln_48, ln_49, ln_50, ln_51, ln_52, ln_53, ln_54, ln_55, ln_56, ln_57, ln_58, ln_59, Option.toList_some, Option.toList_none, List.cons_append, List.nil_append, true_and, and_true, if_true, if_false, true_or, or_true, Nat.reduceAdd, Int.reduceAdd, Bool.false_eq_true, tn_0, tn_1, tn_2, tn_3, tn_4, tn_5, tn_6, tn_7]
         exact l0)
  · first
      | exact absurd c38 (by decide)
      | (refine J_blk a_X6_years_12 ?_
         simp only [b_X6_years_12, w_iconst_m1, w_ireti, kd_46, kd_47, kd_48, kd_49, kd_50, kd_51, kd_52, kd_53, kd_54, kd_55, kd_56, kd_57, kd_58, kd_59, ln_47, ln_48, ln_49, ln_50, ln_51, ln_52, ln_53, ln_54, ln_55, ln_56, ln_57, ln_58, ln_59, Option.toList_some, Option.toList_none, List.cons_append, List.nil_append, true_and, and_true, if_true, if_false, true_or, or_true, Nat.reduceAdd, Int.reduceAdd, Bool.false_eq_true, tn_0, tn_1, tn_2, tn_3, tn_4, tn_5, tn_6, tn_7]
         first | exact ⟨rfl, rfl⟩ | (simp_all [Rt]))
theorem mharvest_t (n y : Nat) (M : Mm) (hw : WF (M.1 47) n) (hy2 : y ≤ 60) : K 5 mX6_harvest [.ref 46, .int (nI y)] M (Rt (some (.int (hvS (M.1 47) n y))) (asd M)) := by
  have h1 : 0 ≤ nI y ∧ nI y ≤ 60 := ok2 (m := 60) hy2 (by decide)
  refine K_go 1 o_X6_harvest [] rfl (Nat.le_of_ble_eq_true rfl) ?_
  simp only [lvA_i, lvA_a, lvA_l, lvA_nil, List.cons_append, List.nil_append]
  refine J_blk a_X6_harvest_0 ?_
  simp only [b_X6_harvest_0, w_iload_n1, w_i2l, w_lconst_0, w_ldc2, cl_60, w_nil, kd_46, kd_47, kd_48, kd_49, kd_50, kd_51, kd_52, kd_53, kd_54, kd_55, kd_56, kd_57, kd_58, kd_59, ln_47, ln_48, ln_49, ln_50, ln_51, ln_52, ln_53, ln_54, ln_55, ln_56, ln_57, ln_58, ln_59, Option.toList_some, Option.toList_none, List.cons_append, List.nil_append, true_and, and_true, if_true, if_false, true_or, or_true, Nat.reduceAdd, Int.reduceAdd, Bool.false_eq_true, tn_0, tn_1, tn_2, tn_3, tn_4, tn_5, tn_6, tn_7]
  refine J_callSr (isIn_ok _ _ _ _) k_X6_harvest_6 o_X6_isIn rfl (by decide) rfl (Nat.le_of_ble_eq_true rfl) ?_
  (simp only [l_le_1, l_le_2, l_le_3, l_le_5, l_le_7, l_le_8, l_le_9, l_le_10, l_le_13, l_le_20, l_le_30, l_le_60, l_le_99, l_le_9999, l_ge_0, l_ge_1, l_ge_6, l_ge_m1, i64_le]; rw [if_pos (by first | exact h1 | exact h2 | exact h3 | exact h4)])
  refine J_blk a_X6_harvest_9 ?_
  simp only [b_X6_harvest_9, w_if_eq, w_nil, kd_46, kd_47, kd_48, kd_49, kd_50, kd_51, kd_52, kd_53, kd_54, kd_55, kd_56, kd_57, kd_58, kd_59, ln_47, ln_48, ln_49, ln_50, ln_51, ln_52, ln_53, ln_54, ln_55, ln_56, ln_57, ln_58, ln_59, Option.toList_some, Option.toList_none, List.cons_append, List.nil_append, true_and, and_true, if_true, if_false, true_or, or_true, Nat.reduceAdd, Int.reduceAdd, Bool.false_eq_true, tn_0, tn_1, tn_2, tn_3, tn_4, tn_5, tn_6, tn_7]
  refine ⟨fun c39 => ?_, fun c39 => ?_⟩
  · first
      | exact absurd c39 (by decide)
      | (refine J_blk a_X6_harvest_21 ?_
         simp only [b_X6_harvest_21, w_iconst_m1, w_nil, kd_46, kd_47, kd_48, kd_49, kd_50, kd_51, kd_52, kd_53, kd_54, kd_55, kd_56, kd_57, kd_58, kd_59, ln_47, ln_48, ln_49, ln_50, ln_51, ln_52, ln_53, ln_54, ln_55, ln_56, ln_57, ln_58, ln_59, Option.toList_some, Option.toList_none, List.cons_append, List.nil_append, true_and, and_true, if_true, if_false, true_or, or_true, Nat.reduceAdd, Int.reduceAdd, Bool.false_eq_true, tn_0, tn_1, tn_2, tn_3, tn_4, tn_5, tn_6, tn_7]
         refine J_blk a_X6_harvest_22 ?_
         simp only [b_X6_harvest_22, w_ireti, kd_46, kd_47, kd_48, kd_49, kd_50, kd_51, kd_52, kd_53, kd_54, kd_55, kd_56, kd_57, kd_58, kd_59, ln_47, ln_48, ln_49, ln_50, ln_51, ln_52, ln_53, ln_54, ln_55, ln_56, ln_57, ln_58, ln_59, Option.toList_some, Option.toList_none, List.cons_append, List.nil_append, true_and, and_true, if_true, if_false, true_or, or_true, Nat.reduceAdd, Int.reduceAdd, Bool.false_eq_true, tn_0, tn_1, tn_2, tn_3, tn_4, tn_5, tn_6, tn_7]
         exact ⟨by rw [ctR_zero], rfl⟩)
  · first
      | exact absurd c39 (by decide)
      | (refine J_blk a_X6_harvest_12 ?_
         simp only [b_X6_harvest_12, w_aload_n0, w_iload_n1, w_iconst_0, w_nil, kd_46, kd_47, kd_48, kd_49, kd_50, kd_51, kd_52, kd_53, kd_54, kd_55, kd_56, kd_57, kd_58, kd_59, ln_47, ln_48, ln_49, ln_50, ln_51, ln_52, ln_53, ln_54, ln_55, ln_56, ln_57, ln_58, ln_59, Option.toList_some, Option.toList_none, List.cons_append, List.nil_append, true_and, and_true, if_true, if_false, true_or, or_true, Nat.reduceAdd, Int.reduceAdd, Bool.false_eq_true, tn_0, tn_1, tn_2, tn_3, tn_4, tn_5, tn_6, tn_7]
         refine J_callVr (ci := 6) (harvestBy_ok n y 0 _ hw hy2) k_X6_harvest_15 o_X6_harvestBy rfl rfl rfl rfl (by decide) rfl (Nat.le_of_ble_eq_true rfl) ?_
         refine J_blk a_X6_harvest_18 ?_
         simp only [b_X6_harvest_18, w_goto, kd_46, kd_47, kd_48, kd_49, kd_50, kd_51, kd_52, kd_53, kd_54, kd_55, kd_56, kd_57, kd_58, kd_59, ln_47, ln_48, ln_49, ln_50, ln_51, ln_52, ln_53, ln_54, ln_55, ln_56, ln_57, ln_58, ln_59, Option.toList_some, Option.toList_none, List.cons_append, List.nil_append, true_and, and_true, if_true, if_false, true_or, or_true, Nat.reduceAdd, Int.reduceAdd, Bool.false_eq_true, tn_0, tn_1, tn_2, tn_3, tn_4, tn_5, tn_6, tn_7]
         refine J_blk a_X6_harvest_22 ?_
         simp only [b_X6_harvest_22, w_ireti, kd_46, kd_47, kd_48, kd_49, kd_50, kd_51, kd_52, kd_53, kd_54, kd_55, kd_56, kd_57, kd_58, kd_59, ln_47, ln_48, ln_49, ln_50, ln_51, ln_52, ln_53, ln_54, ln_55, ln_56, ln_57, ln_58, ln_59, Option.toList_some, Option.toList_none, List.cons_append, List.nil_append, true_and, and_true, if_true, if_false, true_or, or_true, Nat.reduceAdd, Int.reduceAdd, Bool.false_eq_true, tn_0, tn_1, tn_2, tn_3, tn_4, tn_5, tn_6, tn_7]
         exact ⟨by rw [ctR_zero], rfl⟩)

