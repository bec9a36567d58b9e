/-! the model: sheets, shelves -/
theorem lgle (x y : Int64) : (lg_cmp x y ≤ 0) = (x ≤ y) := by
  have := lg_cmp_gt x y
  apply propext
  constructor
  · intro h
    exact Int64.not_lt.mp (fun g => absurd (this.mpr g) (Int32.not_lt.mpr h))
  · intro h
    exact Int32.not_lt.mp (fun g => absurd (this.mp g) (Int64.not_lt.mpr h))
theorem msheet_f (t sort v : Int32) (M : Mm) (h : ¬ ((0 ≤ t ∧ t ≤ 3) ∧ (-1 ≤ sort ∧ sort ≤ 3) ∧ ¬ (0 ≤ sort ∧ 40 < v))) : K 2 mX6_sheet [.ref 46, .int t, .int sort, .int v] M (Rt (some (.int (-1))) M) := by
  refine K_go 3 o_X6_sheet [none] rfl (Nat.le_of_ble_eq_true rfl) ?_
  simp only [lvA_i, lvA_a, lvA_l, lvA_nil, List.cons_append, List.nil_append]
  refine J_blk a_X6_sheet_0 ?_
  simp only [b_X6_sheet_0, w_iload_n1, w_nil, kd_46, kd_47, kd_48, kd_49, kd_50, kd_51, kd_52, kd_53, kd_54, kd_55, kd_56, kd_57, kd_58, kd_59, ln_47, ln_48, ln_49, ln_50, ln_51, ln_52, ln_53, ln_54, ln_55, ln_56, ln_57, ln_58, ln_59, Option.toList_some, Option.toList_none, List.cons_append, List.nil_append, true_and, and_true, if_true, if_false, true_or, or_true, Nat.reduceAdd, Int.reduceAdd, Bool.false_eq_true, tn_0, tn_1, tn_2, tn_3, tn_4, tn_5, tn_6, tn_7]
  refine J_callSr (isSheet_ok _ _) k_X6_sheet_1 o_X6_isSheet rfl (by decide) rfl (Nat.le_of_ble_eq_true rfl) ?_
  refine J_blk a_X6_sheet_4 ?_
  simp only [b_X6_sheet_4, w_if_eq, w_nil, kd_46, kd_47, kd_48, kd_49, kd_50, kd_51, kd_52, kd_53, kd_54, kd_55, kd_56, kd_57, kd_58, kd_59, ln_47, ln_48, ln_49, ln_50, ln_51, ln_52, ln_53, ln_54, ln_55, ln_56, ln_57, ln_58, ln_59, Option.toList_some, Option.toList_none, List.cons_append, List.nil_append, true_and, and_true, if_true, if_false, true_or, or_true, Nat.reduceAdd, Int.reduceAdd, Bool.false_eq_true, tn_0, tn_1, tn_2, tn_3, tn_4, tn_5, tn_6, tn_7]
  refine ⟨fun c1 => ?_, fun c1 => ?_⟩
  · refine J_blk a_X6_sheet_31 ?_
    simp only [b_X6_sheet_31, w_iconst_m1, w_ireti, kd_46, kd_47, kd_48, kd_49, kd_50, kd_51, kd_52, kd_53, kd_54, kd_55, kd_56, kd_57, kd_58, kd_59, ln_47, ln_48, ln_49, ln_50, ln_51, ln_52, ln_53, ln_54, ln_55, ln_56, ln_57, ln_58, ln_59, Option.toList_some, Option.toList_none, List.cons_append, List.nil_append, true_and, and_true, if_true, if_false, true_or, or_true, Nat.reduceAdd, Int.reduceAdd, Bool.false_eq_true, tn_0, tn_1, tn_2, tn_3, tn_4, tn_5, tn_6, tn_7]
    exact ⟨rfl, rfl⟩
  · refine J_blk a_X6_sheet_7 ?_
    simp only [b_X6_sheet_7, w_iload_n2, w_i2l, w_ldc2, cl_m1, cl_3, w_nil, kd_46, kd_47, kd_48, kd_49, kd_50, kd_51, kd_52, kd_53, kd_54, kd_55, kd_56, kd_57, kd_58, kd_59, ln_47, ln_48, ln_49, ln_50, ln_51, ln_52, ln_53, ln_54, ln_55, ln_56, ln_57, ln_58, ln_59, Option.toList_some, Option.toList_none, List.cons_append, List.nil_append, true_and, and_true, if_true, if_false, true_or, or_true, Nat.reduceAdd, Int.reduceAdd, Bool.false_eq_true, tn_0, tn_1, tn_2, tn_3, tn_4, tn_5, tn_6, tn_7]
    refine J_callSr (isIn_ok _ _ _ _) k_X6_sheet_15 o_X6_isIn rfl (by decide) rfl (Nat.le_of_ble_eq_true rfl) ?_
    simp only [l_le_1, l_le_2, l_le_3, l_le_5, l_le_7, l_le_8, l_le_9, l_le_10, l_le_13, l_le_20, l_le_30, l_le_60, l_le_99, l_le_9999, l_ge_0, l_ge_1, l_ge_6, l_ge_m1, i64_le]
    refine J_blk a_X6_sheet_18 ?_
    simp only [b_X6_sheet_18, w_if_eq, w_nil, kd_46, kd_47, kd_48, kd_49, kd_50, kd_51, kd_52, kd_53, kd_54, kd_55, kd_56, kd_57, kd_58, kd_59, ln_47, ln_48, ln_49, ln_50, ln_51, ln_52, ln_53, ln_54, ln_55, ln_56, ln_57, ln_58, ln_59, Option.toList_some, Option.toList_none, List.cons_append, List.nil_append, true_and, and_true, if_true, if_false, true_or, or_true, Nat.reduceAdd, Int.reduceAdd, Bool.false_eq_true, tn_0, tn_1, tn_2, tn_3, tn_4, tn_5, tn_6, tn_7]
    refine ⟨fun c2 => ?_, fun c2 => ?_⟩
    · refine J_blk a_X6_sheet_31 ?_
      simp only [b_X6_sheet_31, w_iconst_m1, w_ireti, kd_46, kd_47, kd_48, kd_49, kd_50, kd_51, kd_52, kd_53, kd_54, kd_55, kd_56, kd_57, kd_58, kd_59, ln_47, ln_48, ln_49, ln_50, ln_51, ln_52, ln_53, ln_54, ln_55, ln_56, ln_57, ln_58, ln_59, Option.toList_some, Option.toList_none, List.cons_append, List.nil_append, true_and, and_true, if_true, if_false, true_or, or_true, Nat.reduceAdd, Int.reduceAdd, Bool.false_eq_true, tn_0, tn_1, tn_2, tn_3, tn_4, tn_5, tn_6, tn_7]
      exact ⟨rfl, rfl⟩
    · refine J_blk a_X6_sheet_21 ?_
      simp only [b_X6_sheet_21, w_iload_n2, w_if_lt, w_nil, kd_46, kd_47, kd_48, kd_49, kd_50, kd_51, kd_52, kd_53, kd_54, kd_55, kd_56, kd_57, kd_58, kd_59, ln_47, ln_48, ln_49, ln_50, ln_51, ln_52, ln_53, ln_54, ln_55, ln_56, ln_57, ln_58, ln_59, Option.toList_some, Option.toList_none, List.cons_append, List.nil_append, true_and, and_true, if_true, if_false, true_or, or_true, Nat.reduceAdd, Int.reduceAdd, Bool.false_eq_true, tn_0, tn_1, tn_2, tn_3, tn_4, tn_5, tn_6, tn_7]
      refine ⟨fun c3 => ?_, fun c3 => ?_⟩
      · exact absurd (by grind) h
      · refine J_blk a_X6_sheet_25 ?_
        simp only [b_X6_sheet_25, w_iload_n3, w_bipush, ci_40, w_icmp_le, w_nil, kd_46, kd_47, kd_48, kd_49, kd_50, kd_51, kd_52, kd_53, kd_54, kd_55, kd_56, kd_57, kd_58, kd_59, ln_47, ln_48, ln_49, ln_50, ln_51, ln_52, ln_53, ln_54, ln_55, ln_56, ln_57, ln_58, ln_59, Option.toList_some, Option.toList_none, List.cons_append, List.nil_append, true_and, and_true, if_true, if_false, true_or, or_true, Nat.reduceAdd, Int.reduceAdd, Bool.false_eq_true, tn_0, tn_1, tn_2, tn_3, tn_4, tn_5, tn_6, tn_7]
        refine ⟨fun c4 => ?_, fun c4 => ?_⟩
        · exact absurd (by grind) h
        · refine J_blk a_X6_sheet_31 ?_
          simp only [b_X6_sheet_31, w_iconst_m1, w_ireti, kd_46, kd_47, kd_48, kd_49, kd_50, kd_51, kd_52, kd_53, kd_54, kd_55, kd_56, kd_57, kd_58, kd_59, ln_47, ln_48, ln_49, ln_50, ln_51, ln_52, ln_53, ln_54, ln_55, ln_56, ln_57, ln_58, ln_59, Option.toList_some, Option.toList_none, List.cons_append, List.nil_append, true_and, and_true, if_true, if_false, true_or, or_true, Nat.reduceAdd, Int.reduceAdd, Bool.false_eq_true, tn_0, tn_1, tn_2, tn_3, tn_4, tn_5, tn_6, tn_7]
          exact ⟨rfl, rfl⟩
theorem msheet_b (t sort v : Int32) (M : Mm) (h : ((0 ≤ t ∧ t ≤ 3) ∧ (-1 ≤ sort ∧ sort ≤ 3) ∧ ¬ (0 ≤ sort ∧ 40 < v))) (h2 : 0 ≤ sort ∧ v < 0) : K 2 mX6_sheet [.ref 46, .int t, .int sort, .int v] M (Rt (some (.int (-14))) M) := by
  refine K_go 3 o_X6_sheet [none] rfl (Nat.le_of_ble_eq_true rfl) ?_
  simp only [lvA_i, lvA_a, lvA_l, lvA_nil, List.cons_append, List.nil_append]
  refine J_blk a_X6_sheet_0 ?_
  simp only [b_X6_sheet_0, w_iload_n1, w_nil, kd_46, kd_47, kd_48, kd_49, kd_50, kd_51, kd_52, kd_53, kd_54, kd_55, kd_56, kd_57, kd_58, kd_59, ln_47, ln_48, ln_49, ln_50, ln_51, ln_52, ln_53, ln_54, ln_55, ln_56, ln_57, ln_58, ln_59, Option.toList_some, Option.toList_none, List.cons_append, List.nil_append, true_and, and_true, if_true, if_false, true_or, or_true, Nat.reduceAdd, Int.reduceAdd, Bool.false_eq_true, tn_0, tn_1, tn_2, tn_3, tn_4, tn_5, tn_6, tn_7]
  refine J_callSr (isSheet_ok _ _) k_X6_sheet_1 o_X6_isSheet rfl (by decide) rfl (Nat.le_of_ble_eq_true rfl) ?_
  refine J_blk a_X6_sheet_4 ?_
  simp only [b_X6_sheet_4, w_if_eq, w_nil, kd_46, kd_47, kd_48, kd_49, kd_50, kd_51, kd_52, kd_53, kd_54, kd_55, kd_56, kd_57, kd_58, kd_59, ln_47, ln_48, ln_49, ln_50, ln_51, ln_52, ln_53, ln_54, ln_55, ln_56, ln_57, ln_58, ln_59, Option.toList_some, Option.toList_none, List.cons_append, List.nil_append, true_and, and_true, if_true, if_false, true_or, or_true, Nat.reduceAdd, Int.reduceAdd, Bool.false_eq_true, tn_0, tn_1, tn_2, tn_3, tn_4, tn_5, tn_6, tn_7]
  refine ⟨fun c5 => ?_, fun c5 => ?_⟩
  · exact absurd h (by grind)
  · refine J_blk a_X6_sheet_7 ?_
    simp only [b_X6_sheet_7, w_iload_n2, w_i2l, w_ldc2, cl_m1, cl_3, w_nil, kd_46, kd_47, kd_48, kd_49, kd_50, kd_51, kd_52, kd_53, kd_54, kd_55, kd_56, kd_57, kd_58, kd_59, ln_47, ln_48, ln_49, ln_50, ln_51, ln_52, ln_53, ln_54, ln_55, ln_56, ln_57, ln_58, ln_59, Option.toList_some, Option.toList_none, List.cons_append, List.nil_append, true_and, and_true, if_true, if_false, true_or, or_true, Nat.reduceAdd, Int.reduceAdd, Bool.false_eq_true, tn_0, tn_1, tn_2, tn_3, tn_4, tn_5, tn_6, tn_7]
    refine J_callSr (isIn_ok _ _ _ _) k_X6_sheet_15 o_X6_isIn rfl (by decide) rfl (Nat.le_of_ble_eq_true rfl) ?_
    simp only [l_le_1, l_le_2, l_le_3, l_le_5, l_le_7, l_le_8, l_le_9, l_le_10, l_le_13, l_le_20, l_le_30, l_le_60, l_le_99, l_le_9999, l_ge_0, l_ge_1, l_ge_6, l_ge_m1, i64_le]
    refine J_blk a_X6_sheet_18 ?_
    simp only [b_X6_sheet_18, w_if_eq, w_nil, kd_46, kd_47, kd_48, kd_49, kd_50, kd_51, kd_52, kd_53, kd_54, kd_55, kd_56, kd_57, kd_58, kd_59, ln_47, ln_48, ln_49, ln_50, ln_51, ln_52, ln_53, ln_54, ln_55, ln_56, ln_57, ln_58, ln_59, Option.toList_some, Option.toList_none, List.cons_append, List.nil_append, true_and, and_true, if_true, if_false, true_or, or_true, Nat.reduceAdd, Int.reduceAdd, Bool.false_eq_true, tn_0, tn_1, tn_2, tn_3, tn_4, tn_5, tn_6, tn_7]
    refine ⟨fun c6 => ?_, fun c6 => ?_⟩
    · exact absurd h (by grind)
    · refine J_blk a_X6_sheet_21 ?_
      simp only [b_X6_sheet_21, w_iload_n2, w_if_lt, w_nil, kd_46, kd_47, kd_48, kd_49, kd_50, kd_51, kd_52, kd_53, kd_54, kd_55, kd_56, kd_57, kd_58, kd_59, ln_47, ln_48, ln_49, ln_50, ln_51, ln_52, ln_53, ln_54, ln_55, ln_56, ln_57, ln_58, ln_59, Option.toList_some, Option.toList_none, List.cons_append, List.nil_append, true_and, and_true, if_true, if_false, true_or, or_true, Nat.reduceAdd, Int.reduceAdd, Bool.false_eq_true, tn_0, tn_1, tn_2, tn_3, tn_4, tn_5, tn_6, tn_7]
      refine ⟨fun c7 => ?_, fun c7 => ?_⟩
      · refine J_blk a_X6_sheet_33 ?_
        simp only [b_X6_sheet_33, w_iload_n2, w_if_lt, w_nil, kd_46, kd_47, kd_48, kd_49, kd_50, kd_51, kd_52, kd_53, kd_54, kd_55, kd_56, kd_57, kd_58, kd_59, ln_47, ln_48, ln_49, ln_50, ln_51, ln_52, ln_53, ln_54, ln_55, ln_56, ln_57, ln_58, ln_59, Option.toList_some, Option.toList_none, List.cons_append, List.nil_append, true_and, and_true, if_true, if_false, true_or, or_true, Nat.reduceAdd, Int.reduceAdd, Bool.false_eq_true, tn_0, tn_1, tn_2, tn_3, tn_4, tn_5, tn_6, tn_7]
        refine ⟨fun c8 => ?_, fun c8 => ?_⟩
        · exact absurd h2 (by grind)
        · refine J_blk a_X6_sheet_37 ?_
          simp only [b_X6_sheet_37, w_iload_n3, w_if_ge, w_nil, kd_46, kd_47, kd_48, kd_49, kd_50, kd_51, kd_52, kd_53, kd_54, kd_55, kd_56, kd_57, kd_58, kd_59, ln_47, ln_48, ln_49, ln_50, ln_51, ln_52, ln_53, ln_54, ln_55, ln_56, ln_57, ln_58, ln_59, Option.toList_some, Option.toList_none, List.cons_append, List.nil_append, true_and, and_true, if_true, if_false, true_or, or_true, Nat.reduceAdd, Int.reduceAdd, Bool.false_eq_true, tn_0, tn_1, tn_2, tn_3, tn_4, tn_5, tn_6, tn_7]
          refine ⟨fun c9 => ?_, fun c9 => ?_⟩
          · exact absurd h2 (by grind)
          · refine J_blk a_X6_sheet_41 ?_
            simp only [b_X6_sheet_41, w_bipush, ci_m14, w_ireti, kd_46, kd_47, kd_48, kd_49, kd_50, kd_51, kd_52, kd_53, kd_54, kd_55, kd_56, kd_57, kd_58, kd_59, ln_47, ln_48, ln_49, ln_50, ln_51, ln_52, ln_53, ln_54, ln_55, ln_56, ln_57, ln_58, ln_59, Option.toList_some, Option.toList_none, List.cons_append, List.nil_append, true_and, and_true, if_true, if_false, true_or, or_true, Nat.reduceAdd, Int.reduceAdd, Bool.false_eq_true, tn_0, tn_1, tn_2, tn_3, tn_4, tn_5, tn_6, tn_7]
            exact ⟨rfl, rfl⟩
      · refine J_blk a_X6_sheet_25 ?_
        simp only [b_X6_sheet_25, w_iload_n3, w_bipush, ci_40, w_icmp_le, w_nil, kd_46, kd_47, kd_48, kd_49, kd_50, kd_51, kd_52, kd_53, kd_54, kd_55, kd_56, kd_57, kd_58, kd_59, ln_47, ln_48, ln_49, ln_50, ln_51, ln_52, ln_53, ln_54, ln_55, ln_56, ln_57, ln_58, ln_59, Option.toList_some, Option.toList_none, List.cons_append, List.nil_append, true_and, and_true, if_true, if_false, true_or, or_true, Nat.reduceAdd, Int.reduceAdd, Bool.false_eq_true, tn_0, tn_1, tn_2, tn_3, tn_4, tn_5, tn_6, tn_7]
        refine ⟨fun c10 => ?_, fun c10 => ?_⟩
        · refine J_blk a_X6_sheet_33 ?_
          simp only [b_X6_sheet_33, w_iload_n2, w_if_lt, w_nil, kd_46, kd_47, kd_48, kd_49, kd_50, kd_51, kd_52, kd_53, kd_54, kd_55, kd_56, kd_57, kd_58, kd_59, ln_47, ln_48, ln_49, ln_50, ln_51, ln_52, ln_53, ln_54, ln_55, ln_56, ln_57, ln_58, ln_59, Option.toList_some, Option.toList_none, List.cons_append, List.nil_append, true_and, and_true, if_true, if_false, true_or, or_true, Nat.reduceAdd, Int.reduceAdd, Bool.false_eq_true, tn_0, tn_1, tn_2, tn_3, tn_4, tn_5, tn_6, tn_7]
          refine ⟨fun c11 => ?_, fun c11 => ?_⟩
          · exact absurd h2 (by grind)
          · refine J_blk a_X6_sheet_37 ?_
            simp only [b_X6_sheet_37, w_iload_n3, w_if_ge, w_nil, kd_46, kd_47, kd_48, kd_49, kd_50, kd_51, kd_52, kd_53, kd_54, kd_55, kd_56, kd_57, kd_58, kd_59, ln_47, ln_48, ln_49, ln_50, ln_51, ln_52, ln_53, ln_54, ln_55, ln_56, ln_57, ln_58, ln_59, Option.toList_some, Option.toList_none, List.cons_append, List.nil_append, true_and, and_true, if_true, if_false, true_or, or_true, Nat.reduceAdd, Int.reduceAdd, Bool.false_eq_true, tn_0, tn_1, tn_2, tn_3, tn_4, tn_5, tn_6, tn_7]
            refine ⟨fun c12 => ?_, fun c12 => ?_⟩
            · exact absurd h2 (by grind)
            · refine J_blk a_X6_sheet_41 ?_
              simp only [b_X6_sheet_41, w_bipush, ci_m14, w_ireti, kd_46, kd_47, kd_48, kd_49, kd_50, kd_51, kd_52, kd_53, kd_54, kd_55, kd_56, kd_57, kd_58, kd_59, ln_47, ln_48, ln_49, ln_50, ln_51, ln_52, ln_53, ln_54, ln_55, ln_56, ln_57, ln_58, ln_59, Option.toList_some, Option.toList_none, List.cons_append, List.nil_append, true_and, and_true, if_true, if_false, true_or, or_true, Nat.reduceAdd, Int.reduceAdd, Bool.false_eq_true, tn_0, tn_1, tn_2, tn_3, tn_4, tn_5, tn_6, tn_7]
              exact ⟨rfl, rfl⟩
        · exact absurd h (by grind)
def zR (f : Nat → Int32) (b k : Nat) : Nat → Int32 := fun j => if b ≤ j ∧ j < b + k then 0 else f j
theorem zR_0 (f : Nat → Int32) (b : Nat) : zR f b 0 = f := by funext j; unfold zR; rw [if_neg (by omega)]
theorem zR_step (f : Nat → Int32) (b k : Nat) : upd (zR f b k) (b + k) 0 = zR f b (k + 1) := by
  funext j
  unfold zR
  simp only [upd]
  by_cases e : j = b + k
  · subst e; simp
  · rw [if_neg e]
    by_cases h : b ≤ j ∧ j < b + k
    · rw [if_pos h, if_pos (by omega)]
    · rw [if_neg h, if_neg (by omega)]
def shM (M : Mm) (t : Nat) (sort v : Int32) : Mm := su (su M 53 (upd (M.1 53) t sort)) 54 (upd (M.1 54) t (if sort < 0 then 0 else v))
theorem msheet_t (t : Nat) (sort v : Int32) (M : Mm) (ht : t < 4) (h : (-1 ≤ sort ∧ sort ≤ 3) ∧ ¬ (0 ≤ sort ∧ 40 < v)) (h2 : ¬ (0 ≤ sort ∧ v < 0)) : K 2 mX6_sheet [.ref 46, .int (nI t), .int sort, .int v] M (Rt (some (.int 1)) (su (shM M t sort v) 55 (zR (M.1 55) (40 * t) 40))) := by
  have h1 : 0 ≤ nI t ∧ nI t ≤ 3 := ok2 (m := 3) (by omega) (by decide)
  have tt : (nI t).toNatClampNeg = t := nI_clamp (by omega)
  have e40 : (40 : Int32) * nI t = nI (40 * t) := pk_mul 40 t
  have sh55 : (shM M t sort v).1 55 = M.1 55 := by unfold shM; rw [su_ne _ _ _ _ (by decide), su_ne _ _ _ _ (by decide)]
  have loop : ∀ k, k ≤ 40 → J 2 mX6_sheet 69 [some (.ref 46), some (.int (nI t)), some (.int sort), some (.int v), some (.int (nI k))] [] (su (shM M t sort v) 55 (zR (M.1 55) (40 * t) k)) (Rt (some (.int 1)) (su (shM M t sort v) 55 (zR (M.1 55) (40 * t) 40))) := by
    refine down 40 ?_ ?_
    · refine J_blk a_X6_sheet_69 ?_
      simp only [b_X6_sheet_69, w_iload4, w_bipush, ci_40, w_icmp_ge, w_nil, kd_46, kd_47, kd_48, kd_49, kd_50, kd_51, kd_52, kd_53, kd_54, kd_55, kd_56, kd_57, kd_58, kd_59, ln_47, ln_48, ln_49, ln_50, ln_51, ln_52, ln_53, ln_54, ln_55, ln_56, ln_57, ln_58, ln_59, Option.toList_some, Option.toList_none, List.cons_append, List.nil_append, true_and, and_true, if_true, if_false, true_or, or_true, Nat.reduceAdd, Int.reduceAdd, Bool.false_eq_true, tn_0, tn_1, tn_2, tn_3, tn_4, tn_5, tn_6, tn_7]
      refine ⟨fun _ => ?_, fun h => absurd (show (40 : Int32) ≤ nI 40 by decide) h⟩
      refine J_blk a_X6_sheet_95 ?_
      simp only [b_X6_sheet_95, w_iconst_1, w_ireti, kd_46, kd_47, kd_48, kd_49, kd_50, kd_51, kd_52, kd_53, kd_54, kd_55, kd_56, kd_57, kd_58, kd_59, ln_47, ln_48, ln_49, ln_50, ln_51, ln_52, ln_53, ln_54, ln_55, ln_56, ln_57, ln_58, ln_59, Option.toList_some, Option.toList_none, List.cons_append, List.nil_append, true_and, and_true, if_true, if_false, true_or, or_true, Nat.reduceAdd, Int.reduceAdd, Bool.false_eq_true, tn_0, tn_1, tn_2, tn_3, tn_4, tn_5, tn_6, tn_7]
      first | exact ⟨rfl, rfl⟩ | (simp_all [Rt])
    · intro k hk ih
      have tk : (nI (40 * t + k)).toNatClampNeg = 40 * t + k := nI_clamp (by omega)
      refine J_blk a_X6_sheet_69 ?_
      simp only [b_X6_sheet_69, w_iload4, w_bipush, ci_40, w_icmp_ge, w_nil, kd_46, kd_47, kd_48, kd_49, kd_50, kd_51, kd_52, kd_53, kd_54, kd_55, kd_56, kd_57, kd_58, kd_59, ln_47, ln_48, ln_49, ln_50, ln_51, ln_52, ln_53, ln_54, ln_55, ln_56, ln_57, ln_58, ln_59, Option.toList_some, Option.toList_none, List.cons_append, List.nil_append, true_and, and_true, if_true, if_false, true_or, or_true, Nat.reduceAdd, Int.reduceAdd, Bool.false_eq_true, tn_0, tn_1, tn_2, tn_3, tn_4, tn_5, tn_6, tn_7]
      refine ⟨fun h => absurd h (nI_ge (b := 40) hk (by decide)), fun _ => ?_⟩
      refine J_blk a_X6_sheet_76 ?_
      simp only [b_X6_sheet_76, w_aload_n0, w_getf6, ne0_9, w_bipush, ci_40, w_iload_n1, w_imul, w_iload4, w_iadd, w_iconst_0, w_iast, w_iinc4, nl_4n, nl_4i, nl_4a, ci_1, w_goto, kd_46, kd_47, kd_48, kd_49, kd_50, kd_51, kd_52, kd_53, kd_54, kd_55, kd_56, kd_57, kd_58, kd_59, ln_47, ln_48, ln_49, ln_50, ln_51, ln_52, ln_53, ln_54, ln_55, ln_56, ln_57, ln_58, ln_59, Option.toList_some, Option.toList_none, List.cons_append, List.nil_append, true_and, and_true, if_true, if_false, true_or, or_true, Nat.reduceAdd, Int.reduceAdd, Bool.false_eq_true, tn_0, tn_1, tn_2, tn_3, tn_4, tn_5, tn_6, tn_7, e40, nI_add, tk, u1_su, zR_step, nI_1]
      exact ⟨vinN (by omega) (by decide), ih⟩
  have l0 := loop 0 (by omega)
  rw [zR_0, ← sh55, su_self, sh55] at l0
  have fin : ∀ w, w = (if sort < 0 then 0 else v) → J 2 mX6_sheet 65 [some (.ref 46), some (.int (nI t)), some (.int sort), some (.int v), none] [.int w, .int (nI t), .ref 54] (u1 M 53 t sort) (Rt (some (.int 1)) (su (shM M t sort v) 55 (zR (M.1 55) (40 * t) 40))) := by
    intro w hw
    refine J_blk a_X6_sheet_65 ?_
    simp only [b_X6_sheet_65, w_iast, w_iconst_0, w_istore4, nl_4n, nl_4i, nl_4a, w_nil, kd_46, kd_47, kd_48, kd_49, kd_50, kd_51, kd_52, kd_53, kd_54, kd_55, kd_56, kd_57, kd_58, kd_59, ln_47, ln_48, ln_49, ln_50, ln_51, ln_52, ln_53, ln_54, ln_55, ln_56, ln_57, ln_58, ln_59, Option.toList_some, Option.toList_none, List.cons_append, List.nil_append, true_and, and_true, if_true, if_false, true_or, or_true, Nat.reduceAdd, Int.reduceAdd, Bool.false_eq_true, tn_0, tn_1, tn_2, tn_3, tn_4, tn_5, tn_6, tn_7, tt]
    refine ⟨vinN ht (by decide), ?_⟩
    rw [u1_row M, u1_row, su_ne _ _ _ _ (show (54 : Nat) ≠ 53 by decide), hw]
    exact l0
  have go : J 2 mX6_sheet 44 [some (.ref 46), some (.int (nI t)), some (.int sort), some (.int v), none] [] M (Rt (some (.int 1)) (su (shM M t sort v) 55 (zR (M.1 55) (40 * t) 40))) := by
    refine J_blk a_X6_sheet_44 ?_
    simp only [b_X6_sheet_44, w_aload_n0, w_getf6, ne0_7, w_iload_n1, w_iload_n2, w_iast, ne0_8, w_if_ge, w_nil, kd_46, kd_47, kd_48, kd_49, kd_50, kd_51, kd_52, kd_53, kd_54, kd_55, kd_56, kd_57, kd_58, kd_59, ln_47, ln_48, ln_49, ln_50, ln_51, ln_52, ln_53, ln_54, ln_55, ln_56, ln_57, ln_58, ln_59, Option.toList_some, Option.toList_none, List.cons_append, List.nil_append, true_and, and_true, if_true, if_false, true_or, or_true, Nat.reduceAdd, Int.reduceAdd, Bool.false_eq_true, tn_0, tn_1, tn_2, tn_3, tn_4, tn_5, tn_6, tn_7, tt]
    refine ⟨vinN ht (by decide), fun c => ?_, fun c => ?_⟩
    · refine J_blk a_X6_sheet_64 ?_
      simp only [b_X6_sheet_64, w_iload_n3, w_nil, kd_46, kd_47, kd_48, kd_49, kd_50, kd_51, kd_52, kd_53, kd_54, kd_55, kd_56, kd_57, kd_58, kd_59, ln_47, ln_48, ln_49, ln_50, ln_51, ln_52, ln_53, ln_54, ln_55, ln_56, ln_57, ln_58, ln_59, Option.toList_some, Option.toList_none, List.cons_append, List.nil_append, true_and, and_true, if_true, if_false, true_or, or_true, Nat.reduceAdd, Int.reduceAdd, Bool.false_eq_true, tn_0, tn_1, tn_2, tn_3, tn_4, tn_5, tn_6, tn_7]
      exact fin _ (by rw [if_neg (Int32.not_lt.mpr c)])
    · refine J_blk a_X6_sheet_60 ?_
      simp only [b_X6_sheet_60, w_iconst_0, w_goto, kd_46, kd_47, kd_48, kd_49, kd_50, kd_51, kd_52, kd_53, kd_54, kd_55, kd_56, kd_57, kd_58, kd_59, ln_47, ln_48, ln_49, ln_50, ln_51, ln_52, ln_53, ln_54, ln_55, ln_56, ln_57, ln_58, ln_59, Option.toList_some, Option.toList_none, List.cons_append, List.nil_append, true_and, and_true, if_true, if_false, true_or, or_true, Nat.reduceAdd, Int.reduceAdd, Bool.false_eq_true, tn_0, tn_1, tn_2, tn_3, tn_4, tn_5, tn_6, tn_7]
      exact fin _ (by rw [if_pos (Int32.not_le.mp c)])
  refine K_go 3 o_X6_sheet [none] rfl (Nat.le_of_ble_eq_true rfl) ?_
  simp only [lvA_i, lvA_a, lvA_l, lvA_nil, List.cons_append, List.nil_append]
  refine J_blk a_X6_sheet_0 ?_
  simp only [b_X6_sheet_0, w_iload_n1, w_nil, kd_46, kd_47, kd_48, kd_49, kd_50, kd_51, kd_52, kd_53, kd_54, kd_55, kd_56, kd_57, kd_58, kd_59, ln_47, ln_48, ln_49, ln_50, ln_51, ln_52, ln_53, ln_54, ln_55, ln_56, ln_57, ln_58, ln_59, Option.toList_some, Option.toList_none, List.cons_append, List.nil_append, true_and, and_true, if_true, if_false, true_or, or_true, Nat.reduceAdd, Int.reduceAdd, Bool.false_eq_true, tn_0, tn_1, tn_2, tn_3, tn_4, tn_5, tn_6, tn_7]
  refine J_callSr (isSheet_ok _ _) k_X6_sheet_1 o_X6_isSheet rfl (by decide) rfl (Nat.le_of_ble_eq_true rfl) ?_
  refine J_blk a_X6_sheet_4 ?_
  simp only [b_X6_sheet_4, w_if_eq, w_nil, kd_46, kd_47, kd_48, kd_49, kd_50, kd_51, kd_52, kd_53, kd_54, kd_55, kd_56, kd_57, kd_58, kd_59, ln_47, ln_48, ln_49, ln_50, ln_51, ln_52, ln_53, ln_54, ln_55, ln_56, ln_57, ln_58, ln_59, Option.toList_some, Option.toList_none, List.cons_append, List.nil_append, true_and, and_true, if_true, if_false, true_or, or_true, Nat.reduceAdd, Int.reduceAdd, Bool.false_eq_true, tn_0, tn_1, tn_2, tn_3, tn_4, tn_5, tn_6, tn_7]
  refine ⟨fun c13 => ?_, fun c13 => ?_⟩
  · exact absurd h (by grind)
  · refine J_blk a_X6_sheet_7 ?_
    simp only [b_X6_sheet_7, w_iload_n2, w_i2l, w_ldc2, cl_m1, cl_3, w_nil, kd_46, kd_47, kd_48, kd_49, kd_50, kd_51, kd_52, kd_53, kd_54, kd_55, kd_56, kd_57, kd_58, kd_59, ln_47, ln_48, ln_49, ln_50, ln_51, ln_52, ln_53, ln_54, ln_55, ln_56, ln_57, ln_58, ln_59, Option.toList_some, Option.toList_none, List.cons_append, List.nil_append, true_and, and_true, if_true, if_false, true_or, or_true, Nat.reduceAdd, Int.reduceAdd, Bool.false_eq_true, tn_0, tn_1, tn_2, tn_3, tn_4, tn_5, tn_6, tn_7]
    refine J_callSr (isIn_ok _ _ _ _) k_X6_sheet_15 o_X6_isIn rfl (by decide) rfl (Nat.le_of_ble_eq_true rfl) ?_
    simp only [l_le_1, l_le_2, l_le_3, l_le_5, l_le_7, l_le_8, l_le_9, l_le_10, l_le_13, l_le_20, l_le_30, l_le_60, l_le_99, l_le_9999, l_ge_0, l_ge_1, l_ge_6, l_ge_m1, i64_le]
    refine J_blk a_X6_sheet_18 ?_
    simp only [b_X6_sheet_18, w_if_eq, w_nil, kd_46, kd_47, kd_48, kd_49, kd_50, kd_51, kd_52, kd_53, kd_54, kd_55, kd_56, kd_57, kd_58, kd_59, ln_47, ln_48, ln_49, ln_50, ln_51, ln_52, ln_53, ln_54, ln_55, ln_56, ln_57, ln_58, ln_59, Option.toList_some, Option.toList_none, List.cons_append, List.nil_append, true_and, and_true, if_true, if_false, true_or, or_true, Nat.reduceAdd, Int.reduceAdd, Bool.false_eq_true, tn_0, tn_1, tn_2, tn_3, tn_4, tn_5, tn_6, tn_7]
    refine ⟨fun c14 => ?_, fun c14 => ?_⟩
    · exact absurd h (by grind)
    · refine J_blk a_X6_sheet_21 ?_
      simp only [b_X6_sheet_21, w_iload_n2, w_if_lt, w_nil, kd_46, kd_47, kd_48, kd_49, kd_50, kd_51, kd_52, kd_53, kd_54, kd_55, kd_56, kd_57, kd_58, kd_59, ln_47, ln_48, ln_49, ln_50, ln_51, ln_52, ln_53, ln_54, ln_55, ln_56, ln_57, ln_58, ln_59, Option.toList_some, Option.toList_none, List.cons_append, List.nil_append, true_and, and_true, if_true, if_false, true_or, or_true, Nat.reduceAdd, Int.reduceAdd, Bool.false_eq_true, tn_0, tn_1, tn_2, tn_3, tn_4, tn_5, tn_6, tn_7]
      refine ⟨fun c15 => ?_, fun c15 => ?_⟩
      · refine J_blk a_X6_sheet_33 ?_
        simp only [b_X6_sheet_33, w_iload_n2, w_if_lt, w_nil, kd_46, kd_47, kd_48, kd_49, kd_50, kd_51, kd_52, kd_53, kd_54, kd_55, kd_56, kd_57, kd_58, kd_59, ln_47, ln_48, ln_49, ln_50, ln_51, ln_52, ln_53, ln_54, ln_55, ln_56, ln_57, ln_58, ln_59, Option.toList_some, Option.toList_none, List.cons_append, List.nil_append, true_and, and_true, if_true, if_false, true_or, or_true, Nat.reduceAdd, Int.reduceAdd, Bool.false_eq_true, tn_0, tn_1, tn_2, tn_3, tn_4, tn_5, tn_6, tn_7]
        refine ⟨fun c16 => ?_, fun c16 => ?_⟩
        · exact go
        · refine J_blk a_X6_sheet_37 ?_
          simp only [b_X6_sheet_37, w_iload_n3, w_if_ge, w_nil, kd_46, kd_47, kd_48, kd_49, kd_50, kd_51, kd_52, kd_53, kd_54, kd_55, kd_56, kd_57, kd_58, kd_59, ln_47, ln_48, ln_49, ln_50, ln_51, ln_52, ln_53, ln_54, ln_55, ln_56, ln_57, ln_58, ln_59, Option.toList_some, Option.toList_none, List.cons_append, List.nil_append, true_and, and_true, if_true, if_false, true_or, or_true, Nat.reduceAdd, Int.reduceAdd, Bool.false_eq_true, tn_0, tn_1, tn_2, tn_3, tn_4, tn_5, tn_6, tn_7]
          refine ⟨fun c17 => ?_, fun c17 => ?_⟩
          · exact go
          · exact absurd h2 (by grind)
      · refine J_blk a_X6_sheet_25 ?_
        simp only [b_X6_sheet_25, w_iload_n3, w_bipush, ci_40, w_icmp_le, w_nil, kd_46, kd_47, kd_48, kd_49, kd_50, kd_51, kd_52, kd_53, kd_54, kd_55, kd_56, kd_57, kd_58, kd_59, ln_47, ln_48, ln_49, ln_50, ln_51, ln_52, ln_53, ln_54, ln_55, ln_56, ln_57, ln_58, ln_59, Option.toList_some, Option.toList_none, List.cons_append, List.nil_append, true_and, and_true, if_true, if_false, true_or, or_true, Nat.reduceAdd, Int.reduceAdd, Bool.false_eq_true, tn_0, tn_1, tn_2, tn_3, tn_4, tn_5, tn_6, tn_7]
        refine ⟨fun c18 => ?_, fun c18 => ?_⟩
        · refine J_blk a_X6_sheet_33 ?_
          simp only [b_X6_sheet_33, w_iload_n2, w_if_lt, w_nil, kd_46, kd_47, kd_48, kd_49, kd_50, kd_51, kd_52, kd_53, kd_54, kd_55, kd_56, kd_57, kd_58, kd_59, ln_47, ln_48, ln_49, ln_50, ln_51, ln_52, ln_53, ln_54, ln_55, ln_56, ln_57, ln_58, ln_59, Option.toList_some, Option.toList_none, List.cons_append, List.nil_append, true_and, and_true, if_true, if_false, true_or, or_true, Nat.reduceAdd, Int.reduceAdd, Bool.false_eq_true, tn_0, tn_1, tn_2, tn_3, tn_4, tn_5, tn_6, tn_7]
          refine ⟨fun c19 => ?_, fun c19 => ?_⟩
          · exact go
          · refine J_blk a_X6_sheet_37 ?_
            simp only [b_X6_sheet_37, w_iload_n3, w_if_ge, w_nil, kd_46, kd_47, kd_48, kd_49, kd_50, kd_51, kd_52, kd_53, kd_54, kd_55, kd_56, kd_57, kd_58, kd_59, ln_47, ln_48, ln_49, ln_50, ln_51, ln_52, ln_53, ln_54, ln_55, ln_56, ln_57, ln_58, ln_59, Option.toList_some, Option.toList_none, List.cons_append, List.nil_append, true_and, and_true, if_true, if_false, true_or, or_true, Nat.reduceAdd, Int.reduceAdd, Bool.false_eq_true, tn_0, tn_1, tn_2, tn_3, tn_4, tn_5, tn_6, tn_7]
            refine ⟨fun c20 => ?_, fun c20 => ?_⟩
            · exact go
            · exact absurd h2 (by grind)
        · exact absurd h (by grind)
theorem mput_f (t i v : Int32) (M : Mm) (h : ¬ (0 ≤ t ∧ t ≤ 3)) : K 2 mX6_put [.ref 46, .int t, .int i, .int v] M (Rt (some (.int (-1))) M) := by
  refine K_go 3 o_X6_put [] rfl (Nat.le_of_ble_eq_true rfl) ?_
  simp only [lvA_i, lvA_a, lvA_l, lvA_nil, List.cons_append, List.nil_append]
  refine J_blk a_X6_put_0 ?_
  simp only [b_X6_put_0, w_iload_n1, w_nil, kd_46, kd_47, kd_48, kd_49, kd_50, kd_51, kd_52, kd_53, kd_54, kd_55, kd_56, kd_57, kd_58, kd_59, ln_47, ln_48, ln_49, ln_50, ln_51, ln_52, ln_53, ln_54, ln_55, ln_56, ln_57, ln_58, ln_59, Option.toList_some, Option.toList_none, List.cons_append, List.nil_append, true_and, and_true, if_true, if_false, true_or, or_true, Nat.reduceAdd, Int.reduceAdd, Bool.false_eq_true, tn_0, tn_1, tn_2, tn_3, tn_4, tn_5, tn_6, tn_7]
  refine J_callSr (isSheet_ok _ _) k_X6_put_1 o_X6_isSheet rfl (by decide) rfl (Nat.le_of_ble_eq_true rfl) ?_
  refine J_blk a_X6_put_4 ?_
  simp only [b_X6_put_4, w_if_ne, w_nil, kd_46, kd_47, kd_48, kd_49, kd_50, kd_51, kd_52, kd_53, kd_54, kd_55, kd_56, kd_57, kd_58, kd_59, ln_47, ln_48, ln_49, ln_50, ln_51, ln_52, ln_53, ln_54, ln_55, ln_56, ln_57, ln_58, ln_59, Option.toList_some, Option.toList_none, List.cons_append, List.nil_append, true_and, and_true, if_true, if_false, true_or, or_true, Nat.reduceAdd, Int.reduceAdd, Bool.false_eq_true, tn_0, tn_1, tn_2, tn_3, tn_4, tn_5, tn_6, tn_7]
  refine ⟨fun c21 => ?_, fun c21 => ?_⟩
  · exact absurd (by grind) h
  · refine J_blk a_X6_put_7 ?_
    simp only [b_X6_put_7, w_iconst_m1, w_ireti, kd_46, kd_47, kd_48, kd_49, kd_50, kd_51, kd_52, kd_53, kd_54, kd_55, kd_56, kd_57, kd_58, kd_59, ln_47, ln_48, ln_49, ln_50, ln_51, ln_52, ln_53, ln_54, ln_55, ln_56, ln_57, ln_58, ln_59, Option.toList_some, Option.toList_none, List.cons_append, List.nil_append, true_and, and_true, if_true, if_false, true_or, or_true, Nat.reduceAdd, Int.reduceAdd, Bool.false_eq_true, tn_0, tn_1, tn_2, tn_3, tn_4, tn_5, tn_6, tn_7]
    exact ⟨rfl, rfl⟩
theorem mput_n (t : Nat) (i v : Int32) (M : Mm) (ht : t < 4) (h : M.1 53 t < 0) : K 2 mX6_put [.ref 46, .int (nI t), .int i, .int v] M (Rt (some (.int (-11))) M) := by
  have h1 : 0 ≤ nI t ∧ nI t ≤ 3 := ok2 (m := 3) (by omega) (by decide)
  have tt : (nI t).toNatClampNeg = t := nI_clamp (by omega)
  refine K_go 3 o_X6_put [] rfl (Nat.le_of_ble_eq_true rfl) ?_
  simp only [lvA_i, lvA_a, lvA_l, lvA_nil, List.cons_append, List.nil_append]
  refine J_blk a_X6_put_0 ?_
  simp only [b_X6_put_0, w_iload_n1, w_nil, kd_46, kd_47, kd_48, kd_49, kd_50, kd_51, kd_52, kd_53, kd_54, kd_55, kd_56, kd_57, kd_58, kd_59, ln_47, ln_48, ln_49, ln_50, ln_51, ln_52, ln_53, ln_54, ln_55, ln_56, ln_57, ln_58, ln_59, Option.toList_some, Option.toList_none, List.cons_append, List.nil_append, true_and, and_true, if_true, if_false, true_or, or_true, Nat.reduceAdd, Int.reduceAdd, Bool.false_eq_true, tn_0, tn_1, tn_2, tn_3, tn_4, tn_5, tn_6, tn_7, tt]
  refine J_callSr (isSheet_ok _ _) k_X6_put_1 o_X6_isSheet rfl (by decide) rfl (Nat.le_of_ble_eq_true rfl) ?_
  refine J_blk a_X6_put_4 ?_
  simp only [b_X6_put_4, w_if_ne, w_nil, kd_46, kd_47, kd_48, kd_49, kd_50, kd_51, kd_52, kd_53, kd_54, kd_55, kd_56, kd_57, kd_58, kd_59, ln_47, ln_48, ln_49, ln_50, ln_51, ln_52, ln_53, ln_54, ln_55, ln_56, ln_57, ln_58, ln_59, Option.toList_some, Option.toList_none, List.cons_append, List.nil_append, true_and, and_true, if_true, if_false, true_or, or_true, Nat.reduceAdd, Int.reduceAdd, Bool.false_eq_true, tn_0, tn_1, tn_2, tn_3, tn_4, tn_5, tn_6, tn_7, tt]
  refine ⟨fun c22 => ?_, fun c22 => ?_⟩
  · refine J_blk a_X6_put_9 ?_
    simp only [b_X6_put_9, w_aload_n0, w_getf6, ne0_7, w_iload_n1, w_iald, w_if_ge, w_nil, kd_46, kd_47, kd_48, kd_49, kd_50, kd_51, kd_52, kd_53, kd_54, kd_55, kd_56, kd_57, kd_58, kd_59, ln_47, ln_48, ln_49, ln_50, ln_51, ln_52, ln_53, ln_54, ln_55, ln_56, ln_57, ln_58, ln_59, Option.toList_some, Option.toList_none, List.cons_append, List.nil_append, true_and, and_true, if_true, if_false, true_or, or_true, Nat.reduceAdd, Int.reduceAdd, Bool.false_eq_true, tn_0, tn_1, tn_2, tn_3, tn_4, tn_5, tn_6, tn_7, tt]
    refine ⟨(vinN ht (by decide)), ?_⟩
    refine ⟨fun c23 => ?_, fun c23 => ?_⟩
    · exact absurd h (Int32.not_lt.mpr (by assumption))
    · refine J_blk a_X6_put_18 ?_
      simp only [b_X6_put_18, w_bipush, ci_m11, w_ireti, kd_46, kd_47, kd_48, kd_49, kd_50, kd_51, kd_52, kd_53, kd_54, kd_55, kd_56, kd_57, kd_58, kd_59, ln_47, ln_48, ln_49, ln_50, ln_51, ln_52, ln_53, ln_54, ln_55, ln_56, ln_57, ln_58, ln_59, Option.toList_some, Option.toList_none, List.cons_append, List.nil_append, true_and, and_true, if_true, if_false, true_or, or_true, Nat.reduceAdd, Int.reduceAdd, Bool.false_eq_true, tn_0, tn_1, tn_2, tn_3, tn_4, tn_5, tn_6, tn_7, tt]
      exact ⟨rfl, rfl⟩
  · exact absurd h1 (by grind)
theorem mput_o (t : Nat) (i v : Int32) (M : Mm) (ht : t < 4) (h : ¬ M.1 53 t < 0) (h2 : ¬ (0 ≤ i ∧ i ≤ M.1 54 t - 1)) : K 2 mX6_put [.ref 46, .int (nI t), .int i, .int v] M (Rt (some (.int (-12))) M) := by
  have h1 : 0 ≤ nI t ∧ nI t ≤ 3 := ok2 (m := 3) (by omega) (by decide)
  have tt : (nI t).toNatClampNeg = t := nI_clamp (by omega)
  refine K_go 3 o_X6_put [] rfl (Nat.le_of_ble_eq_true rfl) ?_
  simp only [lvA_i, lvA_a, lvA_l, lvA_nil, List.cons_append, List.nil_append]
  refine J_blk a_X6_put_0 ?_
  simp only [b_X6_put_0, w_iload_n1, w_nil, kd_46, kd_47, kd_48, kd_49, kd_50, kd_51, kd_52, kd_53, kd_54, kd_55, kd_56, kd_57, kd_58, kd_59, ln_47, ln_48, ln_49, ln_50, ln_51, ln_52, ln_53, ln_54, ln_55, ln_56, ln_57, ln_58, ln_59, Option.toList_some, Option.toList_none, List.cons_append, List.nil_append, true_and, and_true, if_true, if_false, true_or, or_true, Nat.reduceAdd, Int.reduceAdd, Bool.false_eq_true, tn_0, tn_1, tn_2, tn_3, tn_4, tn_5, tn_6, tn_7, tt]
  refine J_callSr (isSheet_ok _ _) k_X6_put_1 o_X6_isSheet rfl (by decide) rfl (Nat.le_of_ble_eq_true rfl) ?_
  refine J_blk a_X6_put_4 ?_
  simp only [b_X6_put_4, w_if_ne, w_nil, kd_46, kd_47, kd_48, kd_49, kd_50, kd_51, kd_52, kd_53, kd_54, kd_55, kd_56, kd_57, kd_58, kd_59, ln_47, ln_48, ln_49, ln_50, ln_51, ln_52, ln_53, ln_54, ln_55, ln_56, ln_57, ln_58, ln_59, Option.toList_some, Option.toList_none, List.cons_append, List.nil_append, true_and, and_true, if_true, if_false, true_or, or_true, Nat.reduceAdd, Int.reduceAdd, Bool.false_eq_true, tn_0, tn_1, tn_2, tn_3, tn_4, tn_5, tn_6, tn_7, tt]
  refine ⟨fun c24 => ?_, fun c24 => ?_⟩
  · refine J_blk a_X6_put_9 ?_
    simp only [b_X6_put_9, w_aload_n0, w_getf6, ne0_7, w_iload_n1, w_iald, w_if_ge, w_nil, kd_46, kd_47, kd_48, kd_49, kd_50, kd_51, kd_52, kd_53, kd_54, kd_55, kd_56, kd_57, kd_58, kd_59, ln_47, ln_48, ln_49, ln_50, ln_51, ln_52, ln_53, ln_54, ln_55, ln_56, ln_57, ln_58, ln_59, Option.toList_some, Option.toList_none, List.cons_append, List.nil_append, true_and, and_true, if_true, if_false, true_or, or_true, Nat.reduceAdd, Int.reduceAdd, Bool.false_eq_true, tn_0, tn_1, tn_2, tn_3, tn_4, tn_5, tn_6, tn_7, tt]
    refine ⟨(vinN ht (by decide)), ?_⟩
    refine ⟨fun c25 => ?_, fun c25 => ?_⟩
    · refine J_blk a_X6_put_21 ?_
      simp only [b_X6_put_21, w_iload_n2, w_i2l, w_lconst_0, w_aload_n0, w_getf6, ne0_8, w_iload_n1, w_iald, w_iconst_1, w_isub, w_nil, kd_46, kd_47, kd_48, kd_49, kd_50, kd_51, kd_52, kd_53, kd_54, kd_55, kd_56, kd_57, kd_58, kd_59, ln_47, ln_48, ln_49, ln_50, ln_51, ln_52, ln_53, ln_54, ln_55, ln_56, ln_57, ln_58, ln_59, Option.toList_some, Option.toList_none, List.cons_append, List.nil_append, true_and, and_true, if_true, if_false, true_or, or_true, Nat.reduceAdd, Int.reduceAdd, Bool.false_eq_true, tn_0, tn_1, tn_2, tn_3, tn_4, tn_5, tn_6, tn_7, tt]
      refine ⟨(vinN ht (by decide)), ?_⟩
      refine J_callSr (isIn_ok _ _ _ _) k_X6_put_33 o_X6_isIn rfl (by decide) rfl (Nat.le_of_ble_eq_true rfl) ?_
      simp only [l_le_1, l_le_2, l_le_3, l_le_5, l_le_7, l_le_8, l_le_9, l_le_10, l_le_13, l_le_20, l_le_30, l_le_60, l_le_99, l_le_9999, l_ge_0, l_ge_1, l_ge_6, l_ge_m1, i64_le]
      refine J_blk a_X6_put_36 ?_
      simp only [b_X6_put_36, w_if_ne, w_nil, kd_46, kd_47, kd_48, kd_49, kd_50, kd_51, kd_52, kd_53, kd_54, kd_55, kd_56, kd_57, kd_58, kd_59, ln_47, ln_48, ln_49, ln_50, ln_51, ln_52, ln_53, ln_54, ln_55, ln_56, ln_57, ln_58, ln_59, Option.toList_some, Option.toList_none, List.cons_append, List.nil_append, true_and, and_true, if_true, if_false, true_or, or_true, Nat.reduceAdd, Int.reduceAdd, Bool.false_eq_true, tn_0, tn_1, tn_2, tn_3, tn_4, tn_5, tn_6, tn_7, tt]
      refine ⟨fun c26 => ?_, fun c26 => ?_⟩
      · exact absurd (by grind) h2
      · refine J_blk a_X6_put_39 ?_
        simp only [b_X6_put_39, w_bipush, ci_m12, w_ireti, kd_46, kd_47, kd_48, kd_49, kd_50, kd_51, kd_52, kd_53, kd_54, kd_55, kd_56, kd_57, kd_58, kd_59, ln_47, ln_48, ln_49, ln_50, ln_51, ln_52, ln_53, ln_54, ln_55, ln_56, ln_57, ln_58, ln_59, Option.toList_some, Option.toList_none, List.cons_append, List.nil_append, true_and, and_true, if_true, if_false, true_or, or_true, Nat.reduceAdd, Int.reduceAdd, Bool.false_eq_true, tn_0, tn_1, tn_2, tn_3, tn_4, tn_5, tn_6, tn_7, tt]
        exact ⟨rfl, rfl⟩
    · exact absurd (Int32.not_le.mp (by assumption)) h
  · exact absurd h1 (by grind)
def nwS (sort v : Int32) : Int32 := if sort = 0 then v.toInt8.toInt32 else if sort = 1 then v.toInt16.toInt32 else v
theorem mput_t (t i z : Nat) (v : Int32) (M : Mm) (ht : t < 4) (h : ¬ M.1 53 t < 0) (hi : i < z) (hz : z ≤ 40) (ez : M.1 54 t = nI z) : K 2 mX6_put [.ref 46, .int (nI t), .int (nI i), .int v] M (Rt (some (.int 1)) (su M 55 (upd (M.1 55) (40 * t + i) (nwS (M.1 53 t) v)))) := by
  have h1 : 0 ≤ nI t ∧ nI t ≤ 3 := ok2 (m := 3) (by omega) (by decide)
  have tt : (nI t).toNatClampNeg = t := nI_clamp (by omega)
  have e40 : (40 : Int32) * nI t = nI (40 * t) := pk_mul 40 t
  have ti : (nI (40 * t + i)).toNatClampNeg = 40 * t + i := nI_clamp (by omega)
  have h2 : 0 ≤ nI i ∧ nI i ≤ M.1 54 t - 1 := by rw [ez, nI_sub1 (by omega)]; exact ok2 (by omega) (by omega)
  have fin : ∀ w, w = nwS (M.1 53 t) v → J 2 mX6_put 82 [some (.ref 46), some (.int (nI t)), some (.int (nI i)), some (.int v)] [.int w, .int (nI (40 * t + i)), .ref 55] M (Rt (some (.int 1)) (su M 55 (upd (M.1 55) (40 * t + i) (nwS (M.1 53 t) v)))) := by
    intro w hw
    refine J_blk a_X6_put_82 ?_
    simp only [b_X6_put_82, w_iast, w_iconst_1, w_ireti, kd_46, kd_47, kd_48, kd_49, kd_50, kd_51, kd_52, kd_53, kd_54, kd_55, kd_56, kd_57, kd_58, kd_59, ln_47, ln_48, ln_49, ln_50, ln_51, ln_52, ln_53, ln_54, ln_55, ln_56, ln_57, ln_58, ln_59, Option.toList_some, Option.toList_none, List.cons_append, List.nil_append, true_and, and_true, if_true, if_false, true_or, or_true, Nat.reduceAdd, Int.reduceAdd, Bool.false_eq_true, tn_0, tn_1, tn_2, tn_3, tn_4, tn_5, tn_6, tn_7, ti]
    exact ⟨vinN (by omega) (by decide), rfl, by rw [u1_row, hw]⟩
  refine K_go 3 o_X6_put [] rfl (Nat.le_of_ble_eq_true rfl) ?_
  simp only [lvA_i, lvA_a, lvA_l, lvA_nil, List.cons_append, List.nil_append]
  refine J_blk a_X6_put_0 ?_
  simp only [b_X6_put_0, w_iload_n1, w_nil, kd_46, kd_47, kd_48, kd_49, kd_50, kd_51, kd_52, kd_53, kd_54, kd_55, kd_56, kd_57, kd_58, kd_59, ln_47, ln_48, ln_49, ln_50, ln_51, ln_52, ln_53, ln_54, ln_55, ln_56, ln_57, ln_58, ln_59, Option.toList_some, Option.toList_none, List.cons_append, List.nil_append, true_and, and_true, if_true, if_false, true_or, or_true, Nat.reduceAdd, Int.reduceAdd, Bool.false_eq_true, tn_0, tn_1, tn_2, tn_3, tn_4, tn_5, tn_6, tn_7, tt, e40, nI_add]
  refine J_callSr (isSheet_ok _ _) k_X6_put_1 o_X6_isSheet rfl (by decide) rfl (Nat.le_of_ble_eq_true rfl) ?_
  refine J_blk a_X6_put_4 ?_
  simp only [b_X6_put_4, w_if_ne, w_nil, kd_46, kd_47, kd_48, kd_49, kd_50, kd_51, kd_52, kd_53, kd_54, kd_55, kd_56, kd_57, kd_58, kd_59, ln_47, ln_48, ln_49, ln_50, ln_51, ln_52, ln_53, ln_54, ln_55, ln_56, ln_57, ln_58, ln_59, Option.toList_some, Option.toList_none, List.cons_append, List.nil_append, true_and, and_true, if_true, if_false, true_or, or_true, Nat.reduceAdd, Int.reduceAdd, Bool.false_eq_true, tn_0, tn_1, tn_2, tn_3, tn_4, tn_5, tn_6, tn_7, tt, e40, nI_add]
  refine ⟨fun c27 => ?_, fun c27 => ?_⟩
  · refine J_blk a_X6_put_9 ?_
    simp only [b_X6_put_9, w_aload_n0, w_getf6, ne0_7, w_iload_n1, w_iald, w_if_ge, w_nil, kd_46, kd_47, kd_48, kd_49, kd_50, kd_51, kd_52, kd_53, kd_54, kd_55, kd_56, kd_57, kd_58, kd_59, ln_47, ln_48, ln_49, ln_50, ln_51, ln_52, ln_53, ln_54, ln_55, ln_56, ln_57, ln_58, ln_59, Option.toList_some, Option.toList_none, List.cons_append, List.nil_append, true_and, and_true, if_true, if_false, true_or, or_true, Nat.reduceAdd, Int.reduceAdd, Bool.false_eq_true, tn_0, tn_1, tn_2, tn_3, tn_4, tn_5, tn_6, tn_7, tt, e40, nI_add]
    refine ⟨(vinN ht (by decide)), ?_⟩
    refine ⟨fun c28 => ?_, fun c28 => ?_⟩
    · refine J_blk a_X6_put_21 ?_
      simp only [b_X6_put_21, w_iload_n2, w_i2l, w_lconst_0, w_aload_n0, w_getf6, ne0_8, w_iload_n1, w_iald, w_iconst_1, w_isub, w_nil, kd_46, kd_47, kd_48, kd_49, kd_50, kd_51, kd_52, kd_53, kd_54, kd_55, kd_56, kd_57, kd_58, kd_59, ln_47, ln_48, ln_49, ln_50, ln_51, ln_52, ln_53, ln_54, ln_55, ln_56, ln_57, ln_58, ln_59, Option.toList_some, Option.toList_none, List.cons_append, List.nil_append, true_and, and_true, if_true, if_false, true_or, or_true, Nat.reduceAdd, Int.reduceAdd, Bool.false_eq_true, tn_0, tn_1, tn_2, tn_3, tn_4, tn_5, tn_6, tn_7, tt, e40, nI_add]
      refine ⟨(vinN ht (by decide)), ?_⟩
      refine J_callSr (isIn_ok _ _ _ _) k_X6_put_33 o_X6_isIn rfl (by decide) rfl (Nat.le_of_ble_eq_true rfl) ?_
      simp only [l_le_1, l_le_2, l_le_3, l_le_5, l_le_7, l_le_8, l_le_9, l_le_10, l_le_13, l_le_20, l_le_30, l_le_60, l_le_99, l_le_9999, l_ge_0, l_ge_1, l_ge_6, l_ge_m1, i64_le]
      refine J_blk a_X6_put_36 ?_
      simp only [b_X6_put_36, w_if_ne, w_nil, kd_46, kd_47, kd_48, kd_49, kd_50, kd_51, kd_52, kd_53, kd_54, kd_55, kd_56, kd_57, kd_58, kd_59, ln_47, ln_48, ln_49, ln_50, ln_51, ln_52, ln_53, ln_54, ln_55, ln_56, ln_57, ln_58, ln_59, Option.toList_some, Option.toList_none, List.cons_append, List.nil_append, true_and, and_true, if_true, if_false, true_or, or_true, Nat.reduceAdd, Int.reduceAdd, Bool.false_eq_true, tn_0, tn_1, tn_2, tn_3, tn_4, tn_5, tn_6, tn_7, tt, e40, nI_add]
      refine ⟨fun c29 => ?_, fun c29 => ?_⟩
      · refine J_blk a_X6_put_42 ?_
        simp only [b_X6_put_42, w_aload_n0, w_getf6, ne0_9, w_bipush, ci_40, w_iload_n1, w_imul, w_iload_n2, w_iadd, ne0_7, w_iald, w_if_ne, w_nil, kd_46, kd_47, kd_48, kd_49, kd_50, kd_51, kd_52, kd_53, kd_54, kd_55, kd_56, kd_57, kd_58, kd_59, ln_47, ln_48, ln_49, ln_50, ln_51, ln_52, ln_53, ln_54, ln_55, ln_56, ln_57, ln_58, ln_59, Option.toList_some, Option.toList_none, List.cons_append, List.nil_append, true_and, and_true, if_true, if_false, true_or, or_true, Nat.reduceAdd, Int.reduceAdd, Bool.false_eq_true, tn_0, tn_1, tn_2, tn_3, tn_4, tn_5, tn_6, tn_7, tt, e40, nI_add]
        refine ⟨(vinN ht (by decide)), ?_⟩
        refine ⟨fun c30 => ?_, fun c30 => ?_⟩
        · refine J_blk a_X6_put_66 ?_
          simp only [b_X6_put_66, w_aload_n0, w_getf6, ne0_7, w_iload_n1, w_iald, w_iconst_1, w_icmp_ne, w_nil, kd_46, kd_47, kd_48, kd_49, kd_50, kd_51, kd_52, kd_53, kd_54, kd_55, kd_56, kd_57, kd_58, kd_59, ln_47, ln_48, ln_49, ln_50, ln_51, ln_52, ln_53, ln_54, ln_55, ln_56, ln_57, ln_58, ln_59, Option.toList_some, Option.toList_none, List.cons_append, List.nil_append, true_and, and_true, if_true, if_false, true_or, or_true, Nat.reduceAdd, Int.reduceAdd, Bool.false_eq_true, tn_0, tn_1, tn_2, tn_3, tn_4, tn_5, tn_6, tn_7, tt, e40, nI_add]
          refine ⟨(vinN ht (by decide)), ?_⟩
          refine ⟨fun c31 => ?_, fun c31 => ?_⟩
          · refine J_blk a_X6_put_81 ?_
            simp only [b_X6_put_81, w_iload_n3, w_nil, kd_46, kd_47, kd_48, kd_49, kd_50, kd_51, kd_52, kd_53, kd_54, kd_55, kd_56, kd_57, kd_58, kd_59, ln_47, ln_48, ln_49, ln_50, ln_51, ln_52, ln_53, ln_54, ln_55, ln_56, ln_57, ln_58, ln_59, Option.toList_some, Option.toList_none, List.cons_append, List.nil_append, true_and, and_true, if_true, if_false, true_or, or_true, Nat.reduceAdd, Int.reduceAdd, Bool.false_eq_true, tn_0, tn_1, tn_2, tn_3, tn_4, tn_5, tn_6, tn_7, tt, e40, nI_add]
            exact fin _ (by unfold nwS; grind)
          · refine J_blk a_X6_put_76 ?_
            simp only [b_X6_put_76, w_iload_n3, w_i2s, w_goto, kd_46, kd_47, kd_48, kd_49, kd_50, kd_51, kd_52, kd_53, kd_54, kd_55, kd_56, kd_57, kd_58, kd_59, ln_47, ln_48, ln_49, ln_50, ln_51, ln_52, ln_53, ln_54, ln_55, ln_56, ln_57, ln_58, ln_59, Option.toList_some, Option.toList_none, List.cons_append, List.nil_append, true_and, and_true, if_true, if_false, true_or, or_true, Nat.reduceAdd, Int.reduceAdd, Bool.false_eq_true, tn_0, tn_1, tn_2, tn_3, tn_4, tn_5, tn_6, tn_7, tt, e40, nI_add]
            exact fin _ (by unfold nwS; grind)
        · refine J_blk a_X6_put_61 ?_
          simp only [b_X6_put_61, w_iload_n3, w_i2b, w_goto, kd_46, kd_47, kd_48, kd_49, kd_50, kd_51, kd_52, kd_53, kd_54, kd_55, kd_56, kd_57, kd_58, kd_59, ln_47, ln_48, ln_49, ln_50, ln_51, ln_52, ln_53, ln_54, ln_55, ln_56, ln_57, ln_58, ln_59, Option.toList_some, Option.toList_none, List.cons_append, List.nil_append, true_and, and_true, if_true, if_false, true_or, or_true, Nat.reduceAdd, Int.reduceAdd, Bool.false_eq_true, tn_0, tn_1, tn_2, tn_3, tn_4, tn_5, tn_6, tn_7, tt, e40, nI_add]
          exact fin _ (by unfold nwS; grind)
      · exact absurd h2 (by grind)
    · exact absurd (Int32.not_le.mp (by assumption)) h
  · exact absurd h1 (by grind)
def laS (sort0 sort : Int32) : Int32 := if sort0 < 0 then -11 else if sort0 = sort then 0 else -13
theorem lacks_ok (t : Nat) (sort : Int32) (M : Mm) (ht : t < 4) : K 0 mX6_lacks [.ref 46, .int (nI t), .int sort] M (Rt (some (.int (laS (M.1 53 t) sort))) M) := by
  have tt : (nI t).toNatClampNeg = t := nI_clamp (by omega)
  refine K_go 2 o_X6_lacks [] rfl (Nat.le_of_ble_eq_true rfl) ?_
  simp only [lvA_i, lvA_a, lvA_l, lvA_nil, List.cons_append, List.nil_append]
  refine J_blk a_X6_lacks_0 ?_
  simp only [b_X6_lacks_0, w_aload_n0, w_getf6, ne0_7, w_iload_n1, w_iald, w_if_ge, w_nil, kd_46, kd_47, kd_48, kd_49, kd_50, kd_51, kd_52, kd_53, kd_54, kd_55, kd_56, kd_57, kd_58, kd_59, ln_47, ln_48, ln_49, ln_50, ln_51, ln_52, ln_53, ln_54, ln_55, ln_56, ln_57, ln_58, ln_59, Option.toList_some, Option.toList_none, List.cons_append, List.nil_append, true_and, and_true, if_true, if_false, true_or, or_true, Nat.reduceAdd, Int.reduceAdd, Bool.false_eq_true, tn_0, tn_1, tn_2, tn_3, tn_4, tn_5, tn_6, tn_7, tt]
  refine ⟨(vinN ht (by decide)), ?_⟩
  refine ⟨fun c32 => ?_, fun c32 => ?_⟩
  · refine J_blk a_X6_lacks_14 ?_
    simp only [b_X6_lacks_14, w_aload_n0, w_getf6, ne0_7, w_iload_n1, w_iald, w_iload_n2, w_icmp_eq, w_nil, kd_46, kd_47, kd_48, kd_49, kd_50, kd_51, kd_52, kd_53, kd_54, kd_55, kd_56, kd_57, kd_58, kd_59, ln_47, ln_48, ln_49, ln_50, ln_51, ln_52, ln_53, ln_54, ln_55, ln_56, ln_57, ln_58, ln_59, Option.toList_some, Option.toList_none, List.cons_append, List.nil_append, true_and, and_true, if_true, if_false, true_or, or_true, Nat.reduceAdd, Int.reduceAdd, Bool.false_eq_true, tn_0, tn_1, tn_2, tn_3, tn_4, tn_5, tn_6, tn_7, tt]
    refine ⟨(vinN ht (by decide)), ?_⟩
    refine ⟨fun c33 => ?_, fun c33 => ?_⟩
    · refine J_blk a_X6_lacks_29 ?_
      simp only [b_X6_lacks_29, w_iconst_0, w_nil, kd_46, kd_47, kd_48, kd_49, kd_50, kd_51, kd_52, kd_53, kd_54, kd_55, kd_56, kd_57, kd_58, kd_59, ln_47, ln_48, ln_49, ln_50, ln_51, ln_52, ln_53, ln_54, ln_55, ln_56, ln_57, ln_58, ln_59, Option.toList_some, Option.toList_none, List.cons_append, List.nil_append, true_and, and_true, if_true, if_false, true_or, or_true, Nat.reduceAdd, Int.reduceAdd, Bool.false_eq_true, tn_0, tn_1, tn_2, tn_3, tn_4, tn_5, tn_6, tn_7, tt]
      refine J_blk a_X6_lacks_30 ?_
      simp only [b_X6_lacks_30, w_ireti, kd_46, kd_47, kd_48, kd_49, kd_50, kd_51, kd_52, kd_53, kd_54, kd_55, kd_56, kd_57, kd_58, kd_59, ln_47, ln_48, ln_49, ln_50, ln_51, ln_52, ln_53, ln_54, ln_55, ln_56, ln_57, ln_58, ln_59, Option.toList_some, Option.toList_none, List.cons_append, List.nil_append, true_and, and_true, if_true, if_false, true_or, or_true, Nat.reduceAdd, Int.reduceAdd, Bool.false_eq_true, tn_0, tn_1, tn_2, tn_3, tn_4, tn_5, tn_6, tn_7, tt]
      exact ⟨by unfold laS; congr 2; (try simp only [Int32.not_lt, Int32.not_le] at *); grind, rfl⟩
    · refine J_blk a_X6_lacks_24 ?_
      simp only [b_X6_lacks_24, w_bipush, ci_m13, w_goto, kd_46, kd_47, kd_48, kd_49, kd_50, kd_51, kd_52, kd_53, kd_54, kd_55, kd_56, kd_57, kd_58, kd_59, ln_47, ln_48, ln_49, ln_50, ln_51, ln_52, ln_53, ln_54, ln_55, ln_56, ln_57, ln_58, ln_59, Option.toList_some, Option.toList_none, List.cons_append, List.nil_append, true_and, and_true, if_true, if_false, true_or, or_true, Nat.reduceAdd, Int.reduceAdd, Bool.false_eq_true, tn_0, tn_1, tn_2, tn_3, tn_4, tn_5, tn_6, tn_7, tt]
      refine J_blk a_X6_lacks_30 ?_
      simp only [b_X6_lacks_30, w_ireti, kd_46, kd_47, kd_48, kd_49, kd_50, kd_51, kd_52, kd_53, kd_54, kd_55, kd_56, kd_57, kd_58, kd_59, ln_47, ln_48, ln_49, ln_50, ln_51, ln_52, ln_53, ln_54, ln_55, ln_56, ln_57, ln_58, ln_59, Option.toList_some, Option.toList_none, List.cons_append, List.nil_append, true_and, and_true, if_true, if_false, true_or, or_true, Nat.reduceAdd, Int.reduceAdd, Bool.false_eq_true, tn_0, tn_1, tn_2, tn_3, tn_4, tn_5, tn_6, tn_7, tt]
      exact ⟨by unfold laS; congr 2; (try simp only [Int32.not_lt, Int32.not_le] at *); grind, rfl⟩
  · refine J_blk a_X6_lacks_9 ?_
    simp only [b_X6_lacks_9, w_bipush, ci_m11, w_goto, kd_46, kd_47, kd_48, kd_49, kd_50, kd_51, kd_52, kd_53, kd_54, kd_55, kd_56, kd_57, kd_58, kd_59, ln_47, ln_48, ln_49, ln_50, ln_51, ln_52, ln_53, ln_54, ln_55, ln_56, ln_57, ln_58, ln_59, Option.toList_some, Option.toList_none, List.cons_append, List.nil_append, true_and, and_true, if_true, if_false, true_or, or_true, Nat.reduceAdd, Int.reduceAdd, Bool.false_eq_true, tn_0, tn_1, tn_2, tn_3, tn_4, tn_5, tn_6, tn_7, tt]
    refine J_blk a_X6_lacks_30 ?_
    simp only [b_X6_lacks_30, w_ireti, kd_46, kd_47, kd_48, kd_49, kd_50, kd_51, kd_52, kd_53, kd_54, kd_55, kd_56, kd_57, kd_58, kd_59, ln_47, ln_48, ln_49, ln_50, ln_51, ln_52, ln_53, ln_54, ln_55, ln_56, ln_57, ln_58, ln_59, Option.toList_some, Option.toList_none, List.cons_append, List.nil_append, true_and, and_true, if_true, if_false, true_or, or_true, Nat.reduceAdd, Int.reduceAdd, Bool.false_eq_true, tn_0, tn_1, tn_2, tn_3, tn_4, tn_5, tn_6, tn_7, tt]
    exact ⟨by unfold laS; congr 2; (try simp only [Int32.not_lt, Int32.not_le] at *); grind, rfl⟩
theorem mitem_f (t sort i : Int32) (M : Mm) (h : ¬ ((0 ≤ t ∧ t ≤ 3) ∧ (0 ≤ sort ∧ sort ≤ 3))) : K 2 mX6_item [.ref 46, .int t, .int sort, .int i] M (Rt (some (.int (-1))) M) := by
  refine K_go 3 o_X6_item [] rfl (Nat.le_of_ble_eq_true rfl) ?_
  simp only [lvA_i, lvA_a, lvA_l, lvA_nil, List.cons_append, List.nil_append]
  refine J_blk a_X6_item_0 ?_
  simp only [b_X6_item_0, w_iload_n1, w_nil, kd_46, kd_47, kd_48, kd_49, kd_50, kd_51, kd_52, kd_53, kd_54, kd_55, kd_56, kd_57, kd_58, kd_59, ln_47, ln_48, ln_49, ln_50, ln_51, ln_52, ln_53, ln_54, ln_55, ln_56, ln_57, ln_58, ln_59, Option.toList_some, Option.toList_none, List.cons_append, List.nil_append, true_and, and_true, if_true, if_false, true_or, or_true, Nat.reduceAdd, Int.reduceAdd, Bool.false_eq_true, tn_0, tn_1, tn_2, tn_3, tn_4, tn_5, tn_6, tn_7]
  refine J_callSr (isSheet_ok _ _) k_X6_item_1 o_X6_isSheet rfl (by decide) rfl (Nat.le_of_ble_eq_true rfl) ?_
  refine J_blk a_X6_item_4 ?_
  simp only [b_X6_item_4, w_if_eq, w_nil, kd_46, kd_47, kd_48, kd_49, kd_50, kd_51, kd_52, kd_53, kd_54, kd_55, kd_56, kd_57, kd_58, kd_59, ln_47, ln_48, ln_49, ln_50, ln_51, ln_52, ln_53, ln_54, ln_55, ln_56, ln_57, ln_58, ln_59, Option.toList_some, Option.toList_none, List.cons_append, List.nil_append, true_and, and_true, if_true, if_false, true_or, or_true, Nat.reduceAdd, Int.reduceAdd, Bool.false_eq_true, tn_0, tn_1, tn_2, tn_3, tn_4, tn_5, tn_6, tn_7]
  refine ⟨fun c34 => ?_, fun c34 => ?_⟩
  · refine J_blk a_X6_item_19 ?_
    simp only [b_X6_item_19, w_iconst_m1, w_ireti, kd_46, kd_47, kd_48, kd_49, kd_50, kd_51, kd_52, kd_53, kd_54, kd_55, kd_56, kd_57, kd_58, kd_59, ln_47, ln_48, ln_49, ln_50, ln_51, ln_52, ln_53, ln_54, ln_55, ln_56, ln_57, ln_58, ln_59, Option.toList_some, Option.toList_none, List.cons_append, List.nil_append, true_and, and_true, if_true, if_false, true_or, or_true, Nat.reduceAdd, Int.reduceAdd, Bool.false_eq_true, tn_0, tn_1, tn_2, tn_3, tn_4, tn_5, tn_6, tn_7]
    exact ⟨rfl, rfl⟩
  · refine J_blk a_X6_item_7 ?_
    simp only [b_X6_item_7, w_iload_n2, w_i2l, w_lconst_0, w_ldc2, cl_3, w_nil, kd_46, kd_47, kd_48, kd_49, kd_50, kd_51, kd_52, kd_53, kd_54, kd_55, kd_56, kd_57, kd_58, kd_59, ln_47, ln_48, ln_49, ln_50, ln_51, ln_52, ln_53, ln_54, ln_55, ln_56, ln_57, ln_58, ln_59, Option.toList_some, Option.toList_none, List.cons_append, List.nil_append, true_and, and_true, if_true, if_false, true_or, or_true, Nat.reduceAdd, Int.reduceAdd, Bool.false_eq_true, tn_0, tn_1, tn_2, tn_3, tn_4, tn_5, tn_6, tn_7]
    refine J_callSr (isIn_ok _ _ _ _) k_X6_item_13 o_X6_isIn rfl (by decide) rfl (Nat.le_of_ble_eq_true rfl) ?_
    simp only [l_le_1, l_le_2, l_le_3, l_le_5, l_le_7, l_le_8, l_le_9, l_le_10, l_le_13, l_le_20, l_le_30, l_le_60, l_le_99, l_le_9999, l_ge_0, l_ge_1, l_ge_6, l_ge_m1, i64_le]
    refine J_blk a_X6_item_16 ?_
    simp only [b_X6_item_16, w_if_ne, w_nil, kd_46, kd_47, kd_48, kd_49, kd_50, kd_51, kd_52, kd_53, kd_54, kd_55, kd_56, kd_57, kd_58, kd_59, ln_47, ln_48, ln_49, ln_50, ln_51, ln_52, ln_53, ln_54, ln_55, ln_56, ln_57, ln_58, ln_59, Option.toList_some, Option.toList_none, List.cons_append, List.nil_append, true_and, and_true, if_true, if_false, true_or, or_true, Nat.reduceAdd, Int.reduceAdd, Bool.false_eq_true, tn_0, tn_1, tn_2, tn_3, tn_4, tn_5, tn_6, tn_7]
    refine ⟨fun c35 => ?_, fun c35 => ?_⟩
    · exact absurd (by grind) h
    · refine J_blk a_X6_item_19 ?_
      simp only [b_X6_item_19, w_iconst_m1, w_ireti, kd_46, kd_47, kd_48, kd_49, kd_50, kd_51, kd_52, kd_53, kd_54, kd_55, kd_56, kd_57, kd_58, kd_59, ln_47, ln_48, ln_49, ln_50, ln_51, ln_52, ln_53, ln_54, ln_55, ln_56, ln_57, ln_58, ln_59, Option.toList_some, Option.toList_none, List.cons_append, List.nil_append, true_and, and_true, if_true, if_false, true_or, or_true, Nat.reduceAdd, Int.reduceAdd, Bool.false_eq_true, tn_0, tn_1, tn_2, tn_3, tn_4, tn_5, tn_6, tn_7]
      exact ⟨rfl, rfl⟩
theorem mitem_t (t z : Nat) (sort i : Int32) (M : Mm) (ht : t < 4) (h : 0 ≤ sort ∧ sort ≤ 3) (hz : z ≤ 40) (ez : M.1 54 t = nI z) : K 2 mX6_item [.ref 46, .int (nI t), .int sort, .int i] M (Rt (some (.int (if laS (M.1 53 t) sort = 0 then (if 0 ≤ i ∧ i ≤ nI z - 1 then M.1 55 (40 * t + i.toNatClampNeg) else -12) else laS (M.1 53 t) sort))) M) := by
  have h1 : 0 ≤ nI t ∧ nI t ≤ 3 := ok2 (m := 3) (by omega) (by decide)
  have tt : (nI t).toNatClampNeg = t := nI_clamp (by omega)
  have e40 : (40 : Int32) * nI t = nI (40 * t) := pk_mul 40 t
  have go : ∀ c, c = laS (M.1 53 t) sort → c = 0 → J 2 mX6_item 37 [some (.ref 46), some (.int (nI t)), some (.int sort), some (.int i)] [] M (Rt (some (.int (if laS (M.1 53 t) sort = 0 then (if 0 ≤ i ∧ i ≤ nI z - 1 then M.1 55 (40 * t + i.toNatClampNeg) else -12) else laS (M.1 53 t) sort))) M) := by
    intro c hc hc0
    rw [← hc, if_pos hc0]
    refine J_blk a_X6_item_37 ?_
    simp only [b_X6_item_37, w_iload_n3, w_i2l, w_lconst_0, w_aload_n0, w_getf6, ne0_8, w_iload_n1, w_iald, w_iconst_1, w_isub, w_nil, kd_46, kd_47, kd_48, kd_49, kd_50, kd_51, kd_52, kd_53, kd_54, kd_55, kd_56, kd_57, kd_58, kd_59, ln_47, ln_48, ln_49, ln_50, ln_51, ln_52, ln_53, ln_54, ln_55, ln_56, ln_57, ln_58, ln_59, Option.toList_some, Option.toList_none, List.cons_append, List.nil_append, true_and, and_true, if_true, if_false, true_or, or_true, Nat.reduceAdd, Int.reduceAdd, Bool.false_eq_true, tn_0, tn_1, tn_2, tn_3, tn_4, tn_5, tn_6, tn_7, tt, ez]
    refine ⟨vinN ht (by decide), ?_⟩
    refine J_callSr (isIn_ok _ _ _ _) k_X6_item_49 o_X6_isIn rfl (by decide) rfl (Nat.le_of_ble_eq_true rfl) ?_
    simp only [l_le_1, l_le_2, l_le_3, l_le_5, l_le_7, l_le_8, l_le_9, l_le_10, l_le_13, l_le_20, l_le_30, l_le_60, l_le_99, l_le_9999, l_ge_0, l_ge_1, l_ge_6, l_ge_m1, i64_le]
    by_cases hi : 0 ≤ i ∧ i ≤ nI z - 1
    · rw [if_pos hi, if_pos hi]
      have hz0 : z ≠ 0 := by
        intro e
        subst e
        exact absurd (Int32.le_trans hi.1 hi.2) (by decide)
      rw [nI_sub1 hz0] at hi
      obtain ⟨a, ha, rfl⟩ := inNc (n := z - 1) _ rfl hi (by omega)
      have ti : (nI (40 * t + a)).toNatClampNeg = 40 * t + a := nI_clamp (by omega)
      rw [nI_clamp (show a < 2 ^ 31 by omega)]
      refine J_blk a_X6_item_52 ?_
      simp only [b_X6_item_52, w_if_eq, w_nil, kd_46, kd_47, kd_48, kd_49, kd_50, kd_51, kd_52, kd_53, kd_54, kd_55, kd_56, kd_57, kd_58, kd_59, ln_47, ln_48, ln_49, ln_50, ln_51, ln_52, ln_53, ln_54, ln_55, ln_56, ln_57, ln_58, ln_59, Option.toList_some, Option.toList_none, List.cons_append, List.nil_append, true_and, and_true, if_true, if_false, true_or, or_true, Nat.reduceAdd, Int.reduceAdd, Bool.false_eq_true, tn_0, tn_1, tn_2, tn_3, tn_4, tn_5, tn_6, tn_7]
      refine ⟨fun h => absurd h (by decide), fun _ => ?_⟩
      refine J_blk a_X6_item_55 ?_
      simp only [b_X6_item_55, w_aload_n0, w_getf6, ne0_9, w_bipush, ci_40, w_iload_n1, w_imul, w_iload_n3, w_iadd, w_iald, w_goto, kd_46, kd_47, kd_48, kd_49, kd_50, kd_51, kd_52, kd_53, kd_54, kd_55, kd_56, kd_57, kd_58, kd_59, ln_47, ln_48, ln_49, ln_50, ln_51, ln_52, ln_53, ln_54, ln_55, ln_56, ln_57, ln_58, ln_59, Option.toList_some, Option.toList_none, List.cons_append, List.nil_append, true_and, and_true, if_true, if_false, true_or, or_true, Nat.reduceAdd, Int.reduceAdd, Bool.false_eq_true, tn_0, tn_1, tn_2, tn_3, tn_4, tn_5, tn_6, tn_7, e40, nI_add, ti]
      refine ⟨vinN (by omega) (by decide), ?_⟩
      refine J_blk a_X6_item_71 ?_
      simp only [b_X6_item_71, w_ireti, kd_46, kd_47, kd_48, kd_49, kd_50, kd_51, kd_52, kd_53, kd_54, kd_55, kd_56, kd_57, kd_58, kd_59, ln_47, ln_48, ln_49, ln_50, ln_51, ln_52, ln_53, ln_54, ln_55, ln_56, ln_57, ln_58, ln_59, Option.toList_some, Option.toList_none, List.cons_append, List.nil_append, true_and, and_true, if_true, if_false, true_or, or_true, Nat.reduceAdd, Int.reduceAdd, Bool.false_eq_true, tn_0, tn_1, tn_2, tn_3, tn_4, tn_5, tn_6, tn_7]
      first | exact ⟨rfl, rfl⟩ | (simp_all [Rt])
    · rw [if_neg hi, if_neg hi]
      refine J_blk a_X6_item_52 ?_
      simp only [b_X6_item_52, w_if_eq, w_nil, kd_46, kd_47, kd_48, kd_49, kd_50, kd_51, kd_52, kd_53, kd_54, kd_55, kd_56, kd_57, kd_58, kd_59, ln_47, ln_48, ln_49, ln_50, ln_51, ln_52, ln_53, ln_54, ln_55, ln_56, ln_57, ln_58, ln_59, Option.toList_some, Option.toList_none, List.cons_append, List.nil_append, true_and, and_true, if_true, if_false, true_or, or_true, Nat.reduceAdd, Int.reduceAdd, Bool.false_eq_true, tn_0, tn_1, tn_2, tn_3, tn_4, tn_5, tn_6, tn_7]
      refine ⟨fun _ => ?_, fun h => absurd trivial h⟩
      refine J_blk a_X6_item_69 ?_
      simp only [b_X6_item_69, w_bipush, ci_m12, w_nil, kd_46, kd_47, kd_48, kd_49, kd_50, kd_51, kd_52, kd_53, kd_54, kd_55, kd_56, kd_57, kd_58, kd_59, ln_47, ln_48, ln_49, ln_50, ln_51, ln_52, ln_53, ln_54, ln_55, ln_56, ln_57, ln_58, ln_59, Option.toList_some, Option.toList_none, List.cons_append, List.nil_append, true_and, and_true, if_true, if_false, true_or, or_true, Nat.reduceAdd, Int.reduceAdd, Bool.false_eq_true, tn_0, tn_1, tn_2, tn_3, tn_4, tn_5, tn_6, tn_7]
      refine J_blk a_X6_item_71 ?_
      simp only [b_X6_item_71, w_ireti, kd_46, kd_47, kd_48, kd_49, kd_50, kd_51, kd_52, kd_53, kd_54, kd_55, kd_56, kd_57, kd_58, kd_59, ln_47, ln_48, ln_49, ln_50, ln_51, ln_52, ln_53, ln_54, ln_55, ln_56, ln_57, ln_58, ln_59, Option.toList_some, Option.toList_none, List.cons_append, List.nil_append, true_and, and_true, if_true, if_false, true_or, or_true, Nat.reduceAdd, Int.reduceAdd, Bool.false_eq_true, tn_0, tn_1, tn_2, tn_3, tn_4, tn_5, tn_6, tn_7]
      first | exact ⟨rfl, rfl⟩ | (simp_all [Rt])
  refine K_go 3 o_X6_item [] rfl (Nat.le_of_ble_eq_true rfl) ?_
  simp only [lvA_i, lvA_a, lvA_l, lvA_nil, List.cons_append, List.nil_append]
  refine J_blk a_X6_item_0 ?_
  simp only [b_X6_item_0, w_iload_n1, w_nil, kd_46, kd_47, kd_48, kd_49, kd_50, kd_51, kd_52, kd_53, kd_54, kd_55, kd_56, kd_57, kd_58, kd_59, ln_47, ln_48, ln_49, ln_50, ln_51, ln_52, ln_53, ln_54, ln_55, ln_56, ln_57, ln_58, ln_59, Option.toList_some, Option.toList_none, List.cons_append, List.nil_append, true_and, and_true, if_true, if_false, true_or, or_true, Nat.reduceAdd, Int.reduceAdd, Bool.false_eq_true, tn_0, tn_1, tn_2, tn_3, tn_4, tn_5, tn_6, tn_7, tt]
  refine J_callSr (isSheet_ok _ _) k_X6_item_1 o_X6_isSheet rfl (by decide) rfl (Nat.le_of_ble_eq_true rfl) ?_
  refine J_blk a_X6_item_4 ?_
  simp only [b_X6_item_4, w_if_eq, w_nil, kd_46, kd_47, kd_48, kd_49, kd_50, kd_51, kd_52, kd_53, kd_54, kd_55, kd_56, kd_57, kd_58, kd_59, ln_47, ln_48, ln_49, ln_50, ln_51, ln_52, ln_53, ln_54, ln_55, ln_56, ln_57, ln_58, ln_59, Option.toList_some, Option.toList_none, List.cons_append, List.nil_append, true_and, and_true, if_true, if_false, true_or, or_true, Nat.reduceAdd, Int.reduceAdd, Bool.false_eq_true, tn_0, tn_1, tn_2, tn_3, tn_4, tn_5, tn_6, tn_7, tt]
  refine ⟨fun c36 => ?_, fun c36 => ?_⟩
  · exact absurd h (by grind)
  · refine J_blk a_X6_item_7 ?_
    simp only [b_X6_item_7, w_iload_n2, w_i2l, w_lconst_0, w_ldc2, cl_3, w_nil, kd_46, kd_47, kd_48, kd_49, kd_50, kd_51, kd_52, kd_53, kd_54, kd_55, kd_56, kd_57, kd_58, kd_59, ln_47, ln_48, ln_49, ln_50, ln_51, ln_52, ln_53, ln_54, ln_55, ln_56, ln_57, ln_58, ln_59, Option.toList_some, Option.toList_none, List.cons_append, List.nil_append, true_and, and_true, if_true, if_false, true_or, or_true, Nat.reduceAdd, Int.reduceAdd, Bool.false_eq_true, tn_0, tn_1, tn_2, tn_3, tn_4, tn_5, tn_6, tn_7, tt]
    refine J_callSr (isIn_ok _ _ _ _) k_X6_item_13 o_X6_isIn rfl (by decide) rfl (Nat.le_of_ble_eq_true rfl) ?_
    simp only [l_le_1, l_le_2, l_le_3, l_le_5, l_le_7, l_le_8, l_le_9, l_le_10, l_le_13, l_le_20, l_le_30, l_le_60, l_le_99, l_le_9999, l_ge_0, l_ge_1, l_ge_6, l_ge_m1, i64_le]
    refine J_blk a_X6_item_16 ?_
    simp only [b_X6_item_16, w_if_ne, w_nil, kd_46, kd_47, kd_48, kd_49, kd_50, kd_51, kd_52, kd_53, kd_54, kd_55, kd_56, kd_57, kd_58, kd_59, ln_47, ln_48, ln_49, ln_50, ln_51, ln_52, ln_53, ln_54, ln_55, ln_56, ln_57, ln_58, ln_59, Option.toList_some, Option.toList_none, List.cons_append, List.nil_append, true_and, and_true, if_true, if_false, true_or, or_true, Nat.reduceAdd, Int.reduceAdd, Bool.false_eq_true, tn_0, tn_1, tn_2, tn_3, tn_4, tn_5, tn_6, tn_7, tt]
    refine ⟨fun c37 => ?_, fun c37 => ?_⟩
    · refine J_blk a_X6_item_21 ?_
      simp only [b_X6_item_21, w_aload_n0, w_iload_n1, w_iload_n2, w_nil, kd_46, kd_47, kd_48, kd_49, kd_50, kd_51, kd_52, kd_53, kd_54, kd_55, kd_56, kd_57, kd_58, kd_59, ln_47, ln_48, ln_49, ln_50, ln_51, ln_52, ln_53, ln_54, ln_55, ln_56, ln_57, ln_58, ln_59, Option.toList_some, Option.toList_none, List.cons_append, List.nil_append, true_and, and_true, if_true, if_false, true_or, or_true, Nat.reduceAdd, Int.reduceAdd, Bool.false_eq_true, tn_0, tn_1, tn_2, tn_3, tn_4, tn_5, tn_6, tn_7, tt]
      refine J_callVr (ci := 6) (lacks_ok _ _ _ ht) k_X6_item_24 o_X6_lacks rfl rfl rfl rfl (by decide) rfl (Nat.le_of_ble_eq_true rfl) ?_
      refine J_blk a_X6_item_27 ?_
      simp only [b_X6_item_27, w_if_eq, w_nil, kd_46, kd_47, kd_48, kd_49, kd_50, kd_51, kd_52, kd_53, kd_54, kd_55, kd_56, kd_57, kd_58, kd_59, ln_47, ln_48, ln_49, ln_50, ln_51, ln_52, ln_53, ln_54, ln_55, ln_56, ln_57, ln_58, ln_59, Option.toList_some, Option.toList_none, List.cons_append, List.nil_append, true_and, and_true, if_true, if_false, true_or, or_true, Nat.reduceAdd, Int.reduceAdd, Bool.false_eq_true, tn_0, tn_1, tn_2, tn_3, tn_4, tn_5, tn_6, tn_7, tt]
      refine ⟨fun c38 => ?_, fun c38 => ?_⟩
      · exact go _ rfl (by assumption)
      · refine J_blk a_X6_item_30 ?_
        simp only [b_X6_item_30, w_aload_n0, w_iload_n1, w_iload_n2, w_nil, kd_46, kd_47, kd_48, kd_49, kd_50, kd_51, kd_52, kd_53, kd_54, kd_55, kd_56, kd_57, kd_58, kd_59, ln_47, ln_48, ln_49, ln_50, ln_51, ln_52, ln_53, ln_54, ln_55, ln_56, ln_57, ln_58, ln_59, Option.toList_some, Option.toList_none, List.cons_append, List.nil_append, true_and, and_true, if_true, if_false, true_or, or_true, Nat.reduceAdd, Int.reduceAdd, Bool.false_eq_true, tn_0, tn_1, tn_2, tn_3, tn_4, tn_5, tn_6, tn_7, tt]
        refine J_callVr (ci := 6) (lacks_ok _ _ _ ht) k_X6_item_33 o_X6_lacks rfl rfl rfl rfl (by decide) rfl (Nat.le_of_ble_eq_true rfl) ?_
        refine J_blk a_X6_item_36 ?_
        simp only [b_X6_item_36, w_ireti, kd_46, kd_47, kd_48, kd_49, kd_50, kd_51, kd_52, kd_53, kd_54, kd_55, kd_56, kd_57, kd_58, kd_59, ln_47, ln_48, ln_49, ln_50, ln_51, ln_52, ln_53, ln_54, ln_55, ln_56, ln_57, ln_58, ln_59, Option.toList_some, Option.toList_none, List.cons_append, List.nil_append, true_and, and_true, if_true, if_false, true_or, or_true, Nat.reduceAdd, Int.reduceAdd, Bool.false_eq_true, tn_0, tn_1, tn_2, tn_3, tn_4, tn_5, tn_6, tn_7, tt]
        exact ⟨by rw [if_neg (by assumption)], rfl⟩
    · exact absurd h (by grind)
theorem mminds_f (t i o k : Int32) (M : Mm) (n : Nat) (hw : WF (M.1 47) n) (h : ¬ ((0 ≤ t ∧ t ≤ 3) ∧ (0 ≤ o ∧ o < nI n) ∧ (0 ≤ k ∧ k ≤ 8) ∧ o + k ≤ nI n)) : K 2 mX6_minds [.ref 46, .int t, .int i, .int o, .int k] M (Rt (some (.int (-1))) M) := by
  have h0 := hw.1
  refine K_go 4 o_X6_minds [none] rfl (Nat.le_of_ble_eq_true rfl) ?_
  simp only [lvA_i, lvA_a, lvA_l, lvA_nil, List.cons_append, List.nil_append]
  refine J_blk a_X6_minds_0 ?_
  simp only [b_X6_minds_0, w_iload_n1, w_nil, kd_46, kd_47, kd_48, kd_49, kd_50, kd_51, kd_52, kd_53, kd_54, kd_55, kd_56, kd_57, kd_58, kd_59, ln_47, ln_48, ln_49, ln_50, ln_51, ln_52, ln_53, ln_54, ln_55, ln_56, ln_57, ln_58, ln_59, Option.toList_some, Option.toList_none, List.cons_append, List.nil_append, true_and, and_true, if_true, if_false, true_or, or_true, Nat.reduceAdd, Int.reduceAdd, Bool.false_eq_true, tn_0, tn_1, tn_2, tn_3, tn_4, tn_5, tn_6, tn_7, h0]
  refine J_callSr (isSheet_ok _ _) k_X6_minds_1 o_X6_isSheet rfl (by decide) rfl (Nat.le_of_ble_eq_true rfl) ?_
  refine J_blk a_X6_minds_4 ?_
  simp only [b_X6_minds_4, w_if_eq, w_nil, kd_46, kd_47, kd_48, kd_49, kd_50, kd_51, kd_52, kd_53, kd_54, kd_55, kd_56, kd_57, kd_58, kd_59, ln_47, ln_48, ln_49, ln_50, ln_51, ln_52, ln_53, ln_54, ln_55, ln_56, ln_57, ln_58, ln_59, Option.toList_some, Option.toList_none, List.cons_append, List.nil_append, true_and, and_true, if_true, if_false, true_or, or_true, Nat.reduceAdd, Int.reduceAdd, Bool.false_eq_true, tn_0, tn_1, tn_2, tn_3, tn_4, tn_5, tn_6, tn_7, h0]
  refine ⟨fun c39 => ?_, fun c39 => ?_⟩
  · refine J_blk a_X6_minds_41 ?_
    simp only [b_X6_minds_41, w_iconst_m1, w_ireti, kd_46, kd_47, kd_48, kd_49, kd_50, kd_51, kd_52, kd_53, kd_54, kd_55, kd_56, kd_57, kd_58, kd_59, ln_47, ln_48, ln_49, ln_50, ln_51, ln_52, ln_53, ln_54, ln_55, ln_56, ln_57, ln_58, ln_59, Option.toList_some, Option.toList_none, List.cons_append, List.nil_append, true_and, and_true, if_true, if_false, true_or, or_true, Nat.reduceAdd, Int.reduceAdd, Bool.false_eq_true, tn_0, tn_1, tn_2, tn_3, tn_4, tn_5, tn_6, tn_7, h0]
    exact ⟨rfl, rfl⟩
  · refine J_blk a_X6_minds_7 ?_
    simp only [b_X6_minds_7, w_aload_n0, w_iload_n3, w_nil, kd_46, kd_47, kd_48, kd_49, kd_50, kd_51, kd_52, kd_53, kd_54, kd_55, kd_56, kd_57, kd_58, kd_59, ln_47, ln_48, ln_49, ln_50, ln_51, ln_52, ln_53, ln_54, ln_55, ln_56, ln_57, ln_58, ln_59, Option.toList_some, Option.toList_none, List.cons_append, List.nil_append, true_and, and_true, if_true, if_false, true_or, or_true, Nat.reduceAdd, Int.reduceAdd, Bool.false_eq_true, tn_0, tn_1, tn_2, tn_3, tn_4, tn_5, tn_6, tn_7, h0]
    refine J_callVr (ci := 6) (isOne_ok _ _) k_X6_minds_9 o_X6_isOne rfl rfl rfl rfl (by decide) rfl (Nat.le_of_ble_eq_true rfl) ?_
    simp only [h0]
    refine J_blk a_X6_minds_12 ?_
    simp only [b_X6_minds_12, w_if_eq, w_nil, kd_46, kd_47, kd_48, kd_49, kd_50, kd_51, kd_52, kd_53, kd_54, kd_55, kd_56, kd_57, kd_58, kd_59, ln_47, ln_48, ln_49, ln_50, ln_51, ln_52, ln_53, ln_54, ln_55, ln_56, ln_57, ln_58, ln_59, Option.toList_some, Option.toList_none, List.cons_append, List.nil_append, true_and, and_true, if_true, if_false, true_or, or_true, Nat.reduceAdd, Int.reduceAdd, Bool.false_eq_true, tn_0, tn_1, tn_2, tn_3, tn_4, tn_5, tn_6, tn_7, h0]
    refine ⟨fun c40 => ?_, fun c40 => ?_⟩
    · refine J_blk a_X6_minds_41 ?_
      simp only [b_X6_minds_41, w_iconst_m1, w_ireti, kd_46, kd_47, kd_48, kd_49, kd_50, kd_51, kd_52, kd_53, kd_54, kd_55, kd_56, kd_57, kd_58, kd_59, ln_47, ln_48, ln_49, ln_50, ln_51, ln_52, ln_53, ln_54, ln_55, ln_56, ln_57, ln_58, ln_59, Option.toList_some, Option.toList_none, List.cons_append, List.nil_append, true_and, and_true, if_true, if_false, true_or, or_true, Nat.reduceAdd, Int.reduceAdd, Bool.false_eq_true, tn_0, tn_1, tn_2, tn_3, tn_4, tn_5, tn_6, tn_7, h0]
      exact ⟨rfl, rfl⟩
    · refine J_blk a_X6_minds_15 ?_
      simp only [b_X6_minds_15, w_iload4, w_i2l, w_lconst_0, w_ldc2, cl_8, w_nil, kd_46, kd_47, kd_48, kd_49, kd_50, kd_51, kd_52, kd_53, kd_54, kd_55, kd_56, kd_57, kd_58, kd_59, ln_47, ln_48, ln_49, ln_50, ln_51, ln_52, ln_53, ln_54, ln_55, ln_56, ln_57, ln_58, ln_59, Option.toList_some, Option.toList_none, List.cons_append, List.nil_append, true_and, and_true, if_true, if_false, true_or, or_true, Nat.reduceAdd, Int.reduceAdd, Bool.false_eq_true, tn_0, tn_1, tn_2, tn_3, tn_4, tn_5, tn_6, tn_7, h0]
      refine J_callSr (isIn_ok _ _ _ _) k_X6_minds_22 o_X6_isIn rfl (by decide) rfl (Nat.le_of_ble_eq_true rfl) ?_
      simp only [l_le_1, l_le_2, l_le_3, l_le_5, l_le_7, l_le_8, l_le_9, l_le_10, l_le_13, l_le_20, l_le_30, l_le_60, l_le_99, l_le_9999, l_ge_0, l_ge_1, l_ge_6, l_ge_m1, i64_le]
      refine J_blk a_X6_minds_25 ?_
      simp only [b_X6_minds_25, w_if_eq, w_nil, kd_46, kd_47, kd_48, kd_49, kd_50, kd_51, kd_52, kd_53, kd_54, kd_55, kd_56, kd_57, kd_58, kd_59, ln_47, ln_48, ln_49, ln_50, ln_51, ln_52, ln_53, ln_54, ln_55, ln_56, ln_57, ln_58, ln_59, Option.toList_some, Option.toList_none, List.cons_append, List.nil_append, true_and, and_true, if_true, if_false, true_or, or_true, Nat.reduceAdd, Int.reduceAdd, Bool.false_eq_true, tn_0, tn_1, tn_2, tn_3, tn_4, tn_5, tn_6, tn_7, h0]
      refine ⟨fun c41 => ?_, fun c41 => ?_⟩
      · refine J_blk a_X6_minds_41 ?_
        simp only [b_X6_minds_41, w_iconst_m1, w_ireti, kd_46, kd_47, kd_48, kd_49, kd_50, kd_51, kd_52, kd_53, kd_54, kd_55, kd_56, kd_57, kd_58, kd_59, ln_47, ln_48, ln_49, ln_50, ln_51, ln_52, ln_53, ln_54, ln_55, ln_56, ln_57, ln_58, ln_59, Option.toList_some, Option.toList_none, List.cons_append, List.nil_append, true_and, and_true, if_true, if_false, true_or, or_true, Nat.reduceAdd, Int.reduceAdd, Bool.false_eq_true, tn_0, tn_1, tn_2, tn_3, tn_4, tn_5, tn_6, tn_7, h0]
        exact ⟨rfl, rfl⟩
      · refine J_blk a_X6_minds_28 ?_
        simp only [b_X6_minds_28, w_iload_n3, w_iload4, w_iadd, w_aload_n0, w_getf6, ne0_1, w_iconst_0, w_iald, w_icmp_le, w_nil, kd_46, kd_47, kd_48, kd_49, kd_50, kd_51, kd_52, kd_53, kd_54, kd_55, kd_56, kd_57, kd_58, kd_59, ln_47, ln_48, ln_49, ln_50, ln_51, ln_52, ln_53, ln_54, ln_55, ln_56, ln_57, ln_58, ln_59, Option.toList_some, Option.toList_none, List.cons_append, List.nil_append, true_and, and_true, if_true, if_false, true_or, or_true, Nat.reduceAdd, Int.reduceAdd, Bool.false_eq_true, tn_0, tn_1, tn_2, tn_3, tn_4, tn_5, tn_6, tn_7, h0]
        refine ⟨(vlit (by decide)), ?_⟩
        refine ⟨fun c42 => ?_, fun c42 => ?_⟩
        · exact absurd (by grind) h
        · refine J_blk a_X6_minds_41 ?_
          simp only [b_X6_minds_41, w_iconst_m1, w_ireti, kd_46, kd_47, kd_48, kd_49, kd_50, kd_51, kd_52, kd_53, kd_54, kd_55, kd_56, kd_57, kd_58, kd_59, ln_47, ln_48, ln_49, ln_50, ln_51, ln_52, ln_53, ln_54, ln_55, ln_56, ln_57, ln_58, ln_59, Option.toList_some, Option.toList_none, List.cons_append, List.nil_append, true_and, and_true, if_true, if_false, true_or, or_true, Nat.reduceAdd, Int.reduceAdd, Bool.false_eq_true, tn_0, tn_1, tn_2, tn_3, tn_4, tn_5, tn_6, tn_7, h0]
          exact ⟨rfl, rfl⟩
theorem mminds_l (t o k n : Nat) (i : Int32) (M : Mm) (hw : WF (M.1 47) n) (ht : t < 4) (ho : o < n) (hk : o + k ≤ n) (hl : ¬ laS (M.1 53 t) 0 = 0) : K 2 mX6_minds [.ref 46, .int (nI t), .int i, .int (nI o), .int (nI k)] M (Rt (some (.int (laS (M.1 53 t) 0))) M) := by
  have h0 := hw.1
  have h8 := hw.2.1
  have h1 : 0 ≤ nI t ∧ nI t ≤ 3 := ok2 (m := 3) (by omega) (by decide)
  have h2 := ok1 ho (by omega)
  have h3 : 0 ≤ nI k ∧ nI k ≤ 8 := ok2 (m := 8) (by omega) (by decide)
  have h4 : nI o + nI k ≤ nI n := by rw [nI_add]; exact nI_le hk (by omega)
  have go : J 2 mX6_minds 43 [some (.ref 46), some (.int (nI t)), some (.int i), some (.int (nI o)), some (.int (nI k)), none] [] M (Rt (some (.int (laS (M.1 53 t) 0))) M) := by
    refine J_blk a_X6_minds_43 ?_
    simp only [b_X6_minds_43, w_aload_n0, w_iload_n1, w_iconst_0, w_nil, kd_46, kd_47, kd_48, kd_49, kd_50, kd_51, kd_52, kd_53, kd_54, kd_55, kd_56, kd_57, kd_58, kd_59, ln_47, ln_48, ln_49, ln_50, ln_51, ln_52, ln_53, ln_54, ln_55, ln_56, ln_57, ln_58, ln_59, Option.toList_some, Option.toList_none, List.cons_append, List.nil_append, true_and, and_true, if_true, if_false, true_or, or_true, Nat.reduceAdd, Int.reduceAdd, Bool.false_eq_true, tn_0, tn_1, tn_2, tn_3, tn_4, tn_5, tn_6, tn_7]
    refine J_callVr (ci := 6) (lacks_ok _ _ _ ht) k_X6_minds_46 o_X6_lacks rfl rfl rfl rfl (by decide) rfl (Nat.le_of_ble_eq_true rfl) ?_
    refine J_blk a_X6_minds_49 ?_
    simp only [b_X6_minds_49, w_if_eq, w_nil, kd_46, kd_47, kd_48, kd_49, kd_50, kd_51, kd_52, kd_53, kd_54, kd_55, kd_56, kd_57, kd_58, kd_59, ln_47, ln_48, ln_49, ln_50, ln_51, ln_52, ln_53, ln_54, ln_55, ln_56, ln_57, ln_58, ln_59, Option.toList_some, Option.toList_none, List.cons_append, List.nil_append, true_and, and_true, if_true, if_false, true_or, or_true, Nat.reduceAdd, Int.reduceAdd, Bool.false_eq_true, tn_0, tn_1, tn_2, tn_3, tn_4, tn_5, tn_6, tn_7]
    refine ⟨fun c43 => ?_, fun c43 => ?_⟩
    · exact absurd (by assumption) hl
    · refine J_blk a_X6_minds_52 ?_
      simp only [b_X6_minds_52, w_aload_n0, w_iload_n1, w_iconst_0, w_nil, kd_46, kd_47, kd_48, kd_49, kd_50, kd_51, kd_52, kd_53, kd_54, kd_55, kd_56, kd_57, kd_58, kd_59, ln_47, ln_48, ln_49, ln_50, ln_51, ln_52, ln_53, ln_54, ln_55, ln_56, ln_57, ln_58, ln_59, Option.toList_some, Option.toList_none, List.cons_append, List.nil_append, true_and, and_true, if_true, if_false, true_or, or_true, Nat.reduceAdd, Int.reduceAdd, Bool.false_eq_true, tn_0, tn_1, tn_2, tn_3, tn_4, tn_5, tn_6, tn_7]
      refine J_callVr (ci := 6) (lacks_ok _ _ _ ht) k_X6_minds_55 o_X6_lacks rfl rfl rfl rfl (by decide) rfl (Nat.le_of_ble_eq_true rfl) ?_
      refine J_blk a_X6_minds_58 ?_
      simp only [b_X6_minds_58, w_ireti, kd_46, kd_47, kd_48, kd_49, kd_50, kd_51, kd_52, kd_53, kd_54, kd_55, kd_56, kd_57, kd_58, kd_59, ln_47, ln_48, ln_49, ln_50, ln_51, ln_52, ln_53, ln_54, ln_55, ln_56, ln_57, ln_58, ln_59, Option.toList_some, Option.toList_none, List.cons_append, List.nil_append, true_and, and_true, if_true, if_false, true_or, or_true, Nat.reduceAdd, Int.reduceAdd, Bool.false_eq_true, tn_0, tn_1, tn_2, tn_3, tn_4, tn_5, tn_6, tn_7]
      first | exact ⟨rfl, rfl⟩ | (simp_all [Rt])
  refine K_go 4 o_X6_minds [none] rfl (Nat.le_of_ble_eq_true rfl) ?_
  simp only [lvA_i, lvA_a, lvA_l, lvA_nil, List.cons_append, List.nil_append]
  refine J_blk a_X6_minds_0 ?_
  simp only [b_X6_minds_0, w_iload_n1, w_nil, kd_46, kd_47, kd_48, kd_49, kd_50, kd_51, kd_52, kd_53, kd_54, kd_55, kd_56, kd_57, kd_58, kd_59, ln_47, ln_48, ln_49, ln_50, ln_51, ln_52, ln_53, ln_54, ln_55, ln_56, ln_57, ln_58, ln_59, Option.toList_some, Option.toList_none, List.cons_append, List.nil_append, true_and, and_true, if_true, if_false, true_or, or_true, Nat.reduceAdd, Int.reduceAdd, Bool.false_eq_true, tn_0, tn_1, tn_2, tn_3, tn_4, tn_5, tn_6, tn_7, h0]
  refine J_callSr (isSheet_ok _ _) k_X6_minds_1 o_X6_isSheet rfl (by decide) rfl (Nat.le_of_ble_eq_true rfl) ?_
  refine J_blk a_X6_minds_4 ?_
  simp only [b_X6_minds_4, w_if_eq, w_nil, kd_46, kd_47, kd_48, kd_49, kd_50, kd_51, kd_52, kd_53, kd_54, kd_55, kd_56, kd_57, kd_58, kd_59, ln_47, ln_48, ln_49, ln_50, ln_51, ln_52, ln_53, ln_54, ln_55, ln_56, ln_57, ln_58, ln_59, Option.toList_some, Option.toList_none, List.cons_append, List.nil_append, true_and, and_true, if_true, if_false, true_or, or_true, Nat.reduceAdd, Int.reduceAdd, Bool.false_eq_true, tn_0, tn_1, tn_2, tn_3, tn_4, tn_5, tn_6, tn_7, h0]
  refine ⟨fun c44 => ?_, fun c44 => ?_⟩
  · exact absurd h4 (by grind)
  · refine J_blk a_X6_minds_7 ?_
    simp only [b_X6_minds_7, w_aload_n0, w_iload_n3, w_nil, kd_46, kd_47, kd_48, kd_49, kd_50, kd_51, kd_52, kd_53, kd_54, kd_55, kd_56, kd_57, kd_58, kd_59, ln_47, ln_48, ln_49, ln_50, ln_51, ln_52, ln_53, ln_54, ln_55, ln_56, ln_57, ln_58, ln_59, Option.toList_some, Option.toList_none, List.cons_append, List.nil_append, true_and, and_true, if_true, if_false, true_or, or_true, Nat.reduceAdd, Int.reduceAdd, Bool.false_eq_true, tn_0, tn_1, tn_2, tn_3, tn_4, tn_5, tn_6, tn_7, h0]
    refine J_callVr (ci := 6) (isOne_ok _ _) k_X6_minds_9 o_X6_isOne rfl rfl rfl rfl (by decide) rfl (Nat.le_of_ble_eq_true rfl) ?_
    simp only [h0]
    refine J_blk a_X6_minds_12 ?_
    simp only [b_X6_minds_12, w_if_eq, w_nil, kd_46, kd_47, kd_48, kd_49, kd_50, kd_51, kd_52, kd_53, kd_54, kd_55, kd_56, kd_57, kd_58, kd_59, ln_47, ln_48, ln_49, ln_50, ln_51, ln_52, ln_53, ln_54, ln_55, ln_56, ln_57, ln_58, ln_59, Option.toList_some, Option.toList_none, List.cons_append, List.nil_append, true_and, and_true, if_true, if_false, true_or, or_true, Nat.reduceAdd, Int.reduceAdd, Bool.false_eq_true, tn_0, tn_1, tn_2, tn_3, tn_4, tn_5, tn_6, tn_7, h0]
    refine ⟨fun c45 => ?_, fun c45 => ?_⟩
    · exact absurd h4 (by grind)
    · refine J_blk a_X6_minds_15 ?_
      simp only [b_X6_minds_15, w_iload4, w_i2l, w_lconst_0, w_ldc2, cl_8, w_nil, kd_46, kd_47, kd_48, kd_49, kd_50, kd_51, kd_52, kd_53, kd_54, kd_55, kd_56, kd_57, kd_58, kd_59, ln_47, ln_48, ln_49, ln_50, ln_51, ln_52, ln_53, ln_54, ln_55, ln_56, ln_57, ln_58, ln_59, Option.toList_some, Option.toList_none, List.cons_append, List.nil_append, true_and, and_true, if_true, if_false, true_or, or_true, Nat.reduceAdd, Int.reduceAdd, Bool.false_eq_true, tn_0, tn_1, tn_2, tn_3, tn_4, tn_5, tn_6, tn_7, h0]
      refine J_callSr (isIn_ok _ _ _ _) k_X6_minds_22 o_X6_isIn rfl (by decide) rfl (Nat.le_of_ble_eq_true rfl) ?_
      simp only [l_le_1, l_le_2, l_le_3, l_le_5, l_le_7, l_le_8, l_le_9, l_le_10, l_le_13, l_le_20, l_le_30, l_le_60, l_le_99, l_le_9999, l_ge_0, l_ge_1, l_ge_6, l_ge_m1, i64_le]
      refine J_blk a_X6_minds_25 ?_
      simp only [b_X6_minds_25, w_if_eq, w_nil, kd_46, kd_47, kd_48, kd_49, kd_50, kd_51, kd_52, kd_53, kd_54, kd_55, kd_56, kd_57, kd_58, kd_59, ln_47, ln_48, ln_49, ln_50, ln_51, ln_52, ln_53, ln_54, ln_55, ln_56, ln_57, ln_58, ln_59, Option.toList_some, Option.toList_none, List.cons_append, List.nil_append, true_and, and_true, if_true, if_false, true_or, or_true, Nat.reduceAdd, Int.reduceAdd, Bool.false_eq_true, tn_0, tn_1, tn_2, tn_3, tn_4, tn_5, tn_6, tn_7, h0]
      refine ⟨fun c46 => ?_, fun c46 => ?_⟩
      · exact absurd h4 (by grind)
      · refine J_blk a_X6_minds_28 ?_
        simp only [b_X6_minds_28, w_iload_n3, w_iload4, w_iadd, w_aload_n0, w_getf6, ne0_1, w_iconst_0, w_iald, w_icmp_le, w_nil, kd_46, kd_47, kd_48, kd_49, kd_50, kd_51, kd_52, kd_53, kd_54, kd_55, kd_56, kd_57, kd_58, kd_59, ln_47, ln_48, ln_49, ln_50, ln_51, ln_52, ln_53, ln_54, ln_55, ln_56, ln_57, ln_58, ln_59, Option.toList_some, Option.toList_none, List.cons_append, List.nil_append, true_and, and_true, if_true, if_false, true_or, or_true, Nat.reduceAdd, Int.reduceAdd, Bool.false_eq_true, tn_0, tn_1, tn_2, tn_3, tn_4, tn_5, tn_6, tn_7, h0]
        refine ⟨(vlit (by decide)), ?_⟩
        refine ⟨fun c47 => ?_, fun c47 => ?_⟩
        · exact go
        · exact absurd h4 (by grind)
def mdR (s : Nat → Int32) (o : Nat) (nb : Nat → Int32) : Nat → (Nat → Int32)
  | 0 => s
  | m + 1 => upd (mdR s o nb m) (8 + 6 * (o + m) + 2) (wi (nb m))
theorem i64_addle (a b c : Nat) (ha : a < 2 ^ 30) (hb : b < 2 ^ 30) (hc : c < 2 ^ 30) : ((nI a).toInt64 + (nI b).toInt64 ≤ (nI c).toInt64) = (a + b ≤ c) := by
  rw [nI_l (by omega), nI_l (by omega), nI_l (by omega), lN_add]
  exact propext (pk_lLE (by omega) (by omega))
theorem mminds_o (t o k n z : Nat) (i : Int32) (M : Mm) (hw : WF (M.1 47) n) (ht : t < 4) (ho : o < n) (hk : o + k ≤ n) (hl : laS (M.1 53 t) 0 = 0) (hz : z ≤ 40) (ez : M.1 54 t = nI z) (hi : ¬ (∃ a, i = nI a ∧ a + k ≤ z)) : K 2 mX6_minds [.ref 46, .int (nI t), .int i, .int (nI o), .int (nI k)] M (Rt (some (.int (-12))) M) := by
  have h0 := hw.1
  have h8 := hw.2.1
  have h1 : 0 ≤ nI t ∧ nI t ≤ 3 := ok2 (m := 3) (by omega) (by decide)
  have h2 := ok1 ho (by omega)
  have h3 : 0 ≤ nI k ∧ nI k ≤ 8 := ok2 (m := 8) (by omega) (by decide)
  have h4 : nI o + nI k ≤ nI n := by rw [nI_add]; exact nI_le hk (by omega)
  have tt : (nI t).toNatClampNeg = t := nI_clamp (by omega)
  have go2 : J 2 mX6_minds 59 [some (.ref 46), some (.int (nI t)), some (.int i), some (.int (nI o)), some (.int (nI k)), none] [] M (Rt (some (.int (-12))) M) := by
    refine J_blk a_X6_minds_59 ?_
    simp only [b_X6_minds_59, w_iload_n2, w_i2l, w_lconst_0, w_aload_n0, w_getf6, ne0_8, w_iload_n1, w_iald, w_nil, kd_46, kd_47, kd_48, kd_49, kd_50, kd_51, kd_52, kd_53, kd_54, kd_55, kd_56, kd_57, kd_58, kd_59, ln_47, ln_48, ln_49, ln_50, ln_51, ln_52, ln_53, ln_54, ln_55, ln_56, ln_57, ln_58, ln_59, Option.toList_some, Option.toList_none, List.cons_append, List.nil_append, true_and, and_true, if_true, if_false, true_or, or_true, Nat.reduceAdd, Int.reduceAdd, Bool.false_eq_true, tn_0, tn_1, tn_2, tn_3, tn_4, tn_5, tn_6, tn_7, tt, ez]
    refine ⟨vinN ht (by decide), ?_⟩
    refine J_callSr (isIn_ok _ _ _ _) k_X6_minds_69 o_X6_isIn rfl (by decide) rfl (Nat.le_of_ble_eq_true rfl) ?_
    simp only [l_le_1, l_le_2, l_le_3, l_le_5, l_le_7, l_le_8, l_le_9, l_le_10, l_le_13, l_le_20, l_le_30, l_le_60, l_le_99, l_le_9999, l_ge_0, l_ge_1, l_ge_6, l_ge_m1, i64_le]
    by_cases hin : 0 ≤ i ∧ i ≤ nI z
    · rw [if_pos hin]
      obtain ⟨a, ha, rfl⟩ := inNc (n := z) _ rfl hin (by omega)
      refine J_blk a_X6_minds_72 ?_
      simp only [b_X6_minds_72, w_if_eq, w_nil, kd_46, kd_47, kd_48, kd_49, kd_50, kd_51, kd_52, kd_53, kd_54, kd_55, kd_56, kd_57, kd_58, kd_59, ln_47, ln_48, ln_49, ln_50, ln_51, ln_52, ln_53, ln_54, ln_55, ln_56, ln_57, ln_58, ln_59, Option.toList_some, Option.toList_none, List.cons_append, List.nil_append, true_and, and_true, if_true, if_false, true_or, or_true, Nat.reduceAdd, Int.reduceAdd, Bool.false_eq_true, tn_0, tn_1, tn_2, tn_3, tn_4, tn_5, tn_6, tn_7]
      refine ⟨fun h => absurd h (by decide), fun _ => ?_⟩
      refine J_blk a_X6_minds_75 ?_
      simp only [b_X6_minds_75, w_iload_n2, w_i2l, w_iload4, w_ladd, w_aload_n0, w_getf6, ne0_8, w_iload_n1, w_iald, w_lcmp, w_if_le, w_nil, kd_46, kd_47, kd_48, kd_49, kd_50, kd_51, kd_52, kd_53, kd_54, kd_55, kd_56, kd_57, kd_58, kd_59, ln_47, ln_48, ln_49, ln_50, ln_51, ln_52, ln_53, ln_54, ln_55, ln_56, ln_57, ln_58, ln_59, Option.toList_some, Option.toList_none, List.cons_append, List.nil_append, true_and, and_true, if_true, if_false, true_or, or_true, Nat.reduceAdd, Int.reduceAdd, Bool.false_eq_true, tn_0, tn_1, tn_2, tn_3, tn_4, tn_5, tn_6, tn_7, tt, ez, lgle, i64_addle a k z (by omega) (by omega) (by omega)]
      refine ⟨vinN ht (by decide), fun c => absurd ⟨a, rfl, c⟩ hi, fun _ => ?_⟩
      refine J_blk a_X6_minds_92 ?_
      simp only [b_X6_minds_92, w_bipush, ci_m12, w_ireti, kd_46, kd_47, kd_48, kd_49, kd_50, kd_51, kd_52, kd_53, kd_54, kd_55, kd_56, kd_57, kd_58, kd_59, ln_47, ln_48, ln_49, ln_50, ln_51, ln_52, ln_53, ln_54, ln_55, ln_56, ln_57, ln_58, ln_59, Option.toList_some, Option.toList_none, List.cons_append, List.nil_append, true_and, and_true, if_true, if_false, true_or, or_true, Nat.reduceAdd, Int.reduceAdd, Bool.false_eq_true, tn_0, tn_1, tn_2, tn_3, tn_4, tn_5, tn_6, tn_7]
      first | exact ⟨rfl, rfl⟩ | (simp_all [Rt])
    · rw [if_neg hin]
      refine J_blk a_X6_minds_72 ?_
      simp only [b_X6_minds_72, w_if_eq, w_nil, kd_46, kd_47, kd_48, kd_49, kd_50, kd_51, kd_52, kd_53, kd_54, kd_55, kd_56, kd_57, kd_58, kd_59, ln_47, ln_48, ln_49, ln_50, ln_51, ln_52, ln_53, ln_54, ln_55, ln_56, ln_57, ln_58, ln_59, Option.toList_some, Option.toList_none, List.cons_append, List.nil_append, true_and, and_true, if_true, if_false, true_or, or_true, Nat.reduceAdd, Int.reduceAdd, Bool.false_eq_true, tn_0, tn_1, tn_2, tn_3, tn_4, tn_5, tn_6, tn_7]
      refine ⟨fun _ => ?_, fun h => absurd trivial h⟩
      refine J_blk a_X6_minds_92 ?_
      simp only [b_X6_minds_92, w_bipush, ci_m12, w_ireti, kd_46, kd_47, kd_48, kd_49, kd_50, kd_51, kd_52, kd_53, kd_54, kd_55, kd_56, kd_57, kd_58, kd_59, ln_47, ln_48, ln_49, ln_50, ln_51, ln_52, ln_53, ln_54, ln_55, ln_56, ln_57, ln_58, ln_59, Option.toList_some, Option.toList_none, List.cons_append, List.nil_append, true_and, and_true, if_true, if_false, true_or, or_true, Nat.reduceAdd, Int.reduceAdd, Bool.false_eq_true, tn_0, tn_1, tn_2, tn_3, tn_4, tn_5, tn_6, tn_7]
      first | exact ⟨rfl, rfl⟩ | (simp_all [Rt])
  have go : J 2 mX6_minds 43 [some (.ref 46), some (.int (nI t)), some (.int i), some (.int (nI o)), some (.int (nI k)), none] [] M (Rt (some (.int (-12))) M) := by
    refine J_blk a_X6_minds_43 ?_
    simp only [b_X6_minds_43, w_aload_n0, w_iload_n1, w_iconst_0, w_nil, kd_46, kd_47, kd_48, kd_49, kd_50, kd_51, kd_52, kd_53, kd_54, kd_55, kd_56, kd_57, kd_58, kd_59, ln_47, ln_48, ln_49, ln_50, ln_51, ln_52, ln_53, ln_54, ln_55, ln_56, ln_57, ln_58, ln_59, Option.toList_some, Option.toList_none, List.cons_append, List.nil_append, true_and, and_true, if_true, if_false, true_or, or_true, Nat.reduceAdd, Int.reduceAdd, Bool.false_eq_true, tn_0, tn_1, tn_2, tn_3, tn_4, tn_5, tn_6, tn_7]
    refine J_callVr (ci := 6) (lacks_ok _ _ _ ht) k_X6_minds_46 o_X6_lacks rfl rfl rfl rfl (by decide) rfl (Nat.le_of_ble_eq_true rfl) ?_
    refine J_blk a_X6_minds_49 ?_
    simp only [b_X6_minds_49, w_if_eq, w_nil, kd_46, kd_47, kd_48, kd_49, kd_50, kd_51, kd_52, kd_53, kd_54, kd_55, kd_56, kd_57, kd_58, kd_59, ln_47, ln_48, ln_49, ln_50, ln_51, ln_52, ln_53, ln_54, ln_55, ln_56, ln_57, ln_58, ln_59, Option.toList_some, Option.toList_none, List.cons_append, List.nil_append, true_and, and_true, if_true, if_false, true_or, or_true, Nat.reduceAdd, Int.reduceAdd, Bool.false_eq_true, tn_0, tn_1, tn_2, tn_3, tn_4, tn_5, tn_6, tn_7]
    refine ⟨fun c48 => ?_, fun c48 => ?_⟩
    · exact go2
    · exact absurd hl (by assumption)
  refine K_go 4 o_X6_minds [none] rfl (Nat.le_of_ble_eq_true rfl) ?_
  simp only [lvA_i, lvA_a, lvA_l, lvA_nil, List.cons_append, List.nil_append]
  refine J_blk a_X6_minds_0 ?_
  simp only [b_X6_minds_0, w_iload_n1, w_nil, kd_46, kd_47, kd_48, kd_49, kd_50, kd_51, kd_52, kd_53, kd_54, kd_55, kd_56, kd_57, kd_58, kd_59, ln_47, ln_48, ln_49, ln_50, ln_51, ln_52, ln_53, ln_54, ln_55, ln_56, ln_57, ln_58, ln_59, Option.toList_some, Option.toList_none, List.cons_append, List.nil_append, true_and, and_true, if_true, if_false, true_or, or_true, Nat.reduceAdd, Int.reduceAdd, Bool.false_eq_true, tn_0, tn_1, tn_2, tn_3, tn_4, tn_5, tn_6, tn_7, h0]
  refine J_callSr (isSheet_ok _ _) k_X6_minds_1 o_X6_isSheet rfl (by decide) rfl (Nat.le_of_ble_eq_true rfl) ?_
  refine J_blk a_X6_minds_4 ?_
  simp only [b_X6_minds_4, w_if_eq, w_nil, kd_46, kd_47, kd_48, kd_49, kd_50, kd_51, kd_52, kd_53, kd_54, kd_55, kd_56, kd_57, kd_58, kd_59, ln_47, ln_48, ln_49, ln_50, ln_51, ln_52, ln_53, ln_54, ln_55, ln_56, ln_57, ln_58, ln_59, Option.toList_some, Option.toList_none, List.cons_append, List.nil_append, true_and, and_true, if_true, if_false, true_or, or_true, Nat.reduceAdd, Int.reduceAdd, Bool.false_eq_true, tn_0, tn_1, tn_2, tn_3, tn_4, tn_5, tn_6, tn_7, h0]
  refine ⟨fun c49 => ?_, fun c49 => ?_⟩
  · exact absurd h4 (by grind)
  · refine J_blk a_X6_minds_7 ?_
    simp only [b_X6_minds_7, w_aload_n0, w_iload_n3, w_nil, kd_46, kd_47, kd_48, kd_49, kd_50, kd_51, kd_52, kd_53, kd_54, kd_55, kd_56, kd_57, kd_58, kd_59, ln_47, ln_48, ln_49, ln_50, ln_51, ln_52, ln_53, ln_54, ln_55, ln_56, ln_57, ln_58, ln_59, Option.toList_some, Option.toList_none, List.cons_append, List.nil_append, true_and, and_true, if_true, if_false, true_or, or_true, Nat.reduceAdd, Int.reduceAdd, Bool.false_eq_true, tn_0, tn_1, tn_2, tn_3, tn_4, tn_5, tn_6, tn_7, h0]
    refine J_callVr (ci := 6) (isOne_ok _ _) k_X6_minds_9 o_X6_isOne rfl rfl rfl rfl (by decide) rfl (Nat.le_of_ble_eq_true rfl) ?_
    simp only [h0]
    refine J_blk a_X6_minds_12 ?_
    simp only [b_X6_minds_12, w_if_eq, w_nil, kd_46, kd_47, kd_48, kd_49, kd_50, kd_51, kd_52, kd_53, kd_54, kd_55, kd_56, kd_57, kd_58, kd_59, ln_47, ln_48, ln_49, ln_50, ln_51, ln_52, ln_53, ln_54, ln_55, ln_56, ln_57, ln_58, ln_59, Option.toList_some, Option.toList_none, List.cons_append, List.nil_append, true_and, and_true, if_true, if_false, true_or, or_true, Nat.reduceAdd, Int.reduceAdd, Bool.false_eq_true, tn_0, tn_1, tn_2, tn_3, tn_4, tn_5, tn_6, tn_7, h0]
    refine ⟨fun c50 => ?_, fun c50 => ?_⟩
    · exact absurd h4 (by grind)
    · refine J_blk a_X6_minds_15 ?_
      simp only [b_X6_minds_15, w_iload4, w_i2l, w_lconst_0, w_ldc2, cl_8, w_nil, kd_46, kd_47, kd_48, kd_49, kd_50, kd_51, kd_52, kd_53, kd_54, kd_55, kd_56, kd_57, kd_58, kd_59, ln_47, ln_48, ln_49, ln_50, ln_51, ln_52, ln_53, ln_54, ln_55, ln_56, ln_57, ln_58, ln_59, Option.toList_some, Option.toList_none, List.cons_append, List.nil_append, true_and, and_true, if_true, if_false, true_or, or_true, Nat.reduceAdd, Int.reduceAdd, Bool.false_eq_true, tn_0, tn_1, tn_2, tn_3, tn_4, tn_5, tn_6, tn_7, h0]
      refine J_callSr (isIn_ok _ _ _ _) k_X6_minds_22 o_X6_isIn rfl (by decide) rfl (Nat.le_of_ble_eq_true rfl) ?_
      simp only [l_le_1, l_le_2, l_le_3, l_le_5, l_le_7, l_le_8, l_le_9, l_le_10, l_le_13, l_le_20, l_le_30, l_le_60, l_le_99, l_le_9999, l_ge_0, l_ge_1, l_ge_6, l_ge_m1, i64_le]
      refine J_blk a_X6_minds_25 ?_
      simp only [b_X6_minds_25, w_if_eq, w_nil, kd_46, kd_47, kd_48, kd_49, kd_50, kd_51, kd_52, kd_53, kd_54, kd_55, kd_56, kd_57, kd_58, kd_59, ln_47, ln_48, ln_49, ln_50, ln_51, ln_52, ln_53, ln_54, ln_55, ln_56, ln_57, ln_58, ln_59, Option.toList_some, Option.toList_none, List.cons_append, List.nil_append, true_and, and_true, if_true, if_false, true_or, or_true, Nat.reduceAdd, Int.reduceAdd, Bool.false_eq_true, tn_0, tn_1, tn_2, tn_3, tn_4, tn_5, tn_6, tn_7, h0]
      refine ⟨fun c51 => ?_, fun c51 => ?_⟩
      · exact absurd h4 (by grind)
      · refine J_blk a_X6_minds_28 ?_
        simp only [b_X6_minds_28, w_iload_n3, w_iload4, w_iadd, w_aload_n0, w_getf6, ne0_1, w_iconst_0, w_iald, w_icmp_le, w_nil, kd_46, kd_47, kd_48, kd_49, kd_50, kd_51, kd_52, kd_53, kd_54, kd_55, kd_56, kd_57, kd_58, kd_59, ln_47, ln_48, ln_49, ln_50, ln_51, ln_52, ln_53, ln_54, ln_55, ln_56, ln_57, ln_58, ln_59, Option.toList_some, Option.toList_none, List.cons_append, List.nil_append, true_and, and_true, if_true, if_false, true_or, or_true, Nat.reduceAdd, Int.reduceAdd, Bool.false_eq_true, tn_0, tn_1, tn_2, tn_3, tn_4, tn_5, tn_6, tn_7, h0]
        refine ⟨(vlit (by decide)), ?_⟩
        refine ⟨fun c52 => ?_, fun c52 => ?_⟩
        · exact go
        · exact absurd h4 (by grind)
theorem mminds_t (t o k n z a : Nat) (M : Mm) (hw : WF (M.1 47) n) (ht : t < 4) (ho : o < n) (hk : o + k ≤ n) (hl : laS (M.1 53 t) 0 = 0) (hz : z ≤ 40) (ez : M.1 54 t = nI z) (hi : a + k ≤ z) : K 2 mX6_minds [.ref 46, .int (nI t), .int (nI a), .int (nI o), .int (nI k)] M (Rt (some (.int (nI k))) (su M 47 (mdR (M.1 47) o (fun m => M.1 55 (40 * t + a + m)) k))) := by
  have h0 := hw.1
  have h8 := hw.2.1
  have h1 : 0 ≤ nI t ∧ nI t ≤ 3 := ok2 (m := 3) (by omega) (by decide)
  have h2 := ok1 ho (by omega)
  have h3 : 0 ≤ nI k ∧ nI k ≤ 8 := ok2 (m := 8) (by omega) (by decide)
  have h4 : nI o + nI k ≤ nI n := by rw [nI_add]; exact nI_le hk (by omega)
  have tt : (nI t).toNatClampNeg = t := nI_clamp (by omega)
  have e40 : (40 : Int32) * nI t = nI (40 * t) := pk_mul 40 t
  have loop : ∀ m, m ≤ k → J 2 mX6_minds 98 [some (.ref 46), some (.int (nI t)), some (.int (nI a)), some (.int (nI o)), some (.int (nI k)), some (.int (nI m))] [] (su M 47 (mdR (M.1 47) o (fun m => M.1 55 (40 * t + a + m)) m)) (Rt (some (.int (nI k))) (su M 47 (mdR (M.1 47) o (fun m => M.1 55 (40 * t + a + m)) k))) := by
    refine down k ?_ ?_
    · refine J_blk a_X6_minds_98 ?_
      simp only [b_X6_minds_98, w_iload5, w_iload4, w_icmp_ge, w_nil, kd_46, kd_47, kd_48, kd_49, kd_50, kd_51, kd_52, kd_53, kd_54, kd_55, kd_56, kd_57, kd_58, kd_59, ln_47, ln_48, ln_49, ln_50, ln_51, ln_52, ln_53, ln_54, ln_55, ln_56, ln_57, ln_58, ln_59, Option.toList_some, Option.toList_none, List.cons_append, List.nil_append, true_and, and_true, if_true, if_false, true_or, or_true, Nat.reduceAdd, Int.reduceAdd, Bool.false_eq_true, tn_0, tn_1, tn_2, tn_3, tn_4, tn_5, tn_6, tn_7]
      refine ⟨fun _ => ?_, fun h => absurd (Int32.le_refl _) h⟩
      refine J_blk a_X6_minds_145 ?_
      simp only [b_X6_minds_145, w_iload4, w_ireti, kd_46, kd_47, kd_48, kd_49, kd_50, kd_51, kd_52, kd_53, kd_54, kd_55, kd_56, kd_57, kd_58, kd_59, ln_47, ln_48, ln_49, ln_50, ln_51, ln_52, ln_53, ln_54, ln_55, ln_56, ln_57, ln_58, ln_59, Option.toList_some, Option.toList_none, List.cons_append, List.nil_append, true_and, and_true, if_true, if_false, true_or, or_true, Nat.reduceAdd, Int.reduceAdd, Bool.false_eq_true, tn_0, tn_1, tn_2, tn_3, tn_4, tn_5, tn_6, tn_7]
      first | exact ⟨rfl, rfl⟩ | (simp_all [Rt])
    · intro m hm ih
      have ti : (nI (40 * t + a + m)).toNatClampNeg = 40 * t + a + m := nI_clamp (by omega)
      have tj : (nI (8 + 6 * (o + m) + 2)).toNatClampNeg = 8 + 6 * (o + m) + 2 := nI_clamp (by omega)
      refine J_blk a_X6_minds_98 ?_
      simp only [b_X6_minds_98, w_iload5, w_iload4, w_icmp_ge, w_nil, kd_46, kd_47, kd_48, kd_49, kd_50, kd_51, kd_52, kd_53, kd_54, kd_55, kd_56, kd_57, kd_58, kd_59, ln_47, ln_48, ln_49, ln_50, ln_51, ln_52, ln_53, ln_54, ln_55, ln_56, ln_57, ln_58, ln_59, Option.toList_some, Option.toList_none, List.cons_append, List.nil_append, true_and, and_true, if_true, if_false, true_or, or_true, Nat.reduceAdd, Int.reduceAdd, Bool.false_eq_true, tn_0, tn_1, tn_2, tn_3, tn_4, tn_5, tn_6, tn_7]
      refine ⟨fun h => absurd h (nI_ge hm (by omega)), fun _ => ?_⟩
      refine J_blk a_X6_minds_105 ?_
      simp only [b_X6_minds_105, w_aload_n0, w_getf6, ne0_1, w_bipush, ci_8, ci_6, w_iload_n3, w_iload5, w_iadd, w_imul, w_iconst_2, ne0_9, ci_40, w_iload_n1, w_iload_n2, w_iald, w_nil, kd_46, kd_47, kd_48, kd_49, kd_50, kd_51, kd_52, kd_53, kd_54, kd_55, kd_56, kd_57, kd_58, kd_59, ln_47, ln_48, ln_49, ln_50, ln_51, ln_52, ln_53, ln_54, ln_55, ln_56, ln_57, ln_58, ln_59, Option.toList_some, Option.toList_none, List.cons_append, List.nil_append, true_and, and_true, if_true, if_false, true_or, or_true, Nat.reduceAdd, Int.reduceAdd, Bool.false_eq_true, tn_0, tn_1, tn_2, tn_3, tn_4, tn_5, tn_6, tn_7, e40, nI_add, ti, ix0, ad2, su_ne M 47 55 _ (by decide)]
      refine ⟨vinN (by omega) (by decide), ?_⟩
      refine J_callSr (within_ok _ _) k_X6_minds_135 o_X6_within rfl (by decide) rfl (Nat.le_of_ble_eq_true rfl) ?_
      refine J_blk a_X6_minds_138 ?_
      simp only [b_X6_minds_138, w_iast, w_iinc5, nl_5n, nl_5i, nl_5a, ci_1, w_goto, kd_46, kd_47, kd_48, kd_49, kd_50, kd_51, kd_52, kd_53, kd_54, kd_55, kd_56, kd_57, kd_58, kd_59, ln_47, ln_48, ln_49, ln_50, ln_51, ln_52, ln_53, ln_54, ln_55, ln_56, ln_57, ln_58, ln_59, Option.toList_some, Option.toList_none, List.cons_append, List.nil_append, true_and, and_true, if_true, if_false, true_or, or_true, Nat.reduceAdd, Int.reduceAdd, Bool.false_eq_true, tn_0, tn_1, tn_2, tn_3, tn_4, tn_5, tn_6, tn_7, tj, u1_su, nI_1]
      exact ⟨vinN (by omega) (by decide), ih⟩
  have l0 := loop 0 (by omega)
  rw [mdR, su_self] at l0
  have go2 : J 2 mX6_minds 59 [some (.ref 46), some (.int (nI t)), some (.int (nI a)), some (.int (nI o)), some (.int (nI k)), none] [] M (Rt (some (.int (nI k))) (su M 47 (mdR (M.1 47) o (fun m => M.1 55 (40 * t + a + m)) k))) := by
    refine J_blk a_X6_minds_59 ?_
    simp only [b_X6_minds_59, w_iload_n2, w_i2l, w_lconst_0, w_aload_n0, w_getf6, ne0_8, w_iload_n1, w_iald, w_nil, kd_46, kd_47, kd_48, kd_49, kd_50, kd_51, kd_52, kd_53, kd_54, kd_55, kd_56, kd_57, kd_58, kd_59, ln_47, ln_48, ln_49, ln_50, ln_51, ln_52, ln_53, ln_54, ln_55, ln_56, ln_57, ln_58, ln_59, Option.toList_some, Option.toList_none, List.cons_append, List.nil_append, true_and, and_true, if_true, if_false, true_or, or_true, Nat.reduceAdd, Int.reduceAdd, Bool.false_eq_true, tn_0, tn_1, tn_2, tn_3, tn_4, tn_5, tn_6, tn_7, tt, ez]
    refine ⟨vinN ht (by decide), ?_⟩
    refine J_callSr (isIn_ok _ _ _ _) k_X6_minds_69 o_X6_isIn rfl (by decide) rfl (Nat.le_of_ble_eq_true rfl) ?_
    simp only [l_le_1, l_le_2, l_le_3, l_le_5, l_le_7, l_le_8, l_le_9, l_le_10, l_le_13, l_le_20, l_le_30, l_le_60, l_le_99, l_le_9999, l_ge_0, l_ge_1, l_ge_6, l_ge_m1, i64_le]
    rw [if_pos (ok2 (show a ≤ z by omega) (by omega))]
    refine J_blk a_X6_minds_72 ?_
    simp only [b_X6_minds_72, w_if_eq, w_nil, kd_46, kd_47, kd_48, kd_49, kd_50, kd_51, kd_52, kd_53, kd_54, kd_55, kd_56, kd_57, kd_58, kd_59, ln_47, ln_48, ln_49, ln_50, ln_51, ln_52, ln_53, ln_54, ln_55, ln_56, ln_57, ln_58, ln_59, Option.toList_some, Option.toList_none, List.cons_append, List.nil_append, true_and, and_true, if_true, if_false, true_or, or_true, Nat.reduceAdd, Int.reduceAdd, Bool.false_eq_true, tn_0, tn_1, tn_2, tn_3, tn_4, tn_5, tn_6, tn_7]
    refine ⟨fun h => absurd h (by decide), fun _ => ?_⟩
    refine J_blk a_X6_minds_75 ?_
    simp only [b_X6_minds_75, w_iload_n2, w_i2l, w_iload4, w_ladd, w_aload_n0, w_getf6, ne0_8, w_iload_n1, w_iald, w_lcmp, w_if_le, w_nil, kd_46, kd_47, kd_48, kd_49, kd_50, kd_51, kd_52, kd_53, kd_54, kd_55, kd_56, kd_57, kd_58, kd_59, ln_47, ln_48, ln_49, ln_50, ln_51, ln_52, ln_53, ln_54, ln_55, ln_56, ln_57, ln_58, ln_59, Option.toList_some, Option.toList_none, List.cons_append, List.nil_append, true_and, and_true, if_true, if_false, true_or, or_true, Nat.reduceAdd, Int.reduceAdd, Bool.false_eq_true, tn_0, tn_1, tn_2, tn_3, tn_4, tn_5, tn_6, tn_7, tt, ez, lgle, i64_addle a k z (by omega) (by omega) (by omega)]
    refine ⟨vinN ht (by decide), fun _ => ?_, fun c => absurd hi c⟩
    refine J_blk a_X6_minds_95 ?_
    simp only [b_X6_minds_95, w_iconst_0, w_istore5, nl_5n, nl_5i, nl_5a, w_nil, kd_46, kd_47, kd_48, kd_49, kd_50, kd_51, kd_52, kd_53, kd_54, kd_55, kd_56, kd_57, kd_58, kd_59, ln_47, ln_48, ln_49, ln_50, ln_51, ln_52, ln_53, ln_54, ln_55, ln_56, ln_57, ln_58, ln_59, Option.toList_some, Option.toList_none, List.cons_append, List.nil_append, true_and, and_true, if_true, if_false, true_or, or_true, Nat.reduceAdd, Int.reduceAdd, Bool.false_eq_true, tn_0, tn_1, tn_2, tn_3, tn_4, tn_5, tn_6, tn_7]
    exact l0
  have go : J 2 mX6_minds 43 [some (.ref 46), some (.int (nI t)), some (.int (nI a)), some (.int (nI o)), some (.int (nI k)), none] [] M (Rt (some (.int (nI k))) (su M 47 (mdR (M.1 47) o (fun m => M.1 55 (40 * t + a + m)) k))) := by
    refine J_blk a_X6_minds_43 ?_
    simp only [b_X6_minds_43, w_aload_n0, w_iload_n1, w_iconst_0, w_nil, kd_46, kd_47, kd_48, kd_49, kd_50, kd_51, kd_52, kd_53, kd_54, kd_55, kd_56, kd_57, kd_58, kd_59, ln_47, ln_48, ln_49, ln_50, ln_51, ln_52, ln_53, ln_54, ln_55, ln_56, ln_57, ln_58, ln_59, Option.toList_some, Option.toList_none, List.cons_append, List.nil_append, true_and, and_true, if_true, if_false, true_or, or_true, Nat.reduceAdd, Int.reduceAdd, Bool.false_eq_true, tn_0, tn_1, tn_2, tn_3, tn_4, tn_5, tn_6, tn_7]
    refine J_callVr (ci := 6) (lacks_ok _ _ _ ht) k_X6_minds_46 o_X6_lacks rfl rfl rfl rfl (by decide) rfl (Nat.le_of_ble_eq_true rfl) ?_
    refine J_blk a_X6_minds_49 ?_
    simp only [b_X6_minds_49, w_if_eq, w_nil, kd_46, kd_47, kd_48, kd_49, kd_50, kd_51, kd_52, kd_53, kd_54, kd_55, kd_56, kd_57, kd_58, kd_59, ln_47, ln_48, ln_49, ln_50, ln_51, ln_52, ln_53, ln_54, ln_55, ln_56, ln_57, ln_58, ln_59, Option.toList_some, Option.toList_none, List.cons_append, List.nil_append, true_and, and_true, if_true, if_false, true_or, or_true, Nat.reduceAdd, Int.reduceAdd, Bool.false_eq_true, tn_0, tn_1, tn_2, tn_3, tn_4, tn_5, tn_6, tn_7]
    refine ⟨fun c53 => ?_, fun c53 => ?_⟩
    · exact go2
    · exact absurd hl (by assumption)
  refine K_go 4 o_X6_minds [none] rfl (Nat.le_of_ble_eq_true rfl) ?_
  simp only [lvA_i, lvA_a, lvA_l, lvA_nil, List.cons_append, List.nil_append]
  refine J_blk a_X6_minds_0 ?_
  simp only [b_X6_minds_0, w_iload_n1, w_nil, kd_46, kd_47, kd_48, kd_49, kd_50, kd_51, kd_52, kd_53, kd_54, kd_55, kd_56, kd_57, kd_58, kd_59, ln_47, ln_48, ln_49, ln_50, ln_51, ln_52, ln_53, ln_54, ln_55, ln_56, ln_57, ln_58, ln_59, Option.toList_some, Option.toList_none, List.cons_append, List.nil_append, true_and, and_true, if_true, if_false, true_or, or_true, Nat.reduceAdd, Int.reduceAdd, Bool.false_eq_true, tn_0, tn_1, tn_2, tn_3, tn_4, tn_5, tn_6, tn_7, h0]
  refine J_callSr (isSheet_ok _ _) k_X6_minds_1 o_X6_isSheet rfl (by decide) rfl (Nat.le_of_ble_eq_true rfl) ?_
  refine J_blk a_X6_minds_4 ?_
  simp only [b_X6_minds_4, w_if_eq, w_nil, kd_46, kd_47, kd_48, kd_49, kd_50, kd_51, kd_52, kd_53, kd_54, kd_55, kd_56, kd_57, kd_58, kd_59, ln_47, ln_48, ln_49, ln_50, ln_51, ln_52, ln_53, ln_54, ln_55, ln_56, ln_57, ln_58, ln_59, Option.toList_some, Option.toList_none, List.cons_append, List.nil_append, true_and, and_true, if_true, if_false, true_or, or_true, Nat.reduceAdd, Int.reduceAdd, Bool.false_eq_true, tn_0, tn_1, tn_2, tn_3, tn_4, tn_5, tn_6, tn_7, h0]
  refine ⟨fun c54 => ?_, fun c54 => ?_⟩
  · exact absurd h4 (by grind)
  · refine J_blk a_X6_minds_7 ?_
    simp only [b_X6_minds_7, w_aload_n0, w_iload_n3, w_nil, kd_46, kd_47, kd_48, kd_49, kd_50, kd_51, kd_52, kd_53, kd_54, kd_55, kd_56, kd_57, kd_58, kd_59, ln_47, ln_48, ln_49, ln_50, ln_51, ln_52, ln_53, ln_54, ln_55, ln_56, ln_57, ln_58, ln_59, Option.toList_some, Option.toList_none, List.cons_append, List.nil_append, true_and, and_true, if_true, if_false, true_or, or_true, Nat.reduceAdd, Int.reduceAdd, Bool.false_eq_true, tn_0, tn_1, tn_2, tn_3, tn_4, tn_5, tn_6, tn_7, h0]
    refine J_callVr (ci := 6) (isOne_ok _ _) k_X6_minds_9 o_X6_isOne rfl rfl rfl rfl (by decide) rfl (Nat.le_of_ble_eq_true rfl) ?_
    simp only [h0]
    refine J_blk a_X6_minds_12 ?_
    simp only [b_X6_minds_12, w_if_eq, w_nil, kd_46, kd_47, kd_48, kd_49, kd_50, kd_51, kd_52, kd_53, kd_54, kd_55, kd_56, kd_57, kd_58, kd_59, ln_47, ln_48, ln_49, ln_50, ln_51, ln_52, ln_53, ln_54, ln_55, ln_56, ln_57, ln_58, ln_59, Option.toList_some, Option.toList_none, List.cons_append, List.nil_append, true_and, and_true, if_true, if_false, true_or, or_true, Nat.reduceAdd, Int.reduceAdd, Bool.false_eq_true, tn_0, tn_1, tn_2, tn_3, tn_4, tn_5, tn_6, tn_7, h0]
    refine ⟨fun c55 => ?_, fun c55 => ?_⟩
    · exact absurd h4 (by grind)
    · refine J_blk a_X6_minds_15 ?_
      simp only [b_X6_minds_15, w_iload4, w_i2l, w_lconst_0, w_ldc2, cl_8, w_nil, kd_46, kd_47, kd_48, kd_49, kd_50, kd_51, kd_52, kd_53, kd_54, kd_55, kd_56, kd_57, kd_58, kd_59, ln_47, ln_48, ln_49, ln_50, ln_51, ln_52, ln_53, ln_54, ln_55, ln_56, ln_57, ln_58, ln_59, Option.toList_some, Option.toList_none, List.cons_append, List.nil_append, true_and, and_true, if_true, if_false, true_or, or_true, Nat.reduceAdd, Int.reduceAdd, Bool.false_eq_true, tn_0, tn_1, tn_2, tn_3, tn_4, tn_5, tn_6, tn_7, h0]
      refine J_callSr (isIn_ok _ _ _ _) k_X6_minds_22 o_X6_isIn rfl (by decide) rfl (Nat.le_of_ble_eq_true rfl) ?_
      simp only [l_le_1, l_le_2, l_le_3, l_le_5, l_le_7, l_le_8, l_le_9, l_le_10, l_le_13, l_le_20, l_le_30, l_le_60, l_le_99, l_le_9999, l_ge_0, l_ge_1, l_ge_6, l_ge_m1, i64_le]
      refine J_blk a_X6_minds_25 ?_
      simp only [b_X6_minds_25, w_if_eq, w_nil, kd_46, kd_47, kd_48, kd_49, kd_50, kd_51, kd_52, kd_53, kd_54, kd_55, kd_56, kd_57, kd_58, kd_59, ln_47, ln_48, ln_49, ln_50, ln_51, ln_52, ln_53, ln_54, ln_55, ln_56, ln_57, ln_58, ln_59, Option.toList_some, Option.toList_none, List.cons_append, List.nil_append, true_and, and_true, if_true, if_false, true_or, or_true, Nat.reduceAdd, Int.reduceAdd, Bool.false_eq_true, tn_0, tn_1, tn_2, tn_3, tn_4, tn_5, tn_6, tn_7, h0]
      refine ⟨fun c56 => ?_, fun c56 => ?_⟩
      · exact absurd h4 (by grind)
      · refine J_blk a_X6_minds_28 ?_
        simp only [b_X6_minds_28, w_iload_n3, w_iload4, w_iadd, w_aload_n0, w_getf6, ne0_1, w_iconst_0, w_iald, w_icmp_le, w_nil, kd_46, kd_47, kd_48, kd_49, kd_50, kd_51, kd_52, kd_53, kd_54, kd_55, kd_56, kd_57, kd_58, kd_59, ln_47, ln_48, ln_49, ln_50, ln_51, ln_52, ln_53, ln_54, ln_55, ln_56, ln_57, ln_58, ln_59, Option.toList_some, Option.toList_none, List.cons_append, List.nil_append, true_and, and_true, if_true, if_false, true_or, or_true, Nat.reduceAdd, Int.reduceAdd, Bool.false_eq_true, tn_0, tn_1, tn_2, tn_3, tn_4, tn_5, tn_6, tn_7, h0]
        refine ⟨(vlit (by decide)), ?_⟩
        refine ⟨fun c57 => ?_, fun c57 => ?_⟩
        · exact go
        · exact absurd h4 (by grind)

