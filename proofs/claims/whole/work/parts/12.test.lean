theorem its_ok (o w : Int32) (M : Mm) (h : vp_in (8 + 6 * o + w) 56) : K 0 mX6_its [.ref 46, .int o, .int w] M (Rt (some (.int (M.1 47 (8 + 6 * o + w).toNatClampNeg))) M) := by
  refine K_of 2 o_X6_its _ rfl (Nat.le_of_ble_eq_true rfl) ?_
  refine J_blk a_X6_its_0 ?_
  simp only [b_X6_its_0, w_aload_n0, w_getf6, w_bipush, w_iload_n1, w_imul, w_iadd, w_iload_n2, w_iald, w_ireti, kd_46, kd_47, kd_48, kd_49, kd_50, kd_51, kd_52, kd_53, kd_54, kd_55, kd_56, kd_57, kd_58, kd_59, ln_47, ln_48, ln_49, ln_50, ln_51, ln_52, ln_53, ln_54, ln_55, ln_56, ln_57, ln_58, ln_59, Option.toList_some, Option.toList_none, List.cons_append, List.nil_append, true_and, and_true, if_true, if_false, true_or, or_true, true_implies, not_true_eq_false, not_false_eq_true, false_implies]
  exact ⟨h, rfl, rfl⟩
theorem isIn_ok (v lo hi : Int64) (M : Mm) : K 0 mX6_isIn [.long v, .long lo, .long hi] M (Rt (some (.int (if lo ≤ v ∧ v ≤ hi then 1 else 0))) M) := by
  refine K_of 3 o_X6_isIn _ rfl (Nat.le_of_ble_eq_true rfl) ?_
  refine J_blk a_X6_isIn_0 ?_
  simp only [b_X6_isIn_0, w_lload_n0, w_lload_n2, w_lcmp, w_if_lt, w_nil, kd_46, kd_47, kd_48, kd_49, kd_50, kd_51, kd_52, kd_53, kd_54, kd_55, kd_56, kd_57, kd_58, kd_59, ln_47, ln_48, ln_49, ln_50, ln_51, ln_52, ln_53, ln_54, ln_55, ln_56, ln_57, ln_58, ln_59, Option.toList_some, Option.toList_none, List.cons_append, List.nil_append, true_and, and_true, if_true, if_false, true_or, or_true, true_implies, not_true_eq_false, not_false_eq_true, false_implies]
  trace_state
  sorry

