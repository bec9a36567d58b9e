/-! the model: shelves, acts, the rest -/
def shB (n : Nat) (h w v : Int32) : Prop := (0 ≤ h ∧ h ≤ 3) ∧ (0 ≤ w ∧ w ≤ 2) ∧ (w = 0 → 0 ≤ v ∧ v < nI n) ∧ (w = 1 → 0 ≤ v ∧ v ≤ 3)
theorem mshelf_f (h w v : Int32) (M : Mm) (n : Nat) (hw : WF (M.1 47) n) (hb : ¬ shB n h w v) : K 2 mX6_shelf [.ref 46, .int h, .int w, .int v] M (Rt (some (.int (-1))) M) := by
  have h0 := hw.1
  unfold shB at hb
  refine K_go 3 o_X6_shelf [none] rfl (Nat.le_of_ble_eq_true rfl) ?_
  simp only [lvA_i, lvA_a, lvA_l, lvA_nil, List.cons_append, List.nil_append]
  refine J_blk a_X6_shelf_0 ?_
  simp only [b_X6_shelf_0, w_iload_n1, w_nil, kd_46, kd_47, kd_48, kd_49, kd_50, kd_51, kd_52, kd_53, kd_54, kd_55, kd_56, kd_57, kd_58, kd_59, ln_47, ln_48, ln_49, ln_50, ln_51, ln_52, ln_53, ln_54, ln_55, ln_56, ln_57, ln_58, ln_59, Option.toList_some, Option.toList_none, List.cons_append, List.nil_append, true_and, and_true, if_true, if_false, true_or, or_true, Nat.reduceAdd, Int.reduceAdd, Bool.false_eq_true, tn_0, tn_1, tn_2, tn_3, tn_4, tn_5, tn_6, tn_7]
  refine J_callSr (isShelf_ok _ _) k_X6_shelf_1 o_X6_isShelf rfl (by decide) rfl (Nat.le_of_ble_eq_true rfl) ?_
  refine J_blk a_X6_shelf_4 ?_
  simp only [b_X6_shelf_4, w_if_eq, w_nil, kd_46, kd_47, kd_48, kd_49, kd_50, kd_51, kd_52, kd_53, kd_54, kd_55, kd_56, kd_57, kd_58, kd_59, ln_47, ln_48, ln_49, ln_50, ln_51, ln_52, ln_53, ln_54, ln_55, ln_56, ln_57, ln_58, ln_59, Option.toList_some, Option.toList_none, List.cons_append, List.nil_append, true_and, and_true, if_true, if_false, true_or, or_true, Nat.reduceAdd, Int.reduceAdd, Bool.false_eq_true, tn_0, tn_1, tn_2, tn_3, tn_4, tn_5, tn_6, tn_7]
  refine ⟨fun c1 => ?_, fun c1 => ?_⟩
  · refine J_blk a_X6_shelf_43 ?_
    simp only [b_X6_shelf_43, w_iconst_m1, w_ireti, kd_46, kd_47, kd_48, kd_49, kd_50, kd_51, kd_52, kd_53, kd_54, kd_55, kd_56, kd_57, kd_58, kd_59, ln_47, ln_48, ln_49, ln_50, ln_51, ln_52, ln_53, ln_54, ln_55, ln_56, ln_57, ln_58, ln_59, Option.toList_some, Option.toList_none, List.cons_append, List.nil_append, true_and, and_true, if_true, if_false, true_or, or_true, Nat.reduceAdd, Int.reduceAdd, Bool.false_eq_true, tn_0, tn_1, tn_2, tn_3, tn_4, tn_5, tn_6, tn_7]
    exact ⟨rfl, rfl⟩
  · refine J_blk a_X6_shelf_7 ?_
    simp only [b_X6_shelf_7, w_iload_n2, w_i2l, w_lconst_0, w_ldc2, cl_2, w_nil, kd_46, kd_47, kd_48, kd_49, kd_50, kd_51, kd_52, kd_53, kd_54, kd_55, kd_56, kd_57, kd_58, kd_59, ln_47, ln_48, ln_49, ln_50, ln_51, ln_52, ln_53, ln_54, ln_55, ln_56, ln_57, ln_58, ln_59, Option.toList_some, Option.toList_none, List.cons_append, List.nil_append, true_and, and_true, if_true, if_false, true_or, or_true, Nat.reduceAdd, Int.reduceAdd, Bool.false_eq_true, tn_0, tn_1, tn_2, tn_3, tn_4, tn_5, tn_6, tn_7]
    refine J_callSr (isIn_ok _ _ _ _) k_X6_shelf_13 o_X6_isIn rfl (by decide) rfl (Nat.le_of_ble_eq_true rfl) ?_
    simp only [l_le_1, l_le_2, l_le_3, l_le_5, l_le_7, l_le_8, l_le_9, l_le_10, l_le_13, l_le_20, l_le_30, l_le_60, l_le_99, l_le_9999, l_ge_0, l_ge_1, l_ge_6, l_ge_m1, i64_le]
    refine J_blk a_X6_shelf_16 ?_
    simp only [b_X6_shelf_16, w_if_eq, w_nil, kd_46, kd_47, kd_48, kd_49, kd_50, kd_51, kd_52, kd_53, kd_54, kd_55, kd_56, kd_57, kd_58, kd_59, ln_47, ln_48, ln_49, ln_50, ln_51, ln_52, ln_53, ln_54, ln_55, ln_56, ln_57, ln_58, ln_59, Option.toList_some, Option.toList_none, List.cons_append, List.nil_append, true_and, and_true, if_true, if_false, true_or, or_true, Nat.reduceAdd, Int.reduceAdd, Bool.false_eq_true, tn_0, tn_1, tn_2, tn_3, tn_4, tn_5, tn_6, tn_7]
    refine ⟨fun c2 => ?_, fun c2 => ?_⟩
    · refine J_blk a_X6_shelf_43 ?_
      simp only [b_X6_shelf_43, w_iconst_m1, w_ireti, kd_46, kd_47, kd_48, kd_49, kd_50, kd_51, kd_52, kd_53, kd_54, kd_55, kd_56, kd_57, kd_58, kd_59, ln_47, ln_48, ln_49, ln_50, ln_51, ln_52, ln_53, ln_54, ln_55, ln_56, ln_57, ln_58, ln_59, Option.toList_some, Option.toList_none, List.cons_append, List.nil_append, true_and, and_true, if_true, if_false, true_or, or_true, Nat.reduceAdd, Int.reduceAdd, Bool.false_eq_true, tn_0, tn_1, tn_2, tn_3, tn_4, tn_5, tn_6, tn_7]
      exact ⟨rfl, rfl⟩
    · refine J_blk a_X6_shelf_19 ?_
      simp only [b_X6_shelf_19, w_iload_n2, w_if_ne, w_nil, kd_46, kd_47, kd_48, kd_49, kd_50, kd_51, kd_52, kd_53, kd_54, kd_55, kd_56, kd_57, kd_58, kd_59, ln_47, ln_48, ln_49, ln_50, ln_51, ln_52, ln_53, ln_54, ln_55, ln_56, ln_57, ln_58, ln_59, Option.toList_some, Option.toList_none, List.cons_append, List.nil_append, true_and, and_true, if_true, if_false, true_or, or_true, Nat.reduceAdd, Int.reduceAdd, Bool.false_eq_true, tn_0, tn_1, tn_2, tn_3, tn_4, tn_5, tn_6, tn_7]
      refine ⟨fun c3 => ?_, fun c3 => ?_⟩
      · refine J_blk a_X6_shelf_31 ?_
        simp only [b_X6_shelf_31, w_iload_n2, w_iconst_1, w_icmp_ne, w_nil, kd_46, kd_47, kd_48, kd_49, kd_50, kd_51, kd_52, kd_53, kd_54, kd_55, kd_56, kd_57, kd_58, kd_59, ln_47, ln_48, ln_49, ln_50, ln_51, ln_52, ln_53, ln_54, ln_55, ln_56, ln_57, ln_58, ln_59, Option.toList_some, Option.toList_none, List.cons_append, List.nil_append, true_and, and_true, if_true, if_false, true_or, or_true, Nat.reduceAdd, Int.reduceAdd, Bool.false_eq_true, tn_0, tn_1, tn_2, tn_3, tn_4, tn_5, tn_6, tn_7]
        refine ⟨fun c4 => ?_, fun c4 => ?_⟩
        · exact absurd (by grind) hb
        · refine J_blk a_X6_shelf_36 ?_
          simp only [b_X6_shelf_36, w_iload_n3, w_nil, kd_46, kd_47, kd_48, kd_49, kd_50, kd_51, kd_52, kd_53, kd_54, kd_55, kd_56, kd_57, kd_58, kd_59, ln_47, ln_48, ln_49, ln_50, ln_51, ln_52, ln_53, ln_54, ln_55, ln_56, ln_57, ln_58, ln_59, Option.toList_some, Option.toList_none, List.cons_append, List.nil_append, true_and, and_true, if_true, if_false, true_or, or_true, Nat.reduceAdd, Int.reduceAdd, Bool.false_eq_true, tn_0, tn_1, tn_2, tn_3, tn_4, tn_5, tn_6, tn_7]
          refine J_callSr (isSheet_ok _ _) k_X6_shelf_37 o_X6_isSheet rfl (by decide) rfl (Nat.le_of_ble_eq_true rfl) ?_
          refine J_blk a_X6_shelf_40 ?_
          simp only [b_X6_shelf_40, w_if_ne, w_nil, kd_46, kd_47, kd_48, kd_49, kd_50, kd_51, kd_52, kd_53, kd_54, kd_55, kd_56, kd_57, kd_58, kd_59, ln_47, ln_48, ln_49, ln_50, ln_51, ln_52, ln_53, ln_54, ln_55, ln_56, ln_57, ln_58, ln_59, Option.toList_some, Option.toList_none, List.cons_append, List.nil_append, true_and, and_true, if_true, if_false, true_or, or_true, Nat.reduceAdd, Int.reduceAdd, Bool.false_eq_true, tn_0, tn_1, tn_2, tn_3, tn_4, tn_5, tn_6, tn_7]
          refine ⟨fun c5 => ?_, fun c5 => ?_⟩
          · exact absurd (by grind) hb
          · refine J_blk a_X6_shelf_43 ?_
            simp only [b_X6_shelf_43, w_iconst_m1, w_ireti, kd_46, kd_47, kd_48, kd_49, kd_50, kd_51, kd_52, kd_53, kd_54, kd_55, kd_56, kd_57, kd_58, kd_59, ln_47, ln_48, ln_49, ln_50, ln_51, ln_52, ln_53, ln_54, ln_55, ln_56, ln_57, ln_58, ln_59, Option.toList_some, Option.toList_none, List.cons_append, List.nil_append, true_and, and_true, if_true, if_false, true_or, or_true, Nat.reduceAdd, Int.reduceAdd, Bool.false_eq_true, tn_0, tn_1, tn_2, tn_3, tn_4, tn_5, tn_6, tn_7]
            exact ⟨rfl, rfl⟩
      · refine J_blk a_X6_shelf_23 ?_
        simp only [b_X6_shelf_23, w_aload_n0, w_iload_n3, w_nil, kd_46, kd_47, kd_48, kd_49, kd_50, kd_51, kd_52, kd_53, kd_54, kd_55, kd_56, kd_57, kd_58, kd_59, ln_47, ln_48, ln_49, ln_50, ln_51, ln_52, ln_53, ln_54, ln_55, ln_56, ln_57, ln_58, ln_59, Option.toList_some, Option.toList_none, List.cons_append, List.nil_append, true_and, and_true, if_true, if_false, true_or, or_true, Nat.reduceAdd, Int.reduceAdd, Bool.false_eq_true, tn_0, tn_1, tn_2, tn_3, tn_4, tn_5, tn_6, tn_7]
        refine J_callVr (ci := 6) (isOne_ok _ _) k_X6_shelf_25 o_X6_isOne rfl rfl rfl rfl (by decide) rfl (Nat.le_of_ble_eq_true rfl) ?_
        simp only [h0]
        refine J_blk a_X6_shelf_28 ?_
        simp only [b_X6_shelf_28, w_if_eq, w_nil, kd_46, kd_47, kd_48, kd_49, kd_50, kd_51, kd_52, kd_53, kd_54, kd_55, kd_56, kd_57, kd_58, kd_59, ln_47, ln_48, ln_49, ln_50, ln_51, ln_52, ln_53, ln_54, ln_55, ln_56, ln_57, ln_58, ln_59, Option.toList_some, Option.toList_none, List.cons_append, List.nil_append, true_and, and_true, if_true, if_false, true_or, or_true, Nat.reduceAdd, Int.reduceAdd, Bool.false_eq_true, tn_0, tn_1, tn_2, tn_3, tn_4, tn_5, tn_6, tn_7]
        refine ⟨fun c6 => ?_, fun c6 => ?_⟩
        · refine J_blk a_X6_shelf_43 ?_
          simp only [b_X6_shelf_43, w_iconst_m1, w_ireti, kd_46, kd_47, kd_48, kd_49, kd_50, kd_51, kd_52, kd_53, kd_54, kd_55, kd_56, kd_57, kd_58, kd_59, ln_47, ln_48, ln_49, ln_50, ln_51, ln_52, ln_53, ln_54, ln_55, ln_56, ln_57, ln_58, ln_59, Option.toList_some, Option.toList_none, List.cons_append, List.nil_append, true_and, and_true, if_true, if_false, true_or, or_true, Nat.reduceAdd, Int.reduceAdd, Bool.false_eq_true, tn_0, tn_1, tn_2, tn_3, tn_4, tn_5, tn_6, tn_7]
          exact ⟨rfl, rfl⟩
        · refine J_blk a_X6_shelf_31 ?_
          simp only [b_X6_shelf_31, w_iload_n2, w_iconst_1, w_icmp_ne, w_nil, kd_46, kd_47, kd_48, kd_49, kd_50, kd_51, kd_52, kd_53, kd_54, kd_55, kd_56, kd_57, kd_58, kd_59, ln_47, ln_48, ln_49, ln_50, ln_51, ln_52, ln_53, ln_54, ln_55, ln_56, ln_57, ln_58, ln_59, Option.toList_some, Option.toList_none, List.cons_append, List.nil_append, true_and, and_true, if_true, if_false, true_or, or_true, Nat.reduceAdd, Int.reduceAdd, Bool.false_eq_true, tn_0, tn_1, tn_2, tn_3, tn_4, tn_5, tn_6, tn_7]
          refine ⟨fun c7 => ?_, fun c7 => ?_⟩
          · exact absurd (by grind) hb
          · refine J_blk a_X6_shelf_36 ?_
            simp only [b_X6_shelf_36, w_iload_n3, w_nil, kd_46, kd_47, kd_48, kd_49, kd_50, kd_51, kd_52, kd_53, kd_54, kd_55, kd_56, kd_57, kd_58, kd_59, ln_47, ln_48, ln_49, ln_50, ln_51, ln_52, ln_53, ln_54, ln_55, ln_56, ln_57, ln_58, ln_59, Option.toList_some, Option.toList_none, List.cons_append, List.nil_append, true_and, and_true, if_true, if_false, true_or, or_true, Nat.reduceAdd, Int.reduceAdd, Bool.false_eq_true, tn_0, tn_1, tn_2, tn_3, tn_4, tn_5, tn_6, tn_7]
            refine J_callSr (isSheet_ok _ _) k_X6_shelf_37 o_X6_isSheet rfl (by decide) rfl (Nat.le_of_ble_eq_true rfl) ?_
            refine J_blk a_X6_shelf_40 ?_
            simp only [b_X6_shelf_40, w_if_ne, w_nil, kd_46, kd_47, kd_48, kd_49, kd_50, kd_51, kd_52, kd_53, kd_54, kd_55, kd_56, kd_57, kd_58, kd_59, ln_47, ln_48, ln_49, ln_50, ln_51, ln_52, ln_53, ln_54, ln_55, ln_56, ln_57, ln_58, ln_59, Option.toList_some, Option.toList_none, List.cons_append, List.nil_append, true_and, and_true, if_true, if_false, true_or, or_true, Nat.reduceAdd, Int.reduceAdd, Bool.false_eq_true, tn_0, tn_1, tn_2, tn_3, tn_4, tn_5, tn_6, tn_7]
            refine ⟨fun c8 => ?_, fun c8 => ?_⟩
            · exact absurd (by grind) hb
            · refine J_blk a_X6_shelf_43 ?_
              simp only [b_X6_shelf_43, w_iconst_m1, w_ireti, kd_46, kd_47, kd_48, kd_49, kd_50, kd_51, kd_52, kd_53, kd_54, kd_55, kd_56, kd_57, kd_58, kd_59, ln_47, ln_48, ln_49, ln_50, ln_51, ln_52, ln_53, ln_54, ln_55, ln_56, ln_57, ln_58, ln_59, Option.toList_some, Option.toList_none, List.cons_append, List.nil_append, true_and, and_true, if_true, if_false, true_or, or_true, Nat.reduceAdd, Int.reduceAdd, Bool.false_eq_true, tn_0, tn_1, tn_2, tn_3, tn_4, tn_5, tn_6, tn_7]
              exact ⟨rfl, rfl⟩
def srB (M : Mm) (w v : Int32) : Bool := decide (w = 1 ∧ 0 ≤ M.1 53 v.toNatClampNeg)
def slM (M : Mm) (h : Nat) (w v : Int32) : Mm := u1 (u1 (u1 M 56 h (if w = 0 then 1 else if srB M w v = true then 2 else 0)) 57 h (if w = 0 then v else if srB M w v = true then M.1 53 v.toNatClampNeg else 0)) 58 h (if srB M w v = true then M.1 54 v.toNatClampNeg else 0)
theorem u1_o (M : Mm) (c j : Nat) (v : Int32) {a : Nat} (h : a ≠ c) : (u1 M c j v).1 a = M.1 a := by funext b; simp [u1, h]
theorem mshelf_t (h n : Nat) (w v : Int32) (M : Mm) (hw : WF (M.1 47) n) (hh : h < 4) (hb : shB n (nI h) w v) : K 2 mX6_shelf [.ref 46, .int (nI h), .int w, .int v] M (Rt (some (.int 1)) (slM M h w v)) := by
  have h0 := hw.1
  have th : (nI h).toNatClampNeg = h := nI_clamp (by omega)
  unfold shB at hb
  have iv : w = 1 → vp_in v 4 := fun e => by
    obtain ⟨a, ha, rfl⟩ := inNc (n := 3) 3 rfl (hb.2.2.2 e) (by decide)
    exact vinN (by omega) (by decide)
  have t3 : ∀ (b : Bool), b = srB M w v → ∀ c1 c2, J 2 mX6_shelf 118 [some (.ref 46), some (.int (nI h)), some (.int w), some (.int v), some (.int (bI b))] [.int c2, .int (nI h), .ref 57] (u1 M 56 h c1) (Rt (some (.int 1)) (u1 (u1 (u1 M 56 h c1) 57 h c2) 58 h (if srB M w v = true then M.1 54 v.toNatClampNeg else 0))) := by
    intro b hbb c1 c2
    refine J_blk a_X6_shelf_118 ?_
    simp only [b_X6_shelf_118, w_iast, w_aload_n0, w_getf6, ne0_12, w_iload_n1, w_iload4, w_if_eq, w_nil, kd_46, kd_47, kd_48, kd_49, kd_50, kd_51, kd_52, kd_53, kd_54, kd_55, kd_56, kd_57, kd_58, kd_59, ln_47, ln_48, ln_49, ln_50, ln_51, ln_52, ln_53, ln_54, ln_55, ln_56, ln_57, ln_58, ln_59, Option.toList_some, Option.toList_none, List.cons_append, List.nil_append, true_and, and_true, if_true, if_false, true_or, or_true, Nat.reduceAdd, Int.reduceAdd, Bool.false_eq_true, tn_0, tn_1, tn_2, tn_3, tn_4, tn_5, tn_6, tn_7, th]
    refine ⟨vinN hh (by decide), fun c => ?_, fun c => ?_⟩
    · have : b = false := by cases b <;> simp [bI] at c ⊢
      rw [← hbb, this]
      refine J_blk a_X6_shelf_138 ?_
      simp only [b_X6_shelf_138, w_iconst_0, w_nil, kd_46, kd_47, kd_48, kd_49, kd_50, kd_51, kd_52, kd_53, kd_54, kd_55, kd_56, kd_57, kd_58, kd_59, ln_47, ln_48, ln_49, ln_50, ln_51, ln_52, ln_53, ln_54, ln_55, ln_56, ln_57, ln_58, ln_59, Option.toList_some, Option.toList_none, List.cons_append, List.nil_append, true_and, and_true, if_true, if_false, true_or, or_true, Nat.reduceAdd, Int.reduceAdd, Bool.false_eq_true, tn_0, tn_1, tn_2, tn_3, tn_4, tn_5, tn_6, tn_7]
      refine J_blk a_X6_shelf_139 ?_
      simp only [b_X6_shelf_139, w_iast, w_iconst_1, w_ireti, kd_46, kd_47, kd_48, kd_49, kd_50, kd_51, kd_52, kd_53, kd_54, kd_55, kd_56, kd_57, kd_58, kd_59, ln_47, ln_48, ln_49, ln_50, ln_51, ln_52, ln_53, ln_54, ln_55, ln_56, ln_57, ln_58, ln_59, Option.toList_some, Option.toList_none, List.cons_append, List.nil_append, true_and, and_true, if_true, if_false, true_or, or_true, Nat.reduceAdd, Int.reduceAdd, Bool.false_eq_true, tn_0, tn_1, tn_2, tn_3, tn_4, tn_5, tn_6, tn_7, th]
      exact ⟨vinN hh (by decide), rfl, rfl⟩
    · have : b = true := by cases b <;> simp [bI] at c ⊢
      have hw1 : w = 1 := by rw [this] at hbb; unfold srB at hbb; exact (of_decide_eq_true hbb.symm).1
      rw [← hbb, this]
      refine J_blk a_X6_shelf_129 ?_
      simp only [b_X6_shelf_129, w_aload_n0, w_getf6, ne0_8, w_iload_n3, w_iald, w_goto, kd_46, kd_47, kd_48, kd_49, kd_50, kd_51, kd_52, kd_53, kd_54, kd_55, kd_56, kd_57, kd_58, kd_59, ln_47, ln_48, ln_49, ln_50, ln_51, ln_52, ln_53, ln_54, ln_55, ln_56, ln_57, ln_58, ln_59, Option.toList_some, Option.toList_none, List.cons_append, List.nil_append, true_and, and_true, if_true, if_false, true_or, or_true, Nat.reduceAdd, Int.reduceAdd, Bool.false_eq_true, tn_0, tn_1, tn_2, tn_3, tn_4, tn_5, tn_6, tn_7, u1_o _ _ _ _ (show (54 : Nat) ≠ 57 by decide), u1_o _ _ _ _ (show (54 : Nat) ≠ 56 by decide)]
      refine ⟨iv hw1, ?_⟩
      refine J_blk a_X6_shelf_139 ?_
      simp only [b_X6_shelf_139, w_iast, w_iconst_1, w_ireti, kd_46, kd_47, kd_48, kd_49, kd_50, kd_51, kd_52, kd_53, kd_54, kd_55, kd_56, kd_57, kd_58, kd_59, ln_47, ln_48, ln_49, ln_50, ln_51, ln_52, ln_53, ln_54, ln_55, ln_56, ln_57, ln_58, ln_59, Option.toList_some, Option.toList_none, List.cons_append, List.nil_append, true_and, and_true, if_true, if_false, true_or, or_true, Nat.reduceAdd, Int.reduceAdd, Bool.false_eq_true, tn_0, tn_1, tn_2, tn_3, tn_4, tn_5, tn_6, tn_7, th]
      exact ⟨vinN hh (by decide), rfl, rfl⟩
  have t2 : ∀ (b : Bool), b = srB M w v → ∀ c1, J 2 mX6_shelf 89 [some (.ref 46), some (.int (nI h)), some (.int w), some (.int v), some (.int (bI b))] [.int c1, .int (nI h), .ref 56] M (Rt (some (.int 1)) (u1 (u1 (u1 M 56 h c1) 57 h (if w = 0 then v else if srB M w v = true then M.1 53 v.toNatClampNeg else 0)) 58 h (if srB M w v = true then M.1 54 v.toNatClampNeg else 0))) := by
    intro b hbb c1
    refine J_blk a_X6_shelf_89 ?_
    simp only [b_X6_shelf_89, w_iast, w_aload_n0, w_getf6, ne0_11, w_iload_n1, w_iload_n2, w_if_ne, w_nil, kd_46, kd_47, kd_48, kd_49, kd_50, kd_51, kd_52, kd_53, kd_54, kd_55, kd_56, kd_57, kd_58, kd_59, ln_47, ln_48, ln_49, ln_50, ln_51, ln_52, ln_53, ln_54, ln_55, ln_56, ln_57, ln_58, ln_59, Option.toList_some, Option.toList_none, List.cons_append, List.nil_append, true_and, and_true, if_true, if_false, true_or, or_true, Nat.reduceAdd, Int.reduceAdd, Bool.false_eq_true, tn_0, tn_1, tn_2, tn_3, tn_4, tn_5, tn_6, tn_7, th]
    refine ⟨vinN hh (by decide), fun c => ?_, fun c => ?_⟩
    · rw [if_neg c]
      refine J_blk a_X6_shelf_103 ?_
      simp only [b_X6_shelf_103, w_iload4, w_if_eq, w_nil, kd_46, kd_47, kd_48, kd_49, kd_50, kd_51, kd_52, kd_53, kd_54, kd_55, kd_56, kd_57, kd_58, kd_59, ln_47, ln_48, ln_49, ln_50, ln_51, ln_52, ln_53, ln_54, ln_55, ln_56, ln_57, ln_58, ln_59, Option.toList_some, Option.toList_none, List.cons_append, List.nil_append, true_and, and_true, if_true, if_false, true_or, or_true, Nat.reduceAdd, Int.reduceAdd, Bool.false_eq_true, tn_0, tn_1, tn_2, tn_3, tn_4, tn_5, tn_6, tn_7]
      refine ⟨fun c => ?_, fun c => ?_⟩
      · have : b = false := by cases b <;> simp [bI] at c ⊢
        have e : srB M w v = false := by rw [← hbb, this]
        have g := t3 b hbb c1 0
        rw [e] at g ⊢
        refine J_blk a_X6_shelf_117 ?_
        simp only [b_X6_shelf_117, w_iconst_0, w_nil, kd_46, kd_47, kd_48, kd_49, kd_50, kd_51, kd_52, kd_53, kd_54, kd_55, kd_56, kd_57, kd_58, kd_59, ln_47, ln_48, ln_49, ln_50, ln_51, ln_52, ln_53, ln_54, ln_55, ln_56, ln_57, ln_58, ln_59, Option.toList_some, Option.toList_none, List.cons_append, List.nil_append, true_and, and_true, if_true, if_false, true_or, or_true, Nat.reduceAdd, Int.reduceAdd, Bool.false_eq_true, tn_0, tn_1, tn_2, tn_3, tn_4, tn_5, tn_6, tn_7]
        exact g
      · have : b = true := by cases b <;> simp [bI] at c ⊢
        have e : srB M w v = true := by rw [← hbb, this]
        have hw1 : w = 1 := by unfold srB at e; exact (of_decide_eq_true e).1
        have g := t3 b hbb c1 (M.1 53 v.toNatClampNeg)
        rw [e] at g ⊢
        refine J_blk a_X6_shelf_108 ?_
        simp only [b_X6_shelf_108, w_aload_n0, w_getf6, ne0_7, w_iload_n3, w_iald, w_goto, kd_46, kd_47, kd_48, kd_49, kd_50, kd_51, kd_52, kd_53, kd_54, kd_55, kd_56, kd_57, kd_58, kd_59, ln_47, ln_48, ln_49, ln_50, ln_51, ln_52, ln_53, ln_54, ln_55, ln_56, ln_57, ln_58, ln_59, Option.toList_some, Option.toList_none, List.cons_append, List.nil_append, true_and, and_true, if_true, if_false, true_or, or_true, Nat.reduceAdd, Int.reduceAdd, Bool.false_eq_true, tn_0, tn_1, tn_2, tn_3, tn_4, tn_5, tn_6, tn_7, u1_o _ _ _ _ (show (53 : Nat) ≠ 56 by decide)]
        exact ⟨iv hw1, g⟩
    · rw [if_pos c]
      refine J_blk a_X6_shelf_99 ?_
      simp only [b_X6_shelf_99, w_iload_n3, w_goto, kd_46, kd_47, kd_48, kd_49, kd_50, kd_51, kd_52, kd_53, kd_54, kd_55, kd_56, kd_57, kd_58, kd_59, ln_47, ln_48, ln_49, ln_50, ln_51, ln_52, ln_53, ln_54, ln_55, ln_56, ln_57, ln_58, ln_59, Option.toList_some, Option.toList_none, List.cons_append, List.nil_append, true_and, and_true, if_true, if_false, true_or, or_true, Nat.reduceAdd, Int.reduceAdd, Bool.false_eq_true, tn_0, tn_1, tn_2, tn_3, tn_4, tn_5, tn_6, tn_7]
      exact t3 b hbb c1 v
  have t1 : ∀ (b : Bool), b = srB M w v → J 2 mX6_shelf 64 [some (.ref 46), some (.int (nI h)), some (.int w), some (.int v), none] [.int (bI b)] M (Rt (some (.int 1)) (slM M h w v)) := by
    intro b hbb
    have g := t2 b hbb
    unfold slM
    refine J_blk a_X6_shelf_64 ?_
    simp only [b_X6_shelf_64, w_istore4, nl_4n, nl_4i, nl_4a, w_aload_n0, w_getf6, ne0_10, w_iload_n1, w_iload_n2, w_if_ne, w_nil, kd_46, kd_47, kd_48, kd_49, kd_50, kd_51, kd_52, kd_53, kd_54, kd_55, kd_56, kd_57, kd_58, kd_59, ln_47, ln_48, ln_49, ln_50, ln_51, ln_52, ln_53, ln_54, ln_55, ln_56, ln_57, ln_58, ln_59, Option.toList_some, Option.toList_none, List.cons_append, List.nil_append, true_and, and_true, if_true, if_false, true_or, or_true, Nat.reduceAdd, Int.reduceAdd, Bool.false_eq_true, tn_0, tn_1, tn_2, tn_3, tn_4, tn_5, tn_6, tn_7]
    refine ⟨fun c => ?_, fun c => ?_⟩
    · simp only [if_neg c] at g ⊢
      refine J_blk a_X6_shelf_79 ?_
      simp only [b_X6_shelf_79, w_iload4, w_if_eq, w_nil, kd_46, kd_47, kd_48, kd_49, kd_50, kd_51, kd_52, kd_53, kd_54, kd_55, kd_56, kd_57, kd_58, kd_59, ln_47, ln_48, ln_49, ln_50, ln_51, ln_52, ln_53, ln_54, ln_55, ln_56, ln_57, ln_58, ln_59, Option.toList_some, Option.toList_none, List.cons_append, List.nil_append, true_and, and_true, if_true, if_false, true_or, or_true, Nat.reduceAdd, Int.reduceAdd, Bool.false_eq_true, tn_0, tn_1, tn_2, tn_3, tn_4, tn_5, tn_6, tn_7]
      refine ⟨fun c => ?_, fun c => ?_⟩
      · have : b = false := by cases b <;> simp [bI] at c ⊢
        have e : srB M w v = false := by rw [← hbb, this]
        have g' := g 0
        rw [e] at g' ⊢
        refine J_blk a_X6_shelf_88 ?_
        simp only [b_X6_shelf_88, w_iconst_0, w_nil, kd_46, kd_47, kd_48, kd_49, kd_50, kd_51, kd_52, kd_53, kd_54, kd_55, kd_56, kd_57, kd_58, kd_59, ln_47, ln_48, ln_49, ln_50, ln_51, ln_52, ln_53, ln_54, ln_55, ln_56, ln_57, ln_58, ln_59, Option.toList_some, Option.toList_none, List.cons_append, List.nil_append, true_and, and_true, if_true, if_false, true_or, or_true, Nat.reduceAdd, Int.reduceAdd, Bool.false_eq_true, tn_0, tn_1, tn_2, tn_3, tn_4, tn_5, tn_6, tn_7]
        exact g'
      · have : b = true := by cases b <;> simp [bI] at c ⊢
        have e : srB M w v = true := by rw [← hbb, this]
        have g' := g 2
        rw [e] at g' ⊢
        refine J_blk a_X6_shelf_84 ?_
        simp only [b_X6_shelf_84, w_iconst_2, w_goto, kd_46, kd_47, kd_48, kd_49, kd_50, kd_51, kd_52, kd_53, kd_54, kd_55, kd_56, kd_57, kd_58, kd_59, ln_47, ln_48, ln_49, ln_50, ln_51, ln_52, ln_53, ln_54, ln_55, ln_56, ln_57, ln_58, ln_59, Option.toList_some, Option.toList_none, List.cons_append, List.nil_append, true_and, and_true, if_true, if_false, true_or, or_true, Nat.reduceAdd, Int.reduceAdd, Bool.false_eq_true, tn_0, tn_1, tn_2, tn_3, tn_4, tn_5, tn_6, tn_7]
        exact g'
    · simp only [if_pos c] at g ⊢
      have g' := g 1
      refine J_blk a_X6_shelf_75 ?_
      simp only [b_X6_shelf_75, w_iconst_1, w_goto, kd_46, kd_47, kd_48, kd_49, kd_50, kd_51, kd_52, kd_53, kd_54, kd_55, kd_56, kd_57, kd_58, kd_59, ln_47, ln_48, ln_49, ln_50, ln_51, ln_52, ln_53, ln_54, ln_55, ln_56, ln_57, ln_58, ln_59, Option.toList_some, Option.toList_none, List.cons_append, List.nil_append, true_and, and_true, if_true, if_false, true_or, or_true, Nat.reduceAdd, Int.reduceAdd, Bool.false_eq_true, tn_0, tn_1, tn_2, tn_3, tn_4, tn_5, tn_6, tn_7]
      exact g'
  have go : J 2 mX6_shelf 45 [some (.ref 46), some (.int (nI h)), some (.int w), some (.int v), none] [] M (Rt (some (.int 1)) (slM M h w v)) := by
    refine J_blk a_X6_shelf_45 ?_
    simp only [b_X6_shelf_45, w_iload_n2, w_iconst_1, w_icmp_ne, w_nil, kd_46, kd_47, kd_48, kd_49, kd_50, kd_51, kd_52, kd_53, kd_54, kd_55, kd_56, kd_57, kd_58, kd_59, ln_47, ln_48, ln_49, ln_50, ln_51, ln_52, ln_53, ln_54, ln_55, ln_56, ln_57, ln_58, ln_59, Option.toList_some, Option.toList_none, List.cons_append, List.nil_append, true_and, and_true, if_true, if_false, true_or, or_true, Nat.reduceAdd, Int.reduceAdd, Bool.false_eq_true, tn_0, tn_1, tn_2, tn_3, tn_4, tn_5, tn_6, tn_7]
    refine ⟨fun c => ?_, fun c => ?_⟩
    · have g := t1 false (by unfold srB; rw [decide_eq_false (fun h => c h.1)])
      refine J_blk a_X6_shelf_63 ?_
      simp only [b_X6_shelf_63, w_iconst_0, w_nil, kd_46, kd_47, kd_48, kd_49, kd_50, kd_51, kd_52, kd_53, kd_54, kd_55, kd_56, kd_57, kd_58, kd_59, ln_47, ln_48, ln_49, ln_50, ln_51, ln_52, ln_53, ln_54, ln_55, ln_56, ln_57, ln_58, ln_59, Option.toList_some, Option.toList_none, List.cons_append, List.nil_append, true_and, and_true, if_true, if_false, true_or, or_true, Nat.reduceAdd, Int.reduceAdd, Bool.false_eq_true, tn_0, tn_1, tn_2, tn_3, tn_4, tn_5, tn_6, tn_7]
      exact g
    · refine J_blk a_X6_shelf_50 ?_
      simp only [b_X6_shelf_50, w_aload_n0, w_getf6, ne0_7, w_iload_n3, w_iald, w_if_lt, w_nil, kd_46, kd_47, kd_48, kd_49, kd_50, kd_51, kd_52, kd_53, kd_54, kd_55, kd_56, kd_57, kd_58, kd_59, ln_47, ln_48, ln_49, ln_50, ln_51, ln_52, ln_53, ln_54, ln_55, ln_56, ln_57, ln_58, ln_59, Option.toList_some, Option.toList_none, List.cons_append, List.nil_append, true_and, and_true, if_true, if_false, true_or, or_true, Nat.reduceAdd, Int.reduceAdd, Bool.false_eq_true, tn_0, tn_1, tn_2, tn_3, tn_4, tn_5, tn_6, tn_7]
      refine ⟨iv c, fun c2 => ?_, fun c2 => ?_⟩
      · have g := t1 false (by unfold srB; rw [decide_eq_false (fun h => absurd h.2 (Int32.not_le.mpr c2))])
        refine J_blk a_X6_shelf_63 ?_
        simp only [b_X6_shelf_63, w_iconst_0, w_nil, kd_46, kd_47, kd_48, kd_49, kd_50, kd_51, kd_52, kd_53, kd_54, kd_55, kd_56, kd_57, kd_58, kd_59, ln_47, ln_48, ln_49, ln_50, ln_51, ln_52, ln_53, ln_54, ln_55, ln_56, ln_57, ln_58, ln_59, Option.toList_some, Option.toList_none, List.cons_append, List.nil_append, true_and, and_true, if_true, if_false, true_or, or_true, Nat.reduceAdd, Int.reduceAdd, Bool.false_eq_true, tn_0, tn_1, tn_2, tn_3, tn_4, tn_5, tn_6, tn_7]
        exact g
      · have g := t1 true (by unfold srB; rw [decide_eq_true ⟨c, Int32.not_lt.mp c2⟩])
        refine J_blk a_X6_shelf_59 ?_
        simp only [b_X6_shelf_59, w_iconst_1, w_goto, kd_46, kd_47, kd_48, kd_49, kd_50, kd_51, kd_52, kd_53, kd_54, kd_55, kd_56, kd_57, kd_58, kd_59, ln_47, ln_48, ln_49, ln_50, ln_51, ln_52, ln_53, ln_54, ln_55, ln_56, ln_57, ln_58, ln_59, Option.toList_some, Option.toList_none, List.cons_append, List.nil_append, true_and, and_true, if_true, if_false, true_or, or_true, Nat.reduceAdd, Int.reduceAdd, Bool.false_eq_true, tn_0, tn_1, tn_2, tn_3, tn_4, tn_5, tn_6, tn_7]
        exact g
  refine K_go 3 o_X6_shelf [none] rfl (Nat.le_of_ble_eq_true rfl) ?_
  simp only [lvA_i, lvA_a, lvA_l, lvA_nil, List.cons_append, List.nil_append]
  refine J_blk a_X6_shelf_0 ?_
  simp only [b_X6_shelf_0, w_iload_n1, w_nil, kd_46, kd_47, kd_48, kd_49, kd_50, kd_51, kd_52, kd_53, kd_54, kd_55, kd_56, kd_57, kd_58, kd_59, ln_47, ln_48, ln_49, ln_50, ln_51, ln_52, ln_53, ln_54, ln_55, ln_56, ln_57, ln_58, ln_59, Option.toList_some, Option.toList_none, List.cons_append, List.nil_append, true_and, and_true, if_true, if_false, true_or, or_true, Nat.reduceAdd, Int.reduceAdd, Bool.false_eq_true, tn_0, tn_1, tn_2, tn_3, tn_4, tn_5, tn_6, tn_7]
  refine J_callSr (isShelf_ok _ _) k_X6_shelf_1 o_X6_isShelf rfl (by decide) rfl (Nat.le_of_ble_eq_true rfl) ?_
  refine J_blk a_X6_shelf_4 ?_
  simp only [b_X6_shelf_4, w_if_eq, w_nil, kd_46, kd_47, kd_48, kd_49, kd_50, kd_51, kd_52, kd_53, kd_54, kd_55, kd_56, kd_57, kd_58, kd_59, ln_47, ln_48, ln_49, ln_50, ln_51, ln_52, ln_53, ln_54, ln_55, ln_56, ln_57, ln_58, ln_59, Option.toList_some, Option.toList_none, List.cons_append, List.nil_append, true_and, and_true, if_true, if_false, true_or, or_true, Nat.reduceAdd, Int.reduceAdd, Bool.false_eq_true, tn_0, tn_1, tn_2, tn_3, tn_4, tn_5, tn_6, tn_7]
  refine ⟨fun c9 => ?_, fun c9 => ?_⟩
  · exact absurd hb (by grind)
  · refine J_blk a_X6_shelf_7 ?_
    simp only [b_X6_shelf_7, w_iload_n2, w_i2l, w_lconst_0, w_ldc2, cl_2, w_nil, kd_46, kd_47, kd_48, kd_49, kd_50, kd_51, kd_52, kd_53, kd_54, kd_55, kd_56, kd_57, kd_58, kd_59, ln_47, ln_48, ln_49, ln_50, ln_51, ln_52, ln_53, ln_54, ln_55, ln_56, ln_57, ln_58, ln_59, Option.toList_some, Option.toList_none, List.cons_append, List.nil_append, true_and, and_true, if_true, if_false, true_or, or_true, Nat.reduceAdd, Int.reduceAdd, Bool.false_eq_true, tn_0, tn_1, tn_2, tn_3, tn_4, tn_5, tn_6, tn_7]
    refine J_callSr (isIn_ok _ _ _ _) k_X6_shelf_13 o_X6_isIn rfl (by decide) rfl (Nat.le_of_ble_eq_true rfl) ?_
    simp only [l_le_1, l_le_2, l_le_3, l_le_5, l_le_7, l_le_8, l_le_9, l_le_10, l_le_13, l_le_20, l_le_30, l_le_60, l_le_99, l_le_9999, l_ge_0, l_ge_1, l_ge_6, l_ge_m1, i64_le]
    refine J_blk a_X6_shelf_16 ?_
    simp only [b_X6_shelf_16, w_if_eq, w_nil, kd_46, kd_47, kd_48, kd_49, kd_50, kd_51, kd_52, kd_53, kd_54, kd_55, kd_56, kd_57, kd_58, kd_59, ln_47, ln_48, ln_49, ln_50, ln_51, ln_52, ln_53, ln_54, ln_55, ln_56, ln_57, ln_58, ln_59, Option.toList_some, Option.toList_none, List.cons_append, List.nil_append, true_and, and_true, if_true, if_false, true_or, or_true, Nat.reduceAdd, Int.reduceAdd, Bool.false_eq_true, tn_0, tn_1, tn_2, tn_3, tn_4, tn_5, tn_6, tn_7]
    refine ⟨fun c10 => ?_, fun c10 => ?_⟩
    · exact absurd hb (by grind)
    · refine J_blk a_X6_shelf_19 ?_
      simp only [b_X6_shelf_19, w_iload_n2, w_if_ne, w_nil, kd_46, kd_47, kd_48, kd_49, kd_50, kd_51, kd_52, kd_53, kd_54, kd_55, kd_56, kd_57, kd_58, kd_59, ln_47, ln_48, ln_49, ln_50, ln_51, ln_52, ln_53, ln_54, ln_55, ln_56, ln_57, ln_58, ln_59, Option.toList_some, Option.toList_none, List.cons_append, List.nil_append, true_and, and_true, if_true, if_false, true_or, or_true, Nat.reduceAdd, Int.reduceAdd, Bool.false_eq_true, tn_0, tn_1, tn_2, tn_3, tn_4, tn_5, tn_6, tn_7]
      refine ⟨fun c11 => ?_, fun c11 => ?_⟩
      · refine J_blk a_X6_shelf_31 ?_
        simp only [b_X6_shelf_31, w_iload_n2, w_iconst_1, w_icmp_ne, w_nil, kd_46, kd_47, kd_48, kd_49, kd_50, kd_51, kd_52, kd_53, kd_54, kd_55, kd_56, kd_57, kd_58, kd_59, ln_47, ln_48, ln_49, ln_50, ln_51, ln_52, ln_53, ln_54, ln_55, ln_56, ln_57, ln_58, ln_59, Option.toList_some, Option.toList_none, List.cons_append, List.nil_append, true_and, and_true, if_true, if_false, true_or, or_true, Nat.reduceAdd, Int.reduceAdd, Bool.false_eq_true, tn_0, tn_1, tn_2, tn_3, tn_4, tn_5, tn_6, tn_7]
        refine ⟨fun c12 => ?_, fun c12 => ?_⟩
        · exact go
        · refine J_blk a_X6_shelf_36 ?_
          simp only [b_X6_shelf_36, w_iload_n3, w_nil, kd_46, kd_47, kd_48, kd_49, kd_50, kd_51, kd_52, kd_53, kd_54, kd_55, kd_56, kd_57, kd_58, kd_59, ln_47, ln_48, ln_49, ln_50, ln_51, ln_52, ln_53, ln_54, ln_55, ln_56, ln_57, ln_58, ln_59, Option.toList_some, Option.toList_none, List.cons_append, List.nil_append, true_and, and_true, if_true, if_false, true_or, or_true, Nat.reduceAdd, Int.reduceAdd, Bool.false_eq_true, tn_0, tn_1, tn_2, tn_3, tn_4, tn_5, tn_6, tn_7]
          refine J_callSr (isSheet_ok _ _) k_X6_shelf_37 o_X6_isSheet rfl (by decide) rfl (Nat.le_of_ble_eq_true rfl) ?_
          refine J_blk a_X6_shelf_40 ?_
          simp only [b_X6_shelf_40, w_if_ne, w_nil, kd_46, kd_47, kd_48, kd_49, kd_50, kd_51, kd_52, kd_53, kd_54, kd_55, kd_56, kd_57, kd_58, kd_59, ln_47, ln_48, ln_49, ln_50, ln_51, ln_52, ln_53, ln_54, ln_55, ln_56, ln_57, ln_58, ln_59, Option.toList_some, Option.toList_none, List.cons_append, List.nil_append, true_and, and_true, if_true, if_false, true_or, or_true, Nat.reduceAdd, Int.reduceAdd, Bool.false_eq_true, tn_0, tn_1, tn_2, tn_3, tn_4, tn_5, tn_6, tn_7]
          refine ⟨fun c13 => ?_, fun c13 => ?_⟩
          · exact go
          · exact absurd hb (by grind)
      · refine J_blk a_X6_shelf_23 ?_
        simp only [b_X6_shelf_23, w_aload_n0, w_iload_n3, w_nil, kd_46, kd_47, kd_48, kd_49, kd_50, kd_51, kd_52, kd_53, kd_54, kd_55, kd_56, kd_57, kd_58, kd_59, ln_47, ln_48, ln_49, ln_50, ln_51, ln_52, ln_53, ln_54, ln_55, ln_56, ln_57, ln_58, ln_59, Option.toList_some, Option.toList_none, List.cons_append, List.nil_append, true_and, and_true, if_true, if_false, true_or, or_true, Nat.reduceAdd, Int.reduceAdd, Bool.false_eq_true, tn_0, tn_1, tn_2, tn_3, tn_4, tn_5, tn_6, tn_7]
        refine J_callVr (ci := 6) (isOne_ok _ _) k_X6_shelf_25 o_X6_isOne rfl rfl rfl rfl (by decide) rfl (Nat.le_of_ble_eq_true rfl) ?_
        simp only [h0]
        refine J_blk a_X6_shelf_28 ?_
        simp only [b_X6_shelf_28, w_if_eq, w_nil, kd_46, kd_47, kd_48, kd_49, kd_50, kd_51, kd_52, kd_53, kd_54, kd_55, kd_56, kd_57, kd_58, kd_59, ln_47, ln_48, ln_49, ln_50, ln_51, ln_52, ln_53, ln_54, ln_55, ln_56, ln_57, ln_58, ln_59, Option.toList_some, Option.toList_none, List.cons_append, List.nil_append, true_and, and_true, if_true, if_false, true_or, or_true, Nat.reduceAdd, Int.reduceAdd, Bool.false_eq_true, tn_0, tn_1, tn_2, tn_3, tn_4, tn_5, tn_6, tn_7]
        refine ⟨fun c14 => ?_, fun c14 => ?_⟩
        · exact absurd hb (by grind)
        · refine J_blk a_X6_shelf_31 ?_
          simp only [b_X6_shelf_31, w_iload_n2, w_iconst_1, w_icmp_ne, w_nil, kd_46, kd_47, kd_48, kd_49, kd_50, kd_51, kd_52, kd_53, kd_54, kd_55, kd_56, kd_57, kd_58, kd_59, ln_47, ln_48, ln_49, ln_50, ln_51, ln_52, ln_53, ln_54, ln_55, ln_56, ln_57, ln_58, ln_59, Option.toList_some, Option.toList_none, List.cons_append, List.nil_append, true_and, and_true, if_true, if_false, true_or, or_true, Nat.reduceAdd, Int.reduceAdd, Bool.false_eq_true, tn_0, tn_1, tn_2, tn_3, tn_4, tn_5, tn_6, tn_7]
          refine ⟨fun c15 => ?_, fun c15 => ?_⟩
          · exact go
          · refine J_blk a_X6_shelf_36 ?_
            simp only [b_X6_shelf_36, w_iload_n3, w_nil, kd_46, kd_47, kd_48, kd_49, kd_50, kd_51, kd_52, kd_53, kd_54, kd_55, kd_56, kd_57, kd_58, kd_59, ln_47, ln_48, ln_49, ln_50, ln_51, ln_52, ln_53, ln_54, ln_55, ln_56, ln_57, ln_58, ln_59, Option.toList_some, Option.toList_none, List.cons_append, List.nil_append, true_and, and_true, if_true, if_false, true_or, or_true, Nat.reduceAdd, Int.reduceAdd, Bool.false_eq_true, tn_0, tn_1, tn_2, tn_3, tn_4, tn_5, tn_6, tn_7]
            refine J_callSr (isSheet_ok _ _) k_X6_shelf_37 o_X6_isSheet rfl (by decide) rfl (Nat.le_of_ble_eq_true rfl) ?_
            refine J_blk a_X6_shelf_40 ?_
            simp only [b_X6_shelf_40, w_if_ne, w_nil, kd_46, kd_47, kd_48, kd_49, kd_50, kd_51, kd_52, kd_53, kd_54, kd_55, kd_56, kd_57, kd_58, kd_59, ln_47, ln_48, ln_49, ln_50, ln_51, ln_52, ln_53, ln_54, ln_55, ln_56, ln_57, ln_58, ln_59, Option.toList_some, Option.toList_none, List.cons_append, List.nil_append, true_and, and_true, if_true, if_false, true_or, or_true, Nat.reduceAdd, Int.reduceAdd, Bool.false_eq_true, tn_0, tn_1, tn_2, tn_3, tn_4, tn_5, tn_6, tn_7]
            refine ⟨fun c16 => ?_, fun c16 => ?_⟩
            · exact go
            · exact absurd hb (by grind)
def hoS (M : Mm) (n h : Nat) : Int32 := if M.1 56 h = 1 ∧ ¬ (0 ≤ M.1 57 h ∧ M.1 57 h < nI n) then 0 else M.1 56 h
theorem heldOn_ok (h n : Nat) (M : Mm) (hw : WF (M.1 47) n) (hh : h < 4) : K 1 mX6_heldOn [.ref 46, .int (nI h)] M (Rt (some (.int (hoS M n h))) M) := by
  have h0 := hw.1
  have th : (nI h).toNatClampNeg = h := nI_clamp (by omega)
  unfold hoS
  refine K_go 1 o_X6_heldOn [] rfl (Nat.le_of_ble_eq_true rfl) ?_
  simp only [lvA_i, lvA_a, lvA_l, lvA_nil, List.cons_append, List.nil_append]
  refine J_blk a_X6_heldOn_0 ?_
  simp only [b_X6_heldOn_0, w_aload_n0, w_getf6, ne0_10, w_iload_n1, w_iald, w_iconst_1, w_icmp_ne, w_nil, kd_46, kd_47, kd_48, kd_49, kd_50, kd_51, kd_52, kd_53, kd_54, kd_55, kd_56, kd_57, kd_58, kd_59, ln_47, ln_48, ln_49, ln_50, ln_51, ln_52, ln_53, ln_54, ln_55, ln_56, ln_57, ln_58, ln_59, Option.toList_some, Option.toList_none, List.cons_append, List.nil_append, true_and, and_true, if_true, if_false, true_or, or_true, Nat.reduceAdd, Int.reduceAdd, Bool.false_eq_true, tn_0, tn_1, tn_2, tn_3, tn_4, tn_5, tn_6, tn_7, th]
  refine ⟨(vinN hh (by decide)), ?_⟩
  refine ⟨fun c17 => ?_, fun c17 => ?_⟩
  · refine J_blk a_X6_heldOn_27 ?_
    simp only [b_X6_heldOn_27, w_aload_n0, w_getf6, ne0_10, w_iload_n1, w_iald, w_nil, kd_46, kd_47, kd_48, kd_49, kd_50, kd_51, kd_52, kd_53, kd_54, kd_55, kd_56, kd_57, kd_58, kd_59, ln_47, ln_48, ln_49, ln_50, ln_51, ln_52, ln_53, ln_54, ln_55, ln_56, ln_57, ln_58, ln_59, Option.toList_some, Option.toList_none, List.cons_append, List.nil_append, true_and, and_true, if_true, if_false, true_or, or_true, Nat.reduceAdd, Int.reduceAdd, Bool.false_eq_true, tn_0, tn_1, tn_2, tn_3, tn_4, tn_5, tn_6, tn_7, th]
    refine ⟨(vinN hh (by decide)), ?_⟩
    refine J_blk a_X6_heldOn_33 ?_
    simp only [b_X6_heldOn_33, w_ireti, kd_46, kd_47, kd_48, kd_49, kd_50, kd_51, kd_52, kd_53, kd_54, kd_55, kd_56, kd_57, kd_58, kd_59, ln_47, ln_48, ln_49, ln_50, ln_51, ln_52, ln_53, ln_54, ln_55, ln_56, ln_57, ln_58, ln_59, Option.toList_some, Option.toList_none, List.cons_append, List.nil_append, true_and, and_true, if_true, if_false, true_or, or_true, Nat.reduceAdd, Int.reduceAdd, Bool.false_eq_true, tn_0, tn_1, tn_2, tn_3, tn_4, tn_5, tn_6, tn_7, th]
    exact ⟨by grind, rfl⟩
  · refine J_blk a_X6_heldOn_10 ?_
    simp only [b_X6_heldOn_10, w_aload_n0, w_getf6, ne0_11, w_iload_n1, w_iald, w_nil, kd_46, kd_47, kd_48, kd_49, kd_50, kd_51, kd_52, kd_53, kd_54, kd_55, kd_56, kd_57, kd_58, kd_59, ln_47, ln_48, ln_49, ln_50, ln_51, ln_52, ln_53, ln_54, ln_55, ln_56, ln_57, ln_58, ln_59, Option.toList_some, Option.toList_none, List.cons_append, List.nil_append, true_and, and_true, if_true, if_false, true_or, or_true, Nat.reduceAdd, Int.reduceAdd, Bool.false_eq_true, tn_0, tn_1, tn_2, tn_3, tn_4, tn_5, tn_6, tn_7, th]
    refine ⟨(vinN hh (by decide)), ?_⟩
    refine J_callVr (ci := 6) (isOne_ok _ _) k_X6_heldOn_17 o_X6_isOne rfl rfl rfl rfl (by decide) rfl (Nat.le_of_ble_eq_true rfl) ?_
    simp only [h0]
    refine J_blk a_X6_heldOn_20 ?_
    simp only [b_X6_heldOn_20, w_if_ne, w_nil, kd_46, kd_47, kd_48, kd_49, kd_50, kd_51, kd_52, kd_53, kd_54, kd_55, kd_56, kd_57, kd_58, kd_59, ln_47, ln_48, ln_49, ln_50, ln_51, ln_52, ln_53, ln_54, ln_55, ln_56, ln_57, ln_58, ln_59, Option.toList_some, Option.toList_none, List.cons_append, List.nil_append, true_and, and_true, if_true, if_false, true_or, or_true, Nat.reduceAdd, Int.reduceAdd, Bool.false_eq_true, tn_0, tn_1, tn_2, tn_3, tn_4, tn_5, tn_6, tn_7, th]
    refine ⟨fun c18 => ?_, fun c18 => ?_⟩
    · refine J_blk a_X6_heldOn_27 ?_
      simp only [b_X6_heldOn_27, w_aload_n0, w_getf6, ne0_10, w_iload_n1, w_iald, w_nil, kd_46, kd_47, kd_48, kd_49, kd_50, kd_51, kd_52, kd_53, kd_54, kd_55, kd_56, kd_57, kd_58, kd_59, ln_47, ln_48, ln_49, ln_50, ln_51, ln_52, ln_53, ln_54, ln_55, ln_56, ln_57, ln_58, ln_59, Option.toList_some, Option.toList_none, List.cons_append, List.nil_append, true_and, and_true, if_true, if_false, true_or, or_true, Nat.reduceAdd, Int.reduceAdd, Bool.false_eq_true, tn_0, tn_1, tn_2, tn_3, tn_4, tn_5, tn_6, tn_7, th]
      refine ⟨(vinN hh (by decide)), ?_⟩
      refine J_blk a_X6_heldOn_33 ?_
      simp only [b_X6_heldOn_33, w_ireti, kd_46, kd_47, kd_48, kd_49, kd_50, kd_51, kd_52, kd_53, kd_54, kd_55, kd_56, kd_57, kd_58, kd_59, ln_47, ln_48, ln_49, ln_50, ln_51, ln_52, ln_53, ln_54, ln_55, ln_56, ln_57, ln_58, ln_59, Option.toList_some, Option.toList_none, List.cons_append, List.nil_append, true_and, and_true, if_true, if_false, true_or, or_true, Nat.reduceAdd, Int.reduceAdd, Bool.false_eq_true, tn_0, tn_1, tn_2, tn_3, tn_4, tn_5, tn_6, tn_7, th]
      exact ⟨by grind, rfl⟩
    · refine J_blk a_X6_heldOn_23 ?_
      simp only [b_X6_heldOn_23, w_iconst_0, w_goto, kd_46, kd_47, kd_48, kd_49, kd_50, kd_51, kd_52, kd_53, kd_54, kd_55, kd_56, kd_57, kd_58, kd_59, ln_47, ln_48, ln_49, ln_50, ln_51, ln_52, ln_53, ln_54, ln_55, ln_56, ln_57, ln_58, ln_59, Option.toList_some, Option.toList_none, List.cons_append, List.nil_append, true_and, and_true, if_true, if_false, true_or, or_true, Nat.reduceAdd, Int.reduceAdd, Bool.false_eq_true, tn_0, tn_1, tn_2, tn_3, tn_4, tn_5, tn_6, tn_7, th]
      refine J_blk a_X6_heldOn_33 ?_
      simp only [b_X6_heldOn_33, w_ireti, kd_46, kd_47, kd_48, kd_49, kd_50, kd_51, kd_52, kd_53, kd_54, kd_55, kd_56, kd_57, kd_58, kd_59, ln_47, ln_48, ln_49, ln_50, ln_51, ln_52, ln_53, ln_54, ln_55, ln_56, ln_57, ln_58, ln_59, Option.toList_some, Option.toList_none, List.cons_append, List.nil_append, true_and, and_true, if_true, if_false, true_or, or_true, Nat.reduceAdd, Int.reduceAdd, Bool.false_eq_true, tn_0, tn_1, tn_2, tn_3, tn_4, tn_5, tn_6, tn_7, th]
      exact ⟨by grind, rfl⟩
abbrev unS (own kind : Int32) : Prop := kind = 0 ∨ own = kind ∨ (kind = 1 ∧ own = 3) ∨ (kind = 2 ∧ own = 4)
theorem isUnder_ok (own kind : Int32) (M : Mm) : K 0 mX6_isUnder [.int own, .int kind] M (Rt (some (.int (if unS own kind then 1 else 0))) M) := by
  unfold unS
  refine K_go 2 o_X6_isUnder [] rfl (Nat.le_of_ble_eq_true rfl) ?_
  simp only [lvA_i, lvA_a, lvA_l, lvA_nil, List.cons_append, List.nil_append]
  refine J_blk a_X6_isUnder_0 ?_
  simp only [b_X6_isUnder_0, w_iload_n1, w_if_eq, w_nil, kd_46, kd_47, kd_48, kd_49, kd_50, kd_51, kd_52, kd_53, kd_54, kd_55, kd_56, kd_57, kd_58, kd_59, ln_47, ln_48, ln_49, ln_50, ln_51, ln_52, ln_53, ln_54, ln_55, ln_56, ln_57, ln_58, ln_59, Option.toList_some, Option.toList_none, List.cons_append, List.nil_append, true_and, and_true, if_true, if_false, true_or, or_true, Nat.reduceAdd, Int.reduceAdd, Bool.false_eq_true, tn_0, tn_1, tn_2, tn_3, tn_4, tn_5, tn_6, tn_7]
  refine ⟨fun c19 => ?_, fun c19 => ?_⟩
  · refine J_blk a_X6_isUnder_29 ?_
    simp only [b_X6_isUnder_29, w_iconst_1, w_goto, kd_46, kd_47, kd_48, kd_49, kd_50, kd_51, kd_52, kd_53, kd_54, kd_55, kd_56, kd_57, kd_58, kd_59, ln_47, ln_48, ln_49, ln_50, ln_51, ln_52, ln_53, ln_54, ln_55, ln_56, ln_57, ln_58, ln_59, Option.toList_some, Option.toList_none, List.cons_append, List.nil_append, true_and, and_true, if_true, if_false, true_or, or_true, Nat.reduceAdd, Int.reduceAdd, Bool.false_eq_true, tn_0, tn_1, tn_2, tn_3, tn_4, tn_5, tn_6, tn_7]
    refine J_blk a_X6_isUnder_34 ?_
    simp only [b_X6_isUnder_34, w_iretz, kd_46, kd_47, kd_48, kd_49, kd_50, kd_51, kd_52, kd_53, kd_54, kd_55, kd_56, kd_57, kd_58, kd_59, ln_47, ln_48, ln_49, ln_50, ln_51, ln_52, ln_53, ln_54, ln_55, ln_56, ln_57, ln_58, ln_59, Option.toList_some, Option.toList_none, List.cons_append, List.nil_append, true_and, and_true, if_true, if_false, true_or, or_true, Nat.reduceAdd, Int.reduceAdd, Bool.false_eq_true, tn_0, tn_1, tn_2, tn_3, tn_4, tn_5, tn_6, tn_7]
    try refine ⟨(by first | exact Or.inl rfl | exact Or.inr rfl), ?_⟩
    exact ⟨by grind, rfl⟩
  · refine J_blk a_X6_isUnder_4 ?_
    simp only [b_X6_isUnder_4, w_iload_n0, w_iload_n1, w_icmp_eq, w_nil, kd_46, kd_47, kd_48, kd_49, kd_50, kd_51, kd_52, kd_53, kd_54, kd_55, kd_56, kd_57, kd_58, kd_59, ln_47, ln_48, ln_49, ln_50, ln_51, ln_52, ln_53, ln_54, ln_55, ln_56, ln_57, ln_58, ln_59, Option.toList_some, Option.toList_none, List.cons_append, List.nil_append, true_and, and_true, if_true, if_false, true_or, or_true, Nat.reduceAdd, Int.reduceAdd, Bool.false_eq_true, tn_0, tn_1, tn_2, tn_3, tn_4, tn_5, tn_6, tn_7]
    refine ⟨fun c20 => ?_, fun c20 => ?_⟩
    · refine J_blk a_X6_isUnder_29 ?_
      simp only [b_X6_isUnder_29, w_iconst_1, w_goto, kd_46, kd_47, kd_48, kd_49, kd_50, kd_51, kd_52, kd_53, kd_54, kd_55, kd_56, kd_57, kd_58, kd_59, ln_47, ln_48, ln_49, ln_50, ln_51, ln_52, ln_53, ln_54, ln_55, ln_56, ln_57, ln_58, ln_59, Option.toList_some, Option.toList_none, List.cons_append, List.nil_append, true_and, and_true, if_true, if_false, true_or, or_true, Nat.reduceAdd, Int.reduceAdd, Bool.false_eq_true, tn_0, tn_1, tn_2, tn_3, tn_4, tn_5, tn_6, tn_7]
      refine J_blk a_X6_isUnder_34 ?_
      simp only [b_X6_isUnder_34, w_iretz, kd_46, kd_47, kd_48, kd_49, kd_50, kd_51, kd_52, kd_53, kd_54, kd_55, kd_56, kd_57, kd_58, kd_59, ln_47, ln_48, ln_49, ln_50, ln_51, ln_52, ln_53, ln_54, ln_55, ln_56, ln_57, ln_58, ln_59, Option.toList_some, Option.toList_none, List.cons_append, List.nil_append, true_and, and_true, if_true, if_false, true_or, or_true, Nat.reduceAdd, Int.reduceAdd, Bool.false_eq_true, tn_0, tn_1, tn_2, tn_3, tn_4, tn_5, tn_6, tn_7]
      try refine ⟨(by first | exact Or.inl rfl | exact Or.inr rfl), ?_⟩
      exact ⟨by grind, rfl⟩
    · refine J_blk a_X6_isUnder_9 ?_
      simp only [b_X6_isUnder_9, w_iload_n1, w_iconst_1, w_icmp_ne, w_nil, kd_46, kd_47, kd_48, kd_49, kd_50, kd_51, kd_52, kd_53, kd_54, kd_55, kd_56, kd_57, kd_58, kd_59, ln_47, ln_48, ln_49, ln_50, ln_51, ln_52, ln_53, ln_54, ln_55, ln_56, ln_57, ln_58, ln_59, Option.toList_some, Option.toList_none, List.cons_append, List.nil_append, true_and, and_true, if_true, if_false, true_or, or_true, Nat.reduceAdd, Int.reduceAdd, Bool.false_eq_true, tn_0, tn_1, tn_2, tn_3, tn_4, tn_5, tn_6, tn_7]
      refine ⟨fun c21 => ?_, fun c21 => ?_⟩
      · refine J_blk a_X6_isUnder_19 ?_
        simp only [b_X6_isUnder_19, w_iload_n1, w_iconst_2, w_icmp_ne, w_nil, kd_46, kd_47, kd_48, kd_49, kd_50, kd_51, kd_52, kd_53, kd_54, kd_55, kd_56, kd_57, kd_58, kd_59, ln_47, ln_48, ln_49, ln_50, ln_51, ln_52, ln_53, ln_54, ln_55, ln_56, ln_57, ln_58, ln_59, Option.toList_some, Option.toList_none, List.cons_append, List.nil_append, true_and, and_true, if_true, if_false, true_or, or_true, Nat.reduceAdd, Int.reduceAdd, Bool.false_eq_true, tn_0, tn_1, tn_2, tn_3, tn_4, tn_5, tn_6, tn_7]
        refine ⟨fun c22 => ?_, fun c22 => ?_⟩
        · refine J_blk a_X6_isUnder_33 ?_
          simp only [b_X6_isUnder_33, w_iconst_0, w_nil, kd_46, kd_47, kd_48, kd_49, kd_50, kd_51, kd_52, kd_53, kd_54, kd_55, kd_56, kd_57, kd_58, kd_59, ln_47, ln_48, ln_49, ln_50, ln_51, ln_52, ln_53, ln_54, ln_55, ln_56, ln_57, ln_58, ln_59, Option.toList_some, Option.toList_none, List.cons_append, List.nil_append, true_and, and_true, if_true, if_false, true_or, or_true, Nat.reduceAdd, Int.reduceAdd, Bool.false_eq_true, tn_0, tn_1, tn_2, tn_3, tn_4, tn_5, tn_6, tn_7]
          refine J_blk a_X6_isUnder_34 ?_
          simp only [b_X6_isUnder_34, w_iretz, kd_46, kd_47, kd_48, kd_49, kd_50, kd_51, kd_52, kd_53, kd_54, kd_55, kd_56, kd_57, kd_58, kd_59, ln_47, ln_48, ln_49, ln_50, ln_51, ln_52, ln_53, ln_54, ln_55, ln_56, ln_57, ln_58, ln_59, Option.toList_some, Option.toList_none, List.cons_append, List.nil_append, true_and, and_true, if_true, if_false, true_or, or_true, Nat.reduceAdd, Int.reduceAdd, Bool.false_eq_true, tn_0, tn_1, tn_2, tn_3, tn_4, tn_5, tn_6, tn_7]
          try refine ⟨(by first | exact Or.inl rfl | exact Or.inr rfl), ?_⟩
          exact ⟨by grind, rfl⟩
        · refine J_blk a_X6_isUnder_24 ?_
          simp only [b_X6_isUnder_24, w_iload_n0, w_iconst_4, w_icmp_ne, w_nil, kd_46, kd_47, kd_48, kd_49, kd_50, kd_51, kd_52, kd_53, kd_54, kd_55, kd_56, kd_57, kd_58, kd_59, ln_47, ln_48, ln_49, ln_50, ln_51, ln_52, ln_53, ln_54, ln_55, ln_56, ln_57, ln_58, ln_59, Option.toList_some, Option.toList_none, List.cons_append, List.nil_append, true_and, and_true, if_true, if_false, true_or, or_true, Nat.reduceAdd, Int.reduceAdd, Bool.false_eq_true, tn_0, tn_1, tn_2, tn_3, tn_4, tn_5, tn_6, tn_7]
          refine ⟨fun c23 => ?_, fun c23 => ?_⟩
          · refine J_blk a_X6_isUnder_33 ?_
            simp only [b_X6_isUnder_33, w_iconst_0, w_nil, kd_46, kd_47, kd_48, kd_49, kd_50, kd_51, kd_52, kd_53, kd_54, kd_55, kd_56, kd_57, kd_58, kd_59, ln_47, ln_48, ln_49, ln_50, ln_51, ln_52, ln_53, ln_54, ln_55, ln_56, ln_57, ln_58, ln_59, Option.toList_some, Option.toList_none, List.cons_append, List.nil_append, true_and, and_true, if_true, if_false, true_or, or_true, Nat.reduceAdd, Int.reduceAdd, Bool.false_eq_true, tn_0, tn_1, tn_2, tn_3, tn_4, tn_5, tn_6, tn_7]
            refine J_blk a_X6_isUnder_34 ?_
            simp only [b_X6_isUnder_34, w_iretz, kd_46, kd_47, kd_48, kd_49, kd_50, kd_51, kd_52, kd_53, kd_54, kd_55, kd_56, kd_57, kd_58, kd_59, ln_47, ln_48, ln_49, ln_50, ln_51, ln_52, ln_53, ln_54, ln_55, ln_56, ln_57, ln_58, ln_59, Option.toList_some, Option.toList_none, List.cons_append, List.nil_append, true_and, and_true, if_true, if_false, true_or, or_true, Nat.reduceAdd, Int.reduceAdd, Bool.false_eq_true, tn_0, tn_1, tn_2, tn_3, tn_4, tn_5, tn_6, tn_7]
            try refine ⟨(by first | exact Or.inl rfl | exact Or.inr rfl), ?_⟩
            exact ⟨by grind, rfl⟩
          · refine J_blk a_X6_isUnder_29 ?_
            simp only [b_X6_isUnder_29, w_iconst_1, w_goto, kd_46, kd_47, kd_48, kd_49, kd_50, kd_51, kd_52, kd_53, kd_54, kd_55, kd_56, kd_57, kd_58, kd_59, ln_47, ln_48, ln_49, ln_50, ln_51, ln_52, ln_53, ln_54, ln_55, ln_56, ln_57, ln_58, ln_59, Option.toList_some, Option.toList_none, List.cons_append, List.nil_append, true_and, and_true, if_true, if_false, true_or, or_true, Nat.reduceAdd, Int.reduceAdd, Bool.false_eq_true, tn_0, tn_1, tn_2, tn_3, tn_4, tn_5, tn_6, tn_7]
            refine J_blk a_X6_isUnder_34 ?_
            simp only [b_X6_isUnder_34, w_iretz, kd_46, kd_47, kd_48, kd_49, kd_50, kd_51, kd_52, kd_53, kd_54, kd_55, kd_56, kd_57, kd_58, kd_59, ln_47, ln_48, ln_49, ln_50, ln_51, ln_52, ln_53, ln_54, ln_55, ln_56, ln_57, ln_58, ln_59, Option.toList_some, Option.toList_none, List.cons_append, List.nil_append, true_and, and_true, if_true, if_false, true_or, or_true, Nat.reduceAdd, Int.reduceAdd, Bool.false_eq_true, tn_0, tn_1, tn_2, tn_3, tn_4, tn_5, tn_6, tn_7]
            try refine ⟨(by first | exact Or.inl rfl | exact Or.inr rfl), ?_⟩
            exact ⟨by grind, rfl⟩
      · refine J_blk a_X6_isUnder_14 ?_
        simp only [b_X6_isUnder_14, w_iload_n0, w_iconst_3, w_icmp_eq, w_nil, kd_46, kd_47, kd_48, kd_49, kd_50, kd_51, kd_52, kd_53, kd_54, kd_55, kd_56, kd_57, kd_58, kd_59, ln_47, ln_48, ln_49, ln_50, ln_51, ln_52, ln_53, ln_54, ln_55, ln_56, ln_57, ln_58, ln_59, Option.toList_some, Option.toList_none, List.cons_append, List.nil_append, true_and, and_true, if_true, if_false, true_or, or_true, Nat.reduceAdd, Int.reduceAdd, Bool.false_eq_true, tn_0, tn_1, tn_2, tn_3, tn_4, tn_5, tn_6, tn_7]
        refine ⟨fun c24 => ?_, fun c24 => ?_⟩
        · refine J_blk a_X6_isUnder_29 ?_
          simp only [b_X6_isUnder_29, w_iconst_1, w_goto, kd_46, kd_47, kd_48, kd_49, kd_50, kd_51, kd_52, kd_53, kd_54, kd_55, kd_56, kd_57, kd_58, kd_59, ln_47, ln_48, ln_49, ln_50, ln_51, ln_52, ln_53, ln_54, ln_55, ln_56, ln_57, ln_58, ln_59, Option.toList_some, Option.toList_none, List.cons_append, List.nil_append, true_and, and_true, if_true, if_false, true_or, or_true, Nat.reduceAdd, Int.reduceAdd, Bool.false_eq_true, tn_0, tn_1, tn_2, tn_3, tn_4, tn_5, tn_6, tn_7]
          refine J_blk a_X6_isUnder_34 ?_
          simp only [b_X6_isUnder_34, w_iretz, kd_46, kd_47, kd_48, kd_49, kd_50, kd_51, kd_52, kd_53, kd_54, kd_55, kd_56, kd_57, kd_58, kd_59, ln_47, ln_48, ln_49, ln_50, ln_51, ln_52, ln_53, ln_54, ln_55, ln_56, ln_57, ln_58, ln_59, Option.toList_some, Option.toList_none, List.cons_append, List.nil_append, true_and, and_true, if_true, if_false, true_or, or_true, Nat.reduceAdd, Int.reduceAdd, Bool.false_eq_true, tn_0, tn_1, tn_2, tn_3, tn_4, tn_5, tn_6, tn_7]
          try refine ⟨(by first | exact Or.inl rfl | exact Or.inr rfl), ?_⟩
          exact ⟨by grind, rfl⟩
        · refine J_blk a_X6_isUnder_19 ?_
          simp only [b_X6_isUnder_19, w_iload_n1, w_iconst_2, w_icmp_ne, w_nil, kd_46, kd_47, kd_48, kd_49, kd_50, kd_51, kd_52, kd_53, kd_54, kd_55, kd_56, kd_57, kd_58, kd_59, ln_47, ln_48, ln_49, ln_50, ln_51, ln_52, ln_53, ln_54, ln_55, ln_56, ln_57, ln_58, ln_59, Option.toList_some, Option.toList_none, List.cons_append, List.nil_append, true_and, and_true, if_true, if_false, true_or, or_true, Nat.reduceAdd, Int.reduceAdd, Bool.false_eq_true, tn_0, tn_1, tn_2, tn_3, tn_4, tn_5, tn_6, tn_7]
          refine ⟨fun c25 => ?_, fun c25 => ?_⟩
          · refine J_blk a_X6_isUnder_33 ?_
            simp only [b_X6_isUnder_33, w_iconst_0, w_nil, kd_46, kd_47, kd_48, kd_49, kd_50, kd_51, kd_52, kd_53, kd_54, kd_55, kd_56, kd_57, kd_58, kd_59, ln_47, ln_48, ln_49, ln_50, ln_51, ln_52, ln_53, ln_54, ln_55, ln_56, ln_57, ln_58, ln_59, Option.toList_some, Option.toList_none, List.cons_append, List.nil_append, true_and, and_true, if_true, if_false, true_or, or_true, Nat.reduceAdd, Int.reduceAdd, Bool.false_eq_true, tn_0, tn_1, tn_2, tn_3, tn_4, tn_5, tn_6, tn_7]
            refine J_blk a_X6_isUnder_34 ?_
            simp only [b_X6_isUnder_34, w_iretz, kd_46, kd_47, kd_48, kd_49, kd_50, kd_51, kd_52, kd_53, kd_54, kd_55, kd_56, kd_57, kd_58, kd_59, ln_47, ln_48, ln_49, ln_50, ln_51, ln_52, ln_53, ln_54, ln_55, ln_56, ln_57, ln_58, ln_59, Option.toList_some, Option.toList_none, List.cons_append, List.nil_append, true_and, and_true, if_true, if_false, true_or, or_true, Nat.reduceAdd, Int.reduceAdd, Bool.false_eq_true, tn_0, tn_1, tn_2, tn_3, tn_4, tn_5, tn_6, tn_7]
            try refine ⟨(by first | exact Or.inl rfl | exact Or.inr rfl), ?_⟩
            exact ⟨by grind, rfl⟩
          · refine J_blk a_X6_isUnder_24 ?_
            simp only [b_X6_isUnder_24, w_iload_n0, w_iconst_4, w_icmp_ne, w_nil, kd_46, kd_47, kd_48, kd_49, kd_50, kd_51, kd_52, kd_53, kd_54, kd_55, kd_56, kd_57, kd_58, kd_59, ln_47, ln_48, ln_49, ln_50, ln_51, ln_52, ln_53, ln_54, ln_55, ln_56, ln_57, ln_58, ln_59, Option.toList_some, Option.toList_none, List.cons_append, List.nil_append, true_and, and_true, if_true, if_false, true_or, or_true, Nat.reduceAdd, Int.reduceAdd, Bool.false_eq_true, tn_0, tn_1, tn_2, tn_3, tn_4, tn_5, tn_6, tn_7]
            refine ⟨fun c26 => ?_, fun c26 => ?_⟩
            · refine J_blk a_X6_isUnder_33 ?_
              simp only [b_X6_isUnder_33, w_iconst_0, w_nil, kd_46, kd_47, kd_48, kd_49, kd_50, kd_51, kd_52, kd_53, kd_54, kd_55, kd_56, kd_57, kd_58, kd_59, ln_47, ln_48, ln_49, ln_50, ln_51, ln_52, ln_53, ln_54, ln_55, ln_56, ln_57, ln_58, ln_59, Option.toList_some, Option.toList_none, List.cons_append, List.nil_append, true_and, and_true, if_true, if_false, true_or, or_true, Nat.reduceAdd, Int.reduceAdd, Bool.false_eq_true, tn_0, tn_1, tn_2, tn_3, tn_4, tn_5, tn_6, tn_7]
              refine J_blk a_X6_isUnder_34 ?_
              simp only [b_X6_isUnder_34, w_iretz, kd_46, kd_47, kd_48, kd_49, kd_50, kd_51, kd_52, kd_53, kd_54, kd_55, kd_56, kd_57, kd_58, kd_59, ln_47, ln_48, ln_49, ln_50, ln_51, ln_52, ln_53, ln_54, ln_55, ln_56, ln_57, ln_58, ln_59, Option.toList_some, Option.toList_none, List.cons_append, List.nil_append, true_and, and_true, if_true, if_false, true_or, or_true, Nat.reduceAdd, Int.reduceAdd, Bool.false_eq_true, tn_0, tn_1, tn_2, tn_3, tn_4, tn_5, tn_6, tn_7]
              try refine ⟨(by first | exact Or.inl rfl | exact Or.inr rfl), ?_⟩
              exact ⟨by grind, rfl⟩
            · refine J_blk a_X6_isUnder_29 ?_
              simp only [b_X6_isUnder_29, w_iconst_1, w_goto, kd_46, kd_47, kd_48, kd_49, kd_50, kd_51, kd_52, kd_53, kd_54, kd_55, kd_56, kd_57, kd_58, kd_59, ln_47, ln_48, ln_49, ln_50, ln_51, ln_52, ln_53, ln_54, ln_55, ln_56, ln_57, ln_58, ln_59, Option.toList_some, Option.toList_none, List.cons_append, List.nil_append, true_and, and_true, if_true, if_false, true_or, or_true, Nat.reduceAdd, Int.reduceAdd, Bool.false_eq_true, tn_0, tn_1, tn_2, tn_3, tn_4, tn_5, tn_6, tn_7]
              refine J_blk a_X6_isUnder_34 ?_
              simp only [b_X6_isUnder_34, w_iretz, kd_46, kd_47, kd_48, kd_49, kd_50, kd_51, kd_52, kd_53, kd_54, kd_55, kd_56, kd_57, kd_58, kd_59, ln_47, ln_48, ln_49, ln_50, ln_51, ln_52, ln_53, ln_54, ln_55, ln_56, ln_57, ln_58, ln_59, Option.toList_some, Option.toList_none, List.cons_append, List.nil_append, true_and, and_true, if_true, if_false, true_or, or_true, Nat.reduceAdd, Int.reduceAdd, Bool.false_eq_true, tn_0, tn_1, tn_2, tn_3, tn_4, tn_5, tn_6, tn_7]
              try refine ⟨(by first | exact Or.inl rfl | exact Or.inr rfl), ?_⟩
              exact ⟨by grind, rfl⟩
theorem mtaken_f (h as : Int32) (M : Mm) (hb : ¬ ((0 ≤ h ∧ h ≤ 3) ∧ (0 ≤ as ∧ as ≤ 13) ∧ ¬ (6 ≤ as ∧ as ≤ 9))) : K 2 mX6_taken [.ref 46, .int h, .int as] M (Rt (some (.int (-1))) M) := by
  refine K_go 2 o_X6_taken [none] rfl (Nat.le_of_ble_eq_true rfl) ?_
  simp only [lvA_i, lvA_a, lvA_l, lvA_nil, List.cons_append, List.nil_append]
  refine J_blk a_X6_taken_0 ?_
  simp only [b_X6_taken_0, w_iload_n1, w_nil, kd_46, kd_47, kd_48, kd_49, kd_50, kd_51, kd_52, kd_53, kd_54, kd_55, kd_56, kd_57, kd_58, kd_59, ln_47, ln_48, ln_49, ln_50, ln_51, ln_52, ln_53, ln_54, ln_55, ln_56, ln_57, ln_58, ln_59, Option.toList_some, Option.toList_none, List.cons_append, List.nil_append, true_and, and_true, if_true, if_false, true_or, or_true, Nat.reduceAdd, Int.reduceAdd, Bool.false_eq_true, tn_0, tn_1, tn_2, tn_3, tn_4, tn_5, tn_6, tn_7]
  refine J_callSr (isShelf_ok _ _) k_X6_taken_1 o_X6_isShelf rfl (by decide) rfl (Nat.le_of_ble_eq_true rfl) ?_
  refine J_blk a_X6_taken_4 ?_
  simp only [b_X6_taken_4, w_if_eq, w_nil, kd_46, kd_47, kd_48, kd_49, kd_50, kd_51, kd_52, kd_53, kd_54, kd_55, kd_56, kd_57, kd_58, kd_59, ln_47, ln_48, ln_49, ln_50, ln_51, ln_52, ln_53, ln_54, ln_55, ln_56, ln_57, ln_58, ln_59, Option.toList_some, Option.toList_none, List.cons_append, List.nil_append, true_and, and_true, if_true, if_false, true_or, or_true, Nat.reduceAdd, Int.reduceAdd, Bool.false_eq_true, tn_0, tn_1, tn_2, tn_3, tn_4, tn_5, tn_6, tn_7]
  refine ⟨fun c27 => ?_, fun c27 => ?_⟩
  · refine J_blk a_X6_taken_33 ?_
    simp only [b_X6_taken_33, w_iconst_m1, w_ireti, kd_46, kd_47, kd_48, kd_49, kd_50, kd_51, kd_52, kd_53, kd_54, kd_55, kd_56, kd_57, kd_58, kd_59, ln_47, ln_48, ln_49, ln_50, ln_51, ln_52, ln_53, ln_54, ln_55, ln_56, ln_57, ln_58, ln_59, Option.toList_some, Option.toList_none, List.cons_append, List.nil_append, true_and, and_true, if_true, if_false, true_or, or_true, Nat.reduceAdd, Int.reduceAdd, Bool.false_eq_true, tn_0, tn_1, tn_2, tn_3, tn_4, tn_5, tn_6, tn_7]
    exact ⟨rfl, rfl⟩
  · refine J_blk a_X6_taken_7 ?_
    simp only [b_X6_taken_7, w_iload_n2, w_i2l, w_lconst_0, w_ldc2, cl_13, w_nil, kd_46, kd_47, kd_48, kd_49, kd_50, kd_51, kd_52, kd_53, kd_54, kd_55, kd_56, kd_57, kd_58, kd_59, ln_47, ln_48, ln_49, ln_50, ln_51, ln_52, ln_53, ln_54, ln_55, ln_56, ln_57, ln_58, ln_59, Option.toList_some, Option.toList_none, List.cons_append, List.nil_append, true_and, and_true, if_true, if_false, true_or, or_true, Nat.reduceAdd, Int.reduceAdd, Bool.false_eq_true, tn_0, tn_1, tn_2, tn_3, tn_4, tn_5, tn_6, tn_7]
    refine J_callSr (isIn_ok _ _ _ _) k_X6_taken_13 o_X6_isIn rfl (by decide) rfl (Nat.le_of_ble_eq_true rfl) ?_
    simp only [l_le_1, l_le_2, l_le_3, l_le_5, l_le_7, l_le_8, l_le_9, l_le_10, l_le_13, l_le_20, l_le_30, l_le_60, l_le_99, l_le_9999, l_ge_0, l_ge_1, l_ge_6, l_ge_m1, i64_le]
    refine J_blk a_X6_taken_16 ?_
    simp only [b_X6_taken_16, w_if_eq, w_nil, kd_46, kd_47, kd_48, kd_49, kd_50, kd_51, kd_52, kd_53, kd_54, kd_55, kd_56, kd_57, kd_58, kd_59, ln_47, ln_48, ln_49, ln_50, ln_51, ln_52, ln_53, ln_54, ln_55, ln_56, ln_57, ln_58, ln_59, Option.toList_some, Option.toList_none, List.cons_append, List.nil_append, true_and, and_true, if_true, if_false, true_or, or_true, Nat.reduceAdd, Int.reduceAdd, Bool.false_eq_true, tn_0, tn_1, tn_2, tn_3, tn_4, tn_5, tn_6, tn_7]
    refine ⟨fun c28 => ?_, fun c28 => ?_⟩
    · refine J_blk a_X6_taken_33 ?_
      simp only [b_X6_taken_33, w_iconst_m1, w_ireti, kd_46, kd_47, kd_48, kd_49, kd_50, kd_51, kd_52, kd_53, kd_54, kd_55, kd_56, kd_57, kd_58, kd_59, ln_47, ln_48, ln_49, ln_50, ln_51, ln_52, ln_53, ln_54, ln_55, ln_56, ln_57, ln_58, ln_59, Option.toList_some, Option.toList_none, List.cons_append, List.nil_append, true_and, and_true, if_true, if_false, true_or, or_true, Nat.reduceAdd, Int.reduceAdd, Bool.false_eq_true, tn_0, tn_1, tn_2, tn_3, tn_4, tn_5, tn_6, tn_7]
      exact ⟨rfl, rfl⟩
    · refine J_blk a_X6_taken_19 ?_
      simp only [b_X6_taken_19, w_iload_n2, w_i2l, w_ldc2, cl_6, cl_9, w_nil, kd_46, kd_47, kd_48, kd_49, kd_50, kd_51, kd_52, kd_53, kd_54, kd_55, kd_56, kd_57, kd_58, kd_59, ln_47, ln_48, ln_49, ln_50, ln_51, ln_52, ln_53, ln_54, ln_55, ln_56, ln_57, ln_58, ln_59, Option.toList_some, Option.toList_none, List.cons_append, List.nil_append, true_and, and_true, if_true, if_false, true_or, or_true, Nat.reduceAdd, Int.reduceAdd, Bool.false_eq_true, tn_0, tn_1, tn_2, tn_3, tn_4, tn_5, tn_6, tn_7]
      refine J_callSr (isIn_ok _ _ _ _) k_X6_taken_27 o_X6_isIn rfl (by decide) rfl (Nat.le_of_ble_eq_true rfl) ?_
      simp only [l_le_1, l_le_2, l_le_3, l_le_5, l_le_7, l_le_8, l_le_9, l_le_10, l_le_13, l_le_20, l_le_30, l_le_60, l_le_99, l_le_9999, l_ge_0, l_ge_1, l_ge_6, l_ge_m1, i64_le]
      refine J_blk a_X6_taken_30 ?_
      simp only [b_X6_taken_30, w_if_eq, w_nil, kd_46, kd_47, kd_48, kd_49, kd_50, kd_51, kd_52, kd_53, kd_54, kd_55, kd_56, kd_57, kd_58, kd_59, ln_47, ln_48, ln_49, ln_50, ln_51, ln_52, ln_53, ln_54, ln_55, ln_56, ln_57, ln_58, ln_59, Option.toList_some, Option.toList_none, List.cons_append, List.nil_append, true_and, and_true, if_true, if_false, true_or, or_true, Nat.reduceAdd, Int.reduceAdd, Bool.false_eq_true, tn_0, tn_1, tn_2, tn_3, tn_4, tn_5, tn_6, tn_7]
      refine ⟨fun c29 => ?_, fun c29 => ?_⟩
      · exact absurd (by grind) hb
      · refine J_blk a_X6_taken_33 ?_
        simp only [b_X6_taken_33, w_iconst_m1, w_ireti, kd_46, kd_47, kd_48, kd_49, kd_50, kd_51, kd_52, kd_53, kd_54, kd_55, kd_56, kd_57, kd_58, kd_59, ln_47, ln_48, ln_49, ln_50, ln_51, ln_52, ln_53, ln_54, ln_55, ln_56, ln_57, ln_58, ln_59, Option.toList_some, Option.toList_none, List.cons_append, List.nil_append, true_and, and_true, if_true, if_false, true_or, or_true, Nat.reduceAdd, Int.reduceAdd, Bool.false_eq_true, tn_0, tn_1, tn_2, tn_3, tn_4, tn_5, tn_6, tn_7]
        exact ⟨rfl, rfl⟩
def tkS (M : Mm) (n h : Nat) (as : Int32) : Int32 := if hoS M n h = 0 then -11 else if as < 10 then (if hoS M n h = 1 ∧ unS (M.1 47 (8 + 6 * (M.1 57 h).toNatClampNeg)) as then M.1 57 h else -13) else (if hoS M n h = 2 ∧ M.1 57 h = as - 10 then M.1 58 h else -13)
theorem ho_1 {M : Mm} {n h : Nat} (hn : n < 2 ^ 31) (e : hoS M n h = 1) : ∃ a, a < n ∧ M.1 57 h = nI a := by
  unfold hoS at e
  split at e
  · exact absurd e (by decide)
  · next c =>
    have : 0 ≤ M.1 57 h ∧ M.1 57 h < nI n := by grind
    exact inN this hn
theorem mtaken_t (h n : Nat) (as : Int32) (M : Mm) (hw : WF (M.1 47) n) (hh : h < 4) (hb : (0 ≤ as ∧ as ≤ 13) ∧ ¬ (6 ≤ as ∧ as ≤ 9)) : K 2 mX6_taken [.ref 46, .int (nI h), .int as] M (Rt (some (.int (tkS M n h as))) M) := by
  have h0 := hw.1
  have h8 := hw.2.1
  have h1 : 0 ≤ nI h ∧ nI h ≤ 3 := ok2 (m := 3) (by omega) (by decide)
  have th : (nI h).toNatClampNeg = h := nI_clamp (by omega)
  have lo : as < 10 → hoS M n h = 1 → J 2 mX6_taken 59 [some (.ref 46), some (.int (nI h)), some (.int as), some (.int (hoS M n h))] [] M (Rt (some (.int (if unS (M.1 47 (8 + 6 * (M.1 57 h).toNatClampNeg)) as then M.1 57 h else -13))) M) := by
    intro _ e1
    obtain ⟨a, ha, ea⟩ := ho_1 (by omega) e1
    rw [ea, nI_clamp (show a < 2 ^ 31 by omega)]
    refine J_blk a_X6_taken_59 ?_
    simp only [b_X6_taken_59, w_aload_n0, w_getf6, ne0_11, w_iload_n1, w_iald, w_iconst_0, w_nil, kd_46, kd_47, kd_48, kd_49, kd_50, kd_51, kd_52, kd_53, kd_54, kd_55, kd_56, kd_57, kd_58, kd_59, ln_47, ln_48, ln_49, ln_50, ln_51, ln_52, ln_53, ln_54, ln_55, ln_56, ln_57, ln_58, ln_59, Option.toList_some, Option.toList_none, List.cons_append, List.nil_append, true_and, and_true, if_true, if_false, true_or, or_true, Nat.reduceAdd, Int.reduceAdd, Bool.false_eq_true, tn_0, tn_1, tn_2, tn_3, tn_4, tn_5, tn_6, tn_7, th, ea]
    refine ⟨vinN hh (by decide), ?_⟩
    refine J_callVr (ci := 6) (its_ok a 0 M (by omega)) k_X6_taken_67 o_X6_its rfl rfl rfl rfl (by decide) rfl (Nat.le_of_ble_eq_true rfl) ?_
    refine J_blk a_X6_taken_70 ?_
    simp only [b_X6_taken_70, w_iload_n2, w_nil, kd_46, kd_47, kd_48, kd_49, kd_50, kd_51, kd_52, kd_53, kd_54, kd_55, kd_56, kd_57, kd_58, kd_59, ln_47, ln_48, ln_49, ln_50, ln_51, ln_52, ln_53, ln_54, ln_55, ln_56, ln_57, ln_58, ln_59, Option.toList_some, Option.toList_none, List.cons_append, List.nil_append, true_and, and_true, if_true, if_false, true_or, or_true, Nat.reduceAdd, Int.reduceAdd, Bool.false_eq_true, tn_0, tn_1, tn_2, tn_3, tn_4, tn_5, tn_6, tn_7, th, ea]
    refine J_callSr (isUnder_ok _ _ _) k_X6_taken_71 o_X6_isUnder rfl (by decide) rfl (Nat.le_of_ble_eq_true rfl) ?_
    refine J_blk a_X6_taken_74 ?_
    simp only [b_X6_taken_74, w_if_eq, w_nil, kd_46, kd_47, kd_48, kd_49, kd_50, kd_51, kd_52, kd_53, kd_54, kd_55, kd_56, kd_57, kd_58, kd_59, ln_47, ln_48, ln_49, ln_50, ln_51, ln_52, ln_53, ln_54, ln_55, ln_56, ln_57, ln_58, ln_59, Option.toList_some, Option.toList_none, List.cons_append, List.nil_append, true_and, and_true, if_true, if_false, true_or, or_true, Nat.reduceAdd, Int.reduceAdd, Bool.false_eq_true, tn_0, tn_1, tn_2, tn_3, tn_4, tn_5, tn_6, tn_7, th, ea]
    refine ⟨fun c30 => ?_, fun c30 => ?_⟩
    · refine J_blk a_X6_taken_86 ?_
      simp only [b_X6_taken_86, w_bipush, ci_m13, w_nil, kd_46, kd_47, kd_48, kd_49, kd_50, kd_51, kd_52, kd_53, kd_54, kd_55, kd_56, kd_57, kd_58, kd_59, ln_47, ln_48, ln_49, ln_50, ln_51, ln_52, ln_53, ln_54, ln_55, ln_56, ln_57, ln_58, ln_59, Option.toList_some, Option.toList_none, List.cons_append, List.nil_append, true_and, and_true, if_true, if_false, true_or, or_true, Nat.reduceAdd, Int.reduceAdd, Bool.false_eq_true, tn_0, tn_1, tn_2, tn_3, tn_4, tn_5, tn_6, tn_7, th, ea]
      refine J_blk a_X6_taken_88 ?_
      simp only [b_X6_taken_88, w_ireti, kd_46, kd_47, kd_48, kd_49, kd_50, kd_51, kd_52, kd_53, kd_54, kd_55, kd_56, kd_57, kd_58, kd_59, ln_47, ln_48, ln_49, ln_50, ln_51, ln_52, ln_53, ln_54, ln_55, ln_56, ln_57, ln_58, ln_59, Option.toList_some, Option.toList_none, List.cons_append, List.nil_append, true_and, and_true, if_true, if_false, true_or, or_true, Nat.reduceAdd, Int.reduceAdd, Bool.false_eq_true, tn_0, tn_1, tn_2, tn_3, tn_4, tn_5, tn_6, tn_7, th, ea]
      exact ⟨by grind, rfl⟩
    · refine J_blk a_X6_taken_77 ?_
      simp only [b_X6_taken_77, w_aload_n0, w_getf6, ne0_11, w_iload_n1, w_iald, w_goto, kd_46, kd_47, kd_48, kd_49, kd_50, kd_51, kd_52, kd_53, kd_54, kd_55, kd_56, kd_57, kd_58, kd_59, ln_47, ln_48, ln_49, ln_50, ln_51, ln_52, ln_53, ln_54, ln_55, ln_56, ln_57, ln_58, ln_59, Option.toList_some, Option.toList_none, List.cons_append, List.nil_append, true_and, and_true, if_true, if_false, true_or, or_true, Nat.reduceAdd, Int.reduceAdd, Bool.false_eq_true, tn_0, tn_1, tn_2, tn_3, tn_4, tn_5, tn_6, tn_7, th, ea]
      refine ⟨(vinN hh (by decide)), ?_⟩
      refine J_blk a_X6_taken_88 ?_
      simp only [b_X6_taken_88, w_ireti, kd_46, kd_47, kd_48, kd_49, kd_50, kd_51, kd_52, kd_53, kd_54, kd_55, kd_56, kd_57, kd_58, kd_59, ln_47, ln_48, ln_49, ln_50, ln_51, ln_52, ln_53, ln_54, ln_55, ln_56, ln_57, ln_58, ln_59, Option.toList_some, Option.toList_none, List.cons_append, List.nil_append, true_and, and_true, if_true, if_false, true_or, or_true, Nat.reduceAdd, Int.reduceAdd, Bool.false_eq_true, tn_0, tn_1, tn_2, tn_3, tn_4, tn_5, tn_6, tn_7, th, ea]
      exact ⟨by grind, rfl⟩
  unfold tkS
  refine K_go 2 o_X6_taken [none] rfl (Nat.le_of_ble_eq_true rfl) ?_
  simp only [lvA_i, lvA_a, lvA_l, lvA_nil, List.cons_append, List.nil_append]
  refine J_blk a_X6_taken_0 ?_
  simp only [b_X6_taken_0, w_iload_n1, w_nil, kd_46, kd_47, kd_48, kd_49, kd_50, kd_51, kd_52, kd_53, kd_54, kd_55, kd_56, kd_57, kd_58, kd_59, ln_47, ln_48, ln_49, ln_50, ln_51, ln_52, ln_53, ln_54, ln_55, ln_56, ln_57, ln_58, ln_59, Option.toList_some, Option.toList_none, List.cons_append, List.nil_append, true_and, and_true, if_true, if_false, true_or, or_true, Nat.reduceAdd, Int.reduceAdd, Bool.false_eq_true, tn_0, tn_1, tn_2, tn_3, tn_4, tn_5, tn_6, tn_7, th]
  refine J_callSr (isShelf_ok _ _) k_X6_taken_1 o_X6_isShelf rfl (by decide) rfl (Nat.le_of_ble_eq_true rfl) ?_
  refine J_blk a_X6_taken_4 ?_
  simp only [b_X6_taken_4, w_if_eq, w_nil, kd_46, kd_47, kd_48, kd_49, kd_50, kd_51, kd_52, kd_53, kd_54, kd_55, kd_56, kd_57, kd_58, kd_59, ln_47, ln_48, ln_49, ln_50, ln_51, ln_52, ln_53, ln_54, ln_55, ln_56, ln_57, ln_58, ln_59, Option.toList_some, Option.toList_none, List.cons_append, List.nil_append, true_and, and_true, if_true, if_false, true_or, or_true, Nat.reduceAdd, Int.reduceAdd, Bool.false_eq_true, tn_0, tn_1, tn_2, tn_3, tn_4, tn_5, tn_6, tn_7, th]
  refine ⟨fun c31 => ?_, fun c31 => ?_⟩
  · exact absurd hb (by grind)
  · refine J_blk a_X6_taken_7 ?_
    simp only [b_X6_taken_7, w_iload_n2, w_i2l, w_lconst_0, w_ldc2, cl_13, w_nil, kd_46, kd_47, kd_48, kd_49, kd_50, kd_51, kd_52, kd_53, kd_54, kd_55, kd_56, kd_57, kd_58, kd_59, ln_47, ln_48, ln_49, ln_50, ln_51, ln_52, ln_53, ln_54, ln_55, ln_56, ln_57, ln_58, ln_59, Option.toList_some, Option.toList_none, List.cons_append, List.nil_append, true_and, and_true, if_true, if_false, true_or, or_true, Nat.reduceAdd, Int.reduceAdd, Bool.false_eq_true, tn_0, tn_1, tn_2, tn_3, tn_4, tn_5, tn_6, tn_7, th]
    refine J_callSr (isIn_ok _ _ _ _) k_X6_taken_13 o_X6_isIn rfl (by decide) rfl (Nat.le_of_ble_eq_true rfl) ?_
    simp only [l_le_1, l_le_2, l_le_3, l_le_5, l_le_7, l_le_8, l_le_9, l_le_10, l_le_13, l_le_20, l_le_30, l_le_60, l_le_99, l_le_9999, l_ge_0, l_ge_1, l_ge_6, l_ge_m1, i64_le]
    refine J_blk a_X6_taken_16 ?_
    simp only [b_X6_taken_16, w_if_eq, w_nil, kd_46, kd_47, kd_48, kd_49, kd_50, kd_51, kd_52, kd_53, kd_54, kd_55, kd_56, kd_57, kd_58, kd_59, ln_47, ln_48, ln_49, ln_50, ln_51, ln_52, ln_53, ln_54, ln_55, ln_56, ln_57, ln_58, ln_59, Option.toList_some, Option.toList_none, List.cons_append, List.nil_append, true_and, and_true, if_true, if_false, true_or, or_true, Nat.reduceAdd, Int.reduceAdd, Bool.false_eq_true, tn_0, tn_1, tn_2, tn_3, tn_4, tn_5, tn_6, tn_7, th]
    refine ⟨fun c32 => ?_, fun c32 => ?_⟩
    · exact absurd hb (by grind)
    · refine J_blk a_X6_taken_19 ?_
      simp only [b_X6_taken_19, w_iload_n2, w_i2l, w_ldc2, cl_6, cl_9, w_nil, kd_46, kd_47, kd_48, kd_49, kd_50, kd_51, kd_52, kd_53, kd_54, kd_55, kd_56, kd_57, kd_58, kd_59, ln_47, ln_48, ln_49, ln_50, ln_51, ln_52, ln_53, ln_54, ln_55, ln_56, ln_57, ln_58, ln_59, Option.toList_some, Option.toList_none, List.cons_append, List.nil_append, true_and, and_true, if_true, if_false, true_or, or_true, Nat.reduceAdd, Int.reduceAdd, Bool.false_eq_true, tn_0, tn_1, tn_2, tn_3, tn_4, tn_5, tn_6, tn_7, th]
      refine J_callSr (isIn_ok _ _ _ _) k_X6_taken_27 o_X6_isIn rfl (by decide) rfl (Nat.le_of_ble_eq_true rfl) ?_
      simp only [l_le_1, l_le_2, l_le_3, l_le_5, l_le_7, l_le_8, l_le_9, l_le_10, l_le_13, l_le_20, l_le_30, l_le_60, l_le_99, l_le_9999, l_ge_0, l_ge_1, l_ge_6, l_ge_m1, i64_le]
      refine J_blk a_X6_taken_30 ?_
      simp only [b_X6_taken_30, w_if_eq, w_nil, kd_46, kd_47, kd_48, kd_49, kd_50, kd_51, kd_52, kd_53, kd_54, kd_55, kd_56, kd_57, kd_58, kd_59, ln_47, ln_48, ln_49, ln_50, ln_51, ln_52, ln_53, ln_54, ln_55, ln_56, ln_57, ln_58, ln_59, Option.toList_some, Option.toList_none, List.cons_append, List.nil_append, true_and, and_true, if_true, if_false, true_or, or_true, Nat.reduceAdd, Int.reduceAdd, Bool.false_eq_true, tn_0, tn_1, tn_2, tn_3, tn_4, tn_5, tn_6, tn_7, th]
      refine ⟨fun c33 => ?_, fun c33 => ?_⟩
      · refine J_blk a_X6_taken_35 ?_
        simp only [b_X6_taken_35, w_aload_n0, w_iload_n1, w_nil, kd_46, kd_47, kd_48, kd_49, kd_50, kd_51, kd_52, kd_53, kd_54, kd_55, kd_56, kd_57, kd_58, kd_59, ln_47, ln_48, ln_49, ln_50, ln_51, ln_52, ln_53, ln_54, ln_55, ln_56, ln_57, ln_58, ln_59, Option.toList_some, Option.toList_none, List.cons_append, List.nil_append, true_and, and_true, if_true, if_false, true_or, or_true, Nat.reduceAdd, Int.reduceAdd, Bool.false_eq_true, tn_0, tn_1, tn_2, tn_3, tn_4, tn_5, tn_6, tn_7, th]
        refine J_callVr (ci := 6) (heldOn_ok h n _ hw hh) k_X6_taken_37 o_X6_heldOn rfl rfl rfl rfl (by decide) rfl (Nat.le_of_ble_eq_true rfl) ?_
        refine J_blk a_X6_taken_40 ?_
        simp only [b_X6_taken_40, w_istore3, nl_3n, nl_3i, nl_3a, w_iload_n3, w_if_ne, w_nil, kd_46, kd_47, kd_48, kd_49, kd_50, kd_51, kd_52, kd_53, kd_54, kd_55, kd_56, kd_57, kd_58, kd_59, ln_47, ln_48, ln_49, ln_50, ln_51, ln_52, ln_53, ln_54, ln_55, ln_56, ln_57, ln_58, ln_59, Option.toList_some, Option.toList_none, List.cons_append, List.nil_append, true_and, and_true, if_true, if_false, true_or, or_true, Nat.reduceAdd, Int.reduceAdd, Bool.false_eq_true, tn_0, tn_1, tn_2, tn_3, tn_4, tn_5, tn_6, tn_7, th]
        refine ⟨fun c34 => ?_, fun c34 => ?_⟩
        · refine J_blk a_X6_taken_48 ?_
          simp only [b_X6_taken_48, w_iload_n2, w_bipush, ci_10, w_icmp_ge, w_nil, kd_46, kd_47, kd_48, kd_49, kd_50, kd_51, kd_52, kd_53, kd_54, kd_55, kd_56, kd_57, kd_58, kd_59, ln_47, ln_48, ln_49, ln_50, ln_51, ln_52, ln_53, ln_54, ln_55, ln_56, ln_57, ln_58, ln_59, Option.toList_some, Option.toList_none, List.cons_append, List.nil_append, true_and, and_true, if_true, if_false, true_or, or_true, Nat.reduceAdd, Int.reduceAdd, Bool.false_eq_true, tn_0, tn_1, tn_2, tn_3, tn_4, tn_5, tn_6, tn_7, th]
          refine ⟨fun c35 => ?_, fun c35 => ?_⟩
          · refine J_blk a_X6_taken_89 ?_
            simp only [b_X6_taken_89, w_iload_n3, w_iconst_2, w_icmp_ne, w_nil, kd_46, kd_47, kd_48, kd_49, kd_50, kd_51, kd_52, kd_53, kd_54, kd_55, kd_56, kd_57, kd_58, kd_59, ln_47, ln_48, ln_49, ln_50, ln_51, ln_52, ln_53, ln_54, ln_55, ln_56, ln_57, ln_58, ln_59, Option.toList_some, Option.toList_none, List.cons_append, List.nil_append, true_and, and_true, if_true, if_false, true_or, or_true, Nat.reduceAdd, Int.reduceAdd, Bool.false_eq_true, tn_0, tn_1, tn_2, tn_3, tn_4, tn_5, tn_6, tn_7, th]
            refine ⟨fun c36 => ?_, fun c36 => ?_⟩
            · refine J_blk a_X6_taken_116 ?_
              simp only [b_X6_taken_116, w_bipush, ci_m13, w_nil, kd_46, kd_47, kd_48, kd_49, kd_50, kd_51, kd_52, kd_53, kd_54, kd_55, kd_56, kd_57, kd_58, kd_59, ln_47, ln_48, ln_49, ln_50, ln_51, ln_52, ln_53, ln_54, ln_55, ln_56, ln_57, ln_58, ln_59, Option.toList_some, Option.toList_none, List.cons_append, List.nil_append, true_and, and_true, if_true, if_false, true_or, or_true, Nat.reduceAdd, Int.reduceAdd, Bool.false_eq_true, tn_0, tn_1, tn_2, tn_3, tn_4, tn_5, tn_6, tn_7, th]
              refine J_blk a_X6_taken_118 ?_
              simp only [b_X6_taken_118, w_ireti, kd_46, kd_47, kd_48, kd_49, kd_50, kd_51, kd_52, kd_53, kd_54, kd_55, kd_56, kd_57, kd_58, kd_59, ln_47, ln_48, ln_49, ln_50, ln_51, ln_52, ln_53, ln_54, ln_55, ln_56, ln_57, ln_58, ln_59, Option.toList_some, Option.toList_none, List.cons_append, List.nil_append, true_and, and_true, if_true, if_false, true_or, or_true, Nat.reduceAdd, Int.reduceAdd, Bool.false_eq_true, tn_0, tn_1, tn_2, tn_3, tn_4, tn_5, tn_6, tn_7, th]
              exact ⟨by grind, rfl⟩
            · refine J_blk a_X6_taken_94 ?_
              simp only [b_X6_taken_94, w_aload_n0, w_getf6, ne0_11, w_iload_n1, w_iald, w_iload_n2, w_bipush, ci_10, w_isub, w_icmp_ne, w_nil, kd_46, kd_47, kd_48, kd_49, kd_50, kd_51, kd_52, kd_53, kd_54, kd_55, kd_56, kd_57, kd_58, kd_59, ln_47, ln_48, ln_49, ln_50, ln_51, ln_52, ln_53, ln_54, ln_55, ln_56, ln_57, ln_58, ln_59, Option.toList_some, Option.toList_none, List.cons_append, List.nil_append, true_and, and_true, if_true, if_false, true_or, or_true, Nat.reduceAdd, Int.reduceAdd, Bool.false_eq_true, tn_0, tn_1, tn_2, tn_3, tn_4, tn_5, tn_6, tn_7, th]
              refine ⟨(vinN hh (by decide)), ?_⟩
              refine ⟨fun c37 => ?_, fun c37 => ?_⟩
              · refine J_blk a_X6_taken_116 ?_
                simp only [b_X6_taken_116, w_bipush, ci_m13, w_nil, kd_46, kd_47, kd_48, kd_49, kd_50, kd_51, kd_52, kd_53, kd_54, kd_55, kd_56, kd_57, kd_58, kd_59, ln_47, ln_48, ln_49, ln_50, ln_51, ln_52, ln_53, ln_54, ln_55, ln_56, ln_57, ln_58, ln_59, Option.toList_some, Option.toList_none, List.cons_append, List.nil_append, true_and, and_true, if_true, if_false, true_or, or_true, Nat.reduceAdd, Int.reduceAdd, Bool.false_eq_true, tn_0, tn_1, tn_2, tn_3, tn_4, tn_5, tn_6, tn_7, th]
                refine J_blk a_X6_taken_118 ?_
                simp only [b_X6_taken_118, w_ireti, kd_46, kd_47, kd_48, kd_49, kd_50, kd_51, kd_52, kd_53, kd_54, kd_55, kd_56, kd_57, kd_58, kd_59, ln_47, ln_48, ln_49, ln_50, ln_51, ln_52, ln_53, ln_54, ln_55, ln_56, ln_57, ln_58, ln_59, Option.toList_some, Option.toList_none, List.cons_append, List.nil_append, true_and, and_true, if_true, if_false, true_or, or_true, Nat.reduceAdd, Int.reduceAdd, Bool.false_eq_true, tn_0, tn_1, tn_2, tn_3, tn_4, tn_5, tn_6, tn_7, th]
                exact ⟨by grind, rfl⟩
              · refine J_blk a_X6_taken_107 ?_
                simp only [b_X6_taken_107, w_aload_n0, w_getf6, ne0_12, w_iload_n1, w_iald, w_goto, kd_46, kd_47, kd_48, kd_49, kd_50, kd_51, kd_52, kd_53, kd_54, kd_55, kd_56, kd_57, kd_58, kd_59, ln_47, ln_48, ln_49, ln_50, ln_51, ln_52, ln_53, ln_54, ln_55, ln_56, ln_57, ln_58, ln_59, Option.toList_some, Option.toList_none, List.cons_append, List.nil_append, true_and, and_true, if_true, if_false, true_or, or_true, Nat.reduceAdd, Int.reduceAdd, Bool.false_eq_true, tn_0, tn_1, tn_2, tn_3, tn_4, tn_5, tn_6, tn_7, th]
                refine ⟨(vinN hh (by decide)), ?_⟩
                refine J_blk a_X6_taken_118 ?_
                simp only [b_X6_taken_118, w_ireti, kd_46, kd_47, kd_48, kd_49, kd_50, kd_51, kd_52, kd_53, kd_54, kd_55, kd_56, kd_57, kd_58, kd_59, ln_47, ln_48, ln_49, ln_50, ln_51, ln_52, ln_53, ln_54, ln_55, ln_56, ln_57, ln_58, ln_59, Option.toList_some, Option.toList_none, List.cons_append, List.nil_append, true_and, and_true, if_true, if_false, true_or, or_true, Nat.reduceAdd, Int.reduceAdd, Bool.false_eq_true, tn_0, tn_1, tn_2, tn_3, tn_4, tn_5, tn_6, tn_7, th]
                exact ⟨by grind, rfl⟩
          · refine J_blk a_X6_taken_54 ?_
            simp only [b_X6_taken_54, w_iload_n3, w_iconst_1, w_icmp_ne, w_nil, kd_46, kd_47, kd_48, kd_49, kd_50, kd_51, kd_52, kd_53, kd_54, kd_55, kd_56, kd_57, kd_58, kd_59, ln_47, ln_48, ln_49, ln_50, ln_51, ln_52, ln_53, ln_54, ln_55, ln_56, ln_57, ln_58, ln_59, Option.toList_some, Option.toList_none, List.cons_append, List.nil_append, true_and, and_true, if_true, if_false, true_or, or_true, Nat.reduceAdd, Int.reduceAdd, Bool.false_eq_true, tn_0, tn_1, tn_2, tn_3, tn_4, tn_5, tn_6, tn_7, th]
            refine ⟨fun c38 => ?_, fun c38 => ?_⟩
            · refine J_blk a_X6_taken_86 ?_
              simp only [b_X6_taken_86, w_bipush, ci_m13, w_nil, kd_46, kd_47, kd_48, kd_49, kd_50, kd_51, kd_52, kd_53, kd_54, kd_55, kd_56, kd_57, kd_58, kd_59, ln_47, ln_48, ln_49, ln_50, ln_51, ln_52, ln_53, ln_54, ln_55, ln_56, ln_57, ln_58, ln_59, Option.toList_some, Option.toList_none, List.cons_append, List.nil_append, true_and, and_true, if_true, if_false, true_or, or_true, Nat.reduceAdd, Int.reduceAdd, Bool.false_eq_true, tn_0, tn_1, tn_2, tn_3, tn_4, tn_5, tn_6, tn_7, th]
              refine J_blk a_X6_taken_88 ?_
              simp only [b_X6_taken_88, w_ireti, kd_46, kd_47, kd_48, kd_49, kd_50, kd_51, kd_52, kd_53, kd_54, kd_55, kd_56, kd_57, kd_58, kd_59, ln_47, ln_48, ln_49, ln_50, ln_51, ln_52, ln_53, ln_54, ln_55, ln_56, ln_57, ln_58, ln_59, Option.toList_some, Option.toList_none, List.cons_append, List.nil_append, true_and, and_true, if_true, if_false, true_or, or_true, Nat.reduceAdd, Int.reduceAdd, Bool.false_eq_true, tn_0, tn_1, tn_2, tn_3, tn_4, tn_5, tn_6, tn_7, th]
              exact ⟨by grind, rfl⟩
            · exact J.mono (lo (Int32.not_le.mp (by assumption)) (by assumption)) (fun r M' hr => ⟨by rw [hr.1]; grind, hr.2⟩)
        · refine J_blk a_X6_taken_45 ?_
          simp only [b_X6_taken_45, w_bipush, ci_m11, w_ireti, kd_46, kd_47, kd_48, kd_49, kd_50, kd_51, kd_52, kd_53, kd_54, kd_55, kd_56, kd_57, kd_58, kd_59, ln_47, ln_48, ln_49, ln_50, ln_51, ln_52, ln_53, ln_54, ln_55, ln_56, ln_57, ln_58, ln_59, Option.toList_some, Option.toList_none, List.cons_append, List.nil_append, true_and, and_true, if_true, if_false, true_or, or_true, Nat.reduceAdd, Int.reduceAdd, Bool.false_eq_true, tn_0, tn_1, tn_2, tn_3, tn_4, tn_5, tn_6, tn_7, th]
          exact ⟨by grind, rfl⟩
      · exact absurd hb (by grind)
/-- a body is noted -/
def ntM (M : Mm) (b : Int32) : Mm := if M.1 46 21 < 30 then u1 (u1 M 59 (M.1 46 21).toNatClampNeg b) 46 21 (M.1 46 21 + 1) else M
def CT (M : Mm) : Prop := ∃ c, c ≤ 30 ∧ M.1 46 21 = nI c
theorem runs_ok (b : Int32) (M : Mm) (hc : CT M) : K 0 mX6_runs [.ref 46, .int b] M (Rt none (ntM M b)) := by
  obtain ⟨c, hc, e⟩ := hc
  unfold ntM
  refine K_go 1 o_X6_runs [] rfl (Nat.le_of_ble_eq_true rfl) ?_
  simp only [lvA_i, lvA_a, lvA_l, lvA_nil, List.cons_append, List.nil_append]
  refine J_blk a_X6_runs_0 ?_
  simp only [b_X6_runs_0, w_aload_n0, w_getf6, w_bipush, ci_30, w_icmp_ge, w_nil, kd_46, kd_47, kd_48, kd_49, kd_50, kd_51, kd_52, kd_53, kd_54, kd_55, kd_56, kd_57, kd_58, kd_59, ln_47, ln_48, ln_49, ln_50, ln_51, ln_52, ln_53, ln_54, ln_55, ln_56, ln_57, ln_58, ln_59, Option.toList_some, Option.toList_none, List.cons_append, List.nil_append, true_and, and_true, if_true, if_false, true_or, or_true, Nat.reduceAdd, Int.reduceAdd, Bool.false_eq_true, tn_0, tn_1, tn_2, tn_3, tn_4, tn_5, tn_6, tn_7, e]
  refine ⟨fun h => ?_, fun h => ?_⟩
  · rw [if_neg (Int32.not_lt.mpr h)]
    refine J_blk a_X6_runs_29 ?_
    simp only [b_X6_runs_29, w_vret, kd_46, kd_47, kd_48, kd_49, kd_50, kd_51, kd_52, kd_53, kd_54, kd_55, kd_56, kd_57, kd_58, kd_59, ln_47, ln_48, ln_49, ln_50, ln_51, ln_52, ln_53, ln_54, ln_55, ln_56, ln_57, ln_58, ln_59, Option.toList_some, Option.toList_none, List.cons_append, List.nil_append, true_and, and_true, if_true, if_false, true_or, or_true, Nat.reduceAdd, Int.reduceAdd, Bool.false_eq_true, tn_0, tn_1, tn_2, tn_3, tn_4, tn_5, tn_6, tn_7]
    first | exact ⟨rfl, rfl⟩ | (simp_all [Rt])
  · rw [if_pos (Int32.not_le.mp h)]
    have hc2 : c < 30 := by
      rcases Nat.lt_or_ge c 30 with g | g
      · exact g
      · exact absurd (nI_le (a := 30) g (by omega)) h
    refine J_blk a_X6_runs_9 ?_
    simp only [b_X6_runs_9, w_aload_n0, w_getf6, ne0_13, w_iload_n1, w_iast, w_dup_i, w_dup_a, w_iconst_1, w_iadd, w_putf6, w_nil, kd_46, kd_47, kd_48, kd_49, kd_50, kd_51, kd_52, kd_53, kd_54, kd_55, kd_56, kd_57, kd_58, kd_59, ln_47, ln_48, ln_49, ln_50, ln_51, ln_52, ln_53, ln_54, ln_55, ln_56, ln_57, ln_58, ln_59, Option.toList_some, Option.toList_none, List.cons_append, List.nil_append, true_and, and_true, if_true, if_false, true_or, or_true, Nat.reduceAdd, Int.reduceAdd, Bool.false_eq_true, tn_0, tn_1, tn_2, tn_3, tn_4, tn_5, tn_6, tn_7, e]
    refine ⟨vinN hc2 (by decide), ?_⟩
    rw [u1_o _ _ _ _ (show (46 : Nat) ≠ 59 by decide), e]
    refine J_blk a_X6_runs_29 ?_
    simp only [b_X6_runs_29, w_vret, kd_46, kd_47, kd_48, kd_49, kd_50, kd_51, kd_52, kd_53, kd_54, kd_55, kd_56, kd_57, kd_58, kd_59, ln_47, ln_48, ln_49, ln_50, ln_51, ln_52, ln_53, ln_54, ln_55, ln_56, ln_57, ln_58, ln_59, Option.toList_some, Option.toList_none, List.cons_append, List.nil_append, true_and, and_true, if_true, if_false, true_or, or_true, Nat.reduceAdd, Int.reduceAdd, Bool.false_eq_true, tn_0, tn_1, tn_2, tn_3, tn_4, tn_5, tn_6, tn_7]
    first | exact ⟨rfl, rfl⟩ | (simp_all [Rt])
theorem CT_nt {M : Mm} (b : Int32) (h : CT M) : CT (ntM M b) := by
  obtain ⟨c, hc, e⟩ := h
  unfold ntM
  by_cases g : M.1 46 21 < 30
  · rw [if_pos g]
    refine ⟨c + 1, ?_, ?_⟩
    · rw [e] at g
      rcases Nat.lt_or_ge c 30 with k | k
      · omega
      · exact absurd g (nI_nlt (b := 30) k (by omega))
    · simp [u1, e, nI_1]
  · rw [if_neg g]
    exact ⟨c, hc, e⟩
theorem nt_f (M : Mm) (b : Int32) {k : Nat} (h : k ≠ 21) : (ntM M b).1 46 k = M.1 46 k := by
  unfold ntM
  split
  · simp [u1, h]
  · rfl
def ntL (M : Mm) (l : List Int32) : Mm := l.foldl ntM M
theorem CT_L {M : Mm} (l : List Int32) (h : CT M) : CT (ntL M l) := by
  induction l generalizing M with
  | nil => exact h
  | cons b l ih => exact ih (CT_nt b h)
theorem ntL_f (M : Mm) (l : List Int32) {k : Nat} (h : k ≠ 21) : (ntL M l).1 46 k = M.1 46 k := by
  induction l generalizing M with
  | nil => rfl
  | cons b l ih => exact (ih (ntM M b)).trans (nt_f M b h)
theorem ntL_app (M : Mm) (l m : List Int32) : ntL (ntL M l) m = ntL M (l ++ m) := by
  unfold ntL; rw [List.foldl_append]
theorem ntL_1 (M : Mm) (b : Int32) : ntM M b = ntL M [b] := rfl
def buL (k : Int32) : List Int32 := if k = 2 then [30, 10] else if k = 4 then [40, 30, 10] else if k = 3 then [51, 10] else [10]
def buV (k n x : Int32) : Int32 := if k = 2 then x * 3 + n - 1 else if k = 4 then 0 - (x * 3 + n - 1) else if k = 3 then x * 3 + n + n else x * 3 + n
def leL (k : Int32) : List Int32 := if k = 1 ∨ k = 3 then 20 :: 11 :: buL k else if k = 4 then 41 :: 11 :: (buL k ++ buL k) else 11 :: buL k
def leV (k n a x : Int32) : Int32 := if k = 1 ∨ k = 3 then (buV k n x - a) * 2 else if k = 4 then (buV k n x - a) ^^^ buV k n a else buV k n x - a
def ppV (n a x : Int32) : Int32 := if n = a then 0 else x / (a - n)
def paL (k n a : Int32) : List Int32 := if k = 3 then [50, 12] else if k = 5 then 61 :: 12 :: (if n = a then [] else buL k) else [12]
def paV (k n a x : Int32) : Int32 := if k = 3 then ppV n a (x - a) + 9 else if k = 5 then (if n = a then 0 else ppV n a x - buV k n n) else ppV n a x
def faL (k n a : Int32) : List Int32 := if k = 2 ∨ k = 4 then 31 :: 13 :: (leL k ++ paL k n a) else if k = 5 then 60 :: 13 :: leL k else 13 :: leL k
def faV (k n a x : Int32) : Int32 := if k = 2 ∨ k = 4 then (leV k n a x ^^^ 17) + paV k n a n else if k = 5 then 70 - (leV k n a x ^^^ 17) else leV k n a x ^^^ 17
theorem budsPlain_ok (x : Int32) (M : Mm) (hc : CT M) : K 1 mX6_budsPlain [.ref 46, .int x] M (Rt (some (.int (x * 3 + M.1 46 23))) (ntL M [10])) := by
  refine K_go 1 o_X6_budsPlain [] rfl (Nat.le_of_ble_eq_true rfl) ?_
  simp only [lvA_i, lvA_a, lvA_l, lvA_nil, List.cons_append, List.nil_append]
  refine J_blk a_X6_budsPlain_0 ?_
  simp only [b_X6_budsPlain_0, w_aload_n0, w_bipush, ci_10, w_nil, kd_46, kd_47, kd_48, kd_49, kd_50, kd_51, kd_52, kd_53, kd_54, kd_55, kd_56, kd_57, kd_58, kd_59, ln_47, ln_48, ln_49, ln_50, ln_51, ln_52, ln_53, ln_54, ln_55, ln_56, ln_57, ln_58, ln_59, Option.toList_some, Option.toList_none, List.cons_append, List.nil_append, true_and, and_true, if_true, if_false, true_or, or_true, Nat.reduceAdd, Int.reduceAdd, Bool.false_eq_true, tn_0, tn_1, tn_2, tn_3, tn_4, tn_5, tn_6, tn_7, ntL_f _ _ (show (23 : Nat) ≠ 21 by decide)]
  refine J_callVr (ci := 6) (runs_ok _ _ (by first | exact hc | exact CT_L _ hc)) k_X6_budsPlain_3 o_X6_runs rfl rfl rfl rfl (by decide) rfl (Nat.le_of_ble_eq_true rfl) ?_
  try simp only [ntL_1, ntL_app, List.cons_append, List.nil_append]
  refine J_blk a_X6_budsPlain_6 ?_
  simp only [b_X6_budsPlain_6, w_iload_n1, w_iconst_3, w_imul, w_aload_n0, w_getf6, w_iadd, w_ireti, kd_46, kd_47, kd_48, kd_49, kd_50, kd_51, kd_52, kd_53, kd_54, kd_55, kd_56, kd_57, kd_58, kd_59, ln_47, ln_48, ln_49, ln_50, ln_51, ln_52, ln_53, ln_54, ln_55, ln_56, ln_57, ln_58, ln_59, Option.toList_some, Option.toList_none, List.cons_append, List.nil_append, true_and, and_true, if_true, if_false, true_or, or_true, Nat.reduceAdd, Int.reduceAdd, Bool.false_eq_true, tn_0, tn_1, tn_2, tn_3, tn_4, tn_5, tn_6, tn_7, ntL_f _ _ (show (23 : Nat) ≠ 21 by decide)]
  first | exact ⟨rfl, rfl⟩ | (simp_all [Rt])
theorem budsOfBough_ok (x : Int32) (M : Mm) (hc : CT M) : K 2 mX6_budsOfBough [.ref 46, .int x] M (Rt (some (.int (x * 3 + M.1 46 23 - 1))) (ntL M [30, 10])) := by
  refine K_go 1 o_X6_budsOfBough [] rfl (Nat.le_of_ble_eq_true rfl) ?_
  simp only [lvA_i, lvA_a, lvA_l, lvA_nil, List.cons_append, List.nil_append]
  refine J_blk a_X6_budsOfBough_0 ?_
  simp only [b_X6_budsOfBough_0, w_aload_n0, w_bipush, ci_30, w_nil, kd_46, kd_47, kd_48, kd_49, kd_50, kd_51, kd_52, kd_53, kd_54, kd_55, kd_56, kd_57, kd_58, kd_59, ln_47, ln_48, ln_49, ln_50, ln_51, ln_52, ln_53, ln_54, ln_55, ln_56, ln_57, ln_58, ln_59, Option.toList_some, Option.toList_none, List.cons_append, List.nil_append, true_and, and_true, if_true, if_false, true_or, or_true, Nat.reduceAdd, Int.reduceAdd, Bool.false_eq_true, tn_0, tn_1, tn_2, tn_3, tn_4, tn_5, tn_6, tn_7]
  refine J_callVr (ci := 6) (runs_ok _ _ (by first | exact hc | exact CT_L _ hc)) k_X6_budsOfBough_3 o_X6_runs rfl rfl rfl rfl (by decide) rfl (Nat.le_of_ble_eq_true rfl) ?_
  try simp only [ntL_1, ntL_app, List.cons_append, List.nil_append]
  refine J_blk a_X6_budsOfBough_6 ?_
  simp only [b_X6_budsOfBough_6, w_aload_n0, w_iload_n1, w_nil, kd_46, kd_47, kd_48, kd_49, kd_50, kd_51, kd_52, kd_53, kd_54, kd_55, kd_56, kd_57, kd_58, kd_59, ln_47, ln_48, ln_49, ln_50, ln_51, ln_52, ln_53, ln_54, ln_55, ln_56, ln_57, ln_58, ln_59, Option.toList_some, Option.toList_none, List.cons_append, List.nil_append, true_and, and_true, if_true, if_false, true_or, or_true, Nat.reduceAdd, Int.reduceAdd, Bool.false_eq_true, tn_0, tn_1, tn_2, tn_3, tn_4, tn_5, tn_6, tn_7]
  refine J_callVr (ci := 6) (budsPlain_ok _ _ (CT_L _ hc)) k_X6_budsOfBough_8 o_X6_budsPlain rfl rfl rfl rfl (by decide) rfl (Nat.le_of_ble_eq_true rfl) ?_
  try simp only [ntL_app, List.cons_append, List.nil_append, ntL_f _ _ (show (23 : Nat) ≠ 21 by decide)]
  refine J_blk a_X6_budsOfBough_11 ?_
  simp only [b_X6_budsOfBough_11, w_iconst_1, w_isub, w_ireti, kd_46, kd_47, kd_48, kd_49, kd_50, kd_51, kd_52, kd_53, kd_54, kd_55, kd_56, kd_57, kd_58, kd_59, ln_47, ln_48, ln_49, ln_50, ln_51, ln_52, ln_53, ln_54, ln_55, ln_56, ln_57, ln_58, ln_59, Option.toList_some, Option.toList_none, List.cons_append, List.nil_append, true_and, and_true, if_true, if_false, true_or, or_true, Nat.reduceAdd, Int.reduceAdd, Bool.false_eq_true, tn_0, tn_1, tn_2, tn_3, tn_4, tn_5, tn_6, tn_7]
  first | exact ⟨rfl, rfl⟩ | (simp_all [Rt])
theorem buds_ok (x : Int32) (M : Mm) (hc : CT M) : K 3 mX6_buds [.ref 46, .int x] M (Rt (some (.int (buV (M.1 46 22) (M.1 46 23) x))) (ntL M (buL (M.1 46 22)))) := by
  unfold buV buL
  refine K_go 1 o_X6_buds [] rfl (Nat.le_of_ble_eq_true rfl) ?_
  simp only [lvA_i, lvA_a, lvA_l, lvA_nil, List.cons_append, List.nil_append]
  refine J_blk a_X6_buds_0 ?_
  simp only [b_X6_buds_0, w_aload_n0, w_getf6, w_tsw, sw_nil, sw_cons, ci_2, ci_3, ci_4, kd_46, kd_47, kd_48, kd_49, kd_50, kd_51, kd_52, kd_53, kd_54, kd_55, kd_56, kd_57, kd_58, kd_59, ln_47, ln_48, ln_49, ln_50, ln_51, ln_52, ln_53, ln_54, ln_55, ln_56, ln_57, ln_58, ln_59, Option.toList_some, Option.toList_none, List.cons_append, List.nil_append, true_and, and_true, if_true, if_false, true_or, or_true, Nat.reduceAdd, Int.reduceAdd, Bool.false_eq_true, tn_0, tn_1, tn_2, tn_3, tn_4, tn_5, tn_6, tn_7]
  refine ⟨fun e1 => ?_, fun e1 => ⟨fun e2 => ?_, fun e2 => ⟨fun e3 => ?_, fun e3 => ?_⟩⟩⟩
  · simp only [if_pos e1]
    refine J_blk a_X6_buds_32 ?_
    simp only [b_X6_buds_32, w_aload_n0, w_iload_n1, w_nil, kd_46, kd_47, kd_48, kd_49, kd_50, kd_51, kd_52, kd_53, kd_54, kd_55, kd_56, kd_57, kd_58, kd_59, ln_47, ln_48, ln_49, ln_50, ln_51, ln_52, ln_53, ln_54, ln_55, ln_56, ln_57, ln_58, ln_59, Option.toList_some, Option.toList_none, List.cons_append, List.nil_append, true_and, and_true, if_true, if_false, true_or, or_true, Nat.reduceAdd, Int.reduceAdd, Bool.false_eq_true, tn_0, tn_1, tn_2, tn_3, tn_4, tn_5, tn_6, tn_7]
    refine J_callVr (ci := 6) (budsOfBough_ok _ _ hc) k_X6_buds_34 o_X6_budsOfBough rfl rfl rfl rfl (by decide) rfl (Nat.le_of_ble_eq_true rfl) ?_
    refine J_blk a_X6_buds_37 ?_
    simp only [b_X6_buds_37, w_ireti, kd_46, kd_47, kd_48, kd_49, kd_50, kd_51, kd_52, kd_53, kd_54, kd_55, kd_56, kd_57, kd_58, kd_59, ln_47, ln_48, ln_49, ln_50, ln_51, ln_52, ln_53, ln_54, ln_55, ln_56, ln_57, ln_58, ln_59, Option.toList_some, Option.toList_none, List.cons_append, List.nil_append, true_and, and_true, if_true, if_false, true_or, or_true, Nat.reduceAdd, Int.reduceAdd, Bool.false_eq_true, tn_0, tn_1, tn_2, tn_3, tn_4, tn_5, tn_6, tn_7]
    first | exact ⟨rfl, rfl⟩ | (simp_all [Rt])
  · have q2 : ¬ M.1 46 22 = 2 := by rw [e2]; decide
    have q4 : ¬ M.1 46 22 = 4 := by rw [e2]; decide
    simp only [if_neg q2, if_neg q4, if_pos e2]
    refine J_blk a_X6_buds_52 ?_
    simp only [b_X6_buds_52, w_aload_n0, w_bipush, ci_51, w_nil, kd_46, kd_47, kd_48, kd_49, kd_50, kd_51, kd_52, kd_53, kd_54, kd_55, kd_56, kd_57, kd_58, kd_59, ln_47, ln_48, ln_49, ln_50, ln_51, ln_52, ln_53, ln_54, ln_55, ln_56, ln_57, ln_58, ln_59, Option.toList_some, Option.toList_none, List.cons_append, List.nil_append, true_and, and_true, if_true, if_false, true_or, or_true, Nat.reduceAdd, Int.reduceAdd, Bool.false_eq_true, tn_0, tn_1, tn_2, tn_3, tn_4, tn_5, tn_6, tn_7, ntL_f _ _ (show (23 : Nat) ≠ 21 by decide)]
    refine J_callVr (ci := 6) (runs_ok _ _ (by first | exact hc | exact CT_L _ hc)) k_X6_buds_55 o_X6_runs rfl rfl rfl rfl (by decide) rfl (Nat.le_of_ble_eq_true rfl) ?_
    try simp only [ntL_1, ntL_app, List.cons_append, List.nil_append]
    refine J_blk a_X6_buds_58 ?_
    simp only [b_X6_buds_58, w_aload_n0, w_iload_n1, w_nil, kd_46, kd_47, kd_48, kd_49, kd_50, kd_51, kd_52, kd_53, kd_54, kd_55, kd_56, kd_57, kd_58, kd_59, ln_47, ln_48, ln_49, ln_50, ln_51, ln_52, ln_53, ln_54, ln_55, ln_56, ln_57, ln_58, ln_59, Option.toList_some, Option.toList_none, List.cons_append, List.nil_append, true_and, and_true, if_true, if_false, true_or, or_true, Nat.reduceAdd, Int.reduceAdd, Bool.false_eq_true, tn_0, tn_1, tn_2, tn_3, tn_4, tn_5, tn_6, tn_7, ntL_f _ _ (show (23 : Nat) ≠ 21 by decide)]
    refine J_callVr (ci := 6) (budsPlain_ok _ _ (CT_L _ hc)) k_X6_buds_60 o_X6_budsPlain rfl rfl rfl rfl (by decide) rfl (Nat.le_of_ble_eq_true rfl) ?_
    try simp only [ntL_app, List.cons_append, List.nil_append, ntL_f _ _ (show (23 : Nat) ≠ 21 by decide)]
    refine J_blk a_X6_buds_63 ?_
    simp only [b_X6_buds_63, w_aload_n0, w_getf6, w_iadd, w_ireti, kd_46, kd_47, kd_48, kd_49, kd_50, kd_51, kd_52, kd_53, kd_54, kd_55, kd_56, kd_57, kd_58, kd_59, ln_47, ln_48, ln_49, ln_50, ln_51, ln_52, ln_53, ln_54, ln_55, ln_56, ln_57, ln_58, ln_59, Option.toList_some, Option.toList_none, List.cons_append, List.nil_append, true_and, and_true, if_true, if_false, true_or, or_true, Nat.reduceAdd, Int.reduceAdd, Bool.false_eq_true, tn_0, tn_1, tn_2, tn_3, tn_4, tn_5, tn_6, tn_7, ntL_f _ _ (show (23 : Nat) ≠ 21 by decide)]
    first | exact ⟨rfl, rfl⟩ | (simp_all [Rt])
  · have q2 : ¬ M.1 46 22 = 2 := by rw [e3]; decide
    simp only [if_neg q2, if_pos e3]
    refine J_blk a_X6_buds_38 ?_
    simp only [b_X6_buds_38, w_aload_n0, w_bipush, ci_40, w_nil, kd_46, kd_47, kd_48, kd_49, kd_50, kd_51, kd_52, kd_53, kd_54, kd_55, kd_56, kd_57, kd_58, kd_59, ln_47, ln_48, ln_49, ln_50, ln_51, ln_52, ln_53, ln_54, ln_55, ln_56, ln_57, ln_58, ln_59, Option.toList_some, Option.toList_none, List.cons_append, List.nil_append, true_and, and_true, if_true, if_false, true_or, or_true, Nat.reduceAdd, Int.reduceAdd, Bool.false_eq_true, tn_0, tn_1, tn_2, tn_3, tn_4, tn_5, tn_6, tn_7]
    refine J_callVr (ci := 6) (runs_ok _ _ (by first | exact hc | exact CT_L _ hc)) k_X6_buds_41 o_X6_runs rfl rfl rfl rfl (by decide) rfl (Nat.le_of_ble_eq_true rfl) ?_
    try simp only [ntL_1, ntL_app, List.cons_append, List.nil_append]
    refine J_blk a_X6_buds_44 ?_
    simp only [b_X6_buds_44, w_iconst_0, w_aload_n0, w_iload_n1, w_nil, kd_46, kd_47, kd_48, kd_49, kd_50, kd_51, kd_52, kd_53, kd_54, kd_55, kd_56, kd_57, kd_58, kd_59, ln_47, ln_48, ln_49, ln_50, ln_51, ln_52, ln_53, ln_54, ln_55, ln_56, ln_57, ln_58, ln_59, Option.toList_some, Option.toList_none, List.cons_append, List.nil_append, true_and, and_true, if_true, if_false, true_or, or_true, Nat.reduceAdd, Int.reduceAdd, Bool.false_eq_true, tn_0, tn_1, tn_2, tn_3, tn_4, tn_5, tn_6, tn_7]
    refine J_callVr (ci := 6) (budsOfBough_ok _ _ (CT_L _ hc)) k_X6_buds_47 o_X6_budsOfBough rfl rfl rfl rfl (by decide) rfl (Nat.le_of_ble_eq_true rfl) ?_
    try simp only [ntL_app, List.cons_append, List.nil_append, ntL_f _ _ (show (23 : Nat) ≠ 21 by decide)]
    refine J_blk a_X6_buds_50 ?_
    simp only [b_X6_buds_50, w_isub, w_ireti, kd_46, kd_47, kd_48, kd_49, kd_50, kd_51, kd_52, kd_53, kd_54, kd_55, kd_56, kd_57, kd_58, kd_59, ln_47, ln_48, ln_49, ln_50, ln_51, ln_52, ln_53, ln_54, ln_55, ln_56, ln_57, ln_58, ln_59, Option.toList_some, Option.toList_none, List.cons_append, List.nil_append, true_and, and_true, if_true, if_false, true_or, or_true, Nat.reduceAdd, Int.reduceAdd, Bool.false_eq_true, tn_0, tn_1, tn_2, tn_3, tn_4, tn_5, tn_6, tn_7]
    first | exact ⟨rfl, rfl⟩ | (simp_all [Rt])
  · simp only [if_neg e1, if_neg e2, if_neg e3]
    refine J_blk a_X6_buds_69 ?_
    simp only [b_X6_buds_69, w_aload_n0, w_iload_n1, w_nil, kd_46, kd_47, kd_48, kd_49, kd_50, kd_51, kd_52, kd_53, kd_54, kd_55, kd_56, kd_57, kd_58, kd_59, ln_47, ln_48, ln_49, ln_50, ln_51, ln_52, ln_53, ln_54, ln_55, ln_56, ln_57, ln_58, ln_59, Option.toList_some, Option.toList_none, List.cons_append, List.nil_append, true_and, and_true, if_true, if_false, true_or, or_true, Nat.reduceAdd, Int.reduceAdd, Bool.false_eq_true, tn_0, tn_1, tn_2, tn_3, tn_4, tn_5, tn_6, tn_7]
    refine J_callVr (ci := 6) (budsPlain_ok _ _ hc) k_X6_buds_71 o_X6_budsPlain rfl rfl rfl rfl (by decide) rfl (Nat.le_of_ble_eq_true rfl) ?_
    refine J_blk a_X6_buds_74 ?_
    simp only [b_X6_buds_74, w_ireti, kd_46, kd_47, kd_48, kd_49, kd_50, kd_51, kd_52, kd_53, kd_54, kd_55, kd_56, kd_57, kd_58, kd_59, ln_47, ln_48, ln_49, ln_50, ln_51, ln_52, ln_53, ln_54, ln_55, ln_56, ln_57, ln_58, ln_59, Option.toList_some, Option.toList_none, List.cons_append, List.nil_append, true_and, and_true, if_true, if_false, true_or, or_true, Nat.reduceAdd, Int.reduceAdd, Bool.false_eq_true, tn_0, tn_1, tn_2, tn_3, tn_4, tn_5, tn_6, tn_7]
    first | exact ⟨rfl, rfl⟩ | (simp_all [Rt])
theorem leansPlain_ok (x : Int32) (M : Mm) (hc : CT M) : K 4 mX6_leansPlain [.ref 46, .int x] M (Rt (some (.int (buV (M.1 46 22) (M.1 46 23) x - M.1 46 24))) (ntL M (11 :: buL (M.1 46 22)))) := by
  refine K_go 1 o_X6_leansPlain [] rfl (Nat.le_of_ble_eq_true rfl) ?_
  simp only [lvA_i, lvA_a, lvA_l, lvA_nil, List.cons_append, List.nil_append]
  refine J_blk a_X6_leansPlain_0 ?_
  simp only [b_X6_leansPlain_0, w_aload_n0, w_bipush, ci_11, w_nil, kd_46, kd_47, kd_48, kd_49, kd_50, kd_51, kd_52, kd_53, kd_54, kd_55, kd_56, kd_57, kd_58, kd_59, ln_47, ln_48, ln_49, ln_50, ln_51, ln_52, ln_53, ln_54, ln_55, ln_56, ln_57, ln_58, ln_59, Option.toList_some, Option.toList_none, List.cons_append, List.nil_append, true_and, and_true, if_true, if_false, true_or, or_true, Nat.reduceAdd, Int.reduceAdd, Bool.false_eq_true, tn_0, tn_1, tn_2, tn_3, tn_4, tn_5, tn_6, tn_7, ntL_f _ _ (show (24 : Nat) ≠ 21 by decide)]
  refine J_callVr (ci := 6) (runs_ok _ _ (by first | exact hc | exact CT_L _ hc)) k_X6_leansPlain_3 o_X6_runs rfl rfl rfl rfl (by decide) rfl (Nat.le_of_ble_eq_true rfl) ?_
  try simp only [ntL_1, ntL_app, List.cons_append, List.nil_append]
  refine J_blk a_X6_leansPlain_6 ?_
  simp only [b_X6_leansPlain_6, w_aload_n0, w_iload_n1, w_nil, kd_46, kd_47, kd_48, kd_49, kd_50, kd_51, kd_52, kd_53, kd_54, kd_55, kd_56, kd_57, kd_58, kd_59, ln_47, ln_48, ln_49, ln_50, ln_51, ln_52, ln_53, ln_54, ln_55, ln_56, ln_57, ln_58, ln_59, Option.toList_some, Option.toList_none, List.cons_append, List.nil_append, true_and, and_true, if_true, if_false, true_or, or_true, Nat.reduceAdd, Int.reduceAdd, Bool.false_eq_true, tn_0, tn_1, tn_2, tn_3, tn_4, tn_5, tn_6, tn_7, ntL_f _ _ (show (24 : Nat) ≠ 21 by decide)]
  refine J_callVr (ci := 6) (buds_ok _ _ (by first | exact hc | exact CT_L _ hc)) k_X6_leansPlain_8 o_X6_buds rfl rfl rfl rfl (by decide) rfl (Nat.le_of_ble_eq_true rfl) ?_
  try simp only [ntL_app, List.cons_append, List.nil_append, ntL_f _ _ (show (23 : Nat) ≠ 21 by decide), ntL_f _ _ (show (22 : Nat) ≠ 21 by decide), ntL_f _ _ (show (24 : Nat) ≠ 21 by decide)]
  refine J_blk a_X6_leansPlain_11 ?_
  simp only [b_X6_leansPlain_11, w_aload_n0, w_getf6, w_isub, w_ireti, kd_46, kd_47, kd_48, kd_49, kd_50, kd_51, kd_52, kd_53, kd_54, kd_55, kd_56, kd_57, kd_58, kd_59, ln_47, ln_48, ln_49, ln_50, ln_51, ln_52, ln_53, ln_54, ln_55, ln_56, ln_57, ln_58, ln_59, Option.toList_some, Option.toList_none, List.cons_append, List.nil_append, true_and, and_true, if_true, if_false, true_or, or_true, Nat.reduceAdd, Int.reduceAdd, Bool.false_eq_true, tn_0, tn_1, tn_2, tn_3, tn_4, tn_5, tn_6, tn_7, ntL_f _ _ (show (24 : Nat) ≠ 21 by decide)]
  first | exact ⟨rfl, rfl⟩ | (simp_all [Rt])
theorem leans_ok (x : Int32) (M : Mm) (hc : CT M) : K 5 mX6_leans [.ref 46, .int x] M (Rt (some (.int (leV (M.1 46 22) (M.1 46 23) (M.1 46 24) x))) (ntL M (leL (M.1 46 22)))) := by
  unfold leV leL
  refine K_go 1 o_X6_leans [none] rfl (Nat.le_of_ble_eq_true rfl) ?_
  simp only [lvA_i, lvA_a, lvA_l, lvA_nil, List.cons_append, List.nil_append]
  refine J_blk a_X6_leans_0 ?_
  simp only [b_X6_leans_0, w_aload_n0, w_getf6, w_iconst_1, w_icmp_eq, w_nil, kd_46, kd_47, kd_48, kd_49, kd_50, kd_51, kd_52, kd_53, kd_54, kd_55, kd_56, kd_57, kd_58, kd_59, ln_47, ln_48, ln_49, ln_50, ln_51, ln_52, ln_53, ln_54, ln_55, ln_56, ln_57, ln_58, ln_59, Option.toList_some, Option.toList_none, List.cons_append, List.nil_append, true_and, and_true, if_true, if_false, true_or, or_true, Nat.reduceAdd, Int.reduceAdd, Bool.false_eq_true, tn_0, tn_1, tn_2, tn_3, tn_4, tn_5, tn_6, tn_7, ntL_f _ _ (show (24 : Nat) ≠ 21 by decide), ntL_f _ _ (show (22 : Nat) ≠ 21 by decide)]
  refine ⟨fun c39 => ?_, fun c39 => ?_⟩
  · refine J_blk a_X6_leans_16 ?_
    simp only [b_X6_leans_16, w_aload_n0, w_bipush, ci_20, w_nil, kd_46, kd_47, kd_48, kd_49, kd_50, kd_51, kd_52, kd_53, kd_54, kd_55, kd_56, kd_57, kd_58, kd_59, ln_47, ln_48, ln_49, ln_50, ln_51, ln_52, ln_53, ln_54, ln_55, ln_56, ln_57, ln_58, ln_59, Option.toList_some, Option.toList_none, List.cons_append, List.nil_append, true_and, and_true, if_true, if_false, true_or, or_true, Nat.reduceAdd, Int.reduceAdd, Bool.false_eq_true, tn_0, tn_1, tn_2, tn_3, tn_4, tn_5, tn_6, tn_7, ntL_f _ _ (show (24 : Nat) ≠ 21 by decide), ntL_f _ _ (show (22 : Nat) ≠ 21 by decide)]
    refine J_callVr (ci := 6) (runs_ok _ _ (by first | exact hc | exact CT_L _ hc)) k_X6_leans_19 o_X6_runs rfl rfl rfl rfl (by decide) rfl (Nat.le_of_ble_eq_true rfl) ?_
    try simp only [ntL_1, ntL_app, List.cons_append, List.nil_append]
    refine J_blk a_X6_leans_22 ?_
    simp only [b_X6_leans_22, w_aload_n0, w_iload_n1, w_nil, kd_46, kd_47, kd_48, kd_49, kd_50, kd_51, kd_52, kd_53, kd_54, kd_55, kd_56, kd_57, kd_58, kd_59, ln_47, ln_48, ln_49, ln_50, ln_51, ln_52, ln_53, ln_54, ln_55, ln_56, ln_57, ln_58, ln_59, Option.toList_some, Option.toList_none, List.cons_append, List.nil_append, true_and, and_true, if_true, if_false, true_or, or_true, Nat.reduceAdd, Int.reduceAdd, Bool.false_eq_true, tn_0, tn_1, tn_2, tn_3, tn_4, tn_5, tn_6, tn_7, ntL_f _ _ (show (24 : Nat) ≠ 21 by decide), ntL_f _ _ (show (22 : Nat) ≠ 21 by decide)]
    refine J_callVr (ci := 6) (leansPlain_ok _ _ (by first | exact hc | exact CT_L _ hc)) k_X6_leans_24 o_X6_leansPlain rfl rfl rfl rfl (by decide) rfl (Nat.le_of_ble_eq_true rfl) ?_
    try simp only [ntL_app, List.cons_append, List.nil_append, ntL_f _ _ (show (23 : Nat) ≠ 21 by decide), ntL_f _ _ (show (22 : Nat) ≠ 21 by decide), ntL_f _ _ (show (24 : Nat) ≠ 21 by decide)]
    refine J_blk a_X6_leans_27 ?_
    simp only [b_X6_leans_27, w_iconst_2, w_imul, w_ireti, kd_46, kd_47, kd_48, kd_49, kd_50, kd_51, kd_52, kd_53, kd_54, kd_55, kd_56, kd_57, kd_58, kd_59, ln_47, ln_48, ln_49, ln_50, ln_51, ln_52, ln_53, ln_54, ln_55, ln_56, ln_57, ln_58, ln_59, Option.toList_some, Option.toList_none, List.cons_append, List.nil_append, true_and, and_true, if_true, if_false, true_or, or_true, Nat.reduceAdd, Int.reduceAdd, Bool.false_eq_true, tn_0, tn_1, tn_2, tn_3, tn_4, tn_5, tn_6, tn_7, ntL_f _ _ (show (24 : Nat) ≠ 21 by decide), ntL_f _ _ (show (22 : Nat) ≠ 21 by decide)]
    exact ⟨by grind, by grind⟩
  · refine J_blk a_X6_leans_8 ?_
    simp only [b_X6_leans_8, w_aload_n0, w_getf6, w_iconst_3, w_icmp_ne, w_nil, kd_46, kd_47, kd_48, kd_49, kd_50, kd_51, kd_52, kd_53, kd_54, kd_55, kd_56, kd_57, kd_58, kd_59, ln_47, ln_48, ln_49, ln_50, ln_51, ln_52, ln_53, ln_54, ln_55, ln_56, ln_57, ln_58, ln_59, Option.toList_some, Option.toList_none, List.cons_append, List.nil_append, true_and, and_true, if_true, if_false, true_or, or_true, Nat.reduceAdd, Int.reduceAdd, Bool.false_eq_true, tn_0, tn_1, tn_2, tn_3, tn_4, tn_5, tn_6, tn_7, ntL_f _ _ (show (24 : Nat) ≠ 21 by decide), ntL_f _ _ (show (22 : Nat) ≠ 21 by decide)]
    refine ⟨fun c40 => ?_, fun c40 => ?_⟩
    · refine J_blk a_X6_leans_30 ?_
      simp only [b_X6_leans_30, w_aload_n0, w_getf6, w_iconst_4, w_icmp_ne, w_nil, kd_46, kd_47, kd_48, kd_49, kd_50, kd_51, kd_52, kd_53, kd_54, kd_55, kd_56, kd_57, kd_58, kd_59, ln_47, ln_48, ln_49, ln_50, ln_51, ln_52, ln_53, ln_54, ln_55, ln_56, ln_57, ln_58, ln_59, Option.toList_some, Option.toList_none, List.cons_append, List.nil_append, true_and, and_true, if_true, if_false, true_or, or_true, Nat.reduceAdd, Int.reduceAdd, Bool.false_eq_true, tn_0, tn_1, tn_2, tn_3, tn_4, tn_5, tn_6, tn_7, ntL_f _ _ (show (24 : Nat) ≠ 21 by decide), ntL_f _ _ (show (22 : Nat) ≠ 21 by decide)]
      refine ⟨fun c41 => ?_, fun c41 => ?_⟩
      · refine J_blk a_X6_leans_61 ?_
        simp only [b_X6_leans_61, w_aload_n0, w_iload_n1, w_nil, kd_46, kd_47, kd_48, kd_49, kd_50, kd_51, kd_52, kd_53, kd_54, kd_55, kd_56, kd_57, kd_58, kd_59, ln_47, ln_48, ln_49, ln_50, ln_51, ln_52, ln_53, ln_54, ln_55, ln_56, ln_57, ln_58, ln_59, Option.toList_some, Option.toList_none, List.cons_append, List.nil_append, true_and, and_true, if_true, if_false, true_or, or_true, Nat.reduceAdd, Int.reduceAdd, Bool.false_eq_true, tn_0, tn_1, tn_2, tn_3, tn_4, tn_5, tn_6, tn_7, ntL_f _ _ (show (24 : Nat) ≠ 21 by decide), ntL_f _ _ (show (22 : Nat) ≠ 21 by decide)]
        refine J_callVr (ci := 6) (leansPlain_ok _ _ (by first | exact hc | exact CT_L _ hc)) k_X6_leans_63 o_X6_leansPlain rfl rfl rfl rfl (by decide) rfl (Nat.le_of_ble_eq_true rfl) ?_
        try simp only [ntL_app, List.cons_append, List.nil_append, ntL_f _ _ (show (23 : Nat) ≠ 21 by decide), ntL_f _ _ (show (22 : Nat) ≠ 21 by decide), ntL_f _ _ (show (24 : Nat) ≠ 21 by decide)]
        refine J_blk a_X6_leans_66 ?_
        simp only [b_X6_leans_66, w_ireti, kd_46, kd_47, kd_48, kd_49, kd_50, kd_51, kd_52, kd_53, kd_54, kd_55, kd_56, kd_57, kd_58, kd_59, ln_47, ln_48, ln_49, ln_50, ln_51, ln_52, ln_53, ln_54, ln_55, ln_56, ln_57, ln_58, ln_59, Option.toList_some, Option.toList_none, List.cons_append, List.nil_append, true_and, and_true, if_true, if_false, true_or, or_true, Nat.reduceAdd, Int.reduceAdd, Bool.false_eq_true, tn_0, tn_1, tn_2, tn_3, tn_4, tn_5, tn_6, tn_7, ntL_f _ _ (show (24 : Nat) ≠ 21 by decide), ntL_f _ _ (show (22 : Nat) ≠ 21 by decide)]
        exact ⟨by grind, by grind⟩
      · refine J_blk a_X6_leans_38 ?_
        simp only [b_X6_leans_38, w_aload_n0, w_bipush, ci_41, w_nil, kd_46, kd_47, kd_48, kd_49, kd_50, kd_51, kd_52, kd_53, kd_54, kd_55, kd_56, kd_57, kd_58, kd_59, ln_47, ln_48, ln_49, ln_50, ln_51, ln_52, ln_53, ln_54, ln_55, ln_56, ln_57, ln_58, ln_59, Option.toList_some, Option.toList_none, List.cons_append, List.nil_append, true_and, and_true, if_true, if_false, true_or, or_true, Nat.reduceAdd, Int.reduceAdd, Bool.false_eq_true, tn_0, tn_1, tn_2, tn_3, tn_4, tn_5, tn_6, tn_7, ntL_f _ _ (show (24 : Nat) ≠ 21 by decide), ntL_f _ _ (show (22 : Nat) ≠ 21 by decide)]
        refine J_callVr (ci := 6) (runs_ok _ _ (by first | exact hc | exact CT_L _ hc)) k_X6_leans_41 o_X6_runs rfl rfl rfl rfl (by decide) rfl (Nat.le_of_ble_eq_true rfl) ?_
        try simp only [ntL_1, ntL_app, List.cons_append, List.nil_append]
        refine J_blk a_X6_leans_44 ?_
        simp only [b_X6_leans_44, w_aload_n0, w_iload_n1, w_nil, kd_46, kd_47, kd_48, kd_49, kd_50, kd_51, kd_52, kd_53, kd_54, kd_55, kd_56, kd_57, kd_58, kd_59, ln_47, ln_48, ln_49, ln_50, ln_51, ln_52, ln_53, ln_54, ln_55, ln_56, ln_57, ln_58, ln_59, Option.toList_some, Option.toList_none, List.cons_append, List.nil_append, true_and, and_true, if_true, if_false, true_or, or_true, Nat.reduceAdd, Int.reduceAdd, Bool.false_eq_true, tn_0, tn_1, tn_2, tn_3, tn_4, tn_5, tn_6, tn_7, ntL_f _ _ (show (24 : Nat) ≠ 21 by decide), ntL_f _ _ (show (22 : Nat) ≠ 21 by decide)]
        refine J_callVr (ci := 6) (leansPlain_ok _ _ (by first | exact hc | exact CT_L _ hc)) k_X6_leans_46 o_X6_leansPlain rfl rfl rfl rfl (by decide) rfl (Nat.le_of_ble_eq_true rfl) ?_
        try simp only [ntL_app, List.cons_append, List.nil_append, ntL_f _ _ (show (23 : Nat) ≠ 21 by decide), ntL_f _ _ (show (22 : Nat) ≠ 21 by decide), ntL_f _ _ (show (24 : Nat) ≠ 21 by decide)]
        refine J_blk a_X6_leans_49 ?_
        simp only [b_X6_leans_49, w_istore2, nl_2n, nl_2i, nl_2a, w_iload_n2, w_aload_n0, w_getf6, w_nil, kd_46, kd_47, kd_48, kd_49, kd_50, kd_51, kd_52, kd_53, kd_54, kd_55, kd_56, kd_57, kd_58, kd_59, ln_47, ln_48, ln_49, ln_50, ln_51, ln_52, ln_53, ln_54, ln_55, ln_56, ln_57, ln_58, ln_59, Option.toList_some, Option.toList_none, List.cons_append, List.nil_append, true_and, and_true, if_true, if_false, true_or, or_true, Nat.reduceAdd, Int.reduceAdd, Bool.false_eq_true, tn_0, tn_1, tn_2, tn_3, tn_4, tn_5, tn_6, tn_7, ntL_f _ _ (show (24 : Nat) ≠ 21 by decide), ntL_f _ _ (show (22 : Nat) ≠ 21 by decide)]
        refine J_callVr (ci := 6) (buds_ok _ _ (by first | exact hc | exact CT_L _ hc)) k_X6_leans_56 o_X6_buds rfl rfl rfl rfl (by decide) rfl (Nat.le_of_ble_eq_true rfl) ?_
        try simp only [ntL_app, List.cons_append, List.nil_append, ntL_f _ _ (show (23 : Nat) ≠ 21 by decide), ntL_f _ _ (show (22 : Nat) ≠ 21 by decide), ntL_f _ _ (show (24 : Nat) ≠ 21 by decide)]
        refine J_blk a_X6_leans_59 ?_
        simp only [b_X6_leans_59, w_ixor, w_ireti, kd_46, kd_47, kd_48, kd_49, kd_50, kd_51, kd_52, kd_53, kd_54, kd_55, kd_56, kd_57, kd_58, kd_59, ln_47, ln_48, ln_49, ln_50, ln_51, ln_52, ln_53, ln_54, ln_55, ln_56, ln_57, ln_58, ln_59, Option.toList_some, Option.toList_none, List.cons_append, List.nil_append, true_and, and_true, if_true, if_false, true_or, or_true, Nat.reduceAdd, Int.reduceAdd, Bool.false_eq_true, tn_0, tn_1, tn_2, tn_3, tn_4, tn_5, tn_6, tn_7, ntL_f _ _ (show (24 : Nat) ≠ 21 by decide), ntL_f _ _ (show (22 : Nat) ≠ 21 by decide)]
        exact ⟨by grind, by grind⟩
    · refine J_blk a_X6_leans_16 ?_
      simp only [b_X6_leans_16, w_aload_n0, w_bipush, ci_20, w_nil, kd_46, kd_47, kd_48, kd_49, kd_50, kd_51, kd_52, kd_53, kd_54, kd_55, kd_56, kd_57, kd_58, kd_59, ln_47, ln_48, ln_49, ln_50, ln_51, ln_52, ln_53, ln_54, ln_55, ln_56, ln_57, ln_58, ln_59, Option.toList_some, Option.toList_none, List.cons_append, List.nil_append, true_and, and_true, if_true, if_false, true_or, or_true, Nat.reduceAdd, Int.reduceAdd, Bool.false_eq_true, tn_0, tn_1, tn_2, tn_3, tn_4, tn_5, tn_6, tn_7, ntL_f _ _ (show (24 : Nat) ≠ 21 by decide), ntL_f _ _ (show (22 : Nat) ≠ 21 by decide)]
      refine J_callVr (ci := 6) (runs_ok _ _ (by first | exact hc | exact CT_L _ hc)) k_X6_leans_19 o_X6_runs rfl rfl rfl rfl (by decide) rfl (Nat.le_of_ble_eq_true rfl) ?_
      try simp only [ntL_1, ntL_app, List.cons_append, List.nil_append]
      refine J_blk a_X6_leans_22 ?_
      simp only [b_X6_leans_22, w_aload_n0, w_iload_n1, w_nil, kd_46, kd_47, kd_48, kd_49, kd_50, kd_51, kd_52, kd_53, kd_54, kd_55, kd_56, kd_57, kd_58, kd_59, ln_47, ln_48, ln_49, ln_50, ln_51, ln_52, ln_53, ln_54, ln_55, ln_56, ln_57, ln_58, ln_59, Option.toList_some, Option.toList_none, List.cons_append, List.nil_append, true_and, and_true, if_true, if_false, true_or, or_true, Nat.reduceAdd, Int.reduceAdd, Bool.false_eq_true, tn_0, tn_1, tn_2, tn_3, tn_4, tn_5, tn_6, tn_7, ntL_f _ _ (show (24 : Nat) ≠ 21 by decide), ntL_f _ _ (show (22 : Nat) ≠ 21 by decide)]
      refine J_callVr (ci := 6) (leansPlain_ok _ _ (by first | exact hc | exact CT_L _ hc)) k_X6_leans_24 o_X6_leansPlain rfl rfl rfl rfl (by decide) rfl (Nat.le_of_ble_eq_true rfl) ?_
      try simp only [ntL_app, List.cons_append, List.nil_append, ntL_f _ _ (show (23 : Nat) ≠ 21 by decide), ntL_f _ _ (show (22 : Nat) ≠ 21 by decide), ntL_f _ _ (show (24 : Nat) ≠ 21 by decide)]
      refine J_blk a_X6_leans_27 ?_
      simp only [b_X6_leans_27, w_iconst_2, w_imul, w_ireti, kd_46, kd_47, kd_48, kd_49, kd_50, kd_51, kd_52, kd_53, kd_54, kd_55, kd_56, kd_57, kd_58, kd_59, ln_47, ln_48, ln_49, ln_50, ln_51, ln_52, ln_53, ln_54, ln_55, ln_56, ln_57, ln_58, ln_59, Option.toList_some, Option.toList_none, List.cons_append, List.nil_append, true_and, and_true, if_true, if_false, true_or, or_true, Nat.reduceAdd, Int.reduceAdd, Bool.false_eq_true, tn_0, tn_1, tn_2, tn_3, tn_4, tn_5, tn_6, tn_7, ntL_f _ _ (show (24 : Nat) ≠ 21 by decide), ntL_f _ _ (show (22 : Nat) ≠ 21 by decide)]
      exact ⟨by grind, by grind⟩
theorem fallsPlain_ok (x : Int32) (M : Mm) (hc : CT M) : K 6 mX6_fallsPlain [.ref 46, .int x] M (Rt (some (.int (leV (M.1 46 22) (M.1 46 23) (M.1 46 24) x ^^^ 17))) (ntL M (13 :: leL (M.1 46 22)))) := by
  refine K_go 1 o_X6_fallsPlain [] rfl (Nat.le_of_ble_eq_true rfl) ?_
  simp only [lvA_i, lvA_a, lvA_l, lvA_nil, List.cons_append, List.nil_append]
  refine J_blk a_X6_fallsPlain_0 ?_
  simp only [b_X6_fallsPlain_0, w_aload_n0, w_bipush, ci_13, w_nil, kd_46, kd_47, kd_48, kd_49, kd_50, kd_51, kd_52, kd_53, kd_54, kd_55, kd_56, kd_57, kd_58, kd_59, ln_47, ln_48, ln_49, ln_50, ln_51, ln_52, ln_53, ln_54, ln_55, ln_56, ln_57, ln_58, ln_59, Option.toList_some, Option.toList_none, List.cons_append, List.nil_append, true_and, and_true, if_true, if_false, true_or, or_true, Nat.reduceAdd, Int.reduceAdd, Bool.false_eq_true, tn_0, tn_1, tn_2, tn_3, tn_4, tn_5, tn_6, tn_7]
  refine J_callVr (ci := 6) (runs_ok _ _ (by first | exact hc | exact CT_L _ hc)) k_X6_fallsPlain_3 o_X6_runs rfl rfl rfl rfl (by decide) rfl (Nat.le_of_ble_eq_true rfl) ?_
  try simp only [ntL_1, ntL_app, List.cons_append, List.nil_append]
  refine J_blk a_X6_fallsPlain_6 ?_
  simp only [b_X6_fallsPlain_6, w_aload_n0, w_iload_n1, w_nil, kd_46, kd_47, kd_48, kd_49, kd_50, kd_51, kd_52, kd_53, kd_54, kd_55, kd_56, kd_57, kd_58, kd_59, ln_47, ln_48, ln_49, ln_50, ln_51, ln_52, ln_53, ln_54, ln_55, ln_56, ln_57, ln_58, ln_59, Option.toList_some, Option.toList_none, List.cons_append, List.nil_append, true_and, and_true, if_true, if_false, true_or, or_true, Nat.reduceAdd, Int.reduceAdd, Bool.false_eq_true, tn_0, tn_1, tn_2, tn_3, tn_4, tn_5, tn_6, tn_7]
  refine J_callVr (ci := 6) (leans_ok _ _ (by first | exact hc | exact CT_L _ hc)) k_X6_fallsPlain_8 o_X6_leans rfl rfl rfl rfl (by decide) rfl (Nat.le_of_ble_eq_true rfl) ?_
  try simp only [ntL_app, List.cons_append, List.nil_append, ntL_f _ _ (show (23 : Nat) ≠ 21 by decide), ntL_f _ _ (show (22 : Nat) ≠ 21 by decide), ntL_f _ _ (show (24 : Nat) ≠ 21 by decide)]
  refine J_blk a_X6_fallsPlain_11 ?_
  simp only [b_X6_fallsPlain_11, w_bipush, ci_17, w_ixor, w_ireti, kd_46, kd_47, kd_48, kd_49, kd_50, kd_51, kd_52, kd_53, kd_54, kd_55, kd_56, kd_57, kd_58, kd_59, ln_47, ln_48, ln_49, ln_50, ln_51, ln_52, ln_53, ln_54, ln_55, ln_56, ln_57, ln_58, ln_59, Option.toList_some, Option.toList_none, List.cons_append, List.nil_append, true_and, and_true, if_true, if_false, true_or, or_true, Nat.reduceAdd, Int.reduceAdd, Bool.false_eq_true, tn_0, tn_1, tn_2, tn_3, tn_4, tn_5, tn_6, tn_7]
  first | exact ⟨rfl, rfl⟩ | (simp_all [Rt])
theorem sub0 {x y : Int32} (h : x - y = 0) : x = y := by
  have e := Int32.sub_add_cancel (a := x) (b := y)
  rw [h, Int32.zero_add] at e
  exact e.symm
/-- parted by 0, or not, from now on -/
def pdM (M : Mm) (b : Bool) : Mm := u1 M 46 25 (bI b)
theorem pd_f (M : Mm) (b : Bool) {k : Nat} (h : k ≠ 25) : (pdM M b).1 46 k = M.1 46 k := by simp [pdM, u1, h]
theorem pd_25 (M : Mm) (b : Bool) : (pdM M b).1 46 25 = bI b := by simp [pdM, u1]
theorem CT_pd {M : Mm} (b : Bool) (h : CT M) : CT (pdM M b) := by
  obtain ⟨c, h1, h2⟩ := h
  exact ⟨c, h1, by rw [pd_f _ _ (by decide)]; exact h2⟩
theorem partsPlain_ok (x : Int32) (M : Mm) (hc : CT M) (hp : M.1 46 25 = 0) : K 1 mX6_partsPlain [.ref 46, .int x] M (Rt (some (.int (ppV (M.1 46 23) (M.1 46 24) x))) (pdM (ntL M [12]) (decide (M.1 46 23 = M.1 46 24)))) := by
  have tail : ∀ b : Bool, b = decide (M.1 46 23 = M.1 46 24) → J 1 mX6_partsPlain 30 [some (.ref 46), some (.int x)] [.int (bI b), .ref 46] (ntL M [12]) (Rt (some (.int (ppV (M.1 46 23) (M.1 46 24) x))) (pdM (ntL M [12]) (decide (M.1 46 23 = M.1 46 24)))) := by
    intro b hb
    have e25 : (u1 (ntL M [12]) 46 25 (bI b)).1 46 25 = bI b := by simp [u1]
    refine J_blk a_X6_partsPlain_30 ?_
    simp only [b_X6_partsPlain_30, w_putb6, w_aload_n0, w_getf6, w_if_eq, w_nil, kd_46, kd_47, kd_48, kd_49, kd_50, kd_51, kd_52, kd_53, kd_54, kd_55, kd_56, kd_57, kd_58, kd_59, ln_47, ln_48, ln_49, ln_50, ln_51, ln_52, ln_53, ln_54, ln_55, ln_56, ln_57, ln_58, ln_59, Option.toList_some, Option.toList_none, List.cons_append, List.nil_append, true_and, and_true, if_true, if_false, true_or, or_true, Nat.reduceAdd, Int.reduceAdd, Bool.false_eq_true, tn_0, tn_1, tn_2, tn_3, tn_4, tn_5, tn_6, tn_7, e25]
    refine ⟨bI01 b, fun c => ?_, fun c => ?_⟩
    · have : b = false := by cases b <;> simp [bI] at c ⊢
      have hne : ¬ M.1 46 23 = M.1 46 24 := by rw [this] at hb; exact of_decide_eq_false hb.symm
      have e23 : (u1 (ntL M [12]) 46 25 (bI b)).1 46 23 = M.1 46 23 := by rw [show u1 (ntL M [12]) 46 25 (bI b) = pdM (ntL M [12]) b from rfl, pd_f _ _ (by decide), ntL_f _ _ (by decide)]
      have e24 : (u1 (ntL M [12]) 46 25 (bI b)).1 46 24 = M.1 46 24 := by rw [show u1 (ntL M [12]) 46 25 (bI b) = pdM (ntL M [12]) b from rfl, pd_f _ _ (by decide), ntL_f _ _ (by decide)]
      have nz : ¬ M.1 46 24 - M.1 46 23 = 0 := fun e => hne (sub0 e).symm
      refine J_blk a_X6_partsPlain_44 ?_
      simp only [b_X6_partsPlain_44, w_iload_n1, w_aload_n0, w_getf6, w_isub, w_idiv, w_nil, kd_46, kd_47, kd_48, kd_49, kd_50, kd_51, kd_52, kd_53, kd_54, kd_55, kd_56, kd_57, kd_58, kd_59, ln_47, ln_48, ln_49, ln_50, ln_51, ln_52, ln_53, ln_54, ln_55, ln_56, ln_57, ln_58, ln_59, Option.toList_some, Option.toList_none, List.cons_append, List.nil_append, true_and, and_true, if_true, if_false, true_or, or_true, Nat.reduceAdd, Int.reduceAdd, Bool.false_eq_true, tn_0, tn_1, tn_2, tn_3, tn_4, tn_5, tn_6, tn_7, e23, e24]
      refine ⟨nz, ?_⟩
      refine J_blk a_X6_partsPlain_55 ?_
      simp only [b_X6_partsPlain_55, w_ireti, kd_46, kd_47, kd_48, kd_49, kd_50, kd_51, kd_52, kd_53, kd_54, kd_55, kd_56, kd_57, kd_58, kd_59, ln_47, ln_48, ln_49, ln_50, ln_51, ln_52, ln_53, ln_54, ln_55, ln_56, ln_57, ln_58, ln_59, Option.toList_some, Option.toList_none, List.cons_append, List.nil_append, true_and, and_true, if_true, if_false, true_or, or_true, Nat.reduceAdd, Int.reduceAdd, Bool.false_eq_true, tn_0, tn_1, tn_2, tn_3, tn_4, tn_5, tn_6, tn_7]
      exact ⟨by unfold ppV; rw [if_neg hne], by rw [← hb]; rfl⟩
    · have : b = true := by cases b <;> simp [bI] at c ⊢
      have he : M.1 46 23 = M.1 46 24 := by rw [this] at hb; exact of_decide_eq_true hb.symm
      refine J_blk a_X6_partsPlain_40 ?_
      simp only [b_X6_partsPlain_40, w_iconst_0, w_goto, kd_46, kd_47, kd_48, kd_49, kd_50, kd_51, kd_52, kd_53, kd_54, kd_55, kd_56, kd_57, kd_58, kd_59, ln_47, ln_48, ln_49, ln_50, ln_51, ln_52, ln_53, ln_54, ln_55, ln_56, ln_57, ln_58, ln_59, Option.toList_some, Option.toList_none, List.cons_append, List.nil_append, true_and, and_true, if_true, if_false, true_or, or_true, Nat.reduceAdd, Int.reduceAdd, Bool.false_eq_true, tn_0, tn_1, tn_2, tn_3, tn_4, tn_5, tn_6, tn_7]
      refine J_blk a_X6_partsPlain_55 ?_
      simp only [b_X6_partsPlain_55, w_ireti, kd_46, kd_47, kd_48, kd_49, kd_50, kd_51, kd_52, kd_53, kd_54, kd_55, kd_56, kd_57, kd_58, kd_59, ln_47, ln_48, ln_49, ln_50, ln_51, ln_52, ln_53, ln_54, ln_55, ln_56, ln_57, ln_58, ln_59, Option.toList_some, Option.toList_none, List.cons_append, List.nil_append, true_and, and_true, if_true, if_false, true_or, or_true, Nat.reduceAdd, Int.reduceAdd, Bool.false_eq_true, tn_0, tn_1, tn_2, tn_3, tn_4, tn_5, tn_6, tn_7]
      exact ⟨by unfold ppV; rw [if_pos he], by rw [← hb]; rfl⟩
  have t1 := tail true
  have t0 := tail false
  refine K_go 1 o_X6_partsPlain [] rfl (Nat.le_of_ble_eq_true rfl) ?_
  simp only [lvA_i, lvA_a, lvA_l, lvA_nil, List.cons_append, List.nil_append]
  refine J_blk a_X6_partsPlain_0 ?_
  simp only [b_X6_partsPlain_0, w_aload_n0, w_bipush, ci_12, w_nil, kd_46, kd_47, kd_48, kd_49, kd_50, kd_51, kd_52, kd_53, kd_54, kd_55, kd_56, kd_57, kd_58, kd_59, ln_47, ln_48, ln_49, ln_50, ln_51, ln_52, ln_53, ln_54, ln_55, ln_56, ln_57, ln_58, ln_59, Option.toList_some, Option.toList_none, List.cons_append, List.nil_append, true_and, and_true, if_true, if_false, true_or, or_true, Nat.reduceAdd, Int.reduceAdd, Bool.false_eq_true, tn_0, tn_1, tn_2, tn_3, tn_4, tn_5, tn_6, tn_7, ntL_f _ _ (show (23 : Nat) ≠ 21 by decide), ntL_f _ _ (show (22 : Nat) ≠ 21 by decide), ntL_f _ _ (show (24 : Nat) ≠ 21 by decide), ntL_f _ _ (show (25 : Nat) ≠ 21 by decide), hp]
  refine J_callVr (ci := 6) (runs_ok _ _ (by first | exact hc | exact CT_L _ hc)) k_X6_partsPlain_3 o_X6_runs rfl rfl rfl rfl (by decide) rfl (Nat.le_of_ble_eq_true rfl) ?_
  try simp only [ntL_1, ntL_app, List.cons_append, List.nil_append]
  refine J_blk a_X6_partsPlain_6 ?_
  simp only [b_X6_partsPlain_6, w_aload_n0, w_getf6, w_if_ne, w_nil, kd_46, kd_47, kd_48, kd_49, kd_50, kd_51, kd_52, kd_53, kd_54, kd_55, kd_56, kd_57, kd_58, kd_59, ln_47, ln_48, ln_49, ln_50, ln_51, ln_52, ln_53, ln_54, ln_55, ln_56, ln_57, ln_58, ln_59, Option.toList_some, Option.toList_none, List.cons_append, List.nil_append, true_and, and_true, if_true, if_false, true_or, or_true, Nat.reduceAdd, Int.reduceAdd, Bool.false_eq_true, tn_0, tn_1, tn_2, tn_3, tn_4, tn_5, tn_6, tn_7, ntL_f _ _ (show (23 : Nat) ≠ 21 by decide), ntL_f _ _ (show (22 : Nat) ≠ 21 by decide), ntL_f _ _ (show (24 : Nat) ≠ 21 by decide), ntL_f _ _ (show (25 : Nat) ≠ 21 by decide), hp]
  refine ⟨fun c42 => ?_, fun c42 => ?_⟩
  · first
      | exact absurd c42 (by decide)
      | (refine J_blk a_X6_partsPlain_25 ?_
         simp only [b_X6_partsPlain_25, w_iconst_1, w_goto, kd_46, kd_47, kd_48, kd_49, kd_50, kd_51, kd_52, kd_53, kd_54, kd_55, kd_56, kd_57, kd_58, kd_59, ln_47, ln_48, ln_49, ln_50, ln_51, ln_52, ln_53, ln_54, ln_55, ln_56, ln_57, ln_58, ln_59, Option.toList_some, Option.toList_none, List.cons_append, List.nil_append, true_and, and_true, if_true, if_false, true_or, or_true, Nat.reduceAdd, Int.reduceAdd, Bool.false_eq_true, tn_0, tn_1, tn_2, tn_3, tn_4, tn_5, tn_6, tn_7, ntL_f _ _ (show (23 : Nat) ≠ 21 by decide), ntL_f _ _ (show (22 : Nat) ≠ 21 by decide), ntL_f _ _ (show (24 : Nat) ≠ 21 by decide), ntL_f _ _ (show (25 : Nat) ≠ 21 by decide), hp]
         first | exact t1 (decide_eq_true (by assumption)).symm | exact t0 (decide_eq_false (by assumption)).symm)
  · first
      | exact absurd c42 (by decide)
      | (refine J_blk a_X6_partsPlain_14 ?_
         simp only [b_X6_partsPlain_14, w_aload_n0, w_getf6, w_icmp_ne, w_nil, kd_46, kd_47, kd_48, kd_49, kd_50, kd_51, kd_52, kd_53, kd_54, kd_55, kd_56, kd_57, kd_58, kd_59, ln_47, ln_48, ln_49, ln_50, ln_51, ln_52, ln_53, ln_54, ln_55, ln_56, ln_57, ln_58, ln_59, Option.toList_some, Option.toList_none, List.cons_append, List.nil_append, true_and, and_true, if_true, if_false, true_or, or_true, Nat.reduceAdd, Int.reduceAdd, Bool.false_eq_true, tn_0, tn_1, tn_2, tn_3, tn_4, tn_5, tn_6, tn_7, ntL_f _ _ (show (23 : Nat) ≠ 21 by decide), ntL_f _ _ (show (22 : Nat) ≠ 21 by decide), ntL_f _ _ (show (24 : Nat) ≠ 21 by decide), ntL_f _ _ (show (25 : Nat) ≠ 21 by decide), hp]
         refine ⟨fun c43 => ?_, fun c43 => ?_⟩
         · first
             | exact absurd c43 (by decide)
             | (refine J_blk a_X6_partsPlain_29 ?_
                simp only [b_X6_partsPlain_29, w_iconst_0, w_nil, kd_46, kd_47, kd_48, kd_49, kd_50, kd_51, kd_52, kd_53, kd_54, kd_55, kd_56, kd_57, kd_58, kd_59, ln_47, ln_48, ln_49, ln_50, ln_51, ln_52, ln_53, ln_54, ln_55, ln_56, ln_57, ln_58, ln_59, Option.toList_some, Option.toList_none, List.cons_append, List.nil_append, true_and, and_true, if_true, if_false, true_or, or_true, Nat.reduceAdd, Int.reduceAdd, Bool.false_eq_true, tn_0, tn_1, tn_2, tn_3, tn_4, tn_5, tn_6, tn_7, ntL_f _ _ (show (23 : Nat) ≠ 21 by decide), ntL_f _ _ (show (22 : Nat) ≠ 21 by decide), ntL_f _ _ (show (24 : Nat) ≠ 21 by decide), ntL_f _ _ (show (25 : Nat) ≠ 21 by decide), hp]
                first | exact t1 (decide_eq_true (by assumption)).symm | exact t0 (decide_eq_false (by assumption)).symm)
         · first
             | exact absurd c43 (by decide)
             | (refine J_blk a_X6_partsPlain_25 ?_
                simp only [b_X6_partsPlain_25, w_iconst_1, w_goto, kd_46, kd_47, kd_48, kd_49, kd_50, kd_51, kd_52, kd_53, kd_54, kd_55, kd_56, kd_57, kd_58, kd_59, ln_47, ln_48, ln_49, ln_50, ln_51, ln_52, ln_53, ln_54, ln_55, ln_56, ln_57, ln_58, ln_59, Option.toList_some, Option.toList_none, List.cons_append, List.nil_append, true_and, and_true, if_true, if_false, true_or, or_true, Nat.reduceAdd, Int.reduceAdd, Bool.false_eq_true, tn_0, tn_1, tn_2, tn_3, tn_4, tn_5, tn_6, tn_7, ntL_f _ _ (show (23 : Nat) ≠ 21 by decide), ntL_f _ _ (show (22 : Nat) ≠ 21 by decide), ntL_f _ _ (show (24 : Nat) ≠ 21 by decide), ntL_f _ _ (show (25 : Nat) ≠ 21 by decide), hp]
                first | exact t1 (decide_eq_true (by assumption)).symm | exact t0 (decide_eq_false (by assumption)).symm))
theorem nt_o (M : Mm) (b : Int32) {c : Nat} (h : c ≠ 46) (h2 : c ≠ 59) : (ntM M b).1 c = M.1 c := by
  unfold ntM
  split
  · funext j; simp [u1, h, h2]
  · rfl
theorem ntL_pd (M : Mm) (b : Bool) (l : List Int32) : ntL (pdM M b) l = pdM (ntL M l) b := by
  induction l generalizing M with
  | nil => rfl
  | cons x l ih =>
    show ntL (ntM (pdM M b) x) l = pdM (ntL (ntM M x) l) b
    rw [← ih]
    congr 1
    unfold ntM
    rw [pd_f _ _ (show (21 : Nat) ≠ 25 by decide)]
    by_cases h : M.1 46 21 < 30
    · rw [if_pos h, if_pos h]
      apply mmx
      · intro a j
        simp only [pdM, u1]
        by_cases h1 : a = 46 ∧ j = 21
        · obtain ⟨rfl, rfl⟩ := h1; simp
        · by_cases h2 : a = 46 ∧ j = 25
          · obtain ⟨rfl, rfl⟩ := h2; simp
          · simp [h1, h2]
      · rfl
    · rw [if_neg h, if_neg h]
def paP (n a : Int32) : Bool := decide (n = a)
theorem parts_ok (x : Int32) (M : Mm) (hc : CT M) (hp : M.1 46 25 = 0) : K 4 mX6_parts [.ref 46, .int x] M (Rt (some (.int (paV (M.1 46 22) (M.1 46 23) (M.1 46 24) x))) (pdM (ntL M (paL (M.1 46 22) (M.1 46 23) (M.1 46 24))) (decide (M.1 46 23 = M.1 46 24)))) := by
  unfold paV paL
  refine K_go 1 o_X6_parts [none] rfl (Nat.le_of_ble_eq_true rfl) ?_
  simp only [lvA_i, lvA_a, lvA_l, lvA_nil, List.cons_append, List.nil_append]
  refine J_blk a_X6_parts_0 ?_
  simp only [b_X6_parts_0, w_aload_n0, w_getf6, w_iconst_3, w_icmp_ne, w_nil, kd_46, kd_47, kd_48, kd_49, kd_50, kd_51, kd_52, kd_53, kd_54, kd_55, kd_56, kd_57, kd_58, kd_59, ln_47, ln_48, ln_49, ln_50, ln_51, ln_52, ln_53, ln_54, ln_55, ln_56, ln_57, ln_58, ln_59, Option.toList_some, Option.toList_none, List.cons_append, List.nil_append, true_and, and_true, if_true, if_false, true_or, or_true, Nat.reduceAdd, Int.reduceAdd, Bool.false_eq_true, tn_0, tn_1, tn_2, tn_3, tn_4, tn_5, tn_6, tn_7]
  refine ⟨fun e1 => ?_, fun e1 => ?_⟩
  · refine J_blk a_X6_parts_28 ?_
    simp only [b_X6_parts_28, w_aload_n0, w_getf6, w_iconst_5, w_icmp_ne, w_nil, kd_46, kd_47, kd_48, kd_49, kd_50, kd_51, kd_52, kd_53, kd_54, kd_55, kd_56, kd_57, kd_58, kd_59, ln_47, ln_48, ln_49, ln_50, ln_51, ln_52, ln_53, ln_54, ln_55, ln_56, ln_57, ln_58, ln_59, Option.toList_some, Option.toList_none, List.cons_append, List.nil_append, true_and, and_true, if_true, if_false, true_or, or_true, Nat.reduceAdd, Int.reduceAdd, Bool.false_eq_true, tn_0, tn_1, tn_2, tn_3, tn_4, tn_5, tn_6, tn_7]
    refine ⟨fun e2 => ?_, fun e2 => ?_⟩
    · simp only [if_neg e1, if_neg e2]
      refine J_blk a_X6_parts_70 ?_
      simp only [b_X6_parts_70, w_aload_n0, w_iload_n1, w_nil, kd_46, kd_47, kd_48, kd_49, kd_50, kd_51, kd_52, kd_53, kd_54, kd_55, kd_56, kd_57, kd_58, kd_59, ln_47, ln_48, ln_49, ln_50, ln_51, ln_52, ln_53, ln_54, ln_55, ln_56, ln_57, ln_58, ln_59, Option.toList_some, Option.toList_none, List.cons_append, List.nil_append, true_and, and_true, if_true, if_false, true_or, or_true, Nat.reduceAdd, Int.reduceAdd, Bool.false_eq_true, tn_0, tn_1, tn_2, tn_3, tn_4, tn_5, tn_6, tn_7]
      refine J_callVr (ci := 6) (partsPlain_ok _ _ hc hp) k_X6_parts_72 o_X6_partsPlain rfl rfl rfl rfl (by decide) rfl (Nat.le_of_ble_eq_true rfl) ?_
      refine J_blk a_X6_parts_75 ?_
      simp only [b_X6_parts_75, w_ireti, kd_46, kd_47, kd_48, kd_49, kd_50, kd_51, kd_52, kd_53, kd_54, kd_55, kd_56, kd_57, kd_58, kd_59, ln_47, ln_48, ln_49, ln_50, ln_51, ln_52, ln_53, ln_54, ln_55, ln_56, ln_57, ln_58, ln_59, Option.toList_some, Option.toList_none, List.cons_append, List.nil_append, true_and, and_true, if_true, if_false, true_or, or_true, Nat.reduceAdd, Int.reduceAdd, Bool.false_eq_true, tn_0, tn_1, tn_2, tn_3, tn_4, tn_5, tn_6, tn_7]
      first | exact ⟨rfl, rfl⟩ | (simp_all [Rt])
    · simp only [if_neg e1, if_pos e2]
      refine J_blk a_X6_parts_36 ?_
      simp only [b_X6_parts_36, w_aload_n0, w_bipush, ci_61, w_nil, kd_46, kd_47, kd_48, kd_49, kd_50, kd_51, kd_52, kd_53, kd_54, kd_55, kd_56, kd_57, kd_58, kd_59, ln_47, ln_48, ln_49, ln_50, ln_51, ln_52, ln_53, ln_54, ln_55, ln_56, ln_57, ln_58, ln_59, Option.toList_some, Option.toList_none, List.cons_append, List.nil_append, true_and, and_true, if_true, if_false, true_or, or_true, Nat.reduceAdd, Int.reduceAdd, Bool.false_eq_true, tn_0, tn_1, tn_2, tn_3, tn_4, tn_5, tn_6, tn_7]
      refine J_callVr (ci := 6) (runs_ok _ _ hc) k_X6_parts_39 o_X6_runs rfl rfl rfl rfl (by decide) rfl (Nat.le_of_ble_eq_true rfl) ?_
      rw [ntL_1]
      refine J_blk a_X6_parts_42 ?_
      simp only [b_X6_parts_42, w_aload_n0, w_iload_n1, w_nil, kd_46, kd_47, kd_48, kd_49, kd_50, kd_51, kd_52, kd_53, kd_54, kd_55, kd_56, kd_57, kd_58, kd_59, ln_47, ln_48, ln_49, ln_50, ln_51, ln_52, ln_53, ln_54, ln_55, ln_56, ln_57, ln_58, ln_59, Option.toList_some, Option.toList_none, List.cons_append, List.nil_append, true_and, and_true, if_true, if_false, true_or, or_true, Nat.reduceAdd, Int.reduceAdd, Bool.false_eq_true, tn_0, tn_1, tn_2, tn_3, tn_4, tn_5, tn_6, tn_7]
      refine J_callVr (ci := 6) (partsPlain_ok _ _ (CT_L _ hc) (by rw [ntL_f _ _ (by decide)]; exact hp)) k_X6_parts_44 o_X6_partsPlain rfl rfl rfl rfl (by decide) rfl (Nat.le_of_ble_eq_true rfl) ?_
      simp only [ntL_app, List.cons_append, List.nil_append, ntL_f _ _ (show (23 : Nat) ≠ 21 by decide), ntL_f _ _ (show (22 : Nat) ≠ 21 by decide), ntL_f _ _ (show (24 : Nat) ≠ 21 by decide), ntL_f _ _ (show (25 : Nat) ≠ 21 by decide)]
      refine J_blk a_X6_parts_47 ?_
      simp only [b_X6_parts_47, w_istore2, nl_2n, nl_2i, nl_2a, w_aload_n0, w_getf6, w_if_eq, w_nil, kd_46, kd_47, kd_48, kd_49, kd_50, kd_51, kd_52, kd_53, kd_54, kd_55, kd_56, kd_57, kd_58, kd_59, ln_47, ln_48, ln_49, ln_50, ln_51, ln_52, ln_53, ln_54, ln_55, ln_56, ln_57, ln_58, ln_59, Option.toList_some, Option.toList_none, List.cons_append, List.nil_append, true_and, and_true, if_true, if_false, true_or, or_true, Nat.reduceAdd, Int.reduceAdd, Bool.false_eq_true, tn_0, tn_1, tn_2, tn_3, tn_4, tn_5, tn_6, tn_7, pd_25]
      refine ⟨fun c => ?_, fun c => ?_⟩
      · have hne : ¬ M.1 46 23 = M.1 46 24 := by
          intro e
          rw [decide_eq_true e] at c
          exact absurd c (by decide)
        simp only [if_neg hne]
        refine J_blk a_X6_parts_59 ?_
        simp only [b_X6_parts_59, w_iload_n2, w_aload_n0, w_getf6, w_nil, kd_46, kd_47, kd_48, kd_49, kd_50, kd_51, kd_52, kd_53, kd_54, kd_55, kd_56, kd_57, kd_58, kd_59, ln_47, ln_48, ln_49, ln_50, ln_51, ln_52, ln_53, ln_54, ln_55, ln_56, ln_57, ln_58, ln_59, Option.toList_some, Option.toList_none, List.cons_append, List.nil_append, true_and, and_true, if_true, if_false, true_or, or_true, Nat.reduceAdd, Int.reduceAdd, Bool.false_eq_true, tn_0, tn_1, tn_2, tn_3, tn_4, tn_5, tn_6, tn_7, pd_f _ _ (show (23 : Nat) ≠ 25 by decide), ntL_f _ _ (show (23 : Nat) ≠ 21 by decide), ntL_f _ _ (show (22 : Nat) ≠ 21 by decide), ntL_f _ _ (show (24 : Nat) ≠ 21 by decide), ntL_f _ _ (show (25 : Nat) ≠ 21 by decide)]
        refine J_callVr (ci := 6) (buds_ok _ _ (CT_pd _ (CT_L _ hc))) k_X6_parts_65 o_X6_buds rfl rfl rfl rfl (by decide) rfl (Nat.le_of_ble_eq_true rfl) ?_
        simp only [pd_f _ _ (show (23 : Nat) ≠ 25 by decide), pd_f _ _ (show (22 : Nat) ≠ 25 by decide), ntL_f _ _ (show (23 : Nat) ≠ 21 by decide), ntL_f _ _ (show (22 : Nat) ≠ 21 by decide), ntL_f _ _ (show (24 : Nat) ≠ 21 by decide), ntL_f _ _ (show (25 : Nat) ≠ 21 by decide), ntL_pd, ntL_app, List.cons_append, List.nil_append]
        refine J_blk a_X6_parts_68 ?_
        simp only [b_X6_parts_68, w_isub, w_nil, kd_46, kd_47, kd_48, kd_49, kd_50, kd_51, kd_52, kd_53, kd_54, kd_55, kd_56, kd_57, kd_58, kd_59, ln_47, ln_48, ln_49, ln_50, ln_51, ln_52, ln_53, ln_54, ln_55, ln_56, ln_57, ln_58, ln_59, Option.toList_some, Option.toList_none, List.cons_append, List.nil_append, true_and, and_true, if_true, if_false, true_or, or_true, Nat.reduceAdd, Int.reduceAdd, Bool.false_eq_true, tn_0, tn_1, tn_2, tn_3, tn_4, tn_5, tn_6, tn_7]
        refine J_blk a_X6_parts_69 ?_
        simp only [b_X6_parts_69, w_ireti, kd_46, kd_47, kd_48, kd_49, kd_50, kd_51, kd_52, kd_53, kd_54, kd_55, kd_56, kd_57, kd_58, kd_59, ln_47, ln_48, ln_49, ln_50, ln_51, ln_52, ln_53, ln_54, ln_55, ln_56, ln_57, ln_58, ln_59, Option.toList_some, Option.toList_none, List.cons_append, List.nil_append, true_and, and_true, if_true, if_false, true_or, or_true, Nat.reduceAdd, Int.reduceAdd, Bool.false_eq_true, tn_0, tn_1, tn_2, tn_3, tn_4, tn_5, tn_6, tn_7]
        first | exact ⟨rfl, rfl⟩ | (simp_all [Rt])
      · have he : M.1 46 23 = M.1 46 24 := by
          by_cases e : M.1 46 23 = M.1 46 24
          · exact e
          · rw [decide_eq_false e] at c
            exact absurd rfl c
        simp only [if_pos he]
        refine J_blk a_X6_parts_55 ?_
        simp only [b_X6_parts_55, w_iconst_0, w_goto, kd_46, kd_47, kd_48, kd_49, kd_50, kd_51, kd_52, kd_53, kd_54, kd_55, kd_56, kd_57, kd_58, kd_59, ln_47, ln_48, ln_49, ln_50, ln_51, ln_52, ln_53, ln_54, ln_55, ln_56, ln_57, ln_58, ln_59, Option.toList_some, Option.toList_none, List.cons_append, List.nil_append, true_and, and_true, if_true, if_false, true_or, or_true, Nat.reduceAdd, Int.reduceAdd, Bool.false_eq_true, tn_0, tn_1, tn_2, tn_3, tn_4, tn_5, tn_6, tn_7]
        refine J_blk a_X6_parts_69 ?_
        simp only [b_X6_parts_69, w_ireti, kd_46, kd_47, kd_48, kd_49, kd_50, kd_51, kd_52, kd_53, kd_54, kd_55, kd_56, kd_57, kd_58, kd_59, ln_47, ln_48, ln_49, ln_50, ln_51, ln_52, ln_53, ln_54, ln_55, ln_56, ln_57, ln_58, ln_59, Option.toList_some, Option.toList_none, List.cons_append, List.nil_append, true_and, and_true, if_true, if_false, true_or, or_true, Nat.reduceAdd, Int.reduceAdd, Bool.false_eq_true, tn_0, tn_1, tn_2, tn_3, tn_4, tn_5, tn_6, tn_7]
        first | exact ⟨rfl, rfl⟩ | (simp_all [Rt])
  · simp only [if_pos e1]
    refine J_blk a_X6_parts_8 ?_
    simp only [b_X6_parts_8, w_aload_n0, w_bipush, ci_50, w_nil, kd_46, kd_47, kd_48, kd_49, kd_50, kd_51, kd_52, kd_53, kd_54, kd_55, kd_56, kd_57, kd_58, kd_59, ln_47, ln_48, ln_49, ln_50, ln_51, ln_52, ln_53, ln_54, ln_55, ln_56, ln_57, ln_58, ln_59, Option.toList_some, Option.toList_none, List.cons_append, List.nil_append, true_and, and_true, if_true, if_false, true_or, or_true, Nat.reduceAdd, Int.reduceAdd, Bool.false_eq_true, tn_0, tn_1, tn_2, tn_3, tn_4, tn_5, tn_6, tn_7, ntL_f _ _ (show (23 : Nat) ≠ 21 by decide), ntL_f _ _ (show (22 : Nat) ≠ 21 by decide), ntL_f _ _ (show (24 : Nat) ≠ 21 by decide), ntL_f _ _ (show (25 : Nat) ≠ 21 by decide)]
    refine J_callVr (ci := 6) (runs_ok _ _ (by first | exact hc | exact CT_L _ hc)) k_X6_parts_11 o_X6_runs rfl rfl rfl rfl (by decide) rfl (Nat.le_of_ble_eq_true rfl) ?_
    try simp only [ntL_1, ntL_app, List.cons_append, List.nil_append]
    refine J_blk a_X6_parts_14 ?_
    simp only [b_X6_parts_14, w_aload_n0, w_iload_n1, w_getf6, w_isub, w_nil, kd_46, kd_47, kd_48, kd_49, kd_50, kd_51, kd_52, kd_53, kd_54, kd_55, kd_56, kd_57, kd_58, kd_59, ln_47, ln_48, ln_49, ln_50, ln_51, ln_52, ln_53, ln_54, ln_55, ln_56, ln_57, ln_58, ln_59, Option.toList_some, Option.toList_none, List.cons_append, List.nil_append, true_and, and_true, if_true, if_false, true_or, or_true, Nat.reduceAdd, Int.reduceAdd, Bool.false_eq_true, tn_0, tn_1, tn_2, tn_3, tn_4, tn_5, tn_6, tn_7, ntL_f _ _ (show (23 : Nat) ≠ 21 by decide), ntL_f _ _ (show (22 : Nat) ≠ 21 by decide), ntL_f _ _ (show (24 : Nat) ≠ 21 by decide), ntL_f _ _ (show (25 : Nat) ≠ 21 by decide)]
    refine J_callVr (ci := 6) (partsPlain_ok _ _ (CT_L _ hc) (by rw [ntL_f _ _ (by decide)]; exact hp)) k_X6_parts_21 o_X6_partsPlain rfl rfl rfl rfl (by decide) rfl (Nat.le_of_ble_eq_true rfl) ?_
    simp only [ntL_app, List.cons_append, List.nil_append, ntL_f _ _ (show (23 : Nat) ≠ 21 by decide), ntL_f _ _ (show (22 : Nat) ≠ 21 by decide), ntL_f _ _ (show (24 : Nat) ≠ 21 by decide), ntL_f _ _ (show (25 : Nat) ≠ 21 by decide)]
    refine J_blk a_X6_parts_24 ?_
    simp only [b_X6_parts_24, w_bipush, ci_9, w_iadd, w_ireti, kd_46, kd_47, kd_48, kd_49, kd_50, kd_51, kd_52, kd_53, kd_54, kd_55, kd_56, kd_57, kd_58, kd_59, ln_47, ln_48, ln_49, ln_50, ln_51, ln_52, ln_53, ln_54, ln_55, ln_56, ln_57, ln_58, ln_59, Option.toList_some, Option.toList_none, List.cons_append, List.nil_append, true_and, and_true, if_true, if_false, true_or, or_true, Nat.reduceAdd, Int.reduceAdd, Bool.false_eq_true, tn_0, tn_1, tn_2, tn_3, tn_4, tn_5, tn_6, tn_7, ntL_f _ _ (show (23 : Nat) ≠ 21 by decide), ntL_f _ _ (show (22 : Nat) ≠ 21 by decide), ntL_f _ _ (show (24 : Nat) ≠ 21 by decide), ntL_f _ _ (show (25 : Nat) ≠ 21 by decide)]
    first | exact ⟨rfl, rfl⟩ | (simp_all [Rt])
def faP (k n a : Int32) : Bool := decide ((k = 2 ∨ k = 4) ∧ n = a)
theorem pd_self {M : Mm} (h : M.1 46 25 = 0) : pdM M false = M := by
  apply mmx
  · intro a j
    simp only [pdM, u1, bI]
    by_cases e : a = 46 ∧ j = 25
    · obtain ⟨rfl, rfl⟩ := e; simp [h]
    · simp [e]
  · rfl
theorem falls_ok (x : Int32) (M : Mm) (hc : CT M) (hp : M.1 46 25 = 0) : K 7 mX6_falls [.ref 46, .int x] M (Rt (some (.int (faV (M.1 46 22) (M.1 46 23) (M.1 46 24) x))) (pdM (ntL M (faL (M.1 46 22) (M.1 46 23) (M.1 46 24))) (faP (M.1 46 22) (M.1 46 23) (M.1 46 24)))) := by
  have two : (M.1 46 22 = 2 ∨ M.1 46 22 = 4) → J 7 mX6_falls 16 [some (.ref 46), some (.int x), none] [] M (Rt (some (.int (faV (M.1 46 22) (M.1 46 23) (M.1 46 24) x))) (pdM (ntL M (faL (M.1 46 22) (M.1 46 23) (M.1 46 24))) (faP (M.1 46 22) (M.1 46 23) (M.1 46 24)))) := by
    intro e
    have ep : faP (M.1 46 22) (M.1 46 23) (M.1 46 24) = decide (M.1 46 23 = M.1 46 24) := by unfold faP; simp [e]
    rw [ep]
    unfold faV faL
    simp only [if_pos e]
    refine J_blk a_X6_falls_16 ?_
    simp only [b_X6_falls_16, w_aload_n0, w_bipush, ci_31, w_nil, kd_46, kd_47, kd_48, kd_49, kd_50, kd_51, kd_52, kd_53, kd_54, kd_55, kd_56, kd_57, kd_58, kd_59, ln_47, ln_48, ln_49, ln_50, ln_51, ln_52, ln_53, ln_54, ln_55, ln_56, ln_57, ln_58, ln_59, Option.toList_some, Option.toList_none, List.cons_append, List.nil_append, true_and, and_true, if_true, if_false, true_or, or_true, Nat.reduceAdd, Int.reduceAdd, Bool.false_eq_true, tn_0, tn_1, tn_2, tn_3, tn_4, tn_5, tn_6, tn_7, ntL_f _ _ (show (23 : Nat) ≠ 21 by decide), ntL_f _ _ (show (22 : Nat) ≠ 21 by decide), ntL_f _ _ (show (24 : Nat) ≠ 21 by decide), ntL_f _ _ (show (25 : Nat) ≠ 21 by decide)]
    refine J_callVr (ci := 6) (runs_ok _ _ (by first | exact hc | exact CT_L _ hc)) k_X6_falls_19 o_X6_runs rfl rfl rfl rfl (by decide) rfl (Nat.le_of_ble_eq_true rfl) ?_
    try simp only [ntL_1, ntL_app, List.cons_append, List.nil_append]
    refine J_blk a_X6_falls_22 ?_
    simp only [b_X6_falls_22, w_aload_n0, w_iload_n1, w_nil, kd_46, kd_47, kd_48, kd_49, kd_50, kd_51, kd_52, kd_53, kd_54, kd_55, kd_56, kd_57, kd_58, kd_59, ln_47, ln_48, ln_49, ln_50, ln_51, ln_52, ln_53, ln_54, ln_55, ln_56, ln_57, ln_58, ln_59, Option.toList_some, Option.toList_none, List.cons_append, List.nil_append, true_and, and_true, if_true, if_false, true_or, or_true, Nat.reduceAdd, Int.reduceAdd, Bool.false_eq_true, tn_0, tn_1, tn_2, tn_3, tn_4, tn_5, tn_6, tn_7, ntL_f _ _ (show (23 : Nat) ≠ 21 by decide), ntL_f _ _ (show (22 : Nat) ≠ 21 by decide), ntL_f _ _ (show (24 : Nat) ≠ 21 by decide), ntL_f _ _ (show (25 : Nat) ≠ 21 by decide)]
    refine J_callVr (ci := 6) (fallsPlain_ok _ _ (CT_L _ hc)) k_X6_falls_24 o_X6_fallsPlain rfl rfl rfl rfl (by decide) rfl (Nat.le_of_ble_eq_true rfl) ?_
    simp only [ntL_app, List.cons_append, List.nil_append, ntL_f _ _ (show (23 : Nat) ≠ 21 by decide), ntL_f _ _ (show (22 : Nat) ≠ 21 by decide), ntL_f _ _ (show (24 : Nat) ≠ 21 by decide), ntL_f _ _ (show (25 : Nat) ≠ 21 by decide)]
    refine J_blk a_X6_falls_27 ?_
    simp only [b_X6_falls_27, w_istore2, nl_2n, nl_2i, nl_2a, w_iload_n2, w_aload_n0, w_getf6, w_nil, kd_46, kd_47, kd_48, kd_49, kd_50, kd_51, kd_52, kd_53, kd_54, kd_55, kd_56, kd_57, kd_58, kd_59, ln_47, ln_48, ln_49, ln_50, ln_51, ln_52, ln_53, ln_54, ln_55, ln_56, ln_57, ln_58, ln_59, Option.toList_some, Option.toList_none, List.cons_append, List.nil_append, true_and, and_true, if_true, if_false, true_or, or_true, Nat.reduceAdd, Int.reduceAdd, Bool.false_eq_true, tn_0, tn_1, tn_2, tn_3, tn_4, tn_5, tn_6, tn_7, ntL_f _ _ (show (23 : Nat) ≠ 21 by decide), ntL_f _ _ (show (22 : Nat) ≠ 21 by decide), ntL_f _ _ (show (24 : Nat) ≠ 21 by decide), ntL_f _ _ (show (25 : Nat) ≠ 21 by decide)]
    refine J_callVr (ci := 6) (parts_ok _ _ (CT_L _ hc) (by rw [ntL_f _ _ (by decide)]; exact hp)) k_X6_falls_34 o_X6_parts rfl rfl rfl rfl (by decide) rfl (Nat.le_of_ble_eq_true rfl) ?_
    simp only [ntL_app, List.cons_append, List.nil_append, ntL_f _ _ (show (23 : Nat) ≠ 21 by decide), ntL_f _ _ (show (22 : Nat) ≠ 21 by decide), ntL_f _ _ (show (24 : Nat) ≠ 21 by decide), ntL_f _ _ (show (25 : Nat) ≠ 21 by decide)]
    refine J_blk a_X6_falls_37 ?_
    simp only [b_X6_falls_37, w_iadd, w_ireti, kd_46, kd_47, kd_48, kd_49, kd_50, kd_51, kd_52, kd_53, kd_54, kd_55, kd_56, kd_57, kd_58, kd_59, ln_47, ln_48, ln_49, ln_50, ln_51, ln_52, ln_53, ln_54, ln_55, ln_56, ln_57, ln_58, ln_59, Option.toList_some, Option.toList_none, List.cons_append, List.nil_append, true_and, and_true, if_true, if_false, true_or, or_true, Nat.reduceAdd, Int.reduceAdd, Bool.false_eq_true, tn_0, tn_1, tn_2, tn_3, tn_4, tn_5, tn_6, tn_7, ntL_f _ _ (show (23 : Nat) ≠ 21 by decide), ntL_f _ _ (show (22 : Nat) ≠ 21 by decide), ntL_f _ _ (show (24 : Nat) ≠ 21 by decide), ntL_f _ _ (show (25 : Nat) ≠ 21 by decide)]
    first | exact ⟨rfl, rfl⟩ | (simp_all [Rt])
  refine K_go 1 o_X6_falls [none] rfl (Nat.le_of_ble_eq_true rfl) ?_
  simp only [lvA_i, lvA_a, lvA_l, lvA_nil, List.cons_append, List.nil_append]
  refine J_blk a_X6_falls_0 ?_
  simp only [b_X6_falls_0, w_aload_n0, w_getf6, w_iconst_2, w_icmp_eq, w_nil, kd_46, kd_47, kd_48, kd_49, kd_50, kd_51, kd_52, kd_53, kd_54, kd_55, kd_56, kd_57, kd_58, kd_59, ln_47, ln_48, ln_49, ln_50, ln_51, ln_52, ln_53, ln_54, ln_55, ln_56, ln_57, ln_58, ln_59, Option.toList_some, Option.toList_none, List.cons_append, List.nil_append, true_and, and_true, if_true, if_false, true_or, or_true, Nat.reduceAdd, Int.reduceAdd, Bool.false_eq_true, tn_0, tn_1, tn_2, tn_3, tn_4, tn_5, tn_6, tn_7]
  refine ⟨fun e => two (Or.inl e), fun e2 => ?_⟩
  refine J_blk a_X6_falls_8 ?_
  simp only [b_X6_falls_8, w_aload_n0, w_getf6, w_iconst_4, w_icmp_ne, w_nil, kd_46, kd_47, kd_48, kd_49, kd_50, kd_51, kd_52, kd_53, kd_54, kd_55, kd_56, kd_57, kd_58, kd_59, ln_47, ln_48, ln_49, ln_50, ln_51, ln_52, ln_53, ln_54, ln_55, ln_56, ln_57, ln_58, ln_59, Option.toList_some, Option.toList_none, List.cons_append, List.nil_append, true_and, and_true, if_true, if_false, true_or, or_true, Nat.reduceAdd, Int.reduceAdd, Bool.false_eq_true, tn_0, tn_1, tn_2, tn_3, tn_4, tn_5, tn_6, tn_7]
  refine ⟨fun e4 => ?_, fun e => two (Or.inr e)⟩
  have no : ¬ (M.1 46 22 = 2 ∨ M.1 46 22 = 4) := fun h => h.elim e2 e4
  have ep : faP (M.1 46 22) (M.1 46 23) (M.1 46 24) = false := by unfold faP; simp [no]
  rw [ep, pd_self (by rw [ntL_f _ _ (by decide)]; exact hp)]
  unfold faV faL
  simp only [if_neg no]
  refine J_blk a_X6_falls_39 ?_
  simp only [b_X6_falls_39, w_aload_n0, w_getf6, w_iconst_5, w_icmp_ne, w_nil, kd_46, kd_47, kd_48, kd_49, kd_50, kd_51, kd_52, kd_53, kd_54, kd_55, kd_56, kd_57, kd_58, kd_59, ln_47, ln_48, ln_49, ln_50, ln_51, ln_52, ln_53, ln_54, ln_55, ln_56, ln_57, ln_58, ln_59, Option.toList_some, Option.toList_none, List.cons_append, List.nil_append, true_and, and_true, if_true, if_false, true_or, or_true, Nat.reduceAdd, Int.reduceAdd, Bool.false_eq_true, tn_0, tn_1, tn_2, tn_3, tn_4, tn_5, tn_6, tn_7]
  refine ⟨fun e5 => ?_, fun e5 => ?_⟩
  · simp only [if_neg e5]
    refine J_blk a_X6_falls_62 ?_
    simp only [b_X6_falls_62, w_aload_n0, w_iload_n1, w_nil, kd_46, kd_47, kd_48, kd_49, kd_50, kd_51, kd_52, kd_53, kd_54, kd_55, kd_56, kd_57, kd_58, kd_59, ln_47, ln_48, ln_49, ln_50, ln_51, ln_52, ln_53, ln_54, ln_55, ln_56, ln_57, ln_58, ln_59, Option.toList_some, Option.toList_none, List.cons_append, List.nil_append, true_and, and_true, if_true, if_false, true_or, or_true, Nat.reduceAdd, Int.reduceAdd, Bool.false_eq_true, tn_0, tn_1, tn_2, tn_3, tn_4, tn_5, tn_6, tn_7]
    refine J_callVr (ci := 6) (fallsPlain_ok _ _ hc) k_X6_falls_64 o_X6_fallsPlain rfl rfl rfl rfl (by decide) rfl (Nat.le_of_ble_eq_true rfl) ?_
    refine J_blk a_X6_falls_67 ?_
    simp only [b_X6_falls_67, w_ireti, kd_46, kd_47, kd_48, kd_49, kd_50, kd_51, kd_52, kd_53, kd_54, kd_55, kd_56, kd_57, kd_58, kd_59, ln_47, ln_48, ln_49, ln_50, ln_51, ln_52, ln_53, ln_54, ln_55, ln_56, ln_57, ln_58, ln_59, Option.toList_some, Option.toList_none, List.cons_append, List.nil_append, true_and, and_true, if_true, if_false, true_or, or_true, Nat.reduceAdd, Int.reduceAdd, Bool.false_eq_true, tn_0, tn_1, tn_2, tn_3, tn_4, tn_5, tn_6, tn_7]
    first | exact ⟨rfl, rfl⟩ | (simp_all [Rt])
  · simp only [if_pos e5]
    refine J_blk a_X6_falls_47 ?_
    simp only [b_X6_falls_47, w_aload_n0, w_bipush, ci_60, w_nil, kd_46, kd_47, kd_48, kd_49, kd_50, kd_51, kd_52, kd_53, kd_54, kd_55, kd_56, kd_57, kd_58, kd_59, ln_47, ln_48, ln_49, ln_50, ln_51, ln_52, ln_53, ln_54, ln_55, ln_56, ln_57, ln_58, ln_59, Option.toList_some, Option.toList_none, List.cons_append, List.nil_append, true_and, and_true, if_true, if_false, true_or, or_true, Nat.reduceAdd, Int.reduceAdd, Bool.false_eq_true, tn_0, tn_1, tn_2, tn_3, tn_4, tn_5, tn_6, tn_7]
    refine J_callVr (ci := 6) (runs_ok _ _ (by first | exact hc | exact CT_L _ hc)) k_X6_falls_50 o_X6_runs rfl rfl rfl rfl (by decide) rfl (Nat.le_of_ble_eq_true rfl) ?_
    try simp only [ntL_1, ntL_app, List.cons_append, List.nil_append]
    refine J_blk a_X6_falls_53 ?_
    simp only [b_X6_falls_53, w_bipush, ci_70, w_aload_n0, w_iload_n1, w_nil, kd_46, kd_47, kd_48, kd_49, kd_50, kd_51, kd_52, kd_53, kd_54, kd_55, kd_56, kd_57, kd_58, kd_59, ln_47, ln_48, ln_49, ln_50, ln_51, ln_52, ln_53, ln_54, ln_55, ln_56, ln_57, ln_58, ln_59, Option.toList_some, Option.toList_none, List.cons_append, List.nil_append, true_and, and_true, if_true, if_false, true_or, or_true, Nat.reduceAdd, Int.reduceAdd, Bool.false_eq_true, tn_0, tn_1, tn_2, tn_3, tn_4, tn_5, tn_6, tn_7]
    refine J_callVr (ci := 6) (fallsPlain_ok _ _ (CT_L _ hc)) k_X6_falls_57 o_X6_fallsPlain rfl rfl rfl rfl (by decide) rfl (Nat.le_of_ble_eq_true rfl) ?_
    simp only [ntL_app, List.cons_append, List.nil_append, ntL_f _ _ (show (23 : Nat) ≠ 21 by decide), ntL_f _ _ (show (22 : Nat) ≠ 21 by decide), ntL_f _ _ (show (24 : Nat) ≠ 21 by decide), ntL_f _ _ (show (25 : Nat) ≠ 21 by decide)]
    refine J_blk a_X6_falls_60 ?_
    simp only [b_X6_falls_60, w_isub, w_ireti, kd_46, kd_47, kd_48, kd_49, kd_50, kd_51, kd_52, kd_53, kd_54, kd_55, kd_56, kd_57, kd_58, kd_59, ln_47, ln_48, ln_49, ln_50, ln_51, ln_52, ln_53, ln_54, ln_55, ln_56, ln_57, ln_58, ln_59, Option.toList_some, Option.toList_none, List.cons_append, List.nil_append, true_and, and_true, if_true, if_false, true_or, or_true, Nat.reduceAdd, Int.reduceAdd, Bool.false_eq_true, tn_0, tn_1, tn_2, tn_3, tn_4, tn_5, tn_6, tn_7]
    first | exact ⟨rfl, rfl⟩ | (simp_all [Rt])

