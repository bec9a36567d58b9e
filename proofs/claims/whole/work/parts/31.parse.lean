/-! the model: the grammar, on -/
def kdH (t : Nat → Nat) (L fr : Nat) : Int32 := if wdB t L fr [98, 114, 97, 110, 99, 104] = true then 0 else if wdB t L fr [115, 112, 117, 114] = true then 1 else if wdB t L fr [98, 111, 117, 103, 104] = true then 2 else if wdB t L fr [98, 117, 100] = true then 3 else if wdB t L fr [108, 105, 109, 98] = true then 4 else if wdB t L fr [103, 114, 97, 102, 116] = true then 5 else -1
def laH (t : Nat → Nat) (L fr : Nat) : Int32 := if wdB t L fr [115, 104, 97, 100, 101] = true then 4 else if wdB t L fr [115, 117, 110] = true then 5 else if wdB t L fr [114, 97, 105, 110] = true then 6 else if wdB t L fr [102, 114, 111, 115, 116] = true then 7 else -1
theorem kindHere_ok (t : Nat → Nat) (L : Nat) (M : Mm) (st : Ps) (h : TP M t L) (hfr : st.1 ≤ L) : K 3 mX6_kindHere [.ref 46] (PMs t L M st) (Rt (some (.int (kdH t L st.1))) (PMs t L M st)) := by
  have hb := h.2.2.1
  have q0 := nm_wd6 hb hfr 98 114 97 110 99 104 (by omega) (by omega) (by omega) (by omega) (by omega) (by omega)
  have q1 := nm_wd4 hb hfr 115 112 117 114 (by omega) (by omega) (by omega) (by omega)
  have q2 := nm_wd5 hb hfr 98 111 117 103 104 (by omega) (by omega) (by omega) (by omega) (by omega)
  have q3 := nm_wd3 hb hfr 98 117 100 (by omega) (by omega) (by omega)
  have q4 := nm_wd4 hb hfr 108 105 109 98 (by omega) (by omega) (by omega) (by omega)
  have q5 := nm_wd5 hb hfr 103 114 97 102 116 (by omega) (by omega) (by omega) (by omega) (by omega)
  unfold kdH
  have r4 : J 3 mX6_kindHere 87 [some (.ref 46)] [] (PMs t L M st) (Rt (some (.int (if wdB t L st.1 [108, 105, 109, 98] = true then 4 else if wdB t L st.1 [103, 114, 97, 102, 116] = true then 5 else -1))) (PMs t L M st)) := by
    refine J_blk a_X6_kindHere_87 ?_
    simp only [b_X6_kindHere_87, w_aload_n0, w_bipush, ci_108, ci_105, ci_109, ci_98, w_nil, kd_46, kd_47, kd_48, kd_49, kd_50, kd_51, kd_52, kd_53, kd_54, kd_55, kd_56, kd_57, kd_58, kd_59, ln_47, ln_48, ln_49, ln_50, ln_51, ln_52, ln_53, ln_54, ln_55, ln_56, ln_57, ln_58, ln_59, Option.toList_some, Option.toList_none, List.cons_append, List.nil_append, true_and, and_true, if_true, if_false, true_or, or_true, Nat.reduceAdd, Int.reduceAdd, Bool.false_eq_true, tn_0, tn_1, tn_2, tn_3, tn_4, tn_5, tn_6, tn_7]
    refine J_callVr (ci := 6) (isFour_ok t L M st _ _ _ _ h hfr) k_X6_kindHere_96 o_X6_isFour rfl rfl rfl rfl (by decide) rfl (Nat.le_of_ble_eq_true rfl) ?_
    rw [show nmB t L st.1 4 108 105 109 98 = wdB t L st.1 [108, 105, 109, 98] from q4]
    cases wdB t L st.1 [108, 105, 109, 98]
    · refine J_blk a_X6_kindHere_99 ?_
      simp only [b_X6_kindHere_99, w_if_eq, w_nil, kd_46, kd_47, kd_48, kd_49, kd_50, kd_51, kd_52, kd_53, kd_54, kd_55, kd_56, kd_57, kd_58, kd_59, ln_47, ln_48, ln_49, ln_50, ln_51, ln_52, ln_53, ln_54, ln_55, ln_56, ln_57, ln_58, ln_59, Option.toList_some, Option.toList_none, List.cons_append, List.nil_append, true_and, and_true, if_true, if_false, true_or, or_true, Nat.reduceAdd, Int.reduceAdd, Bool.false_eq_true, tn_0, tn_1, tn_2, tn_3, tn_4, tn_5, tn_6, tn_7]
      refine ⟨fun _ => ?_, fun c => absurd rfl c⟩
      refine J_blk a_X6_kindHere_104 ?_
      simp only [b_X6_kindHere_104, w_aload_n0, w_bipush, ci_103, ci_114, ci_97, ci_102, ci_116, w_nil, kd_46, kd_47, kd_48, kd_49, kd_50, kd_51, kd_52, kd_53, kd_54, kd_55, kd_56, kd_57, kd_58, kd_59, ln_47, ln_48, ln_49, ln_50, ln_51, ln_52, ln_53, ln_54, ln_55, ln_56, ln_57, ln_58, ln_59, Option.toList_some, Option.toList_none, List.cons_append, List.nil_append, true_and, and_true, if_true, if_false, true_or, or_true, Nat.reduceAdd, Int.reduceAdd, Bool.false_eq_true, tn_0, tn_1, tn_2, tn_3, tn_4, tn_5, tn_6, tn_7]
      refine J_callVr (ci := 6) (isFive_ok t L M st _ _ _ _ _ h hfr) k_X6_kindHere_115 o_X6_isFive rfl rfl rfl rfl (by decide) rfl (Nat.le_of_ble_eq_true rfl) ?_
      rw [show (nmB t L st.1 5 103 114 97 116 && decide (byI t L (st.1 + 3) = 102)) = wdB t L st.1 [103, 114, 97, 102, 116] from q5]
      cases wdB t L st.1 [103, 114, 97, 102, 116]
      · refine J_blk a_X6_kindHere_118 ?_
        simp only [b_X6_kindHere_118, w_if_eq, w_nil, kd_46, kd_47, kd_48, kd_49, kd_50, kd_51, kd_52, kd_53, kd_54, kd_55, kd_56, kd_57, kd_58, kd_59, ln_47, ln_48, ln_49, ln_50, ln_51, ln_52, ln_53, ln_54, ln_55, ln_56, ln_57, ln_58, ln_59, Option.toList_some, Option.toList_none, List.cons_append, List.nil_append, true_and, and_true, if_true, if_false, true_or, or_true, Nat.reduceAdd, Int.reduceAdd, Bool.false_eq_true, tn_0, tn_1, tn_2, tn_3, tn_4, tn_5, tn_6, tn_7]
        refine ⟨fun _ => ?_, fun c => absurd rfl c⟩
        refine J_blk a_X6_kindHere_125 ?_
        simp only [b_X6_kindHere_125, w_iconst_m1, w_nil, kd_46, kd_47, kd_48, kd_49, kd_50, kd_51, kd_52, kd_53, kd_54, kd_55, kd_56, kd_57, kd_58, kd_59, ln_47, ln_48, ln_49, ln_50, ln_51, ln_52, ln_53, ln_54, ln_55, ln_56, ln_57, ln_58, ln_59, Option.toList_some, Option.toList_none, List.cons_append, List.nil_append, true_and, and_true, if_true, if_false, true_or, or_true, Nat.reduceAdd, Int.reduceAdd, Bool.false_eq_true, tn_0, tn_1, tn_2, tn_3, tn_4, tn_5, tn_6, tn_7]
        refine J_blk a_X6_kindHere_126 ?_
        simp only [b_X6_kindHere_126, w_ireti, kd_46, kd_47, kd_48, kd_49, kd_50, kd_51, kd_52, kd_53, kd_54, kd_55, kd_56, kd_57, kd_58, kd_59, ln_47, ln_48, ln_49, ln_50, ln_51, ln_52, ln_53, ln_54, ln_55, ln_56, ln_57, ln_58, ln_59, Option.toList_some, Option.toList_none, List.cons_append, List.nil_append, true_and, and_true, if_true, if_false, true_or, or_true, Nat.reduceAdd, Int.reduceAdd, Bool.false_eq_true, tn_0, tn_1, tn_2, tn_3, tn_4, tn_5, tn_6, tn_7]
        exact ⟨rfl, rfl⟩
      · refine J_blk a_X6_kindHere_118 ?_
        simp only [b_X6_kindHere_118, w_if_eq, w_nil, kd_46, kd_47, kd_48, kd_49, kd_50, kd_51, kd_52, kd_53, kd_54, kd_55, kd_56, kd_57, kd_58, kd_59, ln_47, ln_48, ln_49, ln_50, ln_51, ln_52, ln_53, ln_54, ln_55, ln_56, ln_57, ln_58, ln_59, Option.toList_some, Option.toList_none, List.cons_append, List.nil_append, true_and, and_true, if_true, if_false, true_or, or_true, Nat.reduceAdd, Int.reduceAdd, Bool.false_eq_true, tn_0, tn_1, tn_2, tn_3, tn_4, tn_5, tn_6, tn_7]
        refine ⟨fun c => absurd c (by decide), fun _ => ?_⟩
        refine J_blk a_X6_kindHere_121 ?_
        simp only [b_X6_kindHere_121, w_iconst_5, w_goto, kd_46, kd_47, kd_48, kd_49, kd_50, kd_51, kd_52, kd_53, kd_54, kd_55, kd_56, kd_57, kd_58, kd_59, ln_47, ln_48, ln_49, ln_50, ln_51, ln_52, ln_53, ln_54, ln_55, ln_56, ln_57, ln_58, ln_59, Option.toList_some, Option.toList_none, List.cons_append, List.nil_append, true_and, and_true, if_true, if_false, true_or, or_true, Nat.reduceAdd, Int.reduceAdd, Bool.false_eq_true, tn_0, tn_1, tn_2, tn_3, tn_4, tn_5, tn_6, tn_7]
        refine J_blk a_X6_kindHere_126 ?_
        simp only [b_X6_kindHere_126, w_ireti, kd_46, kd_47, kd_48, kd_49, kd_50, kd_51, kd_52, kd_53, kd_54, kd_55, kd_56, kd_57, kd_58, kd_59, ln_47, ln_48, ln_49, ln_50, ln_51, ln_52, ln_53, ln_54, ln_55, ln_56, ln_57, ln_58, ln_59, Option.toList_some, Option.toList_none, List.cons_append, List.nil_append, true_and, and_true, if_true, if_false, true_or, or_true, Nat.reduceAdd, Int.reduceAdd, Bool.false_eq_true, tn_0, tn_1, tn_2, tn_3, tn_4, tn_5, tn_6, tn_7]
        exact ⟨rfl, rfl⟩
    · refine J_blk a_X6_kindHere_99 ?_
      simp only [b_X6_kindHere_99, w_if_eq, w_nil, kd_46, kd_47, kd_48, kd_49, kd_50, kd_51, kd_52, kd_53, kd_54, kd_55, kd_56, kd_57, kd_58, kd_59, ln_47, ln_48, ln_49, ln_50, ln_51, ln_52, ln_53, ln_54, ln_55, ln_56, ln_57, ln_58, ln_59, Option.toList_some, Option.toList_none, List.cons_append, List.nil_append, true_and, and_true, if_true, if_false, true_or, or_true, Nat.reduceAdd, Int.reduceAdd, Bool.false_eq_true, tn_0, tn_1, tn_2, tn_3, tn_4, tn_5, tn_6, tn_7]
      refine ⟨fun c => absurd c (by decide), fun _ => ?_⟩
      refine J_blk a_X6_kindHere_102 ?_
      simp only [b_X6_kindHere_102, w_iconst_4, w_ireti, kd_46, kd_47, kd_48, kd_49, kd_50, kd_51, kd_52, kd_53, kd_54, kd_55, kd_56, kd_57, kd_58, kd_59, ln_47, ln_48, ln_49, ln_50, ln_51, ln_52, ln_53, ln_54, ln_55, ln_56, ln_57, ln_58, ln_59, Option.toList_some, Option.toList_none, List.cons_append, List.nil_append, true_and, and_true, if_true, if_false, true_or, or_true, Nat.reduceAdd, Int.reduceAdd, Bool.false_eq_true, tn_0, tn_1, tn_2, tn_3, tn_4, tn_5, tn_6, tn_7]
      exact ⟨rfl, rfl⟩
  generalize (if wdB t L st.1 [108, 105, 109, 98] = true then (4 : Int32) else if wdB t L st.1 [103, 114, 97, 102, 116] = true then 5 else -1) = v4 at *
  have r2 : J 3 mX6_kindHere 50 [some (.ref 46)] [] (PMs t L M st) (Rt (some (.int (if wdB t L st.1 [98, 111, 117, 103, 104] = true then 2 else if wdB t L st.1 [98, 117, 100] = true then 3 else v4))) (PMs t L M st)) := by
    refine J_blk a_X6_kindHere_50 ?_
    simp only [b_X6_kindHere_50, w_aload_n0, w_bipush, ci_98, ci_111, ci_117, ci_103, ci_104, w_nil, kd_46, kd_47, kd_48, kd_49, kd_50, kd_51, kd_52, kd_53, kd_54, kd_55, kd_56, kd_57, kd_58, kd_59, ln_47, ln_48, ln_49, ln_50, ln_51, ln_52, ln_53, ln_54, ln_55, ln_56, ln_57, ln_58, ln_59, Option.toList_some, Option.toList_none, List.cons_append, List.nil_append, true_and, and_true, if_true, if_false, true_or, or_true, Nat.reduceAdd, Int.reduceAdd, Bool.false_eq_true, tn_0, tn_1, tn_2, tn_3, tn_4, tn_5, tn_6, tn_7]
    refine J_callVr (ci := 6) (isFive_ok t L M st _ _ _ _ _ h hfr) k_X6_kindHere_61 o_X6_isFive rfl rfl rfl rfl (by decide) rfl (Nat.le_of_ble_eq_true rfl) ?_
    rw [show (nmB t L st.1 5 98 111 117 104 && decide (byI t L (st.1 + 3) = 103)) = wdB t L st.1 [98, 111, 117, 103, 104] from q2]
    cases wdB t L st.1 [98, 111, 117, 103, 104]
    · refine J_blk a_X6_kindHere_64 ?_
      simp only [b_X6_kindHere_64, w_if_eq, w_nil, kd_46, kd_47, kd_48, kd_49, kd_50, kd_51, kd_52, kd_53, kd_54, kd_55, kd_56, kd_57, kd_58, kd_59, ln_47, ln_48, ln_49, ln_50, ln_51, ln_52, ln_53, ln_54, ln_55, ln_56, ln_57, ln_58, ln_59, Option.toList_some, Option.toList_none, List.cons_append, List.nil_append, true_and, and_true, if_true, if_false, true_or, or_true, Nat.reduceAdd, Int.reduceAdd, Bool.false_eq_true, tn_0, tn_1, tn_2, tn_3, tn_4, tn_5, tn_6, tn_7]
      refine ⟨fun _ => ?_, fun c => absurd rfl c⟩
      refine J_blk a_X6_kindHere_69 ?_
      simp only [b_X6_kindHere_69, w_aload_n0, w_iconst_3, w_bipush, ci_98, ci_117, ci_100, w_nil, kd_46, kd_47, kd_48, kd_49, kd_50, kd_51, kd_52, kd_53, kd_54, kd_55, kd_56, kd_57, kd_58, kd_59, ln_47, ln_48, ln_49, ln_50, ln_51, ln_52, ln_53, ln_54, ln_55, ln_56, ln_57, ln_58, ln_59, Option.toList_some, Option.toList_none, List.cons_append, List.nil_append, true_and, and_true, if_true, if_false, true_or, or_true, Nat.reduceAdd, Int.reduceAdd, Bool.false_eq_true, tn_0, tn_1, tn_2, tn_3, tn_4, tn_5, tn_6, tn_7]
      refine J_callVr (ci := 6) (isName_ok t L M st 3 _ _ _ _ h hfr (by omega)) k_X6_kindHere_79 o_X6_isName rfl rfl rfl rfl (by decide) rfl (Nat.le_of_ble_eq_true rfl) ?_
      rw [show nmB t L st.1 3 98 117 100 100 = wdB t L st.1 [98, 117, 100] from q3]
      cases wdB t L st.1 [98, 117, 100]
      · refine J_blk a_X6_kindHere_82 ?_
        simp only [b_X6_kindHere_82, w_if_eq, w_nil, kd_46, kd_47, kd_48, kd_49, kd_50, kd_51, kd_52, kd_53, kd_54, kd_55, kd_56, kd_57, kd_58, kd_59, ln_47, ln_48, ln_49, ln_50, ln_51, ln_52, ln_53, ln_54, ln_55, ln_56, ln_57, ln_58, ln_59, Option.toList_some, Option.toList_none, List.cons_append, List.nil_append, true_and, and_true, if_true, if_false, true_or, or_true, Nat.reduceAdd, Int.reduceAdd, Bool.false_eq_true, tn_0, tn_1, tn_2, tn_3, tn_4, tn_5, tn_6, tn_7]
        exact ⟨fun _ => r4, fun c => absurd rfl c⟩
      · refine J_blk a_X6_kindHere_82 ?_
        simp only [b_X6_kindHere_82, w_if_eq, w_nil, kd_46, kd_47, kd_48, kd_49, kd_50, kd_51, kd_52, kd_53, kd_54, kd_55, kd_56, kd_57, kd_58, kd_59, ln_47, ln_48, ln_49, ln_50, ln_51, ln_52, ln_53, ln_54, ln_55, ln_56, ln_57, ln_58, ln_59, Option.toList_some, Option.toList_none, List.cons_append, List.nil_append, true_and, and_true, if_true, if_false, true_or, or_true, Nat.reduceAdd, Int.reduceAdd, Bool.false_eq_true, tn_0, tn_1, tn_2, tn_3, tn_4, tn_5, tn_6, tn_7]
        refine ⟨fun c => absurd c (by decide), fun _ => ?_⟩
        refine J_blk a_X6_kindHere_85 ?_
        simp only [b_X6_kindHere_85, w_iconst_3, w_ireti, kd_46, kd_47, kd_48, kd_49, kd_50, kd_51, kd_52, kd_53, kd_54, kd_55, kd_56, kd_57, kd_58, kd_59, ln_47, ln_48, ln_49, ln_50, ln_51, ln_52, ln_53, ln_54, ln_55, ln_56, ln_57, ln_58, ln_59, Option.toList_some, Option.toList_none, List.cons_append, List.nil_append, true_and, and_true, if_true, if_false, true_or, or_true, Nat.reduceAdd, Int.reduceAdd, Bool.false_eq_true, tn_0, tn_1, tn_2, tn_3, tn_4, tn_5, tn_6, tn_7]
        exact ⟨rfl, rfl⟩
    · refine J_blk a_X6_kindHere_64 ?_
      simp only [b_X6_kindHere_64, w_if_eq, w_nil, kd_46, kd_47, kd_48, kd_49, kd_50, kd_51, kd_52, kd_53, kd_54, kd_55, kd_56, kd_57, kd_58, kd_59, ln_47, ln_48, ln_49, ln_50, ln_51, ln_52, ln_53, ln_54, ln_55, ln_56, ln_57, ln_58, ln_59, Option.toList_some, Option.toList_none, List.cons_append, List.nil_append, true_and, and_true, if_true, if_false, true_or, or_true, Nat.reduceAdd, Int.reduceAdd, Bool.false_eq_true, tn_0, tn_1, tn_2, tn_3, tn_4, tn_5, tn_6, tn_7]
      refine ⟨fun c => absurd c (by decide), fun _ => ?_⟩
      refine J_blk a_X6_kindHere_67 ?_
      simp only [b_X6_kindHere_67, w_iconst_2, w_ireti, kd_46, kd_47, kd_48, kd_49, kd_50, kd_51, kd_52, kd_53, kd_54, kd_55, kd_56, kd_57, kd_58, kd_59, ln_47, ln_48, ln_49, ln_50, ln_51, ln_52, ln_53, ln_54, ln_55, ln_56, ln_57, ln_58, ln_59, Option.toList_some, Option.toList_none, List.cons_append, List.nil_append, true_and, and_true, if_true, if_false, true_or, or_true, Nat.reduceAdd, Int.reduceAdd, Bool.false_eq_true, tn_0, tn_1, tn_2, tn_3, tn_4, tn_5, tn_6, tn_7]
      exact ⟨rfl, rfl⟩
  generalize (if wdB t L st.1 [98, 111, 117, 103, 104] = true then 2 else if wdB t L st.1 [98, 117, 100] = true then 3 else v4) = v2 at *
  have r1 : J 3 mX6_kindHere 33 [some (.ref 46)] [] (PMs t L M st) (Rt (some (.int (if wdB t L st.1 [115, 112, 117, 114] = true then 1 else v2))) (PMs t L M st)) := by
    refine J_blk a_X6_kindHere_33 ?_
    simp only [b_X6_kindHere_33, w_aload_n0, w_bipush, ci_115, ci_112, ci_117, ci_114, w_nil, kd_46, kd_47, kd_48, kd_49, kd_50, kd_51, kd_52, kd_53, kd_54, kd_55, kd_56, kd_57, kd_58, kd_59, ln_47, ln_48, ln_49, ln_50, ln_51, ln_52, ln_53, ln_54, ln_55, ln_56, ln_57, ln_58, ln_59, Option.toList_some, Option.toList_none, List.cons_append, List.nil_append, true_and, and_true, if_true, if_false, true_or, or_true, Nat.reduceAdd, Int.reduceAdd, Bool.false_eq_true, tn_0, tn_1, tn_2, tn_3, tn_4, tn_5, tn_6, tn_7]
    refine J_callVr (ci := 6) (isFour_ok t L M st _ _ _ _ h hfr) k_X6_kindHere_42 o_X6_isFour rfl rfl rfl rfl (by decide) rfl (Nat.le_of_ble_eq_true rfl) ?_
    rw [show nmB t L st.1 4 115 112 117 114 = wdB t L st.1 [115, 112, 117, 114] from q1]
    cases wdB t L st.1 [115, 112, 117, 114]
    · refine J_blk a_X6_kindHere_45 ?_
      simp only [b_X6_kindHere_45, w_if_eq, w_nil, kd_46, kd_47, kd_48, kd_49, kd_50, kd_51, kd_52, kd_53, kd_54, kd_55, kd_56, kd_57, kd_58, kd_59, ln_47, ln_48, ln_49, ln_50, ln_51, ln_52, ln_53, ln_54, ln_55, ln_56, ln_57, ln_58, ln_59, Option.toList_some, Option.toList_none, List.cons_append, List.nil_append, true_and, and_true, if_true, if_false, true_or, or_true, Nat.reduceAdd, Int.reduceAdd, Bool.false_eq_true, tn_0, tn_1, tn_2, tn_3, tn_4, tn_5, tn_6, tn_7]
      exact ⟨fun _ => r2, fun c => absurd rfl c⟩
    · refine J_blk a_X6_kindHere_45 ?_
      simp only [b_X6_kindHere_45, w_if_eq, w_nil, kd_46, kd_47, kd_48, kd_49, kd_50, kd_51, kd_52, kd_53, kd_54, kd_55, kd_56, kd_57, kd_58, kd_59, ln_47, ln_48, ln_49, ln_50, ln_51, ln_52, ln_53, ln_54, ln_55, ln_56, ln_57, ln_58, ln_59, Option.toList_some, Option.toList_none, List.cons_append, List.nil_append, true_and, and_true, if_true, if_false, true_or, or_true, Nat.reduceAdd, Int.reduceAdd, Bool.false_eq_true, tn_0, tn_1, tn_2, tn_3, tn_4, tn_5, tn_6, tn_7]
      refine ⟨fun c => absurd c (by decide), fun _ => ?_⟩
      refine J_blk a_X6_kindHere_48 ?_
      simp only [b_X6_kindHere_48, w_iconst_1, w_ireti, kd_46, kd_47, kd_48, kd_49, kd_50, kd_51, kd_52, kd_53, kd_54, kd_55, kd_56, kd_57, kd_58, kd_59, ln_47, ln_48, ln_49, ln_50, ln_51, ln_52, ln_53, ln_54, ln_55, ln_56, ln_57, ln_58, ln_59, Option.toList_some, Option.toList_none, List.cons_append, List.nil_append, true_and, and_true, if_true, if_false, true_or, or_true, Nat.reduceAdd, Int.reduceAdd, Bool.false_eq_true, tn_0, tn_1, tn_2, tn_3, tn_4, tn_5, tn_6, tn_7]
      exact ⟨rfl, rfl⟩
  generalize (if wdB t L st.1 [115, 112, 117, 114] = true then 1 else v2) = v1 at *
  refine K_go 0 o_X6_kindHere [] rfl (Nat.le_of_ble_eq_true rfl) ?_
  simp only [lvA_i, lvA_a, lvA_l, lvA_nil, List.cons_append, List.nil_append]
  refine J_blk a_X6_kindHere_0 ?_
  simp only [b_X6_kindHere_0, w_aload_n0, w_bipush, ci_6, ci_98, ci_114, ci_97, ci_104, w_nil, kd_46, kd_47, kd_48, kd_49, kd_50, kd_51, kd_52, kd_53, kd_54, kd_55, kd_56, kd_57, kd_58, kd_59, ln_47, ln_48, ln_49, ln_50, ln_51, ln_52, ln_53, ln_54, ln_55, ln_56, ln_57, ln_58, ln_59, Option.toList_some, Option.toList_none, List.cons_append, List.nil_append, true_and, and_true, if_true, if_false, true_or, or_true, Nat.reduceAdd, Int.reduceAdd, Bool.false_eq_true, tn_0, tn_1, tn_2, tn_3, tn_4, tn_5, tn_6, tn_7]
  refine J_callVr (ci := 6) (isName_ok t L M st 6 _ _ _ _ h hfr (by omega)) k_X6_kindHere_11 o_X6_isName rfl rfl rfl rfl (by decide) rfl (Nat.le_of_ble_eq_true rfl) ?_
  rw [← q0]
  rw [show nmB t L st.1 6 (nI 98) (nI 114) (nI 97) (nI 104) = nmB t L st.1 6 98 114 97 104 from rfl]
  cases nmB t L st.1 6 98 114 97 104
  · simp only [Bool.false_and, Bool.false_eq_true, if_false]
    refine J_blk a_X6_kindHere_14 ?_
    simp only [b_X6_kindHere_14, w_if_eq, w_nil, kd_46, kd_47, kd_48, kd_49, kd_50, kd_51, kd_52, kd_53, kd_54, kd_55, kd_56, kd_57, kd_58, kd_59, ln_47, ln_48, ln_49, ln_50, ln_51, ln_52, ln_53, ln_54, ln_55, ln_56, ln_57, ln_58, ln_59, Option.toList_some, Option.toList_none, List.cons_append, List.nil_append, true_and, and_true, if_true, if_false, true_or, or_true, Nat.reduceAdd, Int.reduceAdd, Bool.false_eq_true, tn_0, tn_1, tn_2, tn_3, tn_4, tn_5, tn_6, tn_7]
    exact ⟨fun _ => r1, fun c => absurd rfl c⟩
  · simp only [Bool.true_and]
    refine J_blk a_X6_kindHere_14 ?_
    simp only [b_X6_kindHere_14, w_if_eq, w_nil, kd_46, kd_47, kd_48, kd_49, kd_50, kd_51, kd_52, kd_53, kd_54, kd_55, kd_56, kd_57, kd_58, kd_59, ln_47, ln_48, ln_49, ln_50, ln_51, ln_52, ln_53, ln_54, ln_55, ln_56, ln_57, ln_58, ln_59, Option.toList_some, Option.toList_none, List.cons_append, List.nil_append, true_and, and_true, if_true, if_false, true_or, or_true, Nat.reduceAdd, Int.reduceAdd, Bool.false_eq_true, tn_0, tn_1, tn_2, tn_3, tn_4, tn_5, tn_6, tn_7]
    refine ⟨fun c => absurd c (by decide), fun _ => ?_⟩
    refine J_blk a_X6_kindHere_17 ?_
    simp only [b_X6_kindHere_17, w_aload_n0, w_iconst_2, w_bipush, ci_97, ci_110, ci_99, w_nil, kd_46, kd_47, kd_48, kd_49, kd_50, kd_51, kd_52, kd_53, kd_54, kd_55, kd_56, kd_57, kd_58, kd_59, ln_47, ln_48, ln_49, ln_50, ln_51, ln_52, ln_53, ln_54, ln_55, ln_56, ln_57, ln_58, ln_59, Option.toList_some, Option.toList_none, List.cons_append, List.nil_append, true_and, and_true, if_true, if_false, true_or, or_true, Nat.reduceAdd, Int.reduceAdd, Bool.false_eq_true, tn_0, tn_1, tn_2, tn_3, tn_4, tn_5, tn_6, tn_7]
    refine J_callVr (ci := 6) (isSame_ok t L M st _ _ _ h hfr) k_X6_kindHere_25 o_X6_isSame rfl rfl rfl rfl (by decide) rfl (Nat.le_of_ble_eq_true rfl) ?_
    rw [show decide (byI t L (st.1 + 2) = nI 97 ∧ byI t L (st.1 + 2 + 1) = nI 110 ∧ byI t L (st.1 + 2 + 2) = nI 99) = decide (byI t L (st.1 + 2) = 97 ∧ byI t L (st.1 + 2 + 1) = 110 ∧ byI t L (st.1 + 2 + 2) = 99) from rfl]
    cases decide (byI t L (st.1 + 2) = 97 ∧ byI t L (st.1 + 2 + 1) = 110 ∧ byI t L (st.1 + 2 + 2) = 99)
    · refine J_blk a_X6_kindHere_28 ?_
      simp only [b_X6_kindHere_28, w_if_eq, w_nil, kd_46, kd_47, kd_48, kd_49, kd_50, kd_51, kd_52, kd_53, kd_54, kd_55, kd_56, kd_57, kd_58, kd_59, ln_47, ln_48, ln_49, ln_50, ln_51, ln_52, ln_53, ln_54, ln_55, ln_56, ln_57, ln_58, ln_59, Option.toList_some, Option.toList_none, List.cons_append, List.nil_append, true_and, and_true, if_true, if_false, true_or, or_true, Nat.reduceAdd, Int.reduceAdd, Bool.false_eq_true, tn_0, tn_1, tn_2, tn_3, tn_4, tn_5, tn_6, tn_7]
      exact ⟨fun _ => r1, fun c => absurd rfl c⟩
    · refine J_blk a_X6_kindHere_28 ?_
      simp only [b_X6_kindHere_28, w_if_eq, w_nil, kd_46, kd_47, kd_48, kd_49, kd_50, kd_51, kd_52, kd_53, kd_54, kd_55, kd_56, kd_57, kd_58, kd_59, ln_47, ln_48, ln_49, ln_50, ln_51, ln_52, ln_53, ln_54, ln_55, ln_56, ln_57, ln_58, ln_59, Option.toList_some, Option.toList_none, List.cons_append, List.nil_append, true_and, and_true, if_true, if_false, true_or, or_true, Nat.reduceAdd, Int.reduceAdd, Bool.false_eq_true, tn_0, tn_1, tn_2, tn_3, tn_4, tn_5, tn_6, tn_7]
      refine ⟨fun c => absurd c (by decide), fun _ => ?_⟩
      refine J_blk a_X6_kindHere_31 ?_
      simp only [b_X6_kindHere_31, w_iconst_0, w_ireti, kd_46, kd_47, kd_48, kd_49, kd_50, kd_51, kd_52, kd_53, kd_54, kd_55, kd_56, kd_57, kd_58, kd_59, ln_47, ln_48, ln_49, ln_50, ln_51, ln_52, ln_53, ln_54, ln_55, ln_56, ln_57, ln_58, ln_59, Option.toList_some, Option.toList_none, List.cons_append, List.nil_append, true_and, and_true, if_true, if_false, true_or, or_true, Nat.reduceAdd, Int.reduceAdd, Bool.false_eq_true, tn_0, tn_1, tn_2, tn_3, tn_4, tn_5, tn_6, tn_7]
      exact ⟨rfl, rfl⟩
theorem lawHere_ok (t : Nat → Nat) (L : Nat) (M : Mm) (st : Ps) (h : TP M t L) (hfr : st.1 ≤ L) : K 3 mX6_lawHere [.ref 46] (PMs t L M st) (Rt (some (.int (laH t L st.1))) (PMs t L M st)) := by
  have hb := h.2.2.1
  have q0 := nm_wd5 hb hfr 115 104 97 100 101 (by omega) (by omega) (by omega) (by omega) (by omega)
  have q1 := nm_wd3 hb hfr 115 117 110 (by omega) (by omega) (by omega)
  have q2 := nm_wd4 hb hfr 114 97 105 110 (by omega) (by omega) (by omega) (by omega)
  have q3 := nm_wd5 hb hfr 102 114 111 115 116 (by omega) (by omega) (by omega) (by omega) (by omega)
  unfold laH
  refine K_go 0 o_X6_lawHere [] rfl (Nat.le_of_ble_eq_true rfl) ?_
  simp only [lvA_i, lvA_a, lvA_l, lvA_nil, List.cons_append, List.nil_append]
  refine J_blk a_X6_lawHere_0 ?_
  simp only [b_X6_lawHere_0, w_aload_n0, w_bipush, ci_115, ci_104, ci_97, ci_100, ci_101, w_nil, kd_46, kd_47, kd_48, kd_49, kd_50, kd_51, kd_52, kd_53, kd_54, kd_55, kd_56, kd_57, kd_58, kd_59, ln_47, ln_48, ln_49, ln_50, ln_51, ln_52, ln_53, ln_54, ln_55, ln_56, ln_57, ln_58, ln_59, Option.toList_some, Option.toList_none, List.cons_append, List.nil_append, true_and, and_true, if_true, if_false, true_or, or_true, Nat.reduceAdd, Int.reduceAdd, Bool.false_eq_true, tn_0, tn_1, tn_2, tn_3, tn_4, tn_5, tn_6, tn_7]
  refine J_callVr (ci := 6) (isFive_ok t L M st _ _ _ _ _ h hfr) k_X6_lawHere_11 o_X6_isFive rfl rfl rfl rfl (by decide) rfl (Nat.le_of_ble_eq_true rfl) ?_
  rw [show (nmB t L st.1 5 115 104 97 101 && decide (byI t L (st.1 + 3) = 100)) = wdB t L st.1 [115, 104, 97, 100, 101] from q0]
  cases wdB t L st.1 [115, 104, 97, 100, 101]
  · refine J_blk a_X6_lawHere_14 ?_
    simp only [b_X6_lawHere_14, w_if_eq, w_nil, kd_46, kd_47, kd_48, kd_49, kd_50, kd_51, kd_52, kd_53, kd_54, kd_55, kd_56, kd_57, kd_58, kd_59, ln_47, ln_48, ln_49, ln_50, ln_51, ln_52, ln_53, ln_54, ln_55, ln_56, ln_57, ln_58, ln_59, Option.toList_some, Option.toList_none, List.cons_append, List.nil_append, true_and, and_true, if_true, if_false, true_or, or_true, Nat.reduceAdd, Int.reduceAdd, Bool.false_eq_true, tn_0, tn_1, tn_2, tn_3, tn_4, tn_5, tn_6, tn_7]
    refine ⟨fun _ => ?_, fun c => absurd rfl c⟩
    refine J_blk a_X6_lawHere_19 ?_
    simp only [b_X6_lawHere_19, w_aload_n0, w_iconst_3, w_bipush, ci_115, ci_117, ci_110, w_nil, kd_46, kd_47, kd_48, kd_49, kd_50, kd_51, kd_52, kd_53, kd_54, kd_55, kd_56, kd_57, kd_58, kd_59, ln_47, ln_48, ln_49, ln_50, ln_51, ln_52, ln_53, ln_54, ln_55, ln_56, ln_57, ln_58, ln_59, Option.toList_some, Option.toList_none, List.cons_append, List.nil_append, true_and, and_true, if_true, if_false, true_or, or_true, Nat.reduceAdd, Int.reduceAdd, Bool.false_eq_true, tn_0, tn_1, tn_2, tn_3, tn_4, tn_5, tn_6, tn_7]
    refine J_callVr (ci := 6) (isName_ok t L M st 3 _ _ _ _ h hfr (by omega)) k_X6_lawHere_29 o_X6_isName rfl rfl rfl rfl (by decide) rfl (Nat.le_of_ble_eq_true rfl) ?_
    rw [show nmB t L st.1 3 115 117 110 110 = wdB t L st.1 [115, 117, 110] from q1]
    cases wdB t L st.1 [115, 117, 110]
    · refine J_blk a_X6_lawHere_32 ?_
      simp only [b_X6_lawHere_32, w_if_eq, w_nil, kd_46, kd_47, kd_48, kd_49, kd_50, kd_51, kd_52, kd_53, kd_54, kd_55, kd_56, kd_57, kd_58, kd_59, ln_47, ln_48, ln_49, ln_50, ln_51, ln_52, ln_53, ln_54, ln_55, ln_56, ln_57, ln_58, ln_59, Option.toList_some, Option.toList_none, List.cons_append, List.nil_append, true_and, and_true, if_true, if_false, true_or, or_true, Nat.reduceAdd, Int.reduceAdd, Bool.false_eq_true, tn_0, tn_1, tn_2, tn_3, tn_4, tn_5, tn_6, tn_7]
      refine ⟨fun _ => ?_, fun c => absurd rfl c⟩
      refine J_blk a_X6_lawHere_37 ?_
      simp only [b_X6_lawHere_37, w_aload_n0, w_bipush, ci_114, ci_97, ci_105, ci_110, w_nil, kd_46, kd_47, kd_48, kd_49, kd_50, kd_51, kd_52, kd_53, kd_54, kd_55, kd_56, kd_57, kd_58, kd_59, ln_47, ln_48, ln_49, ln_50, ln_51, ln_52, ln_53, ln_54, ln_55, ln_56, ln_57, ln_58, ln_59, Option.toList_some, Option.toList_none, List.cons_append, List.nil_append, true_and, and_true, if_true, if_false, true_or, or_true, Nat.reduceAdd, Int.reduceAdd, Bool.false_eq_true, tn_0, tn_1, tn_2, tn_3, tn_4, tn_5, tn_6, tn_7]
      refine J_callVr (ci := 6) (isFour_ok t L M st _ _ _ _ h hfr) k_X6_lawHere_46 o_X6_isFour rfl rfl rfl rfl (by decide) rfl (Nat.le_of_ble_eq_true rfl) ?_
      rw [show nmB t L st.1 4 114 97 105 110 = wdB t L st.1 [114, 97, 105, 110] from q2]
      cases wdB t L st.1 [114, 97, 105, 110]
      · refine J_blk a_X6_lawHere_49 ?_
        simp only [b_X6_lawHere_49, w_if_eq, w_nil, kd_46, kd_47, kd_48, kd_49, kd_50, kd_51, kd_52, kd_53, kd_54, kd_55, kd_56, kd_57, kd_58, kd_59, ln_47, ln_48, ln_49, ln_50, ln_51, ln_52, ln_53, ln_54, ln_55, ln_56, ln_57, ln_58, ln_59, Option.toList_some, Option.toList_none, List.cons_append, List.nil_append, true_and, and_true, if_true, if_false, true_or, or_true, Nat.reduceAdd, Int.reduceAdd, Bool.false_eq_true, tn_0, tn_1, tn_2, tn_3, tn_4, tn_5, tn_6, tn_7]
        refine ⟨fun _ => ?_, fun c => absurd rfl c⟩
        refine J_blk a_X6_lawHere_55 ?_
        simp only [b_X6_lawHere_55, w_aload_n0, w_bipush, ci_102, ci_114, ci_111, ci_115, ci_116, w_nil, kd_46, kd_47, kd_48, kd_49, kd_50, kd_51, kd_52, kd_53, kd_54, kd_55, kd_56, kd_57, kd_58, kd_59, ln_47, ln_48, ln_49, ln_50, ln_51, ln_52, ln_53, ln_54, ln_55, ln_56, ln_57, ln_58, ln_59, Option.toList_some, Option.toList_none, List.cons_append, List.nil_append, true_and, and_true, if_true, if_false, true_or, or_true, Nat.reduceAdd, Int.reduceAdd, Bool.false_eq_true, tn_0, tn_1, tn_2, tn_3, tn_4, tn_5, tn_6, tn_7]
        refine J_callVr (ci := 6) (isFive_ok t L M st _ _ _ _ _ h hfr) k_X6_lawHere_66 o_X6_isFive rfl rfl rfl rfl (by decide) rfl (Nat.le_of_ble_eq_true rfl) ?_
        rw [show (nmB t L st.1 5 102 114 111 116 && decide (byI t L (st.1 + 3) = 115)) = wdB t L st.1 [102, 114, 111, 115, 116] from q3]
        cases wdB t L st.1 [102, 114, 111, 115, 116]
        · refine J_blk a_X6_lawHere_69 ?_
          simp only [b_X6_lawHere_69, w_if_eq, w_nil, kd_46, kd_47, kd_48, kd_49, kd_50, kd_51, kd_52, kd_53, kd_54, kd_55, kd_56, kd_57, kd_58, kd_59, ln_47, ln_48, ln_49, ln_50, ln_51, ln_52, ln_53, ln_54, ln_55, ln_56, ln_57, ln_58, ln_59, Option.toList_some, Option.toList_none, List.cons_append, List.nil_append, true_and, and_true, if_true, if_false, true_or, or_true, Nat.reduceAdd, Int.reduceAdd, Bool.false_eq_true, tn_0, tn_1, tn_2, tn_3, tn_4, tn_5, tn_6, tn_7]
          refine ⟨fun _ => ?_, fun c => absurd rfl c⟩
          refine J_blk a_X6_lawHere_77 ?_
          simp only [b_X6_lawHere_77, w_iconst_m1, w_nil, kd_46, kd_47, kd_48, kd_49, kd_50, kd_51, kd_52, kd_53, kd_54, kd_55, kd_56, kd_57, kd_58, kd_59, ln_47, ln_48, ln_49, ln_50, ln_51, ln_52, ln_53, ln_54, ln_55, ln_56, ln_57, ln_58, ln_59, Option.toList_some, Option.toList_none, List.cons_append, List.nil_append, true_and, and_true, if_true, if_false, true_or, or_true, Nat.reduceAdd, Int.reduceAdd, Bool.false_eq_true, tn_0, tn_1, tn_2, tn_3, tn_4, tn_5, tn_6, tn_7]
          refine J_blk a_X6_lawHere_78 ?_
          simp only [b_X6_lawHere_78, w_ireti, kd_46, kd_47, kd_48, kd_49, kd_50, kd_51, kd_52, kd_53, kd_54, kd_55, kd_56, kd_57, kd_58, kd_59, ln_47, ln_48, ln_49, ln_50, ln_51, ln_52, ln_53, ln_54, ln_55, ln_56, ln_57, ln_58, ln_59, Option.toList_some, Option.toList_none, List.cons_append, List.nil_append, true_and, and_true, if_true, if_false, true_or, or_true, Nat.reduceAdd, Int.reduceAdd, Bool.false_eq_true, tn_0, tn_1, tn_2, tn_3, tn_4, tn_5, tn_6, tn_7]
          exact ⟨rfl, rfl⟩
        · refine J_blk a_X6_lawHere_69 ?_
          simp only [b_X6_lawHere_69, w_if_eq, w_nil, kd_46, kd_47, kd_48, kd_49, kd_50, kd_51, kd_52, kd_53, kd_54, kd_55, kd_56, kd_57, kd_58, kd_59, ln_47, ln_48, ln_49, ln_50, ln_51, ln_52, ln_53, ln_54, ln_55, ln_56, ln_57, ln_58, ln_59, Option.toList_some, Option.toList_none, List.cons_append, List.nil_append, true_and, and_true, if_true, if_false, true_or, or_true, Nat.reduceAdd, Int.reduceAdd, Bool.false_eq_true, tn_0, tn_1, tn_2, tn_3, tn_4, tn_5, tn_6, tn_7]
          refine ⟨fun c => absurd c (by decide), fun _ => ?_⟩
          refine J_blk a_X6_lawHere_72 ?_
          simp only [b_X6_lawHere_72, w_bipush, ci_7, w_goto, kd_46, kd_47, kd_48, kd_49, kd_50, kd_51, kd_52, kd_53, kd_54, kd_55, kd_56, kd_57, kd_58, kd_59, ln_47, ln_48, ln_49, ln_50, ln_51, ln_52, ln_53, ln_54, ln_55, ln_56, ln_57, ln_58, ln_59, Option.toList_some, Option.toList_none, List.cons_append, List.nil_append, true_and, and_true, if_true, if_false, true_or, or_true, Nat.reduceAdd, Int.reduceAdd, Bool.false_eq_true, tn_0, tn_1, tn_2, tn_3, tn_4, tn_5, tn_6, tn_7]
          refine J_blk a_X6_lawHere_78 ?_
          simp only [b_X6_lawHere_78, w_ireti, kd_46, kd_47, kd_48, kd_49, kd_50, kd_51, kd_52, kd_53, kd_54, kd_55, kd_56, kd_57, kd_58, kd_59, ln_47, ln_48, ln_49, ln_50, ln_51, ln_52, ln_53, ln_54, ln_55, ln_56, ln_57, ln_58, ln_59, Option.toList_some, Option.toList_none, List.cons_append, List.nil_append, true_and, and_true, if_true, if_false, true_or, or_true, Nat.reduceAdd, Int.reduceAdd, Bool.false_eq_true, tn_0, tn_1, tn_2, tn_3, tn_4, tn_5, tn_6, tn_7]
          exact ⟨rfl, rfl⟩
      · refine J_blk a_X6_lawHere_49 ?_
        simp only [b_X6_lawHere_49, w_if_eq, w_nil, kd_46, kd_47, kd_48, kd_49, kd_50, kd_51, kd_52, kd_53, kd_54, kd_55, kd_56, kd_57, kd_58, kd_59, ln_47, ln_48, ln_49, ln_50, ln_51, ln_52, ln_53, ln_54, ln_55, ln_56, ln_57, ln_58, ln_59, Option.toList_some, Option.toList_none, List.cons_append, List.nil_append, true_and, and_true, if_true, if_false, true_or, or_true, Nat.reduceAdd, Int.reduceAdd, Bool.false_eq_true, tn_0, tn_1, tn_2, tn_3, tn_4, tn_5, tn_6, tn_7]
        refine ⟨fun c => absurd c (by decide), fun _ => ?_⟩
        refine J_blk a_X6_lawHere_52 ?_
        simp only [b_X6_lawHere_52, w_bipush, ci_6, w_ireti, kd_46, kd_47, kd_48, kd_49, kd_50, kd_51, kd_52, kd_53, kd_54, kd_55, kd_56, kd_57, kd_58, kd_59, ln_47, ln_48, ln_49, ln_50, ln_51, ln_52, ln_53, ln_54, ln_55, ln_56, ln_57, ln_58, ln_59, Option.toList_some, Option.toList_none, List.cons_append, List.nil_append, true_and, and_true, if_true, if_false, true_or, or_true, Nat.reduceAdd, Int.reduceAdd, Bool.false_eq_true, tn_0, tn_1, tn_2, tn_3, tn_4, tn_5, tn_6, tn_7]
        exact ⟨rfl, rfl⟩
    · refine J_blk a_X6_lawHere_32 ?_
      simp only [b_X6_lawHere_32, w_if_eq, w_nil, kd_46, kd_47, kd_48, kd_49, kd_50, kd_51, kd_52, kd_53, kd_54, kd_55, kd_56, kd_57, kd_58, kd_59, ln_47, ln_48, ln_49, ln_50, ln_51, ln_52, ln_53, ln_54, ln_55, ln_56, ln_57, ln_58, ln_59, Option.toList_some, Option.toList_none, List.cons_append, List.nil_append, true_and, and_true, if_true, if_false, true_or, or_true, Nat.reduceAdd, Int.reduceAdd, Bool.false_eq_true, tn_0, tn_1, tn_2, tn_3, tn_4, tn_5, tn_6, tn_7]
      refine ⟨fun c => absurd c (by decide), fun _ => ?_⟩
      refine J_blk a_X6_lawHere_35 ?_
      simp only [b_X6_lawHere_35, w_iconst_5, w_ireti, kd_46, kd_47, kd_48, kd_49, kd_50, kd_51, kd_52, kd_53, kd_54, kd_55, kd_56, kd_57, kd_58, kd_59, ln_47, ln_48, ln_49, ln_50, ln_51, ln_52, ln_53, ln_54, ln_55, ln_56, ln_57, ln_58, ln_59, Option.toList_some, Option.toList_none, List.cons_append, List.nil_append, true_and, and_true, if_true, if_false, true_or, or_true, Nat.reduceAdd, Int.reduceAdd, Bool.false_eq_true, tn_0, tn_1, tn_2, tn_3, tn_4, tn_5, tn_6, tn_7]
      exact ⟨rfl, rfl⟩
  · refine J_blk a_X6_lawHere_14 ?_
    simp only [b_X6_lawHere_14, w_if_eq, w_nil, kd_46, kd_47, kd_48, kd_49, kd_50, kd_51, kd_52, kd_53, kd_54, kd_55, kd_56, kd_57, kd_58, kd_59, ln_47, ln_48, ln_49, ln_50, ln_51, ln_52, ln_53, ln_54, ln_55, ln_56, ln_57, ln_58, ln_59, Option.toList_some, Option.toList_none, List.cons_append, List.nil_append, true_and, and_true, if_true, if_false, true_or, or_true, Nat.reduceAdd, Int.reduceAdd, Bool.false_eq_true, tn_0, tn_1, tn_2, tn_3, tn_4, tn_5, tn_6, tn_7]
    refine ⟨fun c => absurd c (by decide), fun _ => ?_⟩
    refine J_blk a_X6_lawHere_17 ?_
    simp only [b_X6_lawHere_17, w_iconst_4, w_ireti, kd_46, kd_47, kd_48, kd_49, kd_50, kd_51, kd_52, kd_53, kd_54, kd_55, kd_56, kd_57, kd_58, kd_59, ln_47, ln_48, ln_49, ln_50, ln_51, ln_52, ln_53, ln_54, ln_55, ln_56, ln_57, ln_58, ln_59, Option.toList_some, Option.toList_none, List.cons_append, List.nil_append, true_and, and_true, if_true, if_false, true_or, or_true, Nat.reduceAdd, Int.reduceAdd, Bool.false_eq_true, tn_0, tn_1, tn_2, tn_3, tn_4, tn_5, tn_6, tn_7]
    exact ⟨rfl, rfl⟩
def nuB (t : Nat → Nat) (L fr : Nat) (most : Int32) : Bool := decide (knd t L fr = 2 ∧ te t L fr - fr ≤ 3 ∧ nI (vl t L fr) ≤ most)
def nuS (t : Nat → Nat) (L at_ : Nat) (most : Int32) (st : Ps) : Ps := ndS t L (nuB t L st.1 most) (st.1, st.2.1, if st.2.1 = false ∧ nuB t L st.1 most = true then upd st.2.2 at_ (nI (vl t L st.1)) else st.2.2)
theorem numberTo_ok (t : Nat → Nat) (L : Nat) (M : Mm) (st : Ps) (at_ : Nat) (most : Int32) (h : TP M t L) (hfr : st.1 ≤ L) (hat : st.2.1 = false → at_ < 56) : K 3 mX6_numberTo [.ref 46, .int (nI at_), .int most] (PMs t L M st) (Rt none (PMs t L M (nuS t L at_ most st))) := by
  have hL := h.2.1
  have ht := te_le t hfr
  obtain ⟨fr, w, s⟩ := st
  have hk3 : knd t L fr ≤ 3 := by unfold knd; split <;> (try split) <;> (try split) <;> omega
  have e2 : (nI (knd t L fr) = 2) = (knd t L fr = 2) := propext (nI_eq (b := 2) (by omega) (by decide))
  have es : nI (te t L fr) - nI fr = nI (te t L fr - fr) := pk_sub ht.2
  have e3 : (3 < nI (te t L fr - fr)) = (3 < te t L fr - fr) := propext (nI_ltI (a := 3) (by decide) (by show te t L fr - fr < 2 ^ 31; have : te t L fr ≤ L := ht.1; omega))
  have tail : ∀ b : Bool, b = nuB t L fr most → ∀ z, J 3 mX6_numberTo 34 [some (.ref 46), some (.int (nI at_)), some (.int most), z] [.int (bI b)] (PMs t L M (fr, w, s)) (Rt none (PMs t L M (nuS t L at_ most (fr, w, s)))) := by
    intro b hb z
    unfold nuS
    simp only
    rw [← hb]
    have fin : ∀ s', s' = (if w = false ∧ b = true then upd s at_ (nI (vl t L fr)) else s) → J 3 mX6_numberTo 56 [some (.ref 46), some (.int (nI at_)), some (.int most), some (.int (bI b))] [] (PMs t L M (fr, w, s')) (Rt none (PMs t L M (ndS t L b (fr, w, if w = false ∧ b = true then upd s at_ (nI (vl t L fr)) else s)))) := by
      intro s' hs'
      rw [← hs']
      refine J_blk a_X6_numberTo_56 ?_
      simp only [b_X6_numberTo_56, w_aload_n0, w_iload_n3, w_nil, kd_46, kd_47, kd_48, kd_49, kd_50, kd_51, kd_52, kd_53, kd_54, kd_55, kd_56, kd_57, kd_58, kd_59, ln_47, ln_48, ln_49, ln_50, ln_51, ln_52, ln_53, ln_54, ln_55, ln_56, ln_57, ln_58, ln_59, Option.toList_some, Option.toList_none, List.cons_append, List.nil_append, true_and, and_true, if_true, if_false, true_or, or_true, Nat.reduceAdd, Int.reduceAdd, Bool.false_eq_true, tn_0, tn_1, tn_2, tn_3, tn_4, tn_5, tn_6, tn_7]
      refine J_callVr (ci := 6) (needs_ok t L M _ b h hfr) k_X6_numberTo_58 o_X6_needs rfl rfl rfl rfl (by decide) rfl (Nat.le_of_ble_eq_true rfl) ?_
      refine J_blk a_X6_numberTo_61 ?_
      simp only [b_X6_numberTo_61, w_vret, kd_46, kd_47, kd_48, kd_49, kd_50, kd_51, kd_52, kd_53, kd_54, kd_55, kd_56, kd_57, kd_58, kd_59, ln_47, ln_48, ln_49, ln_50, ln_51, ln_52, ln_53, ln_54, ln_55, ln_56, ln_57, ln_58, ln_59, Option.toList_some, Option.toList_none, List.cons_append, List.nil_append, true_and, and_true, if_true, if_false, true_or, or_true, Nat.reduceAdd, Int.reduceAdd, Bool.false_eq_true, tn_0, tn_1, tn_2, tn_3, tn_4, tn_5, tn_6, tn_7]
      first | exact ⟨rfl, rfl⟩ | (simp_all [Rt])
    cases b
    · have f := fin s (by rw [if_neg (by simp)])
      simp only [Bool.false_eq_true] at f
      refine J_blk a_X6_numberTo_34 ?_
      simp only [b_X6_numberTo_34, w_istore3, nl_3n, nl_3i, nl_3a, w_iload_n3, w_if_eq, w_nil, kd_46, kd_47, kd_48, kd_49, kd_50, kd_51, kd_52, kd_53, kd_54, kd_55, kd_56, kd_57, kd_58, kd_59, ln_47, ln_48, ln_49, ln_50, ln_51, ln_52, ln_53, ln_54, ln_55, ln_56, ln_57, ln_58, ln_59, Option.toList_some, Option.toList_none, List.cons_append, List.nil_append, true_and, and_true, if_true, if_false, true_or, or_true, Nat.reduceAdd, Int.reduceAdd, Bool.false_eq_true, tn_0, tn_1, tn_2, tn_3, tn_4, tn_5, tn_6, tn_7]
      exact ⟨fun _ => f, fun c => absurd rfl c⟩
    · refine J_blk a_X6_numberTo_34 ?_
      simp only [b_X6_numberTo_34, w_istore3, nl_3n, nl_3i, nl_3a, w_iload_n3, w_if_eq, w_nil, kd_46, kd_47, kd_48, kd_49, kd_50, kd_51, kd_52, kd_53, kd_54, kd_55, kd_56, kd_57, kd_58, kd_59, ln_47, ln_48, ln_49, ln_50, ln_51, ln_52, ln_53, ln_54, ln_55, ln_56, ln_57, ln_58, ln_59, Option.toList_some, Option.toList_none, List.cons_append, List.nil_append, true_and, and_true, if_true, if_false, true_or, or_true, Nat.reduceAdd, Int.reduceAdd, Bool.false_eq_true, tn_0, tn_1, tn_2, tn_3, tn_4, tn_5, tn_6, tn_7]
      refine ⟨fun c => absurd c (by decide), fun _ => ?_⟩
      cases w
      · have hat := hat rfl
        have ta : (nI at_).toNatClampNeg = at_ := nI_clamp (by omega)
        refine J_blk a_X6_numberTo_39 ?_
        simp only [b_X6_numberTo_39, w_aload_n0, w_getf6, w_if_ne, w_nil, kd_46, kd_47, kd_48, kd_49, kd_50, kd_51, kd_52, kd_53, kd_54, kd_55, kd_56, kd_57, kd_58, kd_59, ln_47, ln_48, ln_49, ln_50, ln_51, ln_52, ln_53, ln_54, ln_55, ln_56, ln_57, ln_58, ln_59, Option.toList_some, Option.toList_none, List.cons_append, List.nil_append, true_and, and_true, if_true, if_false, true_or, or_true, Nat.reduceAdd, Int.reduceAdd, Bool.false_eq_true, tn_0, tn_1, tn_2, tn_3, tn_4, tn_5, tn_6, tn_7, PM_11]
        refine ⟨fun c => absurd rfl c, fun _ => ?_⟩
        refine J_blk a_X6_numberTo_46 ?_
        simp only [b_X6_numberTo_46, w_aload_n0, w_getf6, ne0_1, w_iload_n1, w_iast, w_nil, kd_46, kd_47, kd_48, kd_49, kd_50, kd_51, kd_52, kd_53, kd_54, kd_55, kd_56, kd_57, kd_58, kd_59, ln_47, ln_48, ln_49, ln_50, ln_51, ln_52, ln_53, ln_54, ln_55, ln_56, ln_57, ln_58, ln_59, Option.toList_some, Option.toList_none, List.cons_append, List.nil_append, true_and, and_true, if_true, if_false, true_or, or_true, Nat.reduceAdd, Int.reduceAdd, Bool.false_eq_true, tn_0, tn_1, tn_2, tn_3, tn_4, tn_5, tn_6, tn_7, PM_10, PM_u47, ta]
        exact ⟨vinN hat (by decide), fin _ (by rw [if_pos (by simp)])⟩
      · refine J_blk a_X6_numberTo_39 ?_
        simp only [b_X6_numberTo_39, w_aload_n0, w_getf6, w_if_ne, w_nil, kd_46, kd_47, kd_48, kd_49, kd_50, kd_51, kd_52, kd_53, kd_54, kd_55, kd_56, kd_57, kd_58, kd_59, ln_47, ln_48, ln_49, ln_50, ln_51, ln_52, ln_53, ln_54, ln_55, ln_56, ln_57, ln_58, ln_59, Option.toList_some, Option.toList_none, List.cons_append, List.nil_append, true_and, and_true, if_true, if_false, true_or, or_true, Nat.reduceAdd, Int.reduceAdd, Bool.false_eq_true, tn_0, tn_1, tn_2, tn_3, tn_4, tn_5, tn_6, tn_7, PM_11]
        exact ⟨fun _ => fin s (by rw [if_neg (by simp)]), fun c => absurd c (by decide)⟩
  have t1 := tail true
  have t0 := tail false
  refine K_go 2 o_X6_numberTo [none] rfl (Nat.le_of_ble_eq_true rfl) ?_
  simp only [lvA_i, lvA_a, lvA_l, lvA_nil, List.cons_append, List.nil_append]
  refine J_blk a_X6_numberTo_0 ?_
  simp only [b_X6_numberTo_0, w_aload_n0, w_getf6, w_iconst_2, w_icmp_ne, w_nil, kd_46, kd_47, kd_48, kd_49, kd_50, kd_51, kd_52, kd_53, kd_54, kd_55, kd_56, kd_57, kd_58, kd_59, ln_47, ln_48, ln_49, ln_50, ln_51, ln_52, ln_53, ln_54, ln_55, ln_56, ln_57, ln_58, ln_59, Option.toList_some, Option.toList_none, List.cons_append, List.nil_append, true_and, and_true, if_true, if_false, true_or, or_true, Nat.reduceAdd, Int.reduceAdd, Bool.false_eq_true, tn_0, tn_1, tn_2, tn_3, tn_4, tn_5, tn_6, tn_7, PM_7, PM_8, PM_9, PM_10, e2, es, e3]
  refine ⟨fun c1 => ?_, fun c1 => ?_⟩
  · refine J_blk a_X6_numberTo_33 ?_
    simp only [b_X6_numberTo_33, w_iconst_0, w_nil, kd_46, kd_47, kd_48, kd_49, kd_50, kd_51, kd_52, kd_53, kd_54, kd_55, kd_56, kd_57, kd_58, kd_59, ln_47, ln_48, ln_49, ln_50, ln_51, ln_52, ln_53, ln_54, ln_55, ln_56, ln_57, ln_58, ln_59, Option.toList_some, Option.toList_none, List.cons_append, List.nil_append, true_and, and_true, if_true, if_false, true_or, or_true, Nat.reduceAdd, Int.reduceAdd, Bool.false_eq_true, tn_0, tn_1, tn_2, tn_3, tn_4, tn_5, tn_6, tn_7, PM_7, PM_8, PM_9, PM_10, e2, es, e3]
    first | exact t1 (by unfold nuB; rw [decide_eq_true (by refine ⟨by assumption, by omega, Int32.not_lt.mp (by assumption)⟩)]) _ | exact t0 (by unfold nuB; rw [decide_eq_false (by first | exact fun q => (by assumption : ¬ knd t L fr = 2) q.1 | exact fun q => absurd q.2.1 (by omega) | exact fun q => absurd q.2.2 (Int32.not_le.mpr (by assumption)))]) _
  · refine J_blk a_X6_numberTo_8 ?_
    simp only [b_X6_numberTo_8, w_aload_n0, w_getf6, w_isub, w_iconst_3, w_icmp_gt, w_nil, kd_46, kd_47, kd_48, kd_49, kd_50, kd_51, kd_52, kd_53, kd_54, kd_55, kd_56, kd_57, kd_58, kd_59, ln_47, ln_48, ln_49, ln_50, ln_51, ln_52, ln_53, ln_54, ln_55, ln_56, ln_57, ln_58, ln_59, Option.toList_some, Option.toList_none, List.cons_append, List.nil_append, true_and, and_true, if_true, if_false, true_or, or_true, Nat.reduceAdd, Int.reduceAdd, Bool.false_eq_true, tn_0, tn_1, tn_2, tn_3, tn_4, tn_5, tn_6, tn_7, PM_7, PM_8, PM_9, PM_10, e2, es, e3]
    refine ⟨fun c2 => ?_, fun c2 => ?_⟩
    · refine J_blk a_X6_numberTo_33 ?_
      simp only [b_X6_numberTo_33, w_iconst_0, w_nil, kd_46, kd_47, kd_48, kd_49, kd_50, kd_51, kd_52, kd_53, kd_54, kd_55, kd_56, kd_57, kd_58, kd_59, ln_47, ln_48, ln_49, ln_50, ln_51, ln_52, ln_53, ln_54, ln_55, ln_56, ln_57, ln_58, ln_59, Option.toList_some, Option.toList_none, List.cons_append, List.nil_append, true_and, and_true, if_true, if_false, true_or, or_true, Nat.reduceAdd, Int.reduceAdd, Bool.false_eq_true, tn_0, tn_1, tn_2, tn_3, tn_4, tn_5, tn_6, tn_7, PM_7, PM_8, PM_9, PM_10, e2, es, e3]
      first | exact t1 (by unfold nuB; rw [decide_eq_true (by refine ⟨by assumption, by omega, Int32.not_lt.mp (by assumption)⟩)]) _ | exact t0 (by unfold nuB; rw [decide_eq_false (by first | exact fun q => (by assumption : ¬ knd t L fr = 2) q.1 | exact fun q => absurd q.2.1 (by omega) | exact fun q => absurd q.2.2 (Int32.not_le.mpr (by assumption)))]) _
    · refine J_blk a_X6_numberTo_21 ?_
      simp only [b_X6_numberTo_21, w_aload_n0, w_getf6, w_iload_n2, w_icmp_gt, w_nil, kd_46, kd_47, kd_48, kd_49, kd_50, kd_51, kd_52, kd_53, kd_54, kd_55, kd_56, kd_57, kd_58, kd_59, ln_47, ln_48, ln_49, ln_50, ln_51, ln_52, ln_53, ln_54, ln_55, ln_56, ln_57, ln_58, ln_59, Option.toList_some, Option.toList_none, List.cons_append, List.nil_append, true_and, and_true, if_true, if_false, true_or, or_true, Nat.reduceAdd, Int.reduceAdd, Bool.false_eq_true, tn_0, tn_1, tn_2, tn_3, tn_4, tn_5, tn_6, tn_7, PM_7, PM_8, PM_9, PM_10, e2, es, e3]
      refine ⟨fun c3 => ?_, fun c3 => ?_⟩
      · refine J_blk a_X6_numberTo_33 ?_
        simp only [b_X6_numberTo_33, w_iconst_0, w_nil, kd_46, kd_47, kd_48, kd_49, kd_50, kd_51, kd_52, kd_53, kd_54, kd_55, kd_56, kd_57, kd_58, kd_59, ln_47, ln_48, ln_49, ln_50, ln_51, ln_52, ln_53, ln_54, ln_55, ln_56, ln_57, ln_58, ln_59, Option.toList_some, Option.toList_none, List.cons_append, List.nil_append, true_and, and_true, if_true, if_false, true_or, or_true, Nat.reduceAdd, Int.reduceAdd, Bool.false_eq_true, tn_0, tn_1, tn_2, tn_3, tn_4, tn_5, tn_6, tn_7, PM_7, PM_8, PM_9, PM_10, e2, es, e3]
        first | exact t1 (by unfold nuB; rw [decide_eq_true (by refine ⟨by assumption, by omega, Int32.not_lt.mp (by assumption)⟩)]) _ | exact t0 (by unfold nuB; rw [decide_eq_false (by first | exact fun q => (by assumption : ¬ knd t L fr = 2) q.1 | exact fun q => absurd q.2.1 (by omega) | exact fun q => absurd q.2.2 (Int32.not_le.mpr (by assumption)))]) _
      · refine J_blk a_X6_numberTo_29 ?_
        simp only [b_X6_numberTo_29, w_iconst_1, w_goto, kd_46, kd_47, kd_48, kd_49, kd_50, kd_51, kd_52, kd_53, kd_54, kd_55, kd_56, kd_57, kd_58, kd_59, ln_47, ln_48, ln_49, ln_50, ln_51, ln_52, ln_53, ln_54, ln_55, ln_56, ln_57, ln_58, ln_59, Option.toList_some, Option.toList_none, List.cons_append, List.nil_append, true_and, and_true, if_true, if_false, true_or, or_true, Nat.reduceAdd, Int.reduceAdd, Bool.false_eq_true, tn_0, tn_1, tn_2, tn_3, tn_4, tn_5, tn_6, tn_7, PM_7, PM_8, PM_9, PM_10, e2, es, e3]
        first | exact t1 (by unfold nuB; rw [decide_eq_true (by refine ⟨by assumption, by omega, Int32.not_lt.mp (by assumption)⟩)]) _ | exact t0 (by unfold nuB; rw [decide_eq_false (by first | exact fun q => (by assumption : ¬ knd t L fr = 2) q.1 | exact fun q => absurd q.2.1 (by omega) | exact fun q => absurd q.2.2 (Int32.not_le.mpr (by assumption)))]) _
def phS (t : Nat → Nat) (L : Nat) (b : Bool) (at_ : Nat) (most : Int32) (st : Ps) : Ps := if st.2.1 = false ∧ b = true then nuS t L at_ most (nx t L st.1, st.2) else st
theorem perhaps_ok (t : Nat → Nat) (L : Nat) (M : Mm) (st : Ps) (b : Bool) (at_ : Nat) (most : Int32) (h : TP M t L) (hfr : st.1 ≤ L) (hat : st.2.1 = false → at_ < 56) : K 4 mX6_perhaps [.ref 46, .int (bI b), .int (nI at_), .int most] (PMs t L M st) (Rt none (PMs t L M (phS t L b at_ most st))) := by
  obtain ⟨fr, w, s⟩ := st
  unfold phS
  simp only
  cases w
  · cases b
    · rw [if_neg (by simp)]
      refine K_go 3 o_X6_perhaps [] rfl (Nat.le_of_ble_eq_true rfl) ?_
      simp only [lvA_i, lvA_a, lvA_l, lvA_nil, List.cons_append, List.nil_append]
      refine J_blk a_X6_perhaps_0 ?_
      simp only [b_X6_perhaps_0, w_aload_n0, w_getf6, w_if_ne, w_nil, kd_46, kd_47, kd_48, kd_49, kd_50, kd_51, kd_52, kd_53, kd_54, kd_55, kd_56, kd_57, kd_58, kd_59, ln_47, ln_48, ln_49, ln_50, ln_51, ln_52, ln_53, ln_54, ln_55, ln_56, ln_57, ln_58, ln_59, Option.toList_some, Option.toList_none, List.cons_append, List.nil_append, true_and, and_true, if_true, if_false, true_or, or_true, Nat.reduceAdd, Int.reduceAdd, Bool.false_eq_true, tn_0, tn_1, tn_2, tn_3, tn_4, tn_5, tn_6, tn_7, PM_11]
      refine ⟨fun c4 => ?_, fun c4 => ?_⟩
      · first
          | exact absurd c4 (by decide)
          | (refine J_blk a_X6_perhaps_21 ?_
             simp only [b_X6_perhaps_21, w_vret, kd_46, kd_47, kd_48, kd_49, kd_50, kd_51, kd_52, kd_53, kd_54, kd_55, kd_56, kd_57, kd_58, kd_59, ln_47, ln_48, ln_49, ln_50, ln_51, ln_52, ln_53, ln_54, ln_55, ln_56, ln_57, ln_58, ln_59, Option.toList_some, Option.toList_none, List.cons_append, List.nil_append, true_and, and_true, if_true, if_false, true_or, or_true, Nat.reduceAdd, Int.reduceAdd, Bool.false_eq_true, tn_0, tn_1, tn_2, tn_3, tn_4, tn_5, tn_6, tn_7, PM_11]
             first | exact ⟨rfl, rfl⟩ | (simp_all [Rt]))
      · first
          | exact absurd c4 (by decide)
          | (refine J_blk a_X6_perhaps_7 ?_
             simp only [b_X6_perhaps_7, w_iload_n1, w_if_eq, w_nil, kd_46, kd_47, kd_48, kd_49, kd_50, kd_51, kd_52, kd_53, kd_54, kd_55, kd_56, kd_57, kd_58, kd_59, ln_47, ln_48, ln_49, ln_50, ln_51, ln_52, ln_53, ln_54, ln_55, ln_56, ln_57, ln_58, ln_59, Option.toList_some, Option.toList_none, List.cons_append, List.nil_append, true_and, and_true, if_true, if_false, true_or, or_true, Nat.reduceAdd, Int.reduceAdd, Bool.false_eq_true, tn_0, tn_1, tn_2, tn_3, tn_4, tn_5, tn_6, tn_7, PM_11]
             refine ⟨fun c5 => ?_, fun c5 => ?_⟩
             · first
                 | exact absurd c5 (by decide)
                 | (refine J_blk a_X6_perhaps_21 ?_
                    simp only [b_X6_perhaps_21, w_vret, kd_46, kd_47, kd_48, kd_49, kd_50, kd_51, kd_52, kd_53, kd_54, kd_55, kd_56, kd_57, kd_58, kd_59, ln_47, ln_48, ln_49, ln_50, ln_51, ln_52, ln_53, ln_54, ln_55, ln_56, ln_57, ln_58, ln_59, Option.toList_some, Option.toList_none, List.cons_append, List.nil_append, true_and, and_true, if_true, if_false, true_or, or_true, Nat.reduceAdd, Int.reduceAdd, Bool.false_eq_true, tn_0, tn_1, tn_2, tn_3, tn_4, tn_5, tn_6, tn_7, PM_11]
                    first | exact ⟨rfl, rfl⟩ | (simp_all [Rt]))
             · first
                 | exact absurd c5 (by decide)
                 | (exact absurd rfl (by assumption)))
    · rw [if_pos (by simp)]
      refine K_go 3 o_X6_perhaps [] rfl (Nat.le_of_ble_eq_true rfl) ?_
      simp only [lvA_i, lvA_a, lvA_l, lvA_nil, List.cons_append, List.nil_append]
      refine J_blk a_X6_perhaps_0 ?_
      simp only [b_X6_perhaps_0, w_aload_n0, w_getf6, w_if_ne, w_nil, kd_46, kd_47, kd_48, kd_49, kd_50, kd_51, kd_52, kd_53, kd_54, kd_55, kd_56, kd_57, kd_58, kd_59, ln_47, ln_48, ln_49, ln_50, ln_51, ln_52, ln_53, ln_54, ln_55, ln_56, ln_57, ln_58, ln_59, Option.toList_some, Option.toList_none, List.cons_append, List.nil_append, true_and, and_true, if_true, if_false, true_or, or_true, Nat.reduceAdd, Int.reduceAdd, Bool.false_eq_true, tn_0, tn_1, tn_2, tn_3, tn_4, tn_5, tn_6, tn_7, PM_11]
      refine ⟨fun c6 => ?_, fun c6 => ?_⟩
      · first
          | exact absurd c6 (by decide)
          | (refine J_blk a_X6_perhaps_21 ?_
             simp only [b_X6_perhaps_21, w_vret, kd_46, kd_47, kd_48, kd_49, kd_50, kd_51, kd_52, kd_53, kd_54, kd_55, kd_56, kd_57, kd_58, kd_59, ln_47, ln_48, ln_49, ln_50, ln_51, ln_52, ln_53, ln_54, ln_55, ln_56, ln_57, ln_58, ln_59, Option.toList_some, Option.toList_none, List.cons_append, List.nil_append, true_and, and_true, if_true, if_false, true_or, or_true, Nat.reduceAdd, Int.reduceAdd, Bool.false_eq_true, tn_0, tn_1, tn_2, tn_3, tn_4, tn_5, tn_6, tn_7, PM_11]
             first | exact ⟨rfl, rfl⟩ | exact absurd rfl (by assumption))
      · first
          | exact absurd c6 (by decide)
          | (refine J_blk a_X6_perhaps_7 ?_
             simp only [b_X6_perhaps_7, w_iload_n1, w_if_eq, w_nil, kd_46, kd_47, kd_48, kd_49, kd_50, kd_51, kd_52, kd_53, kd_54, kd_55, kd_56, kd_57, kd_58, kd_59, ln_47, ln_48, ln_49, ln_50, ln_51, ln_52, ln_53, ln_54, ln_55, ln_56, ln_57, ln_58, ln_59, Option.toList_some, Option.toList_none, List.cons_append, List.nil_append, true_and, and_true, if_true, if_false, true_or, or_true, Nat.reduceAdd, Int.reduceAdd, Bool.false_eq_true, tn_0, tn_1, tn_2, tn_3, tn_4, tn_5, tn_6, tn_7, PM_11]
             refine ⟨fun c7 => ?_, fun c7 => ?_⟩
             · first
                 | exact absurd c7 (by decide)
                 | (refine J_blk a_X6_perhaps_21 ?_
                    simp only [b_X6_perhaps_21, w_vret, kd_46, kd_47, kd_48, kd_49, kd_50, kd_51, kd_52, kd_53, kd_54, kd_55, kd_56, kd_57, kd_58, kd_59, ln_47, ln_48, ln_49, ln_50, ln_51, ln_52, ln_53, ln_54, ln_55, ln_56, ln_57, ln_58, ln_59, Option.toList_some, Option.toList_none, List.cons_append, List.nil_append, true_and, and_true, if_true, if_false, true_or, or_true, Nat.reduceAdd, Int.reduceAdd, Bool.false_eq_true, tn_0, tn_1, tn_2, tn_3, tn_4, tn_5, tn_6, tn_7, PM_11]
                    first | exact ⟨rfl, rfl⟩ | exact absurd rfl (by assumption))
             · first
                 | exact absurd c7 (by decide)
                 | (refine J_blk a_X6_perhaps_11 ?_
                    simp only [b_X6_perhaps_11, w_aload_n0, w_nil, kd_46, kd_47, kd_48, kd_49, kd_50, kd_51, kd_52, kd_53, kd_54, kd_55, kd_56, kd_57, kd_58, kd_59, ln_47, ln_48, ln_49, ln_50, ln_51, ln_52, ln_53, ln_54, ln_55, ln_56, ln_57, ln_58, ln_59, Option.toList_some, Option.toList_none, List.cons_append, List.nil_append, true_and, and_true, if_true, if_false, true_or, or_true, Nat.reduceAdd, Int.reduceAdd, Bool.false_eq_true, tn_0, tn_1, tn_2, tn_3, tn_4, tn_5, tn_6, tn_7, PM_11]
                    refine J_callVr (ci := 6) (ntok h hfr) k_X6_perhaps_12 o_X6_nextToken rfl rfl rfl rfl (by decide) rfl (Nat.le_of_ble_eq_true rfl) ?_
                    refine J_blk a_X6_perhaps_15 ?_
                    simp only [b_X6_perhaps_15, w_aload_n0, w_iload_n2, w_iload_n3, w_nil, kd_46, kd_47, kd_48, kd_49, kd_50, kd_51, kd_52, kd_53, kd_54, kd_55, kd_56, kd_57, kd_58, kd_59, ln_47, ln_48, ln_49, ln_50, ln_51, ln_52, ln_53, ln_54, ln_55, ln_56, ln_57, ln_58, ln_59, Option.toList_some, Option.toList_none, List.cons_append, List.nil_append, true_and, and_true, if_true, if_false, true_or, or_true, Nat.reduceAdd, Int.reduceAdd, Bool.false_eq_true, tn_0, tn_1, tn_2, tn_3, tn_4, tn_5, tn_6, tn_7, PM_11]
                    refine J_callVr (ci := 6) (numberTo_ok t L M _ at_ most h (nx_le t hfr).1 hat) k_X6_perhaps_18 o_X6_numberTo rfl rfl rfl rfl (by decide) rfl (Nat.le_of_ble_eq_true rfl) ?_
                    refine J_blk a_X6_perhaps_21 ?_
                    simp only [b_X6_perhaps_21, w_vret, kd_46, kd_47, kd_48, kd_49, kd_50, kd_51, kd_52, kd_53, kd_54, kd_55, kd_56, kd_57, kd_58, kd_59, ln_47, ln_48, ln_49, ln_50, ln_51, ln_52, ln_53, ln_54, ln_55, ln_56, ln_57, ln_58, ln_59, Option.toList_some, Option.toList_none, List.cons_append, List.nil_append, true_and, and_true, if_true, if_false, true_or, or_true, Nat.reduceAdd, Int.reduceAdd, Bool.false_eq_true, tn_0, tn_1, tn_2, tn_3, tn_4, tn_5, tn_6, tn_7, PM_11]
                    first | exact ⟨rfl, rfl⟩ | exact absurd rfl (by assumption)))
  · rw [if_neg (by simp)]
    refine K_go 3 o_X6_perhaps [] rfl (Nat.le_of_ble_eq_true rfl) ?_
    simp only [lvA_i, lvA_a, lvA_l, lvA_nil, List.cons_append, List.nil_append]
    refine J_blk a_X6_perhaps_0 ?_
    simp only [b_X6_perhaps_0, w_aload_n0, w_getf6, w_if_ne, w_nil, kd_46, kd_47, kd_48, kd_49, kd_50, kd_51, kd_52, kd_53, kd_54, kd_55, kd_56, kd_57, kd_58, kd_59, ln_47, ln_48, ln_49, ln_50, ln_51, ln_52, ln_53, ln_54, ln_55, ln_56, ln_57, ln_58, ln_59, Option.toList_some, Option.toList_none, List.cons_append, List.nil_append, true_and, and_true, if_true, if_false, true_or, or_true, Nat.reduceAdd, Int.reduceAdd, Bool.false_eq_true, tn_0, tn_1, tn_2, tn_3, tn_4, tn_5, tn_6, tn_7, PM_11]
    refine ⟨fun c8 => ?_, fun c8 => ?_⟩
    · first
        | exact absurd c8 (by decide)
        | (refine J_blk a_X6_perhaps_21 ?_
           simp only [b_X6_perhaps_21, w_vret, kd_46, kd_47, kd_48, kd_49, kd_50, kd_51, kd_52, kd_53, kd_54, kd_55, kd_56, kd_57, kd_58, kd_59, ln_47, ln_48, ln_49, ln_50, ln_51, ln_52, ln_53, ln_54, ln_55, ln_56, ln_57, ln_58, ln_59, Option.toList_some, Option.toList_none, List.cons_append, List.nil_append, true_and, and_true, if_true, if_false, true_or, or_true, Nat.reduceAdd, Int.reduceAdd, Bool.false_eq_true, tn_0, tn_1, tn_2, tn_3, tn_4, tn_5, tn_6, tn_7, PM_11]
           first | exact ⟨rfl, rfl⟩ | (simp_all [Rt]))
    · first
        | exact absurd c8 (by decide)
        | (exact absurd rfl (by assumption))
theorem ndS_le {t : Nat → Nat} {L : Nat} {b : Bool} {st : Ps} (h : st.1 ≤ L) : (ndS t L b st).1 ≤ L := by
  unfold ndS
  split
  · exact (nx_le t h).1
  · exact h
theorem nuS_le {t : Nat → Nat} {L at_ : Nat} {most : Int32} {st : Ps} (h : st.1 ≤ L) : (nuS t L at_ most st).1 ≤ L := ndS_le h
theorem phS_le {t : Nat → Nat} {L at_ : Nat} {b : Bool} {most : Int32} {st : Ps} (h : st.1 ≤ L) : (phS t L b at_ most st).1 ≤ L := by
  unfold phS
  split
  · exact nuS_le (nx_le t h).1
  · exact h
def onS (t : Nat → Nat) (L n : Nat) (st : Ps) : Ps := if st.2.1 = false ∧ wdB t L st.1 [111, 110] = true then ((nuS t L (8 + 6 * n + 1) (nI (n + 1) - 2) (nx t L st.1, st.2)).1, (nuS t L (8 + 6 * n + 1) (nI (n + 1) - 2) (nx t L st.1, st.2)).2.1, upd (nuS t L (8 + 6 * n + 1) (nI (n + 1) - 2) (nx t L st.1, st.2)).2.2 (8 + 6 * n + 1) ((nuS t L (8 + 6 * n + 1) (nI (n + 1) - 2) (nx t L st.1, st.2)).2.2 (8 + 6 * n + 1) + bI (!(nuS t L (8 + 6 * n + 1) (nI (n + 1) - 2) (nx t L st.1, st.2)).2.1))) else st
def cuS (t : Nat → Nat) (L n : Nat) (st : Ps) : Ps := if st.2.1 = false ∧ wdB t L st.1 [99, 117, 116] = true then (nx t L st.1, st.2.1, upd st.2.2 (8 + 6 * n + 4) 1) else st
def bgS (t : Nat → Nat) (L n k : Nat) (st : Ps) : Ps := if (ndS t L (decide (n < 8)) st).2.1 = false then ((ndS t L (decide (n < 8)) st).1, false, upd (upd st.2.2 (8 + 6 * n) (nI k)) 0 (nI (n + 1))) else ndS t L (decide (n < 8)) st
def frS (t : Nat → Nat) (L n : Nat) (st : Ps) : Ps := phS t L (wdB t L st.1 [102, 111, 114, 99, 101]) (8 + 6 * n + 2) 9 st
def agS (t : Nat → Nat) (L n : Nat) (st : Ps) : Ps := phS t L (wdB t L st.1 [97, 103, 101]) (8 + 6 * n + 3) 99 st
def bhS (t : Nat → Nat) (L n k : Nat) (st : Ps) : Ps := cuS t L n (agS t L n (frS t L n (onS t L n (bgS t L n k st))))
theorem onS_le {t : Nat → Nat} {L n : Nat} {st : Ps} (h : st.1 ≤ L) : (onS t L n st).1 ≤ L := by
  unfold onS
  split
  · exact nuS_le (nx_le t h).1
  · exact h
theorem cuS_le {t : Nat → Nat} {L n : Nat} {st : Ps} (h : st.1 ≤ L) : (cuS t L n st).1 ≤ L := by
  unfold cuS
  split
  · exact (nx_le t h).1
  · exact h
theorem bgS_le {t : Nat → Nat} {L n k : Nat} {st : Ps} (h : st.1 ≤ L) : (bgS t L n k st).1 ≤ L := by
  unfold bgS
  split
  · exact ndS_le h
  · exact ndS_le h
theorem bhS_le {t : Nat → Nat} {L n k : Nat} {st : Ps} (h : st.1 ≤ L) : (bhS t L n k st).1 ≤ L := cuS_le (phS_le (phS_le (onS_le (bgS_le h))))
/-- once wrong, always wrong -/
theorem ndS_w {t : Nat → Nat} {L : Nat} {b : Bool} {st : Ps} (h : (ndS t L b st).2.1 = false) : st.2.1 = false := by
  unfold ndS at h
  split at h
  · next q => exact q.1
  · simp at h
theorem nuS_w {t : Nat → Nat} {L at_ : Nat} {most : Int32} {st : Ps} (h : (nuS t L at_ most st).2.1 = false) : st.2.1 = false := by
  unfold nuS at h
  have q := ndS_w h
  exact q
theorem phS_w {t : Nat → Nat} {L at_ : Nat} {b : Bool} {most : Int32} {st : Ps} (h : (phS t L b at_ most st).2.1 = false) : st.2.1 = false := by
  unfold phS at h
  split at h
  · exact nuS_w (st := (nx t L st.1, st.2)) h
  · exact h
theorem onS_w {t : Nat → Nat} {L n : Nat} {st : Ps} (h : (onS t L n st).2.1 = false) : st.2.1 = false := by
  unfold onS at h
  split at h
  · exact nuS_w (st := (nx t L st.1, st.2)) h
  · exact h
theorem bgS_w {t : Nat → Nat} {L n k : Nat} {st : Ps} (h : (bgS t L n k st).2.1 = false) : n < 8 ∧ st.2.1 = false := by
  unfold bgS at h
  split at h
  · next q =>
    refine ⟨?_, ndS_w q⟩
    unfold ndS at q
    split at q
    · next r => exact of_decide_eq_true r.2
    · simp at q
  · next q => exact absurd h q
theorem nm_wd2 {t : Nat → Nat} {L fr : Nat} (hb : ∀ i, t i < 256) (hfr : fr ≤ L) (a b : Nat) (ha : 97 ≤ a ∧ a ≤ 122) (hbb : b < 256) : (knd t L fr = 1 ∧ te t L fr - fr = 2 ∧ byI t L fr = nI a ∧ byI t L (fr + 1) = nI b) = (wdB t L fr [a, b] = true) := by
  have ht := te_le t hfr
  rw [by_eq hb (by omega), by_eq hb hbb]
  apply propext
  rw [wd_iff]
  show _ ↔ te t L fr = fr + 2 ∧ ∀ i, i < 2 → t (fr + i) = [a, b].getD i 0
  constructor
  · rintro ⟨h1, h2, h3, h4⟩
    refine ⟨by omega, fun i hi => ?_⟩
    match i, hi with
    | 0, _ => exact h3.2
    | 1, _ => exact h4.2
  · rintro ⟨h1, h2⟩
    have g0 := h2 0 (by omega)
    have g1 := h2 1 (by omega)
    have hlt := te_lt (t := t) (L := L) (fr := fr) (by omega)
    exact ⟨kn1 hlt (by rw [show t fr = a from g0]; exact ha), by omega, ⟨hlt, g0⟩, ⟨by omega, g1⟩⟩

