/-! the model: a branch, an item, the tree that is told -/
theorem branchHere_ok (t : Nat → Nat) (L n k : Nat) (M : Mm) (st : Ps) (h : TP M t L) (hfr : st.1 ≤ L) (h0 : st.2.2 0 = nI n) (hn : n ≤ 8) : K 5 mX6_branchHere [.ref 46, .int (nI k)] (PMs t L M st) (Rt none (PMs t L M (bhS t L n k st))) := by
  have hb := h.2.2.1
  have hL := h.2.1
  have t6 : ∀ s5 : Ps, s5.1 ≤ L → (s5.2.1 = false → n < 8) → J 5 mX6_branchHere 200 [some (.ref 46), some (.int (nI k)), some (.int (nI (8 + 6 * n)))] [] (PMs t L M s5) (Rt none (PMs t L M (cuS t L n s5))) := by
    intro s5 hs hw
    obtain ⟨fr, w, s⟩ := s5
    unfold cuS
    simp only
    have q := nm_wd3 hb hs 99 117 116 (by omega) (by omega) (by omega)
    cases w
    · have hn8 := hw rfl
      refine J_blk a_X6_branchHere_200 ?_
      simp only [b_X6_branchHere_200, w_aload_n0, w_getf6, w_if_ne, w_nil, kd_46, kd_47, kd_48, kd_49, kd_50, kd_51, kd_52, kd_53, kd_54, kd_55, kd_56, kd_57, kd_58, kd_59, ln_47, ln_48, ln_49, ln_50, ln_51, ln_52, ln_53, ln_54, ln_55, ln_56, ln_57, ln_58, ln_59, Option.toList_some, Option.toList_none, List.cons_append, List.nil_append, true_and, and_true, if_true, if_false, true_or, or_true, Nat.reduceAdd, Int.reduceAdd, Bool.false_eq_true, tn_0, tn_1, tn_2, tn_3, tn_4, tn_5, tn_6, tn_7, PM_11]
      refine ⟨fun c => absurd rfl c, fun _ => ?_⟩
      refine J_blk a_X6_branchHere_207 ?_
      simp only [b_X6_branchHere_207, w_aload_n0, w_iconst_3, w_bipush, ci_99, ci_117, ci_116, w_nil, kd_46, kd_47, kd_48, kd_49, kd_50, kd_51, kd_52, kd_53, kd_54, kd_55, kd_56, kd_57, kd_58, kd_59, ln_47, ln_48, ln_49, ln_50, ln_51, ln_52, ln_53, ln_54, ln_55, ln_56, ln_57, ln_58, ln_59, Option.toList_some, Option.toList_none, List.cons_append, List.nil_append, true_and, and_true, if_true, if_false, true_or, or_true, Nat.reduceAdd, Int.reduceAdd, Bool.false_eq_true, tn_0, tn_1, tn_2, tn_3, tn_4, tn_5, tn_6, tn_7]
      refine J_callVr (ci := 6) (isName_ok t L M _ 3 _ _ _ _ h hs (by omega)) k_X6_branchHere_217 o_X6_isName rfl rfl rfl rfl (by decide) rfl (Nat.le_of_ble_eq_true rfl) ?_
      rw [show nmB t L (fr, false, s).1 3 99 117 116 116 = wdB t L fr [99, 117, 116] from q]
      cases wdB t L fr [99, 117, 116]
      · rw [if_neg (by simp)]
        refine J_blk a_X6_branchHere_220 ?_
        simp only [b_X6_branchHere_220, w_if_eq, w_nil, kd_46, kd_47, kd_48, kd_49, kd_50, kd_51, kd_52, kd_53, kd_54, kd_55, kd_56, kd_57, kd_58, kd_59, ln_47, ln_48, ln_49, ln_50, ln_51, ln_52, ln_53, ln_54, ln_55, ln_56, ln_57, ln_58, ln_59, Option.toList_some, Option.toList_none, List.cons_append, List.nil_append, true_and, and_true, if_true, if_false, true_or, or_true, Nat.reduceAdd, Int.reduceAdd, Bool.false_eq_true, tn_0, tn_1, tn_2, tn_3, tn_4, tn_5, tn_6, tn_7]
        refine ⟨fun _ => ?_, fun c => absurd rfl c⟩
        refine J_blk a_X6_branchHere_236 ?_
        simp only [b_X6_branchHere_236, w_vret, kd_46, kd_47, kd_48, kd_49, kd_50, kd_51, kd_52, kd_53, kd_54, kd_55, kd_56, kd_57, kd_58, kd_59, ln_47, ln_48, ln_49, ln_50, ln_51, ln_52, ln_53, ln_54, ln_55, ln_56, ln_57, ln_58, ln_59, Option.toList_some, Option.toList_none, List.cons_append, List.nil_append, true_and, and_true, if_true, if_false, true_or, or_true, Nat.reduceAdd, Int.reduceAdd, Bool.false_eq_true, tn_0, tn_1, tn_2, tn_3, tn_4, tn_5, tn_6, tn_7]
        first | exact ⟨rfl, rfl⟩ | (simp_all [Rt])
      · rw [if_pos (by simp)]
        have t4 : (nI (8 + 6 * n + 4)).toNatClampNeg = 8 + 6 * n + 4 := nI_clamp (by omega)
        refine J_blk a_X6_branchHere_220 ?_
        simp only [b_X6_branchHere_220, w_if_eq, w_nil, kd_46, kd_47, kd_48, kd_49, kd_50, kd_51, kd_52, kd_53, kd_54, kd_55, kd_56, kd_57, kd_58, kd_59, ln_47, ln_48, ln_49, ln_50, ln_51, ln_52, ln_53, ln_54, ln_55, ln_56, ln_57, ln_58, ln_59, Option.toList_some, Option.toList_none, List.cons_append, List.nil_append, true_and, and_true, if_true, if_false, true_or, or_true, Nat.reduceAdd, Int.reduceAdd, Bool.false_eq_true, tn_0, tn_1, tn_2, tn_3, tn_4, tn_5, tn_6, tn_7]
        refine ⟨fun c => absurd c (by decide), fun _ => ?_⟩
        refine J_blk a_X6_branchHere_223 ?_
        simp only [b_X6_branchHere_223, w_aload_n0, w_getf6, ne0_1, w_iload_n2, w_iconst_4, w_iadd, w_iconst_1, w_iast, w_nil, kd_46, kd_47, kd_48, kd_49, kd_50, kd_51, kd_52, kd_53, kd_54, kd_55, kd_56, kd_57, kd_58, kd_59, ln_47, ln_48, ln_49, ln_50, ln_51, ln_52, ln_53, ln_54, ln_55, ln_56, ln_57, ln_58, ln_59, Option.toList_some, Option.toList_none, List.cons_append, List.nil_append, true_and, and_true, if_true, if_false, true_or, or_true, Nat.reduceAdd, Int.reduceAdd, Bool.false_eq_true, tn_0, tn_1, tn_2, tn_3, tn_4, tn_5, tn_6, tn_7, ad4, t4, PM_u47]
        refine ⟨vinN (by omega) (by decide), ?_⟩
        refine J_callVr (ci := 6) (ntok h hs) k_X6_branchHere_233 o_X6_nextToken rfl rfl rfl rfl (by decide) rfl (Nat.le_of_ble_eq_true rfl) ?_
        refine J_blk a_X6_branchHere_236 ?_
        simp only [b_X6_branchHere_236, w_vret, kd_46, kd_47, kd_48, kd_49, kd_50, kd_51, kd_52, kd_53, kd_54, kd_55, kd_56, kd_57, kd_58, kd_59, ln_47, ln_48, ln_49, ln_50, ln_51, ln_52, ln_53, ln_54, ln_55, ln_56, ln_57, ln_58, ln_59, Option.toList_some, Option.toList_none, List.cons_append, List.nil_append, true_and, and_true, if_true, if_false, true_or, or_true, Nat.reduceAdd, Int.reduceAdd, Bool.false_eq_true, tn_0, tn_1, tn_2, tn_3, tn_4, tn_5, tn_6, tn_7]
        first | exact ⟨rfl, rfl⟩ | (simp_all [Rt])
    · rw [if_neg (by simp)]
      refine J_blk a_X6_branchHere_200 ?_
      simp only [b_X6_branchHere_200, w_aload_n0, w_getf6, w_if_ne, w_nil, kd_46, kd_47, kd_48, kd_49, kd_50, kd_51, kd_52, kd_53, kd_54, kd_55, kd_56, kd_57, kd_58, kd_59, ln_47, ln_48, ln_49, ln_50, ln_51, ln_52, ln_53, ln_54, ln_55, ln_56, ln_57, ln_58, ln_59, Option.toList_some, Option.toList_none, List.cons_append, List.nil_append, true_and, and_true, if_true, if_false, true_or, or_true, Nat.reduceAdd, Int.reduceAdd, Bool.false_eq_true, tn_0, tn_1, tn_2, tn_3, tn_4, tn_5, tn_6, tn_7, PM_11]
      refine ⟨fun _ => ?_, fun c => absurd c (by decide)⟩
      refine J_blk a_X6_branchHere_236 ?_
      simp only [b_X6_branchHere_236, w_vret, kd_46, kd_47, kd_48, kd_49, kd_50, kd_51, kd_52, kd_53, kd_54, kd_55, kd_56, kd_57, kd_58, kd_59, ln_47, ln_48, ln_49, ln_50, ln_51, ln_52, ln_53, ln_54, ln_55, ln_56, ln_57, ln_58, ln_59, Option.toList_some, Option.toList_none, List.cons_append, List.nil_append, true_and, and_true, if_true, if_false, true_or, or_true, Nat.reduceAdd, Int.reduceAdd, Bool.false_eq_true, tn_0, tn_1, tn_2, tn_3, tn_4, tn_5, tn_6, tn_7]
      first | exact ⟨rfl, rfl⟩ | (simp_all [Rt])
  have t5 : ∀ s3 : Ps, s3.1 ≤ L → (s3.2.1 = false → n < 8) → J 5 mX6_branchHere 155 [some (.ref 46), some (.int (nI k)), some (.int (nI (8 + 6 * n)))] [] (PMs t L M s3) (Rt none (PMs t L M (cuS t L n (agS t L n (frS t L n s3))))) := by
    intro s3 hs hw
    have q1 := nm_wd5 hb hs 102 111 114 99 101 (by omega) (by omega) (by omega) (by omega) (by omega)
    have hs4 : (frS t L n s3).1 ≤ L := phS_le hs
    have hw4 : (frS t L n s3).2.1 = false → n < 8 := fun e => hw (phS_w e)
    have q2 := nm_wd3 hb hs4 97 103 101 (by omega) (by omega) (by omega)
    refine J_blk a_X6_branchHere_155 ?_
    simp only [b_X6_branchHere_155, w_aload_n0, w_bipush, ci_102, ci_111, ci_114, ci_99, ci_101, w_nil, kd_46, kd_47, kd_48, kd_49, kd_50, kd_51, kd_52, kd_53, kd_54, kd_55, kd_56, kd_57, kd_58, kd_59, ln_47, ln_48, ln_49, ln_50, ln_51, ln_52, ln_53, ln_54, ln_55, ln_56, ln_57, ln_58, ln_59, Option.toList_some, Option.toList_none, List.cons_append, List.nil_append, true_and, and_true, if_true, if_false, true_or, or_true, Nat.reduceAdd, Int.reduceAdd, Bool.false_eq_true, tn_0, tn_1, tn_2, tn_3, tn_4, tn_5, tn_6, tn_7]
    refine J_callVr (ci := 6) (isFive_ok t L M _ _ _ _ _ _ h hs) k_X6_branchHere_167 o_X6_isFive rfl rfl rfl rfl (by decide) rfl (Nat.le_of_ble_eq_true rfl) ?_
    rw [show (nmB t L s3.1 5 102 111 114 101 && decide (byI t L (s3.1 + 3) = 99)) = wdB t L s3.1 [102, 111, 114, 99, 101] from q1]
    refine J_blk a_X6_branchHere_170 ?_
    simp only [b_X6_branchHere_170, w_iload_n2, w_iconst_2, w_iadd, w_bipush, ci_9, w_nil, kd_46, kd_47, kd_48, kd_49, kd_50, kd_51, kd_52, kd_53, kd_54, kd_55, kd_56, kd_57, kd_58, kd_59, ln_47, ln_48, ln_49, ln_50, ln_51, ln_52, ln_53, ln_54, ln_55, ln_56, ln_57, ln_58, ln_59, Option.toList_some, Option.toList_none, List.cons_append, List.nil_append, true_and, and_true, if_true, if_false, true_or, or_true, Nat.reduceAdd, Int.reduceAdd, Bool.false_eq_true, tn_0, tn_1, tn_2, tn_3, tn_4, tn_5, tn_6, tn_7, ad2]
    refine J_callVr (ci := 6) (perhaps_ok t L M _ _ (8 + 6 * n + 2) _ h hs (fun e => by have := hw e; omega)) k_X6_branchHere_175 o_X6_perhaps rfl rfl rfl rfl (by decide) rfl (Nat.le_of_ble_eq_true rfl) ?_
    rw [show phS t L (wdB t L s3.1 [102, 111, 114, 99, 101]) (8 + 6 * n + 2) 9 s3 = frS t L n s3 from rfl]
    refine J_blk a_X6_branchHere_178 ?_
    simp only [b_X6_branchHere_178, w_aload_n0, w_iconst_3, w_bipush, ci_97, ci_103, ci_101, w_nil, kd_46, kd_47, kd_48, kd_49, kd_50, kd_51, kd_52, kd_53, kd_54, kd_55, kd_56, kd_57, kd_58, kd_59, ln_47, ln_48, ln_49, ln_50, ln_51, ln_52, ln_53, ln_54, ln_55, ln_56, ln_57, ln_58, ln_59, Option.toList_some, Option.toList_none, List.cons_append, List.nil_append, true_and, and_true, if_true, if_false, true_or, or_true, Nat.reduceAdd, Int.reduceAdd, Bool.false_eq_true, tn_0, tn_1, tn_2, tn_3, tn_4, tn_5, tn_6, tn_7]
    refine J_callVr (ci := 6) (isName_ok t L M _ 3 _ _ _ _ h hs4 (by omega)) k_X6_branchHere_189 o_X6_isName rfl rfl rfl rfl (by decide) rfl (Nat.le_of_ble_eq_true rfl) ?_
    rw [show nmB t L (frS t L n s3).1 3 97 103 101 101 = wdB t L (frS t L n s3).1 [97, 103, 101] from q2]
    refine J_blk a_X6_branchHere_192 ?_
    simp only [b_X6_branchHere_192, w_iload_n2, w_iconst_3, w_iadd, w_bipush, ci_99, w_nil, kd_46, kd_47, kd_48, kd_49, kd_50, kd_51, kd_52, kd_53, kd_54, kd_55, kd_56, kd_57, kd_58, kd_59, ln_47, ln_48, ln_49, ln_50, ln_51, ln_52, ln_53, ln_54, ln_55, ln_56, ln_57, ln_58, ln_59, Option.toList_some, Option.toList_none, List.cons_append, List.nil_append, true_and, and_true, if_true, if_false, true_or, or_true, Nat.reduceAdd, Int.reduceAdd, Bool.false_eq_true, tn_0, tn_1, tn_2, tn_3, tn_4, tn_5, tn_6, tn_7, ad3]
    refine J_callVr (ci := 6) (perhaps_ok t L M _ _ (8 + 6 * n + 3) _ h hs4 (fun e => by have := hw4 e; omega)) k_X6_branchHere_197 o_X6_perhaps rfl rfl rfl rfl (by decide) rfl (Nat.le_of_ble_eq_true rfl) ?_
    exact t6 _ (phS_le hs4) (fun e => hw4 (phS_w e))
  have t3 : ∀ s2 : Ps, s2.1 ≤ L → (s2.2.1 = false → n < 8 ∧ s2.2.2 0 = nI (n + 1)) → J 5 mX6_branchHere 57 [some (.ref 46), some (.int (nI k)), some (.int (nI (8 + 6 * n)))] [] (PMs t L M s2) (Rt none (PMs t L M (cuS t L n (agS t L n (frS t L n (onS t L n s2)))))) := by
    intro s2 hs hw
    have no : ¬ (s2.2.1 = false ∧ wdB t L s2.1 [111, 110] = true) → J 5 mX6_branchHere 155 [some (.ref 46), some (.int (nI k)), some (.int (nI (8 + 6 * n)))] [] (PMs t L M s2) (Rt none (PMs t L M (cuS t L n (agS t L n (frS t L n (onS t L n s2)))))) := by
      intro c
      have e : onS t L n s2 = s2 := by unfold onS; rw [if_neg c]
      rw [e]
      exact t5 s2 hs (fun e => (hw e).1)
    have yes : s2.2.1 = false → wdB t L s2.1 [111, 110] = true → J 5 mX6_branchHere 113 [some (.ref 46), some (.int (nI k)), some (.int (nI (8 + 6 * n)))] [] (PMs t L M s2) (Rt none (PMs t L M (cuS t L n (agS t L n (frS t L n (onS t L n s2)))))) := by
      intro e1 e2
      obtain ⟨hn8, h00⟩ := hw e1
      have g5 := t5 (onS t L n s2) (onS_le hs) (fun e => (hw (onS_w e)).1)
      have t1 : (nI (8 + 6 * n + 1)).toNatClampNeg = 8 + 6 * n + 1 := nI_clamp (by omega)
      have hx : (nx t L s2.1, s2.2).1 ≤ L := (nx_le t hs).1
      refine J_blk a_X6_branchHere_113 ?_
      simp only [b_X6_branchHere_113, w_aload_n0, w_nil, kd_46, kd_47, kd_48, kd_49, kd_50, kd_51, kd_52, kd_53, kd_54, kd_55, kd_56, kd_57, kd_58, kd_59, ln_47, ln_48, ln_49, ln_50, ln_51, ln_52, ln_53, ln_54, ln_55, ln_56, ln_57, ln_58, ln_59, Option.toList_some, Option.toList_none, List.cons_append, List.nil_append, true_and, and_true, if_true, if_false, true_or, or_true, Nat.reduceAdd, Int.reduceAdd, Bool.false_eq_true, tn_0, tn_1, tn_2, tn_3, tn_4, tn_5, tn_6, tn_7]
      refine J_callVr (ci := 6) (ntok h hs) k_X6_branchHere_114 o_X6_nextToken rfl rfl rfl rfl (by decide) rfl (Nat.le_of_ble_eq_true rfl) ?_
      refine J_blk a_X6_branchHere_117 ?_
      simp only [b_X6_branchHere_117, w_aload_n0, w_iload_n2, w_iconst_1, w_iadd, w_getf6, ne0_1, w_iconst_0, w_iald, w_iconst_2, w_isub, w_nil, kd_46, kd_47, kd_48, kd_49, kd_50, kd_51, kd_52, kd_53, kd_54, kd_55, kd_56, kd_57, kd_58, kd_59, ln_47, ln_48, ln_49, ln_50, ln_51, ln_52, ln_53, ln_54, ln_55, ln_56, ln_57, ln_58, ln_59, Option.toList_some, Option.toList_none, List.cons_append, List.nil_append, true_and, and_true, if_true, if_false, true_or, or_true, Nat.reduceAdd, Int.reduceAdd, Bool.false_eq_true, tn_0, tn_1, tn_2, tn_3, tn_4, tn_5, tn_6, tn_7, ad1, PM_47, h00]
      refine ⟨vlit (by decide), ?_⟩
      refine J_callVr (ci := 6) (numberTo_ok t L M _ (8 + 6 * n + 1) _ h hx (fun _ => by omega)) k_X6_branchHere_129 o_X6_numberTo rfl rfl rfl rfl (by decide) rfl (Nat.le_of_ble_eq_true rfl) ?_
      have eo : onS t L n s2 = ((nuS t L (8 + 6 * n + 1) (nI (n + 1) - 2) (nx t L s2.1, s2.2)).1, (nuS t L (8 + 6 * n + 1) (nI (n + 1) - 2) (nx t L s2.1, s2.2)).2.1, upd (nuS t L (8 + 6 * n + 1) (nI (n + 1) - 2) (nx t L s2.1, s2.2)).2.2 (8 + 6 * n + 1) ((nuS t L (8 + 6 * n + 1) (nI (n + 1) - 2) (nx t L s2.1, s2.2)).2.2 (8 + 6 * n + 1) + bI (!(nuS t L (8 + 6 * n + 1) (nI (n + 1) - 2) (nx t L s2.1, s2.2)).2.1))) := by
        unfold onS
        rw [if_pos ⟨e1, e2⟩]
      rw [eo] at g5 ⊢
      generalize nuS t L (8 + 6 * n + 1) (nI (n + 1) - 2) (nx t L s2.1, s2.2) = s3 at *
      refine J_blk a_X6_branchHere_132 ?_
      simp only [b_X6_branchHere_132, w_aload_n0, w_getf6, ne0_1, w_iload_n2, w_iconst_1, w_iadd, w_dup2_ia, w_iald, w_if_eq, w_nil, kd_46, kd_47, kd_48, kd_49, kd_50, kd_51, kd_52, kd_53, kd_54, kd_55, kd_56, kd_57, kd_58, kd_59, ln_47, ln_48, ln_49, ln_50, ln_51, ln_52, ln_53, ln_54, ln_55, ln_56, ln_57, ln_58, ln_59, Option.toList_some, Option.toList_none, List.cons_append, List.nil_append, true_and, and_true, if_true, if_false, true_or, or_true, Nat.reduceAdd, Int.reduceAdd, Bool.false_eq_true, tn_0, tn_1, tn_2, tn_3, tn_4, tn_5, tn_6, tn_7, ad1, t1, PM_47, PM_11]
      refine ⟨vinN (by omega) (by decide), fun c => ?_, fun c => ?_⟩
      · have : s3.2.1 = false := by cases hh : s3.2.1 <;> simp [hh, bI] at c ⊢
        rw [this] at g5 ⊢
        refine J_blk a_X6_branchHere_152 ?_
        simp only [b_X6_branchHere_152, w_iconst_1, w_nil, kd_46, kd_47, kd_48, kd_49, kd_50, kd_51, kd_52, kd_53, kd_54, kd_55, kd_56, kd_57, kd_58, kd_59, ln_47, ln_48, ln_49, ln_50, ln_51, ln_52, ln_53, ln_54, ln_55, ln_56, ln_57, ln_58, ln_59, Option.toList_some, Option.toList_none, List.cons_append, List.nil_append, true_and, and_true, if_true, if_false, true_or, or_true, Nat.reduceAdd, Int.reduceAdd, Bool.false_eq_true, tn_0, tn_1, tn_2, tn_3, tn_4, tn_5, tn_6, tn_7]
        refine J_blk a_X6_branchHere_153 ?_
        simp only [b_X6_branchHere_153, w_iadd, w_iast, w_nil, kd_46, kd_47, kd_48, kd_49, kd_50, kd_51, kd_52, kd_53, kd_54, kd_55, kd_56, kd_57, kd_58, kd_59, ln_47, ln_48, ln_49, ln_50, ln_51, ln_52, ln_53, ln_54, ln_55, ln_56, ln_57, ln_58, ln_59, Option.toList_some, Option.toList_none, List.cons_append, List.nil_append, true_and, and_true, if_true, if_false, true_or, or_true, Nat.reduceAdd, Int.reduceAdd, Bool.false_eq_true, tn_0, tn_1, tn_2, tn_3, tn_4, tn_5, tn_6, tn_7, t1, PM_u47]
        refine ⟨vinN (by omega) (by decide), ?_⟩
        rw [this]
        exact g5
      · have : s3.2.1 = true := by cases hh : s3.2.1 <;> simp [hh, bI] at c ⊢
        rw [this] at g5 ⊢
        refine J_blk a_X6_branchHere_148 ?_
        simp only [b_X6_branchHere_148, w_iconst_0, w_goto, kd_46, kd_47, kd_48, kd_49, kd_50, kd_51, kd_52, kd_53, kd_54, kd_55, kd_56, kd_57, kd_58, kd_59, ln_47, ln_48, ln_49, ln_50, ln_51, ln_52, ln_53, ln_54, ln_55, ln_56, ln_57, ln_58, ln_59, Option.toList_some, Option.toList_none, List.cons_append, List.nil_append, true_and, and_true, if_true, if_false, true_or, or_true, Nat.reduceAdd, Int.reduceAdd, Bool.false_eq_true, tn_0, tn_1, tn_2, tn_3, tn_4, tn_5, tn_6, tn_7]
        refine J_blk a_X6_branchHere_153 ?_
        simp only [b_X6_branchHere_153, w_iadd, w_iast, w_nil, kd_46, kd_47, kd_48, kd_49, kd_50, kd_51, kd_52, kd_53, kd_54, kd_55, kd_56, kd_57, kd_58, kd_59, ln_47, ln_48, ln_49, ln_50, ln_51, ln_52, ln_53, ln_54, ln_55, ln_56, ln_57, ln_58, ln_59, Option.toList_some, Option.toList_none, List.cons_append, List.nil_append, true_and, and_true, if_true, if_false, true_or, or_true, Nat.reduceAdd, Int.reduceAdd, Bool.false_eq_true, tn_0, tn_1, tn_2, tn_3, tn_4, tn_5, tn_6, tn_7, t1, PM_u47]
        refine ⟨vinN (by omega) (by decide), ?_⟩
        rw [this]
        exact g5
    have ht := te_le t hs
    have hk3 : knd t L s2.1 ≤ 3 := by unfold knd; split <;> (try split) <;> (try split) <;> omega
    have e1 : (nI (knd t L s2.1) = 1) = (knd t L s2.1 = 1) := propext (nI_eq (b := 1) (by omega) (by decide))
    have es : nI (te t L s2.1) - nI s2.1 = nI (te t L s2.1 - s2.1) := pk_sub ht.2
    have e2 : (nI (te t L s2.1 - s2.1) = 2) = (te t L s2.1 - s2.1 = 2) := propext (nI_eq (b := 2) (by omega) (by decide))
    have b0 := fun i hi => byteAt_ok t L i (PMs t L M s2) (PM_TP h) hi
    have q := nm_wd2 hb hs 111 110 (by omega) (by omega)
    have q1 : (knd t L s2.1 = 1 ∧ te t L s2.1 - s2.1 = 2 ∧ byI t L s2.1 = 111 ∧ byI t L (s2.1 + 1) = 110) = (wdB t L s2.1 [111, 110] = true) := q
    rw [← q1] at no yes
    by_cases hw0 : s2.2.1 = false
    · refine J_blk a_X6_branchHere_57 ?_
      simp only [b_X6_branchHere_57, w_aload_n0, w_getf6, w_if_ne, w_nil, kd_46, kd_47, kd_48, kd_49, kd_50, kd_51, kd_52, kd_53, kd_54, kd_55, kd_56, kd_57, kd_58, kd_59, ln_47, ln_48, ln_49, ln_50, ln_51, ln_52, ln_53, ln_54, ln_55, ln_56, ln_57, ln_58, ln_59, Option.toList_some, Option.toList_none, List.cons_append, List.nil_append, true_and, and_true, if_true, if_false, true_or, or_true, Nat.reduceAdd, Int.reduceAdd, Bool.false_eq_true, tn_0, tn_1, tn_2, tn_3, tn_4, tn_5, tn_6, tn_7, PM_11, hw0]
      refine ⟨fun c => absurd rfl c, fun _ => ?_⟩
      refine J_blk a_X6_branchHere_64 ?_
      simp only [b_X6_branchHere_64, w_aload_n0, w_getf6, w_iconst_1, w_icmp_ne, w_nil, kd_46, kd_47, kd_48, kd_49, kd_50, kd_51, kd_52, kd_53, kd_54, kd_55, kd_56, kd_57, kd_58, kd_59, ln_47, ln_48, ln_49, ln_50, ln_51, ln_52, ln_53, ln_54, ln_55, ln_56, ln_57, ln_58, ln_59, Option.toList_some, Option.toList_none, List.cons_append, List.nil_append, true_and, and_true, if_true, if_false, true_or, or_true, Nat.reduceAdd, Int.reduceAdd, Bool.false_eq_true, tn_0, tn_1, tn_2, tn_3, tn_4, tn_5, tn_6, tn_7, PM_7, PM_8, PM_9, e1, es, e2, ad1]
      refine ⟨fun c1 => ?_, fun c1 => ?_⟩
      · exact no (by grind)
      · refine J_blk a_X6_branchHere_72 ?_
        simp only [b_X6_branchHere_72, w_aload_n0, w_getf6, w_isub, w_iconst_2, w_icmp_ne, w_nil, kd_46, kd_47, kd_48, kd_49, kd_50, kd_51, kd_52, kd_53, kd_54, kd_55, kd_56, kd_57, kd_58, kd_59, ln_47, ln_48, ln_49, ln_50, ln_51, ln_52, ln_53, ln_54, ln_55, ln_56, ln_57, ln_58, ln_59, Option.toList_some, Option.toList_none, List.cons_append, List.nil_append, true_and, and_true, if_true, if_false, true_or, or_true, Nat.reduceAdd, Int.reduceAdd, Bool.false_eq_true, tn_0, tn_1, tn_2, tn_3, tn_4, tn_5, tn_6, tn_7, PM_7, PM_8, PM_9, e1, es, e2, ad1]
        refine ⟨fun c2 => ?_, fun c2 => ?_⟩
        · exact no (by grind)
        · refine J_blk a_X6_branchHere_85 ?_
          simp only [b_X6_branchHere_85, w_aload_n0, w_getf6, w_nil, kd_46, kd_47, kd_48, kd_49, kd_50, kd_51, kd_52, kd_53, kd_54, kd_55, kd_56, kd_57, kd_58, kd_59, ln_47, ln_48, ln_49, ln_50, ln_51, ln_52, ln_53, ln_54, ln_55, ln_56, ln_57, ln_58, ln_59, Option.toList_some, Option.toList_none, List.cons_append, List.nil_append, true_and, and_true, if_true, if_false, true_or, or_true, Nat.reduceAdd, Int.reduceAdd, Bool.false_eq_true, tn_0, tn_1, tn_2, tn_3, tn_4, tn_5, tn_6, tn_7, PM_7, PM_8, PM_9, e1, es, e2, ad1]
          refine J_callVr (ci := 6) (b0 _ (by omega)) k_X6_branchHere_90 o_X6_byteAt rfl rfl rfl rfl (by decide) rfl (Nat.le_of_ble_eq_true rfl) ?_
          refine J_blk a_X6_branchHere_93 ?_
          simp only [b_X6_branchHere_93, w_bipush, ci_111, w_icmp_ne, w_nil, kd_46, kd_47, kd_48, kd_49, kd_50, kd_51, kd_52, kd_53, kd_54, kd_55, kd_56, kd_57, kd_58, kd_59, ln_47, ln_48, ln_49, ln_50, ln_51, ln_52, ln_53, ln_54, ln_55, ln_56, ln_57, ln_58, ln_59, Option.toList_some, Option.toList_none, List.cons_append, List.nil_append, true_and, and_true, if_true, if_false, true_or, or_true, Nat.reduceAdd, Int.reduceAdd, Bool.false_eq_true, tn_0, tn_1, tn_2, tn_3, tn_4, tn_5, tn_6, tn_7, PM_7, PM_8, PM_9, e1, es, e2, ad1]
          refine ⟨fun c3 => ?_, fun c3 => ?_⟩
          · exact no (by grind)
          · refine J_blk a_X6_branchHere_98 ?_
            simp only [b_X6_branchHere_98, w_aload_n0, w_getf6, w_iconst_1, w_iadd, w_nil, kd_46, kd_47, kd_48, kd_49, kd_50, kd_51, kd_52, kd_53, kd_54, kd_55, kd_56, kd_57, kd_58, kd_59, ln_47, ln_48, ln_49, ln_50, ln_51, ln_52, ln_53, ln_54, ln_55, ln_56, ln_57, ln_58, ln_59, Option.toList_some, Option.toList_none, List.cons_append, List.nil_append, true_and, and_true, if_true, if_false, true_or, or_true, Nat.reduceAdd, Int.reduceAdd, Bool.false_eq_true, tn_0, tn_1, tn_2, tn_3, tn_4, tn_5, tn_6, tn_7, PM_7, PM_8, PM_9, e1, es, e2, ad1]
            refine J_callVr (ci := 6) (b0 _ (by omega)) k_X6_branchHere_105 o_X6_byteAt rfl rfl rfl rfl (by decide) rfl (Nat.le_of_ble_eq_true rfl) ?_
            refine J_blk a_X6_branchHere_108 ?_
            simp only [b_X6_branchHere_108, w_bipush, ci_110, w_icmp_ne, w_nil, kd_46, kd_47, kd_48, kd_49, kd_50, kd_51, kd_52, kd_53, kd_54, kd_55, kd_56, kd_57, kd_58, kd_59, ln_47, ln_48, ln_49, ln_50, ln_51, ln_52, ln_53, ln_54, ln_55, ln_56, ln_57, ln_58, ln_59, Option.toList_some, Option.toList_none, List.cons_append, List.nil_append, true_and, and_true, if_true, if_false, true_or, or_true, Nat.reduceAdd, Int.reduceAdd, Bool.false_eq_true, tn_0, tn_1, tn_2, tn_3, tn_4, tn_5, tn_6, tn_7, PM_7, PM_8, PM_9, e1, es, e2, ad1]
            refine ⟨fun c4 => ?_, fun c4 => ?_⟩
            · exact no (by grind)
            · exact yes hw0 (by grind)
    · have hw1 : s2.2.1 = true := by cases hh : s2.2.1 <;> simp_all
      refine J_blk a_X6_branchHere_57 ?_
      simp only [b_X6_branchHere_57, w_aload_n0, w_getf6, w_if_ne, w_nil, kd_46, kd_47, kd_48, kd_49, kd_50, kd_51, kd_52, kd_53, kd_54, kd_55, kd_56, kd_57, kd_58, kd_59, ln_47, ln_48, ln_49, ln_50, ln_51, ln_52, ln_53, ln_54, ln_55, ln_56, ln_57, ln_58, ln_59, Option.toList_some, Option.toList_none, List.cons_append, List.nil_append, true_and, and_true, if_true, if_false, true_or, or_true, Nat.reduceAdd, Int.reduceAdd, Bool.false_eq_true, tn_0, tn_1, tn_2, tn_3, tn_4, tn_5, tn_6, tn_7, PM_11, hw1]
      exact ⟨fun _ => no (fun q => hw0 q.1), fun c => absurd c (by decide)⟩
  have g2 := t3 (bgS t L n k st) (bgS_le hfr) (fun e => by
    refine ⟨(bgS_w e).1, ?_⟩
    unfold bgS at e ⊢
    split
    · simp [upd]
    · next c => rw [if_neg c] at e; exact absurd e c)
  have e8 : (8 ≤ nI n) = (8 ≤ n) := propext (nI_leI (a := 8) (by decide) (by omega))
  have nd : ∀ b : Bool, b = decide (n < 8) → J 5 mX6_branchHere 30 [some (.ref 46), some (.int (nI k)), some (.int (nI (8 + 6 * n)))] [.int (bI b), .ref 46] (PMs t L M st) (Rt none (PMs t L M (bhS t L n k st))) := by
    intro b hbb
    rw [show bhS t L n k st = cuS t L n (agS t L n (frS t L n (onS t L n (bgS t L n k st)))) from rfl]
    refine J_callVr (ci := 6) (needs_ok t L M st b h hfr) k_X6_branchHere_30 o_X6_needs rfl rfl rfl rfl (by decide) rfl (Nat.le_of_ble_eq_true rfl) ?_
    rw [hbb]
    by_cases hw : (ndS t L (decide (n < 8)) st).2.1 = false
    · have hn8 : n < 8 := by
        unfold ndS at hw
        split at hw
        · next q => exact of_decide_eq_true q.2
        · simp at hw
      have eb : bgS t L n k st = ((ndS t L (decide (n < 8)) st).1, false, upd (upd st.2.2 (8 + 6 * n) (nI k)) 0 (nI (n + 1))) := by unfold bgS; rw [if_pos hw]
      have e22 : (ndS t L (decide (n < 8)) st).2.2 = st.2.2 := by unfold ndS; split <;> rfl
      have ta : (nI (8 + 6 * n)).toNatClampNeg = 8 + 6 * n := nI_clamp (by omega)
      have eu : upd st.2.2 (8 + 6 * n) (nI k) 0 = nI n := by rw [pk_un (by omega)]; exact h0
      refine J_blk a_X6_branchHere_33 ?_
      simp only [b_X6_branchHere_33, w_aload_n0, w_getf6, w_if_ne, w_nil, kd_46, kd_47, kd_48, kd_49, kd_50, kd_51, kd_52, kd_53, kd_54, kd_55, kd_56, kd_57, kd_58, kd_59, ln_47, ln_48, ln_49, ln_50, ln_51, ln_52, ln_53, ln_54, ln_55, ln_56, ln_57, ln_58, ln_59, Option.toList_some, Option.toList_none, List.cons_append, List.nil_append, true_and, and_true, if_true, if_false, true_or, or_true, Nat.reduceAdd, Int.reduceAdd, Bool.false_eq_true, tn_0, tn_1, tn_2, tn_3, tn_4, tn_5, tn_6, tn_7, PM_11, hw]
      refine ⟨fun c => absurd rfl c, fun _ => ?_⟩
      refine J_blk a_X6_branchHere_40 ?_
      simp only [b_X6_branchHere_40, w_aload_n0, w_getf6, ne0_1, w_iload_n2, w_iload_n1, w_iast, w_iconst_0, w_dup2_ia, w_iald, w_iconst_1, w_iadd, w_nil, kd_46, kd_47, kd_48, kd_49, kd_50, kd_51, kd_52, kd_53, kd_54, kd_55, kd_56, kd_57, kd_58, kd_59, ln_47, ln_48, ln_49, ln_50, ln_51, ln_52, ln_53, ln_54, ln_55, ln_56, ln_57, ln_58, ln_59, Option.toList_some, Option.toList_none, List.cons_append, List.nil_append, true_and, and_true, if_true, if_false, true_or, or_true, Nat.reduceAdd, Int.reduceAdd, Bool.false_eq_true, tn_0, tn_1, tn_2, tn_3, tn_4, tn_5, tn_6, tn_7, ta, PM_u47, PM_47, e22, eu, nI_1]
      refine ⟨vinN (by omega) (by decide), vlit (by decide), vlit (by decide), ?_⟩
      rw [eb] at g2 ⊢
      rw [hw]
      exact g2
    · have hw1 : (ndS t L (decide (n < 8)) st).2.1 = true := by cases hh : (ndS t L (decide (n < 8)) st).2.1 <;> simp_all
      have eb : bgS t L n k st = ndS t L (decide (n < 8)) st := by unfold bgS; rw [if_neg hw]
      refine J_blk a_X6_branchHere_33 ?_
      simp only [b_X6_branchHere_33, w_aload_n0, w_getf6, w_if_ne, w_nil, kd_46, kd_47, kd_48, kd_49, kd_50, kd_51, kd_52, kd_53, kd_54, kd_55, kd_56, kd_57, kd_58, kd_59, ln_47, ln_48, ln_49, ln_50, ln_51, ln_52, ln_53, ln_54, ln_55, ln_56, ln_57, ln_58, ln_59, Option.toList_some, Option.toList_none, List.cons_append, List.nil_append, true_and, and_true, if_true, if_false, true_or, or_true, Nat.reduceAdd, Int.reduceAdd, Bool.false_eq_true, tn_0, tn_1, tn_2, tn_3, tn_4, tn_5, tn_6, tn_7, PM_11, hw1]
      refine ⟨fun _ => ?_, fun c => absurd c (by decide)⟩
      rw [eb] at g2 ⊢
      exact g2
  have n1 := nd true
  have n0 := nd false
  refine K_go 1 o_X6_branchHere [none] rfl (Nat.le_of_ble_eq_true rfl) ?_
  simp only [lvA_i, lvA_a, lvA_l, lvA_nil, List.cons_append, List.nil_append]
  refine J_blk a_X6_branchHere_0 ?_
  simp only [b_X6_branchHere_0, w_bipush, ci_8, ci_6, w_aload_n0, w_getf6, ne0_1, w_iconst_0, w_iald, w_imul, w_iadd, w_istore2, nl_2n, nl_2i, nl_2a, w_icmp_ge, w_nil, kd_46, kd_47, kd_48, kd_49, kd_50, kd_51, kd_52, kd_53, kd_54, kd_55, kd_56, kd_57, kd_58, kd_59, ln_47, ln_48, ln_49, ln_50, ln_51, ln_52, ln_53, ln_54, ln_55, ln_56, ln_57, ln_58, ln_59, Option.toList_some, Option.toList_none, List.cons_append, List.nil_append, true_and, and_true, if_true, if_false, true_or, or_true, Nat.reduceAdd, Int.reduceAdd, Bool.false_eq_true, tn_0, tn_1, tn_2, tn_3, tn_4, tn_5, tn_6, tn_7, PM_47, h0, ix0, e8]
  refine ⟨vlit (by decide), vlit (by decide), fun c => ?_, fun c => ?_⟩
  · refine J_blk a_X6_branchHere_29 ?_
    simp only [b_X6_branchHere_29, w_iconst_0, w_nil, kd_46, kd_47, kd_48, kd_49, kd_50, kd_51, kd_52, kd_53, kd_54, kd_55, kd_56, kd_57, kd_58, kd_59, ln_47, ln_48, ln_49, ln_50, ln_51, ln_52, ln_53, ln_54, ln_55, ln_56, ln_57, ln_58, ln_59, Option.toList_some, Option.toList_none, List.cons_append, List.nil_append, true_and, and_true, if_true, if_false, true_or, or_true, Nat.reduceAdd, Int.reduceAdd, Bool.false_eq_true, tn_0, tn_1, tn_2, tn_3, tn_4, tn_5, tn_6, tn_7]
    exact n0 (decide_eq_false (by omega)).symm
  · refine J_blk a_X6_branchHere_25 ?_
    simp only [b_X6_branchHere_25, w_iconst_1, w_goto, kd_46, kd_47, kd_48, kd_49, kd_50, kd_51, kd_52, kd_53, kd_54, kd_55, kd_56, kd_57, kd_58, kd_59, ln_47, ln_48, ln_49, ln_50, ln_51, ln_52, ln_53, ln_54, ln_55, ln_56, ln_57, ln_58, ln_59, Option.toList_some, Option.toList_none, List.cons_append, List.nil_append, true_and, and_true, if_true, if_false, true_or, or_true, Nat.reduceAdd, Int.reduceAdd, Bool.false_eq_true, tn_0, tn_1, tn_2, tn_3, tn_4, tn_5, tn_6, tn_7]
    exact n1 (decide_eq_true (by omega)).symm
def itS (t : Nat → Nat) (L n : Nat) (st : Ps) : Ps := ndS t L (wdB t L (if 0 ≤ kdH t L st.1 then bhS t L n (kdH t L st.1).toNatClampNeg st else if 0 ≤ laH t L st.1 then nuS t L (laH t L st.1).toNatClampNeg (if laH t L st.1 = 7 then 99 else 9) (nx t L st.1, st.2) else ndS t L false st).1 [59]) (if 0 ≤ kdH t L st.1 then bhS t L n (kdH t L st.1).toNatClampNeg st else if 0 ≤ laH t L st.1 then nuS t L (laH t L st.1).toNatClampNeg (if laH t L st.1 = 7 then 99 else 9) (nx t L st.1, st.2) else ndS t L false st)
theorem kdH_rng (t : Nat → Nat) (L fr : Nat) (h : 0 ≤ kdH t L fr) : ∃ k, k ≤ 5 ∧ kdH t L fr = nI k := by
  unfold kdH at h ⊢
  (split <;> (try split) <;> (try split) <;> (try split) <;> (try split) <;> (try split)) <;> first | exact ⟨0, by omega, rfl⟩ | exact ⟨1, by omega, rfl⟩ | exact ⟨2, by omega, rfl⟩ | exact ⟨3, by omega, rfl⟩ | exact ⟨4, by omega, rfl⟩ | exact ⟨5, by omega, rfl⟩ | simp_all
theorem laH_rng (t : Nat → Nat) (L fr : Nat) (h : 0 ≤ laH t L fr) : ∃ k, 4 ≤ k ∧ k ≤ 7 ∧ laH t L fr = nI k := by
  unfold laH at h ⊢
  (split <;> (try split) <;> (try split) <;> (try split)) <;> first | exact ⟨4, by omega, by omega, rfl⟩ | exact ⟨5, by omega, by omega, rfl⟩ | exact ⟨6, by omega, by omega, rfl⟩ | exact ⟨7, by omega, by omega, rfl⟩ | simp_all
theorem nm_wd1 {t : Nat → Nat} {L fr : Nat} (hb : ∀ i, t i < 256) : (knd t L fr = 3 ∧ byI t L fr = 59) = (wdB t L fr [59] = true) := by
  rw [show byI t L fr = 59 ↔ (fr < L ∧ t fr = 59) from by rw [show (59 : Int32) = nI 59 from rfl, by_eq hb (by omega)]]
  apply propext
  rw [wd_iff]
  show _ ↔ te t L fr = fr + 1 ∧ ∀ i, i < 1 → t (fr + i) = [59].getD i 0
  constructor
  · rintro ⟨h1, h2, h3⟩
    have a1 : ¬ alB (t fr) = true := by rw [h3]; decide
    have a2 : ¬ dgB (t fr) = true := by rw [h3]; decide
    refine ⟨by unfold te; rw [if_pos h2, if_neg a1, if_neg a2], fun i hi => ?_⟩
    match i, hi with
    | 0, _ => exact h3
  · rintro ⟨h1, h2⟩
    have g0 : t fr = 59 := h2 0 (by omega)
    have hlt := te_lt (t := t) (L := L) (fr := fr) (by omega)
    have a1 : ¬ alB (t fr) = true := by rw [g0]; decide
    have a2 : ¬ dgB (t fr) = true := by rw [g0]; decide
    exact ⟨by unfold knd; rw [if_pos hlt, if_neg a1, if_neg a2], hlt, g0⟩
theorem itemHere_ok (t : Nat → Nat) (L n : Nat) (M : Mm) (st : Ps) (h : TP M t L) (hfr : st.1 ≤ L) (h0 : st.2.2 0 = nI n) (hn : n ≤ 8) : K 6 mX6_itemHere [.ref 46] (PMs t L M st) (Rt none (PMs t L M (itS t L n st))) := by
  have hb := h.2.2.1
  have hL := h.2.1
  have last : ∀ (mid : Ps) (a b : Int32), mid.1 ≤ L → J 6 mX6_itemHere 56 [some (.ref 46), some (.int a), some (.int b)] [] (PMs t L M mid) (Rt none (PMs t L M (ndS t L (wdB t L mid.1 [59]) mid))) := by
    intro mid a b hm
    have q := nm_wd1 (t := t) (L := L) (fr := mid.1) hb
    have hk3 : knd t L mid.1 ≤ 3 := by unfold knd; split <;> (try split) <;> (try split) <;> omega
    have e3 : (nI (knd t L mid.1) = 3) = (knd t L mid.1 = 3) := propext (nI_eq (b := 3) (by omega) (by decide))
    have fin : ∀ b' : Bool, b' = wdB t L mid.1 [59] → J 6 mX6_itemHere 83 [some (.ref 46), some (.int a), some (.int b)] [.int (bI b'), .ref 46] (PMs t L M mid) (Rt none (PMs t L M (ndS t L (wdB t L mid.1 [59]) mid))) := by
      intro b' hb'
      rw [← hb']
      refine J_callVr (ci := 6) (needs_ok t L M _ _ h hm) k_X6_itemHere_83 o_X6_needs rfl rfl rfl rfl (by decide) rfl (Nat.le_of_ble_eq_true rfl) ?_
      refine J_blk a_X6_itemHere_86 ?_
      simp only [b_X6_itemHere_86, w_vret, kd_46, kd_47, kd_48, kd_49, kd_50, kd_51, kd_52, kd_53, kd_54, kd_55, kd_56, kd_57, kd_58, kd_59, ln_47, ln_48, ln_49, ln_50, ln_51, ln_52, ln_53, ln_54, ln_55, ln_56, ln_57, ln_58, ln_59, Option.toList_some, Option.toList_none, List.cons_append, List.nil_append, true_and, and_true, if_true, if_false, true_or, or_true, Nat.reduceAdd, Int.reduceAdd, Bool.false_eq_true, tn_0, tn_1, tn_2, tn_3, tn_4, tn_5, tn_6, tn_7]
      first | exact ⟨rfl, rfl⟩ | (simp_all [Rt])
    have f1 := fin true
    have f0 := fin false
    have b0 := fun i hi => byteAt_ok t L i (PMs t L M mid) (PM_TP h) hi
    refine J_blk a_X6_itemHere_56 ?_
    simp only [b_X6_itemHere_56, w_aload_n0, w_getf6, w_iconst_3, w_icmp_ne, w_nil, kd_46, kd_47, kd_48, kd_49, kd_50, kd_51, kd_52, kd_53, kd_54, kd_55, kd_56, kd_57, kd_58, kd_59, ln_47, ln_48, ln_49, ln_50, ln_51, ln_52, ln_53, ln_54, ln_55, ln_56, ln_57, ln_58, ln_59, Option.toList_some, Option.toList_none, List.cons_append, List.nil_append, true_and, and_true, if_true, if_false, true_or, or_true, Nat.reduceAdd, Int.reduceAdd, Bool.false_eq_true, tn_0, tn_1, tn_2, tn_3, tn_4, tn_5, tn_6, tn_7, PM_7, PM_8, e3]
    refine ⟨fun c5 => ?_, fun c5 => ?_⟩
    · refine J_blk a_X6_itemHere_82 ?_
      simp only [b_X6_itemHere_82, w_iconst_0, w_nil, kd_46, kd_47, kd_48, kd_49, kd_50, kd_51, kd_52, kd_53, kd_54, kd_55, kd_56, kd_57, kd_58, kd_59, ln_47, ln_48, ln_49, ln_50, ln_51, ln_52, ln_53, ln_54, ln_55, ln_56, ln_57, ln_58, ln_59, Option.toList_some, Option.toList_none, List.cons_append, List.nil_append, true_and, and_true, if_true, if_false, true_or, or_true, Nat.reduceAdd, Int.reduceAdd, Bool.false_eq_true, tn_0, tn_1, tn_2, tn_3, tn_4, tn_5, tn_6, tn_7, PM_7, PM_8, e3]
      first | exact f1 (by rw [eq_comm]; rw [← q]; exact ⟨by assumption, by assumption⟩) | exact f0 (by rw [eq_comm, ← Bool.not_eq_true, ← q]; first | exact fun g => (by assumption : ¬ knd t L mid.1 = 3) g.1 | exact fun g => (by assumption : ¬ byI t L mid.1 = 59) g.2)
    · refine J_blk a_X6_itemHere_65 ?_
      simp only [b_X6_itemHere_65, w_aload_n0, w_getf6, w_nil, kd_46, kd_47, kd_48, kd_49, kd_50, kd_51, kd_52, kd_53, kd_54, kd_55, kd_56, kd_57, kd_58, kd_59, ln_47, ln_48, ln_49, ln_50, ln_51, ln_52, ln_53, ln_54, ln_55, ln_56, ln_57, ln_58, ln_59, Option.toList_some, Option.toList_none, List.cons_append, List.nil_append, true_and, and_true, if_true, if_false, true_or, or_true, Nat.reduceAdd, Int.reduceAdd, Bool.false_eq_true, tn_0, tn_1, tn_2, tn_3, tn_4, tn_5, tn_6, tn_7, PM_7, PM_8, e3]
      refine J_callVr (ci := 6) (b0 _ (by omega)) k_X6_itemHere_70 o_X6_byteAt rfl rfl rfl rfl (by decide) rfl (Nat.le_of_ble_eq_true rfl) ?_
      refine J_blk a_X6_itemHere_73 ?_
      simp only [b_X6_itemHere_73, w_bipush, ci_59, w_icmp_ne, w_nil, kd_46, kd_47, kd_48, kd_49, kd_50, kd_51, kd_52, kd_53, kd_54, kd_55, kd_56, kd_57, kd_58, kd_59, ln_47, ln_48, ln_49, ln_50, ln_51, ln_52, ln_53, ln_54, ln_55, ln_56, ln_57, ln_58, ln_59, Option.toList_some, Option.toList_none, List.cons_append, List.nil_append, true_and, and_true, if_true, if_false, true_or, or_true, Nat.reduceAdd, Int.reduceAdd, Bool.false_eq_true, tn_0, tn_1, tn_2, tn_3, tn_4, tn_5, tn_6, tn_7, PM_7, PM_8, e3]
      refine ⟨fun c6 => ?_, fun c6 => ?_⟩
      · refine J_blk a_X6_itemHere_82 ?_
        simp only [b_X6_itemHere_82, w_iconst_0, w_nil, kd_46, kd_47, kd_48, kd_49, kd_50, kd_51, kd_52, kd_53, kd_54, kd_55, kd_56, kd_57, kd_58, kd_59, ln_47, ln_48, ln_49, ln_50, ln_51, ln_52, ln_53, ln_54, ln_55, ln_56, ln_57, ln_58, ln_59, Option.toList_some, Option.toList_none, List.cons_append, List.nil_append, true_and, and_true, if_true, if_false, true_or, or_true, Nat.reduceAdd, Int.reduceAdd, Bool.false_eq_true, tn_0, tn_1, tn_2, tn_3, tn_4, tn_5, tn_6, tn_7, PM_7, PM_8, e3]
        first | exact f1 (by rw [eq_comm]; rw [← q]; exact ⟨by assumption, by assumption⟩) | exact f0 (by rw [eq_comm, ← Bool.not_eq_true, ← q]; first | exact fun g => (by assumption : ¬ knd t L mid.1 = 3) g.1 | exact fun g => (by assumption : ¬ byI t L mid.1 = 59) g.2)
      · refine J_blk a_X6_itemHere_78 ?_
        simp only [b_X6_itemHere_78, w_iconst_1, w_goto, kd_46, kd_47, kd_48, kd_49, kd_50, kd_51, kd_52, kd_53, kd_54, kd_55, kd_56, kd_57, kd_58, kd_59, ln_47, ln_48, ln_49, ln_50, ln_51, ln_52, ln_53, ln_54, ln_55, ln_56, ln_57, ln_58, ln_59, Option.toList_some, Option.toList_none, List.cons_append, List.nil_append, true_and, and_true, if_true, if_false, true_or, or_true, Nat.reduceAdd, Int.reduceAdd, Bool.false_eq_true, tn_0, tn_1, tn_2, tn_3, tn_4, tn_5, tn_6, tn_7, PM_7, PM_8, e3]
        first | exact f1 (by rw [eq_comm]; rw [← q]; exact ⟨by assumption, by assumption⟩) | exact f0 (by rw [eq_comm, ← Bool.not_eq_true, ← q]; first | exact fun g => (by assumption : ¬ knd t L mid.1 = 3) g.1 | exact fun g => (by assumption : ¬ byI t L mid.1 = 59) g.2)
  unfold itS
  refine K_go 0 o_X6_itemHere [none, none] rfl (Nat.le_of_ble_eq_true rfl) ?_
  simp only [lvA_i, lvA_a, lvA_l, lvA_nil, List.cons_append, List.nil_append]
  refine J_blk a_X6_itemHere_0 ?_
  simp only [b_X6_itemHere_0, w_aload_n0, w_nil, kd_46, kd_47, kd_48, kd_49, kd_50, kd_51, kd_52, kd_53, kd_54, kd_55, kd_56, kd_57, kd_58, kd_59, ln_47, ln_48, ln_49, ln_50, ln_51, ln_52, ln_53, ln_54, ln_55, ln_56, ln_57, ln_58, ln_59, Option.toList_some, Option.toList_none, List.cons_append, List.nil_append, true_and, and_true, if_true, if_false, true_or, or_true, Nat.reduceAdd, Int.reduceAdd, Bool.false_eq_true, tn_0, tn_1, tn_2, tn_3, tn_4, tn_5, tn_6, tn_7]
  refine J_callVr (ci := 6) (kindHere_ok t L M st h hfr) k_X6_itemHere_1 o_X6_kindHere rfl rfl rfl rfl (by decide) rfl (Nat.le_of_ble_eq_true rfl) ?_
  refine J_blk a_X6_itemHere_4 ?_
  simp only [b_X6_itemHere_4, w_istore1, nl_1n, nl_1i, nl_1a, w_aload_n0, w_nil, kd_46, kd_47, kd_48, kd_49, kd_50, kd_51, kd_52, kd_53, kd_54, kd_55, kd_56, kd_57, kd_58, kd_59, ln_47, ln_48, ln_49, ln_50, ln_51, ln_52, ln_53, ln_54, ln_55, ln_56, ln_57, ln_58, ln_59, Option.toList_some, Option.toList_none, List.cons_append, List.nil_append, true_and, and_true, if_true, if_false, true_or, or_true, Nat.reduceAdd, Int.reduceAdd, Bool.false_eq_true, tn_0, tn_1, tn_2, tn_3, tn_4, tn_5, tn_6, tn_7]
  refine J_callVr (ci := 6) (lawHere_ok t L M st h hfr) k_X6_itemHere_6 o_X6_lawHere rfl rfl rfl rfl (by decide) rfl (Nat.le_of_ble_eq_true rfl) ?_
  refine J_blk a_X6_itemHere_9 ?_
  simp only [b_X6_itemHere_9, w_istore2, nl_2n, nl_2i, nl_2a, w_iload_n1, w_if_lt, w_nil, kd_46, kd_47, kd_48, kd_49, kd_50, kd_51, kd_52, kd_53, kd_54, kd_55, kd_56, kd_57, kd_58, kd_59, ln_47, ln_48, ln_49, ln_50, ln_51, ln_52, ln_53, ln_54, ln_55, ln_56, ln_57, ln_58, ln_59, Option.toList_some, Option.toList_none, List.cons_append, List.nil_append, true_and, and_true, if_true, if_false, true_or, or_true, Nat.reduceAdd, Int.reduceAdd, Bool.false_eq_true, tn_0, tn_1, tn_2, tn_3, tn_4, tn_5, tn_6, tn_7]
  refine ⟨fun c => ?_, fun c => ?_⟩
  · have c' : ¬ 0 ≤ kdH t L st.1 := Int32.not_le.mpr c
    simp only [if_neg c']
    refine J_blk a_X6_itemHere_22 ?_
    simp only [b_X6_itemHere_22, w_iload_n2, w_if_lt, w_nil, kd_46, kd_47, kd_48, kd_49, kd_50, kd_51, kd_52, kd_53, kd_54, kd_55, kd_56, kd_57, kd_58, kd_59, ln_47, ln_48, ln_49, ln_50, ln_51, ln_52, ln_53, ln_54, ln_55, ln_56, ln_57, ln_58, ln_59, Option.toList_some, Option.toList_none, List.cons_append, List.nil_append, true_and, and_true, if_true, if_false, true_or, or_true, Nat.reduceAdd, Int.reduceAdd, Bool.false_eq_true, tn_0, tn_1, tn_2, tn_3, tn_4, tn_5, tn_6, tn_7]
    refine ⟨fun d => ?_, fun d => ?_⟩
    · have d' : ¬ 0 ≤ laH t L st.1 := Int32.not_le.mpr d
      simp only [if_neg d']
      refine J_blk a_X6_itemHere_51 ?_
      simp only [b_X6_itemHere_51, w_aload_n0, w_iconst_0, w_nil, kd_46, kd_47, kd_48, kd_49, kd_50, kd_51, kd_52, kd_53, kd_54, kd_55, kd_56, kd_57, kd_58, kd_59, ln_47, ln_48, ln_49, ln_50, ln_51, ln_52, ln_53, ln_54, ln_55, ln_56, ln_57, ln_58, ln_59, Option.toList_some, Option.toList_none, List.cons_append, List.nil_append, true_and, and_true, if_true, if_false, true_or, or_true, Nat.reduceAdd, Int.reduceAdd, Bool.false_eq_true, tn_0, tn_1, tn_2, tn_3, tn_4, tn_5, tn_6, tn_7]
      refine J_callVr (ci := 6) (needs_ok t L M st false h hfr) k_X6_itemHere_53 o_X6_needs rfl rfl rfl rfl (by decide) rfl (Nat.le_of_ble_eq_true rfl) ?_
      exact last _ _ _ (ndS_le hfr)
    · have d' : 0 ≤ laH t L st.1 := Int32.not_lt.mp d
      simp only [if_pos d']
      obtain ⟨a, ha, ha2, ea⟩ := laH_rng t L st.1 d'
      have hx : (nx t L st.1, st.2).1 ≤ L := (nx_le t hfr).1
      have e7 : (nI a = 7) = (a = 7) := propext (nI_eq (b := 7) (by omega) (by decide))
      rw [ea, nI_clamp (show a < 2 ^ 31 by omega)]
      simp only [e7]
      have go : ∀ m : Int32, m = (if a = 7 then 99 else 9) → J 6 mX6_itemHere 45 [some (.ref 46), some (.int (kdH t L st.1)), some (.int (nI a))] [.int m, .int (nI a), .ref 46] (PMs t L M (nx t L st.1, st.2)) (Rt none (PMs t L M (ndS t L (wdB t L (nuS t L a (if a = 7 then 99 else 9) (nx t L st.1, st.2)).1 [59]) (nuS t L a (if a = 7 then 99 else 9) (nx t L st.1, st.2))))) := by
        intro m hm
        rw [← hm]
        refine J_callVr (ci := 6) (numberTo_ok t L M _ a m h hx (fun _ => by omega)) k_X6_itemHere_45 o_X6_numberTo rfl rfl rfl rfl (by decide) rfl (Nat.le_of_ble_eq_true rfl) ?_
        refine J_blk a_X6_itemHere_48 ?_
        simp only [b_X6_itemHere_48, w_goto, kd_46, kd_47, kd_48, kd_49, kd_50, kd_51, kd_52, kd_53, kd_54, kd_55, kd_56, kd_57, kd_58, kd_59, ln_47, ln_48, ln_49, ln_50, ln_51, ln_52, ln_53, ln_54, ln_55, ln_56, ln_57, ln_58, ln_59, Option.toList_some, Option.toList_none, List.cons_append, List.nil_append, true_and, and_true, if_true, if_false, true_or, or_true, Nat.reduceAdd, Int.reduceAdd, Bool.false_eq_true, tn_0, tn_1, tn_2, tn_3, tn_4, tn_5, tn_6, tn_7]
        exact last _ _ _ (nuS_le hx)
      refine J_blk a_X6_itemHere_26 ?_
      simp only [b_X6_itemHere_26, w_aload_n0, w_nil, kd_46, kd_47, kd_48, kd_49, kd_50, kd_51, kd_52, kd_53, kd_54, kd_55, kd_56, kd_57, kd_58, kd_59, ln_47, ln_48, ln_49, ln_50, ln_51, ln_52, ln_53, ln_54, ln_55, ln_56, ln_57, ln_58, ln_59, Option.toList_some, Option.toList_none, List.cons_append, List.nil_append, true_and, and_true, if_true, if_false, true_or, or_true, Nat.reduceAdd, Int.reduceAdd, Bool.false_eq_true, tn_0, tn_1, tn_2, tn_3, tn_4, tn_5, tn_6, tn_7]
      refine J_callVr (ci := 6) (ntok h hfr) k_X6_itemHere_27 o_X6_nextToken rfl rfl rfl rfl (by decide) rfl (Nat.le_of_ble_eq_true rfl) ?_
      refine J_blk a_X6_itemHere_30 ?_
      simp only [b_X6_itemHere_30, w_aload_n0, w_iload_n2, w_bipush, ci_7, w_icmp_ne, w_nil, kd_46, kd_47, kd_48, kd_49, kd_50, kd_51, kd_52, kd_53, kd_54, kd_55, kd_56, kd_57, kd_58, kd_59, ln_47, ln_48, ln_49, ln_50, ln_51, ln_52, ln_53, ln_54, ln_55, ln_56, ln_57, ln_58, ln_59, Option.toList_some, Option.toList_none, List.cons_append, List.nil_append, true_and, and_true, if_true, if_false, true_or, or_true, Nat.reduceAdd, Int.reduceAdd, Bool.false_eq_true, tn_0, tn_1, tn_2, tn_3, tn_4, tn_5, tn_6, tn_7, e7]
      refine ⟨fun c => ?_, fun c => ?_⟩
      · refine J_blk a_X6_itemHere_43 ?_
        simp only [b_X6_itemHere_43, w_bipush, ci_9, w_nil, kd_46, kd_47, kd_48, kd_49, kd_50, kd_51, kd_52, kd_53, kd_54, kd_55, kd_56, kd_57, kd_58, kd_59, ln_47, ln_48, ln_49, ln_50, ln_51, ln_52, ln_53, ln_54, ln_55, ln_56, ln_57, ln_58, ln_59, Option.toList_some, Option.toList_none, List.cons_append, List.nil_append, true_and, and_true, if_true, if_false, true_or, or_true, Nat.reduceAdd, Int.reduceAdd, Bool.false_eq_true, tn_0, tn_1, tn_2, tn_3, tn_4, tn_5, tn_6, tn_7]
        exact go _ (by rw [if_neg c])
      · refine J_blk a_X6_itemHere_38 ?_
        simp only [b_X6_itemHere_38, w_bipush, ci_99, w_goto, kd_46, kd_47, kd_48, kd_49, kd_50, kd_51, kd_52, kd_53, kd_54, kd_55, kd_56, kd_57, kd_58, kd_59, ln_47, ln_48, ln_49, ln_50, ln_51, ln_52, ln_53, ln_54, ln_55, ln_56, ln_57, ln_58, ln_59, Option.toList_some, Option.toList_none, List.cons_append, List.nil_append, true_and, and_true, if_true, if_false, true_or, or_true, Nat.reduceAdd, Int.reduceAdd, Bool.false_eq_true, tn_0, tn_1, tn_2, tn_3, tn_4, tn_5, tn_6, tn_7]
        exact go _ (by rw [if_pos c])
  · have c' : 0 ≤ kdH t L st.1 := Int32.not_lt.mp c
    simp only [if_pos c']
    obtain ⟨a, ha, ea⟩ := kdH_rng t L st.1 c'
    rw [ea, nI_clamp (show a < 2 ^ 31 by omega)]
    refine J_blk a_X6_itemHere_14 ?_
    simp only [b_X6_itemHere_14, w_aload_n0, w_iload_n1, w_nil, kd_46, kd_47, kd_48, kd_49, kd_50, kd_51, kd_52, kd_53, kd_54, kd_55, kd_56, kd_57, kd_58, kd_59, ln_47, ln_48, ln_49, ln_50, ln_51, ln_52, ln_53, ln_54, ln_55, ln_56, ln_57, ln_58, ln_59, Option.toList_some, Option.toList_none, List.cons_append, List.nil_append, true_and, and_true, if_true, if_false, true_or, or_true, Nat.reduceAdd, Int.reduceAdd, Bool.false_eq_true, tn_0, tn_1, tn_2, tn_3, tn_4, tn_5, tn_6, tn_7]
    refine J_callVr (ci := 6) (branchHere_ok t L n a M st h hfr h0 hn) k_X6_itemHere_16 o_X6_branchHere rfl rfl rfl rfl (by decide) rfl (Nat.le_of_ble_eq_true rfl) ?_
    refine J_blk a_X6_itemHere_19 ?_
    simp only [b_X6_itemHere_19, w_goto, kd_46, kd_47, kd_48, kd_49, kd_50, kd_51, kd_52, kd_53, kd_54, kd_55, kd_56, kd_57, kd_58, kd_59, ln_47, ln_48, ln_49, ln_50, ln_51, ln_52, ln_53, ln_54, ln_55, ln_56, ln_57, ln_58, ln_59, Option.toList_some, Option.toList_none, List.cons_append, List.nil_append, true_and, and_true, if_true, if_false, true_or, or_true, Nat.reduceAdd, Int.reduceAdd, Bool.false_eq_true, tn_0, tn_1, tn_2, tn_3, tn_4, tn_5, tn_6, tn_7]
    exact last _ _ _ (bhS_le hfr)
def miS (t : Nat → Nat) (L n : Nat) (st : Ps) : Ps := if 0 ≤ kdH t L st.1 then bhS t L n (kdH t L st.1).toNatClampNeg st else if 0 ≤ laH t L st.1 then nuS t L (laH t L st.1).toNatClampNeg (if laH t L st.1 = 7 then 99 else 9) (nx t L st.1, st.2) else ndS t L false st
theorem itS_mi (t : Nat → Nat) (L n : Nat) (st : Ps) : itS t L n st = ndS t L (wdB t L (miS t L n st).1 [59]) (miS t L n st) := rfl
theorem ndS_ge {t : Nat → Nat} {L : Nat} {b : Bool} {st : Ps} (h : st.1 ≤ L) : st.1 ≤ (ndS t L b st).1 := by
  unfold ndS
  split
  · exact (nx_le t h).2
  · exact Nat.le_refl _
theorem nuS_ge {t : Nat → Nat} {L at_ : Nat} {most : Int32} {st : Ps} (h : st.1 ≤ L) : st.1 ≤ (nuS t L at_ most st).1 := by
  unfold nuS
  have q := ndS_ge (t := t) (b := nuB t L st.1 most) (st := (st.1, st.2.1, if st.2.1 = false ∧ nuB t L st.1 most = true then upd st.2.2 at_ (nI (vl t L st.1)) else st.2.2)) h
  exact q
theorem phS_ge {t : Nat → Nat} {L at_ : Nat} {b : Bool} {most : Int32} {st : Ps} (h : st.1 ≤ L) : st.1 ≤ (phS t L b at_ most st).1 := by
  unfold phS
  have h2 := nx_le t h
  split
  · have q := nuS_ge (t := t) (L := L) (at_ := at_) (most := most) (st := (nx t L st.1, st.2)) h2.1
    exact Nat.le_trans h2.2 q
  · exact Nat.le_refl _
theorem onS_ge {t : Nat → Nat} {L n : Nat} {st : Ps} (h : st.1 ≤ L) : st.1 ≤ (onS t L n st).1 := by
  unfold onS
  have h2 := nx_le t h
  split
  · have q := nuS_ge (t := t) (L := L) (at_ := 8 + 6 * n + 1) (most := nI (n + 1) - 2) (st := (nx t L st.1, st.2)) h2.1
    exact Nat.le_trans h2.2 q
  · exact Nat.le_refl _
theorem cuS_ge {t : Nat → Nat} {L n : Nat} {st : Ps} (h : st.1 ≤ L) : st.1 ≤ (cuS t L n st).1 := by
  unfold cuS
  split
  · exact (nx_le t h).2
  · exact Nat.le_refl _
theorem bgS_ge {t : Nat → Nat} {L n k : Nat} {st : Ps} (h : st.1 ≤ L) : st.1 ≤ (bgS t L n k st).1 := by
  unfold bgS
  split
  · exact ndS_ge h
  · exact ndS_ge h
theorem bhS_ge {t : Nat → Nat} {L n k : Nat} {st : Ps} (h : st.1 ≤ L) : st.1 ≤ (bhS t L n k st).1 := by
  have h1 := bgS_le (t := t) (n := n) (k := k) h
  have h2 := onS_le (t := t) (n := n) h1
  have h3 : (frS t L n (onS t L n (bgS t L n k st))).1 ≤ L := phS_le h2
  have h4 : (agS t L n (frS t L n (onS t L n (bgS t L n k st)))).1 ≤ L := phS_le h3
  have g1 := bgS_ge (t := t) (n := n) (k := k) h
  have g2 := onS_ge (t := t) (n := n) h1
  have g3 : (onS t L n (bgS t L n k st)).1 ≤ (frS t L n (onS t L n (bgS t L n k st))).1 := phS_ge h2
  have g4 : (frS t L n (onS t L n (bgS t L n k st))).1 ≤ (agS t L n (frS t L n (onS t L n (bgS t L n k st)))).1 := phS_ge h3
  have g5 := cuS_ge (t := t) (n := n) h4
  unfold bhS
  omega
theorem miS_le {t : Nat → Nat} {L n : Nat} {st : Ps} (h : st.1 ≤ L) : (miS t L n st).1 ≤ L ∧ st.1 ≤ (miS t L n st).1 := by
  have h2 := nx_le t h
  unfold miS
  split
  · exact ⟨bhS_le h, bhS_ge h⟩
  · split
    · have q := nuS_ge (t := t) (L := L) (at_ := (laH t L st.1).toNatClampNeg) (most := if laH t L st.1 = 7 then 99 else 9) (st := (nx t L st.1, st.2)) h2.1
      exact ⟨nuS_le h2.1, Nat.le_trans h2.2 q⟩
    · exact ⟨ndS_le h, ndS_ge h⟩
theorem ndS_t {t : Nat → Nat} {L : Nat} {b : Bool} {st : Ps} (h : (ndS t L b st).2.1 = false) : b = true ∧ st.2.1 = false ∧ ndS t L b st = (nx t L st.1, false, st.2.2) := by
  unfold ndS at h ⊢
  split at h
  · next q => exact ⟨q.2, q.1, if_pos q⟩
  · simp at h
theorem itS_lt {t : Nat → Nat} {L n : Nat} {st : Ps} (h : st.1 ≤ L) (hw : (itS t L n st).2.1 = false) : st.1 < (itS t L n st).1 := by
  rw [itS_mi] at hw ⊢
  obtain ⟨h1, h2, h3⟩ := ndS_t hw
  rw [h3]
  have hm := miS_le (t := t) (n := n) h
  have hl := te_lt (t := t) (L := L) (fr := (miS t L n st).1) (by have := (wd_iff t L _ [59]).mp h1; simp at this; omega)
  have := nx_lt t hl
  show st.1 < nx t L (miS t L n st).1
  omega

