/-! the model: sets, counts, trials -/
theorem size_ok (a : Nat) (M : Mm) (h : a < 256) : K 0 mX6_size [.int (nI a)] M (Rt (some (.int (nI (pcN a)))) M) := by
  refine K_go 1 o_X6_size [none, none] rfl (Nat.le_of_ble_eq_true rfl) ?_
  simp only [lvA_i, lvA_a, lvA_l, lvA_nil, List.cons_append, List.nil_append]
  refine J_blk a_X6_size_0 ?_
  simp only [b_X6_size_0, w_iconst_0, w_istore1, nl_1n, nl_1i, nl_1a, w_iload_n0, w_istore2, nl_2n, nl_2i, nl_2a, w_nil, kd_46, kd_47, kd_48, kd_49, kd_50, kd_51, kd_52, kd_53, kd_54, kd_55, kd_56, kd_57, kd_58, kd_59, ln_47, ln_48, ln_49, ln_50, ln_51, ln_52, ln_53, ln_54, ln_55, ln_56, ln_57, ln_58, ln_59, Option.toList_some, Option.toList_none, List.cons_append, List.nil_append, true_and, and_true, if_true, if_false, true_or, or_true, Nat.reduceAdd, Int.reduceAdd, Bool.false_eq_true, tn_0, tn_1, tn_2, tn_3, tn_4, tn_5, tn_6, tn_7]
  have key : ∀ (f b c : Nat), b < 256 → b ≤ f → J 0 mX6_size 4 [some (.int (nI a)), some (.int (nI c)), some (.int (nI b))] [] M (Rt (some (.int (nI (c + pcF f b)))) M) := by
    intro f
    induction f with
    | zero =>
      intro b c hb hf
      have : b = 0 := by omega
      subst this
      refine J_blk a_X6_size_4 ?_
      simp only [b_X6_size_4, w_iload_n2, w_if_eq, w_nil, kd_46, kd_47, kd_48, kd_49, kd_50, kd_51, kd_52, kd_53, kd_54, kd_55, kd_56, kd_57, kd_58, kd_59, ln_47, ln_48, ln_49, ln_50, ln_51, ln_52, ln_53, ln_54, ln_55, ln_56, ln_57, ln_58, ln_59, Option.toList_some, Option.toList_none, List.cons_append, List.nil_append, true_and, and_true, if_true, if_false, true_or, or_true, Nat.reduceAdd, Int.reduceAdd, Bool.false_eq_true, tn_0, tn_1, tn_2, tn_3, tn_4, tn_5, tn_6, tn_7]
      refine ⟨fun _ => ?_, fun h => absurd rfl h⟩
      refine J_blk a_X6_size_20 ?_
      simp only [b_X6_size_20, w_iload_n1, w_ireti, kd_46, kd_47, kd_48, kd_49, kd_50, kd_51, kd_52, kd_53, kd_54, kd_55, kd_56, kd_57, kd_58, kd_59, ln_47, ln_48, ln_49, ln_50, ln_51, ln_52, ln_53, ln_54, ln_55, ln_56, ln_57, ln_58, ln_59, Option.toList_some, Option.toList_none, List.cons_append, List.nil_append, true_and, and_true, if_true, if_false, true_or, or_true, Nat.reduceAdd, Int.reduceAdd, Bool.false_eq_true, tn_0, tn_1, tn_2, tn_3, tn_4, tn_5, tn_6, tn_7]
      exact ⟨rfl, rfl⟩
    | succ f ih =>
      intro b c hb hf
      by_cases h0 : b = 0
      · subst h0
        refine J_blk a_X6_size_4 ?_
        simp only [b_X6_size_4, w_iload_n2, w_if_eq, w_nil, kd_46, kd_47, kd_48, kd_49, kd_50, kd_51, kd_52, kd_53, kd_54, kd_55, kd_56, kd_57, kd_58, kd_59, ln_47, ln_48, ln_49, ln_50, ln_51, ln_52, ln_53, ln_54, ln_55, ln_56, ln_57, ln_58, ln_59, Option.toList_some, Option.toList_none, List.cons_append, List.nil_append, true_and, and_true, if_true, if_false, true_or, or_true, Nat.reduceAdd, Int.reduceAdd, Bool.false_eq_true, tn_0, tn_1, tn_2, tn_3, tn_4, tn_5, tn_6, tn_7]
        refine ⟨fun _ => ?_, fun h => absurd rfl h⟩
        refine J_blk a_X6_size_20 ?_
        simp only [b_X6_size_20, w_iload_n1, w_ireti, kd_46, kd_47, kd_48, kd_49, kd_50, kd_51, kd_52, kd_53, kd_54, kd_55, kd_56, kd_57, kd_58, kd_59, ln_47, ln_48, ln_49, ln_50, ln_51, ln_52, ln_53, ln_54, ln_55, ln_56, ln_57, ln_58, ln_59, Option.toList_some, Option.toList_none, List.cons_append, List.nil_append, true_and, and_true, if_true, if_false, true_or, or_true, Nat.reduceAdd, Int.reduceAdd, Bool.false_eq_true, tn_0, tn_1, tn_2, tn_3, tn_4, tn_5, tn_6, tn_7]
        exact ⟨rfl, rfl⟩
      · obtain ⟨e1, e2⟩ := pc_step b hb h0
        refine J_blk a_X6_size_4 ?_
        simp only [b_X6_size_4, w_iload_n2, w_if_eq, w_nil, kd_46, kd_47, kd_48, kd_49, kd_50, kd_51, kd_52, kd_53, kd_54, kd_55, kd_56, kd_57, kd_58, kd_59, ln_47, ln_48, ln_49, ln_50, ln_51, ln_52, ln_53, ln_54, ln_55, ln_56, ln_57, ln_58, ln_59, Option.toList_some, Option.toList_none, List.cons_append, List.nil_append, true_and, and_true, if_true, if_false, true_or, or_true, Nat.reduceAdd, Int.reduceAdd, Bool.false_eq_true, tn_0, tn_1, tn_2, tn_3, tn_4, tn_5, tn_6, tn_7]
        refine ⟨fun h => absurd h (nI_ne0 (by omega) (by omega)), fun _ => ?_⟩
        refine J_blk a_X6_size_8 ?_
        simp only [b_X6_size_8, w_iinc1, nl_1n, nl_1i, nl_1a, ci_1, w_iload_n2, w_iconst_1, w_isub, w_iand, w_istore2, nl_2n, nl_2i, nl_2a, w_goto, kd_46, kd_47, kd_48, kd_49, kd_50, kd_51, kd_52, kd_53, kd_54, kd_55, kd_56, kd_57, kd_58, kd_59, ln_47, ln_48, ln_49, ln_50, ln_51, ln_52, ln_53, ln_54, ln_55, ln_56, ln_57, ln_58, ln_59, Option.toList_some, Option.toList_none, List.cons_append, List.nil_append, true_and, and_true, if_true, if_false, true_or, or_true, Nat.reduceAdd, Int.reduceAdd, Bool.false_eq_true, tn_0, tn_1, tn_2, tn_3, tn_4, tn_5, tn_6, tn_7, e1, nI_1]
        have := ih (b &&& (b - 1)) (c + 1) (by omega) (by omega)
        rw [show pcF (f + 1) b = 1 + pcF f (b &&& (b - 1)) by rw [pcF, if_neg h0]]
        rw [show c + (1 + pcF f (b &&& (b - 1))) = c + 1 + pcF f (b &&& (b - 1)) by omega]
        exact this
  have := key 256 a 0 h (by omega)
  rw [Nat.zero_add] at this
  exact this
theorem cutOnes_ok (n : Nat) (M : Mm) (hw : WF (M.1 47) n) : K 1 mX6_cutOnes [.ref 46] M (Rt (some (.int (bsF (fun o => decide (M.1 47 (8 + 6 * o + 4) = 1)) n))) M) := by
  have h8 := hw.2.1
  have h0 := hw.1
  refine K_go 0 o_X6_cutOnes [none, none] rfl (Nat.le_of_ble_eq_true rfl) ?_
  simp only [lvA_i, lvA_a, lvA_l, lvA_nil, List.cons_append, List.nil_append]
  refine J_blk a_X6_cutOnes_0 ?_
  simp only [b_X6_cutOnes_0, w_iconst_0, w_istore1, nl_1n, nl_1i, nl_1a, w_istore2, nl_2n, nl_2i, nl_2a, w_nil, kd_46, kd_47, kd_48, kd_49, kd_50, kd_51, kd_52, kd_53, kd_54, kd_55, kd_56, kd_57, kd_58, kd_59, ln_47, ln_48, ln_49, ln_50, ln_51, ln_52, ln_53, ln_54, ln_55, ln_56, ln_57, ln_58, ln_59, Option.toList_some, Option.toList_none, List.cons_append, List.nil_append, true_and, and_true, if_true, if_false, true_or, or_true, Nat.reduceAdd, Int.reduceAdd, Bool.false_eq_true, tn_0, tn_1, tn_2, tn_3, tn_4, tn_5, tn_6, tn_7]
  have key : ∀ k, k ≤ n → J 1 mX6_cutOnes 4 [some (.ref 46), some (.int (bsF (fun o => decide (M.1 47 (8 + 6 * o + 4) = 1)) k)), some (.int (nI k))] [] M (Rt (some (.int (bsF (fun o => decide (M.1 47 (8 + 6 * o + 4) = 1)) n))) M) := by
    refine down n ?_ ?_
    · refine J_blk a_X6_cutOnes_4 ?_
      simp only [b_X6_cutOnes_4, w_iload_n2, w_aload_n0, w_getf6, ne0_1, w_iconst_0, w_iald, w_icmp_ge, w_nil, kd_46, kd_47, kd_48, kd_49, kd_50, kd_51, kd_52, kd_53, kd_54, kd_55, kd_56, kd_57, kd_58, kd_59, ln_47, ln_48, ln_49, ln_50, ln_51, ln_52, ln_53, ln_54, ln_55, ln_56, ln_57, ln_58, ln_59, Option.toList_some, Option.toList_none, List.cons_append, List.nil_append, true_and, and_true, if_true, if_false, true_or, or_true, Nat.reduceAdd, Int.reduceAdd, Bool.false_eq_true, tn_0, tn_1, tn_2, tn_3, tn_4, tn_5, tn_6, tn_7, h0]
      refine ⟨vlit (by decide), fun _ => ?_, fun h => absurd (Int32.le_refl _) h⟩
      refine J_blk a_X6_cutOnes_31 ?_
      simp only [b_X6_cutOnes_31, w_iload_n1, w_ireti, kd_46, kd_47, kd_48, kd_49, kd_50, kd_51, kd_52, kd_53, kd_54, kd_55, kd_56, kd_57, kd_58, kd_59, ln_47, ln_48, ln_49, ln_50, ln_51, ln_52, ln_53, ln_54, ln_55, ln_56, ln_57, ln_58, ln_59, Option.toList_some, Option.toList_none, List.cons_append, List.nil_append, true_and, and_true, if_true, if_false, true_or, or_true, Nat.reduceAdd, Int.reduceAdd, Bool.false_eq_true, tn_0, tn_1, tn_2, tn_3, tn_4, tn_5, tn_6, tn_7]
      first | exact ⟨rfl, rfl⟩ | (simp_all [Rt])
    · intro k hk ih
      refine J_blk a_X6_cutOnes_4 ?_
      simp only [b_X6_cutOnes_4, w_iload_n2, w_aload_n0, w_getf6, ne0_1, w_iconst_0, w_iald, w_icmp_ge, w_nil, kd_46, kd_47, kd_48, kd_49, kd_50, kd_51, kd_52, kd_53, kd_54, kd_55, kd_56, kd_57, kd_58, kd_59, ln_47, ln_48, ln_49, ln_50, ln_51, ln_52, ln_53, ln_54, ln_55, ln_56, ln_57, ln_58, ln_59, Option.toList_some, Option.toList_none, List.cons_append, List.nil_append, true_and, and_true, if_true, if_false, true_or, or_true, Nat.reduceAdd, Int.reduceAdd, Bool.false_eq_true, tn_0, tn_1, tn_2, tn_3, tn_4, tn_5, tn_6, tn_7, h0]
      refine ⟨vlit (by decide), fun h => absurd h (nI_ge hk (by omega)), fun _ => ?_⟩
      refine J_blk a_X6_cutOnes_14 ?_
      simp only [b_X6_cutOnes_14, w_iload_n1, w_aload_n0, w_iload_n2, w_iconst_4, w_nil, kd_46, kd_47, kd_48, kd_49, kd_50, kd_51, kd_52, kd_53, kd_54, kd_55, kd_56, kd_57, kd_58, kd_59, ln_47, ln_48, ln_49, ln_50, ln_51, ln_52, ln_53, ln_54, ln_55, ln_56, ln_57, ln_58, ln_59, Option.toList_some, Option.toList_none, List.cons_append, List.nil_append, true_and, and_true, if_true, if_false, true_or, or_true, Nat.reduceAdd, Int.reduceAdd, Bool.false_eq_true, tn_0, tn_1, tn_2, tn_3, tn_4, tn_5, tn_6, tn_7]
      refine J_callVr (ci := 6) (its_ok k 4 M (by omega)) k_X6_cutOnes_18 o_X6_its rfl rfl rfl rfl (by decide) rfl (Nat.le_of_ble_eq_true rfl) ?_
      refine J_blk a_X6_cutOnes_21 ?_
      simp only [b_X6_cutOnes_21, w_iload_n2, w_ishl, w_ior, w_istore1, nl_1n, nl_1i, nl_1a, w_iinc2, nl_2n, nl_2i, nl_2a, ci_1, w_goto, kd_46, kd_47, kd_48, kd_49, kd_50, kd_51, kd_52, kd_53, kd_54, kd_55, kd_56, kd_57, kd_58, kd_59, ln_47, ln_48, ln_49, ln_50, ln_51, ln_52, ln_53, ln_54, ln_55, ln_56, ln_57, ln_58, ln_59, Option.toList_some, Option.toList_none, List.cons_append, List.nil_append, true_and, and_true, if_true, if_false, true_or, or_true, Nat.reduceAdd, Int.reduceAdd, Bool.false_eq_true, tn_0, tn_1, tn_2, tn_3, tn_4, tn_5, tn_6, tn_7, nI_1]
      refine J_cast ih ?_ rfl rfl
      rw [bsF]
      rcases (hw.2.2 k hk).2.2.2.2.1 with e | e
      · rw [e, show (0 : Int32) <<< (nI k &&& 31) = 0 from Int32.zero_shiftLeft]
        simp
      · rw [e]; simp
  exact key 0 (by omega)
def brS (s : Nat → Int32) (o : Nat) : Bool := decide (s (8 + 6 * o + 4) = 1 ∧ 6 ≤ s (8 + 6 * o + 5))
theorem burntOnes_ok (n : Nat) (M : Mm) (hw : WF (M.1 47) n) : K 1 mX6_burntOnes [.ref 46] M (Rt (some (.int (bsF (brS (M.1 47)) n))) M) := by
  have h8 := hw.2.1
  have h0 := hw.1
  refine K_go 0 o_X6_burntOnes [none, none] rfl (Nat.le_of_ble_eq_true rfl) ?_
  simp only [lvA_i, lvA_a, lvA_l, lvA_nil, List.cons_append, List.nil_append]
  refine J_blk a_X6_burntOnes_0 ?_
  simp only [b_X6_burntOnes_0, w_iconst_0, w_istore1, nl_1n, nl_1i, nl_1a, w_istore2, nl_2n, nl_2i, nl_2a, w_nil, kd_46, kd_47, kd_48, kd_49, kd_50, kd_51, kd_52, kd_53, kd_54, kd_55, kd_56, kd_57, kd_58, kd_59, ln_47, ln_48, ln_49, ln_50, ln_51, ln_52, ln_53, ln_54, ln_55, ln_56, ln_57, ln_58, ln_59, Option.toList_some, Option.toList_none, List.cons_append, List.nil_append, true_and, and_true, if_true, if_false, true_or, or_true, Nat.reduceAdd, Int.reduceAdd, Bool.false_eq_true, tn_0, tn_1, tn_2, tn_3, tn_4, tn_5, tn_6, tn_7]
  have key : ∀ k, k ≤ n → J 1 mX6_burntOnes 4 [some (.ref 46), some (.int (bsF (brS (M.1 47)) k)), some (.int (nI k))] [] M (Rt (some (.int (bsF (brS (M.1 47)) n))) M) := by
    refine down n ?_ ?_
    · refine J_blk a_X6_burntOnes_4 ?_
      simp only [b_X6_burntOnes_4, w_iload_n2, w_aload_n0, w_getf6, ne0_1, w_iconst_0, w_iald, w_icmp_ge, w_nil, kd_46, kd_47, kd_48, kd_49, kd_50, kd_51, kd_52, kd_53, kd_54, kd_55, kd_56, kd_57, kd_58, kd_59, ln_47, ln_48, ln_49, ln_50, ln_51, ln_52, ln_53, ln_54, ln_55, ln_56, ln_57, ln_58, ln_59, Option.toList_some, Option.toList_none, List.cons_append, List.nil_append, true_and, and_true, if_true, if_false, true_or, or_true, Nat.reduceAdd, Int.reduceAdd, Bool.false_eq_true, tn_0, tn_1, tn_2, tn_3, tn_4, tn_5, tn_6, tn_7, h0]
      refine ⟨vlit (by decide), fun _ => ?_, fun h => absurd (Int32.le_refl _) h⟩
      refine J_blk a_X6_burntOnes_48 ?_
      simp only [b_X6_burntOnes_48, w_iload_n1, w_ireti, kd_46, kd_47, kd_48, kd_49, kd_50, kd_51, kd_52, kd_53, kd_54, kd_55, kd_56, kd_57, kd_58, kd_59, ln_47, ln_48, ln_49, ln_50, ln_51, ln_52, ln_53, ln_54, ln_55, ln_56, ln_57, ln_58, ln_59, Option.toList_some, Option.toList_none, List.cons_append, List.nil_append, true_and, and_true, if_true, if_false, true_or, or_true, Nat.reduceAdd, Int.reduceAdd, Bool.false_eq_true, tn_0, tn_1, tn_2, tn_3, tn_4, tn_5, tn_6, tn_7]
      first | exact ⟨rfl, rfl⟩ | (simp_all [Rt])
    · intro k hk ih
      refine J_blk a_X6_burntOnes_4 ?_
      simp only [b_X6_burntOnes_4, w_iload_n2, w_aload_n0, w_getf6, ne0_1, w_iconst_0, w_iald, w_icmp_ge, w_nil, kd_46, kd_47, kd_48, kd_49, kd_50, kd_51, kd_52, kd_53, kd_54, kd_55, kd_56, kd_57, kd_58, kd_59, ln_47, ln_48, ln_49, ln_50, ln_51, ln_52, ln_53, ln_54, ln_55, ln_56, ln_57, ln_58, ln_59, Option.toList_some, Option.toList_none, List.cons_append, List.nil_append, true_and, and_true, if_true, if_false, true_or, or_true, Nat.reduceAdd, Int.reduceAdd, Bool.false_eq_true, tn_0, tn_1, tn_2, tn_3, tn_4, tn_5, tn_6, tn_7, h0]
      refine ⟨vlit (by decide), fun h => absurd h (nI_ge hk (by omega)), fun _ => ?_⟩
      refine J_blk a_X6_burntOnes_14 ?_
      simp only [b_X6_burntOnes_14, w_iload_n1, w_aload_n0, w_iload_n2, w_iconst_4, w_nil, kd_46, kd_47, kd_48, kd_49, kd_50, kd_51, kd_52, kd_53, kd_54, kd_55, kd_56, kd_57, kd_58, kd_59, ln_47, ln_48, ln_49, ln_50, ln_51, ln_52, ln_53, ln_54, ln_55, ln_56, ln_57, ln_58, ln_59, Option.toList_some, Option.toList_none, List.cons_append, List.nil_append, true_and, and_true, if_true, if_false, true_or, or_true, Nat.reduceAdd, Int.reduceAdd, Bool.false_eq_true, tn_0, tn_1, tn_2, tn_3, tn_4, tn_5, tn_6, tn_7]
      refine J_callVr (ci := 6) (its_ok k 4 M (by omega)) k_X6_burntOnes_18 o_X6_its rfl rfl rfl rfl (by decide) rfl (Nat.le_of_ble_eq_true rfl) ?_
      refine J_blk a_X6_burntOnes_21 ?_
      simp only [b_X6_burntOnes_21, w_aload_n0, w_iload_n2, w_iconst_5, w_nil, kd_46, kd_47, kd_48, kd_49, kd_50, kd_51, kd_52, kd_53, kd_54, kd_55, kd_56, kd_57, kd_58, kd_59, ln_47, ln_48, ln_49, ln_50, ln_51, ln_52, ln_53, ln_54, ln_55, ln_56, ln_57, ln_58, ln_59, Option.toList_some, Option.toList_none, List.cons_append, List.nil_append, true_and, and_true, if_true, if_false, true_or, or_true, Nat.reduceAdd, Int.reduceAdd, Bool.false_eq_true, tn_0, tn_1, tn_2, tn_3, tn_4, tn_5, tn_6, tn_7]
      refine J_callVr (ci := 6) (its_ok k 5 M (by omega)) k_X6_burntOnes_24 o_X6_its rfl rfl rfl rfl (by decide) rfl (Nat.le_of_ble_eq_true rfl) ?_
      refine J_callSr (isBurnt_ok _ _ _) k_X6_burntOnes_27 o_X6_isBurnt rfl (by decide) rfl (Nat.le_of_ble_eq_true rfl) ?_
      by_cases hb : M.1 47 (8 + 6 * k + 4) = 1 ∧ 6 ≤ M.1 47 (8 + 6 * k + 5)
      · simp only [hb, and_self, if_true]
        refine J_blk a_X6_burntOnes_30 ?_
        simp only [b_X6_burntOnes_30, w_if_eq, w_nil, kd_46, kd_47, kd_48, kd_49, kd_50, kd_51, kd_52, kd_53, kd_54, kd_55, kd_56, kd_57, kd_58, kd_59, ln_47, ln_48, ln_49, ln_50, ln_51, ln_52, ln_53, ln_54, ln_55, ln_56, ln_57, ln_58, ln_59, Option.toList_some, Option.toList_none, List.cons_append, List.nil_append, true_and, and_true, if_true, if_false, true_or, or_true, Nat.reduceAdd, Int.reduceAdd, Bool.false_eq_true, tn_0, tn_1, tn_2, tn_3, tn_4, tn_5, tn_6, tn_7]
        refine ⟨fun h => absurd h (by decide), fun _ => ?_⟩
        refine J_blk a_X6_burntOnes_33 ?_
        simp only [b_X6_burntOnes_33, w_iconst_1, w_iload_n2, w_ishl, w_goto, kd_46, kd_47, kd_48, kd_49, kd_50, kd_51, kd_52, kd_53, kd_54, kd_55, kd_56, kd_57, kd_58, kd_59, ln_47, ln_48, ln_49, ln_50, ln_51, ln_52, ln_53, ln_54, ln_55, ln_56, ln_57, ln_58, ln_59, Option.toList_some, Option.toList_none, List.cons_append, List.nil_append, true_and, and_true, if_true, if_false, true_or, or_true, Nat.reduceAdd, Int.reduceAdd, Bool.false_eq_true, tn_0, tn_1, tn_2, tn_3, tn_4, tn_5, tn_6, tn_7]
        refine J_blk a_X6_burntOnes_40 ?_
        simp only [b_X6_burntOnes_40, w_ior, w_istore1, nl_1n, nl_1i, nl_1a, w_iinc2, nl_2n, nl_2i, nl_2a, ci_1, w_goto, kd_46, kd_47, kd_48, kd_49, kd_50, kd_51, kd_52, kd_53, kd_54, kd_55, kd_56, kd_57, kd_58, kd_59, ln_47, ln_48, ln_49, ln_50, ln_51, ln_52, ln_53, ln_54, ln_55, ln_56, ln_57, ln_58, ln_59, Option.toList_some, Option.toList_none, List.cons_append, List.nil_append, true_and, and_true, if_true, if_false, true_or, or_true, Nat.reduceAdd, Int.reduceAdd, Bool.false_eq_true, tn_0, tn_1, tn_2, tn_3, tn_4, tn_5, tn_6, tn_7]
        exact J_cast ih (by rw [bsF]; simp [brS, hb, nI_1]) rfl rfl
      · rw [if_neg hb]
        refine J_blk a_X6_burntOnes_30 ?_
        simp only [b_X6_burntOnes_30, w_if_eq, w_nil, kd_46, kd_47, kd_48, kd_49, kd_50, kd_51, kd_52, kd_53, kd_54, kd_55, kd_56, kd_57, kd_58, kd_59, ln_47, ln_48, ln_49, ln_50, ln_51, ln_52, ln_53, ln_54, ln_55, ln_56, ln_57, ln_58, ln_59, Option.toList_some, Option.toList_none, List.cons_append, List.nil_append, true_and, and_true, if_true, if_false, true_or, or_true, Nat.reduceAdd, Int.reduceAdd, Bool.false_eq_true, tn_0, tn_1, tn_2, tn_3, tn_4, tn_5, tn_6, tn_7]
        refine ⟨fun _ => ?_, fun h => absurd trivial h⟩
        refine J_blk a_X6_burntOnes_39 ?_
        simp only [b_X6_burntOnes_39, w_iconst_0, w_nil, kd_46, kd_47, kd_48, kd_49, kd_50, kd_51, kd_52, kd_53, kd_54, kd_55, kd_56, kd_57, kd_58, kd_59, ln_47, ln_48, ln_49, ln_50, ln_51, ln_52, ln_53, ln_54, ln_55, ln_56, ln_57, ln_58, ln_59, Option.toList_some, Option.toList_none, List.cons_append, List.nil_append, true_and, and_true, if_true, if_false, true_or, or_true, Nat.reduceAdd, Int.reduceAdd, Bool.false_eq_true, tn_0, tn_1, tn_2, tn_3, tn_4, tn_5, tn_6, tn_7]
        refine J_blk a_X6_burntOnes_40 ?_
        simp only [b_X6_burntOnes_40, w_ior, w_istore1, nl_1n, nl_1i, nl_1a, w_iinc2, nl_2n, nl_2i, nl_2a, ci_1, w_goto, kd_46, kd_47, kd_48, kd_49, kd_50, kd_51, kd_52, kd_53, kd_54, kd_55, kd_56, kd_57, kd_58, kd_59, ln_47, ln_48, ln_49, ln_50, ln_51, ln_52, ln_53, ln_54, ln_55, ln_56, ln_57, ln_58, ln_59, Option.toList_some, Option.toList_none, List.cons_append, List.nil_append, true_and, and_true, if_true, if_false, true_or, or_true, Nat.reduceAdd, Int.reduceAdd, Bool.false_eq_true, tn_0, tn_1, tn_2, tn_3, tn_4, tn_5, tn_6, tn_7]
        exact J_cast ih (by rw [bsF]; simp [brS, hb, nI_1]) rfl rfl
  exact key 0 (by omega)
def fsS (s : Nat → Int32) : Nat → Int32
  | 0 => 0
  | k + 1 => fsS s k + s (8 + 6 * k + 2)
theorem forceOfAll_ok (n : Nat) (M : Mm) (hw : WF (M.1 47) n) : K 1 mX6_forceOfAll [.ref 46] M (Rt (some (.int (fsS (M.1 47) n))) M) := by
  have h8 := hw.2.1
  have h0 := hw.1
  refine K_go 0 o_X6_forceOfAll [none, none] rfl (Nat.le_of_ble_eq_true rfl) ?_
  simp only [lvA_i, lvA_a, lvA_l, lvA_nil, List.cons_append, List.nil_append]
  refine J_blk a_X6_forceOfAll_0 ?_
  simp only [b_X6_forceOfAll_0, w_iconst_0, w_istore1, nl_1n, nl_1i, nl_1a, w_istore2, nl_2n, nl_2i, nl_2a, w_nil, kd_46, kd_47, kd_48, kd_49, kd_50, kd_51, kd_52, kd_53, kd_54, kd_55, kd_56, kd_57, kd_58, kd_59, ln_47, ln_48, ln_49, ln_50, ln_51, ln_52, ln_53, ln_54, ln_55, ln_56, ln_57, ln_58, ln_59, Option.toList_some, Option.toList_none, List.cons_append, List.nil_append, true_and, and_true, if_true, if_false, true_or, or_true, Nat.reduceAdd, Int.reduceAdd, Bool.false_eq_true, tn_0, tn_1, tn_2, tn_3, tn_4, tn_5, tn_6, tn_7]
  have key : ∀ k, k ≤ n → J 1 mX6_forceOfAll 4 [some (.ref 46), some (.int (fsS (M.1 47) k)), some (.int (nI k))] [] M (Rt (some (.int (fsS (M.1 47) n))) M) := by
    refine down n ?_ ?_
    · refine J_blk a_X6_forceOfAll_4 ?_
      simp only [b_X6_forceOfAll_4, w_iload_n2, w_aload_n0, w_getf6, ne0_1, w_iconst_0, w_iald, w_icmp_ge, w_nil, kd_46, kd_47, kd_48, kd_49, kd_50, kd_51, kd_52, kd_53, kd_54, kd_55, kd_56, kd_57, kd_58, kd_59, ln_47, ln_48, ln_49, ln_50, ln_51, ln_52, ln_53, ln_54, ln_55, ln_56, ln_57, ln_58, ln_59, Option.toList_some, Option.toList_none, List.cons_append, List.nil_append, true_and, and_true, if_true, if_false, true_or, or_true, Nat.reduceAdd, Int.reduceAdd, Bool.false_eq_true, tn_0, tn_1, tn_2, tn_3, tn_4, tn_5, tn_6, tn_7, h0]
      refine ⟨vlit (by decide), fun _ => ?_, fun h => absurd (Int32.le_refl _) h⟩
      refine J_blk a_X6_forceOfAll_29 ?_
      simp only [b_X6_forceOfAll_29, w_iload_n1, w_ireti, kd_46, kd_47, kd_48, kd_49, kd_50, kd_51, kd_52, kd_53, kd_54, kd_55, kd_56, kd_57, kd_58, kd_59, ln_47, ln_48, ln_49, ln_50, ln_51, ln_52, ln_53, ln_54, ln_55, ln_56, ln_57, ln_58, ln_59, Option.toList_some, Option.toList_none, List.cons_append, List.nil_append, true_and, and_true, if_true, if_false, true_or, or_true, Nat.reduceAdd, Int.reduceAdd, Bool.false_eq_true, tn_0, tn_1, tn_2, tn_3, tn_4, tn_5, tn_6, tn_7]
      first | exact ⟨rfl, rfl⟩ | (simp_all [Rt])
    · intro k hk ih
      refine J_blk a_X6_forceOfAll_4 ?_
      simp only [b_X6_forceOfAll_4, w_iload_n2, w_aload_n0, w_getf6, ne0_1, w_iconst_0, w_iald, w_icmp_ge, w_nil, kd_46, kd_47, kd_48, kd_49, kd_50, kd_51, kd_52, kd_53, kd_54, kd_55, kd_56, kd_57, kd_58, kd_59, ln_47, ln_48, ln_49, ln_50, ln_51, ln_52, ln_53, ln_54, ln_55, ln_56, ln_57, ln_58, ln_59, Option.toList_some, Option.toList_none, List.cons_append, List.nil_append, true_and, and_true, if_true, if_false, true_or, or_true, Nat.reduceAdd, Int.reduceAdd, Bool.false_eq_true, tn_0, tn_1, tn_2, tn_3, tn_4, tn_5, tn_6, tn_7, h0]
      refine ⟨vlit (by decide), fun h => absurd h (nI_ge hk (by omega)), fun _ => ?_⟩
      refine J_blk a_X6_forceOfAll_14 ?_
      simp only [b_X6_forceOfAll_14, w_iload_n1, w_aload_n0, w_iload_n2, w_iconst_2, w_nil, kd_46, kd_47, kd_48, kd_49, kd_50, kd_51, kd_52, kd_53, kd_54, kd_55, kd_56, kd_57, kd_58, kd_59, ln_47, ln_48, ln_49, ln_50, ln_51, ln_52, ln_53, ln_54, ln_55, ln_56, ln_57, ln_58, ln_59, Option.toList_some, Option.toList_none, List.cons_append, List.nil_append, true_and, and_true, if_true, if_false, true_or, or_true, Nat.reduceAdd, Int.reduceAdd, Bool.false_eq_true, tn_0, tn_1, tn_2, tn_3, tn_4, tn_5, tn_6, tn_7]
      refine J_callVr (ci := 6) (its_ok k 2 M (by omega)) k_X6_forceOfAll_18 o_X6_its rfl rfl rfl rfl (by decide) rfl (Nat.le_of_ble_eq_true rfl) ?_
      refine J_blk a_X6_forceOfAll_21 ?_
      simp only [b_X6_forceOfAll_21, w_iadd, w_istore1, nl_1n, nl_1i, nl_1a, w_iinc2, nl_2n, nl_2i, nl_2a, ci_1, w_goto, kd_46, kd_47, kd_48, kd_49, kd_50, kd_51, kd_52, kd_53, kd_54, kd_55, kd_56, kd_57, kd_58, kd_59, ln_47, ln_48, ln_49, ln_50, ln_51, ln_52, ln_53, ln_54, ln_55, ln_56, ln_57, ln_58, ln_59, Option.toList_some, Option.toList_none, List.cons_append, List.nil_append, true_and, and_true, if_true, if_false, true_or, or_true, Nat.reduceAdd, Int.reduceAdd, Bool.false_eq_true, tn_0, tn_1, tn_2, tn_3, tn_4, tn_5, tn_6, tn_7, nI_1]
      exact ih
  exact key 0 (by omega)
/-- the row is laid aside -/
def asd (M : Mm) : Mm := su M 49 (cpN (M.1 47) (M.1 49) 56)
theorem asd47 (M : Mm) : (asd M).1 47 = M.1 47 := su_ne _ _ _ _ (by decide)
theorem asd_ne (M : Mm) {c : Nat} (h : c ≠ 49) : (asd M).1 c = M.1 c := su_ne _ _ _ _ h
theorem su_comm (M : Mm) {c d : Nat} (f g : Nat → Int32) (h : c ≠ d) : su (su M c f) d g = su (su M d g) c f := by
  apply mmx
  · intro a b
    by_cases h1 : a = c
    · subst h1; simp [su, h]
    · by_cases h2 : a = d
      · subst h2; simp [su, h1]
      · simp [su, h1, h2]
  · rfl
theorem cpN_cpN (f g h : Nat → Int32) (k : Nat) : cpN (cpN f g k) h k = cpN f h k := by
  funext j
  simp only [cpN]
  by_cases hj : j < k <;> simp [hj]
theorem cpN_self (f : Nat → Int32) (k : Nat) : cpN f f k = f := by funext j; simp [cpN]
theorem asd_asd (M : Mm) : asd (asd M) = asd M := by
  unfold asd
  rw [su_at, su_ne _ _ _ _ (by decide), su_su]
  congr 1
  funext j
  simp only [cpN]
  by_cases hj : j < 56 <;> simp [hj]
/-- laid back: the row is what it was -/
theorem asd_back (M : Mm) (r : Nat → Int32) (hr : ∀ j, 56 ≤ j → r j = M.1 47 j) : su (su (asd M) 47 r) 47 (cpN ((su (asd M) 47 r).1 49) ((su (asd M) 47 r).1 47) 56) = asd M := by
  rw [su_su, su_at, su_ne _ _ _ _ (by decide)]
  have e : cpN ((asd M).1 49) r 56 = (asd M).1 47 := by
    funext j
    rw [asd47]
    unfold asd
    rw [su_at]
    simp only [cpN]
    by_cases hj : j < 56
    · simp [hj]
    · simp [hj]; exact hr j (by omega)
  rw [e, su_self]
theorem harvestBy_ok (n y : Nat) (cut : Int32) (M : Mm) (hw : WF (M.1 47) n) (hy : y ≤ 60) : K 4 mX6_harvestBy [.ref 46, .int (nI y), .int cut] M (Rt (some (.int (hvS (ctR (M.1 47) cut n) n y))) (asd M)) := by
  have h8 := hw.2.1
  have h0 := hw.1
  generalize hs : M.1 47 = s at *
  refine K_go 2 o_X6_harvestBy [none, none] rfl (Nat.le_of_ble_eq_true rfl) ?_
  simp only [lvA_i, lvA_a, lvA_l, lvA_nil, List.cons_append, List.nil_append]
  refine J_blk a_X6_harvestBy_0 ?_
  simp only [b_X6_harvestBy_0, w_aload_n0, w_getf6, ne0_1, ne0_3, w_nil, kd_46, kd_47, kd_48, kd_49, kd_50, kd_51, kd_52, kd_53, kd_54, kd_55, kd_56, kd_57, kd_58, kd_59, ln_47, ln_48, ln_49, ln_50, ln_51, ln_52, ln_53, ln_54, ln_55, ln_56, ln_57, ln_58, ln_59, Option.toList_some, Option.toList_none, List.cons_append, List.nil_append, true_and, and_true, if_true, if_false, true_or, or_true, Nat.reduceAdd, Int.reduceAdd, Bool.false_eq_true, tn_0, tn_1, tn_2, tn_3, tn_4, tn_5, tn_6, tn_7]
  refine J_callSr (copyRow_ok 47 49 M rfl rfl rfl rfl (by decide)) k_X6_harvestBy_8 o_X6_copyRow rfl (by decide) rfl (Nat.le_of_ble_eq_true rfl) ?_
  rw [show su M 49 (cpN (M.1 47) (M.1 49) 56) = asd M from rfl]
  refine J_blk a_X6_harvestBy_11 ?_
  simp only [b_X6_harvestBy_11, w_iconst_0, w_istore3, nl_3n, nl_3i, nl_3a, w_nil, kd_46, kd_47, kd_48, kd_49, kd_50, kd_51, kd_52, kd_53, kd_54, kd_55, kd_56, kd_57, kd_58, kd_59, ln_47, ln_48, ln_49, ln_50, ln_51, ln_52, ln_53, ln_54, ln_55, ln_56, ln_57, ln_58, ln_59, Option.toList_some, Option.toList_none, List.cons_append, List.nil_append, true_and, and_true, if_true, if_false, true_or, or_true, Nat.reduceAdd, Int.reduceAdd, Bool.false_eq_true, tn_0, tn_1, tn_2, tn_3, tn_4, tn_5, tn_6, tn_7]
  have last : ∀ (sum : Int32) (r : Nat → Int32) (z4 : Option Value), sum = hvS (ctR s cut n) n y → (∀ j, 56 ≤ j → r j = s j) → J 4 mX6_harvestBy 75 [some (.ref 46), some (.int (nI y)), some (.int cut), some (.int sum), z4] [] (su (asd M) 47 r) (Rt (some (.int (hvS (ctR s cut n) n y))) (asd M)) := by
    intro sum r z4 hsum hr
    refine J_blk a_X6_harvestBy_75 ?_
    simp only [b_X6_harvestBy_75, w_aload_n0, w_getf6, ne0_3, ne0_1, w_nil, kd_46, kd_47, kd_48, kd_49, kd_50, kd_51, kd_52, kd_53, kd_54, kd_55, kd_56, kd_57, kd_58, kd_59, ln_47, ln_48, ln_49, ln_50, ln_51, ln_52, ln_53, ln_54, ln_55, ln_56, ln_57, ln_58, ln_59, Option.toList_some, Option.toList_none, List.cons_append, List.nil_append, true_and, and_true, if_true, if_false, true_or, or_true, Nat.reduceAdd, Int.reduceAdd, Bool.false_eq_true, tn_0, tn_1, tn_2, tn_3, tn_4, tn_5, tn_6, tn_7]
    refine J_callSr (copyRow_ok 49 47 _ rfl rfl rfl rfl (by decide)) k_X6_harvestBy_83 o_X6_copyRow rfl (by decide) rfl (Nat.le_of_ble_eq_true rfl) ?_
    rw [asd_back M r (by rw [hs]; exact hr)]
    refine J_blk a_X6_harvestBy_86 ?_
    simp only [b_X6_harvestBy_86, w_iload_n3, w_ireti, kd_46, kd_47, kd_48, kd_49, kd_50, kd_51, kd_52, kd_53, kd_54, kd_55, kd_56, kd_57, kd_58, kd_59, ln_47, ln_48, ln_49, ln_50, ln_51, ln_52, ln_53, ln_54, ln_55, ln_56, ln_57, ln_58, ln_59, Option.toList_some, Option.toList_none, List.cons_append, List.nil_append, true_and, and_true, if_true, if_false, true_or, or_true, Nat.reduceAdd, Int.reduceAdd, Bool.false_eq_true, tn_0, tn_1, tn_2, tn_3, tn_4, tn_5, tn_6, tn_7]
    exact ⟨by rw [hsum], rfl⟩
  have loop2 : ∀ k, k ≤ y → J 4 mX6_harvestBy 56 [some (.ref 46), some (.int (nI y)), some (.int cut), some (.int (hvS (ctR s cut n) n k)), some (.int (nI k))] [] (su (asd M) 47 (yrs (ctR s cut n) n k)) (Rt (some (.int (hvS (ctR s cut n) n y))) (asd M)) := by
    refine down y ?_ ?_
    · refine J_blk a_X6_harvestBy_56 ?_
      simp only [b_X6_harvestBy_56, w_iload4, w_iload_n1, w_icmp_ge, w_nil, kd_46, kd_47, kd_48, kd_49, kd_50, kd_51, kd_52, kd_53, kd_54, kd_55, kd_56, kd_57, kd_58, kd_59, ln_47, ln_48, ln_49, ln_50, ln_51, ln_52, ln_53, ln_54, ln_55, ln_56, ln_57, ln_58, ln_59, Option.toList_some, Option.toList_none, List.cons_append, List.nil_append, true_and, and_true, if_true, if_false, true_or, or_true, Nat.reduceAdd, Int.reduceAdd, Bool.false_eq_true, tn_0, tn_1, tn_2, tn_3, tn_4, tn_5, tn_6, tn_7]
      exact ⟨fun _ => last _ _ _ rfl (fun j hj => by rw [yrs_hi _ h8 hj, ctR_hi _ _ h8 hj]), fun h => absurd (Int32.le_refl _) h⟩
    · intro k hk ih
      refine J_blk a_X6_harvestBy_56 ?_
      simp only [b_X6_harvestBy_56, w_iload4, w_iload_n1, w_icmp_ge, w_nil, kd_46, kd_47, kd_48, kd_49, kd_50, kd_51, kd_52, kd_53, kd_54, kd_55, kd_56, kd_57, kd_58, kd_59, ln_47, ln_48, ln_49, ln_50, ln_51, ln_52, ln_53, ln_54, ln_55, ln_56, ln_57, ln_58, ln_59, Option.toList_some, Option.toList_none, List.cons_append, List.nil_append, true_and, and_true, if_true, if_false, true_or, or_true, Nat.reduceAdd, Int.reduceAdd, Bool.false_eq_true, tn_0, tn_1, tn_2, tn_3, tn_4, tn_5, tn_6, tn_7]
      refine ⟨fun h => absurd h (nI_ge hk (by omega)), fun _ => ?_⟩
      refine J_blk a_X6_harvestBy_62 ?_
      simp only [b_X6_harvestBy_62, w_iload_n3, w_aload_n0, w_nil, kd_46, kd_47, kd_48, kd_49, kd_50, kd_51, kd_52, kd_53, kd_54, kd_55, kd_56, kd_57, kd_58, kd_59, ln_47, ln_48, ln_49, ln_50, ln_51, ln_52, ln_53, ln_54, ln_55, ln_56, ln_57, ln_58, ln_59, Option.toList_some, Option.toList_none, List.cons_append, List.nil_append, true_and, and_true, if_true, if_false, true_or, or_true, Nat.reduceAdd, Int.reduceAdd, Bool.false_eq_true, tn_0, tn_1, tn_2, tn_3, tn_4, tn_5, tn_6, tn_7]
      refine J_callVr (ci := 6) (goesOn_ok n _ (by rw [su_at]; exact WF_yrs (WF_ctR hw cut) k)) k_X6_harvestBy_64 o_X6_goesOn rfl rfl rfl rfl (by decide) rfl (Nat.le_of_ble_eq_true rfl) ?_
      refine J_blk a_X6_harvestBy_67 ?_
      simp only [b_X6_harvestBy_67, w_iadd, w_istore3, nl_3n, nl_3i, nl_3a, w_iinc4, nl_4n, nl_4i, nl_4a, ci_1, w_goto, kd_46, kd_47, kd_48, kd_49, kd_50, kd_51, kd_52, kd_53, kd_54, kd_55, kd_56, kd_57, kd_58, kd_59, ln_47, ln_48, ln_49, ln_50, ln_51, ln_52, ln_53, ln_54, ln_55, ln_56, ln_57, ln_58, ln_59, Option.toList_some, Option.toList_none, List.cons_append, List.nil_append, true_and, and_true, if_true, if_false, true_or, or_true, Nat.reduceAdd, Int.reduceAdd, Bool.false_eq_true, tn_0, tn_1, tn_2, tn_3, tn_4, tn_5, tn_6, tn_7, su_at, su_su, nI_1]
      exact ih
  have loop1 : ∀ k, k ≤ n → J 4 mX6_harvestBy 13 [some (.ref 46), some (.int (nI y)), some (.int cut), some (.int (nI k)), none] [] (su (asd M) 47 (ctR s cut k)) (Rt (some (.int (hvS (ctR s cut n) n y))) (asd M)) := by
    refine down n ?_ ?_
    · refine J_blk a_X6_harvestBy_13 ?_
      simp only [b_X6_harvestBy_13, w_iload_n3, w_aload_n0, w_getf6, ne0_1, w_iconst_0, w_iald, w_icmp_ge, w_nil, kd_46, kd_47, kd_48, kd_49, kd_50, kd_51, kd_52, kd_53, kd_54, kd_55, kd_56, kd_57, kd_58, kd_59, ln_47, ln_48, ln_49, ln_50, ln_51, ln_52, ln_53, ln_54, ln_55, ln_56, ln_57, ln_58, ln_59, Option.toList_some, Option.toList_none, List.cons_append, List.nil_append, true_and, and_true, if_true, if_false, true_or, or_true, Nat.reduceAdd, Int.reduceAdd, Bool.false_eq_true, tn_0, tn_1, tn_2, tn_3, tn_4, tn_5, tn_6, tn_7, su_at, ctR_low s cut n (show 0 < 8 by omega), h0]
      refine ⟨vlit (by decide), fun _ => ?_, fun h => absurd (Int32.le_refl _) h⟩
      refine J_blk a_X6_harvestBy_51 ?_
      simp only [b_X6_harvestBy_51, w_iconst_0, w_istore3, nl_3n, nl_3i, nl_3a, w_istore4, nl_4n, nl_4i, nl_4a, w_nil, kd_46, kd_47, kd_48, kd_49, kd_50, kd_51, kd_52, kd_53, kd_54, kd_55, kd_56, kd_57, kd_58, kd_59, ln_47, ln_48, ln_49, ln_50, ln_51, ln_52, ln_53, ln_54, ln_55, ln_56, ln_57, ln_58, ln_59, Option.toList_some, Option.toList_none, List.cons_append, List.nil_append, true_and, and_true, if_true, if_false, true_or, or_true, Nat.reduceAdd, Int.reduceAdd, Bool.false_eq_true, tn_0, tn_1, tn_2, tn_3, tn_4, tn_5, tn_6, tn_7]
      exact loop2 0 (by omega)
    · intro k hk ih
      have h32 : k < 32 := by omega
      have t4 : (nI (8 + 6 * k + 4)).toNatClampNeg = 8 + 6 * k + 4 := nI_clamp (by omega)
      refine J_blk a_X6_harvestBy_13 ?_
      simp only [b_X6_harvestBy_13, w_iload_n3, w_aload_n0, w_getf6, ne0_1, w_iconst_0, w_iald, w_icmp_ge, w_nil, kd_46, kd_47, kd_48, kd_49, kd_50, kd_51, kd_52, kd_53, kd_54, kd_55, kd_56, kd_57, kd_58, kd_59, ln_47, ln_48, ln_49, ln_50, ln_51, ln_52, ln_53, ln_54, ln_55, ln_56, ln_57, ln_58, ln_59, Option.toList_some, Option.toList_none, List.cons_append, List.nil_append, true_and, and_true, if_true, if_false, true_or, or_true, Nat.reduceAdd, Int.reduceAdd, Bool.false_eq_true, tn_0, tn_1, tn_2, tn_3, tn_4, tn_5, tn_6, tn_7, su_at, ctR_low s cut k (show 0 < 8 by omega), h0]
      refine ⟨vlit (by decide), fun h => absurd h (nI_ge hk (by omega)), fun _ => ?_⟩
      refine J_blk a_X6_harvestBy_23 ?_
      simp only [b_X6_harvestBy_23, w_aload_n0, w_getf6, ne0_1, w_bipush, ci_8, ci_6, w_iload_n3, w_imul, w_iadd, w_iconst_4, w_dup2_ia, w_iald, w_iload_n2, w_ishr, w_iconst_1, w_iand, w_ior, w_iast, w_iinc3, nl_3n, nl_3i, nl_3a, ci_1, w_goto, kd_46, kd_47, kd_48, kd_49, kd_50, kd_51, kd_52, kd_53, kd_54, kd_55, kd_56, kd_57, kd_58, kd_59, ln_47, ln_48, ln_49, ln_50, ln_51, ln_52, ln_53, ln_54, ln_55, ln_56, ln_57, ln_58, ln_59, Option.toList_some, Option.toList_none, List.cons_append, List.nil_append, true_and, and_true, if_true, if_false, true_or, or_true, Nat.reduceAdd, Int.reduceAdd, Bool.false_eq_true, tn_0, tn_1, tn_2, tn_3, tn_4, tn_5, tn_6, tn_7, ix0, ad4, su_at, u1_su, t4, bit1 cut h32, ctR_own s cut k 4, ctR_step, nI_1]
      exact ⟨vinN (by omega) (by decide), vinN (by omega) (by decide), ih⟩
  have h1 := loop1 0 (by omega)
  rw [ctR_0, ← hs, ← asd47 M, su_self, asd47 M, hs] at h1
  exact h1

