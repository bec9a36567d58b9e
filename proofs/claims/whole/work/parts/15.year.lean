/-! the model: bears, deep, a year -/
theorem ix0 (o : Nat) : (8 : Int32) + 6 * nI o = nI (8 + 6 * o) := by
  show nI 8 + nI 6 * nI o = _
  rw [pk_mul, nI_add]
theorem ad1 (a : Nat) : nI a + 1 = nI (a + 1) := nI_add a 1
theorem ad2 (a : Nat) : nI a + 2 = nI (a + 2) := nI_add a 2
theorem ad3 (a : Nat) : nI a + 3 = nI (a + 3) := nI_add a 3
theorem ad4 (a : Nat) : nI a + 4 = nI (a + 4) := nI_add a 4
theorem ad5 (a : Nat) : nI a + 5 = nI (a + 5) := nI_add a 5
theorem bears_ok (o n : Nat) (set : Int32) (M : Mm) (hw : WF (M.1 47) n) (ho : o < n) : K 2 mX6_bears [.ref 46, .int (nI o), .int set] M (Rt (some (.int (bearS (M.1 47) (bt set) n o))) M) := by
  have h8 := hw.2.1
  have h0 := hw.1
  refine K_go 2 o_X6_bears [none, none, none, none] rfl (Nat.le_of_ble_eq_true rfl) ?_
  simp only [lvA_i, lvA_a, lvA_l, lvA_nil, List.cons_append, List.nil_append]
  refine J_blk a_X6_bears_0 ?_
  simp only [b_X6_bears_0, w_aload_n0, w_iload_n1, w_iconst_2, w_nil, kd_46, kd_47, kd_48, kd_49, kd_50, kd_51, kd_52, kd_53, kd_54, kd_55, kd_56, kd_57, kd_58, kd_59, ln_47, ln_48, ln_49, ln_50, ln_51, ln_52, ln_53, ln_54, ln_55, ln_56, ln_57, ln_58, ln_59, Option.toList_some, Option.toList_none, List.cons_append, List.nil_append, true_and, and_true, if_true, if_false, true_or, or_true, Nat.reduceAdd, Int.reduceAdd, Bool.false_eq_true, tn_0, tn_1, tn_2, tn_3, tn_4, tn_5, tn_6, tn_7]
  refine J_callVr (ci := 6) (its_ok o 2 M (by omega)) k_X6_bears_3 o_X6_its rfl rfl rfl rfl (by decide) rfl (Nat.le_of_ble_eq_true rfl) ?_
  refine J_blk a_X6_bears_6 ?_
  simp only [b_X6_bears_6, w_istore3, nl_3n, nl_3i, nl_3a, w_iconst_0, w_istore4, nl_4n, nl_4i, nl_4a, w_istore5, nl_5n, nl_5i, nl_5a, w_nil, kd_46, kd_47, kd_48, kd_49, kd_50, kd_51, kd_52, kd_53, kd_54, kd_55, kd_56, kd_57, kd_58, kd_59, ln_47, ln_48, ln_49, ln_50, ln_51, ln_52, ln_53, ln_54, ln_55, ln_56, ln_57, ln_58, ln_59, Option.toList_some, Option.toList_none, List.cons_append, List.nil_append, true_and, and_true, if_true, if_false, true_or, or_true, Nat.reduceAdd, Int.reduceAdd, Bool.false_eq_true, tn_0, tn_1, tn_2, tn_3, tn_4, tn_5, tn_6, tn_7]
  have tail : ∀ (pl up : Int32) (z5 z6 : Option Value), pl = plS (M.1 47) (bt set) o n → up = upS (M.1 47) (bt set) o n → J 2 mX6_bears 115 [some (.ref 46), some (.int (nI o)), some (.int set), some (.int pl), some (.int up), z5, z6] [] M (Rt (some (.int (bearS (M.1 47) (bt set) n o))) M) := by
    intro pl up z5 z6 hpl hup
    unfold bearS
    rw [← hpl, ← hup]
    refine J_blk a_X6_bears_115 ?_
    simp only [b_X6_bears_115, w_aload_n0, w_iload_n1, w_iconst_0, w_nil, kd_46, kd_47, kd_48, kd_49, kd_50, kd_51, kd_52, kd_53, kd_54, kd_55, kd_56, kd_57, kd_58, kd_59, ln_47, ln_48, ln_49, ln_50, ln_51, ln_52, ln_53, ln_54, ln_55, ln_56, ln_57, ln_58, ln_59, Option.toList_some, Option.toList_none, List.cons_append, List.nil_append, true_and, and_true, if_true, if_false, true_or, or_true, Nat.reduceAdd, Int.reduceAdd, Bool.false_eq_true, tn_0, tn_1, tn_2, tn_3, tn_4, tn_5, tn_6, tn_7]
    refine J_callVr (ci := 6) (its_ok o 0 M (by omega)) k_X6_bears_118 o_X6_its rfl rfl rfl rfl (by decide) rfl (Nat.le_of_ble_eq_true rfl) ?_
    refine J_blk a_X6_bears_121 ?_
    simp only [b_X6_bears_121, w_tsw, sw_nil, sw_cons, ci_1, ci_2, ci_3, ci_4, ci_5, kd_46, kd_47, kd_48, kd_49, kd_50, kd_51, kd_52, kd_53, kd_54, kd_55, kd_56, kd_57, kd_58, kd_59, ln_47, ln_48, ln_49, ln_50, ln_51, ln_52, ln_53, ln_54, ln_55, ln_56, ln_57, ln_58, ln_59, Option.toList_some, Option.toList_none, List.cons_append, List.nil_append, true_and, and_true, if_true, if_false, true_or, or_true, Nat.reduceAdd, Int.reduceAdd, Bool.false_eq_true, tn_0, tn_1, tn_2, tn_3, tn_4, tn_5, tn_6, tn_7]
    unfold beS
    refine ⟨fun e1 => ?_, fun e1 => ⟨fun e2 => ?_, fun e2 => ⟨fun e3 => ?_, fun e3 => ⟨fun e4 => ?_, fun e4 => ⟨fun e5 => ?_, fun e5 => ?_⟩⟩⟩⟩⟩
    · rw [if_pos e1]
      refine J_blk a_X6_bears_156 ?_
      simp only [b_X6_bears_156, w_iload_n3, w_aload_n0, w_getf6, ne0_1, w_iconst_5, w_iald, w_iadd, w_ireti, kd_46, kd_47, kd_48, kd_49, kd_50, kd_51, kd_52, kd_53, kd_54, kd_55, kd_56, kd_57, kd_58, kd_59, ln_47, ln_48, ln_49, ln_50, ln_51, ln_52, ln_53, ln_54, ln_55, ln_56, ln_57, ln_58, ln_59, Option.toList_some, Option.toList_none, List.cons_append, List.nil_append, true_and, and_true, if_true, if_false, true_or, or_true, Nat.reduceAdd, Int.reduceAdd, Bool.false_eq_true, tn_0, tn_1, tn_2, tn_3, tn_4, tn_5, tn_6, tn_7]
      refine ⟨(by first | assumption | exact vlit (by decide) | omega | simp_all), ?_⟩
      first | exact ⟨rfl, rfl⟩ | (simp_all [Rt])
    · rw [if_neg e1, if_pos e2]
      refine J_blk a_X6_bears_165 ?_
      simp only [b_X6_bears_165, w_iload_n3, w_iload4, w_isub, w_ireti, kd_46, kd_47, kd_48, kd_49, kd_50, kd_51, kd_52, kd_53, kd_54, kd_55, kd_56, kd_57, kd_58, kd_59, ln_47, ln_48, ln_49, ln_50, ln_51, ln_52, ln_53, ln_54, ln_55, ln_56, ln_57, ln_58, ln_59, Option.toList_some, Option.toList_none, List.cons_append, List.nil_append, true_and, and_true, if_true, if_false, true_or, or_true, Nat.reduceAdd, Int.reduceAdd, Bool.false_eq_true, tn_0, tn_1, tn_2, tn_3, tn_4, tn_5, tn_6, tn_7]
      first | exact ⟨rfl, rfl⟩ | (simp_all [Rt])
    · rw [if_neg e1, if_neg e2, if_pos e3]
      refine J_blk a_X6_bears_170 ?_
      simp only [b_X6_bears_170, w_aload_n0, w_iload_n1, w_iconst_3, w_nil, kd_46, kd_47, kd_48, kd_49, kd_50, kd_51, kd_52, kd_53, kd_54, kd_55, kd_56, kd_57, kd_58, kd_59, ln_47, ln_48, ln_49, ln_50, ln_51, ln_52, ln_53, ln_54, ln_55, ln_56, ln_57, ln_58, ln_59, Option.toList_some, Option.toList_none, List.cons_append, List.nil_append, true_and, and_true, if_true, if_false, true_or, or_true, Nat.reduceAdd, Int.reduceAdd, Bool.false_eq_true, tn_0, tn_1, tn_2, tn_3, tn_4, tn_5, tn_6, tn_7]
      refine J_callVr (ci := 6) (its_ok o 3 M (by omega)) k_X6_bears_173 o_X6_its rfl rfl rfl rfl (by decide) rfl (Nat.le_of_ble_eq_true rfl) ?_
      refine J_blk a_X6_bears_176 ?_
      simp only [b_X6_bears_176, w_iconst_3, w_icmp_ge, w_nil, kd_46, kd_47, kd_48, kd_49, kd_50, kd_51, kd_52, kd_53, kd_54, kd_55, kd_56, kd_57, kd_58, kd_59, ln_47, ln_48, ln_49, ln_50, ln_51, ln_52, ln_53, ln_54, ln_55, ln_56, ln_57, ln_58, ln_59, Option.toList_some, Option.toList_none, List.cons_append, List.nil_append, true_and, and_true, if_true, if_false, true_or, or_true, Nat.reduceAdd, Int.reduceAdd, Bool.false_eq_true, tn_0, tn_1, tn_2, tn_3, tn_4, tn_5, tn_6, tn_7]
      refine ⟨fun h => ?_, fun h => ?_⟩
      · rw [if_neg (Int32.not_lt.mpr h)]
        refine J_blk a_X6_bears_184 ?_
        simp only [b_X6_bears_184, w_iload_n3, w_aload_n0, w_getf6, ne0_1, w_iconst_5, w_iald, w_iadd, w_nil, kd_46, kd_47, kd_48, kd_49, kd_50, kd_51, kd_52, kd_53, kd_54, kd_55, kd_56, kd_57, kd_58, kd_59, ln_47, ln_48, ln_49, ln_50, ln_51, ln_52, ln_53, ln_54, ln_55, ln_56, ln_57, ln_58, ln_59, Option.toList_some, Option.toList_none, List.cons_append, List.nil_append, true_and, and_true, if_true, if_false, true_or, or_true, Nat.reduceAdd, Int.reduceAdd, Bool.false_eq_true, tn_0, tn_1, tn_2, tn_3, tn_4, tn_5, tn_6, tn_7]
        refine ⟨(by first | assumption | exact vlit (by decide) | omega | simp_all), ?_⟩
        refine J_blk a_X6_bears_192 ?_
        simp only [b_X6_bears_192, w_ireti, kd_46, kd_47, kd_48, kd_49, kd_50, kd_51, kd_52, kd_53, kd_54, kd_55, kd_56, kd_57, kd_58, kd_59, ln_47, ln_48, ln_49, ln_50, ln_51, ln_52, ln_53, ln_54, ln_55, ln_56, ln_57, ln_58, ln_59, Option.toList_some, Option.toList_none, List.cons_append, List.nil_append, true_and, and_true, if_true, if_false, true_or, or_true, Nat.reduceAdd, Int.reduceAdd, Bool.false_eq_true, tn_0, tn_1, tn_2, tn_3, tn_4, tn_5, tn_6, tn_7]
        first | exact ⟨rfl, rfl⟩ | (simp_all [Rt])
      · rw [if_pos (Int32.not_le.mp h)]
        refine J_blk a_X6_bears_180 ?_
        simp only [b_X6_bears_180, w_iconst_0, w_goto, kd_46, kd_47, kd_48, kd_49, kd_50, kd_51, kd_52, kd_53, kd_54, kd_55, kd_56, kd_57, kd_58, kd_59, ln_47, ln_48, ln_49, ln_50, ln_51, ln_52, ln_53, ln_54, ln_55, ln_56, ln_57, ln_58, ln_59, Option.toList_some, Option.toList_none, List.cons_append, List.nil_append, true_and, and_true, if_true, if_false, true_or, or_true, Nat.reduceAdd, Int.reduceAdd, Bool.false_eq_true, tn_0, tn_1, tn_2, tn_3, tn_4, tn_5, tn_6, tn_7]
        refine J_blk a_X6_bears_192 ?_
        simp only [b_X6_bears_192, w_ireti, kd_46, kd_47, kd_48, kd_49, kd_50, kd_51, kd_52, kd_53, kd_54, kd_55, kd_56, kd_57, kd_58, kd_59, ln_47, ln_48, ln_49, ln_50, ln_51, ln_52, ln_53, ln_54, ln_55, ln_56, ln_57, ln_58, ln_59, Option.toList_some, Option.toList_none, List.cons_append, List.nil_append, true_and, and_true, if_true, if_false, true_or, or_true, Nat.reduceAdd, Int.reduceAdd, Bool.false_eq_true, tn_0, tn_1, tn_2, tn_3, tn_4, tn_5, tn_6, tn_7]
        first | exact ⟨rfl, rfl⟩ | (simp_all [Rt])
    · rw [if_neg e1, if_neg e2, if_neg e3, if_pos e4]
      refine J_blk a_X6_bears_193 ?_
      simp only [b_X6_bears_193, w_iload_n3, w_iload4, w_isub, w_aload_n0, w_iload_n1, w_iconst_3, w_nil, kd_46, kd_47, kd_48, kd_49, kd_50, kd_51, kd_52, kd_53, kd_54, kd_55, kd_56, kd_57, kd_58, kd_59, ln_47, ln_48, ln_49, ln_50, ln_51, ln_52, ln_53, ln_54, ln_55, ln_56, ln_57, ln_58, ln_59, Option.toList_some, Option.toList_none, List.cons_append, List.nil_append, true_and, and_true, if_true, if_false, true_or, or_true, Nat.reduceAdd, Int.reduceAdd, Bool.false_eq_true, tn_0, tn_1, tn_2, tn_3, tn_4, tn_5, tn_6, tn_7]
      refine J_callVr (ci := 6) (its_ok o 3 M (by omega)) k_X6_bears_200 o_X6_its rfl rfl rfl rfl (by decide) rfl (Nat.le_of_ble_eq_true rfl) ?_
      refine J_blk a_X6_bears_203 ?_
      simp only [b_X6_bears_203, w_bipush, ci_10, w_idiv, w_isub, w_ireti, kd_46, kd_47, kd_48, kd_49, kd_50, kd_51, kd_52, kd_53, kd_54, kd_55, kd_56, kd_57, kd_58, kd_59, ln_47, ln_48, ln_49, ln_50, ln_51, ln_52, ln_53, ln_54, ln_55, ln_56, ln_57, ln_58, ln_59, Option.toList_some, Option.toList_none, List.cons_append, List.nil_append, true_and, and_true, if_true, if_false, true_or, or_true, Nat.reduceAdd, Int.reduceAdd, Bool.false_eq_true, tn_0, tn_1, tn_2, tn_3, tn_4, tn_5, tn_6, tn_7]
      exact ⟨by decide, rfl, rfl⟩
    · rw [if_neg e1, if_neg e2, if_neg e3, if_neg e4, if_pos e5]
      refine J_blk a_X6_bears_208 ?_
      simp only [b_X6_bears_208, w_aload_n0, w_getf6, ne0_1, w_iconst_1, w_iald, w_iconst_3, w_irem, w_if_ne, w_nil, kd_46, kd_47, kd_48, kd_49, kd_50, kd_51, kd_52, kd_53, kd_54, kd_55, kd_56, kd_57, kd_58, kd_59, ln_47, ln_48, ln_49, ln_50, ln_51, ln_52, ln_53, ln_54, ln_55, ln_56, ln_57, ln_58, ln_59, Option.toList_some, Option.toList_none, List.cons_append, List.nil_append, true_and, and_true, if_true, if_false, true_or, or_true, Nat.reduceAdd, Int.reduceAdd, Bool.false_eq_true, tn_0, tn_1, tn_2, tn_3, tn_4, tn_5, tn_6, tn_7]
      refine ⟨vlit (by decide), by decide, fun h => ?_, fun h => ?_⟩
      · rw [if_neg h]
        refine J_blk a_X6_bears_231 ?_
        simp only [b_X6_bears_231, w_iload_n3, w_nil, kd_46, kd_47, kd_48, kd_49, kd_50, kd_51, kd_52, kd_53, kd_54, kd_55, kd_56, kd_57, kd_58, kd_59, ln_47, ln_48, ln_49, ln_50, ln_51, ln_52, ln_53, ln_54, ln_55, ln_56, ln_57, ln_58, ln_59, Option.toList_some, Option.toList_none, List.cons_append, List.nil_append, true_and, and_true, if_true, if_false, true_or, or_true, Nat.reduceAdd, Int.reduceAdd, Bool.false_eq_true, tn_0, tn_1, tn_2, tn_3, tn_4, tn_5, tn_6, tn_7]
        refine J_blk a_X6_bears_232 ?_
        simp only [b_X6_bears_232, w_ireti, kd_46, kd_47, kd_48, kd_49, kd_50, kd_51, kd_52, kd_53, kd_54, kd_55, kd_56, kd_57, kd_58, kd_59, ln_47, ln_48, ln_49, ln_50, ln_51, ln_52, ln_53, ln_54, ln_55, ln_56, ln_57, ln_58, ln_59, Option.toList_some, Option.toList_none, List.cons_append, List.nil_append, true_and, and_true, if_true, if_false, true_or, or_true, Nat.reduceAdd, Int.reduceAdd, Bool.false_eq_true, tn_0, tn_1, tn_2, tn_3, tn_4, tn_5, tn_6, tn_7]
        first | exact ⟨rfl, rfl⟩ | (simp_all [Rt])
      · rw [if_pos h]
        refine J_blk a_X6_bears_219 ?_
        simp only [b_X6_bears_219, w_iload_n3, w_aload_n0, w_getf6, ne0_1, w_bipush, ci_6, w_iald, w_iadd, w_goto, kd_46, kd_47, kd_48, kd_49, kd_50, kd_51, kd_52, kd_53, kd_54, kd_55, kd_56, kd_57, kd_58, kd_59, ln_47, ln_48, ln_49, ln_50, ln_51, ln_52, ln_53, ln_54, ln_55, ln_56, ln_57, ln_58, ln_59, Option.toList_some, Option.toList_none, List.cons_append, List.nil_append, true_and, and_true, if_true, if_false, true_or, or_true, Nat.reduceAdd, Int.reduceAdd, Bool.false_eq_true, tn_0, tn_1, tn_2, tn_3, tn_4, tn_5, tn_6, tn_7]
        refine ⟨(by first | assumption | exact vlit (by decide) | omega | simp_all), ?_⟩
        refine J_blk a_X6_bears_232 ?_
        simp only [b_X6_bears_232, w_ireti, kd_46, kd_47, kd_48, kd_49, kd_50, kd_51, kd_52, kd_53, kd_54, kd_55, kd_56, kd_57, kd_58, kd_59, ln_47, ln_48, ln_49, ln_50, ln_51, ln_52, ln_53, ln_54, ln_55, ln_56, ln_57, ln_58, ln_59, Option.toList_some, Option.toList_none, List.cons_append, List.nil_append, true_and, and_true, if_true, if_false, true_or, or_true, Nat.reduceAdd, Int.reduceAdd, Bool.false_eq_true, tn_0, tn_1, tn_2, tn_3, tn_4, tn_5, tn_6, tn_7]
        first | exact ⟨rfl, rfl⟩ | (simp_all [Rt])
    · rw [if_neg e1, if_neg e2, if_neg e3, if_neg e4, if_neg e5]
      refine J_blk a_X6_bears_233 ?_
      simp only [b_X6_bears_233, w_iload_n3, w_ireti, kd_46, kd_47, kd_48, kd_49, kd_50, kd_51, kd_52, kd_53, kd_54, kd_55, kd_56, kd_57, kd_58, kd_59, ln_47, ln_48, ln_49, ln_50, ln_51, ln_52, ln_53, ln_54, ln_55, ln_56, ln_57, ln_58, ln_59, Option.toList_some, Option.toList_none, List.cons_append, List.nil_append, true_and, and_true, if_true, if_false, true_or, or_true, Nat.reduceAdd, Int.reduceAdd, Bool.false_eq_true, tn_0, tn_1, tn_2, tn_3, tn_4, tn_5, tn_6, tn_7]
      first | exact ⟨rfl, rfl⟩ | (simp_all [Rt])
  have key : ∀ k, k ≤ n → ∀ z : Option Value, J 2 mX6_bears 13 [some (.ref 46), some (.int (nI o)), some (.int set), some (.int (plS (M.1 47) (bt set) o k)), some (.int (upS (M.1 47) (bt set) o k)), some (.int (nI k)), z] [] M (Rt (some (.int (bearS (M.1 47) (bt set) n o))) M) := by
    refine down n ?_ ?_
    · intro z
      refine J_blk a_X6_bears_13 ?_
      simp only [b_X6_bears_13, w_iload5, w_aload_n0, w_getf6, ne0_1, w_iconst_0, w_iald, w_icmp_ge, w_nil, kd_46, kd_47, kd_48, kd_49, kd_50, kd_51, kd_52, kd_53, kd_54, kd_55, kd_56, kd_57, kd_58, kd_59, ln_47, ln_48, ln_49, ln_50, ln_51, ln_52, ln_53, ln_54, ln_55, ln_56, ln_57, ln_58, ln_59, Option.toList_some, Option.toList_none, List.cons_append, List.nil_append, true_and, and_true, if_true, if_false, true_or, or_true, Nat.reduceAdd, Int.reduceAdd, Bool.false_eq_true, tn_0, tn_1, tn_2, tn_3, tn_4, tn_5, tn_6, tn_7, show (0 : Int32).toNatClampNeg = 0 from rfl, h0]
      exact ⟨vlit (by decide), fun _ => tail _ _ _ _ rfl rfl, fun h => absurd (Int32.le_refl _) h⟩
    · intro k hk ih z
      have h32 : k < 32 := by omega
      have eo : (nI k = nI o) = (k = o) := propext (nI_eq (by omega) (by omega))
      refine J_blk a_X6_bears_13 ?_
      simp only [b_X6_bears_13, w_iload5, w_aload_n0, w_getf6, ne0_1, w_iconst_0, w_iald, w_icmp_ge, w_nil, kd_46, kd_47, kd_48, kd_49, kd_50, kd_51, kd_52, kd_53, kd_54, kd_55, kd_56, kd_57, kd_58, kd_59, ln_47, ln_48, ln_49, ln_50, ln_51, ln_52, ln_53, ln_54, ln_55, ln_56, ln_57, ln_58, ln_59, Option.toList_some, Option.toList_none, List.cons_append, List.nil_append, true_and, and_true, if_true, if_false, true_or, or_true, Nat.reduceAdd, Int.reduceAdd, Bool.false_eq_true, tn_0, tn_1, tn_2, tn_3, tn_4, tn_5, tn_6, tn_7, show (0 : Int32).toNatClampNeg = 0 from rfl, h0]
      refine ⟨vlit (by decide), fun h => absurd h (nI_ge hk (by omega)), fun _ => ?_⟩
      refine J_blk a_X6_bears_24 ?_
      simp only [b_X6_bears_24, w_iload_n2, w_iload5, w_ishr, w_iconst_1, w_iand, w_icmp_ne, w_nil, kd_46, kd_47, kd_48, kd_49, kd_50, kd_51, kd_52, kd_53, kd_54, kd_55, kd_56, kd_57, kd_58, kd_59, ln_47, ln_48, ln_49, ln_50, ln_51, ln_52, ln_53, ln_54, ln_55, ln_56, ln_57, ln_58, ln_59, Option.toList_some, Option.toList_none, List.cons_append, List.nil_append, true_and, and_true, if_true, if_false, true_or, or_true, Nat.reduceAdd, Int.reduceAdd, Bool.false_eq_true, tn_0, tn_1, tn_2, tn_3, tn_4, tn_5, tn_6, tn_7, bit1 set h32, eo]
      refine ⟨fun c1 => ?_, fun c1 => ?_⟩
      · refine J_blk a_X6_bears_38 ?_
        simp only [b_X6_bears_38, w_iconst_0, w_nil, kd_46, kd_47, kd_48, kd_49, kd_50, kd_51, kd_52, kd_53, kd_54, kd_55, kd_56, kd_57, kd_58, kd_59, ln_47, ln_48, ln_49, ln_50, ln_51, ln_52, ln_53, ln_54, ln_55, ln_56, ln_57, ln_58, ln_59, Option.toList_some, Option.toList_none, List.cons_append, List.nil_append, true_and, and_true, if_true, if_false, true_or, or_true, Nat.reduceAdd, Int.reduceAdd, Bool.false_eq_true, tn_0, tn_1, tn_2, tn_3, tn_4, tn_5, tn_6, tn_7, bit1 set h32, eo]
        refine J_blk a_X6_bears_39 ?_
        simp only [b_X6_bears_39, w_istore6, nl_6n, nl_6i, nl_6a, w_iload_n3, w_iload6, w_if_eq, w_nil, kd_46, kd_47, kd_48, kd_49, kd_50, kd_51, kd_52, kd_53, kd_54, kd_55, kd_56, kd_57, kd_58, kd_59, ln_47, ln_48, ln_49, ln_50, ln_51, ln_52, ln_53, ln_54, ln_55, ln_56, ln_57, ln_58, ln_59, Option.toList_some, Option.toList_none, List.cons_append, List.nil_append, true_and, and_true, if_true, if_false, true_or, or_true, Nat.reduceAdd, Int.reduceAdd, Bool.false_eq_true, tn_0, tn_1, tn_2, tn_3, tn_4, tn_5, tn_6, tn_7, bit1 set h32, eo]
        refine ⟨fun c2 => ?_, fun c2 => ?_⟩
        · refine J_blk a_X6_bears_78 ?_
          simp only [b_X6_bears_78, w_iconst_0, w_nil, kd_46, kd_47, kd_48, kd_49, kd_50, kd_51, kd_52, kd_53, kd_54, kd_55, kd_56, kd_57, kd_58, kd_59, ln_47, ln_48, ln_49, ln_50, ln_51, ln_52, ln_53, ln_54, ln_55, ln_56, ln_57, ln_58, ln_59, Option.toList_some, Option.toList_none, List.cons_append, List.nil_append, true_and, and_true, if_true, if_false, true_or, or_true, Nat.reduceAdd, Int.reduceAdd, Bool.false_eq_true, tn_0, tn_1, tn_2, tn_3, tn_4, tn_5, tn_6, tn_7, bit1 set h32, eo]
          refine J_blk a_X6_bears_79 ?_
          simp only [b_X6_bears_79, w_isub, w_istore3, nl_3n, nl_3i, nl_3a, w_iload4, w_iload6, w_if_eq, w_nil, kd_46, kd_47, kd_48, kd_49, kd_50, kd_51, kd_52, kd_53, kd_54, kd_55, kd_56, kd_57, kd_58, kd_59, ln_47, ln_48, ln_49, ln_50, ln_51, ln_52, ln_53, ln_54, ln_55, ln_56, ln_57, ln_58, ln_59, Option.toList_some, Option.toList_none, List.cons_append, List.nil_append, true_and, and_true, if_true, if_false, true_or, or_true, Nat.reduceAdd, Int.reduceAdd, Bool.false_eq_true, tn_0, tn_1, tn_2, tn_3, tn_4, tn_5, tn_6, tn_7, bit1 set h32, eo]
          refine ⟨fun c3 => ?_, fun c3 => ?_⟩
          · refine J_blk a_X6_bears_105 ?_
            simp only [b_X6_bears_105, w_iconst_0, w_nil, kd_46, kd_47, kd_48, kd_49, kd_50, kd_51, kd_52, kd_53, kd_54, kd_55, kd_56, kd_57, kd_58, kd_59, ln_47, ln_48, ln_49, ln_50, ln_51, ln_52, ln_53, ln_54, ln_55, ln_56, ln_57, ln_58, ln_59, Option.toList_some, Option.toList_none, List.cons_append, List.nil_append, true_and, and_true, if_true, if_false, true_or, or_true, Nat.reduceAdd, Int.reduceAdd, Bool.false_eq_true, tn_0, tn_1, tn_2, tn_3, tn_4, tn_5, tn_6, tn_7, bit1 set h32, eo]
            refine J_blk a_X6_bears_106 ?_
            simp only [b_X6_bears_106, w_iadd, w_istore4, nl_4n, nl_4i, nl_4a, w_iinc5, nl_5n, nl_5i, nl_5a, ci_1, w_goto, kd_46, kd_47, kd_48, kd_49, kd_50, kd_51, kd_52, kd_53, kd_54, kd_55, kd_56, kd_57, kd_58, kd_59, ln_47, ln_48, ln_49, ln_50, ln_51, ln_52, ln_53, ln_54, ln_55, ln_56, ln_57, ln_58, ln_59, Option.toList_some, Option.toList_none, List.cons_append, List.nil_append, true_and, and_true, if_true, if_false, true_or, or_true, Nat.reduceAdd, Int.reduceAdd, Bool.false_eq_true, tn_0, tn_1, tn_2, tn_3, tn_4, tn_5, tn_6, tn_7, bit1 set h32, eo]
            first | exact J_cast (ih (some (.int 1))) (by simp only [plS, upS, nI_1, List.cons.injEq, Option.some.injEq, Value.int.injEq, true_and, and_true]; grind) rfl rfl | exact J_cast (ih (some (.int 0))) (by simp only [plS, upS, nI_1, List.cons.injEq, Option.some.injEq, Value.int.injEq, true_and, and_true]; grind) rfl rfl
          · refine J_blk a_X6_bears_88 ?_
            simp only [b_X6_bears_88, w_aload_n0, w_iload5, w_iconst_1, w_nil, kd_46, kd_47, kd_48, kd_49, kd_50, kd_51, kd_52, kd_53, kd_54, kd_55, kd_56, kd_57, kd_58, kd_59, ln_47, ln_48, ln_49, ln_50, ln_51, ln_52, ln_53, ln_54, ln_55, ln_56, ln_57, ln_58, ln_59, Option.toList_some, Option.toList_none, List.cons_append, List.nil_append, true_and, and_true, if_true, if_false, true_or, or_true, Nat.reduceAdd, Int.reduceAdd, Bool.false_eq_true, tn_0, tn_1, tn_2, tn_3, tn_4, tn_5, tn_6, tn_7, bit1 set h32, eo]
            refine J_callVr (ci := 6) (its_ok _ 1 _ (by omega)) k_X6_bears_92 o_X6_its rfl rfl rfl rfl (by decide) rfl (Nat.le_of_ble_eq_true rfl) ?_
            refine J_blk a_X6_bears_95 ?_
            simp only [b_X6_bears_95, w_iconst_1, w_iload_n1, w_iadd, w_icmp_ne, w_nil, kd_46, kd_47, kd_48, kd_49, kd_50, kd_51, kd_52, kd_53, kd_54, kd_55, kd_56, kd_57, kd_58, kd_59, ln_47, ln_48, ln_49, ln_50, ln_51, ln_52, ln_53, ln_54, ln_55, ln_56, ln_57, ln_58, ln_59, Option.toList_some, Option.toList_none, List.cons_append, List.nil_append, true_and, and_true, if_true, if_false, true_or, or_true, Nat.reduceAdd, Int.reduceAdd, Bool.false_eq_true, tn_0, tn_1, tn_2, tn_3, tn_4, tn_5, tn_6, tn_7, bit1 set h32, eo]
            refine ⟨fun c4 => ?_, fun c4 => ?_⟩
            · refine J_blk a_X6_bears_105 ?_
              simp only [b_X6_bears_105, w_iconst_0, w_nil, kd_46, kd_47, kd_48, kd_49, kd_50, kd_51, kd_52, kd_53, kd_54, kd_55, kd_56, kd_57, kd_58, kd_59, ln_47, ln_48, ln_49, ln_50, ln_51, ln_52, ln_53, ln_54, ln_55, ln_56, ln_57, ln_58, ln_59, Option.toList_some, Option.toList_none, List.cons_append, List.nil_append, true_and, and_true, if_true, if_false, true_or, or_true, Nat.reduceAdd, Int.reduceAdd, Bool.false_eq_true, tn_0, tn_1, tn_2, tn_3, tn_4, tn_5, tn_6, tn_7, bit1 set h32, eo]
              refine J_blk a_X6_bears_106 ?_
              simp only [b_X6_bears_106, w_iadd, w_istore4, nl_4n, nl_4i, nl_4a, w_iinc5, nl_5n, nl_5i, nl_5a, ci_1, w_goto, kd_46, kd_47, kd_48, kd_49, kd_50, kd_51, kd_52, kd_53, kd_54, kd_55, kd_56, kd_57, kd_58, kd_59, ln_47, ln_48, ln_49, ln_50, ln_51, ln_52, ln_53, ln_54, ln_55, ln_56, ln_57, ln_58, ln_59, Option.toList_some, Option.toList_none, List.cons_append, List.nil_append, true_and, and_true, if_true, if_false, true_or, or_true, Nat.reduceAdd, Int.reduceAdd, Bool.false_eq_true, tn_0, tn_1, tn_2, tn_3, tn_4, tn_5, tn_6, tn_7, bit1 set h32, eo]
              first | exact J_cast (ih (some (.int 1))) (by simp only [plS, upS, nI_1, List.cons.injEq, Option.some.injEq, Value.int.injEq, true_and, and_true]; grind) rfl rfl | exact J_cast (ih (some (.int 0))) (by simp only [plS, upS, nI_1, List.cons.injEq, Option.some.injEq, Value.int.injEq, true_and, and_true]; grind) rfl rfl
            · refine J_blk a_X6_bears_101 ?_
              simp only [b_X6_bears_101, w_iconst_1, w_goto, kd_46, kd_47, kd_48, kd_49, kd_50, kd_51, kd_52, kd_53, kd_54, kd_55, kd_56, kd_57, kd_58, kd_59, ln_47, ln_48, ln_49, ln_50, ln_51, ln_52, ln_53, ln_54, ln_55, ln_56, ln_57, ln_58, ln_59, Option.toList_some, Option.toList_none, List.cons_append, List.nil_append, true_and, and_true, if_true, if_false, true_or, or_true, Nat.reduceAdd, Int.reduceAdd, Bool.false_eq_true, tn_0, tn_1, tn_2, tn_3, tn_4, tn_5, tn_6, tn_7, bit1 set h32, eo]
              refine J_blk a_X6_bears_106 ?_
              simp only [b_X6_bears_106, w_iadd, w_istore4, nl_4n, nl_4i, nl_4a, w_iinc5, nl_5n, nl_5i, nl_5a, ci_1, w_goto, kd_46, kd_47, kd_48, kd_49, kd_50, kd_51, kd_52, kd_53, kd_54, kd_55, kd_56, kd_57, kd_58, kd_59, ln_47, ln_48, ln_49, ln_50, ln_51, ln_52, ln_53, ln_54, ln_55, ln_56, ln_57, ln_58, ln_59, Option.toList_some, Option.toList_none, List.cons_append, List.nil_append, true_and, and_true, if_true, if_false, true_or, or_true, Nat.reduceAdd, Int.reduceAdd, Bool.false_eq_true, tn_0, tn_1, tn_2, tn_3, tn_4, tn_5, tn_6, tn_7, bit1 set h32, eo]
              first | exact J_cast (ih (some (.int 1))) (by simp only [plS, upS, nI_1, List.cons.injEq, Option.some.injEq, Value.int.injEq, true_and, and_true]; grind) rfl rfl | exact J_cast (ih (some (.int 0))) (by simp only [plS, upS, nI_1, List.cons.injEq, Option.some.injEq, Value.int.injEq, true_and, and_true]; grind) rfl rfl
        · refine J_blk a_X6_bears_47 ?_
          simp only [b_X6_bears_47, w_iload5, w_iload_n1, w_icmp_eq, w_nil, kd_46, kd_47, kd_48, kd_49, kd_50, kd_51, kd_52, kd_53, kd_54, kd_55, kd_56, kd_57, kd_58, kd_59, ln_47, ln_48, ln_49, ln_50, ln_51, ln_52, ln_53, ln_54, ln_55, ln_56, ln_57, ln_58, ln_59, Option.toList_some, Option.toList_none, List.cons_append, List.nil_append, true_and, and_true, if_true, if_false, true_or, or_true, Nat.reduceAdd, Int.reduceAdd, Bool.false_eq_true, tn_0, tn_1, tn_2, tn_3, tn_4, tn_5, tn_6, tn_7, bit1 set h32, eo]
          refine ⟨fun c5 => ?_, fun c5 => ?_⟩
          · refine J_blk a_X6_bears_78 ?_
            simp only [b_X6_bears_78, w_iconst_0, w_nil, kd_46, kd_47, kd_48, kd_49, kd_50, kd_51, kd_52, kd_53, kd_54, kd_55, kd_56, kd_57, kd_58, kd_59, ln_47, ln_48, ln_49, ln_50, ln_51, ln_52, ln_53, ln_54, ln_55, ln_56, ln_57, ln_58, ln_59, Option.toList_some, Option.toList_none, List.cons_append, List.nil_append, true_and, and_true, if_true, if_false, true_or, or_true, Nat.reduceAdd, Int.reduceAdd, Bool.false_eq_true, tn_0, tn_1, tn_2, tn_3, tn_4, tn_5, tn_6, tn_7, bit1 set h32, eo]
            refine J_blk a_X6_bears_79 ?_
            simp only [b_X6_bears_79, w_isub, w_istore3, nl_3n, nl_3i, nl_3a, w_iload4, w_iload6, w_if_eq, w_nil, kd_46, kd_47, kd_48, kd_49, kd_50, kd_51, kd_52, kd_53, kd_54, kd_55, kd_56, kd_57, kd_58, kd_59, ln_47, ln_48, ln_49, ln_50, ln_51, ln_52, ln_53, ln_54, ln_55, ln_56, ln_57, ln_58, ln_59, Option.toList_some, Option.toList_none, List.cons_append, List.nil_append, true_and, and_true, if_true, if_false, true_or, or_true, Nat.reduceAdd, Int.reduceAdd, Bool.false_eq_true, tn_0, tn_1, tn_2, tn_3, tn_4, tn_5, tn_6, tn_7, bit1 set h32, eo]
            refine ⟨fun c6 => ?_, fun c6 => ?_⟩
            · refine J_blk a_X6_bears_105 ?_
              simp only [b_X6_bears_105, w_iconst_0, w_nil, kd_46, kd_47, kd_48, kd_49, kd_50, kd_51, kd_52, kd_53, kd_54, kd_55, kd_56, kd_57, kd_58, kd_59, ln_47, ln_48, ln_49, ln_50, ln_51, ln_52, ln_53, ln_54, ln_55, ln_56, ln_57, ln_58, ln_59, Option.toList_some, Option.toList_none, List.cons_append, List.nil_append, true_and, and_true, if_true, if_false, true_or, or_true, Nat.reduceAdd, Int.reduceAdd, Bool.false_eq_true, tn_0, tn_1, tn_2, tn_3, tn_4, tn_5, tn_6, tn_7, bit1 set h32, eo]
              refine J_blk a_X6_bears_106 ?_
              simp only [b_X6_bears_106, w_iadd, w_istore4, nl_4n, nl_4i, nl_4a, w_iinc5, nl_5n, nl_5i, nl_5a, ci_1, w_goto, kd_46, kd_47, kd_48, kd_49, kd_50, kd_51, kd_52, kd_53, kd_54, kd_55, kd_56, kd_57, kd_58, kd_59, ln_47, ln_48, ln_49, ln_50, ln_51, ln_52, ln_53, ln_54, ln_55, ln_56, ln_57, ln_58, ln_59, Option.toList_some, Option.toList_none, List.cons_append, List.nil_append, true_and, and_true, if_true, if_false, true_or, or_true, Nat.reduceAdd, Int.reduceAdd, Bool.false_eq_true, tn_0, tn_1, tn_2, tn_3, tn_4, tn_5, tn_6, tn_7, bit1 set h32, eo]
              first | exact J_cast (ih (some (.int 1))) (by simp only [plS, upS, nI_1, List.cons.injEq, Option.some.injEq, Value.int.injEq, true_and, and_true]; grind) rfl rfl | exact J_cast (ih (some (.int 0))) (by simp only [plS, upS, nI_1, List.cons.injEq, Option.some.injEq, Value.int.injEq, true_and, and_true]; grind) rfl rfl
            · refine J_blk a_X6_bears_88 ?_
              simp only [b_X6_bears_88, w_aload_n0, w_iload5, w_iconst_1, w_nil, kd_46, kd_47, kd_48, kd_49, kd_50, kd_51, kd_52, kd_53, kd_54, kd_55, kd_56, kd_57, kd_58, kd_59, ln_47, ln_48, ln_49, ln_50, ln_51, ln_52, ln_53, ln_54, ln_55, ln_56, ln_57, ln_58, ln_59, Option.toList_some, Option.toList_none, List.cons_append, List.nil_append, true_and, and_true, if_true, if_false, true_or, or_true, Nat.reduceAdd, Int.reduceAdd, Bool.false_eq_true, tn_0, tn_1, tn_2, tn_3, tn_4, tn_5, tn_6, tn_7, bit1 set h32, eo]
              refine J_callVr (ci := 6) (its_ok _ 1 _ (by omega)) k_X6_bears_92 o_X6_its rfl rfl rfl rfl (by decide) rfl (Nat.le_of_ble_eq_true rfl) ?_
              refine J_blk a_X6_bears_95 ?_
              simp only [b_X6_bears_95, w_iconst_1, w_iload_n1, w_iadd, w_icmp_ne, w_nil, kd_46, kd_47, kd_48, kd_49, kd_50, kd_51, kd_52, kd_53, kd_54, kd_55, kd_56, kd_57, kd_58, kd_59, ln_47, ln_48, ln_49, ln_50, ln_51, ln_52, ln_53, ln_54, ln_55, ln_56, ln_57, ln_58, ln_59, Option.toList_some, Option.toList_none, List.cons_append, List.nil_append, true_and, and_true, if_true, if_false, true_or, or_true, Nat.reduceAdd, Int.reduceAdd, Bool.false_eq_true, tn_0, tn_1, tn_2, tn_3, tn_4, tn_5, tn_6, tn_7, bit1 set h32, eo]
              refine ⟨fun c7 => ?_, fun c7 => ?_⟩
              · refine J_blk a_X6_bears_105 ?_
                simp only [b_X6_bears_105, w_iconst_0, w_nil, kd_46, kd_47, kd_48, kd_49, kd_50, kd_51, kd_52, kd_53, kd_54, kd_55, kd_56, kd_57, kd_58, kd_59, ln_47, ln_48, ln_49, ln_50, ln_51, ln_52, ln_53, ln_54, ln_55, ln_56, ln_57, ln_58, ln_59, Option.toList_some, Option.toList_none, List.cons_append, List.nil_append, true_and, and_true, if_true, if_false, true_or, or_true, Nat.reduceAdd, Int.reduceAdd, Bool.false_eq_true, tn_0, tn_1, tn_2, tn_3, tn_4, tn_5, tn_6, tn_7, bit1 set h32, eo]
                refine J_blk a_X6_bears_106 ?_
                simp only [b_X6_bears_106, w_iadd, w_istore4, nl_4n, nl_4i, nl_4a, w_iinc5, nl_5n, nl_5i, nl_5a, ci_1, w_goto, kd_46, kd_47, kd_48, kd_49, kd_50, kd_51, kd_52, kd_53, kd_54, kd_55, kd_56, kd_57, kd_58, kd_59, ln_47, ln_48, ln_49, ln_50, ln_51, ln_52, ln_53, ln_54, ln_55, ln_56, ln_57, ln_58, ln_59, Option.toList_some, Option.toList_none, List.cons_append, List.nil_append, true_and, and_true, if_true, if_false, true_or, or_true, Nat.reduceAdd, Int.reduceAdd, Bool.false_eq_true, tn_0, tn_1, tn_2, tn_3, tn_4, tn_5, tn_6, tn_7, bit1 set h32, eo]
                first | exact J_cast (ih (some (.int 1))) (by simp only [plS, upS, nI_1, List.cons.injEq, Option.some.injEq, Value.int.injEq, true_and, and_true]; grind) rfl rfl | exact J_cast (ih (some (.int 0))) (by simp only [plS, upS, nI_1, List.cons.injEq, Option.some.injEq, Value.int.injEq, true_and, and_true]; grind) rfl rfl
              · refine J_blk a_X6_bears_101 ?_
                simp only [b_X6_bears_101, w_iconst_1, w_goto, kd_46, kd_47, kd_48, kd_49, kd_50, kd_51, kd_52, kd_53, kd_54, kd_55, kd_56, kd_57, kd_58, kd_59, ln_47, ln_48, ln_49, ln_50, ln_51, ln_52, ln_53, ln_54, ln_55, ln_56, ln_57, ln_58, ln_59, Option.toList_some, Option.toList_none, List.cons_append, List.nil_append, true_and, and_true, if_true, if_false, true_or, or_true, Nat.reduceAdd, Int.reduceAdd, Bool.false_eq_true, tn_0, tn_1, tn_2, tn_3, tn_4, tn_5, tn_6, tn_7, bit1 set h32, eo]
                refine J_blk a_X6_bears_106 ?_
                simp only [b_X6_bears_106, w_iadd, w_istore4, nl_4n, nl_4i, nl_4a, w_iinc5, nl_5n, nl_5i, nl_5a, ci_1, w_goto, kd_46, kd_47, kd_48, kd_49, kd_50, kd_51, kd_52, kd_53, kd_54, kd_55, kd_56, kd_57, kd_58, kd_59, ln_47, ln_48, ln_49, ln_50, ln_51, ln_52, ln_53, ln_54, ln_55, ln_56, ln_57, ln_58, ln_59, Option.toList_some, Option.toList_none, List.cons_append, List.nil_append, true_and, and_true, if_true, if_false, true_or, or_true, Nat.reduceAdd, Int.reduceAdd, Bool.false_eq_true, tn_0, tn_1, tn_2, tn_3, tn_4, tn_5, tn_6, tn_7, bit1 set h32, eo]
                first | exact J_cast (ih (some (.int 1))) (by simp only [plS, upS, nI_1, List.cons.injEq, Option.some.injEq, Value.int.injEq, true_and, and_true]; grind) rfl rfl | exact J_cast (ih (some (.int 0))) (by simp only [plS, upS, nI_1, List.cons.injEq, Option.some.injEq, Value.int.injEq, true_and, and_true]; grind) rfl rfl
          · refine J_blk a_X6_bears_53 ?_
            simp only [b_X6_bears_53, w_aload_n0, w_iload5, w_iconst_1, w_nil, kd_46, kd_47, kd_48, kd_49, kd_50, kd_51, kd_52, kd_53, kd_54, kd_55, kd_56, kd_57, kd_58, kd_59, ln_47, ln_48, ln_49, ln_50, ln_51, ln_52, ln_53, ln_54, ln_55, ln_56, ln_57, ln_58, ln_59, Option.toList_some, Option.toList_none, List.cons_append, List.nil_append, true_and, and_true, if_true, if_false, true_or, or_true, Nat.reduceAdd, Int.reduceAdd, Bool.false_eq_true, tn_0, tn_1, tn_2, tn_3, tn_4, tn_5, tn_6, tn_7, bit1 set h32, eo]
            refine J_callVr (ci := 6) (its_ok _ 1 _ (by omega)) k_X6_bears_57 o_X6_its rfl rfl rfl rfl (by decide) rfl (Nat.le_of_ble_eq_true rfl) ?_
            refine J_blk a_X6_bears_60 ?_
            simp only [b_X6_bears_60, w_aload_n0, w_iload_n1, w_iconst_1, w_nil, kd_46, kd_47, kd_48, kd_49, kd_50, kd_51, kd_52, kd_53, kd_54, kd_55, kd_56, kd_57, kd_58, kd_59, ln_47, ln_48, ln_49, ln_50, ln_51, ln_52, ln_53, ln_54, ln_55, ln_56, ln_57, ln_58, ln_59, Option.toList_some, Option.toList_none, List.cons_append, List.nil_append, true_and, and_true, if_true, if_false, true_or, or_true, Nat.reduceAdd, Int.reduceAdd, Bool.false_eq_true, tn_0, tn_1, tn_2, tn_3, tn_4, tn_5, tn_6, tn_7, bit1 set h32, eo]
            refine J_callVr (ci := 6) (its_ok _ 1 _ (by omega)) k_X6_bears_63 o_X6_its rfl rfl rfl rfl (by decide) rfl (Nat.le_of_ble_eq_true rfl) ?_
            refine J_blk a_X6_bears_66 ?_
            simp only [b_X6_bears_66, w_icmp_ne, w_nil, kd_46, kd_47, kd_48, kd_49, kd_50, kd_51, kd_52, kd_53, kd_54, kd_55, kd_56, kd_57, kd_58, kd_59, ln_47, ln_48, ln_49, ln_50, ln_51, ln_52, ln_53, ln_54, ln_55, ln_56, ln_57, ln_58, ln_59, Option.toList_some, Option.toList_none, List.cons_append, List.nil_append, true_and, and_true, if_true, if_false, true_or, or_true, Nat.reduceAdd, Int.reduceAdd, Bool.false_eq_true, tn_0, tn_1, tn_2, tn_3, tn_4, tn_5, tn_6, tn_7, bit1 set h32, eo]
            refine ⟨fun c8 => ?_, fun c8 => ?_⟩
            · refine J_blk a_X6_bears_78 ?_
              simp only [b_X6_bears_78, w_iconst_0, w_nil, kd_46, kd_47, kd_48, kd_49, kd_50, kd_51, kd_52, kd_53, kd_54, kd_55, kd_56, kd_57, kd_58, kd_59, ln_47, ln_48, ln_49, ln_50, ln_51, ln_52, ln_53, ln_54, ln_55, ln_56, ln_57, ln_58, ln_59, Option.toList_some, Option.toList_none, List.cons_append, List.nil_append, true_and, and_true, if_true, if_false, true_or, or_true, Nat.reduceAdd, Int.reduceAdd, Bool.false_eq_true, tn_0, tn_1, tn_2, tn_3, tn_4, tn_5, tn_6, tn_7, bit1 set h32, eo]
              refine J_blk a_X6_bears_79 ?_
              simp only [b_X6_bears_79, w_isub, w_istore3, nl_3n, nl_3i, nl_3a, w_iload4, w_iload6, w_if_eq, w_nil, kd_46, kd_47, kd_48, kd_49, kd_50, kd_51, kd_52, kd_53, kd_54, kd_55, kd_56, kd_57, kd_58, kd_59, ln_47, ln_48, ln_49, ln_50, ln_51, ln_52, ln_53, ln_54, ln_55, ln_56, ln_57, ln_58, ln_59, Option.toList_some, Option.toList_none, List.cons_append, List.nil_append, true_and, and_true, if_true, if_false, true_or, or_true, Nat.reduceAdd, Int.reduceAdd, Bool.false_eq_true, tn_0, tn_1, tn_2, tn_3, tn_4, tn_5, tn_6, tn_7, bit1 set h32, eo]
              refine ⟨fun c9 => ?_, fun c9 => ?_⟩
              · refine J_blk a_X6_bears_105 ?_
                simp only [b_X6_bears_105, w_iconst_0, w_nil, kd_46, kd_47, kd_48, kd_49, kd_50, kd_51, kd_52, kd_53, kd_54, kd_55, kd_56, kd_57, kd_58, kd_59, ln_47, ln_48, ln_49, ln_50, ln_51, ln_52, ln_53, ln_54, ln_55, ln_56, ln_57, ln_58, ln_59, Option.toList_some, Option.toList_none, List.cons_append, List.nil_append, true_and, and_true, if_true, if_false, true_or, or_true, Nat.reduceAdd, Int.reduceAdd, Bool.false_eq_true, tn_0, tn_1, tn_2, tn_3, tn_4, tn_5, tn_6, tn_7, bit1 set h32, eo]
                refine J_blk a_X6_bears_106 ?_
                simp only [b_X6_bears_106, w_iadd, w_istore4, nl_4n, nl_4i, nl_4a, w_iinc5, nl_5n, nl_5i, nl_5a, ci_1, w_goto, kd_46, kd_47, kd_48, kd_49, kd_50, kd_51, kd_52, kd_53, kd_54, kd_55, kd_56, kd_57, kd_58, kd_59, ln_47, ln_48, ln_49, ln_50, ln_51, ln_52, ln_53, ln_54, ln_55, ln_56, ln_57, ln_58, ln_59, Option.toList_some, Option.toList_none, List.cons_append, List.nil_append, true_and, and_true, if_true, if_false, true_or, or_true, Nat.reduceAdd, Int.reduceAdd, Bool.false_eq_true, tn_0, tn_1, tn_2, tn_3, tn_4, tn_5, tn_6, tn_7, bit1 set h32, eo]
                first | exact J_cast (ih (some (.int 1))) (by simp only [plS, upS, nI_1, List.cons.injEq, Option.some.injEq, Value.int.injEq, true_and, and_true]; grind) rfl rfl | exact J_cast (ih (some (.int 0))) (by simp only [plS, upS, nI_1, List.cons.injEq, Option.some.injEq, Value.int.injEq, true_and, and_true]; grind) rfl rfl
              · refine J_blk a_X6_bears_88 ?_
                simp only [b_X6_bears_88, w_aload_n0, w_iload5, w_iconst_1, w_nil, kd_46, kd_47, kd_48, kd_49, kd_50, kd_51, kd_52, kd_53, kd_54, kd_55, kd_56, kd_57, kd_58, kd_59, ln_47, ln_48, ln_49, ln_50, ln_51, ln_52, ln_53, ln_54, ln_55, ln_56, ln_57, ln_58, ln_59, Option.toList_some, Option.toList_none, List.cons_append, List.nil_append, true_and, and_true, if_true, if_false, true_or, or_true, Nat.reduceAdd, Int.reduceAdd, Bool.false_eq_true, tn_0, tn_1, tn_2, tn_3, tn_4, tn_5, tn_6, tn_7, bit1 set h32, eo]
                refine J_callVr (ci := 6) (its_ok _ 1 _ (by omega)) k_X6_bears_92 o_X6_its rfl rfl rfl rfl (by decide) rfl (Nat.le_of_ble_eq_true rfl) ?_
                refine J_blk a_X6_bears_95 ?_
                simp only [b_X6_bears_95, w_iconst_1, w_iload_n1, w_iadd, w_icmp_ne, w_nil, kd_46, kd_47, kd_48, kd_49, kd_50, kd_51, kd_52, kd_53, kd_54, kd_55, kd_56, kd_57, kd_58, kd_59, ln_47, ln_48, ln_49, ln_50, ln_51, ln_52, ln_53, ln_54, ln_55, ln_56, ln_57, ln_58, ln_59, Option.toList_some, Option.toList_none, List.cons_append, List.nil_append, true_and, and_true, if_true, if_false, true_or, or_true, Nat.reduceAdd, Int.reduceAdd, Bool.false_eq_true, tn_0, tn_1, tn_2, tn_3, tn_4, tn_5, tn_6, tn_7, bit1 set h32, eo]
                refine ⟨fun c10 => ?_, fun c10 => ?_⟩
                · refine J_blk a_X6_bears_105 ?_
                  simp only [b_X6_bears_105, w_iconst_0, w_nil, kd_46, kd_47, kd_48, kd_49, kd_50, kd_51, kd_52, kd_53, kd_54, kd_55, kd_56, kd_57, kd_58, kd_59, ln_47, ln_48, ln_49, ln_50, ln_51, ln_52, ln_53, ln_54, ln_55, ln_56, ln_57, ln_58, ln_59, Option.toList_some, Option.toList_none, List.cons_append, List.nil_append, true_and, and_true, if_true, if_false, true_or, or_true, Nat.reduceAdd, Int.reduceAdd, Bool.false_eq_true, tn_0, tn_1, tn_2, tn_3, tn_4, tn_5, tn_6, tn_7, bit1 set h32, eo]
                  refine J_blk a_X6_bears_106 ?_
                  simp only [b_X6_bears_106, w_iadd, w_istore4, nl_4n, nl_4i, nl_4a, w_iinc5, nl_5n, nl_5i, nl_5a, ci_1, w_goto, kd_46, kd_47, kd_48, kd_49, kd_50, kd_51, kd_52, kd_53, kd_54, kd_55, kd_56, kd_57, kd_58, kd_59, ln_47, ln_48, ln_49, ln_50, ln_51, ln_52, ln_53, ln_54, ln_55, ln_56, ln_57, ln_58, ln_59, Option.toList_some, Option.toList_none, List.cons_append, List.nil_append, true_and, and_true, if_true, if_false, true_or, or_true, Nat.reduceAdd, Int.reduceAdd, Bool.false_eq_true, tn_0, tn_1, tn_2, tn_3, tn_4, tn_5, tn_6, tn_7, bit1 set h32, eo]
                  first | exact J_cast (ih (some (.int 1))) (by simp only [plS, upS, nI_1, List.cons.injEq, Option.some.injEq, Value.int.injEq, true_and, and_true]; grind) rfl rfl | exact J_cast (ih (some (.int 0))) (by simp only [plS, upS, nI_1, List.cons.injEq, Option.some.injEq, Value.int.injEq, true_and, and_true]; grind) rfl rfl
                · refine J_blk a_X6_bears_101 ?_
                  simp only [b_X6_bears_101, w_iconst_1, w_goto, kd_46, kd_47, kd_48, kd_49, kd_50, kd_51, kd_52, kd_53, kd_54, kd_55, kd_56, kd_57, kd_58, kd_59, ln_47, ln_48, ln_49, ln_50, ln_51, ln_52, ln_53, ln_54, ln_55, ln_56, ln_57, ln_58, ln_59, Option.toList_some, Option.toList_none, List.cons_append, List.nil_append, true_and, and_true, if_true, if_false, true_or, or_true, Nat.reduceAdd, Int.reduceAdd, Bool.false_eq_true, tn_0, tn_1, tn_2, tn_3, tn_4, tn_5, tn_6, tn_7, bit1 set h32, eo]
                  refine J_blk a_X6_bears_106 ?_
                  simp only [b_X6_bears_106, w_iadd, w_istore4, nl_4n, nl_4i, nl_4a, w_iinc5, nl_5n, nl_5i, nl_5a, ci_1, w_goto, kd_46, kd_47, kd_48, kd_49, kd_50, kd_51, kd_52, kd_53, kd_54, kd_55, kd_56, kd_57, kd_58, kd_59, ln_47, ln_48, ln_49, ln_50, ln_51, ln_52, ln_53, ln_54, ln_55, ln_56, ln_57, ln_58, ln_59, Option.toList_some, Option.toList_none, List.cons_append, List.nil_append, true_and, and_true, if_true, if_false, true_or, or_true, Nat.reduceAdd, Int.reduceAdd, Bool.false_eq_true, tn_0, tn_1, tn_2, tn_3, tn_4, tn_5, tn_6, tn_7, bit1 set h32, eo]
                  first | exact J_cast (ih (some (.int 1))) (by simp only [plS, upS, nI_1, List.cons.injEq, Option.some.injEq, Value.int.injEq, true_and, and_true]; grind) rfl rfl | exact J_cast (ih (some (.int 0))) (by simp only [plS, upS, nI_1, List.cons.injEq, Option.some.injEq, Value.int.injEq, true_and, and_true]; grind) rfl rfl
            · refine J_blk a_X6_bears_69 ?_
              simp only [b_X6_bears_69, w_aload_n0, w_iload5, w_nil, kd_46, kd_47, kd_48, kd_49, kd_50, kd_51, kd_52, kd_53, kd_54, kd_55, kd_56, kd_57, kd_58, kd_59, ln_47, ln_48, ln_49, ln_50, ln_51, ln_52, ln_53, ln_54, ln_55, ln_56, ln_57, ln_58, ln_59, Option.toList_some, Option.toList_none, List.cons_append, List.nil_append, true_and, and_true, if_true, if_false, true_or, or_true, Nat.reduceAdd, Int.reduceAdd, Bool.false_eq_true, tn_0, tn_1, tn_2, tn_3, tn_4, tn_5, tn_6, tn_7, bit1 set h32, eo]
              refine J_callVr (ci := 6) (hinders_ok _ n _ hw (by omega)) k_X6_bears_72 o_X6_hinders rfl rfl rfl rfl (by decide) rfl (Nat.le_of_ble_eq_true rfl) ?_
              refine J_blk a_X6_bears_75 ?_
              simp only [b_X6_bears_75, w_goto, kd_46, kd_47, kd_48, kd_49, kd_50, kd_51, kd_52, kd_53, kd_54, kd_55, kd_56, kd_57, kd_58, kd_59, ln_47, ln_48, ln_49, ln_50, ln_51, ln_52, ln_53, ln_54, ln_55, ln_56, ln_57, ln_58, ln_59, Option.toList_some, Option.toList_none, List.cons_append, List.nil_append, true_and, and_true, if_true, if_false, true_or, or_true, Nat.reduceAdd, Int.reduceAdd, Bool.false_eq_true, tn_0, tn_1, tn_2, tn_3, tn_4, tn_5, tn_6, tn_7, bit1 set h32, eo]
              refine J_blk a_X6_bears_79 ?_
              simp only [b_X6_bears_79, w_isub, w_istore3, nl_3n, nl_3i, nl_3a, w_iload4, w_iload6, w_if_eq, w_nil, kd_46, kd_47, kd_48, kd_49, kd_50, kd_51, kd_52, kd_53, kd_54, kd_55, kd_56, kd_57, kd_58, kd_59, ln_47, ln_48, ln_49, ln_50, ln_51, ln_52, ln_53, ln_54, ln_55, ln_56, ln_57, ln_58, ln_59, Option.toList_some, Option.toList_none, List.cons_append, List.nil_append, true_and, and_true, if_true, if_false, true_or, or_true, Nat.reduceAdd, Int.reduceAdd, Bool.false_eq_true, tn_0, tn_1, tn_2, tn_3, tn_4, tn_5, tn_6, tn_7, bit1 set h32, eo]
              refine ⟨fun c11 => ?_, fun c11 => ?_⟩
              · refine J_blk a_X6_bears_105 ?_
                simp only [b_X6_bears_105, w_iconst_0, w_nil, kd_46, kd_47, kd_48, kd_49, kd_50, kd_51, kd_52, kd_53, kd_54, kd_55, kd_56, kd_57, kd_58, kd_59, ln_47, ln_48, ln_49, ln_50, ln_51, ln_52, ln_53, ln_54, ln_55, ln_56, ln_57, ln_58, ln_59, Option.toList_some, Option.toList_none, List.cons_append, List.nil_append, true_and, and_true, if_true, if_false, true_or, or_true, Nat.reduceAdd, Int.reduceAdd, Bool.false_eq_true, tn_0, tn_1, tn_2, tn_3, tn_4, tn_5, tn_6, tn_7, bit1 set h32, eo]
                refine J_blk a_X6_bears_106 ?_
                simp only [b_X6_bears_106, w_iadd, w_istore4, nl_4n, nl_4i, nl_4a, w_iinc5, nl_5n, nl_5i, nl_5a, ci_1, w_goto, kd_46, kd_47, kd_48, kd_49, kd_50, kd_51, kd_52, kd_53, kd_54, kd_55, kd_56, kd_57, kd_58, kd_59, ln_47, ln_48, ln_49, ln_50, ln_51, ln_52, ln_53, ln_54, ln_55, ln_56, ln_57, ln_58, ln_59, Option.toList_some, Option.toList_none, List.cons_append, List.nil_append, true_and, and_true, if_true, if_false, true_or, or_true, Nat.reduceAdd, Int.reduceAdd, Bool.false_eq_true, tn_0, tn_1, tn_2, tn_3, tn_4, tn_5, tn_6, tn_7, bit1 set h32, eo]
                first | exact J_cast (ih (some (.int 1))) (by simp only [plS, upS, nI_1, List.cons.injEq, Option.some.injEq, Value.int.injEq, true_and, and_true]; grind) rfl rfl | exact J_cast (ih (some (.int 0))) (by simp only [plS, upS, nI_1, List.cons.injEq, Option.some.injEq, Value.int.injEq, true_and, and_true]; grind) rfl rfl
              · refine J_blk a_X6_bears_88 ?_
                simp only [b_X6_bears_88, w_aload_n0, w_iload5, w_iconst_1, w_nil, kd_46, kd_47, kd_48, kd_49, kd_50, kd_51, kd_52, kd_53, kd_54, kd_55, kd_56, kd_57, kd_58, kd_59, ln_47, ln_48, ln_49, ln_50, ln_51, ln_52, ln_53, ln_54, ln_55, ln_56, ln_57, ln_58, ln_59, Option.toList_some, Option.toList_none, List.cons_append, List.nil_append, true_and, and_true, if_true, if_false, true_or, or_true, Nat.reduceAdd, Int.reduceAdd, Bool.false_eq_true, tn_0, tn_1, tn_2, tn_3, tn_4, tn_5, tn_6, tn_7, bit1 set h32, eo]
                refine J_callVr (ci := 6) (its_ok _ 1 _ (by omega)) k_X6_bears_92 o_X6_its rfl rfl rfl rfl (by decide) rfl (Nat.le_of_ble_eq_true rfl) ?_
                refine J_blk a_X6_bears_95 ?_
                simp only [b_X6_bears_95, w_iconst_1, w_iload_n1, w_iadd, w_icmp_ne, w_nil, kd_46, kd_47, kd_48, kd_49, kd_50, kd_51, kd_52, kd_53, kd_54, kd_55, kd_56, kd_57, kd_58, kd_59, ln_47, ln_48, ln_49, ln_50, ln_51, ln_52, ln_53, ln_54, ln_55, ln_56, ln_57, ln_58, ln_59, Option.toList_some, Option.toList_none, List.cons_append, List.nil_append, true_and, and_true, if_true, if_false, true_or, or_true, Nat.reduceAdd, Int.reduceAdd, Bool.false_eq_true, tn_0, tn_1, tn_2, tn_3, tn_4, tn_5, tn_6, tn_7, bit1 set h32, eo]
                refine ⟨fun c12 => ?_, fun c12 => ?_⟩
                · refine J_blk a_X6_bears_105 ?_
                  simp only [b_X6_bears_105, w_iconst_0, w_nil, kd_46, kd_47, kd_48, kd_49, kd_50, kd_51, kd_52, kd_53, kd_54, kd_55, kd_56, kd_57, kd_58, kd_59, ln_47, ln_48, ln_49, ln_50, ln_51, ln_52, ln_53, ln_54, ln_55, ln_56, ln_57, ln_58, ln_59, Option.toList_some, Option.toList_none, List.cons_append, List.nil_append, true_and, and_true, if_true, if_false, true_or, or_true, Nat.reduceAdd, Int.reduceAdd, Bool.false_eq_true, tn_0, tn_1, tn_2, tn_3, tn_4, tn_5, tn_6, tn_7, bit1 set h32, eo]
                  refine J_blk a_X6_bears_106 ?_
                  simp only [b_X6_bears_106, w_iadd, w_istore4, nl_4n, nl_4i, nl_4a, w_iinc5, nl_5n, nl_5i, nl_5a, ci_1, w_goto, kd_46, kd_47, kd_48, kd_49, kd_50, kd_51, kd_52, kd_53, kd_54, kd_55, kd_56, kd_57, kd_58, kd_59, ln_47, ln_48, ln_49, ln_50, ln_51, ln_52, ln_53, ln_54, ln_55, ln_56, ln_57, ln_58, ln_59, Option.toList_some, Option.toList_none, List.cons_append, List.nil_append, true_and, and_true, if_true, if_false, true_or, or_true, Nat.reduceAdd, Int.reduceAdd, Bool.false_eq_true, tn_0, tn_1, tn_2, tn_3, tn_4, tn_5, tn_6, tn_7, bit1 set h32, eo]
                  first | exact J_cast (ih (some (.int 1))) (by simp only [plS, upS, nI_1, List.cons.injEq, Option.some.injEq, Value.int.injEq, true_and, and_true]; grind) rfl rfl | exact J_cast (ih (some (.int 0))) (by simp only [plS, upS, nI_1, List.cons.injEq, Option.some.injEq, Value.int.injEq, true_and, and_true]; grind) rfl rfl
                · refine J_blk a_X6_bears_101 ?_
                  simp only [b_X6_bears_101, w_iconst_1, w_goto, kd_46, kd_47, kd_48, kd_49, kd_50, kd_51, kd_52, kd_53, kd_54, kd_55, kd_56, kd_57, kd_58, kd_59, ln_47, ln_48, ln_49, ln_50, ln_51, ln_52, ln_53, ln_54, ln_55, ln_56, ln_57, ln_58, ln_59, Option.toList_some, Option.toList_none, List.cons_append, List.nil_append, true_and, and_true, if_true, if_false, true_or, or_true, Nat.reduceAdd, Int.reduceAdd, Bool.false_eq_true, tn_0, tn_1, tn_2, tn_3, tn_4, tn_5, tn_6, tn_7, bit1 set h32, eo]
                  refine J_blk a_X6_bears_106 ?_
                  simp only [b_X6_bears_106, w_iadd, w_istore4, nl_4n, nl_4i, nl_4a, w_iinc5, nl_5n, nl_5i, nl_5a, ci_1, w_goto, kd_46, kd_47, kd_48, kd_49, kd_50, kd_51, kd_52, kd_53, kd_54, kd_55, kd_56, kd_57, kd_58, kd_59, ln_47, ln_48, ln_49, ln_50, ln_51, ln_52, ln_53, ln_54, ln_55, ln_56, ln_57, ln_58, ln_59, Option.toList_some, Option.toList_none, List.cons_append, List.nil_append, true_and, and_true, if_true, if_false, true_or, or_true, Nat.reduceAdd, Int.reduceAdd, Bool.false_eq_true, tn_0, tn_1, tn_2, tn_3, tn_4, tn_5, tn_6, tn_7, bit1 set h32, eo]
                  first | exact J_cast (ih (some (.int 1))) (by simp only [plS, upS, nI_1, List.cons.injEq, Option.some.injEq, Value.int.injEq, true_and, and_true]; grind) rfl rfl | exact J_cast (ih (some (.int 0))) (by simp only [plS, upS, nI_1, List.cons.injEq, Option.some.injEq, Value.int.injEq, true_and, and_true]; grind) rfl rfl
      · refine J_blk a_X6_bears_34 ?_
        simp only [b_X6_bears_34, w_iconst_1, w_goto, kd_46, kd_47, kd_48, kd_49, kd_50, kd_51, kd_52, kd_53, kd_54, kd_55, kd_56, kd_57, kd_58, kd_59, ln_47, ln_48, ln_49, ln_50, ln_51, ln_52, ln_53, ln_54, ln_55, ln_56, ln_57, ln_58, ln_59, Option.toList_some, Option.toList_none, List.cons_append, List.nil_append, true_and, and_true, if_true, if_false, true_or, or_true, Nat.reduceAdd, Int.reduceAdd, Bool.false_eq_true, tn_0, tn_1, tn_2, tn_3, tn_4, tn_5, tn_6, tn_7, bit1 set h32, eo]
        refine J_blk a_X6_bears_39 ?_
        simp only [b_X6_bears_39, w_istore6, nl_6n, nl_6i, nl_6a, w_iload_n3, w_iload6, w_if_eq, w_nil, kd_46, kd_47, kd_48, kd_49, kd_50, kd_51, kd_52, kd_53, kd_54, kd_55, kd_56, kd_57, kd_58, kd_59, ln_47, ln_48, ln_49, ln_50, ln_51, ln_52, ln_53, ln_54, ln_55, ln_56, ln_57, ln_58, ln_59, Option.toList_some, Option.toList_none, List.cons_append, List.nil_append, true_and, and_true, if_true, if_false, true_or, or_true, Nat.reduceAdd, Int.reduceAdd, Bool.false_eq_true, tn_0, tn_1, tn_2, tn_3, tn_4, tn_5, tn_6, tn_7, bit1 set h32, eo]
        refine ⟨fun c13 => ?_, fun c13 => ?_⟩
        · refine J_blk a_X6_bears_78 ?_
          simp only [b_X6_bears_78, w_iconst_0, w_nil, kd_46, kd_47, kd_48, kd_49, kd_50, kd_51, kd_52, kd_53, kd_54, kd_55, kd_56, kd_57, kd_58, kd_59, ln_47, ln_48, ln_49, ln_50, ln_51, ln_52, ln_53, ln_54, ln_55, ln_56, ln_57, ln_58, ln_59, Option.toList_some, Option.toList_none, List.cons_append, List.nil_append, true_and, and_true, if_true, if_false, true_or, or_true, Nat.reduceAdd, Int.reduceAdd, Bool.false_eq_true, tn_0, tn_1, tn_2, tn_3, tn_4, tn_5, tn_6, tn_7, bit1 set h32, eo]
          refine J_blk a_X6_bears_79 ?_
          simp only [b_X6_bears_79, w_isub, w_istore3, nl_3n, nl_3i, nl_3a, w_iload4, w_iload6, w_if_eq, w_nil, kd_46, kd_47, kd_48, kd_49, kd_50, kd_51, kd_52, kd_53, kd_54, kd_55, kd_56, kd_57, kd_58, kd_59, ln_47, ln_48, ln_49, ln_50, ln_51, ln_52, ln_53, ln_54, ln_55, ln_56, ln_57, ln_58, ln_59, Option.toList_some, Option.toList_none, List.cons_append, List.nil_append, true_and, and_true, if_true, if_false, true_or, or_true, Nat.reduceAdd, Int.reduceAdd, Bool.false_eq_true, tn_0, tn_1, tn_2, tn_3, tn_4, tn_5, tn_6, tn_7, bit1 set h32, eo]
          refine ⟨fun c14 => ?_, fun c14 => ?_⟩
          · refine J_blk a_X6_bears_105 ?_
            simp only [b_X6_bears_105, w_iconst_0, w_nil, kd_46, kd_47, kd_48, kd_49, kd_50, kd_51, kd_52, kd_53, kd_54, kd_55, kd_56, kd_57, kd_58, kd_59, ln_47, ln_48, ln_49, ln_50, ln_51, ln_52, ln_53, ln_54, ln_55, ln_56, ln_57, ln_58, ln_59, Option.toList_some, Option.toList_none, List.cons_append, List.nil_append, true_and, and_true, if_true, if_false, true_or, or_true, Nat.reduceAdd, Int.reduceAdd, Bool.false_eq_true, tn_0, tn_1, tn_2, tn_3, tn_4, tn_5, tn_6, tn_7, bit1 set h32, eo]
            refine J_blk a_X6_bears_106 ?_
            simp only [b_X6_bears_106, w_iadd, w_istore4, nl_4n, nl_4i, nl_4a, w_iinc5, nl_5n, nl_5i, nl_5a, ci_1, w_goto, kd_46, kd_47, kd_48, kd_49, kd_50, kd_51, kd_52, kd_53, kd_54, kd_55, kd_56, kd_57, kd_58, kd_59, ln_47, ln_48, ln_49, ln_50, ln_51, ln_52, ln_53, ln_54, ln_55, ln_56, ln_57, ln_58, ln_59, Option.toList_some, Option.toList_none, List.cons_append, List.nil_append, true_and, and_true, if_true, if_false, true_or, or_true, Nat.reduceAdd, Int.reduceAdd, Bool.false_eq_true, tn_0, tn_1, tn_2, tn_3, tn_4, tn_5, tn_6, tn_7, bit1 set h32, eo]
            first | exact J_cast (ih (some (.int 1))) (by simp only [plS, upS, nI_1, List.cons.injEq, Option.some.injEq, Value.int.injEq, true_and, and_true]; grind) rfl rfl | exact J_cast (ih (some (.int 0))) (by simp only [plS, upS, nI_1, List.cons.injEq, Option.some.injEq, Value.int.injEq, true_and, and_true]; grind) rfl rfl
          · refine J_blk a_X6_bears_88 ?_
            simp only [b_X6_bears_88, w_aload_n0, w_iload5, w_iconst_1, w_nil, kd_46, kd_47, kd_48, kd_49, kd_50, kd_51, kd_52, kd_53, kd_54, kd_55, kd_56, kd_57, kd_58, kd_59, ln_47, ln_48, ln_49, ln_50, ln_51, ln_52, ln_53, ln_54, ln_55, ln_56, ln_57, ln_58, ln_59, Option.toList_some, Option.toList_none, List.cons_append, List.nil_append, true_and, and_true, if_true, if_false, true_or, or_true, Nat.reduceAdd, Int.reduceAdd, Bool.false_eq_true, tn_0, tn_1, tn_2, tn_3, tn_4, tn_5, tn_6, tn_7, bit1 set h32, eo]
            refine J_callVr (ci := 6) (its_ok _ 1 _ (by omega)) k_X6_bears_92 o_X6_its rfl rfl rfl rfl (by decide) rfl (Nat.le_of_ble_eq_true rfl) ?_
            refine J_blk a_X6_bears_95 ?_
            simp only [b_X6_bears_95, w_iconst_1, w_iload_n1, w_iadd, w_icmp_ne, w_nil, kd_46, kd_47, kd_48, kd_49, kd_50, kd_51, kd_52, kd_53, kd_54, kd_55, kd_56, kd_57, kd_58, kd_59, ln_47, ln_48, ln_49, ln_50, ln_51, ln_52, ln_53, ln_54, ln_55, ln_56, ln_57, ln_58, ln_59, Option.toList_some, Option.toList_none, List.cons_append, List.nil_append, true_and, and_true, if_true, if_false, true_or, or_true, Nat.reduceAdd, Int.reduceAdd, Bool.false_eq_true, tn_0, tn_1, tn_2, tn_3, tn_4, tn_5, tn_6, tn_7, bit1 set h32, eo]
            refine ⟨fun c15 => ?_, fun c15 => ?_⟩
            · refine J_blk a_X6_bears_105 ?_
              simp only [b_X6_bears_105, w_iconst_0, w_nil, kd_46, kd_47, kd_48, kd_49, kd_50, kd_51, kd_52, kd_53, kd_54, kd_55, kd_56, kd_57, kd_58, kd_59, ln_47, ln_48, ln_49, ln_50, ln_51, ln_52, ln_53, ln_54, ln_55, ln_56, ln_57, ln_58, ln_59, Option.toList_some, Option.toList_none, List.cons_append, List.nil_append, true_and, and_true, if_true, if_false, true_or, or_true, Nat.reduceAdd, Int.reduceAdd, Bool.false_eq_true, tn_0, tn_1, tn_2, tn_3, tn_4, tn_5, tn_6, tn_7, bit1 set h32, eo]
              refine J_blk a_X6_bears_106 ?_
              simp only [b_X6_bears_106, w_iadd, w_istore4, nl_4n, nl_4i, nl_4a, w_iinc5, nl_5n, nl_5i, nl_5a, ci_1, w_goto, kd_46, kd_47, kd_48, kd_49, kd_50, kd_51, kd_52, kd_53, kd_54, kd_55, kd_56, kd_57, kd_58, kd_59, ln_47, ln_48, ln_49, ln_50, ln_51, ln_52, ln_53, ln_54, ln_55, ln_56, ln_57, ln_58, ln_59, Option.toList_some, Option.toList_none, List.cons_append, List.nil_append, true_and, and_true, if_true, if_false, true_or, or_true, Nat.reduceAdd, Int.reduceAdd, Bool.false_eq_true, tn_0, tn_1, tn_2, tn_3, tn_4, tn_5, tn_6, tn_7, bit1 set h32, eo]
              first | exact J_cast (ih (some (.int 1))) (by simp only [plS, upS, nI_1, List.cons.injEq, Option.some.injEq, Value.int.injEq, true_and, and_true]; grind) rfl rfl | exact J_cast (ih (some (.int 0))) (by simp only [plS, upS, nI_1, List.cons.injEq, Option.some.injEq, Value.int.injEq, true_and, and_true]; grind) rfl rfl
            · refine J_blk a_X6_bears_101 ?_
              simp only [b_X6_bears_101, w_iconst_1, w_goto, kd_46, kd_47, kd_48, kd_49, kd_50, kd_51, kd_52, kd_53, kd_54, kd_55, kd_56, kd_57, kd_58, kd_59, ln_47, ln_48, ln_49, ln_50, ln_51, ln_52, ln_53, ln_54, ln_55, ln_56, ln_57, ln_58, ln_59, Option.toList_some, Option.toList_none, List.cons_append, List.nil_append, true_and, and_true, if_true, if_false, true_or, or_true, Nat.reduceAdd, Int.reduceAdd, Bool.false_eq_true, tn_0, tn_1, tn_2, tn_3, tn_4, tn_5, tn_6, tn_7, bit1 set h32, eo]
              refine J_blk a_X6_bears_106 ?_
              simp only [b_X6_bears_106, w_iadd, w_istore4, nl_4n, nl_4i, nl_4a, w_iinc5, nl_5n, nl_5i, nl_5a, ci_1, w_goto, kd_46, kd_47, kd_48, kd_49, kd_50, kd_51, kd_52, kd_53, kd_54, kd_55, kd_56, kd_57, kd_58, kd_59, ln_47, ln_48, ln_49, ln_50, ln_51, ln_52, ln_53, ln_54, ln_55, ln_56, ln_57, ln_58, ln_59, Option.toList_some, Option.toList_none, List.cons_append, List.nil_append, true_and, and_true, if_true, if_false, true_or, or_true, Nat.reduceAdd, Int.reduceAdd, Bool.false_eq_true, tn_0, tn_1, tn_2, tn_3, tn_4, tn_5, tn_6, tn_7, bit1 set h32, eo]
              first | exact J_cast (ih (some (.int 1))) (by simp only [plS, upS, nI_1, List.cons.injEq, Option.some.injEq, Value.int.injEq, true_and, and_true]; grind) rfl rfl | exact J_cast (ih (some (.int 0))) (by simp only [plS, upS, nI_1, List.cons.injEq, Option.some.injEq, Value.int.injEq, true_and, and_true]; grind) rfl rfl
        · refine J_blk a_X6_bears_47 ?_
          simp only [b_X6_bears_47, w_iload5, w_iload_n1, w_icmp_eq, w_nil, kd_46, kd_47, kd_48, kd_49, kd_50, kd_51, kd_52, kd_53, kd_54, kd_55, kd_56, kd_57, kd_58, kd_59, ln_47, ln_48, ln_49, ln_50, ln_51, ln_52, ln_53, ln_54, ln_55, ln_56, ln_57, ln_58, ln_59, Option.toList_some, Option.toList_none, List.cons_append, List.nil_append, true_and, and_true, if_true, if_false, true_or, or_true, Nat.reduceAdd, Int.reduceAdd, Bool.false_eq_true, tn_0, tn_1, tn_2, tn_3, tn_4, tn_5, tn_6, tn_7, bit1 set h32, eo]
          refine ⟨fun c16 => ?_, fun c16 => ?_⟩
          · refine J_blk a_X6_bears_78 ?_
            simp only [b_X6_bears_78, w_iconst_0, w_nil, kd_46, kd_47, kd_48, kd_49, kd_50, kd_51, kd_52, kd_53, kd_54, kd_55, kd_56, kd_57, kd_58, kd_59, ln_47, ln_48, ln_49, ln_50, ln_51, ln_52, ln_53, ln_54, ln_55, ln_56, ln_57, ln_58, ln_59, Option.toList_some, Option.toList_none, List.cons_append, List.nil_append, true_and, and_true, if_true, if_false, true_or, or_true, Nat.reduceAdd, Int.reduceAdd, Bool.false_eq_true, tn_0, tn_1, tn_2, tn_3, tn_4, tn_5, tn_6, tn_7, bit1 set h32, eo]
            refine J_blk a_X6_bears_79 ?_
            simp only [b_X6_bears_79, w_isub, w_istore3, nl_3n, nl_3i, nl_3a, w_iload4, w_iload6, w_if_eq, w_nil, kd_46, kd_47, kd_48, kd_49, kd_50, kd_51, kd_52, kd_53, kd_54, kd_55, kd_56, kd_57, kd_58, kd_59, ln_47, ln_48, ln_49, ln_50, ln_51, ln_52, ln_53, ln_54, ln_55, ln_56, ln_57, ln_58, ln_59, Option.toList_some, Option.toList_none, List.cons_append, List.nil_append, true_and, and_true, if_true, if_false, true_or, or_true, Nat.reduceAdd, Int.reduceAdd, Bool.false_eq_true, tn_0, tn_1, tn_2, tn_3, tn_4, tn_5, tn_6, tn_7, bit1 set h32, eo]
            refine ⟨fun c17 => ?_, fun c17 => ?_⟩
            · refine J_blk a_X6_bears_105 ?_
              simp only [b_X6_bears_105, w_iconst_0, w_nil, kd_46, kd_47, kd_48, kd_49, kd_50, kd_51, kd_52, kd_53, kd_54, kd_55, kd_56, kd_57, kd_58, kd_59, ln_47, ln_48, ln_49, ln_50, ln_51, ln_52, ln_53, ln_54, ln_55, ln_56, ln_57, ln_58, ln_59, Option.toList_some, Option.toList_none, List.cons_append, List.nil_append, true_and, and_true, if_true, if_false, true_or, or_true, Nat.reduceAdd, Int.reduceAdd, Bool.false_eq_true, tn_0, tn_1, tn_2, tn_3, tn_4, tn_5, tn_6, tn_7, bit1 set h32, eo]
              refine J_blk a_X6_bears_106 ?_
              simp only [b_X6_bears_106, w_iadd, w_istore4, nl_4n, nl_4i, nl_4a, w_iinc5, nl_5n, nl_5i, nl_5a, ci_1, w_goto, kd_46, kd_47, kd_48, kd_49, kd_50, kd_51, kd_52, kd_53, kd_54, kd_55, kd_56, kd_57, kd_58, kd_59, ln_47, ln_48, ln_49, ln_50, ln_51, ln_52, ln_53, ln_54, ln_55, ln_56, ln_57, ln_58, ln_59, Option.toList_some, Option.toList_none, List.cons_append, List.nil_append, true_and, and_true, if_true, if_false, true_or, or_true, Nat.reduceAdd, Int.reduceAdd, Bool.false_eq_true, tn_0, tn_1, tn_2, tn_3, tn_4, tn_5, tn_6, tn_7, bit1 set h32, eo]
              first | exact J_cast (ih (some (.int 1))) (by simp only [plS, upS, nI_1, List.cons.injEq, Option.some.injEq, Value.int.injEq, true_and, and_true]; grind) rfl rfl | exact J_cast (ih (some (.int 0))) (by simp only [plS, upS, nI_1, List.cons.injEq, Option.some.injEq, Value.int.injEq, true_and, and_true]; grind) rfl rfl
            · refine J_blk a_X6_bears_88 ?_
              simp only [b_X6_bears_88, w_aload_n0, w_iload5, w_iconst_1, w_nil, kd_46, kd_47, kd_48, kd_49, kd_50, kd_51, kd_52, kd_53, kd_54, kd_55, kd_56, kd_57, kd_58, kd_59, ln_47, ln_48, ln_49, ln_50, ln_51, ln_52, ln_53, ln_54, ln_55, ln_56, ln_57, ln_58, ln_59, Option.toList_some, Option.toList_none, List.cons_append, List.nil_append, true_and, and_true, if_true, if_false, true_or, or_true, Nat.reduceAdd, Int.reduceAdd, Bool.false_eq_true, tn_0, tn_1, tn_2, tn_3, tn_4, tn_5, tn_6, tn_7, bit1 set h32, eo]
              refine J_callVr (ci := 6) (its_ok _ 1 _ (by omega)) k_X6_bears_92 o_X6_its rfl rfl rfl rfl (by decide) rfl (Nat.le_of_ble_eq_true rfl) ?_
              refine J_blk a_X6_bears_95 ?_
              simp only [b_X6_bears_95, w_iconst_1, w_iload_n1, w_iadd, w_icmp_ne, w_nil, kd_46, kd_47, kd_48, kd_49, kd_50, kd_51, kd_52, kd_53, kd_54, kd_55, kd_56, kd_57, kd_58, kd_59, ln_47, ln_48, ln_49, ln_50, ln_51, ln_52, ln_53, ln_54, ln_55, ln_56, ln_57, ln_58, ln_59, Option.toList_some, Option.toList_none, List.cons_append, List.nil_append, true_and, and_true, if_true, if_false, true_or, or_true, Nat.reduceAdd, Int.reduceAdd, Bool.false_eq_true, tn_0, tn_1, tn_2, tn_3, tn_4, tn_5, tn_6, tn_7, bit1 set h32, eo]
              refine ⟨fun c18 => ?_, fun c18 => ?_⟩
              · refine J_blk a_X6_bears_105 ?_
                simp only [b_X6_bears_105, w_iconst_0, w_nil, kd_46, kd_47, kd_48, kd_49, kd_50, kd_51, kd_52, kd_53, kd_54, kd_55, kd_56, kd_57, kd_58, kd_59, ln_47, ln_48, ln_49, ln_50, ln_51, ln_52, ln_53, ln_54, ln_55, ln_56, ln_57, ln_58, ln_59, Option.toList_some, Option.toList_none, List.cons_append, List.nil_append, true_and, and_true, if_true, if_false, true_or, or_true, Nat.reduceAdd, Int.reduceAdd, Bool.false_eq_true, tn_0, tn_1, tn_2, tn_3, tn_4, tn_5, tn_6, tn_7, bit1 set h32, eo]
                refine J_blk a_X6_bears_106 ?_
                simp only [b_X6_bears_106, w_iadd, w_istore4, nl_4n, nl_4i, nl_4a, w_iinc5, nl_5n, nl_5i, nl_5a, ci_1, w_goto, kd_46, kd_47, kd_48, kd_49, kd_50, kd_51, kd_52, kd_53, kd_54, kd_55, kd_56, kd_57, kd_58, kd_59, ln_47, ln_48, ln_49, ln_50, ln_51, ln_52, ln_53, ln_54, ln_55, ln_56, ln_57, ln_58, ln_59, Option.toList_some, Option.toList_none, List.cons_append, List.nil_append, true_and, and_true, if_true, if_false, true_or, or_true, Nat.reduceAdd, Int.reduceAdd, Bool.false_eq_true, tn_0, tn_1, tn_2, tn_3, tn_4, tn_5, tn_6, tn_7, bit1 set h32, eo]
                first | exact J_cast (ih (some (.int 1))) (by simp only [plS, upS, nI_1, List.cons.injEq, Option.some.injEq, Value.int.injEq, true_and, and_true]; grind) rfl rfl | exact J_cast (ih (some (.int 0))) (by simp only [plS, upS, nI_1, List.cons.injEq, Option.some.injEq, Value.int.injEq, true_and, and_true]; grind) rfl rfl
              · refine J_blk a_X6_bears_101 ?_
                simp only [b_X6_bears_101, w_iconst_1, w_goto, kd_46, kd_47, kd_48, kd_49, kd_50, kd_51, kd_52, kd_53, kd_54, kd_55, kd_56, kd_57, kd_58, kd_59, ln_47, ln_48, ln_49, ln_50, ln_51, ln_52, ln_53, ln_54, ln_55, ln_56, ln_57, ln_58, ln_59, Option.toList_some, Option.toList_none, List.cons_append, List.nil_append, true_and, and_true, if_true, if_false, true_or, or_true, Nat.reduceAdd, Int.reduceAdd, Bool.false_eq_true, tn_0, tn_1, tn_2, tn_3, tn_4, tn_5, tn_6, tn_7, bit1 set h32, eo]
                refine J_blk a_X6_bears_106 ?_
                simp only [b_X6_bears_106, w_iadd, w_istore4, nl_4n, nl_4i, nl_4a, w_iinc5, nl_5n, nl_5i, nl_5a, ci_1, w_goto, kd_46, kd_47, kd_48, kd_49, kd_50, kd_51, kd_52, kd_53, kd_54, kd_55, kd_56, kd_57, kd_58, kd_59, ln_47, ln_48, ln_49, ln_50, ln_51, ln_52, ln_53, ln_54, ln_55, ln_56, ln_57, ln_58, ln_59, Option.toList_some, Option.toList_none, List.cons_append, List.nil_append, true_and, and_true, if_true, if_false, true_or, or_true, Nat.reduceAdd, Int.reduceAdd, Bool.false_eq_true, tn_0, tn_1, tn_2, tn_3, tn_4, tn_5, tn_6, tn_7, bit1 set h32, eo]
                first | exact J_cast (ih (some (.int 1))) (by simp only [plS, upS, nI_1, List.cons.injEq, Option.some.injEq, Value.int.injEq, true_and, and_true]; grind) rfl rfl | exact J_cast (ih (some (.int 0))) (by simp only [plS, upS, nI_1, List.cons.injEq, Option.some.injEq, Value.int.injEq, true_and, and_true]; grind) rfl rfl
          · refine J_blk a_X6_bears_53 ?_
            simp only [b_X6_bears_53, w_aload_n0, w_iload5, w_iconst_1, w_nil, kd_46, kd_47, kd_48, kd_49, kd_50, kd_51, kd_52, kd_53, kd_54, kd_55, kd_56, kd_57, kd_58, kd_59, ln_47, ln_48, ln_49, ln_50, ln_51, ln_52, ln_53, ln_54, ln_55, ln_56, ln_57, ln_58, ln_59, Option.toList_some, Option.toList_none, List.cons_append, List.nil_append, true_and, and_true, if_true, if_false, true_or, or_true, Nat.reduceAdd, Int.reduceAdd, Bool.false_eq_true, tn_0, tn_1, tn_2, tn_3, tn_4, tn_5, tn_6, tn_7, bit1 set h32, eo]
            refine J_callVr (ci := 6) (its_ok _ 1 _ (by omega)) k_X6_bears_57 o_X6_its rfl rfl rfl rfl (by decide) rfl (Nat.le_of_ble_eq_true rfl) ?_
            refine J_blk a_X6_bears_60 ?_
            simp only [b_X6_bears_60, w_aload_n0, w_iload_n1, w_iconst_1, w_nil, kd_46, kd_47, kd_48, kd_49, kd_50, kd_51, kd_52, kd_53, kd_54, kd_55, kd_56, kd_57, kd_58, kd_59, ln_47, ln_48, ln_49, ln_50, ln_51, ln_52, ln_53, ln_54, ln_55, ln_56, ln_57, ln_58, ln_59, Option.toList_some, Option.toList_none, List.cons_append, List.nil_append, true_and, and_true, if_true, if_false, true_or, or_true, Nat.reduceAdd, Int.reduceAdd, Bool.false_eq_true, tn_0, tn_1, tn_2, tn_3, tn_4, tn_5, tn_6, tn_7, bit1 set h32, eo]
            refine J_callVr (ci := 6) (its_ok _ 1 _ (by omega)) k_X6_bears_63 o_X6_its rfl rfl rfl rfl (by decide) rfl (Nat.le_of_ble_eq_true rfl) ?_
            refine J_blk a_X6_bears_66 ?_
            simp only [b_X6_bears_66, w_icmp_ne, w_nil, kd_46, kd_47, kd_48, kd_49, kd_50, kd_51, kd_52, kd_53, kd_54, kd_55, kd_56, kd_57, kd_58, kd_59, ln_47, ln_48, ln_49, ln_50, ln_51, ln_52, ln_53, ln_54, ln_55, ln_56, ln_57, ln_58, ln_59, Option.toList_some, Option.toList_none, List.cons_append, List.nil_append, true_and, and_true, if_true, if_false, true_or, or_true, Nat.reduceAdd, Int.reduceAdd, Bool.false_eq_true, tn_0, tn_1, tn_2, tn_3, tn_4, tn_5, tn_6, tn_7, bit1 set h32, eo]
            refine ⟨fun c19 => ?_, fun c19 => ?_⟩
            · refine J_blk a_X6_bears_78 ?_
              simp only [b_X6_bears_78, w_iconst_0, w_nil, kd_46, kd_47, kd_48, kd_49, kd_50, kd_51, kd_52, kd_53, kd_54, kd_55, kd_56, kd_57, kd_58, kd_59, ln_47, ln_48, ln_49, ln_50, ln_51, ln_52, ln_53, ln_54, ln_55, ln_56, ln_57, ln_58, ln_59, Option.toList_some, Option.toList_none, List.cons_append, List.nil_append, true_and, and_true, if_true, if_false, true_or, or_true, Nat.reduceAdd, Int.reduceAdd, Bool.false_eq_true, tn_0, tn_1, tn_2, tn_3, tn_4, tn_5, tn_6, tn_7, bit1 set h32, eo]
              refine J_blk a_X6_bears_79 ?_
              simp only [b_X6_bears_79, w_isub, w_istore3, nl_3n, nl_3i, nl_3a, w_iload4, w_iload6, w_if_eq, w_nil, kd_46, kd_47, kd_48, kd_49, kd_50, kd_51, kd_52, kd_53, kd_54, kd_55, kd_56, kd_57, kd_58, kd_59, ln_47, ln_48, ln_49, ln_50, ln_51, ln_52, ln_53, ln_54, ln_55, ln_56, ln_57, ln_58, ln_59, Option.toList_some, Option.toList_none, List.cons_append, List.nil_append, true_and, and_true, if_true, if_false, true_or, or_true, Nat.reduceAdd, Int.reduceAdd, Bool.false_eq_true, tn_0, tn_1, tn_2, tn_3, tn_4, tn_5, tn_6, tn_7, bit1 set h32, eo]
              refine ⟨fun c20 => ?_, fun c20 => ?_⟩
              · refine J_blk a_X6_bears_105 ?_
                simp only [b_X6_bears_105, w_iconst_0, w_nil, kd_46, kd_47, kd_48, kd_49, kd_50, kd_51, kd_52, kd_53, kd_54, kd_55, kd_56, kd_57, kd_58, kd_59, ln_47, ln_48, ln_49, ln_50, ln_51, ln_52, ln_53, ln_54, ln_55, ln_56, ln_57, ln_58, ln_59, Option.toList_some, Option.toList_none, List.cons_append, List.nil_append, true_and, and_true, if_true, if_false, true_or, or_true, Nat.reduceAdd, Int.reduceAdd, Bool.false_eq_true, tn_0, tn_1, tn_2, tn_3, tn_4, tn_5, tn_6, tn_7, bit1 set h32, eo]
                refine J_blk a_X6_bears_106 ?_
                simp only [b_X6_bears_106, w_iadd, w_istore4, nl_4n, nl_4i, nl_4a, w_iinc5, nl_5n, nl_5i, nl_5a, ci_1, w_goto, kd_46, kd_47, kd_48, kd_49, kd_50, kd_51, kd_52, kd_53, kd_54, kd_55, kd_56, kd_57, kd_58, kd_59, ln_47, ln_48, ln_49, ln_50, ln_51, ln_52, ln_53, ln_54, ln_55, ln_56, ln_57, ln_58, ln_59, Option.toList_some, Option.toList_none, List.cons_append, List.nil_append, true_and, and_true, if_true, if_false, true_or, or_true, Nat.reduceAdd, Int.reduceAdd, Bool.false_eq_true, tn_0, tn_1, tn_2, tn_3, tn_4, tn_5, tn_6, tn_7, bit1 set h32, eo]
                first | exact J_cast (ih (some (.int 1))) (by simp only [plS, upS, nI_1, List.cons.injEq, Option.some.injEq, Value.int.injEq, true_and, and_true]; grind) rfl rfl | exact J_cast (ih (some (.int 0))) (by simp only [plS, upS, nI_1, List.cons.injEq, Option.some.injEq, Value.int.injEq, true_and, and_true]; grind) rfl rfl
              · refine J_blk a_X6_bears_88 ?_
                simp only [b_X6_bears_88, w_aload_n0, w_iload5, w_iconst_1, w_nil, kd_46, kd_47, kd_48, kd_49, kd_50, kd_51, kd_52, kd_53, kd_54, kd_55, kd_56, kd_57, kd_58, kd_59, ln_47, ln_48, ln_49, ln_50, ln_51, ln_52, ln_53, ln_54, ln_55, ln_56, ln_57, ln_58, ln_59, Option.toList_some, Option.toList_none, List.cons_append, List.nil_append, true_and, and_true, if_true, if_false, true_or, or_true, Nat.reduceAdd, Int.reduceAdd, Bool.false_eq_true, tn_0, tn_1, tn_2, tn_3, tn_4, tn_5, tn_6, tn_7, bit1 set h32, eo]
                refine J_callVr (ci := 6) (its_ok _ 1 _ (by omega)) k_X6_bears_92 o_X6_its rfl rfl rfl rfl (by decide) rfl (Nat.le_of_ble_eq_true rfl) ?_
                refine J_blk a_X6_bears_95 ?_
                simp only [b_X6_bears_95, w_iconst_1, w_iload_n1, w_iadd, w_icmp_ne, w_nil, kd_46, kd_47, kd_48, kd_49, kd_50, kd_51, kd_52, kd_53, kd_54, kd_55, kd_56, kd_57, kd_58, kd_59, ln_47, ln_48, ln_49, ln_50, ln_51, ln_52, ln_53, ln_54, ln_55, ln_56, ln_57, ln_58, ln_59, Option.toList_some, Option.toList_none, List.cons_append, List.nil_append, true_and, and_true, if_true, if_false, true_or, or_true, Nat.reduceAdd, Int.reduceAdd, Bool.false_eq_true, tn_0, tn_1, tn_2, tn_3, tn_4, tn_5, tn_6, tn_7, bit1 set h32, eo]
                refine ⟨fun c21 => ?_, fun c21 => ?_⟩
                · refine J_blk a_X6_bears_105 ?_
                  simp only [b_X6_bears_105, w_iconst_0, w_nil, kd_46, kd_47, kd_48, kd_49, kd_50, kd_51, kd_52, kd_53, kd_54, kd_55, kd_56, kd_57, kd_58, kd_59, ln_47, ln_48, ln_49, ln_50, ln_51, ln_52, ln_53, ln_54, ln_55, ln_56, ln_57, ln_58, ln_59, Option.toList_some, Option.toList_none, List.cons_append, List.nil_append, true_and, and_true, if_true, if_false, true_or, or_true, Nat.reduceAdd, Int.reduceAdd, Bool.false_eq_true, tn_0, tn_1, tn_2, tn_3, tn_4, tn_5, tn_6, tn_7, bit1 set h32, eo]
                  refine J_blk a_X6_bears_106 ?_
                  simp only [b_X6_bears_106, w_iadd, w_istore4, nl_4n, nl_4i, nl_4a, w_iinc5, nl_5n, nl_5i, nl_5a, ci_1, w_goto, kd_46, kd_47, kd_48, kd_49, kd_50, kd_51, kd_52, kd_53, kd_54, kd_55, kd_56, kd_57, kd_58, kd_59, ln_47, ln_48, ln_49, ln_50, ln_51, ln_52, ln_53, ln_54, ln_55, ln_56, ln_57, ln_58, ln_59, Option.toList_some, Option.toList_none, List.cons_append, List.nil_append, true_and, and_true, if_true, if_false, true_or, or_true, Nat.reduceAdd, Int.reduceAdd, Bool.false_eq_true, tn_0, tn_1, tn_2, tn_3, tn_4, tn_5, tn_6, tn_7, bit1 set h32, eo]
                  first | exact J_cast (ih (some (.int 1))) (by simp only [plS, upS, nI_1, List.cons.injEq, Option.some.injEq, Value.int.injEq, true_and, and_true]; grind) rfl rfl | exact J_cast (ih (some (.int 0))) (by simp only [plS, upS, nI_1, List.cons.injEq, Option.some.injEq, Value.int.injEq, true_and, and_true]; grind) rfl rfl
                · refine J_blk a_X6_bears_101 ?_
                  simp only [b_X6_bears_101, w_iconst_1, w_goto, kd_46, kd_47, kd_48, kd_49, kd_50, kd_51, kd_52, kd_53, kd_54, kd_55, kd_56, kd_57, kd_58, kd_59, ln_47, ln_48, ln_49, ln_50, ln_51, ln_52, ln_53, ln_54, ln_55, ln_56, ln_57, ln_58, ln_59, Option.toList_some, Option.toList_none, List.cons_append, List.nil_append, true_and, and_true, if_true, if_false, true_or, or_true, Nat.reduceAdd, Int.reduceAdd, Bool.false_eq_true, tn_0, tn_1, tn_2, tn_3, tn_4, tn_5, tn_6, tn_7, bit1 set h32, eo]
                  refine J_blk a_X6_bears_106 ?_
                  simp only [b_X6_bears_106, w_iadd, w_istore4, nl_4n, nl_4i, nl_4a, w_iinc5, nl_5n, nl_5i, nl_5a, ci_1, w_goto, kd_46, kd_47, kd_48, kd_49, kd_50, kd_51, kd_52, kd_53, kd_54, kd_55, kd_56, kd_57, kd_58, kd_59, ln_47, ln_48, ln_49, ln_50, ln_51, ln_52, ln_53, ln_54, ln_55, ln_56, ln_57, ln_58, ln_59, Option.toList_some, Option.toList_none, List.cons_append, List.nil_append, true_and, and_true, if_true, if_false, true_or, or_true, Nat.reduceAdd, Int.reduceAdd, Bool.false_eq_true, tn_0, tn_1, tn_2, tn_3, tn_4, tn_5, tn_6, tn_7, bit1 set h32, eo]
                  first | exact J_cast (ih (some (.int 1))) (by simp only [plS, upS, nI_1, List.cons.injEq, Option.some.injEq, Value.int.injEq, true_and, and_true]; grind) rfl rfl | exact J_cast (ih (some (.int 0))) (by simp only [plS, upS, nI_1, List.cons.injEq, Option.some.injEq, Value.int.injEq, true_and, and_true]; grind) rfl rfl
            · refine J_blk a_X6_bears_69 ?_
              simp only [b_X6_bears_69, w_aload_n0, w_iload5, w_nil, kd_46, kd_47, kd_48, kd_49, kd_50, kd_51, kd_52, kd_53, kd_54, kd_55, kd_56, kd_57, kd_58, kd_59, ln_47, ln_48, ln_49, ln_50, ln_51, ln_52, ln_53, ln_54, ln_55, ln_56, ln_57, ln_58, ln_59, Option.toList_some, Option.toList_none, List.cons_append, List.nil_append, true_and, and_true, if_true, if_false, true_or, or_true, Nat.reduceAdd, Int.reduceAdd, Bool.false_eq_true, tn_0, tn_1, tn_2, tn_3, tn_4, tn_5, tn_6, tn_7, bit1 set h32, eo]
              refine J_callVr (ci := 6) (hinders_ok _ n _ hw (by omega)) k_X6_bears_72 o_X6_hinders rfl rfl rfl rfl (by decide) rfl (Nat.le_of_ble_eq_true rfl) ?_
              refine J_blk a_X6_bears_75 ?_
              simp only [b_X6_bears_75, w_goto, kd_46, kd_47, kd_48, kd_49, kd_50, kd_51, kd_52, kd_53, kd_54, kd_55, kd_56, kd_57, kd_58, kd_59, ln_47, ln_48, ln_49, ln_50, ln_51, ln_52, ln_53, ln_54, ln_55, ln_56, ln_57, ln_58, ln_59, Option.toList_some, Option.toList_none, List.cons_append, List.nil_append, true_and, and_true, if_true, if_false, true_or, or_true, Nat.reduceAdd, Int.reduceAdd, Bool.false_eq_true, tn_0, tn_1, tn_2, tn_3, tn_4, tn_5, tn_6, tn_7, bit1 set h32, eo]
              refine J_blk a_X6_bears_79 ?_
              simp only [b_X6_bears_79, w_isub, w_istore3, nl_3n, nl_3i, nl_3a, w_iload4, w_iload6, w_if_eq, w_nil, kd_46, kd_47, kd_48, kd_49, kd_50, kd_51, kd_52, kd_53, kd_54, kd_55, kd_56, kd_57, kd_58, kd_59, ln_47, ln_48, ln_49, ln_50, ln_51, ln_52, ln_53, ln_54, ln_55, ln_56, ln_57, ln_58, ln_59, Option.toList_some, Option.toList_none, List.cons_append, List.nil_append, true_and, and_true, if_true, if_false, true_or, or_true, Nat.reduceAdd, Int.reduceAdd, Bool.false_eq_true, tn_0, tn_1, tn_2, tn_3, tn_4, tn_5, tn_6, tn_7, bit1 set h32, eo]
              refine ⟨fun c22 => ?_, fun c22 => ?_⟩
              · refine J_blk a_X6_bears_105 ?_
                simp only [b_X6_bears_105, w_iconst_0, w_nil, kd_46, kd_47, kd_48, kd_49, kd_50, kd_51, kd_52, kd_53, kd_54, kd_55, kd_56, kd_57, kd_58, kd_59, ln_47, ln_48, ln_49, ln_50, ln_51, ln_52, ln_53, ln_54, ln_55, ln_56, ln_57, ln_58, ln_59, Option.toList_some, Option.toList_none, List.cons_append, List.nil_append, true_and, and_true, if_true, if_false, true_or, or_true, Nat.reduceAdd, Int.reduceAdd, Bool.false_eq_true, tn_0, tn_1, tn_2, tn_3, tn_4, tn_5, tn_6, tn_7, bit1 set h32, eo]
                refine J_blk a_X6_bears_106 ?_
                simp only [b_X6_bears_106, w_iadd, w_istore4, nl_4n, nl_4i, nl_4a, w_iinc5, nl_5n, nl_5i, nl_5a, ci_1, w_goto, kd_46, kd_47, kd_48, kd_49, kd_50, kd_51, kd_52, kd_53, kd_54, kd_55, kd_56, kd_57, kd_58, kd_59, ln_47, ln_48, ln_49, ln_50, ln_51, ln_52, ln_53, ln_54, ln_55, ln_56, ln_57, ln_58, ln_59, Option.toList_some, Option.toList_none, List.cons_append, List.nil_append, true_and, and_true, if_true, if_false, true_or, or_true, Nat.reduceAdd, Int.reduceAdd, Bool.false_eq_true, tn_0, tn_1, tn_2, tn_3, tn_4, tn_5, tn_6, tn_7, bit1 set h32, eo]
                first | exact J_cast (ih (some (.int 1))) (by simp only [plS, upS, nI_1, List.cons.injEq, Option.some.injEq, Value.int.injEq, true_and, and_true]; grind) rfl rfl | exact J_cast (ih (some (.int 0))) (by simp only [plS, upS, nI_1, List.cons.injEq, Option.some.injEq, Value.int.injEq, true_and, and_true]; grind) rfl rfl
              · refine J_blk a_X6_bears_88 ?_
                simp only [b_X6_bears_88, w_aload_n0, w_iload5, w_iconst_1, w_nil, kd_46, kd_47, kd_48, kd_49, kd_50, kd_51, kd_52, kd_53, kd_54, kd_55, kd_56, kd_57, kd_58, kd_59, ln_47, ln_48, ln_49, ln_50, ln_51, ln_52, ln_53, ln_54, ln_55, ln_56, ln_57, ln_58, ln_59, Option.toList_some, Option.toList_none, List.cons_append, List.nil_append, true_and, and_true, if_true, if_false, true_or, or_true, Nat.reduceAdd, Int.reduceAdd, Bool.false_eq_true, tn_0, tn_1, tn_2, tn_3, tn_4, tn_5, tn_6, tn_7, bit1 set h32, eo]
                refine J_callVr (ci := 6) (its_ok _ 1 _ (by omega)) k_X6_bears_92 o_X6_its rfl rfl rfl rfl (by decide) rfl (Nat.le_of_ble_eq_true rfl) ?_
                refine J_blk a_X6_bears_95 ?_
                simp only [b_X6_bears_95, w_iconst_1, w_iload_n1, w_iadd, w_icmp_ne, w_nil, kd_46, kd_47, kd_48, kd_49, kd_50, kd_51, kd_52, kd_53, kd_54, kd_55, kd_56, kd_57, kd_58, kd_59, ln_47, ln_48, ln_49, ln_50, ln_51, ln_52, ln_53, ln_54, ln_55, ln_56, ln_57, ln_58, ln_59, Option.toList_some, Option.toList_none, List.cons_append, List.nil_append, true_and, and_true, if_true, if_false, true_or, or_true, Nat.reduceAdd, Int.reduceAdd, Bool.false_eq_true, tn_0, tn_1, tn_2, tn_3, tn_4, tn_5, tn_6, tn_7, bit1 set h32, eo]
                refine ⟨fun c23 => ?_, fun c23 => ?_⟩
                · refine J_blk a_X6_bears_105 ?_
                  simp only [b_X6_bears_105, w_iconst_0, w_nil, kd_46, kd_47, kd_48, kd_49, kd_50, kd_51, kd_52, kd_53, kd_54, kd_55, kd_56, kd_57, kd_58, kd_59, ln_47, ln_48, ln_49, ln_50, ln_51, ln_52, ln_53, ln_54, ln_55, ln_56, ln_57, ln_58, ln_59, Option.toList_some, Option.toList_none, List.cons_append, List.nil_append, true_and, and_true, if_true, if_false, true_or, or_true, Nat.reduceAdd, Int.reduceAdd, Bool.false_eq_true, tn_0, tn_1, tn_2, tn_3, tn_4, tn_5, tn_6, tn_7, bit1 set h32, eo]
                  refine J_blk a_X6_bears_106 ?_
                  simp only [b_X6_bears_106, w_iadd, w_istore4, nl_4n, nl_4i, nl_4a, w_iinc5, nl_5n, nl_5i, nl_5a, ci_1, w_goto, kd_46, kd_47, kd_48, kd_49, kd_50, kd_51, kd_52, kd_53, kd_54, kd_55, kd_56, kd_57, kd_58, kd_59, ln_47, ln_48, ln_49, ln_50, ln_51, ln_52, ln_53, ln_54, ln_55, ln_56, ln_57, ln_58, ln_59, Option.toList_some, Option.toList_none, List.cons_append, List.nil_append, true_and, and_true, if_true, if_false, true_or, or_true, Nat.reduceAdd, Int.reduceAdd, Bool.false_eq_true, tn_0, tn_1, tn_2, tn_3, tn_4, tn_5, tn_6, tn_7, bit1 set h32, eo]
                  first | exact J_cast (ih (some (.int 1))) (by simp only [plS, upS, nI_1, List.cons.injEq, Option.some.injEq, Value.int.injEq, true_and, and_true]; grind) rfl rfl | exact J_cast (ih (some (.int 0))) (by simp only [plS, upS, nI_1, List.cons.injEq, Option.some.injEq, Value.int.injEq, true_and, and_true]; grind) rfl rfl
                · refine J_blk a_X6_bears_101 ?_
                  simp only [b_X6_bears_101, w_iconst_1, w_goto, kd_46, kd_47, kd_48, kd_49, kd_50, kd_51, kd_52, kd_53, kd_54, kd_55, kd_56, kd_57, kd_58, kd_59, ln_47, ln_48, ln_49, ln_50, ln_51, ln_52, ln_53, ln_54, ln_55, ln_56, ln_57, ln_58, ln_59, Option.toList_some, Option.toList_none, List.cons_append, List.nil_append, true_and, and_true, if_true, if_false, true_or, or_true, Nat.reduceAdd, Int.reduceAdd, Bool.false_eq_true, tn_0, tn_1, tn_2, tn_3, tn_4, tn_5, tn_6, tn_7, bit1 set h32, eo]
                  refine J_blk a_X6_bears_106 ?_
                  simp only [b_X6_bears_106, w_iadd, w_istore4, nl_4n, nl_4i, nl_4a, w_iinc5, nl_5n, nl_5i, nl_5a, ci_1, w_goto, kd_46, kd_47, kd_48, kd_49, kd_50, kd_51, kd_52, kd_53, kd_54, kd_55, kd_56, kd_57, kd_58, kd_59, ln_47, ln_48, ln_49, ln_50, ln_51, ln_52, ln_53, ln_54, ln_55, ln_56, ln_57, ln_58, ln_59, Option.toList_some, Option.toList_none, List.cons_append, List.nil_append, true_and, and_true, if_true, if_false, true_or, or_true, Nat.reduceAdd, Int.reduceAdd, Bool.false_eq_true, tn_0, tn_1, tn_2, tn_3, tn_4, tn_5, tn_6, tn_7, bit1 set h32, eo]
                  first | exact J_cast (ih (some (.int 1))) (by simp only [plS, upS, nI_1, List.cons.injEq, Option.some.injEq, Value.int.injEq, true_and, and_true]; grind) rfl rfl | exact J_cast (ih (some (.int 0))) (by simp only [plS, upS, nI_1, List.cons.injEq, Option.some.injEq, Value.int.injEq, true_and, and_true]; grind) rfl rfl
  exact key 0 (by omega) none
def dpF (s : Nat → Int32) : Nat → Nat → Nat
  | 0, _ => 0
  | f + 1, o => if s (8 + 6 * o + 1) = 0 then 0 else 1 + dpF s f ((s (8 + 6 * o + 1)).toNatClampNeg - 1)
def dpS (s : Nat → Int32) (o : Nat) : Nat := dpF s 8 o
theorem deep_ok (o n : Nat) (M : Mm) (hw : WF (M.1 47) n) (ho : o < n) : K 1 mX6_deep [.ref 46, .int (nI o)] M (Rt (some (.int (nI (dpS (M.1 47) o)))) M) := by
  have h8 := hw.2.1
  refine K_go 1 o_X6_deep [none, none] rfl (Nat.le_of_ble_eq_true rfl) ?_
  simp only [lvA_i, lvA_a, lvA_l, lvA_nil, List.cons_append, List.nil_append]
  refine J_blk a_X6_deep_0 ?_
  simp only [b_X6_deep_0, w_iconst_0, w_istore2, nl_2n, nl_2i, nl_2a, w_aload_n0, w_iload_n1, w_iconst_1, w_nil, kd_46, kd_47, kd_48, kd_49, kd_50, kd_51, kd_52, kd_53, kd_54, kd_55, kd_56, kd_57, kd_58, kd_59, ln_47, ln_48, ln_49, ln_50, ln_51, ln_52, ln_53, ln_54, ln_55, ln_56, ln_57, ln_58, ln_59, Option.toList_some, Option.toList_none, List.cons_append, List.nil_append, true_and, and_true, if_true, if_false, true_or, or_true, Nat.reduceAdd, Int.reduceAdd, Bool.false_eq_true, tn_0, tn_1, tn_2, tn_3, tn_4, tn_5, tn_6, tn_7]
  refine J_callVr (ci := 6) (its_ok o 1 M (by omega)) k_X6_deep_5 o_X6_its rfl rfl rfl rfl (by decide) rfl (Nat.le_of_ble_eq_true rfl) ?_
  refine J_blk a_X6_deep_8 ?_
  simp only [b_X6_deep_8, w_iconst_1, w_isub, w_istore3, nl_3n, nl_3i, nl_3a, w_nil, kd_46, kd_47, kd_48, kd_49, kd_50, kd_51, kd_52, kd_53, kd_54, kd_55, kd_56, kd_57, kd_58, kd_59, ln_47, ln_48, ln_49, ln_50, ln_51, ln_52, ln_53, ln_54, ln_55, ln_56, ln_57, ln_58, ln_59, Option.toList_some, Option.toList_none, List.cons_append, List.nil_append, true_and, and_true, if_true, if_false, true_or, or_true, Nat.reduceAdd, Int.reduceAdd, Bool.false_eq_true, tn_0, tn_1, tn_2, tn_3, tn_4, tn_5, tn_6, tn_7]
  have key : ∀ (f a c : Nat), a < f → a < n → J 1 mX6_deep 11 [some (.ref 46), some (.int (nI o)), some (.int (nI c)), some (.int (M.1 47 (8 + 6 * a + 1) - 1))] [] M (Rt (some (.int (nI (c + dpF (M.1 47) f a)))) M) := by
    intro f
    induction f with
    | zero => intro a c h; omega
    | succ f ih =>
      intro a c ha han
      obtain ⟨q, hq, eq⟩ := (hw.2.2 a han).2.1
      rw [eq]
      by_cases h0 : q = 0
      · subst h0
        have e : dpF (M.1 47) (f + 1) a = 0 := by rw [dpF, if_pos (show M.1 47 (8 + 6 * a + 1) = 0 from eq)]
        rw [e]
        refine J_blk a_X6_deep_11 ?_
        simp only [b_X6_deep_11, w_iload_n3, w_if_lt, w_nil, kd_46, kd_47, kd_48, kd_49, kd_50, kd_51, kd_52, kd_53, kd_54, kd_55, kd_56, kd_57, kd_58, kd_59, ln_47, ln_48, ln_49, ln_50, ln_51, ln_52, ln_53, ln_54, ln_55, ln_56, ln_57, ln_58, ln_59, Option.toList_some, Option.toList_none, List.cons_append, List.nil_append, true_and, and_true, if_true, if_false, true_or, or_true, Nat.reduceAdd, Int.reduceAdd, Bool.false_eq_true, tn_0, tn_1, tn_2, tn_3, tn_4, tn_5, tn_6, tn_7]
        refine ⟨fun _ => ?_, fun h => absurd (show nI 0 - 1 < 0 by decide) h⟩
        refine J_blk a_X6_deep_30 ?_
        simp only [b_X6_deep_30, w_iload_n2, w_ireti, kd_46, kd_47, kd_48, kd_49, kd_50, kd_51, kd_52, kd_53, kd_54, kd_55, kd_56, kd_57, kd_58, kd_59, ln_47, ln_48, ln_49, ln_50, ln_51, ln_52, ln_53, ln_54, ln_55, ln_56, ln_57, ln_58, ln_59, Option.toList_some, Option.toList_none, List.cons_append, List.nil_append, true_and, and_true, if_true, if_false, true_or, or_true, Nat.reduceAdd, Int.reduceAdd, Bool.false_eq_true, tn_0, tn_1, tn_2, tn_3, tn_4, tn_5, tn_6, tn_7]
        first | exact ⟨rfl, rfl⟩ | (simp_all [Rt])
      · have e : dpF (M.1 47) (f + 1) a = 1 + dpF (M.1 47) f (q - 1) := by rw [dpF, eq, if_neg (nI_ne0 (by omega) (by omega)), nI_clamp (by omega)]
        rw [e, nI_sub1 h0]
        refine J_blk a_X6_deep_11 ?_
        simp only [b_X6_deep_11, w_iload_n3, w_if_lt, w_nil, kd_46, kd_47, kd_48, kd_49, kd_50, kd_51, kd_52, kd_53, kd_54, kd_55, kd_56, kd_57, kd_58, kd_59, ln_47, ln_48, ln_49, ln_50, ln_51, ln_52, ln_53, ln_54, ln_55, ln_56, ln_57, ln_58, ln_59, Option.toList_some, Option.toList_none, List.cons_append, List.nil_append, true_and, and_true, if_true, if_false, true_or, or_true, Nat.reduceAdd, Int.reduceAdd, Bool.false_eq_true, tn_0, tn_1, tn_2, tn_3, tn_4, tn_5, tn_6, tn_7]
        refine ⟨fun h => absurd h (nI_pos (by omega)), fun _ => ?_⟩
        refine J_blk a_X6_deep_15 ?_
        simp only [b_X6_deep_15, w_iinc2, nl_2n, nl_2i, nl_2a, ci_1, w_aload_n0, w_iload_n3, w_iconst_1, w_nil, kd_46, kd_47, kd_48, kd_49, kd_50, kd_51, kd_52, kd_53, kd_54, kd_55, kd_56, kd_57, kd_58, kd_59, ln_47, ln_48, ln_49, ln_50, ln_51, ln_52, ln_53, ln_54, ln_55, ln_56, ln_57, ln_58, ln_59, Option.toList_some, Option.toList_none, List.cons_append, List.nil_append, true_and, and_true, if_true, if_false, true_or, or_true, Nat.reduceAdd, Int.reduceAdd, Bool.false_eq_true, tn_0, tn_1, tn_2, tn_3, tn_4, tn_5, tn_6, tn_7]
        refine J_callVr (ci := 6) (its_ok (q - 1) 1 M (by omega)) k_X6_deep_21 o_X6_its rfl rfl rfl rfl (by decide) rfl (Nat.le_of_ble_eq_true rfl) ?_
        refine J_blk a_X6_deep_24 ?_
        simp only [b_X6_deep_24, w_iconst_1, w_isub, w_istore3, nl_3n, nl_3i, nl_3a, w_goto, kd_46, kd_47, kd_48, kd_49, kd_50, kd_51, kd_52, kd_53, kd_54, kd_55, kd_56, kd_57, kd_58, kd_59, ln_47, ln_48, ln_49, ln_50, ln_51, ln_52, ln_53, ln_54, ln_55, ln_56, ln_57, ln_58, ln_59, Option.toList_some, Option.toList_none, List.cons_append, List.nil_append, true_and, and_true, if_true, if_false, true_or, or_true, Nat.reduceAdd, Int.reduceAdd, Bool.false_eq_true, tn_0, tn_1, tn_2, tn_3, tn_4, tn_5, tn_6, tn_7, nI_1]
        have := ih (q - 1) (c + 1) (by omega) (by omega)
        rw [show c + 1 + dpF (M.1 47) f (q - 1) = c + (1 + dpF (M.1 47) f (q - 1)) by omega] at this
        exact this
  have := key 8 o 0 (by omega) ho
  rw [Nat.zero_add] at this
  exact this
theorem isBurnt_ok (c l : Int32) (M : Mm) : K 0 mX6_isBurnt [.int c, .int l] M (Rt (some (.int (if c = 1 ∧ 6 ≤ l then 1 else 0))) M) := by
  refine K_go 2 o_X6_isBurnt [] rfl (Nat.le_of_ble_eq_true rfl) ?_
  simp only [lvA_i, lvA_a, lvA_l, lvA_nil, List.cons_append, List.nil_append]
  refine J_blk a_X6_isBurnt_0 ?_
  simp only [b_X6_isBurnt_0, w_iload_n0, w_iconst_1, w_icmp_ne, w_nil, kd_46, kd_47, kd_48, kd_49, kd_50, kd_51, kd_52, kd_53, kd_54, kd_55, kd_56, kd_57, kd_58, kd_59, ln_47, ln_48, ln_49, ln_50, ln_51, ln_52, ln_53, ln_54, ln_55, ln_56, ln_57, ln_58, ln_59, Option.toList_some, Option.toList_none, List.cons_append, List.nil_append, true_and, and_true, if_true, if_false, true_or, or_true, Nat.reduceAdd, Int.reduceAdd, Bool.false_eq_true, tn_0, tn_1, tn_2, tn_3, tn_4, tn_5, tn_6, tn_7]
  refine ⟨fun c24 => ?_, fun c24 => ?_⟩
  · refine J_blk a_X6_isBurnt_15 ?_
    simp only [b_X6_isBurnt_15, w_iconst_0, w_nil, kd_46, kd_47, kd_48, kd_49, kd_50, kd_51, kd_52, kd_53, kd_54, kd_55, kd_56, kd_57, kd_58, kd_59, ln_47, ln_48, ln_49, ln_50, ln_51, ln_52, ln_53, ln_54, ln_55, ln_56, ln_57, ln_58, ln_59, Option.toList_some, Option.toList_none, List.cons_append, List.nil_append, true_and, and_true, if_true, if_false, true_or, or_true, Nat.reduceAdd, Int.reduceAdd, Bool.false_eq_true, tn_0, tn_1, tn_2, tn_3, tn_4, tn_5, tn_6, tn_7]
    refine J_blk a_X6_isBurnt_16 ?_
    simp only [b_X6_isBurnt_16, w_iretz, kd_46, kd_47, kd_48, kd_49, kd_50, kd_51, kd_52, kd_53, kd_54, kd_55, kd_56, kd_57, kd_58, kd_59, ln_47, ln_48, ln_49, ln_50, ln_51, ln_52, ln_53, ln_54, ln_55, ln_56, ln_57, ln_58, ln_59, Option.toList_some, Option.toList_none, List.cons_append, List.nil_append, true_and, and_true, if_true, if_false, true_or, or_true, Nat.reduceAdd, Int.reduceAdd, Bool.false_eq_true, tn_0, tn_1, tn_2, tn_3, tn_4, tn_5, tn_6, tn_7]
    try refine ⟨(by first | exact Or.inl rfl | exact Or.inr rfl), ?_⟩
    exact ⟨by congr 2; (try simp only [Int32.not_lt, Int32.not_le] at *); split <;> grind, rfl⟩
  · refine J_blk a_X6_isBurnt_5 ?_
    simp only [b_X6_isBurnt_5, w_iload_n1, w_bipush, ci_6, w_icmp_lt, w_nil, kd_46, kd_47, kd_48, kd_49, kd_50, kd_51, kd_52, kd_53, kd_54, kd_55, kd_56, kd_57, kd_58, kd_59, ln_47, ln_48, ln_49, ln_50, ln_51, ln_52, ln_53, ln_54, ln_55, ln_56, ln_57, ln_58, ln_59, Option.toList_some, Option.toList_none, List.cons_append, List.nil_append, true_and, and_true, if_true, if_false, true_or, or_true, Nat.reduceAdd, Int.reduceAdd, Bool.false_eq_true, tn_0, tn_1, tn_2, tn_3, tn_4, tn_5, tn_6, tn_7]
    refine ⟨fun c25 => ?_, fun c25 => ?_⟩
    · refine J_blk a_X6_isBurnt_15 ?_
      simp only [b_X6_isBurnt_15, w_iconst_0, w_nil, kd_46, kd_47, kd_48, kd_49, kd_50, kd_51, kd_52, kd_53, kd_54, kd_55, kd_56, kd_57, kd_58, kd_59, ln_47, ln_48, ln_49, ln_50, ln_51, ln_52, ln_53, ln_54, ln_55, ln_56, ln_57, ln_58, ln_59, Option.toList_some, Option.toList_none, List.cons_append, List.nil_append, true_and, and_true, if_true, if_false, true_or, or_true, Nat.reduceAdd, Int.reduceAdd, Bool.false_eq_true, tn_0, tn_1, tn_2, tn_3, tn_4, tn_5, tn_6, tn_7]
      refine J_blk a_X6_isBurnt_16 ?_
      simp only [b_X6_isBurnt_16, w_iretz, kd_46, kd_47, kd_48, kd_49, kd_50, kd_51, kd_52, kd_53, kd_54, kd_55, kd_56, kd_57, kd_58, kd_59, ln_47, ln_48, ln_49, ln_50, ln_51, ln_52, ln_53, ln_54, ln_55, ln_56, ln_57, ln_58, ln_59, Option.toList_some, Option.toList_none, List.cons_append, List.nil_append, true_and, and_true, if_true, if_false, true_or, or_true, Nat.reduceAdd, Int.reduceAdd, Bool.false_eq_true, tn_0, tn_1, tn_2, tn_3, tn_4, tn_5, tn_6, tn_7]
      try refine ⟨(by first | exact Or.inl rfl | exact Or.inr rfl), ?_⟩
      exact ⟨by congr 2; (try simp only [Int32.not_lt, Int32.not_le] at *); split <;> grind, rfl⟩
    · refine J_blk a_X6_isBurnt_11 ?_
      simp only [b_X6_isBurnt_11, w_iconst_1, w_goto, kd_46, kd_47, kd_48, kd_49, kd_50, kd_51, kd_52, kd_53, kd_54, kd_55, kd_56, kd_57, kd_58, kd_59, ln_47, ln_48, ln_49, ln_50, ln_51, ln_52, ln_53, ln_54, ln_55, ln_56, ln_57, ln_58, ln_59, Option.toList_some, Option.toList_none, List.cons_append, List.nil_append, true_and, and_true, if_true, if_false, true_or, or_true, Nat.reduceAdd, Int.reduceAdd, Bool.false_eq_true, tn_0, tn_1, tn_2, tn_3, tn_4, tn_5, tn_6, tn_7]
      refine J_blk a_X6_isBurnt_16 ?_
      simp only [b_X6_isBurnt_16, w_iretz, kd_46, kd_47, kd_48, kd_49, kd_50, kd_51, kd_52, kd_53, kd_54, kd_55, kd_56, kd_57, kd_58, kd_59, ln_47, ln_48, ln_49, ln_50, ln_51, ln_52, ln_53, ln_54, ln_55, ln_56, ln_57, ln_58, ln_59, Option.toList_some, Option.toList_none, List.cons_append, List.nil_append, true_and, and_true, if_true, if_false, true_or, or_true, Nat.reduceAdd, Int.reduceAdd, Bool.false_eq_true, tn_0, tn_1, tn_2, tn_3, tn_4, tn_5, tn_6, tn_7]
      try refine ⟨(by first | exact Or.inl rfl | exact Or.inr rfl), ?_⟩
      exact ⟨by congr 2; (try simp only [Int32.not_lt, Int32.not_le] at *); split <;> grind, rfl⟩
theorem gain_own (s : Nat → Int32) (st : Nat → Bool) (m : Nat) : gainS (ybS s st m) m = gainS s m := by
  unfold gainS
  rw [ybS_own, ybS_own]
theorem goesOn_ok (n : Nat) (M : Mm) (hw : WF (M.1 47) n) : K 3 mX6_goesOn [.ref 46] M (Rt (some (.int (sumS (M.1 47) n))) (su M 47 (yearS (M.1 47) n))) := by
  have h8 := hw.2.1
  have h0 := hw.1
  have z0 : (0 : Int32).toNatClampNeg = 0 := rfl
  have hbt : ∀ q, q < n → bt (bsF (sd (M.1 47)) n) q = sd (M.1 47) q := fun q hq => by rw [bt_bsF _ n (by omega) q (by omega)]; simp [hq]
  generalize hs : M.1 47 = s at *
  refine K_go 0 o_X6_goesOn [none, none, none, none] rfl (Nat.le_of_ble_eq_true rfl) ?_
  simp only [lvA_i, lvA_a, lvA_l, lvA_nil, List.cons_append, List.nil_append]
  refine J_blk a_X6_goesOn_0 ?_
  simp only [b_X6_goesOn_0, w_aload_n0, w_nil, kd_46, kd_47, kd_48, kd_49, kd_50, kd_51, kd_52, kd_53, kd_54, kd_55, kd_56, kd_57, kd_58, kd_59, ln_47, ln_48, ln_49, ln_50, ln_51, ln_52, ln_53, ln_54, ln_55, ln_56, ln_57, ln_58, ln_59, Option.toList_some, Option.toList_none, List.cons_append, List.nil_append, true_and, and_true, if_true, if_false, true_or, or_true, Nat.reduceAdd, Int.reduceAdd, Bool.false_eq_true, tn_0, tn_1, tn_2, tn_3, tn_4, tn_5, tn_6, tn_7]
  refine J_callVr (ci := 6) (standing_ok n M (by rw [hs]; exact hw)) k_X6_goesOn_1 o_X6_standing rfl rfl rfl rfl (by decide) rfl (Nat.le_of_ble_eq_true rfl) ?_
  rw [hs]
  generalize hset : bsF (sd s) n = set at *
  have e1 : sumS s n = smS s (bt set) n n := smS_congr (fun q hq => (hbt q hq).symm) n (Nat.le_refl n)
  have e2 : yearS s n = yearR s (bt set) n (smS s (bt set) n n) := by
    unfold yearS yearR
    rw [e1]
    rw [ybS_congr (n := n) (fun q hq => (hbt q hq).symm)]
  rw [e1, e2]
  refine J_blk a_X6_goesOn_4 ?_
  simp only [b_X6_goesOn_4, w_istore1, nl_1n, nl_1i, nl_1a, w_iconst_0, w_istore2, nl_2n, nl_2i, nl_2a, w_istore3, nl_3n, nl_3i, nl_3a, w_nil, kd_46, kd_47, kd_48, kd_49, kd_50, kd_51, kd_52, kd_53, kd_54, kd_55, kd_56, kd_57, kd_58, kd_59, ln_47, ln_48, ln_49, ln_50, ln_51, ln_52, ln_53, ln_54, ln_55, ln_56, ln_57, ln_58, ln_59, Option.toList_some, Option.toList_none, List.cons_append, List.nil_append, true_and, and_true, if_true, if_false, true_or, or_true, Nat.reduceAdd, Int.reduceAdd, Bool.false_eq_true, tn_0, tn_1, tn_2, tn_3, tn_4, tn_5, tn_6, tn_7]
  have last : ∀ z : Option Value, J 3 mX6_goesOn 186 [some (.ref 46), some (.int set), some (.int (smS s (bt set) n n)), some (.int (nI n)), z] [] (su M 47 (ybS s (bt set) n)) (Rt (some (.int (smS s (bt set) n n))) (su M 47 (yearR s (bt set) n (smS s (bt set) n n)))) := by
    intro z
    refine J_blk a_X6_goesOn_186 ?_
    simp only [b_X6_goesOn_186, w_aload_n0, w_getf6, ne0_1, w_iconst_3, w_ldc, ci_99999, w_iald, w_iload_n2, w_iadd, w_nil, kd_46, kd_47, kd_48, kd_49, kd_50, kd_51, kd_52, kd_53, kd_54, kd_55, kd_56, kd_57, kd_58, kd_59, ln_47, ln_48, ln_49, ln_50, ln_51, ln_52, ln_53, ln_54, ln_55, ln_56, ln_57, ln_58, ln_59, Option.toList_some, Option.toList_none, List.cons_append, List.nil_append, true_and, and_true, if_true, if_false, true_or, or_true, Nat.reduceAdd, Int.reduceAdd, Bool.false_eq_true, tn_0, tn_1, tn_2, tn_3, tn_4, tn_5, tn_6, tn_7, su_at, show (3 : Int32).toNatClampNeg = 3 from rfl]
    refine ⟨vlit (by decide), ?_⟩
    refine J_callSr (least_ok _ _ _) k_X6_goesOn_201 o_X6_least rfl (by decide) rfl (Nat.le_of_ble_eq_true rfl) ?_
    refine J_blk a_X6_goesOn_204 ?_
    simp only [b_X6_goesOn_204, w_iast, w_aload_n0, w_getf6, ne0_1, w_iconst_1, w_dup2_ia, w_iald, w_iadd, w_iload_n2, w_ireti, kd_46, kd_47, kd_48, kd_49, kd_50, kd_51, kd_52, kd_53, kd_54, kd_55, kd_56, kd_57, kd_58, kd_59, ln_47, ln_48, ln_49, ln_50, ln_51, ln_52, ln_53, ln_54, ln_55, ln_56, ln_57, ln_58, ln_59, Option.toList_some, Option.toList_none, List.cons_append, List.nil_append, true_and, and_true, if_true, if_false, true_or, or_true, Nat.reduceAdd, Int.reduceAdd, Bool.false_eq_true, tn_0, tn_1, tn_2, tn_3, tn_4, tn_5, tn_6, tn_7, su_at, u1_su, show (3 : Int32).toNatClampNeg = 3 from rfl, show (1 : Int32).toNatClampNeg = 1 from rfl]
    refine ⟨vlit (by decide), vlit (by decide), vlit (by decide), rfl, ?_⟩
    exact congrArg (su M 47) (by
      funext j
      unfold yearR
      by_cases j1 : j = 1
      · subst j1; simp [upd, ybS_low]
      · by_cases j3 : j = 3
        · subst j3; simp [upd, ybS_low, lea]
        · simp [upd, j1, j3])
  have loop2 : ∀ k, k ≤ n → ∀ z : Option Value, J 3 mX6_goesOn 58 [some (.ref 46), some (.int set), some (.int (smS s (bt set) n n)), some (.int (nI k)), z] [] (su M 47 (ybS s (bt set) k)) (Rt (some (.int (smS s (bt set) n n))) (su M 47 (yearR s (bt set) n (smS s (bt set) n n)))) := by
    refine down n ?_ ?_
    · intro z
      refine J_blk a_X6_goesOn_58 ?_
      simp only [b_X6_goesOn_58, w_iload_n3, w_aload_n0, w_getf6, ne0_1, w_iconst_0, w_iald, w_icmp_ge, w_nil, kd_46, kd_47, kd_48, kd_49, kd_50, kd_51, kd_52, kd_53, kd_54, kd_55, kd_56, kd_57, kd_58, kd_59, ln_47, ln_48, ln_49, ln_50, ln_51, ln_52, ln_53, ln_54, ln_55, ln_56, ln_57, ln_58, ln_59, Option.toList_some, Option.toList_none, List.cons_append, List.nil_append, true_and, and_true, if_true, if_false, true_or, or_true, Nat.reduceAdd, Int.reduceAdd, Bool.false_eq_true, tn_0, tn_1, tn_2, tn_3, tn_4, tn_5, tn_6, tn_7, su_at, z0, ybS_low s (bt set) n 0 (by omega), h0]
      exact ⟨vlit (by decide), fun _ => last z, fun h => absurd (Int32.le_refl _) h⟩
    · intro k hk ih z
      have h32 : k < 32 := by omega
      have t2 : (nI (8 + 6 * k + 2)).toNatClampNeg = 8 + 6 * k + 2 := nI_clamp (by omega)
      have t3 : (nI (8 + 6 * k + 3)).toNatClampNeg = 8 + 6 * k + 3 := nI_clamp (by omega)
      have t4 : (nI (8 + 6 * k + 4)).toNatClampNeg = 8 + 6 * k + 4 := nI_clamp (by omega)
      have t5 : (nI (8 + 6 * k + 5)).toNatClampNeg = 8 + 6 * k + 5 := nI_clamp (by omega)
      have own := ybS_own s (bt set) k
      refine J_blk a_X6_goesOn_58 ?_
      simp only [b_X6_goesOn_58, w_iload_n3, w_aload_n0, w_getf6, ne0_1, w_iconst_0, w_iald, w_icmp_ge, w_nil, kd_46, kd_47, kd_48, kd_49, kd_50, kd_51, kd_52, kd_53, kd_54, kd_55, kd_56, kd_57, kd_58, kd_59, ln_47, ln_48, ln_49, ln_50, ln_51, ln_52, ln_53, ln_54, ln_55, ln_56, ln_57, ln_58, ln_59, Option.toList_some, Option.toList_none, List.cons_append, List.nil_append, true_and, and_true, if_true, if_false, true_or, or_true, Nat.reduceAdd, Int.reduceAdd, Bool.false_eq_true, tn_0, tn_1, tn_2, tn_3, tn_4, tn_5, tn_6, tn_7, su_at, z0, ybS_low s (bt set) k 0 (by omega), h0]
      refine ⟨vlit (by decide), fun h => absurd h (nI_ge hk (by omega)), fun _ => ?_⟩
      have fin : ∀ (f : Nat → Int32), f (8 + 6 * k + 4) = s (8 + 6 * k + 4) → f (8 + 6 * k + 5) = s (8 + 6 * k + 5) → (if bt set k = true then upd (upd (ybS s (bt set) k) (8 + 6 * k + 2) (wi (s (8 + 6 * k + 2) + gainS s k))) (8 + 6 * k + 3) (lea 99 (s (8 + 6 * k + 3) + 1)) else ybS s (bt set) k) = f → J 3 mX6_goesOn 138 [some (.ref 46), some (.int set), some (.int (smS s (bt set) n n)), some (.int (nI k)), some (.int (nI (8 + 6 * k)))] [] (su M 47 f) (Rt (some (.int (smS s (bt set) n n))) (su M 47 (yearR s (bt set) n (smS s (bt set) n n)))) := by
        intro f f4 f5 hf
        have stp := ybS_step s (bt set) k
        rw [hf] at stp
        have done : ∀ v, v = (if s (8 + 6 * k + 4) = 1 then lea 9 (s (8 + 6 * k + 5) + 1) else 0) → J 3 mX6_goesOn 179 [some (.ref 46), some (.int set), some (.int (smS s (bt set) n n)), some (.int (nI k)), some (.int (nI (8 + 6 * k)))] [.int v, .int (nI (8 + 6 * k + 5)), .ref 47] (su M 47 f) (Rt (some (.int (smS s (bt set) n n))) (su M 47 (yearR s (bt set) n (smS s (bt set) n n)))) := by
          intro v hv
          refine J_blk a_X6_goesOn_179 ?_
          simp only [b_X6_goesOn_179, w_iast, w_iinc3, nl_3n, nl_3i, nl_3a, ci_1, w_goto, kd_46, kd_47, kd_48, kd_49, kd_50, kd_51, kd_52, kd_53, kd_54, kd_55, kd_56, kd_57, kd_58, kd_59, ln_47, ln_48, ln_49, ln_50, ln_51, ln_52, ln_53, ln_54, ln_55, ln_56, ln_57, ln_58, ln_59, Option.toList_some, Option.toList_none, List.cons_append, List.nil_append, true_and, and_true, if_true, if_false, true_or, or_true, Nat.reduceAdd, Int.reduceAdd, Bool.false_eq_true, tn_0, tn_1, tn_2, tn_3, tn_4, tn_5, tn_6, tn_7, u1_su, t5, nI_1]
          refine ⟨vinN (by omega) (by decide), ?_⟩
          rw [hv, stp]
          exact ih _
        refine J_blk a_X6_goesOn_138 ?_
        simp only [b_X6_goesOn_138, w_aload_n0, w_getf6, ne0_1, w_iload4, w_iconst_5, w_iadd, w_iconst_4, w_iald, w_iconst_1, w_icmp_ne, w_nil, kd_46, kd_47, kd_48, kd_49, kd_50, kd_51, kd_52, kd_53, kd_54, kd_55, kd_56, kd_57, kd_58, kd_59, ln_47, ln_48, ln_49, ln_50, ln_51, ln_52, ln_53, ln_54, ln_55, ln_56, ln_57, ln_58, ln_59, Option.toList_some, Option.toList_none, List.cons_append, List.nil_append, true_and, and_true, if_true, if_false, true_or, or_true, Nat.reduceAdd, Int.reduceAdd, Bool.false_eq_true, tn_0, tn_1, tn_2, tn_3, tn_4, tn_5, tn_6, tn_7, ad4, ad5, su_at, t4, f4]
        refine ⟨vinN (by omega) (by decide), fun h => ?_, fun h => ?_⟩
        · refine J_blk a_X6_goesOn_178 ?_
          simp only [b_X6_goesOn_178, w_iconst_0, w_nil, kd_46, kd_47, kd_48, kd_49, kd_50, kd_51, kd_52, kd_53, kd_54, kd_55, kd_56, kd_57, kd_58, kd_59, ln_47, ln_48, ln_49, ln_50, ln_51, ln_52, ln_53, ln_54, ln_55, ln_56, ln_57, ln_58, ln_59, Option.toList_some, Option.toList_none, List.cons_append, List.nil_append, true_and, and_true, if_true, if_false, true_or, or_true, Nat.reduceAdd, Int.reduceAdd, Bool.false_eq_true, tn_0, tn_1, tn_2, tn_3, tn_4, tn_5, tn_6, tn_7]
          exact done _ (by rw [if_neg h])
        · refine J_blk a_X6_goesOn_159 ?_
          simp only [b_X6_goesOn_159, w_bipush, ci_9, w_aload_n0, w_getf6, ne0_1, w_iload4, w_iconst_5, w_iadd, w_iald, w_iconst_1, w_nil, kd_46, kd_47, kd_48, kd_49, kd_50, kd_51, kd_52, kd_53, kd_54, kd_55, kd_56, kd_57, kd_58, kd_59, ln_47, ln_48, ln_49, ln_50, ln_51, ln_52, ln_53, ln_54, ln_55, ln_56, ln_57, ln_58, ln_59, Option.toList_some, Option.toList_none, List.cons_append, List.nil_append, true_and, and_true, if_true, if_false, true_or, or_true, Nat.reduceAdd, Int.reduceAdd, Bool.false_eq_true, tn_0, tn_1, tn_2, tn_3, tn_4, tn_5, tn_6, tn_7, ad5, su_at, t5, f5]
          refine ⟨vinN (by omega) (by decide), ?_⟩
          refine J_callSr (least_ok _ _ _) k_X6_goesOn_172 o_X6_least rfl (by decide) rfl (Nat.le_of_ble_eq_true rfl) ?_
          refine J_blk a_X6_goesOn_175 ?_
          simp only [b_X6_goesOn_175, w_goto, kd_46, kd_47, kd_48, kd_49, kd_50, kd_51, kd_52, kd_53, kd_54, kd_55, kd_56, kd_57, kd_58, kd_59, ln_47, ln_48, ln_49, ln_50, ln_51, ln_52, ln_53, ln_54, ln_55, ln_56, ln_57, ln_58, ln_59, Option.toList_some, Option.toList_none, List.cons_append, List.nil_append, true_and, and_true, if_true, if_false, true_or, or_true, Nat.reduceAdd, Int.reduceAdd, Bool.false_eq_true, tn_0, tn_1, tn_2, tn_3, tn_4, tn_5, tn_6, tn_7]
          exact done _ (by rw [if_pos h]; rfl)
      refine J_blk a_X6_goesOn_68 ?_
      simp only [b_X6_goesOn_68, w_bipush, ci_8, ci_6, w_iload_n3, w_imul, w_iadd, w_istore4, nl_4n, nl_4i, nl_4a, w_iload_n1, w_ishr, w_iconst_1, w_iand, w_icmp_ne, w_nil, kd_46, kd_47, kd_48, kd_49, kd_50, kd_51, kd_52, kd_53, kd_54, kd_55, kd_56, kd_57, kd_58, kd_59, ln_47, ln_48, ln_49, ln_50, ln_51, ln_52, ln_53, ln_54, ln_55, ln_56, ln_57, ln_58, ln_59, Option.toList_some, Option.toList_none, List.cons_append, List.nil_append, true_and, and_true, if_true, if_false, true_or, or_true, Nat.reduceAdd, Int.reduceAdd, Bool.false_eq_true, tn_0, tn_1, tn_2, tn_3, tn_4, tn_5, tn_6, tn_7, ix0, bit1 set h32]
      refine ⟨fun h => ?_, fun h => ?_⟩
      · have hb : ¬ bt set k = true := fun z => h (by rw [if_pos z])
        exact fin _ (own 4) (own 5) (by rw [if_neg hb])
      · have hb : bt set k = true := by
          by_cases z : bt set k = true
          · exact z
          · rw [if_neg z] at h; exact absurd h (by decide)
        refine J_blk a_X6_goesOn_86 ?_
        simp only [b_X6_goesOn_86, w_aload_n0, w_getf6, ne0_1, w_iload4, w_iconst_2, w_iadd, w_iald, w_iload_n3, w_nil, kd_46, kd_47, kd_48, kd_49, kd_50, kd_51, kd_52, kd_53, kd_54, kd_55, kd_56, kd_57, kd_58, kd_59, ln_47, ln_48, ln_49, ln_50, ln_51, ln_52, ln_53, ln_54, ln_55, ln_56, ln_57, ln_58, ln_59, Option.toList_some, Option.toList_none, List.cons_append, List.nil_append, true_and, and_true, if_true, if_false, true_or, or_true, Nat.reduceAdd, Int.reduceAdd, Bool.false_eq_true, tn_0, tn_1, tn_2, tn_3, tn_4, tn_5, tn_6, tn_7, ad2, su_at, t2, own 2]
        refine ⟨vinN (by omega) (by decide), ?_⟩
        refine J_callVr (ci := 6) (gains_ok k n _ hk h8) k_X6_goesOn_105 o_X6_gains rfl rfl rfl rfl (by decide) rfl (Nat.le_of_ble_eq_true rfl) ?_
        refine J_blk a_X6_goesOn_108 ?_
        simp only [b_X6_goesOn_108, w_iadd, w_nil, kd_46, kd_47, kd_48, kd_49, kd_50, kd_51, kd_52, kd_53, kd_54, kd_55, kd_56, kd_57, kd_58, kd_59, ln_47, ln_48, ln_49, ln_50, ln_51, ln_52, ln_53, ln_54, ln_55, ln_56, ln_57, ln_58, ln_59, Option.toList_some, Option.toList_none, List.cons_append, List.nil_append, true_and, and_true, if_true, if_false, true_or, or_true, Nat.reduceAdd, Int.reduceAdd, Bool.false_eq_true, tn_0, tn_1, tn_2, tn_3, tn_4, tn_5, tn_6, tn_7]
        refine J_callSr (within_ok _ _) k_X6_goesOn_109 o_X6_within rfl (by decide) rfl (Nat.le_of_ble_eq_true rfl) ?_
        have r3 : ∀ v, upd (ybS s (bt set) k) (8 + 6 * k + 2) v (8 + 6 * k + 3) = s (8 + 6 * k + 3) := fun v => by rw [pk_un (by omega), own 3]
        refine J_blk a_X6_goesOn_112 ?_
        simp only [b_X6_goesOn_112, w_iast, w_aload_n0, w_getf6, ne0_1, w_iload4, w_iconst_3, w_iadd, w_bipush, ci_99, w_iald, w_iconst_1, w_nil, kd_46, kd_47, kd_48, kd_49, kd_50, kd_51, kd_52, kd_53, kd_54, kd_55, kd_56, kd_57, kd_58, kd_59, ln_47, ln_48, ln_49, ln_50, ln_51, ln_52, ln_53, ln_54, ln_55, ln_56, ln_57, ln_58, ln_59, Option.toList_some, Option.toList_none, List.cons_append, List.nil_append, true_and, and_true, if_true, if_false, true_or, or_true, Nat.reduceAdd, Int.reduceAdd, Bool.false_eq_true, tn_0, tn_1, tn_2, tn_3, tn_4, tn_5, tn_6, tn_7, ad3, u1_su, su_at, t2, t3, r3, gain_own]
        refine ⟨vinN (by omega) (by decide), vinN (by omega) (by decide), ?_⟩
        refine J_callSr (least_ok _ _ _) k_X6_goesOn_134 o_X6_least rfl (by decide) rfl (Nat.le_of_ble_eq_true rfl) ?_
        refine J_blk a_X6_goesOn_137 ?_
        simp only [b_X6_goesOn_137, w_iast, w_nil, kd_46, kd_47, kd_48, kd_49, kd_50, kd_51, kd_52, kd_53, kd_54, kd_55, kd_56, kd_57, kd_58, kd_59, ln_47, ln_48, ln_49, ln_50, ln_51, ln_52, ln_53, ln_54, ln_55, ln_56, ln_57, ln_58, ln_59, Option.toList_some, Option.toList_none, List.cons_append, List.nil_append, true_and, and_true, if_true, if_false, true_or, or_true, Nat.reduceAdd, Int.reduceAdd, Bool.false_eq_true, tn_0, tn_1, tn_2, tn_3, tn_4, tn_5, tn_6, tn_7, u1_su, t3]
        refine ⟨vinN (by omega) (by decide), ?_⟩
        exact fin _ (by rw [pk_un (by omega), pk_un (by omega), own 4]) (by rw [pk_un (by omega), pk_un (by omega), own 5]) (by rw [if_pos hb]; rfl)
  have loop1 : ∀ k, k ≤ n → ∀ z : Option Value, J 3 mX6_goesOn 9 [some (.ref 46), some (.int set), some (.int (smS s (bt set) n k)), some (.int (nI k)), z] [] M (Rt (some (.int (smS s (bt set) n n))) (su M 47 (yearR s (bt set) n (smS s (bt set) n n)))) := by
    refine down n ?_ ?_
    · intro z
      refine J_blk a_X6_goesOn_9 ?_
      simp only [b_X6_goesOn_9, w_iload_n3, w_aload_n0, w_getf6, ne0_1, w_iconst_0, w_iald, w_icmp_ge, w_nil, kd_46, kd_47, kd_48, kd_49, kd_50, kd_51, kd_52, kd_53, kd_54, kd_55, kd_56, kd_57, kd_58, kd_59, ln_47, ln_48, ln_49, ln_50, ln_51, ln_52, ln_53, ln_54, ln_55, ln_56, ln_57, ln_58, ln_59, Option.toList_some, Option.toList_none, List.cons_append, List.nil_append, true_and, and_true, if_true, if_false, true_or, or_true, Nat.reduceAdd, Int.reduceAdd, Bool.false_eq_true, tn_0, tn_1, tn_2, tn_3, tn_4, tn_5, tn_6, tn_7, hs, z0, h0]
      refine ⟨vlit (by decide), fun _ => ?_, fun h => absurd (Int32.le_refl _) h⟩
      have h2 := loop2 0 (by omega) z
      rw [ybS_0, ← hs, su_self, hs] at h2
      refine J_blk a_X6_goesOn_56 ?_
      simp only [b_X6_goesOn_56, w_iconst_0, w_istore3, nl_3n, nl_3i, nl_3a, w_nil, kd_46, kd_47, kd_48, kd_49, kd_50, kd_51, kd_52, kd_53, kd_54, kd_55, kd_56, kd_57, kd_58, kd_59, ln_47, ln_48, ln_49, ln_50, ln_51, ln_52, ln_53, ln_54, ln_55, ln_56, ln_57, ln_58, ln_59, Option.toList_some, Option.toList_none, List.cons_append, List.nil_append, true_and, and_true, if_true, if_false, true_or, or_true, Nat.reduceAdd, Int.reduceAdd, Bool.false_eq_true, tn_0, tn_1, tn_2, tn_3, tn_4, tn_5, tn_6, tn_7]
      exact h2
    · intro k hk ih z
      have h32 : k < 32 := by omega
      refine J_blk a_X6_goesOn_9 ?_
      simp only [b_X6_goesOn_9, w_iload_n3, w_aload_n0, w_getf6, ne0_1, w_iconst_0, w_iald, w_icmp_ge, w_nil, kd_46, kd_47, kd_48, kd_49, kd_50, kd_51, kd_52, kd_53, kd_54, kd_55, kd_56, kd_57, kd_58, kd_59, ln_47, ln_48, ln_49, ln_50, ln_51, ln_52, ln_53, ln_54, ln_55, ln_56, ln_57, ln_58, ln_59, Option.toList_some, Option.toList_none, List.cons_append, List.nil_append, true_and, and_true, if_true, if_false, true_or, or_true, Nat.reduceAdd, Int.reduceAdd, Bool.false_eq_true, tn_0, tn_1, tn_2, tn_3, tn_4, tn_5, tn_6, tn_7, hs, z0, h0]
      refine ⟨vlit (by decide), fun h => absurd h (nI_ge hk (by omega)), fun _ => ?_⟩
      refine J_blk a_X6_goesOn_19 ?_
      simp only [b_X6_goesOn_19, w_aload_n0, w_iload_n3, w_iload_n1, w_nil, kd_46, kd_47, kd_48, kd_49, kd_50, kd_51, kd_52, kd_53, kd_54, kd_55, kd_56, kd_57, kd_58, kd_59, ln_47, ln_48, ln_49, ln_50, ln_51, ln_52, ln_53, ln_54, ln_55, ln_56, ln_57, ln_58, ln_59, Option.toList_some, Option.toList_none, List.cons_append, List.nil_append, true_and, and_true, if_true, if_false, true_or, or_true, Nat.reduceAdd, Int.reduceAdd, Bool.false_eq_true, tn_0, tn_1, tn_2, tn_3, tn_4, tn_5, tn_6, tn_7]
      refine J_callVr (ci := 6) (bears_ok k n set M (by rw [hs]; exact hw) hk) k_X6_goesOn_22 o_X6_bears rfl rfl rfl rfl (by decide) rfl (Nat.le_of_ble_eq_true rfl) ?_
      rw [hs]
      refine J_blk a_X6_goesOn_25 ?_
      simp only [b_X6_goesOn_25, w_istore4, nl_4n, nl_4i, nl_4a, w_iload_n2, w_iload_n1, w_iload_n3, w_ishr, w_iconst_1, w_iand, w_icmp_ne, w_nil, kd_46, kd_47, kd_48, kd_49, kd_50, kd_51, kd_52, kd_53, kd_54, kd_55, kd_56, kd_57, kd_58, kd_59, ln_47, ln_48, ln_49, ln_50, ln_51, ln_52, ln_53, ln_54, ln_55, ln_56, ln_57, ln_58, ln_59, Option.toList_some, Option.toList_none, List.cons_append, List.nil_append, true_and, and_true, if_true, if_false, true_or, or_true, Nat.reduceAdd, Int.reduceAdd, Bool.false_eq_true, tn_0, tn_1, tn_2, tn_3, tn_4, tn_5, tn_6, tn_7, bit1 set h32]
      refine ⟨fun c26 => ?_, fun c26 => ?_⟩
      · refine J_blk a_X6_goesOn_47 ?_
        simp only [b_X6_goesOn_47, w_iconst_0, w_nil, kd_46, kd_47, kd_48, kd_49, kd_50, kd_51, kd_52, kd_53, kd_54, kd_55, kd_56, kd_57, kd_58, kd_59, ln_47, ln_48, ln_49, ln_50, ln_51, ln_52, ln_53, ln_54, ln_55, ln_56, ln_57, ln_58, ln_59, Option.toList_some, Option.toList_none, List.cons_append, List.nil_append, true_and, and_true, if_true, if_false, true_or, or_true, Nat.reduceAdd, Int.reduceAdd, Bool.false_eq_true, tn_0, tn_1, tn_2, tn_3, tn_4, tn_5, tn_6, tn_7, bit1 set h32]
        refine J_blk a_X6_goesOn_48 ?_
        simp only [b_X6_goesOn_48, w_iadd, w_istore2, nl_2n, nl_2i, nl_2a, w_iinc3, nl_3n, nl_3i, nl_3a, ci_1, w_goto, kd_46, kd_47, kd_48, kd_49, kd_50, kd_51, kd_52, kd_53, kd_54, kd_55, kd_56, kd_57, kd_58, kd_59, ln_47, ln_48, ln_49, ln_50, ln_51, ln_52, ln_53, ln_54, ln_55, ln_56, ln_57, ln_58, ln_59, Option.toList_some, Option.toList_none, List.cons_append, List.nil_append, true_and, and_true, if_true, if_false, true_or, or_true, Nat.reduceAdd, Int.reduceAdd, Bool.false_eq_true, tn_0, tn_1, tn_2, tn_3, tn_4, tn_5, tn_6, tn_7, bit1 set h32]
        exact J_cast (ih (some (.int (bearS s (bt set) n k)))) (by simp only [smS, nI_1, List.cons.injEq, Option.some.injEq, Value.int.injEq, true_and, and_true]; grind) rfl rfl
      · refine J_blk a_X6_goesOn_37 ?_
        simp only [b_X6_goesOn_37, w_iload4, w_if_le, w_nil, kd_46, kd_47, kd_48, kd_49, kd_50, kd_51, kd_52, kd_53, kd_54, kd_55, kd_56, kd_57, kd_58, kd_59, ln_47, ln_48, ln_49, ln_50, ln_51, ln_52, ln_53, ln_54, ln_55, ln_56, ln_57, ln_58, ln_59, Option.toList_some, Option.toList_none, List.cons_append, List.nil_append, true_and, and_true, if_true, if_false, true_or, or_true, Nat.reduceAdd, Int.reduceAdd, Bool.false_eq_true, tn_0, tn_1, tn_2, tn_3, tn_4, tn_5, tn_6, tn_7, bit1 set h32]
        refine ⟨fun c27 => ?_, fun c27 => ?_⟩
        · refine J_blk a_X6_goesOn_47 ?_
          simp only [b_X6_goesOn_47, w_iconst_0, w_nil, kd_46, kd_47, kd_48, kd_49, kd_50, kd_51, kd_52, kd_53, kd_54, kd_55, kd_56, kd_57, kd_58, kd_59, ln_47, ln_48, ln_49, ln_50, ln_51, ln_52, ln_53, ln_54, ln_55, ln_56, ln_57, ln_58, ln_59, Option.toList_some, Option.toList_none, List.cons_append, List.nil_append, true_and, and_true, if_true, if_false, true_or, or_true, Nat.reduceAdd, Int.reduceAdd, Bool.false_eq_true, tn_0, tn_1, tn_2, tn_3, tn_4, tn_5, tn_6, tn_7, bit1 set h32]
          refine J_blk a_X6_goesOn_48 ?_
          simp only [b_X6_goesOn_48, w_iadd, w_istore2, nl_2n, nl_2i, nl_2a, w_iinc3, nl_3n, nl_3i, nl_3a, ci_1, w_goto, kd_46, kd_47, kd_48, kd_49, kd_50, kd_51, kd_52, kd_53, kd_54, kd_55, kd_56, kd_57, kd_58, kd_59, ln_47, ln_48, ln_49, ln_50, ln_51, ln_52, ln_53, ln_54, ln_55, ln_56, ln_57, ln_58, ln_59, Option.toList_some, Option.toList_none, List.cons_append, List.nil_append, true_and, and_true, if_true, if_false, true_or, or_true, Nat.reduceAdd, Int.reduceAdd, Bool.false_eq_true, tn_0, tn_1, tn_2, tn_3, tn_4, tn_5, tn_6, tn_7, bit1 set h32]
          exact J_cast (ih (some (.int (bearS s (bt set) n k)))) (by simp only [smS, nI_1, List.cons.injEq, Option.some.injEq, Value.int.injEq, true_and, and_true]; grind) rfl rfl
        · refine J_blk a_X6_goesOn_42 ?_
          simp only [b_X6_goesOn_42, w_iload4, w_goto, kd_46, kd_47, kd_48, kd_49, kd_50, kd_51, kd_52, kd_53, kd_54, kd_55, kd_56, kd_57, kd_58, kd_59, ln_47, ln_48, ln_49, ln_50, ln_51, ln_52, ln_53, ln_54, ln_55, ln_56, ln_57, ln_58, ln_59, Option.toList_some, Option.toList_none, List.cons_append, List.nil_append, true_and, and_true, if_true, if_false, true_or, or_true, Nat.reduceAdd, Int.reduceAdd, Bool.false_eq_true, tn_0, tn_1, tn_2, tn_3, tn_4, tn_5, tn_6, tn_7, bit1 set h32]
          refine J_blk a_X6_goesOn_48 ?_
          simp only [b_X6_goesOn_48, w_iadd, w_istore2, nl_2n, nl_2i, nl_2a, w_iinc3, nl_3n, nl_3i, nl_3a, ci_1, w_goto, kd_46, kd_47, kd_48, kd_49, kd_50, kd_51, kd_52, kd_53, kd_54, kd_55, kd_56, kd_57, kd_58, kd_59, ln_47, ln_48, ln_49, ln_50, ln_51, ln_52, ln_53, ln_54, ln_55, ln_56, ln_57, ln_58, ln_59, Option.toList_some, Option.toList_none, List.cons_append, List.nil_append, true_and, and_true, if_true, if_false, true_or, or_true, Nat.reduceAdd, Int.reduceAdd, Bool.false_eq_true, tn_0, tn_1, tn_2, tn_3, tn_4, tn_5, tn_6, tn_7, bit1 set h32]
          exact J_cast (ih (some (.int (bearS s (bt set) n k)))) (by simp only [smS, nI_1, List.cons.injEq, Option.some.injEq, Value.int.injEq, true_and, and_true]; grind) rfl rfl
  exact loop1 0 (by omega) none
def zS (z : Int32) : Int32 := z * 1103515245 + 12345
def drS (z : Int32) : Int32 := (z.toUInt32 >>> ((16 : Int32).toUInt32 &&& Int32.toUInt32 31)).toInt32
theorem drawn_ok (M : Mm) : K 0 mX6_drawn [.ref 46] M (Rt (some (.int (drS (zS (M.1 47 2))))) (u1 M 47 2 (zS (M.1 47 2)))) := by
  have z2 : (2 : Int32).toNatClampNeg = 2 := rfl
  refine K_go 0 o_X6_drawn [] rfl (Nat.le_of_ble_eq_true rfl) ?_
  simp only [lvA_i, lvA_a, lvA_l, lvA_nil, List.cons_append, List.nil_append]
  refine J_blk a_X6_drawn_0 ?_
  simp only [b_X6_drawn_0, w_aload_n0, w_getf6, ne0_1, w_iconst_2, w_iald, w_ldc, ci_1103515245, w_imul, w_sipush, ci_12345, w_iadd, w_iast, w_bipush, ci_16, w_iushr, w_ireti, kd_46, kd_47, kd_48, kd_49, kd_50, kd_51, kd_52, kd_53, kd_54, kd_55, kd_56, kd_57, kd_58, kd_59, ln_47, ln_48, ln_49, ln_50, ln_51, ln_52, ln_53, ln_54, ln_55, ln_56, ln_57, ln_58, ln_59, Option.toList_some, Option.toList_none, List.cons_append, List.nil_append, true_and, and_true, if_true, if_false, true_or, or_true, Nat.reduceAdd, Int.reduceAdd, Bool.false_eq_true, tn_0, tn_1, tn_2, tn_3, tn_4, tn_5, tn_6, tn_7, z2]
  refine ⟨vlit (by decide), vlit (by decide), vlit (by decide), ?_⟩
  exact ⟨by simp [u1, drS, zS], rfl⟩

