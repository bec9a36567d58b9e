/-! the model: act, trace, many, keep, again, feed -/
theorem mact_f (h act x : Int32) (M : Mm) (hb : ¬ ((0 ≤ h ∧ h ≤ 3) ∧ (0 ≤ act ∧ act ≤ 3))) : K 2 mX6_act [.ref 46, .int h, .int act, .int x] M (Rt (some (.int 0)) (u1 M 46 21 0)) := by
  refine K_go 3 o_X6_act [none] rfl (Nat.le_of_ble_eq_true rfl) ?_
  simp only [lvA_i, lvA_a, lvA_l, lvA_nil, List.cons_append, List.nil_append]
  refine J_blk a_X6_act_0 ?_
  simp only [b_X6_act_0, w_aload_n0, w_iconst_0, w_putf6, w_iload_n1, w_nil, kd_46, kd_47, kd_48, kd_49, kd_50, kd_51, kd_52, kd_53, kd_54, kd_55, kd_56, kd_57, kd_58, kd_59, ln_47, ln_48, ln_49, ln_50, ln_51, ln_52, ln_53, ln_54, ln_55, ln_56, ln_57, ln_58, ln_59, Option.toList_some, Option.toList_none, List.cons_append, List.nil_append, true_and, and_true, if_true, if_false, true_or, or_true, Nat.reduceAdd, Int.reduceAdd, Bool.false_eq_true, tn_0, tn_1, tn_2, tn_3, tn_4, tn_5, tn_6, tn_7]
  refine J_callSr (isShelf_ok _ _) k_X6_act_6 o_X6_isShelf rfl (by decide) rfl (Nat.le_of_ble_eq_true rfl) ?_
  refine J_blk a_X6_act_9 ?_
  simp only [b_X6_act_9, w_if_eq, w_nil, kd_46, kd_47, kd_48, kd_49, kd_50, kd_51, kd_52, kd_53, kd_54, kd_55, kd_56, kd_57, kd_58, kd_59, ln_47, ln_48, ln_49, ln_50, ln_51, ln_52, ln_53, ln_54, ln_55, ln_56, ln_57, ln_58, ln_59, Option.toList_some, Option.toList_none, List.cons_append, List.nil_append, true_and, and_true, if_true, if_false, true_or, or_true, Nat.reduceAdd, Int.reduceAdd, Bool.false_eq_true, tn_0, tn_1, tn_2, tn_3, tn_4, tn_5, tn_6, tn_7]
  refine ⟨fun c1 => ?_, fun c1 => ?_⟩
  · refine J_blk a_X6_act_33 ?_
    simp only [b_X6_act_33, w_iconst_0, w_ireti, kd_46, kd_47, kd_48, kd_49, kd_50, kd_51, kd_52, kd_53, kd_54, kd_55, kd_56, kd_57, kd_58, kd_59, ln_47, ln_48, ln_49, ln_50, ln_51, ln_52, ln_53, ln_54, ln_55, ln_56, ln_57, ln_58, ln_59, Option.toList_some, Option.toList_none, List.cons_append, List.nil_append, true_and, and_true, if_true, if_false, true_or, or_true, Nat.reduceAdd, Int.reduceAdd, Bool.false_eq_true, tn_0, tn_1, tn_2, tn_3, tn_4, tn_5, tn_6, tn_7]
    exact ⟨rfl, rfl⟩
  · refine J_blk a_X6_act_12 ?_
    simp only [b_X6_act_12, w_iload_n2, w_i2l, w_lconst_0, w_ldc2, cl_3, w_nil, kd_46, kd_47, kd_48, kd_49, kd_50, kd_51, kd_52, kd_53, kd_54, kd_55, kd_56, kd_57, kd_58, kd_59, ln_47, ln_48, ln_49, ln_50, ln_51, ln_52, ln_53, ln_54, ln_55, ln_56, ln_57, ln_58, ln_59, Option.toList_some, Option.toList_none, List.cons_append, List.nil_append, true_and, and_true, if_true, if_false, true_or, or_true, Nat.reduceAdd, Int.reduceAdd, Bool.false_eq_true, tn_0, tn_1, tn_2, tn_3, tn_4, tn_5, tn_6, tn_7]
    refine J_callSr (isIn_ok _ _ _ _) k_X6_act_18 o_X6_isIn rfl (by decide) rfl (Nat.le_of_ble_eq_true rfl) ?_
    simp only [l_le_1, l_le_2, l_le_3, l_le_5, l_le_7, l_le_8, l_le_9, l_le_10, l_le_13, l_le_20, l_le_30, l_le_60, l_le_99, l_le_9999, l_ge_0, l_ge_1, l_ge_6, l_ge_m1, i64_le]
    refine J_blk a_X6_act_21 ?_
    simp only [b_X6_act_21, w_if_eq, w_nil, kd_46, kd_47, kd_48, kd_49, kd_50, kd_51, kd_52, kd_53, kd_54, kd_55, kd_56, kd_57, kd_58, kd_59, ln_47, ln_48, ln_49, ln_50, ln_51, ln_52, ln_53, ln_54, ln_55, ln_56, ln_57, ln_58, ln_59, Option.toList_some, Option.toList_none, List.cons_append, List.nil_append, true_and, and_true, if_true, if_false, true_or, or_true, Nat.reduceAdd, Int.reduceAdd, Bool.false_eq_true, tn_0, tn_1, tn_2, tn_3, tn_4, tn_5, tn_6, tn_7]
    refine ⟨fun c2 => ?_, fun c2 => ?_⟩
    · refine J_blk a_X6_act_33 ?_
      simp only [b_X6_act_33, w_iconst_0, w_ireti, kd_46, kd_47, kd_48, kd_49, kd_50, kd_51, kd_52, kd_53, kd_54, kd_55, kd_56, kd_57, kd_58, kd_59, ln_47, ln_48, ln_49, ln_50, ln_51, ln_52, ln_53, ln_54, ln_55, ln_56, ln_57, ln_58, ln_59, Option.toList_some, Option.toList_none, List.cons_append, List.nil_append, true_and, and_true, if_true, if_false, true_or, or_true, Nat.reduceAdd, Int.reduceAdd, Bool.false_eq_true, tn_0, tn_1, tn_2, tn_3, tn_4, tn_5, tn_6, tn_7]
      exact ⟨rfl, rfl⟩
    · exact absurd (by grind) hb
theorem hoS_u (M : Mm) (n h k : Nat) (v : Int32) : hoS (u1 M 46 k v) n h = hoS M n h := by
  unfold hoS
  rw [u1_o _ _ _ _ (show (56 : Nat) ≠ 46 by decide), u1_o _ _ _ _ (show (57 : Nat) ≠ 46 by decide)]
theorem mact_n (h n : Nat) (act x : Int32) (M : Mm) (hw : WF (M.1 47) n) (hh : h < 4) (hs : ¬ hoS M n h = 1) : K 2 mX6_act [.ref 46, .int (nI h), .int act, .int x] M (Rt (some (.int 0)) (u1 M 46 21 0)) := by
  have hw' : WF ((u1 M 46 21 0).1 47) n := by rw [u1_o _ _ _ _ (by decide)]; exact hw
  refine K_go 3 o_X6_act [none] rfl (Nat.le_of_ble_eq_true rfl) ?_
  simp only [lvA_i, lvA_a, lvA_l, lvA_nil, List.cons_append, List.nil_append]
  refine J_blk a_X6_act_0 ?_
  simp only [b_X6_act_0, w_aload_n0, w_iconst_0, w_putf6, w_iload_n1, w_nil, kd_46, kd_47, kd_48, kd_49, kd_50, kd_51, kd_52, kd_53, kd_54, kd_55, kd_56, kd_57, kd_58, kd_59, ln_47, ln_48, ln_49, ln_50, ln_51, ln_52, ln_53, ln_54, ln_55, ln_56, ln_57, ln_58, ln_59, Option.toList_some, Option.toList_none, List.cons_append, List.nil_append, true_and, and_true, if_true, if_false, true_or, or_true, Nat.reduceAdd, Int.reduceAdd, Bool.false_eq_true, tn_0, tn_1, tn_2, tn_3, tn_4, tn_5, tn_6, tn_7]
  refine J_callSr (isShelf_ok _ _) k_X6_act_6 o_X6_isShelf rfl (by decide) rfl (Nat.le_of_ble_eq_true rfl) ?_
  refine J_blk a_X6_act_9 ?_
  simp only [b_X6_act_9, w_if_eq, w_nil, kd_46, kd_47, kd_48, kd_49, kd_50, kd_51, kd_52, kd_53, kd_54, kd_55, kd_56, kd_57, kd_58, kd_59, ln_47, ln_48, ln_49, ln_50, ln_51, ln_52, ln_53, ln_54, ln_55, ln_56, ln_57, ln_58, ln_59, Option.toList_some, Option.toList_none, List.cons_append, List.nil_append, true_and, and_true, if_true, if_false, true_or, or_true, Nat.reduceAdd, Int.reduceAdd, Bool.false_eq_true, tn_0, tn_1, tn_2, tn_3, tn_4, tn_5, tn_6, tn_7]
  refine ⟨fun c3 => ?_, fun c3 => ?_⟩
  · refine J_blk a_X6_act_33 ?_
    simp only [b_X6_act_33, w_iconst_0, w_ireti, kd_46, kd_47, kd_48, kd_49, kd_50, kd_51, kd_52, kd_53, kd_54, kd_55, kd_56, kd_57, kd_58, kd_59, ln_47, ln_48, ln_49, ln_50, ln_51, ln_52, ln_53, ln_54, ln_55, ln_56, ln_57, ln_58, ln_59, Option.toList_some, Option.toList_none, List.cons_append, List.nil_append, true_and, and_true, if_true, if_false, true_or, or_true, Nat.reduceAdd, Int.reduceAdd, Bool.false_eq_true, tn_0, tn_1, tn_2, tn_3, tn_4, tn_5, tn_6, tn_7]
    exact ⟨rfl, rfl⟩
  · refine J_blk a_X6_act_12 ?_
    simp only [b_X6_act_12, w_iload_n2, w_i2l, w_lconst_0, w_ldc2, cl_3, w_nil, kd_46, kd_47, kd_48, kd_49, kd_50, kd_51, kd_52, kd_53, kd_54, kd_55, kd_56, kd_57, kd_58, kd_59, ln_47, ln_48, ln_49, ln_50, ln_51, ln_52, ln_53, ln_54, ln_55, ln_56, ln_57, ln_58, ln_59, Option.toList_some, Option.toList_none, List.cons_append, List.nil_append, true_and, and_true, if_true, if_false, true_or, or_true, Nat.reduceAdd, Int.reduceAdd, Bool.false_eq_true, tn_0, tn_1, tn_2, tn_3, tn_4, tn_5, tn_6, tn_7]
    refine J_callSr (isIn_ok _ _ _ _) k_X6_act_18 o_X6_isIn rfl (by decide) rfl (Nat.le_of_ble_eq_true rfl) ?_
    simp only [l_le_1, l_le_2, l_le_3, l_le_5, l_le_7, l_le_8, l_le_9, l_le_10, l_le_13, l_le_20, l_le_30, l_le_60, l_le_99, l_le_9999, l_ge_0, l_ge_1, l_ge_6, l_ge_m1, i64_le]
    refine J_blk a_X6_act_21 ?_
    simp only [b_X6_act_21, w_if_eq, w_nil, kd_46, kd_47, kd_48, kd_49, kd_50, kd_51, kd_52, kd_53, kd_54, kd_55, kd_56, kd_57, kd_58, kd_59, ln_47, ln_48, ln_49, ln_50, ln_51, ln_52, ln_53, ln_54, ln_55, ln_56, ln_57, ln_58, ln_59, Option.toList_some, Option.toList_none, List.cons_append, List.nil_append, true_and, and_true, if_true, if_false, true_or, or_true, Nat.reduceAdd, Int.reduceAdd, Bool.false_eq_true, tn_0, tn_1, tn_2, tn_3, tn_4, tn_5, tn_6, tn_7]
    refine ⟨fun c4 => ?_, fun c4 => ?_⟩
    · refine J_blk a_X6_act_33 ?_
      simp only [b_X6_act_33, w_iconst_0, w_ireti, kd_46, kd_47, kd_48, kd_49, kd_50, kd_51, kd_52, kd_53, kd_54, kd_55, kd_56, kd_57, kd_58, kd_59, ln_47, ln_48, ln_49, ln_50, ln_51, ln_52, ln_53, ln_54, ln_55, ln_56, ln_57, ln_58, ln_59, Option.toList_some, Option.toList_none, List.cons_append, List.nil_append, true_and, and_true, if_true, if_false, true_or, or_true, Nat.reduceAdd, Int.reduceAdd, Bool.false_eq_true, tn_0, tn_1, tn_2, tn_3, tn_4, tn_5, tn_6, tn_7]
      exact ⟨rfl, rfl⟩
    · refine J_blk a_X6_act_24 ?_
      simp only [b_X6_act_24, w_aload_n0, w_iload_n1, w_nil, kd_46, kd_47, kd_48, kd_49, kd_50, kd_51, kd_52, kd_53, kd_54, kd_55, kd_56, kd_57, kd_58, kd_59, ln_47, ln_48, ln_49, ln_50, ln_51, ln_52, ln_53, ln_54, ln_55, ln_56, ln_57, ln_58, ln_59, Option.toList_some, Option.toList_none, List.cons_append, List.nil_append, true_and, and_true, if_true, if_false, true_or, or_true, Nat.reduceAdd, Int.reduceAdd, Bool.false_eq_true, tn_0, tn_1, tn_2, tn_3, tn_4, tn_5, tn_6, tn_7]
      refine J_callVr (ci := 6) (heldOn_ok h n _ hw' hh) k_X6_act_26 o_X6_heldOn rfl rfl rfl rfl (by decide) rfl (Nat.le_of_ble_eq_true rfl) ?_
      rw [hoS_u]
      refine J_blk a_X6_act_29 ?_
      simp only [b_X6_act_29, w_iconst_1, w_icmp_eq, w_nil, kd_46, kd_47, kd_48, kd_49, kd_50, kd_51, kd_52, kd_53, kd_54, kd_55, kd_56, kd_57, kd_58, kd_59, ln_47, ln_48, ln_49, ln_50, ln_51, ln_52, ln_53, ln_54, ln_55, ln_56, ln_57, ln_58, ln_59, Option.toList_some, Option.toList_none, List.cons_append, List.nil_append, true_and, and_true, if_true, if_false, true_or, or_true, Nat.reduceAdd, Int.reduceAdd, Bool.false_eq_true, tn_0, tn_1, tn_2, tn_3, tn_4, tn_5, tn_6, tn_7]
      refine ⟨fun c5 => ?_, fun c5 => ?_⟩
      · exact absurd (by assumption) hs
      · refine J_blk a_X6_act_33 ?_
        simp only [b_X6_act_33, w_iconst_0, w_ireti, kd_46, kd_47, kd_48, kd_49, kd_50, kd_51, kd_52, kd_53, kd_54, kd_55, kd_56, kd_57, kd_58, kd_59, ln_47, ln_48, ln_49, ln_50, ln_51, ln_52, ln_53, ln_54, ln_55, ln_56, ln_57, ln_58, ln_59, Option.toList_some, Option.toList_none, List.cons_append, List.nil_append, true_and, and_true, if_true, if_false, true_or, or_true, Nat.reduceAdd, Int.reduceAdd, Bool.false_eq_true, tn_0, tn_1, tn_2, tn_3, tn_4, tn_5, tn_6, tn_7]
        exact ⟨rfl, rfl⟩
/-- who acts -/
def acM (M : Mm) (k n a : Int32) : Mm := u1 (u1 (u1 (pdM (u1 M 46 21 0) false) 46 22 k) 46 23 n) 46 24 a
def acL (act k n a : Int32) : List Int32 := if act = 0 then buL k else if act = 1 then leL k else if act = 2 then paL k n a else faL k n a
def acV (act k n a x : Int32) : Int32 := if act = 0 then buV k n x else if act = 1 then leV k n a x else if act = 2 then paV k n a x else faV k n a x
def acP (act k n a : Int32) : Bool := if act = 0 then false else if act = 1 then false else if act = 2 then decide (n = a) else faP k n a
theorem mact_t (h n o : Nat) (act x : Int32) (M : Mm) (hw : WF (M.1 47) n) (hh : h < 4) (ha : 0 ≤ act ∧ act ≤ 3) (hs : hoS M n h = 1) (ho : o < n) (eo : M.1 57 h = nI o) : K 8 mX6_act [.ref 46, .int (nI h), .int act, .int x] M (Rt (some (.int (if acP act (M.1 47 (8 + 6 * o)) (nI o) (M.1 47 (8 + 6 * o + 2)) = true then -15 else acV act (M.1 47 (8 + 6 * o)) (nI o) (M.1 47 (8 + 6 * o + 2)) x))) (pdM (ntL (acM M (M.1 47 (8 + 6 * o)) (nI o) (M.1 47 (8 + 6 * o + 2))) (acL act (M.1 47 (8 + 6 * o)) (nI o) (M.1 47 (8 + 6 * o + 2)))) (acP act (M.1 47 (8 + 6 * o)) (nI o) (M.1 47 (8 + 6 * o + 2))))) := by
  have h8 := hw.2.1
  have h1 : 0 ≤ nI h ∧ nI h ≤ 3 := ok2 (m := 3) (by omega) (by decide)
  have th : (nI h).toNatClampNeg = h := nI_clamp (by omega)
  have hw' : WF ((u1 M 46 21 0).1 47) n := by rw [u1_o _ _ _ _ (by decide)]; exact hw
  have e57 : ∀ (M : Mm) k v, (u1 M 46 k v).1 57 = M.1 57 := fun M k v => u1_o _ _ _ _ (by decide)
  have e47 : ∀ (M : Mm) k v, (u1 M 46 k v).1 47 = M.1 47 := fun M k v => u1_o _ _ _ _ (by decide)
  generalize hk : M.1 47 (8 + 6 * o) = k
  generalize hf : M.1 47 (8 + 6 * o + 2) = a
  have f22 : (acM M k (nI o) a).1 46 22 = k := by simp [acM, u1]
  have f23 : (acM M k (nI o) a).1 46 23 = nI o := by simp [acM, u1]
  have f24 : (acM M k (nI o) a).1 46 24 = a := by simp [acM, u1]
  have f25 : (acM M k (nI o) a).1 46 25 = 0 := by simp [acM, u1, pdM, bI]
  have ct : CT (acM M k (nI o) a) := ⟨0, by omega, by simp [acM, u1, pdM]; rfl⟩
  have tail : ∀ (v : Int32) (b : Bool) (l : List Int32), v = acV act k (nI o) a x → b = acP act k (nI o) a → l = acL act k (nI o) a → J 8 mX6_act 123 [some (.ref 46), some (.int (nI h)), some (.int act), some (.int x), none] [.int v] (pdM (ntL (acM M k (nI o) a) l) b) (Rt (some (.int (if acP act k (nI o) a = true then -15 else acV act k (nI o) a x))) (pdM (ntL (acM M k (nI o) a) (acL act k (nI o) a)) (acP act k (nI o) a))) := by
    intro v b l hv hb hl
    rw [← hv, ← hb, ← hl]
    cases b
    · refine J_blk a_X6_act_123 ?_
      simp only [b_X6_act_123, w_istore4, nl_4n, nl_4i, nl_4a, w_aload_n0, w_getf6, w_if_eq, w_nil, kd_46, kd_47, kd_48, kd_49, kd_50, kd_51, kd_52, kd_53, kd_54, kd_55, kd_56, kd_57, kd_58, kd_59, ln_47, ln_48, ln_49, ln_50, ln_51, ln_52, ln_53, ln_54, ln_55, ln_56, ln_57, ln_58, ln_59, Option.toList_some, Option.toList_none, List.cons_append, List.nil_append, true_and, and_true, if_true, if_false, true_or, or_true, Nat.reduceAdd, Int.reduceAdd, Bool.false_eq_true, tn_0, tn_1, tn_2, tn_3, tn_4, tn_5, tn_6, tn_7, pd_25]
      refine ⟨fun _ => ?_, fun h => absurd rfl h⟩
      refine J_blk a_X6_act_137 ?_
      simp only [b_X6_act_137, w_iload4, w_nil, kd_46, kd_47, kd_48, kd_49, kd_50, kd_51, kd_52, kd_53, kd_54, kd_55, kd_56, kd_57, kd_58, kd_59, ln_47, ln_48, ln_49, ln_50, ln_51, ln_52, ln_53, ln_54, ln_55, ln_56, ln_57, ln_58, ln_59, Option.toList_some, Option.toList_none, List.cons_append, List.nil_append, true_and, and_true, if_true, if_false, true_or, or_true, Nat.reduceAdd, Int.reduceAdd, Bool.false_eq_true, tn_0, tn_1, tn_2, tn_3, tn_4, tn_5, tn_6, tn_7]
      refine J_blk a_X6_act_139 ?_
      simp only [b_X6_act_139, w_ireti, kd_46, kd_47, kd_48, kd_49, kd_50, kd_51, kd_52, kd_53, kd_54, kd_55, kd_56, kd_57, kd_58, kd_59, ln_47, ln_48, ln_49, ln_50, ln_51, ln_52, ln_53, ln_54, ln_55, ln_56, ln_57, ln_58, ln_59, Option.toList_some, Option.toList_none, List.cons_append, List.nil_append, true_and, and_true, if_true, if_false, true_or, or_true, Nat.reduceAdd, Int.reduceAdd, Bool.false_eq_true, tn_0, tn_1, tn_2, tn_3, tn_4, tn_5, tn_6, tn_7]
      exact ⟨rfl, rfl⟩
    · refine J_blk a_X6_act_123 ?_
      simp only [b_X6_act_123, w_istore4, nl_4n, nl_4i, nl_4a, w_aload_n0, w_getf6, w_if_eq, w_nil, kd_46, kd_47, kd_48, kd_49, kd_50, kd_51, kd_52, kd_53, kd_54, kd_55, kd_56, kd_57, kd_58, kd_59, ln_47, ln_48, ln_49, ln_50, ln_51, ln_52, ln_53, ln_54, ln_55, ln_56, ln_57, ln_58, ln_59, Option.toList_some, Option.toList_none, List.cons_append, List.nil_append, true_and, and_true, if_true, if_false, true_or, or_true, Nat.reduceAdd, Int.reduceAdd, Bool.false_eq_true, tn_0, tn_1, tn_2, tn_3, tn_4, tn_5, tn_6, tn_7, pd_25]
      refine ⟨fun h => absurd h (by decide), fun _ => ?_⟩
      refine J_blk a_X6_act_132 ?_
      simp only [b_X6_act_132, w_bipush, ci_m15, w_goto, kd_46, kd_47, kd_48, kd_49, kd_50, kd_51, kd_52, kd_53, kd_54, kd_55, kd_56, kd_57, kd_58, kd_59, ln_47, ln_48, ln_49, ln_50, ln_51, ln_52, ln_53, ln_54, ln_55, ln_56, ln_57, ln_58, ln_59, Option.toList_some, Option.toList_none, List.cons_append, List.nil_append, true_and, and_true, if_true, if_false, true_or, or_true, Nat.reduceAdd, Int.reduceAdd, Bool.false_eq_true, tn_0, tn_1, tn_2, tn_3, tn_4, tn_5, tn_6, tn_7]
      refine J_blk a_X6_act_139 ?_
      simp only [b_X6_act_139, w_ireti, kd_46, kd_47, kd_48, kd_49, kd_50, kd_51, kd_52, kd_53, kd_54, kd_55, kd_56, kd_57, kd_58, kd_59, ln_47, ln_48, ln_49, ln_50, ln_51, ln_52, ln_53, ln_54, ln_55, ln_56, ln_57, ln_58, ln_59, Option.toList_some, Option.toList_none, List.cons_append, List.nil_append, true_and, and_true, if_true, if_false, true_or, or_true, Nat.reduceAdd, Int.reduceAdd, Bool.false_eq_true, tn_0, tn_1, tn_2, tn_3, tn_4, tn_5, tn_6, tn_7]
      exact ⟨rfl, rfl⟩
  have ns : ∀ l, pdM (ntL (acM M k (nI o) a) l) false = ntL (acM M k (nI o) a) l := fun l => pd_self (by rw [ntL_f _ _ (by decide)]; exact f25)
  have go : J 8 mX6_act 35 [some (.ref 46), some (.int (nI h)), some (.int act), some (.int x), none] [] (u1 M 46 21 0) (Rt (some (.int (if acP act k (nI o) a = true then -15 else acV act k (nI o) a x))) (pdM (ntL (acM M k (nI o) a) (acL act k (nI o) a)) (acP act k (nI o) a))) := by
    refine J_blk a_X6_act_35 ?_
    simp only [b_X6_act_35, w_aload_n0, w_iconst_0, w_putb6, w_getf6, ne0_11, w_iload_n1, w_iald, w_nil, kd_46, kd_47, kd_48, kd_49, kd_50, kd_51, kd_52, kd_53, kd_54, kd_55, kd_56, kd_57, kd_58, kd_59, ln_47, ln_48, ln_49, ln_50, ln_51, ln_52, ln_53, ln_54, ln_55, ln_56, ln_57, ln_58, ln_59, Option.toList_some, Option.toList_none, List.cons_append, List.nil_append, true_and, and_true, if_true, if_false, true_or, or_true, Nat.reduceAdd, Int.reduceAdd, Bool.false_eq_true, tn_0, tn_1, tn_2, tn_3, tn_4, tn_5, tn_6, tn_7, th, e57, eo]
    refine ⟨vinN hh (by decide), ?_⟩
    refine J_callVr (ci := 6) (its_ok o 0 _ (by omega)) k_X6_act_49 o_X6_its rfl rfl rfl rfl (by decide) rfl (Nat.le_of_ble_eq_true rfl) ?_
    simp only [e47, hk, Nat.add_zero]
    refine J_blk a_X6_act_52 ?_
    simp only [b_X6_act_52, w_putf6, w_aload_n0, w_getf6, ne0_11, w_iload_n1, w_iald, w_iconst_2, w_nil, kd_46, kd_47, kd_48, kd_49, kd_50, kd_51, kd_52, kd_53, kd_54, kd_55, kd_56, kd_57, kd_58, kd_59, ln_47, ln_48, ln_49, ln_50, ln_51, ln_52, ln_53, ln_54, ln_55, ln_56, ln_57, ln_58, ln_59, Option.toList_some, Option.toList_none, List.cons_append, List.nil_append, true_and, and_true, if_true, if_false, true_or, or_true, Nat.reduceAdd, Int.reduceAdd, Bool.false_eq_true, tn_0, tn_1, tn_2, tn_3, tn_4, tn_5, tn_6, tn_7, th, e57, eo]
    refine ⟨vinN hh (by decide), vinN hh (by decide), ?_⟩
    refine J_callVr (ci := 6) (its_ok o 2 _ (by omega)) k_X6_act_74 o_X6_its rfl rfl rfl rfl (by decide) rfl (Nat.le_of_ble_eq_true rfl) ?_
    simp only [e47, hf]
    refine J_blk a_X6_act_77 ?_
    simp only [b_X6_act_77, w_putf6, w_iload_n2, w_if_ne, w_nil, kd_46, kd_47, kd_48, kd_49, kd_50, kd_51, kd_52, kd_53, kd_54, kd_55, kd_56, kd_57, kd_58, kd_59, ln_47, ln_48, ln_49, ln_50, ln_51, ln_52, ln_53, ln_54, ln_55, ln_56, ln_57, ln_58, ln_59, Option.toList_some, Option.toList_none, List.cons_append, List.nil_append, true_and, and_true, if_true, if_false, true_or, or_true, Nat.reduceAdd, Int.reduceAdd, Bool.false_eq_true, tn_0, tn_1, tn_2, tn_3, tn_4, tn_5, tn_6, tn_7]
    rw [show u1 (u1 (u1 (u1 (u1 M 46 21 0) 46 25 0) 46 22 k) 46 23 (nI o)) 46 24 a = acM M k (nI o) a from rfl]
    refine ⟨fun c0 => ?_, fun c0 => ?_⟩
    · refine J_blk a_X6_act_92 ?_
      simp only [b_X6_act_92, w_iload_n2, w_iconst_1, w_icmp_ne, w_nil, kd_46, kd_47, kd_48, kd_49, kd_50, kd_51, kd_52, kd_53, kd_54, kd_55, kd_56, kd_57, kd_58, kd_59, ln_47, ln_48, ln_49, ln_50, ln_51, ln_52, ln_53, ln_54, ln_55, ln_56, ln_57, ln_58, ln_59, Option.toList_some, Option.toList_none, List.cons_append, List.nil_append, true_and, and_true, if_true, if_false, true_or, or_true, Nat.reduceAdd, Int.reduceAdd, Bool.false_eq_true, tn_0, tn_1, tn_2, tn_3, tn_4, tn_5, tn_6, tn_7]
      refine ⟨fun c1 => ?_, fun c1 => ?_⟩
      · refine J_blk a_X6_act_105 ?_
        simp only [b_X6_act_105, w_iload_n2, w_iconst_2, w_icmp_ne, w_nil, kd_46, kd_47, kd_48, kd_49, kd_50, kd_51, kd_52, kd_53, kd_54, kd_55, kd_56, kd_57, kd_58, kd_59, ln_47, ln_48, ln_49, ln_50, ln_51, ln_52, ln_53, ln_54, ln_55, ln_56, ln_57, ln_58, ln_59, Option.toList_some, Option.toList_none, List.cons_append, List.nil_append, true_and, and_true, if_true, if_false, true_or, or_true, Nat.reduceAdd, Int.reduceAdd, Bool.false_eq_true, tn_0, tn_1, tn_2, tn_3, tn_4, tn_5, tn_6, tn_7]
        refine ⟨fun c2 => ?_, fun c2 => ?_⟩
        · refine J_blk a_X6_act_118 ?_
          simp only [b_X6_act_118, w_aload_n0, w_iload_n3, w_nil, kd_46, kd_47, kd_48, kd_49, kd_50, kd_51, kd_52, kd_53, kd_54, kd_55, kd_56, kd_57, kd_58, kd_59, ln_47, ln_48, ln_49, ln_50, ln_51, ln_52, ln_53, ln_54, ln_55, ln_56, ln_57, ln_58, ln_59, Option.toList_some, Option.toList_none, List.cons_append, List.nil_append, true_and, and_true, if_true, if_false, true_or, or_true, Nat.reduceAdd, Int.reduceAdd, Bool.false_eq_true, tn_0, tn_1, tn_2, tn_3, tn_4, tn_5, tn_6, tn_7]
          refine J_callVr (ci := 6) (falls_ok x _ ct f25) k_X6_act_120 o_X6_falls rfl rfl rfl rfl (by decide) rfl (Nat.le_of_ble_eq_true rfl) ?_
          simp only [f22, f23, f24]
          exact tail _ _ _ (by unfold acV; rw [if_neg c0, if_neg c1, if_neg c2]) (by unfold acP; rw [if_neg c0, if_neg c1, if_neg c2]) (by unfold acL; rw [if_neg c0, if_neg c1, if_neg c2])
        · refine J_blk a_X6_act_110 ?_
          simp only [b_X6_act_110, w_aload_n0, w_iload_n3, w_nil, kd_46, kd_47, kd_48, kd_49, kd_50, kd_51, kd_52, kd_53, kd_54, kd_55, kd_56, kd_57, kd_58, kd_59, ln_47, ln_48, ln_49, ln_50, ln_51, ln_52, ln_53, ln_54, ln_55, ln_56, ln_57, ln_58, ln_59, Option.toList_some, Option.toList_none, List.cons_append, List.nil_append, true_and, and_true, if_true, if_false, true_or, or_true, Nat.reduceAdd, Int.reduceAdd, Bool.false_eq_true, tn_0, tn_1, tn_2, tn_3, tn_4, tn_5, tn_6, tn_7]
          refine J_callVr (ci := 6) (parts_ok x _ ct f25) k_X6_act_112 o_X6_parts rfl rfl rfl rfl (by decide) rfl (Nat.le_of_ble_eq_true rfl) ?_
          simp only [f22, f23, f24]
          refine J_blk a_X6_act_115 ?_
          simp only [b_X6_act_115, w_goto, kd_46, kd_47, kd_48, kd_49, kd_50, kd_51, kd_52, kd_53, kd_54, kd_55, kd_56, kd_57, kd_58, kd_59, ln_47, ln_48, ln_49, ln_50, ln_51, ln_52, ln_53, ln_54, ln_55, ln_56, ln_57, ln_58, ln_59, Option.toList_some, Option.toList_none, List.cons_append, List.nil_append, true_and, and_true, if_true, if_false, true_or, or_true, Nat.reduceAdd, Int.reduceAdd, Bool.false_eq_true, tn_0, tn_1, tn_2, tn_3, tn_4, tn_5, tn_6, tn_7]
          exact tail _ _ _ (by unfold acV; rw [if_neg c0, if_neg c1, if_pos c2]) (by unfold acP; rw [if_neg c0, if_neg c1, if_pos c2]) (by unfold acL; rw [if_neg c0, if_neg c1, if_pos c2])
      · refine J_blk a_X6_act_97 ?_
        simp only [b_X6_act_97, w_aload_n0, w_iload_n3, w_nil, kd_46, kd_47, kd_48, kd_49, kd_50, kd_51, kd_52, kd_53, kd_54, kd_55, kd_56, kd_57, kd_58, kd_59, ln_47, ln_48, ln_49, ln_50, ln_51, ln_52, ln_53, ln_54, ln_55, ln_56, ln_57, ln_58, ln_59, Option.toList_some, Option.toList_none, List.cons_append, List.nil_append, true_and, and_true, if_true, if_false, true_or, or_true, Nat.reduceAdd, Int.reduceAdd, Bool.false_eq_true, tn_0, tn_1, tn_2, tn_3, tn_4, tn_5, tn_6, tn_7]
        refine J_callVr (ci := 6) (leans_ok x _ ct) k_X6_act_99 o_X6_leans rfl rfl rfl rfl (by decide) rfl (Nat.le_of_ble_eq_true rfl) ?_
        simp only [f22, f23, f24]
        refine J_blk a_X6_act_102 ?_
        simp only [b_X6_act_102, w_goto, kd_46, kd_47, kd_48, kd_49, kd_50, kd_51, kd_52, kd_53, kd_54, kd_55, kd_56, kd_57, kd_58, kd_59, ln_47, ln_48, ln_49, ln_50, ln_51, ln_52, ln_53, ln_54, ln_55, ln_56, ln_57, ln_58, ln_59, Option.toList_some, Option.toList_none, List.cons_append, List.nil_append, true_and, and_true, if_true, if_false, true_or, or_true, Nat.reduceAdd, Int.reduceAdd, Bool.false_eq_true, tn_0, tn_1, tn_2, tn_3, tn_4, tn_5, tn_6, tn_7]
        rw [← ns]
        exact tail _ _ _ (by unfold acV; rw [if_neg c0, if_pos c1]) (by unfold acP; rw [if_neg c0, if_pos c1]) (by unfold acL; rw [if_neg c0, if_pos c1])
    · refine J_blk a_X6_act_84 ?_
      simp only [b_X6_act_84, w_aload_n0, w_iload_n3, w_nil, kd_46, kd_47, kd_48, kd_49, kd_50, kd_51, kd_52, kd_53, kd_54, kd_55, kd_56, kd_57, kd_58, kd_59, ln_47, ln_48, ln_49, ln_50, ln_51, ln_52, ln_53, ln_54, ln_55, ln_56, ln_57, ln_58, ln_59, Option.toList_some, Option.toList_none, List.cons_append, List.nil_append, true_and, and_true, if_true, if_false, true_or, or_true, Nat.reduceAdd, Int.reduceAdd, Bool.false_eq_true, tn_0, tn_1, tn_2, tn_3, tn_4, tn_5, tn_6, tn_7]
      refine J_callVr (ci := 6) (buds_ok x _ ct) k_X6_act_86 o_X6_buds rfl rfl rfl rfl (by decide) rfl (Nat.le_of_ble_eq_true rfl) ?_
      simp only [f22, f23, f24]
      refine J_blk a_X6_act_89 ?_
      simp only [b_X6_act_89, w_goto, kd_46, kd_47, kd_48, kd_49, kd_50, kd_51, kd_52, kd_53, kd_54, kd_55, kd_56, kd_57, kd_58, kd_59, ln_47, ln_48, ln_49, ln_50, ln_51, ln_52, ln_53, ln_54, ln_55, ln_56, ln_57, ln_58, ln_59, Option.toList_some, Option.toList_none, List.cons_append, List.nil_append, true_and, and_true, if_true, if_false, true_or, or_true, Nat.reduceAdd, Int.reduceAdd, Bool.false_eq_true, tn_0, tn_1, tn_2, tn_3, tn_4, tn_5, tn_6, tn_7]
      rw [← ns]
      exact tail _ _ _ (by unfold acV; rw [if_pos c0]) (by unfold acP; rw [if_pos c0]) (by unfold acL; rw [if_pos c0])
  refine K_go 3 o_X6_act [none] rfl (Nat.le_of_ble_eq_true rfl) ?_
  simp only [lvA_i, lvA_a, lvA_l, lvA_nil, List.cons_append, List.nil_append]
  refine J_blk a_X6_act_0 ?_
  simp only [b_X6_act_0, w_aload_n0, w_iconst_0, w_putf6, w_iload_n1, w_nil, kd_46, kd_47, kd_48, kd_49, kd_50, kd_51, kd_52, kd_53, kd_54, kd_55, kd_56, kd_57, kd_58, kd_59, ln_47, ln_48, ln_49, ln_50, ln_51, ln_52, ln_53, ln_54, ln_55, ln_56, ln_57, ln_58, ln_59, Option.toList_some, Option.toList_none, List.cons_append, List.nil_append, true_and, and_true, if_true, if_false, true_or, or_true, Nat.reduceAdd, Int.reduceAdd, Bool.false_eq_true, tn_0, tn_1, tn_2, tn_3, tn_4, tn_5, tn_6, tn_7]
  refine J_callSr (isShelf_ok _ _) k_X6_act_6 o_X6_isShelf rfl (by decide) rfl (Nat.le_of_ble_eq_true rfl) ?_
  refine J_blk a_X6_act_9 ?_
  simp only [b_X6_act_9, w_if_eq, w_nil, kd_46, kd_47, kd_48, kd_49, kd_50, kd_51, kd_52, kd_53, kd_54, kd_55, kd_56, kd_57, kd_58, kd_59, ln_47, ln_48, ln_49, ln_50, ln_51, ln_52, ln_53, ln_54, ln_55, ln_56, ln_57, ln_58, ln_59, Option.toList_some, Option.toList_none, List.cons_append, List.nil_append, true_and, and_true, if_true, if_false, true_or, or_true, Nat.reduceAdd, Int.reduceAdd, Bool.false_eq_true, tn_0, tn_1, tn_2, tn_3, tn_4, tn_5, tn_6, tn_7]
  refine ⟨fun c6 => ?_, fun c6 => ?_⟩
  · first | exact absurd hs (by assumption) | exact absurd ha (by grind) | exact absurd h1 (by grind)
  · refine J_blk a_X6_act_12 ?_
    simp only [b_X6_act_12, w_iload_n2, w_i2l, w_lconst_0, w_ldc2, cl_3, w_nil, kd_46, kd_47, kd_48, kd_49, kd_50, kd_51, kd_52, kd_53, kd_54, kd_55, kd_56, kd_57, kd_58, kd_59, ln_47, ln_48, ln_49, ln_50, ln_51, ln_52, ln_53, ln_54, ln_55, ln_56, ln_57, ln_58, ln_59, Option.toList_some, Option.toList_none, List.cons_append, List.nil_append, true_and, and_true, if_true, if_false, true_or, or_true, Nat.reduceAdd, Int.reduceAdd, Bool.false_eq_true, tn_0, tn_1, tn_2, tn_3, tn_4, tn_5, tn_6, tn_7]
    refine J_callSr (isIn_ok _ _ _ _) k_X6_act_18 o_X6_isIn rfl (by decide) rfl (Nat.le_of_ble_eq_true rfl) ?_
    simp only [l_le_1, l_le_2, l_le_3, l_le_5, l_le_7, l_le_8, l_le_9, l_le_10, l_le_13, l_le_20, l_le_30, l_le_60, l_le_99, l_le_9999, l_ge_0, l_ge_1, l_ge_6, l_ge_m1, i64_le]
    refine J_blk a_X6_act_21 ?_
    simp only [b_X6_act_21, w_if_eq, w_nil, kd_46, kd_47, kd_48, kd_49, kd_50, kd_51, kd_52, kd_53, kd_54, kd_55, kd_56, kd_57, kd_58, kd_59, ln_47, ln_48, ln_49, ln_50, ln_51, ln_52, ln_53, ln_54, ln_55, ln_56, ln_57, ln_58, ln_59, Option.toList_some, Option.toList_none, List.cons_append, List.nil_append, true_and, and_true, if_true, if_false, true_or, or_true, Nat.reduceAdd, Int.reduceAdd, Bool.false_eq_true, tn_0, tn_1, tn_2, tn_3, tn_4, tn_5, tn_6, tn_7]
    refine ⟨fun c7 => ?_, fun c7 => ?_⟩
    · first | exact absurd hs (by assumption) | exact absurd ha (by grind) | exact absurd h1 (by grind)
    · refine J_blk a_X6_act_24 ?_
      simp only [b_X6_act_24, w_aload_n0, w_iload_n1, w_nil, kd_46, kd_47, kd_48, kd_49, kd_50, kd_51, kd_52, kd_53, kd_54, kd_55, kd_56, kd_57, kd_58, kd_59, ln_47, ln_48, ln_49, ln_50, ln_51, ln_52, ln_53, ln_54, ln_55, ln_56, ln_57, ln_58, ln_59, Option.toList_some, Option.toList_none, List.cons_append, List.nil_append, true_and, and_true, if_true, if_false, true_or, or_true, Nat.reduceAdd, Int.reduceAdd, Bool.false_eq_true, tn_0, tn_1, tn_2, tn_3, tn_4, tn_5, tn_6, tn_7]
      refine J_callVr (ci := 6) (heldOn_ok h n _ hw' hh) k_X6_act_26 o_X6_heldOn rfl rfl rfl rfl (by decide) rfl (Nat.le_of_ble_eq_true rfl) ?_
      rw [hoS_u]
      refine J_blk a_X6_act_29 ?_
      simp only [b_X6_act_29, w_iconst_1, w_icmp_eq, w_nil, kd_46, kd_47, kd_48, kd_49, kd_50, kd_51, kd_52, kd_53, kd_54, kd_55, kd_56, kd_57, kd_58, kd_59, ln_47, ln_48, ln_49, ln_50, ln_51, ln_52, ln_53, ln_54, ln_55, ln_56, ln_57, ln_58, ln_59, Option.toList_some, Option.toList_none, List.cons_append, List.nil_append, true_and, and_true, if_true, if_false, true_or, or_true, Nat.reduceAdd, Int.reduceAdd, Bool.false_eq_true, tn_0, tn_1, tn_2, tn_3, tn_4, tn_5, tn_6, tn_7]
      refine ⟨fun c8 => ?_, fun c8 => ?_⟩
      · exact go
      · first | exact absurd hs (by assumption) | exact absurd ha (by grind) | exact absurd h1 (by grind)
theorem mtrace_ok (i : Int32) (c : Nat) (M : Mm) (hc : c ≤ 30) (ec : M.1 46 21 = nI c) : K 1 mX6_trace [.ref 46, .int i] M (Rt (some (.int (if 0 ≤ i ∧ i ≤ nI c - 1 then M.1 59 i.toNatClampNeg else -3))) M) := by
  refine K_go 1 o_X6_trace [] rfl (Nat.le_of_ble_eq_true rfl) ?_
  simp only [lvA_i, lvA_a, lvA_l, lvA_nil, List.cons_append, List.nil_append]
  refine J_blk a_X6_trace_0 ?_
  simp only [b_X6_trace_0, w_iload_n1, w_i2l, w_lconst_0, w_aload_n0, w_getf6, w_iconst_1, w_isub, w_nil, kd_46, kd_47, kd_48, kd_49, kd_50, kd_51, kd_52, kd_53, kd_54, kd_55, kd_56, kd_57, kd_58, kd_59, ln_47, ln_48, ln_49, ln_50, ln_51, ln_52, ln_53, ln_54, ln_55, ln_56, ln_57, ln_58, ln_59, Option.toList_some, Option.toList_none, List.cons_append, List.nil_append, true_and, and_true, if_true, if_false, true_or, or_true, Nat.reduceAdd, Int.reduceAdd, Bool.false_eq_true, tn_0, tn_1, tn_2, tn_3, tn_4, tn_5, tn_6, tn_7, ec]
  refine J_callSr (isIn_ok _ _ _ _) k_X6_trace_10 o_X6_isIn rfl (by decide) rfl (Nat.le_of_ble_eq_true rfl) ?_
  simp only [l_le_1, l_le_2, l_le_3, l_le_5, l_le_7, l_le_8, l_le_9, l_le_10, l_le_13, l_le_20, l_le_30, l_le_60, l_le_99, l_le_9999, l_ge_0, l_ge_1, l_ge_6, l_ge_m1, i64_le]
  by_cases hi : 0 ≤ i ∧ i ≤ nI c - 1
  · rw [if_pos hi, if_pos hi]
    have hz0 : c ≠ 0 := by
      intro e
      subst e
      exact absurd (Int32.le_trans hi.1 hi.2) (by decide)
    rw [nI_sub1 hz0] at hi
    obtain ⟨a, ha, rfl⟩ := inNc (n := c - 1) _ rfl hi (by omega)
    refine J_blk a_X6_trace_13 ?_
    simp only [b_X6_trace_13, w_if_eq, w_nil, kd_46, kd_47, kd_48, kd_49, kd_50, kd_51, kd_52, kd_53, kd_54, kd_55, kd_56, kd_57, kd_58, kd_59, ln_47, ln_48, ln_49, ln_50, ln_51, ln_52, ln_53, ln_54, ln_55, ln_56, ln_57, ln_58, ln_59, Option.toList_some, Option.toList_none, List.cons_append, List.nil_append, true_and, and_true, if_true, if_false, true_or, or_true, Nat.reduceAdd, Int.reduceAdd, Bool.false_eq_true, tn_0, tn_1, tn_2, tn_3, tn_4, tn_5, tn_6, tn_7]
    refine ⟨fun h => absurd h (by decide), fun _ => ?_⟩
    refine J_blk a_X6_trace_16 ?_
    simp only [b_X6_trace_16, w_aload_n0, w_getf6, ne0_13, w_iload_n1, w_iald, w_goto, kd_46, kd_47, kd_48, kd_49, kd_50, kd_51, kd_52, kd_53, kd_54, kd_55, kd_56, kd_57, kd_58, kd_59, ln_47, ln_48, ln_49, ln_50, ln_51, ln_52, ln_53, ln_54, ln_55, ln_56, ln_57, ln_58, ln_59, Option.toList_some, Option.toList_none, List.cons_append, List.nil_append, true_and, and_true, if_true, if_false, true_or, or_true, Nat.reduceAdd, Int.reduceAdd, Bool.false_eq_true, tn_0, tn_1, tn_2, tn_3, tn_4, tn_5, tn_6, tn_7]
    refine ⟨vinN (by omega) (by decide), ?_⟩
    refine J_blk a_X6_trace_27 ?_
    simp only [b_X6_trace_27, w_ireti, kd_46, kd_47, kd_48, kd_49, kd_50, kd_51, kd_52, kd_53, kd_54, kd_55, kd_56, kd_57, kd_58, kd_59, ln_47, ln_48, ln_49, ln_50, ln_51, ln_52, ln_53, ln_54, ln_55, ln_56, ln_57, ln_58, ln_59, Option.toList_some, Option.toList_none, List.cons_append, List.nil_append, true_and, and_true, if_true, if_false, true_or, or_true, Nat.reduceAdd, Int.reduceAdd, Bool.false_eq_true, tn_0, tn_1, tn_2, tn_3, tn_4, tn_5, tn_6, tn_7]
    first | exact ⟨rfl, rfl⟩ | (simp_all [Rt])
  · rw [if_neg hi, if_neg hi]
    refine J_blk a_X6_trace_13 ?_
    simp only [b_X6_trace_13, w_if_eq, w_nil, kd_46, kd_47, kd_48, kd_49, kd_50, kd_51, kd_52, kd_53, kd_54, kd_55, kd_56, kd_57, kd_58, kd_59, ln_47, ln_48, ln_49, ln_50, ln_51, ln_52, ln_53, ln_54, ln_55, ln_56, ln_57, ln_58, ln_59, Option.toList_some, Option.toList_none, List.cons_append, List.nil_append, true_and, and_true, if_true, if_false, true_or, or_true, Nat.reduceAdd, Int.reduceAdd, Bool.false_eq_true, tn_0, tn_1, tn_2, tn_3, tn_4, tn_5, tn_6, tn_7]
    refine ⟨fun _ => ?_, fun h => absurd trivial h⟩
    refine J_blk a_X6_trace_25 ?_
    simp only [b_X6_trace_25, w_bipush, ci_m3, w_nil, kd_46, kd_47, kd_48, kd_49, kd_50, kd_51, kd_52, kd_53, kd_54, kd_55, kd_56, kd_57, kd_58, kd_59, ln_47, ln_48, ln_49, ln_50, ln_51, ln_52, ln_53, ln_54, ln_55, ln_56, ln_57, ln_58, ln_59, Option.toList_some, Option.toList_none, List.cons_append, List.nil_append, true_and, and_true, if_true, if_false, true_or, or_true, Nat.reduceAdd, Int.reduceAdd, Bool.false_eq_true, tn_0, tn_1, tn_2, tn_3, tn_4, tn_5, tn_6, tn_7]
    refine J_blk a_X6_trace_27 ?_
    simp only [b_X6_trace_27, w_ireti, kd_46, kd_47, kd_48, kd_49, kd_50, kd_51, kd_52, kd_53, kd_54, kd_55, kd_56, kd_57, kd_58, kd_59, ln_47, ln_48, ln_49, ln_50, ln_51, ln_52, ln_53, ln_54, ln_55, ln_56, ln_57, ln_58, ln_59, Option.toList_some, Option.toList_none, List.cons_append, List.nil_append, true_and, and_true, if_true, if_false, true_or, or_true, Nat.reduceAdd, Int.reduceAdd, Bool.false_eq_true, tn_0, tn_1, tn_2, tn_3, tn_4, tn_5, tn_6, tn_7]
    first | exact ⟨rfl, rfl⟩ | (simp_all [Rt])
def maA (M : Mm) (n : Nat) (w : Int32) : Int32 := if w = 0 then M.1 47 0 else if w = 1 then nsS (M.1 47) n else if w = 2 then nI (pcN (bsN (fun o => decide (M.1 47 (8 + 6 * o + 4) = 1)) n)) else if w = 3 then nI (pcN (bsN (brS (M.1 47)) n)) else if w = 4 then M.1 46 13 else if w = 5 then M.1 46 6 else if w = 6 then M.1 46 21 else -1
theorem mmany_ok (n : Nat) (w : Int32) (M : Mm) (hw : WF (M.1 47) n) : K 3 mX6_many [.ref 46, .int w] M (Rt (some (.int (maA M n w))) M) := by
  have h8 := hw.2.1
  unfold maA
  refine K_go 1 o_X6_many [] rfl (Nat.le_of_ble_eq_true rfl) ?_
  simp only [lvA_i, lvA_a, lvA_l, lvA_nil, List.cons_append, List.nil_append]
  refine J_blk a_X6_many_0 ?_
  simp only [b_X6_many_0, w_iload_n1, w_tsw, sw_nil, sw_cons, ci_0, ci_1, ci_2, ci_3, ci_4, ci_5, ci_6, kd_46, kd_47, kd_48, kd_49, kd_50, kd_51, kd_52, kd_53, kd_54, kd_55, kd_56, kd_57, kd_58, kd_59, ln_47, ln_48, ln_49, ln_50, ln_51, ln_52, ln_53, ln_54, ln_55, ln_56, ln_57, ln_58, ln_59, Option.toList_some, Option.toList_none, List.cons_append, List.nil_append, true_and, and_true, if_true, if_false, true_or, or_true, Nat.reduceAdd, Int.reduceAdd, Bool.false_eq_true, tn_0, tn_1, tn_2, tn_3, tn_4, tn_5, tn_6, tn_7]
  refine ⟨fun e0 => ?_, fun e0 => ⟨fun e1 => ?_, fun e1 => ⟨fun e2 => ?_, fun e2 => ⟨fun e3 => ?_, fun e3 => ⟨fun e4 => ?_, fun e4 => ⟨fun e5 => ?_, fun e5 => ⟨fun e6 => ?_, fun e6 => ?_⟩⟩⟩⟩⟩⟩⟩
  · rw [if_pos e0]
    refine J_blk a_X6_many_44 ?_
    simp only [b_X6_many_44, w_aload_n0, w_getf6, ne0_1, w_iconst_0, w_iald, w_ireti, kd_46, kd_47, kd_48, kd_49, kd_50, kd_51, kd_52, kd_53, kd_54, kd_55, kd_56, kd_57, kd_58, kd_59, ln_47, ln_48, ln_49, ln_50, ln_51, ln_52, ln_53, ln_54, ln_55, ln_56, ln_57, ln_58, ln_59, Option.toList_some, Option.toList_none, List.cons_append, List.nil_append, true_and, and_true, if_true, if_false, true_or, or_true, Nat.reduceAdd, Int.reduceAdd, Bool.false_eq_true, tn_0, tn_1, tn_2, tn_3, tn_4, tn_5, tn_6, tn_7]
    refine ⟨(by first | assumption | exact vlit (by decide) | omega | simp_all), ?_⟩
    first | exact ⟨rfl, rfl⟩ | (simp_all [Rt])
  · rw [if_neg e0, if_pos e1]
    refine J_blk a_X6_many_51 ?_
    simp only [b_X6_many_51, w_aload_n0, w_nil, kd_46, kd_47, kd_48, kd_49, kd_50, kd_51, kd_52, kd_53, kd_54, kd_55, kd_56, kd_57, kd_58, kd_59, ln_47, ln_48, ln_49, ln_50, ln_51, ln_52, ln_53, ln_54, ln_55, ln_56, ln_57, ln_58, ln_59, Option.toList_some, Option.toList_none, List.cons_append, List.nil_append, true_and, and_true, if_true, if_false, true_or, or_true, Nat.reduceAdd, Int.reduceAdd, Bool.false_eq_true, tn_0, tn_1, tn_2, tn_3, tn_4, tn_5, tn_6, tn_7]
    refine J_callVr (ci := 6) (standing_ok n _ hw) k_X6_many_52 o_X6_standing rfl rfl rfl rfl (by decide) rfl (Nat.le_of_ble_eq_true rfl) ?_
    rw [bsF_N _ n h8]
    refine J_callSr (size_ok _ _ (bs256 _ h8)) k_X6_many_55 o_X6_size rfl (by decide) rfl (Nat.le_of_ble_eq_true rfl) ?_
    refine J_blk a_X6_many_58 ?_
    simp only [b_X6_many_58, w_ireti, kd_46, kd_47, kd_48, kd_49, kd_50, kd_51, kd_52, kd_53, kd_54, kd_55, kd_56, kd_57, kd_58, kd_59, ln_47, ln_48, ln_49, ln_50, ln_51, ln_52, ln_53, ln_54, ln_55, ln_56, ln_57, ln_58, ln_59, Option.toList_some, Option.toList_none, List.cons_append, List.nil_append, true_and, and_true, if_true, if_false, true_or, or_true, Nat.reduceAdd, Int.reduceAdd, Bool.false_eq_true, tn_0, tn_1, tn_2, tn_3, tn_4, tn_5, tn_6, tn_7]
    first | exact ⟨rfl, rfl⟩ | (simp_all [Rt])
  · rw [if_neg e0, if_neg e1, if_pos e2]
    refine J_blk a_X6_many_59 ?_
    simp only [b_X6_many_59, w_aload_n0, w_nil, kd_46, kd_47, kd_48, kd_49, kd_50, kd_51, kd_52, kd_53, kd_54, kd_55, kd_56, kd_57, kd_58, kd_59, ln_47, ln_48, ln_49, ln_50, ln_51, ln_52, ln_53, ln_54, ln_55, ln_56, ln_57, ln_58, ln_59, Option.toList_some, Option.toList_none, List.cons_append, List.nil_append, true_and, and_true, if_true, if_false, true_or, or_true, Nat.reduceAdd, Int.reduceAdd, Bool.false_eq_true, tn_0, tn_1, tn_2, tn_3, tn_4, tn_5, tn_6, tn_7]
    refine J_callVr (ci := 6) (cutOnes_ok n _ hw) k_X6_many_60 o_X6_cutOnes rfl rfl rfl rfl (by decide) rfl (Nat.le_of_ble_eq_true rfl) ?_
    rw [bsF_N _ n h8]
    refine J_callSr (size_ok _ _ (bs256 _ h8)) k_X6_many_63 o_X6_size rfl (by decide) rfl (Nat.le_of_ble_eq_true rfl) ?_
    refine J_blk a_X6_many_66 ?_
    simp only [b_X6_many_66, w_ireti, kd_46, kd_47, kd_48, kd_49, kd_50, kd_51, kd_52, kd_53, kd_54, kd_55, kd_56, kd_57, kd_58, kd_59, ln_47, ln_48, ln_49, ln_50, ln_51, ln_52, ln_53, ln_54, ln_55, ln_56, ln_57, ln_58, ln_59, Option.toList_some, Option.toList_none, List.cons_append, List.nil_append, true_and, and_true, if_true, if_false, true_or, or_true, Nat.reduceAdd, Int.reduceAdd, Bool.false_eq_true, tn_0, tn_1, tn_2, tn_3, tn_4, tn_5, tn_6, tn_7]
    first | exact ⟨rfl, rfl⟩ | (simp_all [Rt])
  · rw [if_neg e0, if_neg e1, if_neg e2, if_pos e3]
    refine J_blk a_X6_many_67 ?_
    simp only [b_X6_many_67, w_aload_n0, w_nil, kd_46, kd_47, kd_48, kd_49, kd_50, kd_51, kd_52, kd_53, kd_54, kd_55, kd_56, kd_57, kd_58, kd_59, ln_47, ln_48, ln_49, ln_50, ln_51, ln_52, ln_53, ln_54, ln_55, ln_56, ln_57, ln_58, ln_59, Option.toList_some, Option.toList_none, List.cons_append, List.nil_append, true_and, and_true, if_true, if_false, true_or, or_true, Nat.reduceAdd, Int.reduceAdd, Bool.false_eq_true, tn_0, tn_1, tn_2, tn_3, tn_4, tn_5, tn_6, tn_7]
    refine J_callVr (ci := 6) (burntOnes_ok n _ hw) k_X6_many_68 o_X6_burntOnes rfl rfl rfl rfl (by decide) rfl (Nat.le_of_ble_eq_true rfl) ?_
    rw [bsF_N _ n h8]
    refine J_callSr (size_ok _ _ (bs256 _ h8)) k_X6_many_71 o_X6_size rfl (by decide) rfl (Nat.le_of_ble_eq_true rfl) ?_
    refine J_blk a_X6_many_74 ?_
    simp only [b_X6_many_74, w_ireti, kd_46, kd_47, kd_48, kd_49, kd_50, kd_51, kd_52, kd_53, kd_54, kd_55, kd_56, kd_57, kd_58, kd_59, ln_47, ln_48, ln_49, ln_50, ln_51, ln_52, ln_53, ln_54, ln_55, ln_56, ln_57, ln_58, ln_59, Option.toList_some, Option.toList_none, List.cons_append, List.nil_append, true_and, and_true, if_true, if_false, true_or, or_true, Nat.reduceAdd, Int.reduceAdd, Bool.false_eq_true, tn_0, tn_1, tn_2, tn_3, tn_4, tn_5, tn_6, tn_7]
    first | exact ⟨rfl, rfl⟩ | (simp_all [Rt])
  · rw [if_neg e0, if_neg e1, if_neg e2, if_neg e3, if_pos e4]
    refine J_blk a_X6_many_75 ?_
    simp only [b_X6_many_75, w_aload_n0, w_getf6, w_ireti, kd_46, kd_47, kd_48, kd_49, kd_50, kd_51, kd_52, kd_53, kd_54, kd_55, kd_56, kd_57, kd_58, kd_59, ln_47, ln_48, ln_49, ln_50, ln_51, ln_52, ln_53, ln_54, ln_55, ln_56, ln_57, ln_58, ln_59, Option.toList_some, Option.toList_none, List.cons_append, List.nil_append, true_and, and_true, if_true, if_false, true_or, or_true, Nat.reduceAdd, Int.reduceAdd, Bool.false_eq_true, tn_0, tn_1, tn_2, tn_3, tn_4, tn_5, tn_6, tn_7]
    first | exact ⟨rfl, rfl⟩ | (simp_all [Rt])
  · rw [if_neg e0, if_neg e1, if_neg e2, if_neg e3, if_neg e4, if_pos e5]
    refine J_blk a_X6_many_80 ?_
    simp only [b_X6_many_80, w_aload_n0, w_getf6, w_ireti, kd_46, kd_47, kd_48, kd_49, kd_50, kd_51, kd_52, kd_53, kd_54, kd_55, kd_56, kd_57, kd_58, kd_59, ln_47, ln_48, ln_49, ln_50, ln_51, ln_52, ln_53, ln_54, ln_55, ln_56, ln_57, ln_58, ln_59, Option.toList_some, Option.toList_none, List.cons_append, List.nil_append, true_and, and_true, if_true, if_false, true_or, or_true, Nat.reduceAdd, Int.reduceAdd, Bool.false_eq_true, tn_0, tn_1, tn_2, tn_3, tn_4, tn_5, tn_6, tn_7]
    first | exact ⟨rfl, rfl⟩ | (simp_all [Rt])
  · rw [if_neg e0, if_neg e1, if_neg e2, if_neg e3, if_neg e4, if_neg e5, if_pos e6]
    refine J_blk a_X6_many_85 ?_
    simp only [b_X6_many_85, w_aload_n0, w_getf6, w_ireti, kd_46, kd_47, kd_48, kd_49, kd_50, kd_51, kd_52, kd_53, kd_54, kd_55, kd_56, kd_57, kd_58, kd_59, ln_47, ln_48, ln_49, ln_50, ln_51, ln_52, ln_53, ln_54, ln_55, ln_56, ln_57, ln_58, ln_59, Option.toList_some, Option.toList_none, List.cons_append, List.nil_append, true_and, and_true, if_true, if_false, true_or, or_true, Nat.reduceAdd, Int.reduceAdd, Bool.false_eq_true, tn_0, tn_1, tn_2, tn_3, tn_4, tn_5, tn_6, tn_7]
    first | exact ⟨rfl, rfl⟩ | (simp_all [Rt])
  · rw [if_neg e0, if_neg e1, if_neg e2, if_neg e3, if_neg e4, if_neg e5, if_neg e6]
    refine J_blk a_X6_many_90 ?_
    simp only [b_X6_many_90, w_iconst_m1, w_ireti, kd_46, kd_47, kd_48, kd_49, kd_50, kd_51, kd_52, kd_53, kd_54, kd_55, kd_56, kd_57, kd_58, kd_59, ln_47, ln_48, ln_49, ln_50, ln_51, ln_52, ln_53, ln_54, ln_55, ln_56, ln_57, ln_58, ln_59, Option.toList_some, Option.toList_none, List.cons_append, List.nil_append, true_and, and_true, if_true, if_false, true_or, or_true, Nat.reduceAdd, Int.reduceAdd, Bool.false_eq_true, tn_0, tn_1, tn_2, tn_3, tn_4, tn_5, tn_6, tn_7]
    first | exact ⟨rfl, rfl⟩ | (simp_all [Rt])
theorem cpN_step (f g : Nat → Int32) (k : Nat) : upd (cpN f g k) k (f k) = cpN f g (k + 1) := by
  funext j
  simp only [upd, cpN]
  by_cases hj : j = k
  · subst hj; simp
  · by_cases hl : j < k
    · simp [hj, hl, Nat.lt_succ_of_lt hl]
    · simp [hj, hl, show ¬ j < k + 1 by omega]
theorem cpN_0 (f g : Nat → Int32) : cpN f g 0 = g := by funext j; simp [cpN]
theorem mkeep_ok (M : Mm) : K 0 mX6_keep [.ref 46] M (Rt (some (.int 1)) (u1 (su M 48 (cpN (M.1 47) (M.1 48) 56)) 46 4 1)) := by
  have loop : ∀ k, k ≤ 56 → J 0 mX6_keep 2 [some (.ref 46), some (.int (nI k))] [] (su M 48 (cpN (M.1 47) (M.1 48) k)) (Rt (some (.int 1)) (u1 (su M 48 (cpN (M.1 47) (M.1 48) 56)) 46 4 1)) := by
    refine down 56 ?_ ?_
    · refine J_blk a_X6_keep_2 ?_
      simp only [b_X6_keep_2, w_iload_n1, w_bipush, ci_56, w_icmp_ge, w_nil, kd_46, kd_47, kd_48, kd_49, kd_50, kd_51, kd_52, kd_53, kd_54, kd_55, kd_56, kd_57, kd_58, kd_59, ln_47, ln_48, ln_49, ln_50, ln_51, ln_52, ln_53, ln_54, ln_55, ln_56, ln_57, ln_58, ln_59, Option.toList_some, Option.toList_none, List.cons_append, List.nil_append, true_and, and_true, if_true, if_false, true_or, or_true, Nat.reduceAdd, Int.reduceAdd, Bool.false_eq_true, tn_0, tn_1, tn_2, tn_3, tn_4, tn_5, tn_6, tn_7]
      refine ⟨fun _ => ?_, fun h => absurd (show (56 : Int32) ≤ nI 56 by decide) h⟩
      refine J_blk a_X6_keep_26 ?_
      simp only [b_X6_keep_26, w_aload_n0, w_iconst_1, w_putb6, w_ireti, kd_46, kd_47, kd_48, kd_49, kd_50, kd_51, kd_52, kd_53, kd_54, kd_55, kd_56, kd_57, kd_58, kd_59, ln_47, ln_48, ln_49, ln_50, ln_51, ln_52, ln_53, ln_54, ln_55, ln_56, ln_57, ln_58, ln_59, Option.toList_some, Option.toList_none, List.cons_append, List.nil_append, true_and, and_true, if_true, if_false, true_or, or_true, Nat.reduceAdd, Int.reduceAdd, Bool.false_eq_true, tn_0, tn_1, tn_2, tn_3, tn_4, tn_5, tn_6, tn_7]
      exact ⟨rfl, rfl⟩
    · intro k hk ih
      have e : (nI k).toNatClampNeg = k := nI_clamp (by omega)
      refine J_blk a_X6_keep_2 ?_
      simp only [b_X6_keep_2, w_iload_n1, w_bipush, ci_56, w_icmp_ge, w_nil, kd_46, kd_47, kd_48, kd_49, kd_50, kd_51, kd_52, kd_53, kd_54, kd_55, kd_56, kd_57, kd_58, kd_59, ln_47, ln_48, ln_49, ln_50, ln_51, ln_52, ln_53, ln_54, ln_55, ln_56, ln_57, ln_58, ln_59, Option.toList_some, Option.toList_none, List.cons_append, List.nil_append, true_and, and_true, if_true, if_false, true_or, or_true, Nat.reduceAdd, Int.reduceAdd, Bool.false_eq_true, tn_0, tn_1, tn_2, tn_3, tn_4, tn_5, tn_6, tn_7]
      refine ⟨fun h => absurd h (nI_ge (b := 56) hk (by decide)), fun _ => ?_⟩
      refine J_blk a_X6_keep_8 ?_
      simp only [b_X6_keep_8, w_aload_n0, w_getf6, ne0_2, w_iload_n1, ne0_1, w_iald, w_iast, w_iinc1, nl_1n, nl_1i, nl_1a, ci_1, w_goto, kd_46, kd_47, kd_48, kd_49, kd_50, kd_51, kd_52, kd_53, kd_54, kd_55, kd_56, kd_57, kd_58, kd_59, ln_47, ln_48, ln_49, ln_50, ln_51, ln_52, ln_53, ln_54, ln_55, ln_56, ln_57, ln_58, ln_59, Option.toList_some, Option.toList_none, List.cons_append, List.nil_append, true_and, and_true, if_true, if_false, true_or, or_true, Nat.reduceAdd, Int.reduceAdd, Bool.false_eq_true, tn_0, tn_1, tn_2, tn_3, tn_4, tn_5, tn_6, tn_7, e, nI_1, u1_su, su_ne M 48 47 _ (by decide), cpN_step]
      exact ⟨vinN hk (by decide), vinN hk (by decide), ih⟩
  have l0 := loop 0 (by omega)
  rw [cpN_0, su_self] at l0
  refine K_go 0 o_X6_keep [none] rfl (Nat.le_of_ble_eq_true rfl) ?_
  simp only [lvA_i, lvA_a, lvA_l, lvA_nil, List.cons_append, List.nil_append]
  refine J_blk a_X6_keep_0 ?_
  simp only [b_X6_keep_0, w_iconst_0, w_istore1, nl_1n, nl_1i, nl_1a, w_nil, kd_46, kd_47, kd_48, kd_49, kd_50, kd_51, kd_52, kd_53, kd_54, kd_55, kd_56, kd_57, kd_58, kd_59, ln_47, ln_48, ln_49, ln_50, ln_51, ln_52, ln_53, ln_54, ln_55, ln_56, ln_57, ln_58, ln_59, Option.toList_some, Option.toList_none, List.cons_append, List.nil_append, true_and, and_true, if_true, if_false, true_or, or_true, Nat.reduceAdd, Int.reduceAdd, Bool.false_eq_true, tn_0, tn_1, tn_2, tn_3, tn_4, tn_5, tn_6, tn_7]
  exact l0
theorem magain_n (M : Mm) (h : M.1 46 4 = 0) : K 0 mX6_again [.ref 46] M (Rt (some (.int (-3))) M) := by
  refine K_go 0 o_X6_again [none] rfl (Nat.le_of_ble_eq_true rfl) ?_
  simp only [lvA_i, lvA_a, lvA_l, lvA_nil, List.cons_append, List.nil_append]
  refine J_blk a_X6_again_0 ?_
  simp only [b_X6_again_0, w_aload_n0, w_getf6, w_if_ne, w_nil, kd_46, kd_47, kd_48, kd_49, kd_50, kd_51, kd_52, kd_53, kd_54, kd_55, kd_56, kd_57, kd_58, kd_59, ln_47, ln_48, ln_49, ln_50, ln_51, ln_52, ln_53, ln_54, ln_55, ln_56, ln_57, ln_58, ln_59, Option.toList_some, Option.toList_none, List.cons_append, List.nil_append, true_and, and_true, if_true, if_false, true_or, or_true, Nat.reduceAdd, Int.reduceAdd, Bool.false_eq_true, tn_0, tn_1, tn_2, tn_3, tn_4, tn_5, tn_6, tn_7, h]
  refine ⟨fun c9 => ?_, fun c9 => ?_⟩
  · first
      | exact absurd c9 (by decide)
      | (exact absurd trivial (by assumption))
  · first
      | exact absurd c9 (by decide)
      | (refine J_blk a_X6_again_7 ?_
         simp only [b_X6_again_7, w_bipush, ci_m3, w_ireti, kd_46, kd_47, kd_48, kd_49, kd_50, kd_51, kd_52, kd_53, kd_54, kd_55, kd_56, kd_57, kd_58, kd_59, ln_47, ln_48, ln_49, ln_50, ln_51, ln_52, ln_53, ln_54, ln_55, ln_56, ln_57, ln_58, ln_59, Option.toList_some, Option.toList_none, List.cons_append, List.nil_append, true_and, and_true, if_true, if_false, true_or, or_true, Nat.reduceAdd, Int.reduceAdd, Bool.false_eq_true, tn_0, tn_1, tn_2, tn_3, tn_4, tn_5, tn_6, tn_7, h]
         first | exact ⟨rfl, rfl⟩ | (simp_all [Rt]))
theorem magain_t (M : Mm) (h : ¬ M.1 46 4 = 0) : K 0 mX6_again [.ref 46] M (Rt (some (.int (M.1 48 0))) (su M 47 (cpN (M.1 48) (M.1 47) 56))) := by
  have loop : ∀ k, k ≤ 56 → J 0 mX6_again 12 [some (.ref 46), some (.int (nI k))] [] (su M 47 (cpN (M.1 48) (M.1 47) k)) (Rt (some (.int (M.1 48 0))) (su M 47 (cpN (M.1 48) (M.1 47) 56))) := by
    refine down 56 ?_ ?_
    · refine J_blk a_X6_again_12 ?_
      simp only [b_X6_again_12, w_iload_n1, w_bipush, ci_56, w_icmp_ge, w_nil, kd_46, kd_47, kd_48, kd_49, kd_50, kd_51, kd_52, kd_53, kd_54, kd_55, kd_56, kd_57, kd_58, kd_59, ln_47, ln_48, ln_49, ln_50, ln_51, ln_52, ln_53, ln_54, ln_55, ln_56, ln_57, ln_58, ln_59, Option.toList_some, Option.toList_none, List.cons_append, List.nil_append, true_and, and_true, if_true, if_false, true_or, or_true, Nat.reduceAdd, Int.reduceAdd, Bool.false_eq_true, tn_0, tn_1, tn_2, tn_3, tn_4, tn_5, tn_6, tn_7]
      refine ⟨fun _ => ?_, fun h => absurd (show (56 : Int32) ≤ nI 56 by decide) h⟩
      refine J_blk a_X6_again_36 ?_
      simp only [b_X6_again_36, w_aload_n0, w_getf6, ne0_1, w_iconst_0, w_iald, w_ireti, kd_46, kd_47, kd_48, kd_49, kd_50, kd_51, kd_52, kd_53, kd_54, kd_55, kd_56, kd_57, kd_58, kd_59, ln_47, ln_48, ln_49, ln_50, ln_51, ln_52, ln_53, ln_54, ln_55, ln_56, ln_57, ln_58, ln_59, Option.toList_some, Option.toList_none, List.cons_append, List.nil_append, true_and, and_true, if_true, if_false, true_or, or_true, Nat.reduceAdd, Int.reduceAdd, Bool.false_eq_true, tn_0, tn_1, tn_2, tn_3, tn_4, tn_5, tn_6, tn_7, su_at]
      refine ⟨(vlit (by decide)), ?_⟩
      first | exact ⟨rfl, rfl⟩ | (simp_all [Rt])
    · intro k hk ih
      have e : (nI k).toNatClampNeg = k := nI_clamp (by omega)
      refine J_blk a_X6_again_12 ?_
      simp only [b_X6_again_12, w_iload_n1, w_bipush, ci_56, w_icmp_ge, w_nil, kd_46, kd_47, kd_48, kd_49, kd_50, kd_51, kd_52, kd_53, kd_54, kd_55, kd_56, kd_57, kd_58, kd_59, ln_47, ln_48, ln_49, ln_50, ln_51, ln_52, ln_53, ln_54, ln_55, ln_56, ln_57, ln_58, ln_59, Option.toList_some, Option.toList_none, List.cons_append, List.nil_append, true_and, and_true, if_true, if_false, true_or, or_true, Nat.reduceAdd, Int.reduceAdd, Bool.false_eq_true, tn_0, tn_1, tn_2, tn_3, tn_4, tn_5, tn_6, tn_7]
      refine ⟨fun h => absurd h (nI_ge (b := 56) hk (by decide)), fun _ => ?_⟩
      refine J_blk a_X6_again_18 ?_
      simp only [b_X6_again_18, w_aload_n0, w_getf6, ne0_1, w_iload_n1, ne0_2, w_iald, w_iast, w_iinc1, nl_1n, nl_1i, nl_1a, ci_1, w_goto, kd_46, kd_47, kd_48, kd_49, kd_50, kd_51, kd_52, kd_53, kd_54, kd_55, kd_56, kd_57, kd_58, kd_59, ln_47, ln_48, ln_49, ln_50, ln_51, ln_52, ln_53, ln_54, ln_55, ln_56, ln_57, ln_58, ln_59, Option.toList_some, Option.toList_none, List.cons_append, List.nil_append, true_and, and_true, if_true, if_false, true_or, or_true, Nat.reduceAdd, Int.reduceAdd, Bool.false_eq_true, tn_0, tn_1, tn_2, tn_3, tn_4, tn_5, tn_6, tn_7, e, nI_1, u1_su, su_ne M 47 48 _ (by decide), cpN_step]
      exact ⟨vinN hk (by decide), vinN hk (by decide), ih⟩
  have l0 := loop 0 (by omega)
  rw [cpN_0, su_self] at l0
  refine K_go 0 o_X6_again [none] rfl (Nat.le_of_ble_eq_true rfl) ?_
  simp only [lvA_i, lvA_a, lvA_l, lvA_nil, List.cons_append, List.nil_append]
  refine J_blk a_X6_again_0 ?_
  simp only [b_X6_again_0, w_aload_n0, w_getf6, w_if_ne, w_nil, kd_46, kd_47, kd_48, kd_49, kd_50, kd_51, kd_52, kd_53, kd_54, kd_55, kd_56, kd_57, kd_58, kd_59, ln_47, ln_48, ln_49, ln_50, ln_51, ln_52, ln_53, ln_54, ln_55, ln_56, ln_57, ln_58, ln_59, Option.toList_some, Option.toList_none, List.cons_append, List.nil_append, true_and, and_true, if_true, if_false, true_or, or_true, Nat.reduceAdd, Int.reduceAdd, Bool.false_eq_true, tn_0, tn_1, tn_2, tn_3, tn_4, tn_5, tn_6, tn_7]
  refine ⟨fun c10 => ?_, fun c10 => ?_⟩
  · refine J_blk a_X6_again_10 ?_
    simp only [b_X6_again_10, w_iconst_0, w_istore1, nl_1n, nl_1i, nl_1a, w_nil, kd_46, kd_47, kd_48, kd_49, kd_50, kd_51, kd_52, kd_53, kd_54, kd_55, kd_56, kd_57, kd_58, kd_59, ln_47, ln_48, ln_49, ln_50, ln_51, ln_52, ln_53, ln_54, ln_55, ln_56, ln_57, ln_58, ln_59, Option.toList_some, Option.toList_none, List.cons_append, List.nil_append, true_and, and_true, if_true, if_false, true_or, or_true, Nat.reduceAdd, Int.reduceAdd, Bool.false_eq_true, tn_0, tn_1, tn_2, tn_3, tn_4, tn_5, tn_6, tn_7]
    exact l0
  · exact absurd (by assumption) h
theorem mfeed_f (e : Int64) (k : Int32) (M : Mm) (h : ¬ (1 ≤ k ∧ k ≤ 8)) : K 1 mX6_feed [.ref 46, .long e, .int k] M (Rt (some (.int (-1))) M) := by
  refine K_go 2 o_X6_feed [none] rfl (Nat.le_of_ble_eq_true rfl) ?_
  simp only [lvA_i, lvA_a, lvA_l, lvA_nil, List.cons_append, List.nil_append]
  refine J_blk a_X6_feed_0 ?_
  simp only [b_X6_feed_0, w_iload_n3, w_i2l, w_lconst_1, w_ldc2, cl_8, w_nil, kd_46, kd_47, kd_48, kd_49, kd_50, kd_51, kd_52, kd_53, kd_54, kd_55, kd_56, kd_57, kd_58, kd_59, ln_47, ln_48, ln_49, ln_50, ln_51, ln_52, ln_53, ln_54, ln_55, ln_56, ln_57, ln_58, ln_59, Option.toList_some, Option.toList_none, List.cons_append, List.nil_append, true_and, and_true, if_true, if_false, true_or, or_true, Nat.reduceAdd, Int.reduceAdd, Bool.false_eq_true, tn_0, tn_1, tn_2, tn_3, tn_4, tn_5, tn_6, tn_7]
  refine J_callSr (isIn_ok _ _ _ _) k_X6_feed_6 o_X6_isIn rfl (by decide) rfl (Nat.le_of_ble_eq_true rfl) ?_
  simp only [l_le_1, l_le_2, l_le_3, l_le_5, l_le_7, l_le_8, l_le_9, l_le_10, l_le_13, l_le_20, l_le_30, l_le_60, l_le_99, l_le_9999, l_ge_0, l_ge_1, l_ge_6, l_ge_m1, i64_le]
  refine J_blk a_X6_feed_9 ?_
  simp only [b_X6_feed_9, w_if_ne, w_nil, kd_46, kd_47, kd_48, kd_49, kd_50, kd_51, kd_52, kd_53, kd_54, kd_55, kd_56, kd_57, kd_58, kd_59, ln_47, ln_48, ln_49, ln_50, ln_51, ln_52, ln_53, ln_54, ln_55, ln_56, ln_57, ln_58, ln_59, Option.toList_some, Option.toList_none, List.cons_append, List.nil_append, true_and, and_true, if_true, if_false, true_or, or_true, Nat.reduceAdd, Int.reduceAdd, Bool.false_eq_true, tn_0, tn_1, tn_2, tn_3, tn_4, tn_5, tn_6, tn_7]
  refine ⟨fun c11 => ?_, fun c11 => ?_⟩
  · exact absurd (by grind) h
  · refine J_blk a_X6_feed_12 ?_
    simp only [b_X6_feed_12, w_iconst_m1, w_ireti, kd_46, kd_47, kd_48, kd_49, kd_50, kd_51, kd_52, kd_53, kd_54, kd_55, kd_56, kd_57, kd_58, kd_59, ln_47, ln_48, ln_49, ln_50, ln_51, ln_52, ln_53, ln_54, ln_55, ln_56, ln_57, ln_58, ln_59, Option.toList_some, Option.toList_none, List.cons_append, List.nil_append, true_and, and_true, if_true, if_false, true_or, or_true, Nat.reduceAdd, Int.reduceAdd, Bool.false_eq_true, tn_0, tn_1, tn_2, tn_3, tn_4, tn_5, tn_6, tn_7]
    exact ⟨rfl, rfl⟩
theorem mfeed_n (e : Int64) (k c : Nat) (M : Mm) (h1 : 1 ≤ k) (h8 : k ≤ 8) (hc : c ≤ 200) (ec : M.1 46 6 = nI c) (hf : 200 < c + k) : K 1 mX6_feed [.ref 46, .long e, .int (nI k)] M (Rt (some (.int (-2))) M) := by
  have h2 : 1 ≤ nI k ∧ nI k ≤ 8 := ok3 (m := 8) h1 h8 (by decide)
  have h3 : ¬ nI (c + k) ≤ 200 := nI_ge (a := 200) hf (by omega)
  refine K_go 2 o_X6_feed [none] rfl (Nat.le_of_ble_eq_true rfl) ?_
  simp only [lvA_i, lvA_a, lvA_l, lvA_nil, List.cons_append, List.nil_append]
  refine J_blk a_X6_feed_0 ?_
  simp only [b_X6_feed_0, w_iload_n3, w_i2l, w_lconst_1, w_ldc2, cl_8, w_nil, kd_46, kd_47, kd_48, kd_49, kd_50, kd_51, kd_52, kd_53, kd_54, kd_55, kd_56, kd_57, kd_58, kd_59, ln_47, ln_48, ln_49, ln_50, ln_51, ln_52, ln_53, ln_54, ln_55, ln_56, ln_57, ln_58, ln_59, Option.toList_some, Option.toList_none, List.cons_append, List.nil_append, true_and, and_true, if_true, if_false, true_or, or_true, Nat.reduceAdd, Int.reduceAdd, Bool.false_eq_true, tn_0, tn_1, tn_2, tn_3, tn_4, tn_5, tn_6, tn_7, ec, nI_add]
  refine J_callSr (isIn_ok _ _ _ _) k_X6_feed_6 o_X6_isIn rfl (by decide) rfl (Nat.le_of_ble_eq_true rfl) ?_
  simp only [l_le_1, l_le_2, l_le_3, l_le_5, l_le_7, l_le_8, l_le_9, l_le_10, l_le_13, l_le_20, l_le_30, l_le_60, l_le_99, l_le_9999, l_ge_0, l_ge_1, l_ge_6, l_ge_m1, i64_le]
  refine J_blk a_X6_feed_9 ?_
  simp only [b_X6_feed_9, w_if_ne, w_nil, kd_46, kd_47, kd_48, kd_49, kd_50, kd_51, kd_52, kd_53, kd_54, kd_55, kd_56, kd_57, kd_58, kd_59, ln_47, ln_48, ln_49, ln_50, ln_51, ln_52, ln_53, ln_54, ln_55, ln_56, ln_57, ln_58, ln_59, Option.toList_some, Option.toList_none, List.cons_append, List.nil_append, true_and, and_true, if_true, if_false, true_or, or_true, Nat.reduceAdd, Int.reduceAdd, Bool.false_eq_true, tn_0, tn_1, tn_2, tn_3, tn_4, tn_5, tn_6, tn_7, ec, nI_add]
  refine ⟨fun c12 => ?_, fun c12 => ?_⟩
  · refine J_blk a_X6_feed_14 ?_
    simp only [b_X6_feed_14, w_aload_n0, w_getf6, w_iload_n3, w_iadd, w_sipush, ci_200, w_icmp_le, w_nil, kd_46, kd_47, kd_48, kd_49, kd_50, kd_51, kd_52, kd_53, kd_54, kd_55, kd_56, kd_57, kd_58, kd_59, ln_47, ln_48, ln_49, ln_50, ln_51, ln_52, ln_53, ln_54, ln_55, ln_56, ln_57, ln_58, ln_59, Option.toList_some, Option.toList_none, List.cons_append, List.nil_append, true_and, and_true, if_true, if_false, true_or, or_true, Nat.reduceAdd, Int.reduceAdd, Bool.false_eq_true, tn_0, tn_1, tn_2, tn_3, tn_4, tn_5, tn_6, tn_7, ec, nI_add]
    refine ⟨fun c13 => ?_, fun c13 => ?_⟩
    · exact absurd (by assumption) h3
    · refine J_blk a_X6_feed_26 ?_
      simp only [b_X6_feed_26, w_bipush, ci_m2, w_ireti, kd_46, kd_47, kd_48, kd_49, kd_50, kd_51, kd_52, kd_53, kd_54, kd_55, kd_56, kd_57, kd_58, kd_59, ln_47, ln_48, ln_49, ln_50, ln_51, ln_52, ln_53, ln_54, ln_55, ln_56, ln_57, ln_58, ln_59, Option.toList_some, Option.toList_none, List.cons_append, List.nil_append, true_and, and_true, if_true, if_false, true_or, or_true, Nat.reduceAdd, Int.reduceAdd, Bool.false_eq_true, tn_0, tn_1, tn_2, tn_3, tn_4, tn_5, tn_6, tn_7, ec, nI_add]
      exact ⟨rfl, rfl⟩
  · exact absurd h2 (by grind)
def fdB (e : Int64) (k : Nat) : Int32 := (e >>> ((8 * nI k).toInt64 &&& 63) &&& 255).toInt32
def fdR (r : Nat → Int32) (c : Nat) (e : Int64) : Nat → (Nat → Int32)
  | 0 => r
  | k + 1 => upd (fdR r c e k) (c + k) (fdB e k)
theorem mfeed_t (e : Int64) (k c : Nat) (M : Mm) (h1 : 1 ≤ k) (h8 : k ≤ 8) (ec : M.1 46 6 = nI c) (hf : c + k ≤ 200) : K 1 mX6_feed [.ref 46, .long e, .int (nI k)] M (Rt (some (.int (nI (c + k)))) (u1 (su M 51 (fdR (M.1 51) c e k)) 46 6 (nI (c + k)))) := by
  have h2 : 1 ≤ nI k ∧ nI k ≤ 8 := ok3 (m := 8) h1 h8 (by decide)
  have h3 : nI (c + k) ≤ 200 := nI_le (b := 200) hf (by omega)
  have loop : ∀ j, j ≤ k → J 1 mX6_feed 32 [some (.ref 46), some (.long e), none, some (.int (nI k)), some (.int (nI j))] [] (u1 (su M 51 (fdR (M.1 51) c e j)) 46 6 (nI (c + j))) (Rt (some (.int (nI (c + k)))) (u1 (su M 51 (fdR (M.1 51) c e k)) 46 6 (nI (c + k)))) := by
    refine down k ?_ ?_
    · refine J_blk a_X6_feed_32 ?_
      simp only [b_X6_feed_32, w_iload4, w_iload_n3, w_icmp_ge, w_nil, kd_46, kd_47, kd_48, kd_49, kd_50, kd_51, kd_52, kd_53, kd_54, kd_55, kd_56, kd_57, kd_58, kd_59, ln_47, ln_48, ln_49, ln_50, ln_51, ln_52, ln_53, ln_54, ln_55, ln_56, ln_57, ln_58, ln_59, Option.toList_some, Option.toList_none, List.cons_append, List.nil_append, true_and, and_true, if_true, if_false, true_or, or_true, Nat.reduceAdd, Int.reduceAdd, Bool.false_eq_true, tn_0, tn_1, tn_2, tn_3, tn_4, tn_5, tn_6, tn_7]
      refine ⟨fun _ => ?_, fun h => absurd (Int32.le_refl _) h⟩
      refine J_blk a_X6_feed_75 ?_
      simp only [b_X6_feed_75, w_aload_n0, w_getf6, w_ireti, kd_46, kd_47, kd_48, kd_49, kd_50, kd_51, kd_52, kd_53, kd_54, kd_55, kd_56, kd_57, kd_58, kd_59, ln_47, ln_48, ln_49, ln_50, ln_51, ln_52, ln_53, ln_54, ln_55, ln_56, ln_57, ln_58, ln_59, Option.toList_some, Option.toList_none, List.cons_append, List.nil_append, true_and, and_true, if_true, if_false, true_or, or_true, Nat.reduceAdd, Int.reduceAdd, Bool.false_eq_true, tn_0, tn_1, tn_2, tn_3, tn_4, tn_5, tn_6, tn_7]
      exact ⟨by simp [u1], rfl⟩
    · intro j hj ih
      have e6 : (u1 (su M 51 (fdR (M.1 51) c e j)) 46 6 (nI (c + j))).1 46 6 = nI (c + j) := by simp [u1]
      have tj : (nI (c + j)).toNatClampNeg = c + j := nI_clamp (by omega)
      have em : u1 (u1 (u1 (su M 51 (fdR (M.1 51) c e j)) 46 6 (nI (c + j))) 51 (c + j) (fdB e j)) 46 6 (nI (c + j + 1)) = u1 (su M 51 (fdR (M.1 51) c e (j + 1))) 46 6 (nI (c + (j + 1))) := by
        rw [fdR, ← u1_su]
        apply mmx
        · intro a b
          simp only [u1]
          by_cases q1 : a = 46 ∧ b = 6
          · obtain ⟨rfl, rfl⟩ := q1; simp [Nat.add_assoc]
          · simp [q1]
        · rfl
      have e6' : (u1 (u1 (su M 51 (fdR (M.1 51) c e j)) 46 6 (nI (c + j))) 51 (c + j) (fdB e j)).1 46 6 = nI (c + j) := by simp [u1]
      refine J_blk a_X6_feed_32 ?_
      simp only [b_X6_feed_32, w_iload4, w_iload_n3, w_icmp_ge, w_nil, kd_46, kd_47, kd_48, kd_49, kd_50, kd_51, kd_52, kd_53, kd_54, kd_55, kd_56, kd_57, kd_58, kd_59, ln_47, ln_48, ln_49, ln_50, ln_51, ln_52, ln_53, ln_54, ln_55, ln_56, ln_57, ln_58, ln_59, Option.toList_some, Option.toList_none, List.cons_append, List.nil_append, true_and, and_true, if_true, if_false, true_or, or_true, Nat.reduceAdd, Int.reduceAdd, Bool.false_eq_true, tn_0, tn_1, tn_2, tn_3, tn_4, tn_5, tn_6, tn_7]
      refine ⟨fun h => absurd h (nI_ge hj (by omega)), fun _ => ?_⟩
      refine J_blk a_X6_feed_38 ?_
      simp only [b_X6_feed_38, w_aload_n0, w_getf6, ne0_5, w_lload_n1, w_bipush, ci_8, w_iload4, w_imul, w_lshr, w_ldc2, cl_255, w_land, w_l2i, w_iast, w_dup_i, w_dup_a, w_iconst_1, w_iadd, w_putf6, w_iinc4, nl_4n, nl_4i, nl_4a, ci_1, w_goto, kd_46, kd_47, kd_48, kd_49, kd_50, kd_51, kd_52, kd_53, kd_54, kd_55, kd_56, kd_57, kd_58, kd_59, ln_47, ln_48, ln_49, ln_50, ln_51, ln_52, ln_53, ln_54, ln_55, ln_56, ln_57, ln_58, ln_59, Option.toList_some, Option.toList_none, List.cons_append, List.nil_append, true_and, and_true, if_true, if_false, true_or, or_true, Nat.reduceAdd, Int.reduceAdd, Bool.false_eq_true, tn_0, tn_1, tn_2, tn_3, tn_4, tn_5, tn_6, tn_7, e6, tj, show ∀ x : Int64, (x >>> ((8 * nI j).toInt64 &&& 63) &&& 255).toInt32 = fdB x j from fun _ => rfl, e6', nI_1, em]
      exact ⟨vinN (by omega) (by decide), ih⟩
  have l0 := loop 0 (by omega)
  rw [fdR, su_self, Nat.add_zero, ← ec] at l0
  rw [show u1 M 46 6 (M.1 46 6) = M by
    apply mmx
    · intro a b
      simp only [u1]
      by_cases q1 : a = 46 ∧ b = 6
      · obtain ⟨rfl, rfl⟩ := q1; simp
      · simp [q1]
    · rfl] at l0
  refine K_go 2 o_X6_feed [none] rfl (Nat.le_of_ble_eq_true rfl) ?_
  simp only [lvA_i, lvA_a, lvA_l, lvA_nil, List.cons_append, List.nil_append]
  refine J_blk a_X6_feed_0 ?_
  simp only [b_X6_feed_0, w_iload_n3, w_i2l, w_lconst_1, w_ldc2, cl_8, w_nil, kd_46, kd_47, kd_48, kd_49, kd_50, kd_51, kd_52, kd_53, kd_54, kd_55, kd_56, kd_57, kd_58, kd_59, ln_47, ln_48, ln_49, ln_50, ln_51, ln_52, ln_53, ln_54, ln_55, ln_56, ln_57, ln_58, ln_59, Option.toList_some, Option.toList_none, List.cons_append, List.nil_append, true_and, and_true, if_true, if_false, true_or, or_true, Nat.reduceAdd, Int.reduceAdd, Bool.false_eq_true, tn_0, tn_1, tn_2, tn_3, tn_4, tn_5, tn_6, tn_7, ec, nI_add]
  refine J_callSr (isIn_ok _ _ _ _) k_X6_feed_6 o_X6_isIn rfl (by decide) rfl (Nat.le_of_ble_eq_true rfl) ?_
  simp only [l_le_1, l_le_2, l_le_3, l_le_5, l_le_7, l_le_8, l_le_9, l_le_10, l_le_13, l_le_20, l_le_30, l_le_60, l_le_99, l_le_9999, l_ge_0, l_ge_1, l_ge_6, l_ge_m1, i64_le]
  refine J_blk a_X6_feed_9 ?_
  simp only [b_X6_feed_9, w_if_ne, w_nil, kd_46, kd_47, kd_48, kd_49, kd_50, kd_51, kd_52, kd_53, kd_54, kd_55, kd_56, kd_57, kd_58, kd_59, ln_47, ln_48, ln_49, ln_50, ln_51, ln_52, ln_53, ln_54, ln_55, ln_56, ln_57, ln_58, ln_59, Option.toList_some, Option.toList_none, List.cons_append, List.nil_append, true_and, and_true, if_true, if_false, true_or, or_true, Nat.reduceAdd, Int.reduceAdd, Bool.false_eq_true, tn_0, tn_1, tn_2, tn_3, tn_4, tn_5, tn_6, tn_7, ec, nI_add]
  refine ⟨fun c14 => ?_, fun c14 => ?_⟩
  · refine J_blk a_X6_feed_14 ?_
    simp only [b_X6_feed_14, w_aload_n0, w_getf6, w_iload_n3, w_iadd, w_sipush, ci_200, w_icmp_le, w_nil, kd_46, kd_47, kd_48, kd_49, kd_50, kd_51, kd_52, kd_53, kd_54, kd_55, kd_56, kd_57, kd_58, kd_59, ln_47, ln_48, ln_49, ln_50, ln_51, ln_52, ln_53, ln_54, ln_55, ln_56, ln_57, ln_58, ln_59, Option.toList_some, Option.toList_none, List.cons_append, List.nil_append, true_and, and_true, if_true, if_false, true_or, or_true, Nat.reduceAdd, Int.reduceAdd, Bool.false_eq_true, tn_0, tn_1, tn_2, tn_3, tn_4, tn_5, tn_6, tn_7, ec, nI_add]
    refine ⟨fun c15 => ?_, fun c15 => ?_⟩
    · refine J_blk a_X6_feed_29 ?_
      simp only [b_X6_feed_29, w_iconst_0, w_istore4, nl_4n, nl_4i, nl_4a, w_nil, kd_46, kd_47, kd_48, kd_49, kd_50, kd_51, kd_52, kd_53, kd_54, kd_55, kd_56, kd_57, kd_58, kd_59, ln_47, ln_48, ln_49, ln_50, ln_51, ln_52, ln_53, ln_54, ln_55, ln_56, ln_57, ln_58, ln_59, Option.toList_some, Option.toList_none, List.cons_append, List.nil_append, true_and, and_true, if_true, if_false, true_or, or_true, Nat.reduceAdd, Int.reduceAdd, Bool.false_eq_true, tn_0, tn_1, tn_2, tn_3, tn_4, tn_5, tn_6, tn_7, ec, nI_add]
      exact l0
    · exact absurd h3 (by assumption)
  · exact absurd h2 (by grind)

