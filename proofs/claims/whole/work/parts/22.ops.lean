/-! the model: what is tried, on -/
theorem mripe_t (n o : Nat) (M : Mm) (hw : WF (M.1 47) n) (hj : o < n) : K 4 mX6_ripe [.ref 46, .int (nI o)] M (Rt (some (.int (fst1 (fun k => decide (9 ≤ yrs (M.1 47) n k (8 + 6 * o + 2))) 61 0))) (asd M)) := by
  have h0 := hw.1
  have h8 := hw.2.1
  have ho := ok1 hj (by omega)
  have last : ∀ (r : Nat → Int32) (k : Nat) (v : Int32) (z : Option Value), k ≤ 61 → (∀ j, 56 ≤ j → r j = M.1 47 j) → v = (if k ≤ 60 then nI k else -3) → J 4 mX6_ripe 51 [some (.ref 46), some (.int (nI o)), some (.int (nI k)), z] [] (Mg M (cpN (M.1 47) (M.1 49) 56) r) (Rt (some (.int v)) (asd M)) := by
    intro r k v z hk hr hv
    have e60 : (60 < nI k) = (60 < k) := propext (nI_ltI (a := 60) (by decide) (by omega))
    refine J_blk a_X6_ripe_51 ?_
    simp only [b_X6_ripe_51, w_aload_n0, w_getf6, ne0_3, ne0_1, w_nil, kd_46, kd_47, kd_48, kd_49, kd_50, kd_51, kd_52, kd_53, kd_54, kd_55, kd_56, kd_57, kd_58, kd_59, ln_47, ln_48, ln_49, ln_50, ln_51, ln_52, ln_53, ln_54, ln_55, ln_56, ln_57, ln_58, ln_59, Option.toList_some, Option.toList_none, List.cons_append, List.nil_append, true_and, and_true, if_true, if_false, true_or, or_true, Nat.reduceAdd, Int.reduceAdd, Bool.false_eq_true, tn_0, tn_1, tn_2, tn_3, tn_4, tn_5, tn_6, tn_7]
    refine J_callSr (copyRow_ok 49 47 _ rfl rfl rfl rfl (by decide)) k_X6_ripe_59 o_X6_copyRow rfl (by decide) rfl (Nat.le_of_ble_eq_true rfl) ?_
    rw [back_Mg M _ r _ hr, ← asd_Mg]
    refine J_blk a_X6_ripe_62 ?_
    simp only [b_X6_ripe_62, w_iload_n2, w_bipush, ci_60, w_icmp_gt, w_nil, kd_46, kd_47, kd_48, kd_49, kd_50, kd_51, kd_52, kd_53, kd_54, kd_55, kd_56, kd_57, kd_58, kd_59, ln_47, ln_48, ln_49, ln_50, ln_51, ln_52, ln_53, ln_54, ln_55, ln_56, ln_57, ln_58, ln_59, Option.toList_some, Option.toList_none, List.cons_append, List.nil_append, true_and, and_true, if_true, if_false, true_or, or_true, Nat.reduceAdd, Int.reduceAdd, Bool.false_eq_true, tn_0, tn_1, tn_2, tn_3, tn_4, tn_5, tn_6, tn_7, e60]
    refine ⟨fun c1 => ?_, fun c1 => ?_⟩
    · refine J_blk a_X6_ripe_72 ?_
      simp only [b_X6_ripe_72, w_bipush, ci_m3, w_nil, kd_46, kd_47, kd_48, kd_49, kd_50, kd_51, kd_52, kd_53, kd_54, kd_55, kd_56, kd_57, kd_58, kd_59, ln_47, ln_48, ln_49, ln_50, ln_51, ln_52, ln_53, ln_54, ln_55, ln_56, ln_57, ln_58, ln_59, Option.toList_some, Option.toList_none, List.cons_append, List.nil_append, true_and, and_true, if_true, if_false, true_or, or_true, Nat.reduceAdd, Int.reduceAdd, Bool.false_eq_true, tn_0, tn_1, tn_2, tn_3, tn_4, tn_5, tn_6, tn_7, e60]
      refine J_blk a_X6_ripe_74 ?_
      simp only [b_X6_ripe_74, w_ireti, kd_46, kd_47, kd_48, kd_49, kd_50, kd_51, kd_52, kd_53, kd_54, kd_55, kd_56, kd_57, kd_58, kd_59, ln_47, ln_48, ln_49, ln_50, ln_51, ln_52, ln_53, ln_54, ln_55, ln_56, ln_57, ln_58, ln_59, Option.toList_some, Option.toList_none, List.cons_append, List.nil_append, true_and, and_true, if_true, if_false, true_or, or_true, Nat.reduceAdd, Int.reduceAdd, Bool.false_eq_true, tn_0, tn_1, tn_2, tn_3, tn_4, tn_5, tn_6, tn_7, e60]
      exact ⟨by rw [hv]; first | rw [if_pos (by omega)] | rw [if_neg (by omega)], rfl⟩
    · refine J_blk a_X6_ripe_68 ?_
      simp only [b_X6_ripe_68, w_iload_n2, w_goto, kd_46, kd_47, kd_48, kd_49, kd_50, kd_51, kd_52, kd_53, kd_54, kd_55, kd_56, kd_57, kd_58, kd_59, ln_47, ln_48, ln_49, ln_50, ln_51, ln_52, ln_53, ln_54, ln_55, ln_56, ln_57, ln_58, ln_59, Option.toList_some, Option.toList_none, List.cons_append, List.nil_append, true_and, and_true, if_true, if_false, true_or, or_true, Nat.reduceAdd, Int.reduceAdd, Bool.false_eq_true, tn_0, tn_1, tn_2, tn_3, tn_4, tn_5, tn_6, tn_7, e60]
      refine J_blk a_X6_ripe_74 ?_
      simp only [b_X6_ripe_74, w_ireti, kd_46, kd_47, kd_48, kd_49, kd_50, kd_51, kd_52, kd_53, kd_54, kd_55, kd_56, kd_57, kd_58, kd_59, ln_47, ln_48, ln_49, ln_50, ln_51, ln_52, ln_53, ln_54, ln_55, ln_56, ln_57, ln_58, ln_59, Option.toList_some, Option.toList_none, List.cons_append, List.nil_append, true_and, and_true, if_true, if_false, true_or, or_true, Nat.reduceAdd, Int.reduceAdd, Bool.false_eq_true, tn_0, tn_1, tn_2, tn_3, tn_4, tn_5, tn_6, tn_7, e60]
      exact ⟨by rw [hv]; first | rw [if_pos (by omega)] | rw [if_neg (by omega)], rfl⟩
  have loop : ∀ f k, f + k = 61 → ∀ z : Option Value, J 4 mX6_ripe 23 [some (.ref 46), some (.int (nI o)), some (.int (nI k)), z] [] (Mg M (cpN (M.1 47) (M.1 49) 56) (yrs (M.1 47) n k)) (Rt (some (.int (fst1 (fun k => decide (9 ≤ yrs (M.1 47) n k (8 + 6 * o + 2))) f k))) (asd M)) := by
    intro f
    induction f with
    | zero =>
      intro k hk z
      have : k = 61 := by omega
      subst this
      refine J_blk a_X6_ripe_23 ?_
      simp only [b_X6_ripe_23, w_iload_n2, w_bipush, ci_60, w_icmp_gt, w_nil, kd_46, kd_47, kd_48, kd_49, kd_50, kd_51, kd_52, kd_53, kd_54, kd_55, kd_56, kd_57, kd_58, kd_59, ln_47, ln_48, ln_49, ln_50, ln_51, ln_52, ln_53, ln_54, ln_55, ln_56, ln_57, ln_58, ln_59, Option.toList_some, Option.toList_none, List.cons_append, List.nil_append, true_and, and_true, if_true, if_false, true_or, or_true, Nat.reduceAdd, Int.reduceAdd, Bool.false_eq_true, tn_0, tn_1, tn_2, tn_3, tn_4, tn_5, tn_6, tn_7]
      exact ⟨fun _ => last _ 61 _ _ (by omega) (fun j hj => yrs_hi _ h8 hj _) rfl, fun h => absurd (show (60 : Int32) < nI 61 by decide) h⟩
    | succ f ih =>
      intro k hk z
      have e60 : (60 < nI k) = (60 < k) := propext (nI_ltI (a := 60) (by decide) (by omega))
      refine J_blk a_X6_ripe_23 ?_
      simp only [b_X6_ripe_23, w_iload_n2, w_bipush, ci_60, w_icmp_gt, w_nil, kd_46, kd_47, kd_48, kd_49, kd_50, kd_51, kd_52, kd_53, kd_54, kd_55, kd_56, kd_57, kd_58, kd_59, ln_47, ln_48, ln_49, ln_50, ln_51, ln_52, ln_53, ln_54, ln_55, ln_56, ln_57, ln_58, ln_59, Option.toList_some, Option.toList_none, List.cons_append, List.nil_append, true_and, and_true, if_true, if_false, true_or, or_true, Nat.reduceAdd, Int.reduceAdd, Bool.false_eq_true, tn_0, tn_1, tn_2, tn_3, tn_4, tn_5, tn_6, tn_7, e60]
      refine ⟨fun h => absurd h (by omega), fun _ => ?_⟩
      refine J_blk a_X6_ripe_29 ?_
      simp only [b_X6_ripe_29, w_aload_n0, w_iload_n1, w_iconst_2, w_nil, kd_46, kd_47, kd_48, kd_49, kd_50, kd_51, kd_52, kd_53, kd_54, kd_55, kd_56, kd_57, kd_58, kd_59, ln_47, ln_48, ln_49, ln_50, ln_51, ln_52, ln_53, ln_54, ln_55, ln_56, ln_57, ln_58, ln_59, Option.toList_some, Option.toList_none, List.cons_append, List.nil_append, true_and, and_true, if_true, if_false, true_or, or_true, Nat.reduceAdd, Int.reduceAdd, Bool.false_eq_true, tn_0, tn_1, tn_2, tn_3, tn_4, tn_5, tn_6, tn_7]
      refine J_callVr (ci := 6) (its_ok o 2 _ (by omega)) k_X6_ripe_32 o_X6_its rfl rfl rfl rfl (by decide) rfl (Nat.le_of_ble_eq_true rfl) ?_
      refine J_blk a_X6_ripe_35 ?_
      simp only [b_X6_ripe_35, w_bipush, ci_9, w_icmp_ge, w_nil, kd_46, kd_47, kd_48, kd_49, kd_50, kd_51, kd_52, kd_53, kd_54, kd_55, kd_56, kd_57, kd_58, kd_59, ln_47, ln_48, ln_49, ln_50, ln_51, ln_52, ln_53, ln_54, ln_55, ln_56, ln_57, ln_58, ln_59, Option.toList_some, Option.toList_none, List.cons_append, List.nil_append, true_and, and_true, if_true, if_false, true_or, or_true, Nat.reduceAdd, Int.reduceAdd, Bool.false_eq_true, tn_0, tn_1, tn_2, tn_3, tn_4, tn_5, tn_6, tn_7, Mg47]
      rw [fst1]
      simp only [decide_eq_true_eq]
      refine ⟨fun h => ?_, fun h => ?_⟩
      · rw [if_pos h]
        exact last _ k _ _ (by omega) (fun j hj => yrs_hi _ h8 hj _) (by rw [if_pos (by omega)])
      · rw [if_neg h]
        refine J_blk a_X6_ripe_40 ?_
        simp only [b_X6_ripe_40, w_aload_n0, w_nil, kd_46, kd_47, kd_48, kd_49, kd_50, kd_51, kd_52, kd_53, kd_54, kd_55, kd_56, kd_57, kd_58, kd_59, ln_47, ln_48, ln_49, ln_50, ln_51, ln_52, ln_53, ln_54, ln_55, ln_56, ln_57, ln_58, ln_59, Option.toList_some, Option.toList_none, List.cons_append, List.nil_append, true_and, and_true, if_true, if_false, true_or, or_true, Nat.reduceAdd, Int.reduceAdd, Bool.false_eq_true, tn_0, tn_1, tn_2, tn_3, tn_4, tn_5, tn_6, tn_7]
        refine J_callVr (ci := 6) (goesOn_ok n _ (by rw [Mg47]; exact WF_yrs hw k)) k_X6_ripe_41 o_X6_goesOn rfl rfl rfl rfl (by decide) rfl (Nat.le_of_ble_eq_true rfl) ?_
        rw [Mg47, Mg_su]
        refine J_blk a_X6_ripe_44 ?_
        simp only [b_X6_ripe_44, w_istore3, nl_3n, nl_3i, nl_3a, w_iinc2, nl_2n, nl_2i, nl_2a, ci_1, w_goto, kd_46, kd_47, kd_48, kd_49, kd_50, kd_51, kd_52, kd_53, kd_54, kd_55, kd_56, kd_57, kd_58, kd_59, ln_47, ln_48, ln_49, ln_50, ln_51, ln_52, ln_53, ln_54, ln_55, ln_56, ln_57, ln_58, ln_59, Option.toList_some, Option.toList_none, List.cons_append, List.nil_append, true_and, and_true, if_true, if_false, true_or, or_true, Nat.reduceAdd, Int.reduceAdd, Bool.false_eq_true, tn_0, tn_1, tn_2, tn_3, tn_4, tn_5, tn_6, tn_7, nI_1]
        exact ih (k + 1) (by omega) _
  have l0 := loop 61 0 (by omega) none
  have go : J 4 mX6_ripe 10 [some (.ref 46), some (.int (nI o)), none, none] [] M (Rt (some (.int (fst1 (fun k => decide (9 ≤ yrs (M.1 47) n k (8 + 6 * o + 2))) 61 0))) (asd M)) := by
    refine J_blk a_X6_ripe_10 ?_
    simp only [b_X6_ripe_10, w_aload_n0, w_getf6, ne0_1, ne0_3, w_nil, kd_46, kd_47, kd_48, kd_49, kd_50, kd_51, kd_52, kd_53, kd_54, kd_55, kd_56, kd_57, kd_58, kd_59, ln_47, ln_48, ln_49, ln_50, ln_51, ln_52, ln_53, ln_54, ln_55, ln_56, ln_57, ln_58, ln_59, Option.toList_some, Option.toList_none, List.cons_append, List.nil_append, true_and, and_true, if_true, if_false, true_or, or_true, Nat.reduceAdd, Int.reduceAdd, Bool.false_eq_true, tn_0, tn_1, tn_2, tn_3, tn_4, tn_5, tn_6, tn_7]
    refine J_callSr (copyRow_ok 47 49 M rfl rfl rfl rfl (by decide)) k_X6_ripe_18 o_X6_copyRow rfl (by decide) rfl (Nat.le_of_ble_eq_true rfl) ?_
    rw [show su M 49 (cpN (M.1 47) (M.1 49) 56) = asd M from rfl]
    refine J_blk a_X6_ripe_21 ?_
    simp only [b_X6_ripe_21, w_iconst_0, w_istore2, nl_2n, nl_2i, nl_2a, w_nil, kd_46, kd_47, kd_48, kd_49, kd_50, kd_51, kd_52, kd_53, kd_54, kd_55, kd_56, kd_57, kd_58, kd_59, ln_47, ln_48, ln_49, ln_50, ln_51, ln_52, ln_53, ln_54, ln_55, ln_56, ln_57, ln_58, ln_59, Option.toList_some, Option.toList_none, List.cons_append, List.nil_append, true_and, and_true, if_true, if_false, true_or, or_true, Nat.reduceAdd, Int.reduceAdd, Bool.false_eq_true, tn_0, tn_1, tn_2, tn_3, tn_4, tn_5, tn_6, tn_7]
    rw [asd_Mg] at l0 ⊢
    exact l0
  refine K_go 1 o_X6_ripe [none, none] rfl (Nat.le_of_ble_eq_true rfl) ?_
  simp only [lvA_i, lvA_a, lvA_l, lvA_nil, List.cons_append, List.nil_append]
  refine J_blk a_X6_ripe_0 ?_
  simp only [b_X6_ripe_0, w_aload_n0, w_iload_n1, w_nil, kd_46, kd_47, kd_48, kd_49, kd_50, kd_51, kd_52, kd_53, kd_54, kd_55, kd_56, kd_57, kd_58, kd_59, ln_47, ln_48, ln_49, ln_50, ln_51, ln_52, ln_53, ln_54, ln_55, ln_56, ln_57, ln_58, ln_59, Option.toList_some, Option.toList_none, List.cons_append, List.nil_append, true_and, and_true, if_true, if_false, true_or, or_true, Nat.reduceAdd, Int.reduceAdd, Bool.false_eq_true, tn_0, tn_1, tn_2, tn_3, tn_4, tn_5, tn_6, tn_7]
  refine J_callVr (ci := 6) (isOne_ok _ _) k_X6_ripe_2 o_X6_isOne rfl rfl rfl rfl (by decide) rfl (Nat.le_of_ble_eq_true rfl) ?_
  rw [h0, if_pos ho]
  refine J_blk a_X6_ripe_5 ?_
  simp only [b_X6_ripe_5, w_if_ne, w_nil, kd_46, kd_47, kd_48, kd_49, kd_50, kd_51, kd_52, kd_53, kd_54, kd_55, kd_56, kd_57, kd_58, kd_59, ln_47, ln_48, ln_49, ln_50, ln_51, ln_52, ln_53, ln_54, ln_55, ln_56, ln_57, ln_58, ln_59, Option.toList_some, Option.toList_none, List.cons_append, List.nil_append, true_and, and_true, if_true, if_false, true_or, or_true, Nat.reduceAdd, Int.reduceAdd, Bool.false_eq_true, tn_0, tn_1, tn_2, tn_3, tn_4, tn_5, tn_6, tn_7]
  refine ⟨fun c2 => ?_, fun c2 => ?_⟩
  · first
      | exact absurd c2 (by decide)
      | (exact go)
  · first
      | exact absurd c2 (by decide)
      | (refine J_blk a_X6_ripe_8 ?_
         simp only [b_X6_ripe_8, w_iconst_m1, w_ireti, kd_46, kd_47, kd_48, kd_49, kd_50, kd_51, kd_52, kd_53, kd_54, kd_55, kd_56, kd_57, kd_58, kd_59, ln_47, ln_48, ln_49, ln_50, ln_51, ln_52, ln_53, ln_54, ln_55, ln_56, ln_57, ln_58, ln_59, Option.toList_some, Option.toList_none, List.cons_append, List.nil_append, true_and, and_true, if_true, if_false, true_or, or_true, Nat.reduceAdd, Int.reduceAdd, Bool.false_eq_true, tn_0, tn_1, tn_2, tn_3, tn_4, tn_5, tn_6, tn_7]
         first | exact ⟨rfl, rfl⟩ | (simp_all [Rt]))
/-- the best of so many, and how much -/
def mxS (v : Nat → Int32) (b0 m0 : Int32) : Nat → Int32 × Int32
  | 0 => (b0, m0)
  | k + 1 => if (mxS v b0 m0 k).2 < v k then (nI k, v k) else mxS v b0 m0 k
def cfV (s : Nat → Int32) (n y : Nat) (o : Nat) : Int32 := if sd s o = true then hvS (ctR s ((1 : Int32) <<< (nI o &&& 31)) n) n y else -1
theorem mcutFor_t (n y : Nat) (M : Mm) (hw : WF (M.1 47) n) (hy : 1 ≤ y) (hy2 : y ≤ 20) : K 5 mX6_cutFor [.ref 46, .int (nI y)] M (Rt (some (.int (mxS (cfV (M.1 47) n y) (-3) (hvS (M.1 47) n y) n).1)) (asd M)) := by
  have h0 := hw.1
  have h8 := hw.2.1
  have h1 : 1 ≤ nI y ∧ nI y ≤ 20 := ok3 (m := 20) hy hy2 (by decide)
  have hwa : WF ((asd M).1 47) n := by rw [asd47]; exact hw
  have loop : ∀ k, k ≤ n → ∀ z : Option Value, J 5 mX6_cutFor 22 [some (.ref 46), some (.int (nI y)), some (.int (mxS (cfV (M.1 47) n y) (-3) (hvS (M.1 47) n y) k).2), some (.int (mxS (cfV (M.1 47) n y) (-3) (hvS (M.1 47) n y) k).1), some (.int (nI k)), z] [] (asd M) (Rt (some (.int (mxS (cfV (M.1 47) n y) (-3) (hvS (M.1 47) n y) n).1)) (asd M)) := by
    refine down n ?_ ?_
    · intro z
      refine J_blk a_X6_cutFor_22 ?_
      simp only [b_X6_cutFor_22, w_iload4, w_aload_n0, w_getf6, ne0_1, w_iconst_0, w_iald, w_icmp_ge, w_nil, kd_46, kd_47, kd_48, kd_49, kd_50, kd_51, kd_52, kd_53, kd_54, kd_55, kd_56, kd_57, kd_58, kd_59, ln_47, ln_48, ln_49, ln_50, ln_51, ln_52, ln_53, ln_54, ln_55, ln_56, ln_57, ln_58, ln_59, Option.toList_some, Option.toList_none, List.cons_append, List.nil_append, true_and, and_true, if_true, if_false, true_or, or_true, Nat.reduceAdd, Int.reduceAdd, Bool.false_eq_true, tn_0, tn_1, tn_2, tn_3, tn_4, tn_5, tn_6, tn_7, asd47, h0]
      refine ⟨vlit (by decide), fun _ => ?_, fun h => absurd (Int32.le_refl _) h⟩
      refine J_blk a_X6_cutFor_89 ?_
      simp only [b_X6_cutFor_89, w_iload_n3, w_ireti, kd_46, kd_47, kd_48, kd_49, kd_50, kd_51, kd_52, kd_53, kd_54, kd_55, kd_56, kd_57, kd_58, kd_59, ln_47, ln_48, ln_49, ln_50, ln_51, ln_52, ln_53, ln_54, ln_55, ln_56, ln_57, ln_58, ln_59, Option.toList_some, Option.toList_none, List.cons_append, List.nil_append, true_and, and_true, if_true, if_false, true_or, or_true, Nat.reduceAdd, Int.reduceAdd, Bool.false_eq_true, tn_0, tn_1, tn_2, tn_3, tn_4, tn_5, tn_6, tn_7]
      first | exact ⟨rfl, rfl⟩ | (simp_all [Rt])
    · intro k hk ih z
      have done : ∀ (v : Int32), v = cfV (M.1 47) n y k → J 5 mX6_cutFor 55 [some (.ref 46), some (.int (nI y)), some (.int (mxS (cfV (M.1 47) n y) (-3) (hvS (M.1 47) n y) k).2), some (.int (mxS (cfV (M.1 47) n y) (-3) (hvS (M.1 47) n y) k).1), some (.int (nI k)), z] [.int v] (asd M) (Rt (some (.int (mxS (cfV (M.1 47) n y) (-3) (hvS (M.1 47) n y) n).1)) (asd M)) := by
        intro v hv
        have ih' := ih (some (.int v))
        rw [mxS, ← hv] at ih'
        generalize mxS (cfV (M.1 47) n y) (-3) (hvS (M.1 47) n y) k = q at *
        refine J_blk a_X6_cutFor_55 ?_
        simp only [b_X6_cutFor_55, w_istore5, nl_5n, nl_5i, nl_5a, w_iload5, w_iload_n2, w_icmp_le, w_nil, kd_46, kd_47, kd_48, kd_49, kd_50, kd_51, kd_52, kd_53, kd_54, kd_55, kd_56, kd_57, kd_58, kd_59, ln_47, ln_48, ln_49, ln_50, ln_51, ln_52, ln_53, ln_54, ln_55, ln_56, ln_57, ln_58, ln_59, Option.toList_some, Option.toList_none, List.cons_append, List.nil_append, true_and, and_true, if_true, if_false, true_or, or_true, Nat.reduceAdd, Int.reduceAdd, Bool.false_eq_true, tn_0, tn_1, tn_2, tn_3, tn_4, tn_5, tn_6, tn_7]
        refine ⟨fun c => ?_, fun c => ?_⟩
        · rw [if_neg (Int32.not_lt.mpr c)] at ih'
          refine J_blk a_X6_cutFor_68 ?_
          simp only [b_X6_cutFor_68, w_iload_n3, w_nil, kd_46, kd_47, kd_48, kd_49, kd_50, kd_51, kd_52, kd_53, kd_54, kd_55, kd_56, kd_57, kd_58, kd_59, ln_47, ln_48, ln_49, ln_50, ln_51, ln_52, ln_53, ln_54, ln_55, ln_56, ln_57, ln_58, ln_59, Option.toList_some, Option.toList_none, List.cons_append, List.nil_append, true_and, and_true, if_true, if_false, true_or, or_true, Nat.reduceAdd, Int.reduceAdd, Bool.false_eq_true, tn_0, tn_1, tn_2, tn_3, tn_4, tn_5, tn_6, tn_7]
          refine J_blk a_X6_cutFor_69 ?_
          simp only [b_X6_cutFor_69, w_istore3, nl_3n, nl_3i, nl_3a, w_iload5, w_iload_n2, w_icmp_le, w_nil, kd_46, kd_47, kd_48, kd_49, kd_50, kd_51, kd_52, kd_53, kd_54, kd_55, kd_56, kd_57, kd_58, kd_59, ln_47, ln_48, ln_49, ln_50, ln_51, ln_52, ln_53, ln_54, ln_55, ln_56, ln_57, ln_58, ln_59, Option.toList_some, Option.toList_none, List.cons_append, List.nil_append, true_and, and_true, if_true, if_false, true_or, or_true, Nat.reduceAdd, Int.reduceAdd, Bool.false_eq_true, tn_0, tn_1, tn_2, tn_3, tn_4, tn_5, tn_6, tn_7]
          refine ⟨fun _ => ?_, fun h => absurd c h⟩
          refine J_blk a_X6_cutFor_81 ?_
          simp only [b_X6_cutFor_81, w_iload_n2, w_nil, kd_46, kd_47, kd_48, kd_49, kd_50, kd_51, kd_52, kd_53, kd_54, kd_55, kd_56, kd_57, kd_58, kd_59, ln_47, ln_48, ln_49, ln_50, ln_51, ln_52, ln_53, ln_54, ln_55, ln_56, ln_57, ln_58, ln_59, Option.toList_some, Option.toList_none, List.cons_append, List.nil_append, true_and, and_true, if_true, if_false, true_or, or_true, Nat.reduceAdd, Int.reduceAdd, Bool.false_eq_true, tn_0, tn_1, tn_2, tn_3, tn_4, tn_5, tn_6, tn_7, nI_1]
          refine J_blk a_X6_cutFor_82 ?_
          simp only [b_X6_cutFor_82, w_istore2, nl_2n, nl_2i, nl_2a, w_iinc4, nl_4n, nl_4i, nl_4a, ci_1, w_goto, kd_46, kd_47, kd_48, kd_49, kd_50, kd_51, kd_52, kd_53, kd_54, kd_55, kd_56, kd_57, kd_58, kd_59, ln_47, ln_48, ln_49, ln_50, ln_51, ln_52, ln_53, ln_54, ln_55, ln_56, ln_57, ln_58, ln_59, Option.toList_some, Option.toList_none, List.cons_append, List.nil_append, true_and, and_true, if_true, if_false, true_or, or_true, Nat.reduceAdd, Int.reduceAdd, Bool.false_eq_true, tn_0, tn_1, tn_2, tn_3, tn_4, tn_5, tn_6, tn_7, nI_1]
          exact ih'
        · rw [if_pos (Int32.not_le.mp c)] at ih'
          refine J_blk a_X6_cutFor_63 ?_
          simp only [b_X6_cutFor_63, w_iload4, w_goto, kd_46, kd_47, kd_48, kd_49, kd_50, kd_51, kd_52, kd_53, kd_54, kd_55, kd_56, kd_57, kd_58, kd_59, ln_47, ln_48, ln_49, ln_50, ln_51, ln_52, ln_53, ln_54, ln_55, ln_56, ln_57, ln_58, ln_59, Option.toList_some, Option.toList_none, List.cons_append, List.nil_append, true_and, and_true, if_true, if_false, true_or, or_true, Nat.reduceAdd, Int.reduceAdd, Bool.false_eq_true, tn_0, tn_1, tn_2, tn_3, tn_4, tn_5, tn_6, tn_7]
          refine J_blk a_X6_cutFor_69 ?_
          simp only [b_X6_cutFor_69, w_istore3, nl_3n, nl_3i, nl_3a, w_iload5, w_iload_n2, w_icmp_le, w_nil, kd_46, kd_47, kd_48, kd_49, kd_50, kd_51, kd_52, kd_53, kd_54, kd_55, kd_56, kd_57, kd_58, kd_59, ln_47, ln_48, ln_49, ln_50, ln_51, ln_52, ln_53, ln_54, ln_55, ln_56, ln_57, ln_58, ln_59, Option.toList_some, Option.toList_none, List.cons_append, List.nil_append, true_and, and_true, if_true, if_false, true_or, or_true, Nat.reduceAdd, Int.reduceAdd, Bool.false_eq_true, tn_0, tn_1, tn_2, tn_3, tn_4, tn_5, tn_6, tn_7]
          refine ⟨fun h => absurd h c, fun _ => ?_⟩
          refine J_blk a_X6_cutFor_76 ?_
          simp only [b_X6_cutFor_76, w_iload5, w_goto, kd_46, kd_47, kd_48, kd_49, kd_50, kd_51, kd_52, kd_53, kd_54, kd_55, kd_56, kd_57, kd_58, kd_59, ln_47, ln_48, ln_49, ln_50, ln_51, ln_52, ln_53, ln_54, ln_55, ln_56, ln_57, ln_58, ln_59, Option.toList_some, Option.toList_none, List.cons_append, List.nil_append, true_and, and_true, if_true, if_false, true_or, or_true, Nat.reduceAdd, Int.reduceAdd, Bool.false_eq_true, tn_0, tn_1, tn_2, tn_3, tn_4, tn_5, tn_6, tn_7, nI_1]
          refine J_blk a_X6_cutFor_82 ?_
          simp only [b_X6_cutFor_82, w_istore2, nl_2n, nl_2i, nl_2a, w_iinc4, nl_4n, nl_4i, nl_4a, ci_1, w_goto, kd_46, kd_47, kd_48, kd_49, kd_50, kd_51, kd_52, kd_53, kd_54, kd_55, kd_56, kd_57, kd_58, kd_59, ln_47, ln_48, ln_49, ln_50, ln_51, ln_52, ln_53, ln_54, ln_55, ln_56, ln_57, ln_58, ln_59, Option.toList_some, Option.toList_none, List.cons_append, List.nil_append, true_and, and_true, if_true, if_false, true_or, or_true, Nat.reduceAdd, Int.reduceAdd, Bool.false_eq_true, tn_0, tn_1, tn_2, tn_3, tn_4, tn_5, tn_6, tn_7, nI_1]
          exact ih'
      refine J_blk a_X6_cutFor_22 ?_
      simp only [b_X6_cutFor_22, w_iload4, w_aload_n0, w_getf6, ne0_1, w_iconst_0, w_iald, w_icmp_ge, w_nil, kd_46, kd_47, kd_48, kd_49, kd_50, kd_51, kd_52, kd_53, kd_54, kd_55, kd_56, kd_57, kd_58, kd_59, ln_47, ln_48, ln_49, ln_50, ln_51, ln_52, ln_53, ln_54, ln_55, ln_56, ln_57, ln_58, ln_59, Option.toList_some, Option.toList_none, List.cons_append, List.nil_append, true_and, and_true, if_true, if_false, true_or, or_true, Nat.reduceAdd, Int.reduceAdd, Bool.false_eq_true, tn_0, tn_1, tn_2, tn_3, tn_4, tn_5, tn_6, tn_7, asd47, h0]
      refine ⟨vlit (by decide), fun h => absurd h (nI_ge hk (by omega)), fun _ => ?_⟩
      refine J_blk a_X6_cutFor_33 ?_
      simp only [b_X6_cutFor_33, w_aload_n0, w_iload4, w_nil, kd_46, kd_47, kd_48, kd_49, kd_50, kd_51, kd_52, kd_53, kd_54, kd_55, kd_56, kd_57, kd_58, kd_59, ln_47, ln_48, ln_49, ln_50, ln_51, ln_52, ln_53, ln_54, ln_55, ln_56, ln_57, ln_58, ln_59, Option.toList_some, Option.toList_none, List.cons_append, List.nil_append, true_and, and_true, if_true, if_false, true_or, or_true, Nat.reduceAdd, Int.reduceAdd, Bool.false_eq_true, tn_0, tn_1, tn_2, tn_3, tn_4, tn_5, tn_6, tn_7]
      refine J_callVr (ci := 6) (stands_ok k n _ hwa hk) k_X6_cutFor_36 o_X6_stands rfl rfl rfl rfl (by decide) rfl (Nat.le_of_ble_eq_true rfl) ?_
      rw [asd47]
      by_cases hs : sd (M.1 47) k = true
      · rw [if_pos hs]
        refine J_blk a_X6_cutFor_39 ?_
        simp only [b_X6_cutFor_39, w_if_eq, w_nil, kd_46, kd_47, kd_48, kd_49, kd_50, kd_51, kd_52, kd_53, kd_54, kd_55, kd_56, kd_57, kd_58, kd_59, ln_47, ln_48, ln_49, ln_50, ln_51, ln_52, ln_53, ln_54, ln_55, ln_56, ln_57, ln_58, ln_59, Option.toList_some, Option.toList_none, List.cons_append, List.nil_append, true_and, and_true, if_true, if_false, true_or, or_true, Nat.reduceAdd, Int.reduceAdd, Bool.false_eq_true, tn_0, tn_1, tn_2, tn_3, tn_4, tn_5, tn_6, tn_7]
        refine ⟨fun h => absurd h (by decide), fun _ => ?_⟩
        refine J_blk a_X6_cutFor_42 ?_
        simp only [b_X6_cutFor_42, w_aload_n0, w_iload_n1, w_iconst_1, w_iload4, w_ishl, w_nil, kd_46, kd_47, kd_48, kd_49, kd_50, kd_51, kd_52, kd_53, kd_54, kd_55, kd_56, kd_57, kd_58, kd_59, ln_47, ln_48, ln_49, ln_50, ln_51, ln_52, ln_53, ln_54, ln_55, ln_56, ln_57, ln_58, ln_59, Option.toList_some, Option.toList_none, List.cons_append, List.nil_append, true_and, and_true, if_true, if_false, true_or, or_true, Nat.reduceAdd, Int.reduceAdd, Bool.false_eq_true, tn_0, tn_1, tn_2, tn_3, tn_4, tn_5, tn_6, tn_7]
        refine J_callVr (ci := 6) (harvestBy_ok n y _ _ hwa (by omega)) k_X6_cutFor_48 o_X6_harvestBy rfl rfl rfl rfl (by decide) rfl (Nat.le_of_ble_eq_true rfl) ?_
        rw [asd_asd, asd47]
        refine J_blk a_X6_cutFor_51 ?_
        simp only [b_X6_cutFor_51, w_goto, kd_46, kd_47, kd_48, kd_49, kd_50, kd_51, kd_52, kd_53, kd_54, kd_55, kd_56, kd_57, kd_58, kd_59, ln_47, ln_48, ln_49, ln_50, ln_51, ln_52, ln_53, ln_54, ln_55, ln_56, ln_57, ln_58, ln_59, Option.toList_some, Option.toList_none, List.cons_append, List.nil_append, true_and, and_true, if_true, if_false, true_or, or_true, Nat.reduceAdd, Int.reduceAdd, Bool.false_eq_true, tn_0, tn_1, tn_2, tn_3, tn_4, tn_5, tn_6, tn_7]
        exact done _ (by unfold cfV; rw [if_pos hs])
      · rw [if_neg hs]
        refine J_blk a_X6_cutFor_39 ?_
        simp only [b_X6_cutFor_39, w_if_eq, w_nil, kd_46, kd_47, kd_48, kd_49, kd_50, kd_51, kd_52, kd_53, kd_54, kd_55, kd_56, kd_57, kd_58, kd_59, ln_47, ln_48, ln_49, ln_50, ln_51, ln_52, ln_53, ln_54, ln_55, ln_56, ln_57, ln_58, ln_59, Option.toList_some, Option.toList_none, List.cons_append, List.nil_append, true_and, and_true, if_true, if_false, true_or, or_true, Nat.reduceAdd, Int.reduceAdd, Bool.false_eq_true, tn_0, tn_1, tn_2, tn_3, tn_4, tn_5, tn_6, tn_7]
        refine ⟨fun _ => ?_, fun h => absurd trivial h⟩
        refine J_blk a_X6_cutFor_54 ?_
        simp only [b_X6_cutFor_54, w_iconst_m1, w_nil, kd_46, kd_47, kd_48, kd_49, kd_50, kd_51, kd_52, kd_53, kd_54, kd_55, kd_56, kd_57, kd_58, kd_59, ln_47, ln_48, ln_49, ln_50, ln_51, ln_52, ln_53, ln_54, ln_55, ln_56, ln_57, ln_58, ln_59, Option.toList_some, Option.toList_none, List.cons_append, List.nil_append, true_and, and_true, if_true, if_false, true_or, or_true, Nat.reduceAdd, Int.reduceAdd, Bool.false_eq_true, tn_0, tn_1, tn_2, tn_3, tn_4, tn_5, tn_6, tn_7]
        exact done _ (by unfold cfV; rw [if_neg hs])
  have l0 := loop 0 (by omega) none
  have go : J 5 mX6_cutFor 9 [some (.ref 46), some (.int (nI y)), none, none, none, none] [] M (Rt (some (.int (mxS (cfV (M.1 47) n y) (-3) (hvS (M.1 47) n y) n).1)) (asd M)) := by
    refine J_blk a_X6_cutFor_9 ?_
    simp only [b_X6_cutFor_9, w_aload_n0, w_iload_n1, w_iconst_0, w_nil, kd_46, kd_47, kd_48, kd_49, kd_50, kd_51, kd_52, kd_53, kd_54, kd_55, kd_56, kd_57, kd_58, kd_59, ln_47, ln_48, ln_49, ln_50, ln_51, ln_52, ln_53, ln_54, ln_55, ln_56, ln_57, ln_58, ln_59, Option.toList_some, Option.toList_none, List.cons_append, List.nil_append, true_and, and_true, if_true, if_false, true_or, or_true, Nat.reduceAdd, Int.reduceAdd, Bool.false_eq_true, tn_0, tn_1, tn_2, tn_3, tn_4, tn_5, tn_6, tn_7]
    refine J_callVr (ci := 6) (harvestBy_ok n y 0 M hw (by omega)) k_X6_cutFor_12 o_X6_harvestBy rfl rfl rfl rfl (by decide) rfl (Nat.le_of_ble_eq_true rfl) ?_
    rw [ctR_zero]
    refine J_blk a_X6_cutFor_15 ?_
    simp only [b_X6_cutFor_15, w_istore2, nl_2n, nl_2i, nl_2a, w_bipush, ci_m3, w_istore3, nl_3n, nl_3i, nl_3a, w_iconst_0, w_istore4, nl_4n, nl_4i, nl_4a, w_nil, kd_46, kd_47, kd_48, kd_49, kd_50, kd_51, kd_52, kd_53, kd_54, kd_55, kd_56, kd_57, kd_58, kd_59, ln_47, ln_48, ln_49, ln_50, ln_51, ln_52, ln_53, ln_54, ln_55, ln_56, ln_57, ln_58, ln_59, Option.toList_some, Option.toList_none, List.cons_append, List.nil_append, true_and, and_true, if_true, if_false, true_or, or_true, Nat.reduceAdd, Int.reduceAdd, Bool.false_eq_true, tn_0, tn_1, tn_2, tn_3, tn_4, tn_5, tn_6, tn_7]
    exact l0
  refine K_go 1 o_X6_cutFor [none, none, none, none] rfl (Nat.le_of_ble_eq_true rfl) ?_
  simp only [lvA_i, lvA_a, lvA_l, lvA_nil, List.cons_append, List.nil_append]
  refine J_blk a_X6_cutFor_0 ?_
  simp only [b_X6_cutFor_0, w_iload_n1, w_nil, kd_46, kd_47, kd_48, kd_49, kd_50, kd_51, kd_52, kd_53, kd_54, kd_55, kd_56, kd_57, kd_58, kd_59, ln_47, ln_48, ln_49, ln_50, ln_51, ln_52, ln_53, ln_54, ln_55, ln_56, ln_57, ln_58, ln_59, Option.toList_some, Option.toList_none, List.cons_append, List.nil_append, true_and, and_true, if_true, if_false, true_or, or_true, Nat.reduceAdd, Int.reduceAdd, Bool.false_eq_true, tn_0, tn_1, tn_2, tn_3, tn_4, tn_5, tn_6, tn_7]
  refine J_callSr (isShort_ok _ _) k_X6_cutFor_1 o_X6_isShort rfl (by decide) rfl (Nat.le_of_ble_eq_true rfl) ?_
  rw [if_pos (by first | exact h1 | exact h2)]
  refine J_blk a_X6_cutFor_4 ?_
  simp only [b_X6_cutFor_4, w_if_ne, w_nil, kd_46, kd_47, kd_48, kd_49, kd_50, kd_51, kd_52, kd_53, kd_54, kd_55, kd_56, kd_57, kd_58, kd_59, ln_47, ln_48, ln_49, ln_50, ln_51, ln_52, ln_53, ln_54, ln_55, ln_56, ln_57, ln_58, ln_59, Option.toList_some, Option.toList_none, List.cons_append, List.nil_append, true_and, and_true, if_true, if_false, true_or, or_true, Nat.reduceAdd, Int.reduceAdd, Bool.false_eq_true, tn_0, tn_1, tn_2, tn_3, tn_4, tn_5, tn_6, tn_7]
  refine ⟨fun c3 => ?_, fun c3 => ?_⟩
  · first
      | exact absurd c3 (by decide)
      | (exact go)
  · first
      | exact absurd c3 (by decide)
      | (refine J_blk a_X6_cutFor_7 ?_
         simp only [b_X6_cutFor_7, w_iconst_m1, w_ireti, kd_46, kd_47, kd_48, kd_49, kd_50, kd_51, kd_52, kd_53, kd_54, kd_55, kd_56, kd_57, kd_58, kd_59, ln_47, ln_48, ln_49, ln_50, ln_51, ln_52, ln_53, ln_54, ln_55, ln_56, ln_57, ln_58, ln_59, Option.toList_some, Option.toList_none, List.cons_append, List.nil_append, true_and, and_true, if_true, if_false, true_or, or_true, Nat.reduceAdd, Int.reduceAdd, Bool.false_eq_true, tn_0, tn_1, tn_2, tn_3, tn_4, tn_5, tn_6, tn_7]
         first | exact ⟨rfl, rfl⟩ | (simp_all [Rt]))
def kfV (s : Nat → Int32) (n o y : Nat) (k : Nat) : Int32 := hvS (upd s (8 + 6 * o) (nI k)) n y
theorem upd_upd (s : Nat → Int32) (j : Nat) (v w : Int32) : upd (upd s j v) j w = upd s j w := by
  funext i
  simp only [upd]
  split <;> rfl
theorem upd_self (s : Nat → Int32) (j : Nat) : upd s j (s j) = s := by
  funext i
  simp only [upd]
  split
  · next h => rw [h]
  · rfl
theorem mkindFor_t (n o y : Nat) (M : Mm) (hw : WF (M.1 47) n) (hj : o < n) (hy : 1 ≤ y) (hy2 : y ≤ 20) : K 5 mX6_kindFor [.ref 46, .int (nI o), .int (nI y)] M (Rs (some (.int (mxS (kfV (M.1 47) n o y) 0 (-1) 6).1)) M) := by
  have h0 := hw.1
  have h8 := hw.2.1
  have ho := ok1 hj (by omega)
  have h1 : 1 ≤ nI y ∧ nI y ≤ 20 := ok3 (m := 20) hy hy2 (by decide)
  have t0 : (nI (8 + 6 * o)).toNatClampNeg = 8 + 6 * o := nI_clamp (by omega)
  have loop : ∀ k, k ≤ 6 → ∀ (g : Nat → Int32) (w : Int32) (z : Option Value), J 5 mX6_kindFor 42 [some (.ref 46), some (.int (nI o)), some (.int (nI y)), some (.int (nI (8 + 6 * o))), some (.int (M.1 47 (8 + 6 * o))), some (.int (mxS (kfV (M.1 47) n o y) 0 (-1) k).1), some (.int (mxS (kfV (M.1 47) n o y) 0 (-1) k).2), some (.int (nI k)), z] [] (Mg M g (upd (M.1 47) (8 + 6 * o) w)) (Rs (some (.int (mxS (kfV (M.1 47) n o y) 0 (-1) 6).1)) M) := by
    refine down 6 ?_ ?_
    · intro g w z
      refine J_blk a_X6_kindFor_42 ?_
      simp only [b_X6_kindFor_42, w_iload7, w_iconst_5, w_icmp_gt, w_nil, kd_46, kd_47, kd_48, kd_49, kd_50, kd_51, kd_52, kd_53, kd_54, kd_55, kd_56, kd_57, kd_58, kd_59, ln_47, ln_48, ln_49, ln_50, ln_51, ln_52, ln_53, ln_54, ln_55, ln_56, ln_57, ln_58, ln_59, Option.toList_some, Option.toList_none, List.cons_append, List.nil_append, true_and, and_true, if_true, if_false, true_or, or_true, Nat.reduceAdd, Int.reduceAdd, Bool.false_eq_true, tn_0, tn_1, tn_2, tn_3, tn_4, tn_5, tn_6, tn_7]
      refine ⟨fun _ => ?_, fun h => absurd (show (5 : Int32) < nI 6 by decide) h⟩
      refine J_blk a_X6_kindFor_102 ?_
      simp only [b_X6_kindFor_102, w_aload_n0, w_getf6, ne0_1, w_iload_n3, w_iload4, w_iast, w_iload5, w_ireti, kd_46, kd_47, kd_48, kd_49, kd_50, kd_51, kd_52, kd_53, kd_54, kd_55, kd_56, kd_57, kd_58, kd_59, ln_47, ln_48, ln_49, ln_50, ln_51, ln_52, ln_53, ln_54, ln_55, ln_56, ln_57, ln_58, ln_59, Option.toList_some, Option.toList_none, List.cons_append, List.nil_append, true_and, and_true, if_true, if_false, true_or, or_true, Nat.reduceAdd, Int.reduceAdd, Bool.false_eq_true, tn_0, tn_1, tn_2, tn_3, tn_4, tn_5, tn_6, tn_7, t0, Mg_u1, upd_upd, upd_self]
      exact ⟨vinN (by omega) (by decide), rfl, g, Mg_self M g⟩
    · intro k hk ih g w z
      have e5 : (5 < nI k) = (5 < k) := propext (nI_ltI (a := 5) (by decide) (by omega))
      refine J_blk a_X6_kindFor_42 ?_
      simp only [b_X6_kindFor_42, w_iload7, w_iconst_5, w_icmp_gt, w_nil, kd_46, kd_47, kd_48, kd_49, kd_50, kd_51, kd_52, kd_53, kd_54, kd_55, kd_56, kd_57, kd_58, kd_59, ln_47, ln_48, ln_49, ln_50, ln_51, ln_52, ln_53, ln_54, ln_55, ln_56, ln_57, ln_58, ln_59, Option.toList_some, Option.toList_none, List.cons_append, List.nil_append, true_and, and_true, if_true, if_false, true_or, or_true, Nat.reduceAdd, Int.reduceAdd, Bool.false_eq_true, tn_0, tn_1, tn_2, tn_3, tn_4, tn_5, tn_6, tn_7, e5]
      refine ⟨fun h => absurd h (by omega), fun _ => ?_⟩
      refine J_blk a_X6_kindFor_48 ?_
      simp only [b_X6_kindFor_48, w_aload_n0, w_getf6, ne0_1, w_iload_n3, w_iload7, w_iast, w_iload_n2, w_iconst_0, w_nil, kd_46, kd_47, kd_48, kd_49, kd_50, kd_51, kd_52, kd_53, kd_54, kd_55, kd_56, kd_57, kd_58, kd_59, ln_47, ln_48, ln_49, ln_50, ln_51, ln_52, ln_53, ln_54, ln_55, ln_56, ln_57, ln_58, ln_59, Option.toList_some, Option.toList_none, List.cons_append, List.nil_append, true_and, and_true, if_true, if_false, true_or, or_true, Nat.reduceAdd, Int.reduceAdd, Bool.false_eq_true, tn_0, tn_1, tn_2, tn_3, tn_4, tn_5, tn_6, tn_7, t0, Mg_u1, upd_upd]
      refine ⟨vinN (by omega) (by decide), ?_⟩
      refine J_callVr (ci := 6) (harvestBy_ok n y 0 _ (by rw [Mg47]; exact WF_kind hw (by omega)) (by omega)) k_X6_kindFor_59 o_X6_harvestBy rfl rfl rfl rfl (by decide) rfl (Nat.le_of_ble_eq_true rfl) ?_
      rw [Mg_asd, Mg47, ctR_zero]
      have ih' := fun g => ih g (nI k) (some (.int (kfV (M.1 47) n o y k)))
      simp only [mxS] at ih'
      rw [show hvS (upd (M.1 47) (8 + 6 * o) (nI k)) n y = kfV (M.1 47) n o y k from rfl]
      generalize mxS (kfV (M.1 47) n o y) 0 (-1) k = q at *
      generalize kfV (M.1 47) n o y k = v at *
      refine J_blk a_X6_kindFor_62 ?_
      simp only [b_X6_kindFor_62, w_istore8, nl_8n, nl_8i, nl_8a, w_iload8, w_iload6, w_icmp_le, w_nil, kd_46, kd_47, kd_48, kd_49, kd_50, kd_51, kd_52, kd_53, kd_54, kd_55, kd_56, kd_57, kd_58, kd_59, ln_47, ln_48, ln_49, ln_50, ln_51, ln_52, ln_53, ln_54, ln_55, ln_56, ln_57, ln_58, ln_59, Option.toList_some, Option.toList_none, List.cons_append, List.nil_append, true_and, and_true, if_true, if_false, true_or, or_true, Nat.reduceAdd, Int.reduceAdd, Bool.false_eq_true, tn_0, tn_1, tn_2, tn_3, tn_4, tn_5, tn_6, tn_7]
      refine ⟨fun c => ?_, fun c => ?_⟩
      · rw [if_neg (Int32.not_lt.mpr c)] at ih'
        refine J_blk a_X6_kindFor_76 ?_
        simp only [b_X6_kindFor_76, w_iload5, w_nil, kd_46, kd_47, kd_48, kd_49, kd_50, kd_51, kd_52, kd_53, kd_54, kd_55, kd_56, kd_57, kd_58, kd_59, ln_47, ln_48, ln_49, ln_50, ln_51, ln_52, ln_53, ln_54, ln_55, ln_56, ln_57, ln_58, ln_59, Option.toList_some, Option.toList_none, List.cons_append, List.nil_append, true_and, and_true, if_true, if_false, true_or, or_true, Nat.reduceAdd, Int.reduceAdd, Bool.false_eq_true, tn_0, tn_1, tn_2, tn_3, tn_4, tn_5, tn_6, tn_7]
        refine J_blk a_X6_kindFor_78 ?_
        simp only [b_X6_kindFor_78, w_istore5, nl_5n, nl_5i, nl_5a, w_iload8, w_iload6, w_icmp_le, w_nil, kd_46, kd_47, kd_48, kd_49, kd_50, kd_51, kd_52, kd_53, kd_54, kd_55, kd_56, kd_57, kd_58, kd_59, ln_47, ln_48, ln_49, ln_50, ln_51, ln_52, ln_53, ln_54, ln_55, ln_56, ln_57, ln_58, ln_59, Option.toList_some, Option.toList_none, List.cons_append, List.nil_append, true_and, and_true, if_true, if_false, true_or, or_true, Nat.reduceAdd, Int.reduceAdd, Bool.false_eq_true, tn_0, tn_1, tn_2, tn_3, tn_4, tn_5, tn_6, tn_7]
        refine ⟨fun _ => ?_, fun h => absurd c h⟩
        refine J_blk a_X6_kindFor_92 ?_
        simp only [b_X6_kindFor_92, w_iload6, w_nil, kd_46, kd_47, kd_48, kd_49, kd_50, kd_51, kd_52, kd_53, kd_54, kd_55, kd_56, kd_57, kd_58, kd_59, ln_47, ln_48, ln_49, ln_50, ln_51, ln_52, ln_53, ln_54, ln_55, ln_56, ln_57, ln_58, ln_59, Option.toList_some, Option.toList_none, List.cons_append, List.nil_append, true_and, and_true, if_true, if_false, true_or, or_true, Nat.reduceAdd, Int.reduceAdd, Bool.false_eq_true, tn_0, tn_1, tn_2, tn_3, tn_4, tn_5, tn_6, tn_7, nI_1]
        refine J_blk a_X6_kindFor_94 ?_
        simp only [b_X6_kindFor_94, w_istore6, nl_6n, nl_6i, nl_6a, w_iinc7, nl_7n, nl_7i, nl_7a, ci_1, w_goto, kd_46, kd_47, kd_48, kd_49, kd_50, kd_51, kd_52, kd_53, kd_54, kd_55, kd_56, kd_57, kd_58, kd_59, ln_47, ln_48, ln_49, ln_50, ln_51, ln_52, ln_53, ln_54, ln_55, ln_56, ln_57, ln_58, ln_59, Option.toList_some, Option.toList_none, List.cons_append, List.nil_append, true_and, and_true, if_true, if_false, true_or, or_true, Nat.reduceAdd, Int.reduceAdd, Bool.false_eq_true, tn_0, tn_1, tn_2, tn_3, tn_4, tn_5, tn_6, tn_7, nI_1]
        exact ih' _
      · rw [if_pos (Int32.not_le.mp c)] at ih'
        refine J_blk a_X6_kindFor_71 ?_
        simp only [b_X6_kindFor_71, w_iload7, w_goto, kd_46, kd_47, kd_48, kd_49, kd_50, kd_51, kd_52, kd_53, kd_54, kd_55, kd_56, kd_57, kd_58, kd_59, ln_47, ln_48, ln_49, ln_50, ln_51, ln_52, ln_53, ln_54, ln_55, ln_56, ln_57, ln_58, ln_59, Option.toList_some, Option.toList_none, List.cons_append, List.nil_append, true_and, and_true, if_true, if_false, true_or, or_true, Nat.reduceAdd, Int.reduceAdd, Bool.false_eq_true, tn_0, tn_1, tn_2, tn_3, tn_4, tn_5, tn_6, tn_7]
        refine J_blk a_X6_kindFor_78 ?_
        simp only [b_X6_kindFor_78, w_istore5, nl_5n, nl_5i, nl_5a, w_iload8, w_iload6, w_icmp_le, w_nil, kd_46, kd_47, kd_48, kd_49, kd_50, kd_51, kd_52, kd_53, kd_54, kd_55, kd_56, kd_57, kd_58, kd_59, ln_47, ln_48, ln_49, ln_50, ln_51, ln_52, ln_53, ln_54, ln_55, ln_56, ln_57, ln_58, ln_59, Option.toList_some, Option.toList_none, List.cons_append, List.nil_append, true_and, and_true, if_true, if_false, true_or, or_true, Nat.reduceAdd, Int.reduceAdd, Bool.false_eq_true, tn_0, tn_1, tn_2, tn_3, tn_4, tn_5, tn_6, tn_7]
        refine ⟨fun h => absurd h c, fun _ => ?_⟩
        refine J_blk a_X6_kindFor_87 ?_
        simp only [b_X6_kindFor_87, w_iload8, w_goto, kd_46, kd_47, kd_48, kd_49, kd_50, kd_51, kd_52, kd_53, kd_54, kd_55, kd_56, kd_57, kd_58, kd_59, ln_47, ln_48, ln_49, ln_50, ln_51, ln_52, ln_53, ln_54, ln_55, ln_56, ln_57, ln_58, ln_59, Option.toList_some, Option.toList_none, List.cons_append, List.nil_append, true_and, and_true, if_true, if_false, true_or, or_true, Nat.reduceAdd, Int.reduceAdd, Bool.false_eq_true, tn_0, tn_1, tn_2, tn_3, tn_4, tn_5, tn_6, tn_7, nI_1]
        refine J_blk a_X6_kindFor_94 ?_
        simp only [b_X6_kindFor_94, w_istore6, nl_6n, nl_6i, nl_6a, w_iinc7, nl_7n, nl_7i, nl_7a, ci_1, w_goto, kd_46, kd_47, kd_48, kd_49, kd_50, kd_51, kd_52, kd_53, kd_54, kd_55, kd_56, kd_57, kd_58, kd_59, ln_47, ln_48, ln_49, ln_50, ln_51, ln_52, ln_53, ln_54, ln_55, ln_56, ln_57, ln_58, ln_59, Option.toList_some, Option.toList_none, List.cons_append, List.nil_append, true_and, and_true, if_true, if_false, true_or, or_true, Nat.reduceAdd, Int.reduceAdd, Bool.false_eq_true, tn_0, tn_1, tn_2, tn_3, tn_4, tn_5, tn_6, tn_7, nI_1]
        exact ih' _
  have l0 := loop 0 (by omega) (M.1 49) (M.1 47 (8 + 6 * o)) none
  rw [upd_self, ← Mg_ini] at l0
  refine K_go 2 o_X6_kindFor [none, none, none, none, none, none] rfl (Nat.le_of_ble_eq_true rfl) ?_
  simp only [lvA_i, lvA_a, lvA_l, lvA_nil, List.cons_append, List.nil_append]
  refine J_blk a_X6_kindFor_0 ?_
  simp only [b_X6_kindFor_0, w_aload_n0, w_iload_n1, w_nil, kd_46, kd_47, kd_48, kd_49, kd_50, kd_51, kd_52, kd_53, kd_54, kd_55, kd_56, kd_57, kd_58, kd_59, ln_47, ln_48, ln_49, ln_50, ln_51, ln_52, ln_53, ln_54, ln_55, ln_56, ln_57, ln_58, ln_59, Option.toList_some, Option.toList_none, List.cons_append, List.nil_append, true_and, and_true, if_true, if_false, true_or, or_true, Nat.reduceAdd, Int.reduceAdd, Bool.false_eq_true, tn_0, tn_1, tn_2, tn_3, tn_4, tn_5, tn_6, tn_7, ix0, t0]
  refine J_callVr (ci := 6) (isOne_ok _ _) k_X6_kindFor_2 o_X6_isOne rfl rfl rfl rfl (by decide) rfl (Nat.le_of_ble_eq_true rfl) ?_
  rw [h0, if_pos ho]
  refine J_blk a_X6_kindFor_5 ?_
  simp only [b_X6_kindFor_5, w_if_eq, w_nil, kd_46, kd_47, kd_48, kd_49, kd_50, kd_51, kd_52, kd_53, kd_54, kd_55, kd_56, kd_57, kd_58, kd_59, ln_47, ln_48, ln_49, ln_50, ln_51, ln_52, ln_53, ln_54, ln_55, ln_56, ln_57, ln_58, ln_59, Option.toList_some, Option.toList_none, List.cons_append, List.nil_append, true_and, and_true, if_true, if_false, true_or, or_true, Nat.reduceAdd, Int.reduceAdd, Bool.false_eq_true, tn_0, tn_1, tn_2, tn_3, tn_4, tn_5, tn_6, tn_7, ix0, t0]
  refine ⟨fun c4 => ?_, fun c4 => ?_⟩
  · first
      | exact absurd c4 (by decide)
      | (refine J_blk a_X6_kindFor_15 ?_
         simp only [b_X6_kindFor_15, w_iconst_m1, w_ireti, kd_46, kd_47, kd_48, kd_49, kd_50, kd_51, kd_52, kd_53, kd_54, kd_55, kd_56, kd_57, kd_58, kd_59, ln_47, ln_48, ln_49, ln_50, ln_51, ln_52, ln_53, ln_54, ln_55, ln_56, ln_57, ln_58, ln_59, Option.toList_some, Option.toList_none, List.cons_append, List.nil_append, true_and, and_true, if_true, if_false, true_or, or_true, Nat.reduceAdd, Int.reduceAdd, Bool.false_eq_true, tn_0, tn_1, tn_2, tn_3, tn_4, tn_5, tn_6, tn_7, ix0, t0]
         first | exact ⟨rfl, rfl⟩ | (simp_all [Rt]))
  · first
      | exact absurd c4 (by decide)
      | (refine J_blk a_X6_kindFor_8 ?_
         simp only [b_X6_kindFor_8, w_iload_n2, w_nil, kd_46, kd_47, kd_48, kd_49, kd_50, kd_51, kd_52, kd_53, kd_54, kd_55, kd_56, kd_57, kd_58, kd_59, ln_47, ln_48, ln_49, ln_50, ln_51, ln_52, ln_53, ln_54, ln_55, ln_56, ln_57, ln_58, ln_59, Option.toList_some, Option.toList_none, List.cons_append, List.nil_append, true_and, and_true, if_true, if_false, true_or, or_true, Nat.reduceAdd, Int.reduceAdd, Bool.false_eq_true, tn_0, tn_1, tn_2, tn_3, tn_4, tn_5, tn_6, tn_7, ix0, t0]
         refine J_callSr (isShort_ok _ _) k_X6_kindFor_9 o_X6_isShort rfl (by decide) rfl (Nat.le_of_ble_eq_true rfl) ?_
         rw [if_pos (by first | exact h1 | exact h2)]
         refine J_blk a_X6_kindFor_12 ?_
         simp only [b_X6_kindFor_12, w_if_ne, w_nil, kd_46, kd_47, kd_48, kd_49, kd_50, kd_51, kd_52, kd_53, kd_54, kd_55, kd_56, kd_57, kd_58, kd_59, ln_47, ln_48, ln_49, ln_50, ln_51, ln_52, ln_53, ln_54, ln_55, ln_56, ln_57, ln_58, ln_59, Option.toList_some, Option.toList_none, List.cons_append, List.nil_append, true_and, and_true, if_true, if_false, true_or, or_true, Nat.reduceAdd, Int.reduceAdd, Bool.false_eq_true, tn_0, tn_1, tn_2, tn_3, tn_4, tn_5, tn_6, tn_7, ix0, t0]
         refine ⟨fun c5 => ?_, fun c5 => ?_⟩
         · first
             | exact absurd c5 (by decide)
             | (refine J_blk a_X6_kindFor_17 ?_
                simp only [b_X6_kindFor_17, w_bipush, ci_8, ci_6, w_iload_n1, w_imul, w_iadd, w_istore3, nl_3n, nl_3i, nl_3a, w_aload_n0, w_getf6, ne0_1, w_iload_n3, w_iald, w_istore4, nl_4n, nl_4i, nl_4a, w_iconst_0, w_istore5, nl_5n, nl_5i, nl_5a, w_iconst_m1, w_istore6, nl_6n, nl_6i, nl_6a, w_istore7, nl_7n, nl_7i, nl_7a, w_nil, kd_46, kd_47, kd_48, kd_49, kd_50, kd_51, kd_52, kd_53, kd_54, kd_55, kd_56, kd_57, kd_58, kd_59, ln_47, ln_48, ln_49, ln_50, ln_51, ln_52, ln_53, ln_54, ln_55, ln_56, ln_57, ln_58, ln_59, Option.toList_some, Option.toList_none, List.cons_append, List.nil_append, true_and, and_true, if_true, if_false, true_or, or_true, Nat.reduceAdd, Int.reduceAdd, Bool.false_eq_true, tn_0, tn_1, tn_2, tn_3, tn_4, tn_5, tn_6, tn_7, ix0, t0]
                refine ⟨(vinN (by omega) (by decide)), ?_⟩
                exact l0)
         · first
             | exact absurd c5 (by decide)
             | (refine J_blk a_X6_kindFor_15 ?_
                simp only [b_X6_kindFor_15, w_iconst_m1, w_ireti, kd_46, kd_47, kd_48, kd_49, kd_50, kd_51, kd_52, kd_53, kd_54, kd_55, kd_56, kd_57, kd_58, kd_59, ln_47, ln_48, ln_49, ln_50, ln_51, ln_52, ln_53, ln_54, ln_55, ln_56, ln_57, ln_58, ln_59, Option.toList_some, Option.toList_none, List.cons_append, List.nil_append, true_and, and_true, if_true, if_false, true_or, or_true, Nat.reduceAdd, Int.reduceAdd, Bool.false_eq_true, tn_0, tn_1, tn_2, tn_3, tn_4, tn_5, tn_6, tn_7, ix0, t0]
                first | exact ⟨rfl, rfl⟩ | (simp_all [Rt])))
def ffV (s : Nat → Int32) (n o y : Nat) (v : Int32) (k : Nat) : Bool := decide (v ≤ hvS (upd s (8 + 6 * o + 2) (nI k)) n y)
theorem mforceFor_t (n o y : Nat) (v : Int32) (M : Mm) (hw : WF (M.1 47) n) (hj : o < n) (hy : 1 ≤ y) (hy2 : y ≤ 20) (h2 : 0 ≤ v ∧ v ≤ 9999) : K 5 mX6_forceFor [.ref 46, .int (nI o), .int (nI y), .int v] M (Rs (some (.int (fst1 (ffV (M.1 47) n o y v) 10 0))) M) := by
  have h0 := hw.1
  have h8 := hw.2.1
  have ho := ok1 hj (by omega)
  have h1 : 1 ≤ nI y ∧ nI y ≤ 20 := ok3 (m := 20) hy hy2 (by decide)
  have t2 : (nI (8 + 6 * o + 2)).toNatClampNeg = 8 + 6 * o + 2 := nI_clamp (by omega)
  have last : ∀ (g : Nat → Int32) (w b a : Int32), b = a → ∀ k : Int32, J 5 mX6_forceFor 102 [some (.ref 46), some (.int (nI o)), some (.int (nI y)), some (.int v), some (.int (nI (8 + 6 * o + 2))), some (.int (M.1 47 (8 + 6 * o + 2))), some (.int b), some (.int k)] [] (Mg M g (upd (M.1 47) (8 + 6 * o + 2) w)) (Rs (some (.int a)) M) := by
    intro g w b a hb k
    refine J_blk a_X6_forceFor_102 ?_
    simp only [b_X6_forceFor_102, w_aload_n0, w_getf6, ne0_1, w_iload4, w_iload5, w_iast, w_iload6, w_ireti, kd_46, kd_47, kd_48, kd_49, kd_50, kd_51, kd_52, kd_53, kd_54, kd_55, kd_56, kd_57, kd_58, kd_59, ln_47, ln_48, ln_49, ln_50, ln_51, ln_52, ln_53, ln_54, ln_55, ln_56, ln_57, ln_58, ln_59, Option.toList_some, Option.toList_none, List.cons_append, List.nil_append, true_and, and_true, if_true, if_false, true_or, or_true, Nat.reduceAdd, Int.reduceAdd, Bool.false_eq_true, tn_0, tn_1, tn_2, tn_3, tn_4, tn_5, tn_6, tn_7, t2, Mg_u1, upd_upd, upd_self]
    exact ⟨vinN (by omega) (by decide), by rw [hb], g, Mg_self M g⟩
  have loop : ∀ f k, f + k = 10 → ∀ (g : Nat → Int32) (w : Int32), J 5 mX6_forceFor 56 [some (.ref 46), some (.int (nI o)), some (.int (nI y)), some (.int v), some (.int (nI (8 + 6 * o + 2))), some (.int (M.1 47 (8 + 6 * o + 2))), some (.int (-3)), some (.int (nI k))] [] (Mg M g (upd (M.1 47) (8 + 6 * o + 2) w)) (Rs (some (.int (fst1 (ffV (M.1 47) n o y v) f k))) M) := by
    intro f
    induction f with
    | zero =>
      intro k hk g w
      have : k = 10 := by omega
      subst this
      refine J_blk a_X6_forceFor_56 ?_
      simp only [b_X6_forceFor_56, w_iload7, w_bipush, ci_9, w_icmp_gt, w_nil, kd_46, kd_47, kd_48, kd_49, kd_50, kd_51, kd_52, kd_53, kd_54, kd_55, kd_56, kd_57, kd_58, kd_59, ln_47, ln_48, ln_49, ln_50, ln_51, ln_52, ln_53, ln_54, ln_55, ln_56, ln_57, ln_58, ln_59, Option.toList_some, Option.toList_none, List.cons_append, List.nil_append, true_and, and_true, if_true, if_false, true_or, or_true, Nat.reduceAdd, Int.reduceAdd, Bool.false_eq_true, tn_0, tn_1, tn_2, tn_3, tn_4, tn_5, tn_6, tn_7]
      exact ⟨fun _ => last g w _ _ rfl _, fun h => absurd (show (9 : Int32) < nI 10 by decide) h⟩
    | succ f ih =>
      intro k hk g w
      have e9 : (9 < nI k) = (9 < k) := propext (nI_ltI (a := 9) (by decide) (by omega))
      refine J_blk a_X6_forceFor_56 ?_
      simp only [b_X6_forceFor_56, w_iload7, w_bipush, ci_9, w_icmp_gt, w_nil, kd_46, kd_47, kd_48, kd_49, kd_50, kd_51, kd_52, kd_53, kd_54, kd_55, kd_56, kd_57, kd_58, kd_59, ln_47, ln_48, ln_49, ln_50, ln_51, ln_52, ln_53, ln_54, ln_55, ln_56, ln_57, ln_58, ln_59, Option.toList_some, Option.toList_none, List.cons_append, List.nil_append, true_and, and_true, if_true, if_false, true_or, or_true, Nat.reduceAdd, Int.reduceAdd, Bool.false_eq_true, tn_0, tn_1, tn_2, tn_3, tn_4, tn_5, tn_6, tn_7, e9]
      refine ⟨fun h => absurd h (by omega), fun _ => ?_⟩
      refine J_blk a_X6_forceFor_63 ?_
      simp only [b_X6_forceFor_63, w_iload6, w_if_ge, w_nil, kd_46, kd_47, kd_48, kd_49, kd_50, kd_51, kd_52, kd_53, kd_54, kd_55, kd_56, kd_57, kd_58, kd_59, ln_47, ln_48, ln_49, ln_50, ln_51, ln_52, ln_53, ln_54, ln_55, ln_56, ln_57, ln_58, ln_59, Option.toList_some, Option.toList_none, List.cons_append, List.nil_append, true_and, and_true, if_true, if_false, true_or, or_true, Nat.reduceAdd, Int.reduceAdd, Bool.false_eq_true, tn_0, tn_1, tn_2, tn_3, tn_4, tn_5, tn_6, tn_7]
      refine ⟨fun h => absurd h (by decide), fun _ => ?_⟩
      refine J_blk a_X6_forceFor_68 ?_
      simp only [b_X6_forceFor_68, w_aload_n0, w_getf6, ne0_1, w_iload4, w_iload7, w_iast, w_iload_n2, w_iconst_0, w_nil, kd_46, kd_47, kd_48, kd_49, kd_50, kd_51, kd_52, kd_53, kd_54, kd_55, kd_56, kd_57, kd_58, kd_59, ln_47, ln_48, ln_49, ln_50, ln_51, ln_52, ln_53, ln_54, ln_55, ln_56, ln_57, ln_58, ln_59, Option.toList_some, Option.toList_none, List.cons_append, List.nil_append, true_and, and_true, if_true, if_false, true_or, or_true, Nat.reduceAdd, Int.reduceAdd, Bool.false_eq_true, tn_0, tn_1, tn_2, tn_3, tn_4, tn_5, tn_6, tn_7, t2, Mg_u1, upd_upd]
      refine ⟨vinN (by omega) (by decide), ?_⟩
      refine J_callVr (ci := 6) (harvestBy_ok n y 0 _ (by rw [Mg47]; exact WF_force hw (by omega)) (by omega)) k_X6_forceFor_80 o_X6_harvestBy rfl rfl rfl rfl (by decide) rfl (Nat.le_of_ble_eq_true rfl) ?_
      rw [Mg_asd, Mg47, ctR_zero, fst1, ffV]
      simp only [decide_eq_true_eq]
      refine J_blk a_X6_forceFor_83 ?_
      simp only [b_X6_forceFor_83, w_iload_n3, w_icmp_lt, w_nil, kd_46, kd_47, kd_48, kd_49, kd_50, kd_51, kd_52, kd_53, kd_54, kd_55, kd_56, kd_57, kd_58, kd_59, ln_47, ln_48, ln_49, ln_50, ln_51, ln_52, ln_53, ln_54, ln_55, ln_56, ln_57, ln_58, ln_59, Option.toList_some, Option.toList_none, List.cons_append, List.nil_append, true_and, and_true, if_true, if_false, true_or, or_true, Nat.reduceAdd, Int.reduceAdd, Bool.false_eq_true, tn_0, tn_1, tn_2, tn_3, tn_4, tn_5, tn_6, tn_7]
      refine ⟨fun c => ?_, fun c => ?_⟩
      · rw [if_neg (Int32.not_le.mpr c)]
        refine J_blk a_X6_forceFor_92 ?_
        simp only [b_X6_forceFor_92, w_bipush, ci_m3, w_nil, kd_46, kd_47, kd_48, kd_49, kd_50, kd_51, kd_52, kd_53, kd_54, kd_55, kd_56, kd_57, kd_58, kd_59, ln_47, ln_48, ln_49, ln_50, ln_51, ln_52, ln_53, ln_54, ln_55, ln_56, ln_57, ln_58, ln_59, Option.toList_some, Option.toList_none, List.cons_append, List.nil_append, true_and, and_true, if_true, if_false, true_or, or_true, Nat.reduceAdd, Int.reduceAdd, Bool.false_eq_true, tn_0, tn_1, tn_2, tn_3, tn_4, tn_5, tn_6, tn_7, nI_1]
        refine J_blk a_X6_forceFor_94 ?_
        simp only [b_X6_forceFor_94, w_istore6, nl_6n, nl_6i, nl_6a, w_iinc7, nl_7n, nl_7i, nl_7a, ci_1, w_goto, kd_46, kd_47, kd_48, kd_49, kd_50, kd_51, kd_52, kd_53, kd_54, kd_55, kd_56, kd_57, kd_58, kd_59, ln_47, ln_48, ln_49, ln_50, ln_51, ln_52, ln_53, ln_54, ln_55, ln_56, ln_57, ln_58, ln_59, Option.toList_some, Option.toList_none, List.cons_append, List.nil_append, true_and, and_true, if_true, if_false, true_or, or_true, Nat.reduceAdd, Int.reduceAdd, Bool.false_eq_true, tn_0, tn_1, tn_2, tn_3, tn_4, tn_5, tn_6, tn_7, nI_1]
        exact ih (k + 1) (by omega) _ _
      · rw [if_pos (Int32.not_lt.mp c)]
        refine J_blk a_X6_forceFor_87 ?_
        simp only [b_X6_forceFor_87, w_iload7, w_goto, kd_46, kd_47, kd_48, kd_49, kd_50, kd_51, kd_52, kd_53, kd_54, kd_55, kd_56, kd_57, kd_58, kd_59, ln_47, ln_48, ln_49, ln_50, ln_51, ln_52, ln_53, ln_54, ln_55, ln_56, ln_57, ln_58, ln_59, Option.toList_some, Option.toList_none, List.cons_append, List.nil_append, true_and, and_true, if_true, if_false, true_or, or_true, Nat.reduceAdd, Int.reduceAdd, Bool.false_eq_true, tn_0, tn_1, tn_2, tn_3, tn_4, tn_5, tn_6, tn_7]
        refine J_blk a_X6_forceFor_94 ?_
        simp only [b_X6_forceFor_94, w_istore6, nl_6n, nl_6i, nl_6a, w_iinc7, nl_7n, nl_7i, nl_7a, ci_1, w_goto, kd_46, kd_47, kd_48, kd_49, kd_50, kd_51, kd_52, kd_53, kd_54, kd_55, kd_56, kd_57, kd_58, kd_59, ln_47, ln_48, ln_49, ln_50, ln_51, ln_52, ln_53, ln_54, ln_55, ln_56, ln_57, ln_58, ln_59, Option.toList_some, Option.toList_none, List.cons_append, List.nil_append, true_and, and_true, if_true, if_false, true_or, or_true, Nat.reduceAdd, Int.reduceAdd, Bool.false_eq_true, tn_0, tn_1, tn_2, tn_3, tn_4, tn_5, tn_6, tn_7]
        have p0 : 0 ≤ nI k := nI_pos' (by omega)
        refine J_blk a_X6_forceFor_56 ?_
        simp only [b_X6_forceFor_56, w_iload7, w_bipush, ci_9, w_icmp_gt, w_nil, kd_46, kd_47, kd_48, kd_49, kd_50, kd_51, kd_52, kd_53, kd_54, kd_55, kd_56, kd_57, kd_58, kd_59, ln_47, ln_48, ln_49, ln_50, ln_51, ln_52, ln_53, ln_54, ln_55, ln_56, ln_57, ln_58, ln_59, Option.toList_some, Option.toList_none, List.cons_append, List.nil_append, true_and, and_true, if_true, if_false, true_or, or_true, Nat.reduceAdd, Int.reduceAdd, Bool.false_eq_true, tn_0, tn_1, tn_2, tn_3, tn_4, tn_5, tn_6, tn_7]
        refine ⟨fun _ => last _ _ _ _ rfl _, fun _ => ?_⟩
        refine J_blk a_X6_forceFor_63 ?_
        simp only [b_X6_forceFor_63, w_iload6, w_if_ge, w_nil, kd_46, kd_47, kd_48, kd_49, kd_50, kd_51, kd_52, kd_53, kd_54, kd_55, kd_56, kd_57, kd_58, kd_59, ln_47, ln_48, ln_49, ln_50, ln_51, ln_52, ln_53, ln_54, ln_55, ln_56, ln_57, ln_58, ln_59, Option.toList_some, Option.toList_none, List.cons_append, List.nil_append, true_and, and_true, if_true, if_false, true_or, or_true, Nat.reduceAdd, Int.reduceAdd, Bool.false_eq_true, tn_0, tn_1, tn_2, tn_3, tn_4, tn_5, tn_6, tn_7]
        exact ⟨fun _ => last _ _ _ _ rfl _, fun h => absurd p0 h⟩
  have l0 := loop 10 0 (by omega) (M.1 49) (M.1 47 (8 + 6 * o + 2))
  rw [upd_self, ← Mg_ini] at l0
  refine K_go 3 o_X6_forceFor [none, none, none, none] rfl (Nat.le_of_ble_eq_true rfl) ?_
  simp only [lvA_i, lvA_a, lvA_l, lvA_nil, List.cons_append, List.nil_append]
  refine J_blk a_X6_forceFor_0 ?_
  simp only [b_X6_forceFor_0, w_aload_n0, w_iload_n1, w_nil, kd_46, kd_47, kd_48, kd_49, kd_50, kd_51, kd_52, kd_53, kd_54, kd_55, kd_56, kd_57, kd_58, kd_59, ln_47, ln_48, ln_49, ln_50, ln_51, ln_52, ln_53, ln_54, ln_55, ln_56, ln_57, ln_58, ln_59, Option.toList_some, Option.toList_none, List.cons_append, List.nil_append, true_and, and_true, if_true, if_false, true_or, or_true, Nat.reduceAdd, Int.reduceAdd, Bool.false_eq_true, tn_0, tn_1, tn_2, tn_3, tn_4, tn_5, tn_6, tn_7, ix0, ad2, t2]
  refine J_callVr (ci := 6) (isOne_ok _ _) k_X6_forceFor_2 o_X6_isOne rfl rfl rfl rfl (by decide) rfl (Nat.le_of_ble_eq_true rfl) ?_
  rw [h0, if_pos ho]
  refine J_blk a_X6_forceFor_5 ?_
  simp only [b_X6_forceFor_5, w_if_eq, w_nil, kd_46, kd_47, kd_48, kd_49, kd_50, kd_51, kd_52, kd_53, kd_54, kd_55, kd_56, kd_57, kd_58, kd_59, ln_47, ln_48, ln_49, ln_50, ln_51, ln_52, ln_53, ln_54, ln_55, ln_56, ln_57, ln_58, ln_59, Option.toList_some, Option.toList_none, List.cons_append, List.nil_append, true_and, and_true, if_true, if_false, true_or, or_true, Nat.reduceAdd, Int.reduceAdd, Bool.false_eq_true, tn_0, tn_1, tn_2, tn_3, tn_4, tn_5, tn_6, tn_7, ix0, ad2, t2]
  refine ⟨fun c6 => ?_, fun c6 => ?_⟩
  · first
      | exact absurd c6 (by decide)
      | (refine J_blk a_X6_forceFor_27 ?_
         simp only [b_X6_forceFor_27, w_iconst_m1, w_ireti, kd_46, kd_47, kd_48, kd_49, kd_50, kd_51, kd_52, kd_53, kd_54, kd_55, kd_56, kd_57, kd_58, kd_59, ln_47, ln_48, ln_49, ln_50, ln_51, ln_52, ln_53, ln_54, ln_55, ln_56, ln_57, ln_58, ln_59, Option.toList_some, Option.toList_none, List.cons_append, List.nil_append, true_and, and_true, if_true, if_false, true_or, or_true, Nat.reduceAdd, Int.reduceAdd, Bool.false_eq_true, tn_0, tn_1, tn_2, tn_3, tn_4, tn_5, tn_6, tn_7, ix0, ad2, t2]
         first | exact ⟨rfl, rfl⟩ | (simp_all [Rt]))
  · first
      | exact absurd c6 (by decide)
      | (refine J_blk a_X6_forceFor_8 ?_
         simp only [b_X6_forceFor_8, w_iload_n2, w_nil, kd_46, kd_47, kd_48, kd_49, kd_50, kd_51, kd_52, kd_53, kd_54, kd_55, kd_56, kd_57, kd_58, kd_59, ln_47, ln_48, ln_49, ln_50, ln_51, ln_52, ln_53, ln_54, ln_55, ln_56, ln_57, ln_58, ln_59, Option.toList_some, Option.toList_none, List.cons_append, List.nil_append, true_and, and_true, if_true, if_false, true_or, or_true, Nat.reduceAdd, Int.reduceAdd, Bool.false_eq_true, tn_0, tn_1, tn_2, tn_3, tn_4, tn_5, tn_6, tn_7, ix0, ad2, t2]
         refine J_callSr (isShort_ok _ _) k_X6_forceFor_9 o_X6_isShort rfl (by decide) rfl (Nat.le_of_ble_eq_true rfl) ?_
         rw [if_pos (by first | exact h1 | exact h2)]
         refine J_blk a_X6_forceFor_12 ?_
         simp only [b_X6_forceFor_12, w_if_eq, w_nil, kd_46, kd_47, kd_48, kd_49, kd_50, kd_51, kd_52, kd_53, kd_54, kd_55, kd_56, kd_57, kd_58, kd_59, ln_47, ln_48, ln_49, ln_50, ln_51, ln_52, ln_53, ln_54, ln_55, ln_56, ln_57, ln_58, ln_59, Option.toList_some, Option.toList_none, List.cons_append, List.nil_append, true_and, and_true, if_true, if_false, true_or, or_true, Nat.reduceAdd, Int.reduceAdd, Bool.false_eq_true, tn_0, tn_1, tn_2, tn_3, tn_4, tn_5, tn_6, tn_7, ix0, ad2, t2]
         refine ⟨fun c7 => ?_, fun c7 => ?_⟩
         · first
             | exact absurd c7 (by decide)
             | (refine J_blk a_X6_forceFor_27 ?_
                simp only [b_X6_forceFor_27, w_iconst_m1, w_ireti, kd_46, kd_47, kd_48, kd_49, kd_50, kd_51, kd_52, kd_53, kd_54, kd_55, kd_56, kd_57, kd_58, kd_59, ln_47, ln_48, ln_49, ln_50, ln_51, ln_52, ln_53, ln_54, ln_55, ln_56, ln_57, ln_58, ln_59, Option.toList_some, Option.toList_none, List.cons_append, List.nil_append, true_and, and_true, if_true, if_false, true_or, or_true, Nat.reduceAdd, Int.reduceAdd, Bool.false_eq_true, tn_0, tn_1, tn_2, tn_3, tn_4, tn_5, tn_6, tn_7, ix0, ad2, t2]
                first | exact ⟨rfl, rfl⟩ | (simp_all [Rt]))
         · first
             | exact absurd c7 (by decide)
             | (refine J_blk a_X6_forceFor_15 ?_
                simp only [b_X6_forceFor_15, w_iload_n3, w_i2l, w_lconst_0, w_ldc2, cl_9999, w_nil, kd_46, kd_47, kd_48, kd_49, kd_50, kd_51, kd_52, kd_53, kd_54, kd_55, kd_56, kd_57, kd_58, kd_59, ln_47, ln_48, ln_49, ln_50, ln_51, ln_52, ln_53, ln_54, ln_55, ln_56, ln_57, ln_58, ln_59, Option.toList_some, Option.toList_none, List.cons_append, List.nil_append, true_and, and_true, if_true, if_false, true_or, or_true, Nat.reduceAdd, Int.reduceAdd, Bool.false_eq_true, tn_0, tn_1, tn_2, tn_3, tn_4, tn_5, tn_6, tn_7, ix0, ad2, t2]
                refine J_callSr (isIn_ok _ _ _ _) k_X6_forceFor_21 o_X6_isIn rfl (by decide) rfl (Nat.le_of_ble_eq_true rfl) ?_
                (simp only [l_le_1, l_le_2, l_le_3, l_le_5, l_le_7, l_le_8, l_le_9, l_le_10, l_le_13, l_le_20, l_le_30, l_le_60, l_le_99, l_le_9999, l_ge_0, l_ge_1, l_ge_6, l_ge_m1, i64_le]; rw [if_pos (by first | exact h1 | exact h2 | exact h3 | exact h4)])
                refine J_blk a_X6_forceFor_24 ?_
                simp only [b_X6_forceFor_24, w_if_ne, w_nil, kd_46, kd_47, kd_48, kd_49, kd_50, kd_51, kd_52, kd_53, kd_54, kd_55, kd_56, kd_57, kd_58, kd_59, ln_47, ln_48, ln_49, ln_50, ln_51, ln_52, ln_53, ln_54, ln_55, ln_56, ln_57, ln_58, ln_59, Option.toList_some, Option.toList_none, List.cons_append, List.nil_append, true_and, and_true, if_true, if_false, true_or, or_true, Nat.reduceAdd, Int.reduceAdd, Bool.false_eq_true, tn_0, tn_1, tn_2, tn_3, tn_4, tn_5, tn_6, tn_7, ix0, ad2, t2]
                refine ⟨fun c8 => ?_, fun c8 => ?_⟩
                · first
                    | exact absurd c8 (by decide)
                    | (refine J_blk a_X6_forceFor_29 ?_
                       simp only [b_X6_forceFor_29, w_bipush, ci_8, ci_6, w_iload_n1, w_imul, w_iadd, w_iconst_2, w_istore4, nl_4n, nl_4i, nl_4a, w_aload_n0, w_getf6, ne0_1, w_iload4, w_iald, w_istore5, nl_5n, nl_5i, nl_5a, ci_m3, w_istore6, nl_6n, nl_6i, nl_6a, w_iconst_0, w_istore7, nl_7n, nl_7i, nl_7a, w_nil, kd_46, kd_47, kd_48, kd_49, kd_50, kd_51, kd_52, kd_53, kd_54, kd_55, kd_56, kd_57, kd_58, kd_59, ln_47, ln_48, ln_49, ln_50, ln_51, ln_52, ln_53, ln_54, ln_55, ln_56, ln_57, ln_58, ln_59, Option.toList_some, Option.toList_none, List.cons_append, List.nil_append, true_and, and_true, if_true, if_false, true_or, or_true, Nat.reduceAdd, Int.reduceAdd, Bool.false_eq_true, tn_0, tn_1, tn_2, tn_3, tn_4, tn_5, tn_6, tn_7, ix0, ad2, t2]
                       refine ⟨(vinN (by omega) (by decide)), ?_⟩
                       exact l0)
                · first
                    | exact absurd c8 (by decide)
                    | (refine J_blk a_X6_forceFor_27 ?_
                       simp only [b_X6_forceFor_27, w_iconst_m1, w_ireti, kd_46, kd_47, kd_48, kd_49, kd_50, kd_51, kd_52, kd_53, kd_54, kd_55, kd_56, kd_57, kd_58, kd_59, ln_47, ln_48, ln_49, ln_50, ln_51, ln_52, ln_53, ln_54, ln_55, ln_56, ln_57, ln_58, ln_59, Option.toList_some, Option.toList_none, List.cons_append, List.nil_append, true_and, and_true, if_true, if_false, true_or, or_true, Nat.reduceAdd, Int.reduceAdd, Bool.false_eq_true, tn_0, tn_1, tn_2, tn_3, tn_4, tn_5, tn_6, tn_7, ix0, ad2, t2]
                       first | exact ⟨rfl, rfl⟩ | (simp_all [Rt]))))
theorem mregret_n (n o y : Nat) (M : Mm) (hw : WF (M.1 47) n) (hj : o < n) (hy : 1 ≤ y) (hy2 : y ≤ 20) (hc : ¬ (M.1 47 (8 + 6 * o + 4) = 1 ∧ ¬ 6 ≤ M.1 47 (8 + 6 * o + 5))) : K 5 mX6_regret [.ref 46, .int (nI o), .int (nI y)] M (Rt (some (.int (-3))) M) := by
  have h0 := hw.1
  have h8 := hw.2.1
  have ho := ok1 hj (by omega)
  have h1 : 1 ≤ nI y ∧ nI y ≤ 20 := ok3 (m := 20) hy hy2 (by decide)
  refine K_go 2 o_X6_regret [none, none, none] rfl (Nat.le_of_ble_eq_true rfl) ?_
  simp only [lvA_i, lvA_a, lvA_l, lvA_nil, List.cons_append, List.nil_append]
  refine J_blk a_X6_regret_0 ?_
  simp only [b_X6_regret_0, w_aload_n0, w_iload_n1, w_nil, kd_46, kd_47, kd_48, kd_49, kd_50, kd_51, kd_52, kd_53, kd_54, kd_55, kd_56, kd_57, kd_58, kd_59, ln_47, ln_48, ln_49, ln_50, ln_51, ln_52, ln_53, ln_54, ln_55, ln_56, ln_57, ln_58, ln_59, Option.toList_some, Option.toList_none, List.cons_append, List.nil_append, true_and, and_true, if_true, if_false, true_or, or_true, Nat.reduceAdd, Int.reduceAdd, Bool.false_eq_true, tn_0, tn_1, tn_2, tn_3, tn_4, tn_5, tn_6, tn_7]
  refine J_callVr (ci := 6) (isOne_ok _ _) k_X6_regret_2 o_X6_isOne rfl rfl rfl rfl (by decide) rfl (Nat.le_of_ble_eq_true rfl) ?_
  rw [h0, if_pos ho]
  refine J_blk a_X6_regret_5 ?_
  simp only [b_X6_regret_5, w_if_eq, w_nil, kd_46, kd_47, kd_48, kd_49, kd_50, kd_51, kd_52, kd_53, kd_54, kd_55, kd_56, kd_57, kd_58, kd_59, ln_47, ln_48, ln_49, ln_50, ln_51, ln_52, ln_53, ln_54, ln_55, ln_56, ln_57, ln_58, ln_59, Option.toList_some, Option.toList_none, List.cons_append, List.nil_append, true_and, and_true, if_true, if_false, true_or, or_true, Nat.reduceAdd, Int.reduceAdd, Bool.false_eq_true, tn_0, tn_1, tn_2, tn_3, tn_4, tn_5, tn_6, tn_7]
  refine ⟨fun c9 => ?_, fun c9 => ?_⟩
  · first
      | exact absurd c9 (by decide)
      | (refine J_blk a_X6_regret_15 ?_
         simp only [b_X6_regret_15, w_iconst_m1, w_ireti, kd_46, kd_47, kd_48, kd_49, kd_50, kd_51, kd_52, kd_53, kd_54, kd_55, kd_56, kd_57, kd_58, kd_59, ln_47, ln_48, ln_49, ln_50, ln_51, ln_52, ln_53, ln_54, ln_55, ln_56, ln_57, ln_58, ln_59, Option.toList_some, Option.toList_none, List.cons_append, List.nil_append, true_and, and_true, if_true, if_false, true_or, or_true, Nat.reduceAdd, Int.reduceAdd, Bool.false_eq_true, tn_0, tn_1, tn_2, tn_3, tn_4, tn_5, tn_6, tn_7]
         exact ⟨rfl, rfl⟩)
  · first
      | exact absurd c9 (by decide)
      | (refine J_blk a_X6_regret_8 ?_
         simp only [b_X6_regret_8, w_iload_n2, w_nil, kd_46, kd_47, kd_48, kd_49, kd_50, kd_51, kd_52, kd_53, kd_54, kd_55, kd_56, kd_57, kd_58, kd_59, ln_47, ln_48, ln_49, ln_50, ln_51, ln_52, ln_53, ln_54, ln_55, ln_56, ln_57, ln_58, ln_59, Option.toList_some, Option.toList_none, List.cons_append, List.nil_append, true_and, and_true, if_true, if_false, true_or, or_true, Nat.reduceAdd, Int.reduceAdd, Bool.false_eq_true, tn_0, tn_1, tn_2, tn_3, tn_4, tn_5, tn_6, tn_7]
         refine J_callSr (isShort_ok _ _) k_X6_regret_9 o_X6_isShort rfl (by decide) rfl (Nat.le_of_ble_eq_true rfl) ?_
         rw [if_pos (by first | exact h1 | exact h2)]
         refine J_blk a_X6_regret_12 ?_
         simp only [b_X6_regret_12, w_if_ne, w_nil, kd_46, kd_47, kd_48, kd_49, kd_50, kd_51, kd_52, kd_53, kd_54, kd_55, kd_56, kd_57, kd_58, kd_59, ln_47, ln_48, ln_49, ln_50, ln_51, ln_52, ln_53, ln_54, ln_55, ln_56, ln_57, ln_58, ln_59, Option.toList_some, Option.toList_none, List.cons_append, List.nil_append, true_and, and_true, if_true, if_false, true_or, or_true, Nat.reduceAdd, Int.reduceAdd, Bool.false_eq_true, tn_0, tn_1, tn_2, tn_3, tn_4, tn_5, tn_6, tn_7]
         refine ⟨fun c10 => ?_, fun c10 => ?_⟩
         · first
             | exact absurd c10 (by decide)
             | (refine J_blk a_X6_regret_17 ?_
                simp only [b_X6_regret_17, w_aload_n0, w_iload_n1, w_nil, kd_46, kd_47, kd_48, kd_49, kd_50, kd_51, kd_52, kd_53, kd_54, kd_55, kd_56, kd_57, kd_58, kd_59, ln_47, ln_48, ln_49, ln_50, ln_51, ln_52, ln_53, ln_54, ln_55, ln_56, ln_57, ln_58, ln_59, Option.toList_some, Option.toList_none, List.cons_append, List.nil_append, true_and, and_true, if_true, if_false, true_or, or_true, Nat.reduceAdd, Int.reduceAdd, Bool.false_eq_true, tn_0, tn_1, tn_2, tn_3, tn_4, tn_5, tn_6, tn_7]
                refine J_callVr (ci := 6) (mayBack_ok n o _ hw hj) k_X6_regret_19 o_X6_mayBack rfl rfl rfl rfl (by decide) rfl (Nat.le_of_ble_eq_true rfl) ?_
                rw [if_neg hc]
                refine J_blk a_X6_regret_22 ?_
                simp only [b_X6_regret_22, w_if_ne, w_nil, kd_46, kd_47, kd_48, kd_49, kd_50, kd_51, kd_52, kd_53, kd_54, kd_55, kd_56, kd_57, kd_58, kd_59, ln_47, ln_48, ln_49, ln_50, ln_51, ln_52, ln_53, ln_54, ln_55, ln_56, ln_57, ln_58, ln_59, Option.toList_some, Option.toList_none, List.cons_append, List.nil_append, true_and, and_true, if_true, if_false, true_or, or_true, Nat.reduceAdd, Int.reduceAdd, Bool.false_eq_true, tn_0, tn_1, tn_2, tn_3, tn_4, tn_5, tn_6, tn_7]
                refine ⟨fun c11 => ?_, fun c11 => ?_⟩
                · first
                    | exact absurd c11 (by decide)
                    | (exact absurd rfl (by assumption))
                · first
                    | exact absurd c11 (by decide)
                    | (refine J_blk a_X6_regret_25 ?_
                       simp only [b_X6_regret_25, w_bipush, ci_m3, w_ireti, kd_46, kd_47, kd_48, kd_49, kd_50, kd_51, kd_52, kd_53, kd_54, kd_55, kd_56, kd_57, kd_58, kd_59, ln_47, ln_48, ln_49, ln_50, ln_51, ln_52, ln_53, ln_54, ln_55, ln_56, ln_57, ln_58, ln_59, Option.toList_some, Option.toList_none, List.cons_append, List.nil_append, true_and, and_true, if_true, if_false, true_or, or_true, Nat.reduceAdd, Int.reduceAdd, Bool.false_eq_true, tn_0, tn_1, tn_2, tn_3, tn_4, tn_5, tn_6, tn_7]
                       exact ⟨rfl, rfl⟩))
         · first
             | exact absurd c10 (by decide)
             | (refine J_blk a_X6_regret_15 ?_
                simp only [b_X6_regret_15, w_iconst_m1, w_ireti, kd_46, kd_47, kd_48, kd_49, kd_50, kd_51, kd_52, kd_53, kd_54, kd_55, kd_56, kd_57, kd_58, kd_59, ln_47, ln_48, ln_49, ln_50, ln_51, ln_52, ln_53, ln_54, ln_55, ln_56, ln_57, ln_58, ln_59, Option.toList_some, Option.toList_none, List.cons_append, List.nil_append, true_and, and_true, if_true, if_false, true_or, or_true, Nat.reduceAdd, Int.reduceAdd, Bool.false_eq_true, tn_0, tn_1, tn_2, tn_3, tn_4, tn_5, tn_6, tn_7]
                exact ⟨rfl, rfl⟩))
theorem mregret_t (n o y : Nat) (M : Mm) (hw : WF (M.1 47) n) (hj : o < n) (hy : 1 ≤ y) (hy2 : y ≤ 20) (hc : M.1 47 (8 + 6 * o + 4) = 1 ∧ ¬ 6 ≤ M.1 47 (8 + 6 * o + 5)) : K 5 mX6_regret [.ref 46, .int (nI o), .int (nI y)] M (Rs (some (.int (10000 + (hvS (cbR (M.1 47) o) n y - hvS (M.1 47) n y)))) M) := by
  have h0 := hw.1
  have h8 := hw.2.1
  have ho := ok1 hj (by omega)
  have h1 : 1 ≤ nI y ∧ nI y ≤ 20 := ok3 (m := 20) hy hy2 (by decide)
  have t4 : (nI (8 + 6 * o + 4)).toNatClampNeg = 8 + 6 * o + 4 := nI_clamp (by omega)
  have t5 : (nI (8 + 6 * o + 5)).toNatClampNeg = 8 + 6 * o + 5 := nI_clamp (by omega)
  have go : J 5 mX6_regret 28 [some (.ref 46), some (.int (nI o)), some (.int (nI y)), none, none, none] [] M (Rs (some (.int (10000 + (hvS (cbR (M.1 47) o) n y - hvS (M.1 47) n y)))) M) := by
    refine J_blk a_X6_regret_28 ?_
    simp only [b_X6_regret_28, w_aload_n0, w_iload_n2, w_iconst_0, w_nil, kd_46, kd_47, kd_48, kd_49, kd_50, kd_51, kd_52, kd_53, kd_54, kd_55, kd_56, kd_57, kd_58, kd_59, ln_47, ln_48, ln_49, ln_50, ln_51, ln_52, ln_53, ln_54, ln_55, ln_56, ln_57, ln_58, ln_59, Option.toList_some, Option.toList_none, List.cons_append, List.nil_append, true_and, and_true, if_true, if_false, true_or, or_true, Nat.reduceAdd, Int.reduceAdd, Bool.false_eq_true, tn_0, tn_1, tn_2, tn_3, tn_4, tn_5, tn_6, tn_7]
    refine J_callVr (ci := 6) (harvestBy_ok n y 0 M hw (by omega)) k_X6_regret_31 o_X6_harvestBy rfl rfl rfl rfl (by decide) rfl (Nat.le_of_ble_eq_true rfl) ?_
    rw [ctR_zero, asd_Mg]
    refine J_blk a_X6_regret_34 ?_
    simp only [b_X6_regret_34, w_istore3, nl_3n, nl_3i, nl_3a, w_aload_n0, w_iload_n1, w_iconst_5, w_nil, kd_46, kd_47, kd_48, kd_49, kd_50, kd_51, kd_52, kd_53, kd_54, kd_55, kd_56, kd_57, kd_58, kd_59, ln_47, ln_48, ln_49, ln_50, ln_51, ln_52, ln_53, ln_54, ln_55, ln_56, ln_57, ln_58, ln_59, Option.toList_some, Option.toList_none, List.cons_append, List.nil_append, true_and, and_true, if_true, if_false, true_or, or_true, Nat.reduceAdd, Int.reduceAdd, Bool.false_eq_true, tn_0, tn_1, tn_2, tn_3, tn_4, tn_5, tn_6, tn_7]
    refine J_callVr (ci := 6) (its_ok o 5 _ (by omega)) k_X6_regret_38 o_X6_its rfl rfl rfl rfl (by decide) rfl (Nat.le_of_ble_eq_true rfl) ?_
    refine J_blk a_X6_regret_41 ?_
    simp only [b_X6_regret_41, w_istore4, nl_4n, nl_4i, nl_4a, w_aload_n0, w_iload_n1, w_nil, kd_46, kd_47, kd_48, kd_49, kd_50, kd_51, kd_52, kd_53, kd_54, kd_55, kd_56, kd_57, kd_58, kd_59, ln_47, ln_48, ln_49, ln_50, ln_51, ln_52, ln_53, ln_54, ln_55, ln_56, ln_57, ln_58, ln_59, Option.toList_some, Option.toList_none, List.cons_append, List.nil_append, true_and, and_true, if_true, if_false, true_or, or_true, Nat.reduceAdd, Int.reduceAdd, Bool.false_eq_true, tn_0, tn_1, tn_2, tn_3, tn_4, tn_5, tn_6, tn_7, Mg47]
    refine J_callVr (ci := 6) (comesBack_ok o _ (by omega)) k_X6_regret_45 o_X6_comesBack rfl rfl rfl rfl (by decide) rfl (Nat.le_of_ble_eq_true rfl) ?_
    rw [Mg47, Mg_su]
    refine J_blk a_X6_regret_48 ?_
    simp only [b_X6_regret_48, w_aload_n0, w_iload_n2, w_iconst_0, w_nil, kd_46, kd_47, kd_48, kd_49, kd_50, kd_51, kd_52, kd_53, kd_54, kd_55, kd_56, kd_57, kd_58, kd_59, ln_47, ln_48, ln_49, ln_50, ln_51, ln_52, ln_53, ln_54, ln_55, ln_56, ln_57, ln_58, ln_59, Option.toList_some, Option.toList_none, List.cons_append, List.nil_append, true_and, and_true, if_true, if_false, true_or, or_true, Nat.reduceAdd, Int.reduceAdd, Bool.false_eq_true, tn_0, tn_1, tn_2, tn_3, tn_4, tn_5, tn_6, tn_7]
    refine J_callVr (ci := 6) (harvestBy_ok n y 0 _ (by rw [Mg47]; exact WF_cb hw) (by omega)) k_X6_regret_51 o_X6_harvestBy rfl rfl rfl rfl (by decide) rfl (Nat.le_of_ble_eq_true rfl) ?_
    rw [Mg47, ctR_zero, Mg_asd]
    refine J_blk a_X6_regret_54 ?_
    simp only [b_X6_regret_54, w_iload_n3, w_isub, w_istore5, nl_5n, nl_5i, nl_5a, w_aload_n0, w_getf6, ne0_1, w_bipush, ci_8, ci_6, w_iload_n1, w_imul, w_iadd, w_iconst_4, w_iconst_1, w_iast, w_iconst_5, w_iload4, w_sipush, ci_10000, w_iload5, w_ireti, kd_46, kd_47, kd_48, kd_49, kd_50, kd_51, kd_52, kd_53, kd_54, kd_55, kd_56, kd_57, kd_58, kd_59, ln_47, ln_48, ln_49, ln_50, ln_51, ln_52, ln_53, ln_54, ln_55, ln_56, ln_57, ln_58, ln_59, Option.toList_some, Option.toList_none, List.cons_append, List.nil_append, true_and, and_true, if_true, if_false, true_or, or_true, Nat.reduceAdd, Int.reduceAdd, Bool.false_eq_true, tn_0, tn_1, tn_2, tn_3, tn_4, tn_5, tn_6, tn_7, ix0, ad4, ad5, t4, t5, Mg_u1]
    refine ⟨vinN (by omega) (by decide), vinN (by omega) (by decide), rfl, cpN (cbR (M.1 47) o) (cpN (M.1 47) (M.1 49) 56) 56, ?_⟩
    rw [← Mg_self]
    congr 1
    funext j
    unfold cbR
    simp only [upd]
    by_cases j5 : j = 8 + 6 * o + 5
    · subst j5; simp
    · by_cases j4 : j = 8 + 6 * o + 4
      · subst j4; simp [hc.1]
      · simp [j4, j5]
  refine K_go 2 o_X6_regret [none, none, none] rfl (Nat.le_of_ble_eq_true rfl) ?_
  simp only [lvA_i, lvA_a, lvA_l, lvA_nil, List.cons_append, List.nil_append]
  refine J_blk a_X6_regret_0 ?_
  simp only [b_X6_regret_0, w_aload_n0, w_iload_n1, w_nil, kd_46, kd_47, kd_48, kd_49, kd_50, kd_51, kd_52, kd_53, kd_54, kd_55, kd_56, kd_57, kd_58, kd_59, ln_47, ln_48, ln_49, ln_50, ln_51, ln_52, ln_53, ln_54, ln_55, ln_56, ln_57, ln_58, ln_59, Option.toList_some, Option.toList_none, List.cons_append, List.nil_append, true_and, and_true, if_true, if_false, true_or, or_true, Nat.reduceAdd, Int.reduceAdd, Bool.false_eq_true, tn_0, tn_1, tn_2, tn_3, tn_4, tn_5, tn_6, tn_7]
  refine J_callVr (ci := 6) (isOne_ok _ _) k_X6_regret_2 o_X6_isOne rfl rfl rfl rfl (by decide) rfl (Nat.le_of_ble_eq_true rfl) ?_
  rw [h0, if_pos ho]
  refine J_blk a_X6_regret_5 ?_
  simp only [b_X6_regret_5, w_if_eq, w_nil, kd_46, kd_47, kd_48, kd_49, kd_50, kd_51, kd_52, kd_53, kd_54, kd_55, kd_56, kd_57, kd_58, kd_59, ln_47, ln_48, ln_49, ln_50, ln_51, ln_52, ln_53, ln_54, ln_55, ln_56, ln_57, ln_58, ln_59, Option.toList_some, Option.toList_none, List.cons_append, List.nil_append, true_and, and_true, if_true, if_false, true_or, or_true, Nat.reduceAdd, Int.reduceAdd, Bool.false_eq_true, tn_0, tn_1, tn_2, tn_3, tn_4, tn_5, tn_6, tn_7]
  refine ⟨fun c12 => ?_, fun c12 => ?_⟩
  · first
      | exact absurd c12 (by decide)
      | (refine J_blk a_X6_regret_15 ?_
         simp only [b_X6_regret_15, w_iconst_m1, w_ireti, kd_46, kd_47, kd_48, kd_49, kd_50, kd_51, kd_52, kd_53, kd_54, kd_55, kd_56, kd_57, kd_58, kd_59, ln_47, ln_48, ln_49, ln_50, ln_51, ln_52, ln_53, ln_54, ln_55, ln_56, ln_57, ln_58, ln_59, Option.toList_some, Option.toList_none, List.cons_append, List.nil_append, true_and, and_true, if_true, if_false, true_or, or_true, Nat.reduceAdd, Int.reduceAdd, Bool.false_eq_true, tn_0, tn_1, tn_2, tn_3, tn_4, tn_5, tn_6, tn_7]
         first | exact ⟨rfl, rfl⟩ | (simp_all [Rt]))
  · first
      | exact absurd c12 (by decide)
      | (refine J_blk a_X6_regret_8 ?_
         simp only [b_X6_regret_8, w_iload_n2, w_nil, kd_46, kd_47, kd_48, kd_49, kd_50, kd_51, kd_52, kd_53, kd_54, kd_55, kd_56, kd_57, kd_58, kd_59, ln_47, ln_48, ln_49, ln_50, ln_51, ln_52, ln_53, ln_54, ln_55, ln_56, ln_57, ln_58, ln_59, Option.toList_some, Option.toList_none, List.cons_append, List.nil_append, true_and, and_true, if_true, if_false, true_or, or_true, Nat.reduceAdd, Int.reduceAdd, Bool.false_eq_true, tn_0, tn_1, tn_2, tn_3, tn_4, tn_5, tn_6, tn_7]
         refine J_callSr (isShort_ok _ _) k_X6_regret_9 o_X6_isShort rfl (by decide) rfl (Nat.le_of_ble_eq_true rfl) ?_
         rw [if_pos (by first | exact h1 | exact h2)]
         refine J_blk a_X6_regret_12 ?_
         simp only [b_X6_regret_12, w_if_ne, w_nil, kd_46, kd_47, kd_48, kd_49, kd_50, kd_51, kd_52, kd_53, kd_54, kd_55, kd_56, kd_57, kd_58, kd_59, ln_47, ln_48, ln_49, ln_50, ln_51, ln_52, ln_53, ln_54, ln_55, ln_56, ln_57, ln_58, ln_59, Option.toList_some, Option.toList_none, List.cons_append, List.nil_append, true_and, and_true, if_true, if_false, true_or, or_true, Nat.reduceAdd, Int.reduceAdd, Bool.false_eq_true, tn_0, tn_1, tn_2, tn_3, tn_4, tn_5, tn_6, tn_7]
         refine ⟨fun c13 => ?_, fun c13 => ?_⟩
         · first
             | exact absurd c13 (by decide)
             | (refine J_blk a_X6_regret_17 ?_
                simp only [b_X6_regret_17, w_aload_n0, w_iload_n1, w_nil, kd_46, kd_47, kd_48, kd_49, kd_50, kd_51, kd_52, kd_53, kd_54, kd_55, kd_56, kd_57, kd_58, kd_59, ln_47, ln_48, ln_49, ln_50, ln_51, ln_52, ln_53, ln_54, ln_55, ln_56, ln_57, ln_58, ln_59, Option.toList_some, Option.toList_none, List.cons_append, List.nil_append, true_and, and_true, if_true, if_false, true_or, or_true, Nat.reduceAdd, Int.reduceAdd, Bool.false_eq_true, tn_0, tn_1, tn_2, tn_3, tn_4, tn_5, tn_6, tn_7]
                refine J_callVr (ci := 6) (mayBack_ok n o _ hw hj) k_X6_regret_19 o_X6_mayBack rfl rfl rfl rfl (by decide) rfl (Nat.le_of_ble_eq_true rfl) ?_
                rw [if_pos hc]
                refine J_blk a_X6_regret_22 ?_
                simp only [b_X6_regret_22, w_if_ne, w_nil, kd_46, kd_47, kd_48, kd_49, kd_50, kd_51, kd_52, kd_53, kd_54, kd_55, kd_56, kd_57, kd_58, kd_59, ln_47, ln_48, ln_49, ln_50, ln_51, ln_52, ln_53, ln_54, ln_55, ln_56, ln_57, ln_58, ln_59, Option.toList_some, Option.toList_none, List.cons_append, List.nil_append, true_and, and_true, if_true, if_false, true_or, or_true, Nat.reduceAdd, Int.reduceAdd, Bool.false_eq_true, tn_0, tn_1, tn_2, tn_3, tn_4, tn_5, tn_6, tn_7]
                refine ⟨fun c14 => ?_, fun c14 => ?_⟩
                · first
                    | exact absurd c14 (by decide)
                    | (exact go)
                · first
                    | exact absurd c14 (by decide)
                    | (refine J_blk a_X6_regret_25 ?_
                       simp only [b_X6_regret_25, w_bipush, ci_m3, w_ireti, kd_46, kd_47, kd_48, kd_49, kd_50, kd_51, kd_52, kd_53, kd_54, kd_55, kd_56, kd_57, kd_58, kd_59, ln_47, ln_48, ln_49, ln_50, ln_51, ln_52, ln_53, ln_54, ln_55, ln_56, ln_57, ln_58, ln_59, Option.toList_some, Option.toList_none, List.cons_append, List.nil_append, true_and, and_true, if_true, if_false, true_or, or_true, Nat.reduceAdd, Int.reduceAdd, Bool.false_eq_true, tn_0, tn_1, tn_2, tn_3, tn_4, tn_5, tn_6, tn_7]
                       first | exact ⟨rfl, rfl⟩ | (simp_all [Rt])))
         · first
             | exact absurd c13 (by decide)
             | (refine J_blk a_X6_regret_15 ?_
                simp only [b_X6_regret_15, w_iconst_m1, w_ireti, kd_46, kd_47, kd_48, kd_49, kd_50, kd_51, kd_52, kd_53, kd_54, kd_55, kd_56, kd_57, kd_58, kd_59, ln_47, ln_48, ln_49, ln_50, ln_51, ln_52, ln_53, ln_54, ln_55, ln_56, ln_57, ln_58, ln_59, Option.toList_some, Option.toList_none, List.cons_append, List.nil_append, true_and, and_true, if_true, if_false, true_or, or_true, Nat.reduceAdd, Int.reduceAdd, Bool.false_eq_true, tn_0, tn_1, tn_2, tn_3, tn_4, tn_5, tn_6, tn_7]
                first | exact ⟨rfl, rfl⟩ | (simp_all [Rt])))

