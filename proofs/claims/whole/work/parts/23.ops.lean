/-! the model: sets that are tried, rows -/
theorem pcF_le : ∀ f a, pcF f a ≤ f := by
  intro f
  induction f with
  | zero => intro a; simp [pcF]
  | succ f ih =>
    intro a
    rw [pcF]
    split
    · omega
    · have := ih (a &&& (a - 1)); omega
theorem pc_lt (a b : Nat) : (nI (pcN a) < nI (pcN b)) = (pcN a < pcN b) := by
  have h1 := pcF_le 256 a
  have h2 := pcF_le 256 b
  exact propext (nI_ltI (by unfold pcN; omega) (by unfold pcN; omega))
theorem pc_le (a b : Nat) : (nI (pcN b) ≤ nI (pcN a)) = (pcN b ≤ pcN a) := by
  have h1 := pcF_le 256 a
  have h2 := pcF_le 256 b
  exact propext (nI_leI (by unfold pcN; omega) (by unfold pcN; omega))
theorem shl1 : ∀ n, n ≤ 8 → (1 : Int32) <<< (nI n &&& 31) = nI (2 ^ n) := by decide +kernel
theorem p256 {n : Nat} (h : n ≤ 8) : 2 ^ n ≤ 256 := Nat.pow_le_pow_right (n := 2) (by omega) h
def csS (s : Nat → Int32) (n y : Nat) : Nat → Nat × Int32
  | 0 => (0, -1)
  | k + 1 => if nI k &&& (bsF (sd s) n ^^^ -1) = 0 then (if (csS s n y k).2 < hvS (ctR s (nI k) n) n y ∨ (hvS (ctR s (nI k) n) n y = (csS s n y k).2 ∧ pcN k < pcN (csS s n y k).1) then (k, hvS (ctR s (nI k) n) n y) else csS s n y k) else csS s n y k
theorem csS_lt (s : Nat → Int32) (n y : Nat) : ∀ k, k ≤ 256 → (csS s n y k).1 < 256 := by
  intro k
  induction k with
  | zero => intro _; simp [csS]
  | succ k ih =>
    intro hk
    rw [csS]
    split
    · split
      · show k < 256; omega
      · exact ih (by omega)
    · exact ih (by omega)
theorem mcutsFor_t (n y : Nat) (M : Mm) (hw : WF (M.1 47) n) (hy : 1 ≤ y) (hy2 : y ≤ 10) : K 5 mX6_cutsFor [.ref 46, .int (nI y)] M (Rs (some (.int (nI (csS (M.1 47) n y (2 ^ n)).1))) M) := by
  have h0 := hw.1
  have h8 := hw.2.1
  have h1 : 1 ≤ nI y ∧ nI y ≤ 10 := ok3 (m := 10) hy hy2 (by decide)
  have hsh := shl1 n h8
  have hp := p256 h8
  have loop : ∀ k, k ≤ 2 ^ n → ∀ (g : Nat → Int32) (z6 z7 : Option Value), J 5 mX6_cutsFor 27 [some (.ref 46), some (.int (nI y)), some (.int (bsF (sd (M.1 47)) n)), some (.int (nI (csS (M.1 47) n y k).1)), some (.int (csS (M.1 47) n y k).2), some (.int (nI k)), z6, z7] [] (Mg M g (M.1 47)) (Rs (some (.int (nI (csS (M.1 47) n y (2 ^ n)).1))) M) := by
    refine down (2 ^ n) ?_ ?_
    · intro g z6 z7
      refine J_blk a_X6_cutsFor_27 ?_
      simp only [b_X6_cutsFor_27, w_iload5, w_iconst_1, w_aload_n0, w_getf6, ne0_1, w_iconst_0, w_iald, w_ishl, w_icmp_ge, w_nil, kd_46, kd_47, kd_48, kd_49, kd_50, kd_51, kd_52, kd_53, kd_54, kd_55, kd_56, kd_57, kd_58, kd_59, ln_47, ln_48, ln_49, ln_50, ln_51, ln_52, ln_53, ln_54, ln_55, ln_56, ln_57, ln_58, ln_59, Option.toList_some, Option.toList_none, List.cons_append, List.nil_append, true_and, and_true, if_true, if_false, true_or, or_true, Nat.reduceAdd, Int.reduceAdd, Bool.false_eq_true, tn_0, tn_1, tn_2, tn_3, tn_4, tn_5, tn_6, tn_7, Mg47, h0, hsh]
      refine ⟨vlit (by decide), fun _ => ?_, fun h => absurd (Int32.le_refl _) h⟩
      refine J_blk a_X6_cutsFor_123 ?_
      simp only [b_X6_cutsFor_123, w_iload_n3, w_ireti, kd_46, kd_47, kd_48, kd_49, kd_50, kd_51, kd_52, kd_53, kd_54, kd_55, kd_56, kd_57, kd_58, kd_59, ln_47, ln_48, ln_49, ln_50, ln_51, ln_52, ln_53, ln_54, ln_55, ln_56, ln_57, ln_58, ln_59, Option.toList_some, Option.toList_none, List.cons_append, List.nil_append, true_and, and_true, if_true, if_false, true_or, or_true, Nat.reduceAdd, Int.reduceAdd, Bool.false_eq_true, tn_0, tn_1, tn_2, tn_3, tn_4, tn_5, tn_6, tn_7]
      exact ⟨rfl, g, Mg_self M g⟩
    · intro k hk ih g z6 z7
      have hc := csS_lt (M.1 47) n y k (by omega)
      simp only [csS] at ih
      refine J_blk a_X6_cutsFor_27 ?_
      simp only [b_X6_cutsFor_27, w_iload5, w_iconst_1, w_aload_n0, w_getf6, ne0_1, w_iconst_0, w_iald, w_ishl, w_icmp_ge, w_nil, kd_46, kd_47, kd_48, kd_49, kd_50, kd_51, kd_52, kd_53, kd_54, kd_55, kd_56, kd_57, kd_58, kd_59, ln_47, ln_48, ln_49, ln_50, ln_51, ln_52, ln_53, ln_54, ln_55, ln_56, ln_57, ln_58, ln_59, Option.toList_some, Option.toList_none, List.cons_append, List.nil_append, true_and, and_true, if_true, if_false, true_or, or_true, Nat.reduceAdd, Int.reduceAdd, Bool.false_eq_true, tn_0, tn_1, tn_2, tn_3, tn_4, tn_5, tn_6, tn_7, Mg47, h0, hsh]
      refine ⟨vlit (by decide), fun h => absurd h (nI_ge hk (by omega)), fun _ => ?_⟩
      refine J_blk a_X6_cutsFor_40 ?_
      simp only [b_X6_cutsFor_40, w_iload5, w_iload_n2, w_iconst_m1, w_ixor, w_iand, w_if_ne, w_nil, kd_46, kd_47, kd_48, kd_49, kd_50, kd_51, kd_52, kd_53, kd_54, kd_55, kd_56, kd_57, kd_58, kd_59, ln_47, ln_48, ln_49, ln_50, ln_51, ln_52, ln_53, ln_54, ln_55, ln_56, ln_57, ln_58, ln_59, Option.toList_some, Option.toList_none, List.cons_append, List.nil_append, true_and, and_true, if_true, if_false, true_or, or_true, Nat.reduceAdd, Int.reduceAdd, Bool.false_eq_true, tn_0, tn_1, tn_2, tn_3, tn_4, tn_5, tn_6, tn_7]
      refine ⟨fun c => ?_, fun c => ?_⟩
      · simp only [if_neg c] at ih
        refine J_blk a_X6_cutsFor_117 ?_
        simp only [b_X6_cutsFor_117, w_iinc5, nl_5n, nl_5i, nl_5a, ci_1, w_goto, kd_46, kd_47, kd_48, kd_49, kd_50, kd_51, kd_52, kd_53, kd_54, kd_55, kd_56, kd_57, kd_58, kd_59, ln_47, ln_48, ln_49, ln_50, ln_51, ln_52, ln_53, ln_54, ln_55, ln_56, ln_57, ln_58, ln_59, Option.toList_some, Option.toList_none, List.cons_append, List.nil_append, true_and, and_true, if_true, if_false, true_or, or_true, Nat.reduceAdd, Int.reduceAdd, Bool.false_eq_true, tn_0, tn_1, tn_2, tn_3, tn_4, tn_5, tn_6, tn_7, nI_1]
        exact ih g _ _
      · simp only [if_pos c] at ih
        refine J_blk a_X6_cutsFor_49 ?_
        simp only [b_X6_cutsFor_49, w_aload_n0, w_iload_n1, w_iload5, w_nil, kd_46, kd_47, kd_48, kd_49, kd_50, kd_51, kd_52, kd_53, kd_54, kd_55, kd_56, kd_57, kd_58, kd_59, ln_47, ln_48, ln_49, ln_50, ln_51, ln_52, ln_53, ln_54, ln_55, ln_56, ln_57, ln_58, ln_59, Option.toList_some, Option.toList_none, List.cons_append, List.nil_append, true_and, and_true, if_true, if_false, true_or, or_true, Nat.reduceAdd, Int.reduceAdd, Bool.false_eq_true, tn_0, tn_1, tn_2, tn_3, tn_4, tn_5, tn_6, tn_7]
        refine J_callVr (ci := 6) (harvestBy_ok n y _ _ (by rw [Mg47]; exact hw) (by omega)) k_X6_cutsFor_53 o_X6_harvestBy rfl rfl rfl rfl (by decide) rfl (Nat.le_of_ble_eq_true rfl) ?_
        rw [Mg47, Mg_asd]
        generalize csS (M.1 47) n y k = q at *
        generalize hvS (ctR (M.1 47) (nI k) n) n y = v at *
        by_cases hb : q.2 < v ∨ (v = q.2 ∧ pcN k < pcN q.1)
        · simp only [if_pos hb] at ih
          have yes : J 5 mX6_cutsFor 84 [some (.ref 46), some (.int (nI y)), some (.int (bsF (sd (M.1 47)) n)), some (.int (nI q.1)), some (.int q.2), some (.int (nI k)), some (.int v), z7] [] (Mg M (cpN (M.1 47) g 56) (M.1 47)) (Rs (some (.int (nI (csS (M.1 47) n y (2 ^ n)).1))) M) := by
            refine J_blk a_X6_cutsFor_84 ?_
            simp only [b_X6_cutsFor_84, w_iconst_1, w_goto, kd_46, kd_47, kd_48, kd_49, kd_50, kd_51, kd_52, kd_53, kd_54, kd_55, kd_56, kd_57, kd_58, kd_59, ln_47, ln_48, ln_49, ln_50, ln_51, ln_52, ln_53, ln_54, ln_55, ln_56, ln_57, ln_58, ln_59, Option.toList_some, Option.toList_none, List.cons_append, List.nil_append, true_and, and_true, if_true, if_false, true_or, or_true, Nat.reduceAdd, Int.reduceAdd, Bool.false_eq_true, tn_0, tn_1, tn_2, tn_3, tn_4, tn_5, tn_6, tn_7, nI_1]
            refine J_blk a_X6_cutsFor_89 ?_
            simp only [b_X6_cutsFor_89, w_istore7, nl_7n, nl_7i, nl_7a, w_iload7, w_if_eq, w_nil, kd_46, kd_47, kd_48, kd_49, kd_50, kd_51, kd_52, kd_53, kd_54, kd_55, kd_56, kd_57, kd_58, kd_59, ln_47, ln_48, ln_49, ln_50, ln_51, ln_52, ln_53, ln_54, ln_55, ln_56, ln_57, ln_58, ln_59, Option.toList_some, Option.toList_none, List.cons_append, List.nil_append, true_and, and_true, if_true, if_false, true_or, or_true, Nat.reduceAdd, Int.reduceAdd, Bool.false_eq_true, tn_0, tn_1, tn_2, tn_3, tn_4, tn_5, tn_6, tn_7, nI_1]
            refine ⟨fun c1 => ?_, fun c1 => ?_⟩
            · first
                | exact absurd c1 (by decide)
                | (refine J_blk a_X6_cutsFor_101 ?_
                   simp only [b_X6_cutsFor_101, w_iload_n3, w_nil, kd_46, kd_47, kd_48, kd_49, kd_50, kd_51, kd_52, kd_53, kd_54, kd_55, kd_56, kd_57, kd_58, kd_59, ln_47, ln_48, ln_49, ln_50, ln_51, ln_52, ln_53, ln_54, ln_55, ln_56, ln_57, ln_58, ln_59, Option.toList_some, Option.toList_none, List.cons_append, List.nil_append, true_and, and_true, if_true, if_false, true_or, or_true, Nat.reduceAdd, Int.reduceAdd, Bool.false_eq_true, tn_0, tn_1, tn_2, tn_3, tn_4, tn_5, tn_6, tn_7, nI_1]
                   refine J_blk a_X6_cutsFor_102 ?_
                   simp only [b_X6_cutsFor_102, w_istore3, nl_3n, nl_3i, nl_3a, w_iload7, w_if_eq, w_nil, kd_46, kd_47, kd_48, kd_49, kd_50, kd_51, kd_52, kd_53, kd_54, kd_55, kd_56, kd_57, kd_58, kd_59, ln_47, ln_48, ln_49, ln_50, ln_51, ln_52, ln_53, ln_54, ln_55, ln_56, ln_57, ln_58, ln_59, Option.toList_some, Option.toList_none, List.cons_append, List.nil_append, true_and, and_true, if_true, if_false, true_or, or_true, Nat.reduceAdd, Int.reduceAdd, Bool.false_eq_true, tn_0, tn_1, tn_2, tn_3, tn_4, tn_5, tn_6, tn_7, nI_1]
                   refine ⟨fun c2 => ?_, fun c2 => ?_⟩
                   · first
                       | exact absurd c2 (by decide)
                       | (refine J_blk a_X6_cutsFor_113 ?_
                          simp only [b_X6_cutsFor_113, w_iload4, w_nil, kd_46, kd_47, kd_48, kd_49, kd_50, kd_51, kd_52, kd_53, kd_54, kd_55, kd_56, kd_57, kd_58, kd_59, ln_47, ln_48, ln_49, ln_50, ln_51, ln_52, ln_53, ln_54, ln_55, ln_56, ln_57, ln_58, ln_59, Option.toList_some, Option.toList_none, List.cons_append, List.nil_append, true_and, and_true, if_true, if_false, true_or, or_true, Nat.reduceAdd, Int.reduceAdd, Bool.false_eq_true, tn_0, tn_1, tn_2, tn_3, tn_4, tn_5, tn_6, tn_7, nI_1]
                          refine J_blk a_X6_cutsFor_115 ?_
                          simp only [b_X6_cutsFor_115, w_istore4, nl_4n, nl_4i, nl_4a, w_nil, kd_46, kd_47, kd_48, kd_49, kd_50, kd_51, kd_52, kd_53, kd_54, kd_55, kd_56, kd_57, kd_58, kd_59, ln_47, ln_48, ln_49, ln_50, ln_51, ln_52, ln_53, ln_54, ln_55, ln_56, ln_57, ln_58, ln_59, Option.toList_some, Option.toList_none, List.cons_append, List.nil_append, true_and, and_true, if_true, if_false, true_or, or_true, Nat.reduceAdd, Int.reduceAdd, Bool.false_eq_true, tn_0, tn_1, tn_2, tn_3, tn_4, tn_5, tn_6, tn_7, nI_1]
                          refine J_blk a_X6_cutsFor_117 ?_
                          simp only [b_X6_cutsFor_117, w_iinc5, nl_5n, nl_5i, nl_5a, ci_1, w_goto, kd_46, kd_47, kd_48, kd_49, kd_50, kd_51, kd_52, kd_53, kd_54, kd_55, kd_56, kd_57, kd_58, kd_59, ln_47, ln_48, ln_49, ln_50, ln_51, ln_52, ln_53, ln_54, ln_55, ln_56, ln_57, ln_58, ln_59, Option.toList_some, Option.toList_none, List.cons_append, List.nil_append, true_and, and_true, if_true, if_false, true_or, or_true, Nat.reduceAdd, Int.reduceAdd, Bool.false_eq_true, tn_0, tn_1, tn_2, tn_3, tn_4, tn_5, tn_6, tn_7, nI_1]
                          exact ih _ _ _)
                   · first
                       | exact absurd c2 (by decide)
                       | (refine J_blk a_X6_cutsFor_108 ?_
                          simp only [b_X6_cutsFor_108, w_iload6, w_goto, kd_46, kd_47, kd_48, kd_49, kd_50, kd_51, kd_52, kd_53, kd_54, kd_55, kd_56, kd_57, kd_58, kd_59, ln_47, ln_48, ln_49, ln_50, ln_51, ln_52, ln_53, ln_54, ln_55, ln_56, ln_57, ln_58, ln_59, Option.toList_some, Option.toList_none, List.cons_append, List.nil_append, true_and, and_true, if_true, if_false, true_or, or_true, Nat.reduceAdd, Int.reduceAdd, Bool.false_eq_true, tn_0, tn_1, tn_2, tn_3, tn_4, tn_5, tn_6, tn_7, nI_1]
                          refine J_blk a_X6_cutsFor_115 ?_
                          simp only [b_X6_cutsFor_115, w_istore4, nl_4n, nl_4i, nl_4a, w_nil, kd_46, kd_47, kd_48, kd_49, kd_50, kd_51, kd_52, kd_53, kd_54, kd_55, kd_56, kd_57, kd_58, kd_59, ln_47, ln_48, ln_49, ln_50, ln_51, ln_52, ln_53, ln_54, ln_55, ln_56, ln_57, ln_58, ln_59, Option.toList_some, Option.toList_none, List.cons_append, List.nil_append, true_and, and_true, if_true, if_false, true_or, or_true, Nat.reduceAdd, Int.reduceAdd, Bool.false_eq_true, tn_0, tn_1, tn_2, tn_3, tn_4, tn_5, tn_6, tn_7, nI_1]
                          refine J_blk a_X6_cutsFor_117 ?_
                          simp only [b_X6_cutsFor_117, w_iinc5, nl_5n, nl_5i, nl_5a, ci_1, w_goto, kd_46, kd_47, kd_48, kd_49, kd_50, kd_51, kd_52, kd_53, kd_54, kd_55, kd_56, kd_57, kd_58, kd_59, ln_47, ln_48, ln_49, ln_50, ln_51, ln_52, ln_53, ln_54, ln_55, ln_56, ln_57, ln_58, ln_59, Option.toList_some, Option.toList_none, List.cons_append, List.nil_append, true_and, and_true, if_true, if_false, true_or, or_true, Nat.reduceAdd, Int.reduceAdd, Bool.false_eq_true, tn_0, tn_1, tn_2, tn_3, tn_4, tn_5, tn_6, tn_7, nI_1]
                          exact ih _ _ _))
            · first
                | exact absurd c1 (by decide)
                | (refine J_blk a_X6_cutsFor_96 ?_
                   simp only [b_X6_cutsFor_96, w_iload5, w_goto, kd_46, kd_47, kd_48, kd_49, kd_50, kd_51, kd_52, kd_53, kd_54, kd_55, kd_56, kd_57, kd_58, kd_59, ln_47, ln_48, ln_49, ln_50, ln_51, ln_52, ln_53, ln_54, ln_55, ln_56, ln_57, ln_58, ln_59, Option.toList_some, Option.toList_none, List.cons_append, List.nil_append, true_and, and_true, if_true, if_false, true_or, or_true, Nat.reduceAdd, Int.reduceAdd, Bool.false_eq_true, tn_0, tn_1, tn_2, tn_3, tn_4, tn_5, tn_6, tn_7, nI_1]
                   refine J_blk a_X6_cutsFor_102 ?_
                   simp only [b_X6_cutsFor_102, w_istore3, nl_3n, nl_3i, nl_3a, w_iload7, w_if_eq, w_nil, kd_46, kd_47, kd_48, kd_49, kd_50, kd_51, kd_52, kd_53, kd_54, kd_55, kd_56, kd_57, kd_58, kd_59, ln_47, ln_48, ln_49, ln_50, ln_51, ln_52, ln_53, ln_54, ln_55, ln_56, ln_57, ln_58, ln_59, Option.toList_some, Option.toList_none, List.cons_append, List.nil_append, true_and, and_true, if_true, if_false, true_or, or_true, Nat.reduceAdd, Int.reduceAdd, Bool.false_eq_true, tn_0, tn_1, tn_2, tn_3, tn_4, tn_5, tn_6, tn_7, nI_1]
                   refine ⟨fun c3 => ?_, fun c3 => ?_⟩
                   · first
                       | exact absurd c3 (by decide)
                       | (refine J_blk a_X6_cutsFor_113 ?_
                          simp only [b_X6_cutsFor_113, w_iload4, w_nil, kd_46, kd_47, kd_48, kd_49, kd_50, kd_51, kd_52, kd_53, kd_54, kd_55, kd_56, kd_57, kd_58, kd_59, ln_47, ln_48, ln_49, ln_50, ln_51, ln_52, ln_53, ln_54, ln_55, ln_56, ln_57, ln_58, ln_59, Option.toList_some, Option.toList_none, List.cons_append, List.nil_append, true_and, and_true, if_true, if_false, true_or, or_true, Nat.reduceAdd, Int.reduceAdd, Bool.false_eq_true, tn_0, tn_1, tn_2, tn_3, tn_4, tn_5, tn_6, tn_7, nI_1]
                          refine J_blk a_X6_cutsFor_115 ?_
                          simp only [b_X6_cutsFor_115, w_istore4, nl_4n, nl_4i, nl_4a, w_nil, kd_46, kd_47, kd_48, kd_49, kd_50, kd_51, kd_52, kd_53, kd_54, kd_55, kd_56, kd_57, kd_58, kd_59, ln_47, ln_48, ln_49, ln_50, ln_51, ln_52, ln_53, ln_54, ln_55, ln_56, ln_57, ln_58, ln_59, Option.toList_some, Option.toList_none, List.cons_append, List.nil_append, true_and, and_true, if_true, if_false, true_or, or_true, Nat.reduceAdd, Int.reduceAdd, Bool.false_eq_true, tn_0, tn_1, tn_2, tn_3, tn_4, tn_5, tn_6, tn_7, nI_1]
                          refine J_blk a_X6_cutsFor_117 ?_
                          simp only [b_X6_cutsFor_117, w_iinc5, nl_5n, nl_5i, nl_5a, ci_1, w_goto, kd_46, kd_47, kd_48, kd_49, kd_50, kd_51, kd_52, kd_53, kd_54, kd_55, kd_56, kd_57, kd_58, kd_59, ln_47, ln_48, ln_49, ln_50, ln_51, ln_52, ln_53, ln_54, ln_55, ln_56, ln_57, ln_58, ln_59, Option.toList_some, Option.toList_none, List.cons_append, List.nil_append, true_and, and_true, if_true, if_false, true_or, or_true, Nat.reduceAdd, Int.reduceAdd, Bool.false_eq_true, tn_0, tn_1, tn_2, tn_3, tn_4, tn_5, tn_6, tn_7, nI_1]
                          exact ih _ _ _)
                   · first
                       | exact absurd c3 (by decide)
                       | (refine J_blk a_X6_cutsFor_108 ?_
                          simp only [b_X6_cutsFor_108, w_iload6, w_goto, kd_46, kd_47, kd_48, kd_49, kd_50, kd_51, kd_52, kd_53, kd_54, kd_55, kd_56, kd_57, kd_58, kd_59, ln_47, ln_48, ln_49, ln_50, ln_51, ln_52, ln_53, ln_54, ln_55, ln_56, ln_57, ln_58, ln_59, Option.toList_some, Option.toList_none, List.cons_append, List.nil_append, true_and, and_true, if_true, if_false, true_or, or_true, Nat.reduceAdd, Int.reduceAdd, Bool.false_eq_true, tn_0, tn_1, tn_2, tn_3, tn_4, tn_5, tn_6, tn_7, nI_1]
                          refine J_blk a_X6_cutsFor_115 ?_
                          simp only [b_X6_cutsFor_115, w_istore4, nl_4n, nl_4i, nl_4a, w_nil, kd_46, kd_47, kd_48, kd_49, kd_50, kd_51, kd_52, kd_53, kd_54, kd_55, kd_56, kd_57, kd_58, kd_59, ln_47, ln_48, ln_49, ln_50, ln_51, ln_52, ln_53, ln_54, ln_55, ln_56, ln_57, ln_58, ln_59, Option.toList_some, Option.toList_none, List.cons_append, List.nil_append, true_and, and_true, if_true, if_false, true_or, or_true, Nat.reduceAdd, Int.reduceAdd, Bool.false_eq_true, tn_0, tn_1, tn_2, tn_3, tn_4, tn_5, tn_6, tn_7, nI_1]
                          refine J_blk a_X6_cutsFor_117 ?_
                          simp only [b_X6_cutsFor_117, w_iinc5, nl_5n, nl_5i, nl_5a, ci_1, w_goto, kd_46, kd_47, kd_48, kd_49, kd_50, kd_51, kd_52, kd_53, kd_54, kd_55, kd_56, kd_57, kd_58, kd_59, ln_47, ln_48, ln_49, ln_50, ln_51, ln_52, ln_53, ln_54, ln_55, ln_56, ln_57, ln_58, ln_59, Option.toList_some, Option.toList_none, List.cons_append, List.nil_append, true_and, and_true, if_true, if_false, true_or, or_true, Nat.reduceAdd, Int.reduceAdd, Bool.false_eq_true, tn_0, tn_1, tn_2, tn_3, tn_4, tn_5, tn_6, tn_7, nI_1]
                          exact ih _ _ _))
          refine J_blk a_X6_cutsFor_56 ?_
          simp only [b_X6_cutsFor_56, w_istore6, nl_6n, nl_6i, nl_6a, w_iload6, w_iload4, w_icmp_gt, w_nil, kd_46, kd_47, kd_48, kd_49, kd_50, kd_51, kd_52, kd_53, kd_54, kd_55, kd_56, kd_57, kd_58, kd_59, ln_47, ln_48, ln_49, ln_50, ln_51, ln_52, ln_53, ln_54, ln_55, ln_56, ln_57, ln_58, ln_59, Option.toList_some, Option.toList_none, List.cons_append, List.nil_append, true_and, and_true, if_true, if_false, true_or, or_true, Nat.reduceAdd, Int.reduceAdd, Bool.false_eq_true, tn_0, tn_1, tn_2, tn_3, tn_4, tn_5, tn_6, tn_7, pc_le]
          refine ⟨fun c4 => ?_, fun c4 => ?_⟩
          · exact yes
          · refine J_blk a_X6_cutsFor_65 ?_
            simp only [b_X6_cutsFor_65, w_iload6, w_iload4, w_icmp_ne, w_nil, kd_46, kd_47, kd_48, kd_49, kd_50, kd_51, kd_52, kd_53, kd_54, kd_55, kd_56, kd_57, kd_58, kd_59, ln_47, ln_48, ln_49, ln_50, ln_51, ln_52, ln_53, ln_54, ln_55, ln_56, ln_57, ln_58, ln_59, Option.toList_some, Option.toList_none, List.cons_append, List.nil_append, true_and, and_true, if_true, if_false, true_or, or_true, Nat.reduceAdd, Int.reduceAdd, Bool.false_eq_true, tn_0, tn_1, tn_2, tn_3, tn_4, tn_5, tn_6, tn_7, pc_le]
            refine ⟨fun c5 => ?_, fun c5 => ?_⟩
            · exact absurd hb (by grind)
            · refine J_blk a_X6_cutsFor_72 ?_
              simp only [b_X6_cutsFor_72, w_iload5, w_nil, kd_46, kd_47, kd_48, kd_49, kd_50, kd_51, kd_52, kd_53, kd_54, kd_55, kd_56, kd_57, kd_58, kd_59, ln_47, ln_48, ln_49, ln_50, ln_51, ln_52, ln_53, ln_54, ln_55, ln_56, ln_57, ln_58, ln_59, Option.toList_some, Option.toList_none, List.cons_append, List.nil_append, true_and, and_true, if_true, if_false, true_or, or_true, Nat.reduceAdd, Int.reduceAdd, Bool.false_eq_true, tn_0, tn_1, tn_2, tn_3, tn_4, tn_5, tn_6, tn_7, pc_le]
              refine J_callSr (size_ok _ _ (by omega)) k_X6_cutsFor_74 o_X6_size rfl (by decide) rfl (Nat.le_of_ble_eq_true rfl) ?_
              refine J_blk a_X6_cutsFor_77 ?_
              simp only [b_X6_cutsFor_77, w_iload_n3, w_nil, kd_46, kd_47, kd_48, kd_49, kd_50, kd_51, kd_52, kd_53, kd_54, kd_55, kd_56, kd_57, kd_58, kd_59, ln_47, ln_48, ln_49, ln_50, ln_51, ln_52, ln_53, ln_54, ln_55, ln_56, ln_57, ln_58, ln_59, Option.toList_some, Option.toList_none, List.cons_append, List.nil_append, true_and, and_true, if_true, if_false, true_or, or_true, Nat.reduceAdd, Int.reduceAdd, Bool.false_eq_true, tn_0, tn_1, tn_2, tn_3, tn_4, tn_5, tn_6, tn_7, pc_le]
              refine J_callSr (size_ok _ _ (by omega)) k_X6_cutsFor_78 o_X6_size rfl (by decide) rfl (Nat.le_of_ble_eq_true rfl) ?_
              refine J_blk a_X6_cutsFor_81 ?_
              simp only [b_X6_cutsFor_81, w_icmp_ge, w_nil, kd_46, kd_47, kd_48, kd_49, kd_50, kd_51, kd_52, kd_53, kd_54, kd_55, kd_56, kd_57, kd_58, kd_59, ln_47, ln_48, ln_49, ln_50, ln_51, ln_52, ln_53, ln_54, ln_55, ln_56, ln_57, ln_58, ln_59, Option.toList_some, Option.toList_none, List.cons_append, List.nil_append, true_and, and_true, if_true, if_false, true_or, or_true, Nat.reduceAdd, Int.reduceAdd, Bool.false_eq_true, tn_0, tn_1, tn_2, tn_3, tn_4, tn_5, tn_6, tn_7, pc_le]
              refine ⟨fun c6 => ?_, fun c6 => ?_⟩
              · exact absurd hb (by grind)
              · exact yes
        · simp only [if_neg hb] at ih
          have no : J 5 mX6_cutsFor 88 [some (.ref 46), some (.int (nI y)), some (.int (bsF (sd (M.1 47)) n)), some (.int (nI q.1)), some (.int q.2), some (.int (nI k)), some (.int v), z7] [] (Mg M (cpN (M.1 47) g 56) (M.1 47)) (Rs (some (.int (nI (csS (M.1 47) n y (2 ^ n)).1))) M) := by
            refine J_blk a_X6_cutsFor_88 ?_
            simp only [b_X6_cutsFor_88, w_iconst_0, w_nil, kd_46, kd_47, kd_48, kd_49, kd_50, kd_51, kd_52, kd_53, kd_54, kd_55, kd_56, kd_57, kd_58, kd_59, ln_47, ln_48, ln_49, ln_50, ln_51, ln_52, ln_53, ln_54, ln_55, ln_56, ln_57, ln_58, ln_59, Option.toList_some, Option.toList_none, List.cons_append, List.nil_append, true_and, and_true, if_true, if_false, true_or, or_true, Nat.reduceAdd, Int.reduceAdd, Bool.false_eq_true, tn_0, tn_1, tn_2, tn_3, tn_4, tn_5, tn_6, tn_7]
            refine J_blk a_X6_cutsFor_89 ?_
            simp only [b_X6_cutsFor_89, w_istore7, nl_7n, nl_7i, nl_7a, w_iload7, w_if_eq, w_nil, kd_46, kd_47, kd_48, kd_49, kd_50, kd_51, kd_52, kd_53, kd_54, kd_55, kd_56, kd_57, kd_58, kd_59, ln_47, ln_48, ln_49, ln_50, ln_51, ln_52, ln_53, ln_54, ln_55, ln_56, ln_57, ln_58, ln_59, Option.toList_some, Option.toList_none, List.cons_append, List.nil_append, true_and, and_true, if_true, if_false, true_or, or_true, Nat.reduceAdd, Int.reduceAdd, Bool.false_eq_true, tn_0, tn_1, tn_2, tn_3, tn_4, tn_5, tn_6, tn_7]
            refine ⟨fun _ => ?_, fun h => absurd trivial h⟩
            refine J_blk a_X6_cutsFor_101 ?_
            simp only [b_X6_cutsFor_101, w_iload_n3, w_nil, kd_46, kd_47, kd_48, kd_49, kd_50, kd_51, kd_52, kd_53, kd_54, kd_55, kd_56, kd_57, kd_58, kd_59, ln_47, ln_48, ln_49, ln_50, ln_51, ln_52, ln_53, ln_54, ln_55, ln_56, ln_57, ln_58, ln_59, Option.toList_some, Option.toList_none, List.cons_append, List.nil_append, true_and, and_true, if_true, if_false, true_or, or_true, Nat.reduceAdd, Int.reduceAdd, Bool.false_eq_true, tn_0, tn_1, tn_2, tn_3, tn_4, tn_5, tn_6, tn_7]
            refine J_blk a_X6_cutsFor_102 ?_
            simp only [b_X6_cutsFor_102, w_istore3, nl_3n, nl_3i, nl_3a, w_iload7, w_if_eq, w_nil, kd_46, kd_47, kd_48, kd_49, kd_50, kd_51, kd_52, kd_53, kd_54, kd_55, kd_56, kd_57, kd_58, kd_59, ln_47, ln_48, ln_49, ln_50, ln_51, ln_52, ln_53, ln_54, ln_55, ln_56, ln_57, ln_58, ln_59, Option.toList_some, Option.toList_none, List.cons_append, List.nil_append, true_and, and_true, if_true, if_false, true_or, or_true, Nat.reduceAdd, Int.reduceAdd, Bool.false_eq_true, tn_0, tn_1, tn_2, tn_3, tn_4, tn_5, tn_6, tn_7]
            refine ⟨fun _ => ?_, fun h => absurd trivial h⟩
            refine J_blk a_X6_cutsFor_113 ?_
            simp only [b_X6_cutsFor_113, w_iload4, w_nil, kd_46, kd_47, kd_48, kd_49, kd_50, kd_51, kd_52, kd_53, kd_54, kd_55, kd_56, kd_57, kd_58, kd_59, ln_47, ln_48, ln_49, ln_50, ln_51, ln_52, ln_53, ln_54, ln_55, ln_56, ln_57, ln_58, ln_59, Option.toList_some, Option.toList_none, List.cons_append, List.nil_append, true_and, and_true, if_true, if_false, true_or, or_true, Nat.reduceAdd, Int.reduceAdd, Bool.false_eq_true, tn_0, tn_1, tn_2, tn_3, tn_4, tn_5, tn_6, tn_7, nI_1]
            refine J_blk a_X6_cutsFor_115 ?_
            simp only [b_X6_cutsFor_115, w_istore4, nl_4n, nl_4i, nl_4a, w_nil, kd_46, kd_47, kd_48, kd_49, kd_50, kd_51, kd_52, kd_53, kd_54, kd_55, kd_56, kd_57, kd_58, kd_59, ln_47, ln_48, ln_49, ln_50, ln_51, ln_52, ln_53, ln_54, ln_55, ln_56, ln_57, ln_58, ln_59, Option.toList_some, Option.toList_none, List.cons_append, List.nil_append, true_and, and_true, if_true, if_false, true_or, or_true, Nat.reduceAdd, Int.reduceAdd, Bool.false_eq_true, tn_0, tn_1, tn_2, tn_3, tn_4, tn_5, tn_6, tn_7, nI_1]
            refine J_blk a_X6_cutsFor_117 ?_
            simp only [b_X6_cutsFor_117, w_iinc5, nl_5n, nl_5i, nl_5a, ci_1, w_goto, kd_46, kd_47, kd_48, kd_49, kd_50, kd_51, kd_52, kd_53, kd_54, kd_55, kd_56, kd_57, kd_58, kd_59, ln_47, ln_48, ln_49, ln_50, ln_51, ln_52, ln_53, ln_54, ln_55, ln_56, ln_57, ln_58, ln_59, Option.toList_some, Option.toList_none, List.cons_append, List.nil_append, true_and, and_true, if_true, if_false, true_or, or_true, Nat.reduceAdd, Int.reduceAdd, Bool.false_eq_true, tn_0, tn_1, tn_2, tn_3, tn_4, tn_5, tn_6, tn_7, nI_1]
            exact ih _ _ _
          refine J_blk a_X6_cutsFor_56 ?_
          simp only [b_X6_cutsFor_56, w_istore6, nl_6n, nl_6i, nl_6a, w_iload6, w_iload4, w_icmp_gt, w_nil, kd_46, kd_47, kd_48, kd_49, kd_50, kd_51, kd_52, kd_53, kd_54, kd_55, kd_56, kd_57, kd_58, kd_59, ln_47, ln_48, ln_49, ln_50, ln_51, ln_52, ln_53, ln_54, ln_55, ln_56, ln_57, ln_58, ln_59, Option.toList_some, Option.toList_none, List.cons_append, List.nil_append, true_and, and_true, if_true, if_false, true_or, or_true, Nat.reduceAdd, Int.reduceAdd, Bool.false_eq_true, tn_0, tn_1, tn_2, tn_3, tn_4, tn_5, tn_6, tn_7, pc_le]
          refine ⟨fun c7 => ?_, fun c7 => ?_⟩
          · exact absurd (by grind) hb
          · refine J_blk a_X6_cutsFor_65 ?_
            simp only [b_X6_cutsFor_65, w_iload6, w_iload4, w_icmp_ne, w_nil, kd_46, kd_47, kd_48, kd_49, kd_50, kd_51, kd_52, kd_53, kd_54, kd_55, kd_56, kd_57, kd_58, kd_59, ln_47, ln_48, ln_49, ln_50, ln_51, ln_52, ln_53, ln_54, ln_55, ln_56, ln_57, ln_58, ln_59, Option.toList_some, Option.toList_none, List.cons_append, List.nil_append, true_and, and_true, if_true, if_false, true_or, or_true, Nat.reduceAdd, Int.reduceAdd, Bool.false_eq_true, tn_0, tn_1, tn_2, tn_3, tn_4, tn_5, tn_6, tn_7, pc_le]
            refine ⟨fun c8 => ?_, fun c8 => ?_⟩
            · exact no
            · refine J_blk a_X6_cutsFor_72 ?_
              simp only [b_X6_cutsFor_72, w_iload5, w_nil, kd_46, kd_47, kd_48, kd_49, kd_50, kd_51, kd_52, kd_53, kd_54, kd_55, kd_56, kd_57, kd_58, kd_59, ln_47, ln_48, ln_49, ln_50, ln_51, ln_52, ln_53, ln_54, ln_55, ln_56, ln_57, ln_58, ln_59, Option.toList_some, Option.toList_none, List.cons_append, List.nil_append, true_and, and_true, if_true, if_false, true_or, or_true, Nat.reduceAdd, Int.reduceAdd, Bool.false_eq_true, tn_0, tn_1, tn_2, tn_3, tn_4, tn_5, tn_6, tn_7, pc_le]
              refine J_callSr (size_ok _ _ (by omega)) k_X6_cutsFor_74 o_X6_size rfl (by decide) rfl (Nat.le_of_ble_eq_true rfl) ?_
              refine J_blk a_X6_cutsFor_77 ?_
              simp only [b_X6_cutsFor_77, w_iload_n3, w_nil, kd_46, kd_47, kd_48, kd_49, kd_50, kd_51, kd_52, kd_53, kd_54, kd_55, kd_56, kd_57, kd_58, kd_59, ln_47, ln_48, ln_49, ln_50, ln_51, ln_52, ln_53, ln_54, ln_55, ln_56, ln_57, ln_58, ln_59, Option.toList_some, Option.toList_none, List.cons_append, List.nil_append, true_and, and_true, if_true, if_false, true_or, or_true, Nat.reduceAdd, Int.reduceAdd, Bool.false_eq_true, tn_0, tn_1, tn_2, tn_3, tn_4, tn_5, tn_6, tn_7, pc_le]
              refine J_callSr (size_ok _ _ (by omega)) k_X6_cutsFor_78 o_X6_size rfl (by decide) rfl (Nat.le_of_ble_eq_true rfl) ?_
              refine J_blk a_X6_cutsFor_81 ?_
              simp only [b_X6_cutsFor_81, w_icmp_ge, w_nil, kd_46, kd_47, kd_48, kd_49, kd_50, kd_51, kd_52, kd_53, kd_54, kd_55, kd_56, kd_57, kd_58, kd_59, ln_47, ln_48, ln_49, ln_50, ln_51, ln_52, ln_53, ln_54, ln_55, ln_56, ln_57, ln_58, ln_59, Option.toList_some, Option.toList_none, List.cons_append, List.nil_append, true_and, and_true, if_true, if_false, true_or, or_true, Nat.reduceAdd, Int.reduceAdd, Bool.false_eq_true, tn_0, tn_1, tn_2, tn_3, tn_4, tn_5, tn_6, tn_7, pc_le]
              refine ⟨fun c9 => ?_, fun c9 => ?_⟩
              · exact no
              · exact absurd (by grind) hb
  have go : J 5 mX6_cutsFor 14 [some (.ref 46), some (.int (nI y)), none, none, none, none, none, none] [] M (Rs (some (.int (nI (csS (M.1 47) n y (2 ^ n)).1))) M) := by
    have l0 := loop 0 (Nat.zero_le _) (M.1 49) none none
    rw [← Mg_ini] at l0
    refine J_blk a_X6_cutsFor_14 ?_
    simp only [b_X6_cutsFor_14, w_aload_n0, w_nil, kd_46, kd_47, kd_48, kd_49, kd_50, kd_51, kd_52, kd_53, kd_54, kd_55, kd_56, kd_57, kd_58, kd_59, ln_47, ln_48, ln_49, ln_50, ln_51, ln_52, ln_53, ln_54, ln_55, ln_56, ln_57, ln_58, ln_59, Option.toList_some, Option.toList_none, List.cons_append, List.nil_append, true_and, and_true, if_true, if_false, true_or, or_true, Nat.reduceAdd, Int.reduceAdd, Bool.false_eq_true, tn_0, tn_1, tn_2, tn_3, tn_4, tn_5, tn_6, tn_7]
    refine J_callVr (ci := 6) (standing_ok n M hw) k_X6_cutsFor_15 o_X6_standing rfl rfl rfl rfl (by decide) rfl (Nat.le_of_ble_eq_true rfl) ?_
    refine J_blk a_X6_cutsFor_18 ?_
    simp only [b_X6_cutsFor_18, w_istore2, nl_2n, nl_2i, nl_2a, w_iconst_0, w_istore3, nl_3n, nl_3i, nl_3a, w_iconst_m1, w_istore4, nl_4n, nl_4i, nl_4a, w_istore5, nl_5n, nl_5i, nl_5a, w_nil, kd_46, kd_47, kd_48, kd_49, kd_50, kd_51, kd_52, kd_53, kd_54, kd_55, kd_56, kd_57, kd_58, kd_59, ln_47, ln_48, ln_49, ln_50, ln_51, ln_52, ln_53, ln_54, ln_55, ln_56, ln_57, ln_58, ln_59, Option.toList_some, Option.toList_none, List.cons_append, List.nil_append, true_and, and_true, if_true, if_false, true_or, or_true, Nat.reduceAdd, Int.reduceAdd, Bool.false_eq_true, tn_0, tn_1, tn_2, tn_3, tn_4, tn_5, tn_6, tn_7]
    exact l0
  refine K_go 1 o_X6_cutsFor [none, none, none, none, none, none] rfl (Nat.le_of_ble_eq_true rfl) ?_
  simp only [lvA_i, lvA_a, lvA_l, lvA_nil, List.cons_append, List.nil_append]
  refine J_blk a_X6_cutsFor_0 ?_
  simp only [b_X6_cutsFor_0, w_iload_n1, w_i2l, w_lconst_1, w_ldc2, cl_10, w_nil, kd_46, kd_47, kd_48, kd_49, kd_50, kd_51, kd_52, kd_53, kd_54, kd_55, kd_56, kd_57, kd_58, kd_59, ln_47, ln_48, ln_49, ln_50, ln_51, ln_52, ln_53, ln_54, ln_55, ln_56, ln_57, ln_58, ln_59, Option.toList_some, Option.toList_none, List.cons_append, List.nil_append, true_and, and_true, if_true, if_false, true_or, or_true, Nat.reduceAdd, Int.reduceAdd, Bool.false_eq_true, tn_0, tn_1, tn_2, tn_3, tn_4, tn_5, tn_6, tn_7]
  refine J_callSr (isIn_ok _ _ _ _) k_X6_cutsFor_6 o_X6_isIn rfl (by decide) rfl (Nat.le_of_ble_eq_true rfl) ?_
  (simp only [l_le_1, l_le_2, l_le_3, l_le_5, l_le_7, l_le_8, l_le_9, l_le_10, l_le_13, l_le_20, l_le_30, l_le_60, l_le_99, l_le_9999, l_ge_0, l_ge_1, l_ge_6, l_ge_m1, i64_le]; rw [if_pos (by first | exact h1 | exact h2 | exact h3 | exact h4)])
  refine J_blk a_X6_cutsFor_9 ?_
  simp only [b_X6_cutsFor_9, w_if_ne, w_nil, kd_46, kd_47, kd_48, kd_49, kd_50, kd_51, kd_52, kd_53, kd_54, kd_55, kd_56, kd_57, kd_58, kd_59, ln_47, ln_48, ln_49, ln_50, ln_51, ln_52, ln_53, ln_54, ln_55, ln_56, ln_57, ln_58, ln_59, Option.toList_some, Option.toList_none, List.cons_append, List.nil_append, true_and, and_true, if_true, if_false, true_or, or_true, Nat.reduceAdd, Int.reduceAdd, Bool.false_eq_true, tn_0, tn_1, tn_2, tn_3, tn_4, tn_5, tn_6, tn_7]
  refine ⟨fun c10 => ?_, fun c10 => ?_⟩
  · first
      | exact absurd c10 (by decide)
      | (exact go)
  · first
      | exact absurd c10 (by decide)
      | (refine J_blk a_X6_cutsFor_12 ?_
         simp only [b_X6_cutsFor_12, w_iconst_m1, w_ireti, kd_46, kd_47, kd_48, kd_49, kd_50, kd_51, kd_52, kd_53, kd_54, kd_55, kd_56, kd_57, kd_58, kd_59, ln_47, ln_48, ln_49, ln_50, ln_51, ln_52, ln_53, ln_54, ln_55, ln_56, ln_57, ln_58, ln_59, Option.toList_some, Option.toList_none, List.cons_append, List.nil_append, true_and, and_true, if_true, if_false, true_or, or_true, Nat.reduceAdd, Int.reduceAdd, Bool.false_eq_true, tn_0, tn_1, tn_2, tn_3, tn_4, tn_5, tn_6, tn_7]
         first | exact ⟨rfl, rfl⟩ | (simp_all [Rt]))
def frB (s : Nat → Int32) (n o : Nat) (v cut : Int32) : Bool := sd (ctR s cut n) o && decide (v ≤ bearS (ctR s cut n) (sd (ctR s cut n)) n o)
theorem isFree_ok (n o : Nat) (v cut : Int32) (M : Mm) (hw : WF (M.1 47) n) (hj : o < n) : K 4 mX6_isFree [.ref 46, .int (nI o), .int v, .int cut] M (Rt (some (.int (bI (frB (M.1 47) n o v cut)))) (asd M)) := by
  have h8 := hw.2.1
  have h0 := hw.1
  generalize hs : M.1 47 = s at *
  have hwc := WF_ctR hw cut
  refine K_go 3 o_X6_isFree [none] rfl (Nat.le_of_ble_eq_true rfl) ?_
  simp only [lvA_i, lvA_a, lvA_l, lvA_nil, List.cons_append, List.nil_append]
  refine J_blk a_X6_isFree_0 ?_
  simp only [b_X6_isFree_0, w_aload_n0, w_getf6, ne0_1, ne0_3, w_nil, kd_46, kd_47, kd_48, kd_49, kd_50, kd_51, kd_52, kd_53, kd_54, kd_55, kd_56, kd_57, kd_58, kd_59, ln_47, ln_48, ln_49, ln_50, ln_51, ln_52, ln_53, ln_54, ln_55, ln_56, ln_57, ln_58, ln_59, Option.toList_some, Option.toList_none, List.cons_append, List.nil_append, true_and, and_true, if_true, if_false, true_or, or_true, Nat.reduceAdd, Int.reduceAdd, Bool.false_eq_true, tn_0, tn_1, tn_2, tn_3, tn_4, tn_5, tn_6, tn_7]
  refine J_callSr (copyRow_ok 47 49 M rfl rfl rfl rfl (by decide)) k_X6_isFree_8 o_X6_copyRow rfl (by decide) rfl (Nat.le_of_ble_eq_true rfl) ?_
  rw [show su M 49 (cpN (M.1 47) (M.1 49) 56) = asd M from rfl]
  refine J_blk a_X6_isFree_11 ?_
  simp only [b_X6_isFree_11, w_iconst_0, w_istore4, nl_4n, nl_4i, nl_4a, w_nil, kd_46, kd_47, kd_48, kd_49, kd_50, kd_51, kd_52, kd_53, kd_54, kd_55, kd_56, kd_57, kd_58, kd_59, ln_47, ln_48, ln_49, ln_50, ln_51, ln_52, ln_53, ln_54, ln_55, ln_56, ln_57, ln_58, ln_59, Option.toList_some, Option.toList_none, List.cons_append, List.nil_append, true_and, and_true, if_true, if_false, true_or, or_true, Nat.reduceAdd, Int.reduceAdd, Bool.false_eq_true, tn_0, tn_1, tn_2, tn_3, tn_4, tn_5, tn_6, tn_7]
  have last : ∀ b : Bool, b = frB s n o v cut → J 4 mX6_isFree 81 [some (.ref 46), some (.int (nI o)), some (.int v), some (.int cut), some (.int (nI n))] [.int (bI b)] (su (asd M) 47 (ctR s cut n)) (Rt (some (.int (bI (frB s n o v cut)))) (asd M)) := by
    intro b hb
    refine J_blk a_X6_isFree_81 ?_
    simp only [b_X6_isFree_81, w_istore4, nl_4n, nl_4i, nl_4a, w_aload_n0, w_getf6, ne0_3, ne0_1, w_nil, kd_46, kd_47, kd_48, kd_49, kd_50, kd_51, kd_52, kd_53, kd_54, kd_55, kd_56, kd_57, kd_58, kd_59, ln_47, ln_48, ln_49, ln_50, ln_51, ln_52, ln_53, ln_54, ln_55, ln_56, ln_57, ln_58, ln_59, Option.toList_some, Option.toList_none, List.cons_append, List.nil_append, true_and, and_true, if_true, if_false, true_or, or_true, Nat.reduceAdd, Int.reduceAdd, Bool.false_eq_true, tn_0, tn_1, tn_2, tn_3, tn_4, tn_5, tn_6, tn_7]
    refine J_callSr (copyRow_ok 49 47 _ rfl rfl rfl rfl (by decide)) k_X6_isFree_91 o_X6_copyRow rfl (by decide) rfl (Nat.le_of_ble_eq_true rfl) ?_
    rw [asd_back M _ (by rw [hs]; exact fun j hj => ctR_hi _ _ h8 hj)]
    refine J_blk a_X6_isFree_94 ?_
    simp only [b_X6_isFree_94, w_iload4, w_iretz, kd_46, kd_47, kd_48, kd_49, kd_50, kd_51, kd_52, kd_53, kd_54, kd_55, kd_56, kd_57, kd_58, kd_59, ln_47, ln_48, ln_49, ln_50, ln_51, ln_52, ln_53, ln_54, ln_55, ln_56, ln_57, ln_58, ln_59, Option.toList_some, Option.toList_none, List.cons_append, List.nil_append, true_and, and_true, if_true, if_false, true_or, or_true, Nat.reduceAdd, Int.reduceAdd, Bool.false_eq_true, tn_0, tn_1, tn_2, tn_3, tn_4, tn_5, tn_6, tn_7]
    exact ⟨by unfold bI; split <;> simp, by rw [hb], rfl⟩
  have loop1 : ∀ k, k ≤ n → J 4 mX6_isFree 14 [some (.ref 46), some (.int (nI o)), some (.int v), some (.int cut), some (.int (nI k))] [] (su (asd M) 47 (ctR s cut k)) (Rt (some (.int (bI (frB s n o v cut)))) (asd M)) := by
    refine down n ?_ ?_
    · refine J_blk a_X6_isFree_14 ?_
      simp only [b_X6_isFree_14, w_iload4, w_aload_n0, w_getf6, ne0_1, w_iconst_0, w_iald, w_icmp_ge, w_nil, kd_46, kd_47, kd_48, kd_49, kd_50, kd_51, kd_52, kd_53, kd_54, kd_55, kd_56, kd_57, kd_58, kd_59, ln_47, ln_48, ln_49, ln_50, ln_51, ln_52, ln_53, ln_54, ln_55, ln_56, ln_57, ln_58, ln_59, Option.toList_some, Option.toList_none, List.cons_append, List.nil_append, true_and, and_true, if_true, if_false, true_or, or_true, Nat.reduceAdd, Int.reduceAdd, Bool.false_eq_true, tn_0, tn_1, tn_2, tn_3, tn_4, tn_5, tn_6, tn_7, su_at, ctR_low s cut n (show 0 < 8 by omega), h0]
      refine ⟨vlit (by decide), fun _ => ?_, fun h => absurd (Int32.le_refl _) h⟩
      refine J_blk a_X6_isFree_55 ?_
      simp only [b_X6_isFree_55, w_aload_n0, w_iload_n1, w_nil, kd_46, kd_47, kd_48, kd_49, kd_50, kd_51, kd_52, kd_53, kd_54, kd_55, kd_56, kd_57, kd_58, kd_59, ln_47, ln_48, ln_49, ln_50, ln_51, ln_52, ln_53, ln_54, ln_55, ln_56, ln_57, ln_58, ln_59, Option.toList_some, Option.toList_none, List.cons_append, List.nil_append, true_and, and_true, if_true, if_false, true_or, or_true, Nat.reduceAdd, Int.reduceAdd, Bool.false_eq_true, tn_0, tn_1, tn_2, tn_3, tn_4, tn_5, tn_6, tn_7]
      refine J_callVr (ci := 6) (stands_ok o n _ (by rw [su_at]; exact hwc) hj) k_X6_isFree_57 o_X6_stands rfl rfl rfl rfl (by decide) rfl (Nat.le_of_ble_eq_true rfl) ?_
      rw [su_at]
      by_cases hst : sd (ctR s cut n) o = true
      · rw [if_pos hst]
        refine J_blk a_X6_isFree_60 ?_
        simp only [b_X6_isFree_60, w_if_eq, w_nil, kd_46, kd_47, kd_48, kd_49, kd_50, kd_51, kd_52, kd_53, kd_54, kd_55, kd_56, kd_57, kd_58, kd_59, ln_47, ln_48, ln_49, ln_50, ln_51, ln_52, ln_53, ln_54, ln_55, ln_56, ln_57, ln_58, ln_59, Option.toList_some, Option.toList_none, List.cons_append, List.nil_append, true_and, and_true, if_true, if_false, true_or, or_true, Nat.reduceAdd, Int.reduceAdd, Bool.false_eq_true, tn_0, tn_1, tn_2, tn_3, tn_4, tn_5, tn_6, tn_7]
        refine ⟨fun h => absurd h (by decide), fun _ => ?_⟩
        refine J_blk a_X6_isFree_63 ?_
        simp only [b_X6_isFree_63, w_aload_n0, w_iload_n1, w_nil, kd_46, kd_47, kd_48, kd_49, kd_50, kd_51, kd_52, kd_53, kd_54, kd_55, kd_56, kd_57, kd_58, kd_59, ln_47, ln_48, ln_49, ln_50, ln_51, ln_52, ln_53, ln_54, ln_55, ln_56, ln_57, ln_58, ln_59, Option.toList_some, Option.toList_none, List.cons_append, List.nil_append, true_and, and_true, if_true, if_false, true_or, or_true, Nat.reduceAdd, Int.reduceAdd, Bool.false_eq_true, tn_0, tn_1, tn_2, tn_3, tn_4, tn_5, tn_6, tn_7]
        refine J_callVr (ci := 6) (standing_ok n _ (by rw [su_at]; exact hwc)) k_X6_isFree_66 o_X6_standing rfl rfl rfl rfl (by decide) rfl (Nat.le_of_ble_eq_true rfl) ?_
        refine J_callVr (ci := 6) (bears_ok o n _ _ (by rw [su_at]; exact hwc) hj) k_X6_isFree_69 o_X6_bears rfl rfl rfl rfl (by decide) rfl (Nat.le_of_ble_eq_true rfl) ?_
        rw [su_at, bear_sd h8]
        refine J_blk a_X6_isFree_72 ?_
        simp only [b_X6_isFree_72, w_iload_n2, w_icmp_lt, w_nil, kd_46, kd_47, kd_48, kd_49, kd_50, kd_51, kd_52, kd_53, kd_54, kd_55, kd_56, kd_57, kd_58, kd_59, ln_47, ln_48, ln_49, ln_50, ln_51, ln_52, ln_53, ln_54, ln_55, ln_56, ln_57, ln_58, ln_59, Option.toList_some, Option.toList_none, List.cons_append, List.nil_append, true_and, and_true, if_true, if_false, true_or, or_true, Nat.reduceAdd, Int.reduceAdd, Bool.false_eq_true, tn_0, tn_1, tn_2, tn_3, tn_4, tn_5, tn_6, tn_7]
        refine ⟨fun c => ?_, fun c => ?_⟩
        · refine J_blk a_X6_isFree_80 ?_
          simp only [b_X6_isFree_80, w_iconst_0, w_nil, kd_46, kd_47, kd_48, kd_49, kd_50, kd_51, kd_52, kd_53, kd_54, kd_55, kd_56, kd_57, kd_58, kd_59, ln_47, ln_48, ln_49, ln_50, ln_51, ln_52, ln_53, ln_54, ln_55, ln_56, ln_57, ln_58, ln_59, Option.toList_some, Option.toList_none, List.cons_append, List.nil_append, true_and, and_true, if_true, if_false, true_or, or_true, Nat.reduceAdd, Int.reduceAdd, Bool.false_eq_true, tn_0, tn_1, tn_2, tn_3, tn_4, tn_5, tn_6, tn_7]
          exact last false (by unfold frB; rw [hst, decide_eq_false (Int32.not_le.mpr c)]; rfl)
        · refine J_blk a_X6_isFree_76 ?_
          simp only [b_X6_isFree_76, w_iconst_1, w_goto, kd_46, kd_47, kd_48, kd_49, kd_50, kd_51, kd_52, kd_53, kd_54, kd_55, kd_56, kd_57, kd_58, kd_59, ln_47, ln_48, ln_49, ln_50, ln_51, ln_52, ln_53, ln_54, ln_55, ln_56, ln_57, ln_58, ln_59, Option.toList_some, Option.toList_none, List.cons_append, List.nil_append, true_and, and_true, if_true, if_false, true_or, or_true, Nat.reduceAdd, Int.reduceAdd, Bool.false_eq_true, tn_0, tn_1, tn_2, tn_3, tn_4, tn_5, tn_6, tn_7]
          exact last true (by unfold frB; rw [hst, decide_eq_true (Int32.not_lt.mp c)]; rfl)
      · rw [if_neg hst]
        refine J_blk a_X6_isFree_60 ?_
        simp only [b_X6_isFree_60, w_if_eq, w_nil, kd_46, kd_47, kd_48, kd_49, kd_50, kd_51, kd_52, kd_53, kd_54, kd_55, kd_56, kd_57, kd_58, kd_59, ln_47, ln_48, ln_49, ln_50, ln_51, ln_52, ln_53, ln_54, ln_55, ln_56, ln_57, ln_58, ln_59, Option.toList_some, Option.toList_none, List.cons_append, List.nil_append, true_and, and_true, if_true, if_false, true_or, or_true, Nat.reduceAdd, Int.reduceAdd, Bool.false_eq_true, tn_0, tn_1, tn_2, tn_3, tn_4, tn_5, tn_6, tn_7]
        refine ⟨fun _ => ?_, fun h => absurd trivial h⟩
        refine J_blk a_X6_isFree_80 ?_
        simp only [b_X6_isFree_80, w_iconst_0, w_nil, kd_46, kd_47, kd_48, kd_49, kd_50, kd_51, kd_52, kd_53, kd_54, kd_55, kd_56, kd_57, kd_58, kd_59, ln_47, ln_48, ln_49, ln_50, ln_51, ln_52, ln_53, ln_54, ln_55, ln_56, ln_57, ln_58, ln_59, Option.toList_some, Option.toList_none, List.cons_append, List.nil_append, true_and, and_true, if_true, if_false, true_or, or_true, Nat.reduceAdd, Int.reduceAdd, Bool.false_eq_true, tn_0, tn_1, tn_2, tn_3, tn_4, tn_5, tn_6, tn_7]
        exact last false (by unfold frB; cases hh : sd (ctR s cut n) o <;> simp_all)
    · intro k hk ih
      have h32 : k < 32 := by omega
      have t4 : (nI (8 + 6 * k + 4)).toNatClampNeg = 8 + 6 * k + 4 := nI_clamp (by omega)
      refine J_blk a_X6_isFree_14 ?_
      simp only [b_X6_isFree_14, w_iload4, w_aload_n0, w_getf6, ne0_1, w_iconst_0, w_iald, w_icmp_ge, w_nil, kd_46, kd_47, kd_48, kd_49, kd_50, kd_51, kd_52, kd_53, kd_54, kd_55, kd_56, kd_57, kd_58, kd_59, ln_47, ln_48, ln_49, ln_50, ln_51, ln_52, ln_53, ln_54, ln_55, ln_56, ln_57, ln_58, ln_59, Option.toList_some, Option.toList_none, List.cons_append, List.nil_append, true_and, and_true, if_true, if_false, true_or, or_true, Nat.reduceAdd, Int.reduceAdd, Bool.false_eq_true, tn_0, tn_1, tn_2, tn_3, tn_4, tn_5, tn_6, tn_7, su_at, ctR_low s cut k (show 0 < 8 by omega), h0]
      refine ⟨vlit (by decide), fun h => absurd h (nI_ge hk (by omega)), fun _ => ?_⟩
      refine J_blk a_X6_isFree_25 ?_
      simp only [b_X6_isFree_25, w_aload_n0, w_getf6, ne0_1, w_bipush, ci_8, ci_6, w_iload4, w_imul, w_iadd, w_iconst_4, w_dup2_ia, w_iald, w_iload_n3, w_ishr, w_iconst_1, w_iand, w_ior, w_iast, w_iinc4, nl_4n, nl_4i, nl_4a, ci_1, w_goto, kd_46, kd_47, kd_48, kd_49, kd_50, kd_51, kd_52, kd_53, kd_54, kd_55, kd_56, kd_57, kd_58, kd_59, ln_47, ln_48, ln_49, ln_50, ln_51, ln_52, ln_53, ln_54, ln_55, ln_56, ln_57, ln_58, ln_59, Option.toList_some, Option.toList_none, List.cons_append, List.nil_append, true_and, and_true, if_true, if_false, true_or, or_true, Nat.reduceAdd, Int.reduceAdd, Bool.false_eq_true, tn_0, tn_1, tn_2, tn_3, tn_4, tn_5, tn_6, tn_7, ix0, ad4, su_at, u1_su, t4, bit1 cut h32, ctR_own s cut k 4, ctR_step, nI_1]
      exact ⟨vinN (by omega) (by decide), vinN (by omega) (by decide), ih⟩
  have h1 := loop1 0 (by omega)
  rw [ctR_0, ← hs, ← asd47 M, su_self, asd47 M, hs] at h1
  exact h1
def oI : Option Nat → Int32
  | none => -3
  | some k => nI k
def ffS (s : Nat → Int32) (n o : Nat) (v : Int32) : Nat → Option Nat
  | 0 => none
  | k + 1 => if (∀ b, ffS s n o v k = some b → pcN k < pcN b) ∧ nI k &&& ((bsF (sd s) n &&& ((1 : Int32) <<< (nI o &&& 31) ^^^ -1)) ^^^ -1) = 0 ∧ frB s n o v (nI k) = true then some k else ffS s n o v k
theorem ffS_lt (s : Nat → Int32) (n o : Nat) (v : Int32) : ∀ k, k ≤ 256 → ∀ b, ffS s n o v k = some b → b < 256 := by
  intro k
  induction k with
  | zero => intro _ b h; simp [ffS] at h
  | succ k ih =>
    intro hk b h
    rw [ffS] at h
    split at h
    · cases h; omega
    · exact ih (by omega) b h
theorem mfreeFor_t (n o : Nat) (v : Int32) (M : Mm) (hw : WF (M.1 47) n) (hj : o < n) (h1 : 0 ≤ v ∧ v ≤ 99) : K 5 mX6_freeFor [.ref 46, .int (nI o), .int v] M (Rs (some (.int (oI (ffS (M.1 47) n o v (2 ^ n))))) M) := by
  have h0 := hw.1
  have h8 := hw.2.1
  have ho := ok1 hj (by omega)
  have hsh := shl1 n h8
  have hp := p256 h8
  have loop : ∀ k, k ≤ 2 ^ n → ∀ (g : Nat → Int32) (z6 : Option Value), J 5 mX6_freeFor 40 [some (.ref 46), some (.int (nI o)), some (.int v), some (.int (bsF (sd (M.1 47)) n &&& ((1 : Int32) <<< (nI o &&& 31) ^^^ -1))), some (.int (oI (ffS (M.1 47) n o v k))), some (.int (nI k)), z6] [] (Mg M g (M.1 47)) (Rs (some (.int (oI (ffS (M.1 47) n o v (2 ^ n))))) M) := by
    refine down (2 ^ n) ?_ ?_
    · intro g z6
      refine J_blk a_X6_freeFor_40 ?_
      simp only [b_X6_freeFor_40, w_iload5, w_iconst_1, w_aload_n0, w_getf6, ne0_1, w_iconst_0, w_iald, w_ishl, w_icmp_ge, w_nil, kd_46, kd_47, kd_48, kd_49, kd_50, kd_51, kd_52, kd_53, kd_54, kd_55, kd_56, kd_57, kd_58, kd_59, ln_47, ln_48, ln_49, ln_50, ln_51, ln_52, ln_53, ln_54, ln_55, ln_56, ln_57, ln_58, ln_59, Option.toList_some, Option.toList_none, List.cons_append, List.nil_append, true_and, and_true, if_true, if_false, true_or, or_true, Nat.reduceAdd, Int.reduceAdd, Bool.false_eq_true, tn_0, tn_1, tn_2, tn_3, tn_4, tn_5, tn_6, tn_7, Mg47, h0, hsh]
      refine ⟨vlit (by decide), fun _ => ?_, fun h => absurd (Int32.le_refl _) h⟩
      refine J_blk a_X6_freeFor_118 ?_
      simp only [b_X6_freeFor_118, w_iload4, w_ireti, kd_46, kd_47, kd_48, kd_49, kd_50, kd_51, kd_52, kd_53, kd_54, kd_55, kd_56, kd_57, kd_58, kd_59, ln_47, ln_48, ln_49, ln_50, ln_51, ln_52, ln_53, ln_54, ln_55, ln_56, ln_57, ln_58, ln_59, Option.toList_some, Option.toList_none, List.cons_append, List.nil_append, true_and, and_true, if_true, if_false, true_or, or_true, Nat.reduceAdd, Int.reduceAdd, Bool.false_eq_true, tn_0, tn_1, tn_2, tn_3, tn_4, tn_5, tn_6, tn_7]
      exact ⟨rfl, g, Mg_self M g⟩
    · intro k hk ih g z6
      have hlt := ffS_lt (M.1 47) n o v k (by omega)
      rw [ffS] at ih
      generalize ffS (M.1 47) n o v k = q at *
      have old : ∀ (g : Nat → Int32) (z6 : Option Value), ¬ ((∀ b, q = some b → pcN k < pcN b) ∧ nI k &&& ((bsF (sd (M.1 47)) n &&& ((1 : Int32) <<< (nI o &&& 31) ^^^ -1)) ^^^ -1) = 0 ∧ frB (M.1 47) n o v (nI k) = true) → J 5 mX6_freeFor 108 [some (.ref 46), some (.int (nI o)), some (.int v), some (.int (bsF (sd (M.1 47)) n &&& ((1 : Int32) <<< (nI o &&& 31) ^^^ -1))), some (.int (oI q)), some (.int (nI k)), z6] [] (Mg M g (M.1 47)) (Rs (some (.int (oI (ffS (M.1 47) n o v (2 ^ n))))) M) := by
        intro g z6 hc
        rw [if_neg hc] at ih
        refine J_blk a_X6_freeFor_108 ?_
        simp only [b_X6_freeFor_108, w_iload4, w_nil, kd_46, kd_47, kd_48, kd_49, kd_50, kd_51, kd_52, kd_53, kd_54, kd_55, kd_56, kd_57, kd_58, kd_59, ln_47, ln_48, ln_49, ln_50, ln_51, ln_52, ln_53, ln_54, ln_55, ln_56, ln_57, ln_58, ln_59, Option.toList_some, Option.toList_none, List.cons_append, List.nil_append, true_and, and_true, if_true, if_false, true_or, or_true, Nat.reduceAdd, Int.reduceAdd, Bool.false_eq_true, tn_0, tn_1, tn_2, tn_3, tn_4, tn_5, tn_6, tn_7, nI_1]
        refine J_blk a_X6_freeFor_110 ?_
        simp only [b_X6_freeFor_110, w_istore4, nl_4n, nl_4i, nl_4a, w_iinc5, nl_5n, nl_5i, nl_5a, ci_1, w_goto, kd_46, kd_47, kd_48, kd_49, kd_50, kd_51, kd_52, kd_53, kd_54, kd_55, kd_56, kd_57, kd_58, kd_59, ln_47, ln_48, ln_49, ln_50, ln_51, ln_52, ln_53, ln_54, ln_55, ln_56, ln_57, ln_58, ln_59, Option.toList_some, Option.toList_none, List.cons_append, List.nil_append, true_and, and_true, if_true, if_false, true_or, or_true, Nat.reduceAdd, Int.reduceAdd, Bool.false_eq_true, tn_0, tn_1, tn_2, tn_3, tn_4, tn_5, tn_6, tn_7, nI_1]
        exact ih g z6
      have on : ∀ (z6 : Option Value), (∀ b, q = some b → pcN k < pcN b) → J 5 mX6_freeFor 83 [some (.ref 46), some (.int (nI o)), some (.int v), some (.int (bsF (sd (M.1 47)) n &&& ((1 : Int32) <<< (nI o &&& 31) ^^^ -1))), some (.int (oI q)), some (.int (nI k)), z6] [] (Mg M g (M.1 47)) (Rs (some (.int (oI (ffS (M.1 47) n o v (2 ^ n))))) M) := by
        intro z6 hf
        refine J_blk a_X6_freeFor_83 ?_
        simp only [b_X6_freeFor_83, w_iload5, w_iload_n3, w_iconst_m1, w_ixor, w_iand, w_if_ne, w_nil, kd_46, kd_47, kd_48, kd_49, kd_50, kd_51, kd_52, kd_53, kd_54, kd_55, kd_56, kd_57, kd_58, kd_59, ln_47, ln_48, ln_49, ln_50, ln_51, ln_52, ln_53, ln_54, ln_55, ln_56, ln_57, ln_58, ln_59, Option.toList_some, Option.toList_none, List.cons_append, List.nil_append, true_and, and_true, if_true, if_false, true_or, or_true, Nat.reduceAdd, Int.reduceAdd, Bool.false_eq_true, tn_0, tn_1, tn_2, tn_3, tn_4, tn_5, tn_6, tn_7]
        refine ⟨fun c => old g z6 (fun h => c h.2.1), fun c => ?_⟩
        refine J_blk a_X6_freeFor_92 ?_
        simp only [b_X6_freeFor_92, w_aload_n0, w_iload_n1, w_iload_n2, w_iload5, w_nil, kd_46, kd_47, kd_48, kd_49, kd_50, kd_51, kd_52, kd_53, kd_54, kd_55, kd_56, kd_57, kd_58, kd_59, ln_47, ln_48, ln_49, ln_50, ln_51, ln_52, ln_53, ln_54, ln_55, ln_56, ln_57, ln_58, ln_59, Option.toList_some, Option.toList_none, List.cons_append, List.nil_append, true_and, and_true, if_true, if_false, true_or, or_true, Nat.reduceAdd, Int.reduceAdd, Bool.false_eq_true, tn_0, tn_1, tn_2, tn_3, tn_4, tn_5, tn_6, tn_7]
        refine J_callVr (ci := 6) (isFree_ok n o v _ _ (by rw [Mg47]; exact hw) hj) k_X6_freeFor_97 o_X6_isFree rfl rfl rfl rfl (by decide) rfl (Nat.le_of_ble_eq_true rfl) ?_
        rw [Mg47, Mg_asd]
        by_cases hb : frB (M.1 47) n o v (nI k) = true
        · rw [if_pos ⟨hf, c, hb⟩] at ih
          rw [hb]
          refine J_blk a_X6_freeFor_100 ?_
          simp only [b_X6_freeFor_100, w_if_eq, w_nil, kd_46, kd_47, kd_48, kd_49, kd_50, kd_51, kd_52, kd_53, kd_54, kd_55, kd_56, kd_57, kd_58, kd_59, ln_47, ln_48, ln_49, ln_50, ln_51, ln_52, ln_53, ln_54, ln_55, ln_56, ln_57, ln_58, ln_59, Option.toList_some, Option.toList_none, List.cons_append, List.nil_append, true_and, and_true, if_true, if_false, true_or, or_true, Nat.reduceAdd, Int.reduceAdd, Bool.false_eq_true, tn_0, tn_1, tn_2, tn_3, tn_4, tn_5, tn_6, tn_7]
          refine ⟨fun h => absurd h (by decide), fun _ => ?_⟩
          refine J_blk a_X6_freeFor_103 ?_
          simp only [b_X6_freeFor_103, w_iload5, w_goto, kd_46, kd_47, kd_48, kd_49, kd_50, kd_51, kd_52, kd_53, kd_54, kd_55, kd_56, kd_57, kd_58, kd_59, ln_47, ln_48, ln_49, ln_50, ln_51, ln_52, ln_53, ln_54, ln_55, ln_56, ln_57, ln_58, ln_59, Option.toList_some, Option.toList_none, List.cons_append, List.nil_append, true_and, and_true, if_true, if_false, true_or, or_true, Nat.reduceAdd, Int.reduceAdd, Bool.false_eq_true, tn_0, tn_1, tn_2, tn_3, tn_4, tn_5, tn_6, tn_7, nI_1]
          refine J_blk a_X6_freeFor_110 ?_
          simp only [b_X6_freeFor_110, w_istore4, nl_4n, nl_4i, nl_4a, w_iinc5, nl_5n, nl_5i, nl_5a, ci_1, w_goto, kd_46, kd_47, kd_48, kd_49, kd_50, kd_51, kd_52, kd_53, kd_54, kd_55, kd_56, kd_57, kd_58, kd_59, ln_47, ln_48, ln_49, ln_50, ln_51, ln_52, ln_53, ln_54, ln_55, ln_56, ln_57, ln_58, ln_59, Option.toList_some, Option.toList_none, List.cons_append, List.nil_append, true_and, and_true, if_true, if_false, true_or, or_true, Nat.reduceAdd, Int.reduceAdd, Bool.false_eq_true, tn_0, tn_1, tn_2, tn_3, tn_4, tn_5, tn_6, tn_7, nI_1]
          exact ih _ z6
        · have hb' : frB (M.1 47) n o v (nI k) = false := by cases hh : frB (M.1 47) n o v (nI k) <;> simp_all
          rw [hb']
          refine J_blk a_X6_freeFor_100 ?_
          simp only [b_X6_freeFor_100, w_if_eq, w_nil, kd_46, kd_47, kd_48, kd_49, kd_50, kd_51, kd_52, kd_53, kd_54, kd_55, kd_56, kd_57, kd_58, kd_59, ln_47, ln_48, ln_49, ln_50, ln_51, ln_52, ln_53, ln_54, ln_55, ln_56, ln_57, ln_58, ln_59, Option.toList_some, Option.toList_none, List.cons_append, List.nil_append, true_and, and_true, if_true, if_false, true_or, or_true, Nat.reduceAdd, Int.reduceAdd, Bool.false_eq_true, tn_0, tn_1, tn_2, tn_3, tn_4, tn_5, tn_6, tn_7]
          exact ⟨fun _ => old _ z6 (fun h => hb h.2.2), fun h => absurd rfl h⟩
      refine J_blk a_X6_freeFor_40 ?_
      simp only [b_X6_freeFor_40, w_iload5, w_iconst_1, w_aload_n0, w_getf6, ne0_1, w_iconst_0, w_iald, w_ishl, w_icmp_ge, w_nil, kd_46, kd_47, kd_48, kd_49, kd_50, kd_51, kd_52, kd_53, kd_54, kd_55, kd_56, kd_57, kd_58, kd_59, ln_47, ln_48, ln_49, ln_50, ln_51, ln_52, ln_53, ln_54, ln_55, ln_56, ln_57, ln_58, ln_59, Option.toList_some, Option.toList_none, List.cons_append, List.nil_append, true_and, and_true, if_true, if_false, true_or, or_true, Nat.reduceAdd, Int.reduceAdd, Bool.false_eq_true, tn_0, tn_1, tn_2, tn_3, tn_4, tn_5, tn_6, tn_7, Mg47, h0, hsh]
      refine ⟨vlit (by decide), fun h => absurd h (nI_ge hk (by omega)), fun _ => ?_⟩
      refine J_blk a_X6_freeFor_53 ?_
      simp only [b_X6_freeFor_53, w_iload4, w_if_lt, w_nil, kd_46, kd_47, kd_48, kd_49, kd_50, kd_51, kd_52, kd_53, kd_54, kd_55, kd_56, kd_57, kd_58, kd_59, ln_47, ln_48, ln_49, ln_50, ln_51, ln_52, ln_53, ln_54, ln_55, ln_56, ln_57, ln_58, ln_59, Option.toList_some, Option.toList_none, List.cons_append, List.nil_append, true_and, and_true, if_true, if_false, true_or, or_true, Nat.reduceAdd, Int.reduceAdd, Bool.false_eq_true, tn_0, tn_1, tn_2, tn_3, tn_4, tn_5, tn_6, tn_7]
      cases q with
      | none =>
        refine ⟨fun _ => ?_, fun h => absurd (show oI none < 0 by decide) h⟩
        refine J_blk a_X6_freeFor_71 ?_
        simp only [b_X6_freeFor_71, w_iconst_1, w_goto, kd_46, kd_47, kd_48, kd_49, kd_50, kd_51, kd_52, kd_53, kd_54, kd_55, kd_56, kd_57, kd_58, kd_59, ln_47, ln_48, ln_49, ln_50, ln_51, ln_52, ln_53, ln_54, ln_55, ln_56, ln_57, ln_58, ln_59, Option.toList_some, Option.toList_none, List.cons_append, List.nil_append, true_and, and_true, if_true, if_false, true_or, or_true, Nat.reduceAdd, Int.reduceAdd, Bool.false_eq_true, tn_0, tn_1, tn_2, tn_3, tn_4, tn_5, tn_6, tn_7]
        refine J_blk a_X6_freeFor_76 ?_
        simp only [b_X6_freeFor_76, w_istore6, nl_6n, nl_6i, nl_6a, w_iload6, w_if_eq, w_nil, kd_46, kd_47, kd_48, kd_49, kd_50, kd_51, kd_52, kd_53, kd_54, kd_55, kd_56, kd_57, kd_58, kd_59, ln_47, ln_48, ln_49, ln_50, ln_51, ln_52, ln_53, ln_54, ln_55, ln_56, ln_57, ln_58, ln_59, Option.toList_some, Option.toList_none, List.cons_append, List.nil_append, true_and, and_true, if_true, if_false, true_or, or_true, Nat.reduceAdd, Int.reduceAdd, Bool.false_eq_true, tn_0, tn_1, tn_2, tn_3, tn_4, tn_5, tn_6, tn_7]
        exact ⟨fun h => absurd h (by decide), fun _ => on _ (fun b hb => by simp at hb)⟩
      | some b =>
        have hb := hlt b rfl
        refine ⟨fun h => absurd h (nI_pos (by omega)), fun _ => ?_⟩
        rw [show oI (some b) = nI b from rfl] at *
        refine J_blk a_X6_freeFor_58 ?_
        simp only [b_X6_freeFor_58, w_iload5, w_nil, kd_46, kd_47, kd_48, kd_49, kd_50, kd_51, kd_52, kd_53, kd_54, kd_55, kd_56, kd_57, kd_58, kd_59, ln_47, ln_48, ln_49, ln_50, ln_51, ln_52, ln_53, ln_54, ln_55, ln_56, ln_57, ln_58, ln_59, Option.toList_some, Option.toList_none, List.cons_append, List.nil_append, true_and, and_true, if_true, if_false, true_or, or_true, Nat.reduceAdd, Int.reduceAdd, Bool.false_eq_true, tn_0, tn_1, tn_2, tn_3, tn_4, tn_5, tn_6, tn_7]
        refine J_callSr (size_ok k _ (by omega)) k_X6_freeFor_60 o_X6_size rfl (by decide) rfl (Nat.le_of_ble_eq_true rfl) ?_
        refine J_blk a_X6_freeFor_63 ?_
        simp only [b_X6_freeFor_63, w_iload4, w_nil, kd_46, kd_47, kd_48, kd_49, kd_50, kd_51, kd_52, kd_53, kd_54, kd_55, kd_56, kd_57, kd_58, kd_59, ln_47, ln_48, ln_49, ln_50, ln_51, ln_52, ln_53, ln_54, ln_55, ln_56, ln_57, ln_58, ln_59, Option.toList_some, Option.toList_none, List.cons_append, List.nil_append, true_and, and_true, if_true, if_false, true_or, or_true, Nat.reduceAdd, Int.reduceAdd, Bool.false_eq_true, tn_0, tn_1, tn_2, tn_3, tn_4, tn_5, tn_6, tn_7]
        refine J_callSr (size_ok b _ hb) k_X6_freeFor_65 o_X6_size rfl (by decide) rfl (Nat.le_of_ble_eq_true rfl) ?_
        refine J_blk a_X6_freeFor_68 ?_
        simp only [b_X6_freeFor_68, w_icmp_ge, w_nil, kd_46, kd_47, kd_48, kd_49, kd_50, kd_51, kd_52, kd_53, kd_54, kd_55, kd_56, kd_57, kd_58, kd_59, ln_47, ln_48, ln_49, ln_50, ln_51, ln_52, ln_53, ln_54, ln_55, ln_56, ln_57, ln_58, ln_59, Option.toList_some, Option.toList_none, List.cons_append, List.nil_append, true_and, and_true, if_true, if_false, true_or, or_true, Nat.reduceAdd, Int.reduceAdd, Bool.false_eq_true, tn_0, tn_1, tn_2, tn_3, tn_4, tn_5, tn_6, tn_7, pc_le]
        refine ⟨fun c => ?_, fun c => ?_⟩
        · refine J_blk a_X6_freeFor_75 ?_
          simp only [b_X6_freeFor_75, w_iconst_0, w_nil, kd_46, kd_47, kd_48, kd_49, kd_50, kd_51, kd_52, kd_53, kd_54, kd_55, kd_56, kd_57, kd_58, kd_59, ln_47, ln_48, ln_49, ln_50, ln_51, ln_52, ln_53, ln_54, ln_55, ln_56, ln_57, ln_58, ln_59, Option.toList_some, Option.toList_none, List.cons_append, List.nil_append, true_and, and_true, if_true, if_false, true_or, or_true, Nat.reduceAdd, Int.reduceAdd, Bool.false_eq_true, tn_0, tn_1, tn_2, tn_3, tn_4, tn_5, tn_6, tn_7]
          refine J_blk a_X6_freeFor_76 ?_
          simp only [b_X6_freeFor_76, w_istore6, nl_6n, nl_6i, nl_6a, w_iload6, w_if_eq, w_nil, kd_46, kd_47, kd_48, kd_49, kd_50, kd_51, kd_52, kd_53, kd_54, kd_55, kd_56, kd_57, kd_58, kd_59, ln_47, ln_48, ln_49, ln_50, ln_51, ln_52, ln_53, ln_54, ln_55, ln_56, ln_57, ln_58, ln_59, Option.toList_some, Option.toList_none, List.cons_append, List.nil_append, true_and, and_true, if_true, if_false, true_or, or_true, Nat.reduceAdd, Int.reduceAdd, Bool.false_eq_true, tn_0, tn_1, tn_2, tn_3, tn_4, tn_5, tn_6, tn_7]
          exact ⟨fun _ => old g _ (fun h => absurd (h.1 b rfl) (by omega)), fun h => absurd trivial h⟩
        · refine J_blk a_X6_freeFor_71 ?_
          simp only [b_X6_freeFor_71, w_iconst_1, w_goto, kd_46, kd_47, kd_48, kd_49, kd_50, kd_51, kd_52, kd_53, kd_54, kd_55, kd_56, kd_57, kd_58, kd_59, ln_47, ln_48, ln_49, ln_50, ln_51, ln_52, ln_53, ln_54, ln_55, ln_56, ln_57, ln_58, ln_59, Option.toList_some, Option.toList_none, List.cons_append, List.nil_append, true_and, and_true, if_true, if_false, true_or, or_true, Nat.reduceAdd, Int.reduceAdd, Bool.false_eq_true, tn_0, tn_1, tn_2, tn_3, tn_4, tn_5, tn_6, tn_7]
          refine J_blk a_X6_freeFor_76 ?_
          simp only [b_X6_freeFor_76, w_istore6, nl_6n, nl_6i, nl_6a, w_iload6, w_if_eq, w_nil, kd_46, kd_47, kd_48, kd_49, kd_50, kd_51, kd_52, kd_53, kd_54, kd_55, kd_56, kd_57, kd_58, kd_59, ln_47, ln_48, ln_49, ln_50, ln_51, ln_52, ln_53, ln_54, ln_55, ln_56, ln_57, ln_58, ln_59, Option.toList_some, Option.toList_none, List.cons_append, List.nil_append, true_and, and_true, if_true, if_false, true_or, or_true, Nat.reduceAdd, Int.reduceAdd, Bool.false_eq_true, tn_0, tn_1, tn_2, tn_3, tn_4, tn_5, tn_6, tn_7]
          exact ⟨fun h => absurd h (by decide), fun _ => on _ (fun b' hb' => by cases hb'; omega)⟩
  have go : J 5 mX6_freeFor 22 [some (.ref 46), some (.int (nI o)), some (.int v), none, none, none, none] [] M (Rs (some (.int (oI (ffS (M.1 47) n o v (2 ^ n))))) M) := by
    have l0 := loop 0 (Nat.zero_le _) (M.1 49) none
    rw [← Mg_ini] at l0
    refine J_blk a_X6_freeFor_22 ?_
    simp only [b_X6_freeFor_22, w_aload_n0, w_nil, kd_46, kd_47, kd_48, kd_49, kd_50, kd_51, kd_52, kd_53, kd_54, kd_55, kd_56, kd_57, kd_58, kd_59, ln_47, ln_48, ln_49, ln_50, ln_51, ln_52, ln_53, ln_54, ln_55, ln_56, ln_57, ln_58, ln_59, Option.toList_some, Option.toList_none, List.cons_append, List.nil_append, true_and, and_true, if_true, if_false, true_or, or_true, Nat.reduceAdd, Int.reduceAdd, Bool.false_eq_true, tn_0, tn_1, tn_2, tn_3, tn_4, tn_5, tn_6, tn_7]
    refine J_callVr (ci := 6) (standing_ok n M hw) k_X6_freeFor_23 o_X6_standing rfl rfl rfl rfl (by decide) rfl (Nat.le_of_ble_eq_true rfl) ?_
    refine J_blk a_X6_freeFor_26 ?_
    simp only [b_X6_freeFor_26, w_iconst_1, w_iload_n1, w_ishl, w_iconst_m1, w_ixor, w_iand, w_istore3, nl_3n, nl_3i, nl_3a, w_bipush, ci_m3, w_istore4, nl_4n, nl_4i, nl_4a, w_iconst_0, w_istore5, nl_5n, nl_5i, nl_5a, w_nil, kd_46, kd_47, kd_48, kd_49, kd_50, kd_51, kd_52, kd_53, kd_54, kd_55, kd_56, kd_57, kd_58, kd_59, ln_47, ln_48, ln_49, ln_50, ln_51, ln_52, ln_53, ln_54, ln_55, ln_56, ln_57, ln_58, ln_59, Option.toList_some, Option.toList_none, List.cons_append, List.nil_append, true_and, and_true, if_true, if_false, true_or, or_true, Nat.reduceAdd, Int.reduceAdd, Bool.false_eq_true, tn_0, tn_1, tn_2, tn_3, tn_4, tn_5, tn_6, tn_7]
    exact l0
  refine K_go 2 o_X6_freeFor [none, none, none, none] rfl (Nat.le_of_ble_eq_true rfl) ?_
  simp only [lvA_i, lvA_a, lvA_l, lvA_nil, List.cons_append, List.nil_append]
  refine J_blk a_X6_freeFor_0 ?_
  simp only [b_X6_freeFor_0, w_aload_n0, w_iload_n1, w_nil, kd_46, kd_47, kd_48, kd_49, kd_50, kd_51, kd_52, kd_53, kd_54, kd_55, kd_56, kd_57, kd_58, kd_59, ln_47, ln_48, ln_49, ln_50, ln_51, ln_52, ln_53, ln_54, ln_55, ln_56, ln_57, ln_58, ln_59, Option.toList_some, Option.toList_none, List.cons_append, List.nil_append, true_and, and_true, if_true, if_false, true_or, or_true, Nat.reduceAdd, Int.reduceAdd, Bool.false_eq_true, tn_0, tn_1, tn_2, tn_3, tn_4, tn_5, tn_6, tn_7]
  refine J_callVr (ci := 6) (isOne_ok _ _) k_X6_freeFor_2 o_X6_isOne rfl rfl rfl rfl (by decide) rfl (Nat.le_of_ble_eq_true rfl) ?_
  rw [h0, if_pos ho]
  refine J_blk a_X6_freeFor_5 ?_
  simp only [b_X6_freeFor_5, w_if_eq, w_nil, kd_46, kd_47, kd_48, kd_49, kd_50, kd_51, kd_52, kd_53, kd_54, kd_55, kd_56, kd_57, kd_58, kd_59, ln_47, ln_48, ln_49, ln_50, ln_51, ln_52, ln_53, ln_54, ln_55, ln_56, ln_57, ln_58, ln_59, Option.toList_some, Option.toList_none, List.cons_append, List.nil_append, true_and, and_true, if_true, if_false, true_or, or_true, Nat.reduceAdd, Int.reduceAdd, Bool.false_eq_true, tn_0, tn_1, tn_2, tn_3, tn_4, tn_5, tn_6, tn_7]
  refine ⟨fun c11 => ?_, fun c11 => ?_⟩
  · first
      | exact absurd c11 (by decide)
      | (refine J_blk a_X6_freeFor_20 ?_
         simp only [b_X6_freeFor_20, w_iconst_m1, w_ireti, kd_46, kd_47, kd_48, kd_49, kd_50, kd_51, kd_52, kd_53, kd_54, kd_55, kd_56, kd_57, kd_58, kd_59, ln_47, ln_48, ln_49, ln_50, ln_51, ln_52, ln_53, ln_54, ln_55, ln_56, ln_57, ln_58, ln_59, Option.toList_some, Option.toList_none, List.cons_append, List.nil_append, true_and, and_true, if_true, if_false, true_or, or_true, Nat.reduceAdd, Int.reduceAdd, Bool.false_eq_true, tn_0, tn_1, tn_2, tn_3, tn_4, tn_5, tn_6, tn_7]
         first | exact ⟨rfl, rfl⟩ | (simp_all [Rt]))
  · first
      | exact absurd c11 (by decide)
      | (refine J_blk a_X6_freeFor_8 ?_
         simp only [b_X6_freeFor_8, w_iload_n2, w_i2l, w_lconst_0, w_ldc2, cl_99, w_nil, kd_46, kd_47, kd_48, kd_49, kd_50, kd_51, kd_52, kd_53, kd_54, kd_55, kd_56, kd_57, kd_58, kd_59, ln_47, ln_48, ln_49, ln_50, ln_51, ln_52, ln_53, ln_54, ln_55, ln_56, ln_57, ln_58, ln_59, Option.toList_some, Option.toList_none, List.cons_append, List.nil_append, true_and, and_true, if_true, if_false, true_or, or_true, Nat.reduceAdd, Int.reduceAdd, Bool.false_eq_true, tn_0, tn_1, tn_2, tn_3, tn_4, tn_5, tn_6, tn_7]
         refine J_callSr (isIn_ok _ _ _ _) k_X6_freeFor_14 o_X6_isIn rfl (by decide) rfl (Nat.le_of_ble_eq_true rfl) ?_
         (simp only [l_le_1, l_le_2, l_le_3, l_le_5, l_le_7, l_le_8, l_le_9, l_le_10, l_le_13, l_le_20, l_le_30, l_le_60, l_le_99, l_le_9999, l_ge_0, l_ge_1, l_ge_6, l_ge_m1, i64_le]; rw [if_pos (by first | exact h1 | exact h2 | exact h3 | exact h4)])
         refine J_blk a_X6_freeFor_17 ?_
         simp only [b_X6_freeFor_17, w_if_ne, w_nil, kd_46, kd_47, kd_48, kd_49, kd_50, kd_51, kd_52, kd_53, kd_54, kd_55, kd_56, kd_57, kd_58, kd_59, ln_47, ln_48, ln_49, ln_50, ln_51, ln_52, ln_53, ln_54, ln_55, ln_56, ln_57, ln_58, ln_59, Option.toList_some, Option.toList_none, List.cons_append, List.nil_append, true_and, and_true, if_true, if_false, true_or, or_true, Nat.reduceAdd, Int.reduceAdd, Bool.false_eq_true, tn_0, tn_1, tn_2, tn_3, tn_4, tn_5, tn_6, tn_7]
         refine ⟨fun c12 => ?_, fun c12 => ?_⟩
         · first
             | exact absurd c12 (by decide)
             | (exact go)
         · first
             | exact absurd c12 (by decide)
             | (refine J_blk a_X6_freeFor_20 ?_
                simp only [b_X6_freeFor_20, w_iconst_m1, w_ireti, kd_46, kd_47, kd_48, kd_49, kd_50, kd_51, kd_52, kd_53, kd_54, kd_55, kd_56, kd_57, kd_58, kd_59, ln_47, ln_48, ln_49, ln_50, ln_51, ln_52, ln_53, ln_54, ln_55, ln_56, ln_57, ln_58, ln_59, Option.toList_some, Option.toList_none, List.cons_append, List.nil_append, true_and, and_true, if_true, if_false, true_or, or_true, Nat.reduceAdd, Int.reduceAdd, Bool.false_eq_true, tn_0, tn_1, tn_2, tn_3, tn_4, tn_5, tn_6, tn_7]
                first | exact ⟨rfl, rfl⟩ | (simp_all [Rt])))

