/-! the class: rows, odds -/
theorem bI_sd (s : Nat → Int32) (o : Nat) : bI (sd s o) = bS s o := by unfold bI bS; rfl
/-- only the Trees now and trial, the rows and their number may have changed -/
def FP (M M' : Mm) : Prop := (∀ k, k ≠ 6 → M'.1 0 k = M.1 0 k) ∧ (∀ c, 18 < c → c ≠ 30 → M'.1 c = M.1 c) ∧ M'.2 = M.2
section RW
variable {n : Nat} {s : Nat → Int32} {M : Mm}
theorem cprove_f (hw : WF s n) (hx : RX M 1 s n) (o v : Int32) (h : ¬ ((0 ≤ o ∧ o < nI n) ∧ (1 ≤ v ∧ v ≤ 10))) : K 2 mX5_prove [.ref 0, .int o, .int v] M (Rt (some (.int (-1))) M) := by
  refine K_go 2 o_X5_prove [none, none] rfl (Nat.le_of_ble_eq_true rfl) ?_
  simp only [lvA_i, lvA_a, lvA_l, lvA_nil, List.cons_append, List.nil_append]
  refine J_blk a_X5_prove_0 ?_
  simp only [b_X5_prove_0, w_aload_n0, w_getf5, ne0_1, w_iload_n1, w_nil, kd_0, kd_1, kd_2, kd_3, kd_4, kd_5, kd_6, kd_7, kd_10, kd_11, kd_12, kd_13, kd_14, kd_15, kd_16, kd_19, kd_28, kd_29, kd_30, kd_31, kd_32, kd_33, kd_34, kd_35, kd_36, kd_37, kd_38, kd_39, kd_40, kd_41, kd_42, kd_43, kd_44, kd_45, ln_2, ln_3, ln_4, ln_5, ln_6, ln_7, ln_11, ln_12, ln_13, ln_14, ln_15, ln_16, ln_29, ln_30, ln_32, ln_33, ln_34, ln_35, ln_36, ln_37, ln_38, ln_40, ln_41, ln_42, ln_43, ln_45, Option.toList_some, Option.toList_none, List.cons_append, List.nil_append, true_and, and_true, if_true, if_false, true_or, or_true, Nat.reduceAdd, Int.reduceAdd, Bool.false_eq_true, tn_0, tn_1, tn_2, tn_3, tn_4, tn_5, tn_6, tn_7]
  refine J_callVr (ci := 4) (has2 hw hx (Or.inl rfl) _) k_X5_prove_5 o_X4_has (rfl) rfl rfl rfl (by decide) rfl (Nat.le_of_ble_eq_true rfl) ?_
  refine J_blk a_X5_prove_8 ?_
  simp only [b_X5_prove_8, w_if_eq, w_nil, kd_0, kd_1, kd_2, kd_3, kd_4, kd_5, kd_6, kd_7, kd_10, kd_11, kd_12, kd_13, kd_14, kd_15, kd_16, kd_19, kd_28, kd_29, kd_30, kd_31, kd_32, kd_33, kd_34, kd_35, kd_36, kd_37, kd_38, kd_39, kd_40, kd_41, kd_42, kd_43, kd_44, kd_45, ln_2, ln_3, ln_4, ln_5, ln_6, ln_7, ln_11, ln_12, ln_13, ln_14, ln_15, ln_16, ln_29, ln_30, ln_32, ln_33, ln_34, ln_35, ln_36, ln_37, ln_38, ln_40, ln_41, ln_42, ln_43, ln_45, Option.toList_some, Option.toList_none, List.cons_append, List.nil_append, true_and, and_true, if_true, if_false, true_or, or_true, Nat.reduceAdd, Int.reduceAdd, Bool.false_eq_true, tn_0, tn_1, tn_2, tn_3, tn_4, tn_5, tn_6, tn_7]
  refine ⟨fun c1 => ?_, fun c1 => ?_⟩
  · refine J_blk a_X5_prove_21 ?_
    simp only [b_X5_prove_21, w_iconst_m1, w_ireti, kd_0, kd_1, kd_2, kd_3, kd_4, kd_5, kd_6, kd_7, kd_10, kd_11, kd_12, kd_13, kd_14, kd_15, kd_16, kd_19, kd_28, kd_29, kd_30, kd_31, kd_32, kd_33, kd_34, kd_35, kd_36, kd_37, kd_38, kd_39, kd_40, kd_41, kd_42, kd_43, kd_44, kd_45, ln_2, ln_3, ln_4, ln_5, ln_6, ln_7, ln_11, ln_12, ln_13, ln_14, ln_15, ln_16, ln_29, ln_30, ln_32, ln_33, ln_34, ln_35, ln_36, ln_37, ln_38, ln_40, ln_41, ln_42, ln_43, ln_45, Option.toList_some, Option.toList_none, List.cons_append, List.nil_append, true_and, and_true, if_true, if_false, true_or, or_true, Nat.reduceAdd, Int.reduceAdd, Bool.false_eq_true, tn_0, tn_1, tn_2, tn_3, tn_4, tn_5, tn_6, tn_7]
    exact ⟨rfl, rfl⟩
  · refine J_blk a_X5_prove_11 ?_
    simp only [b_X5_prove_11, w_iload_n2, w_iconst_1, w_bipush, ci_10, w_nil, kd_0, kd_1, kd_2, kd_3, kd_4, kd_5, kd_6, kd_7, kd_10, kd_11, kd_12, kd_13, kd_14, kd_15, kd_16, kd_19, kd_28, kd_29, kd_30, kd_31, kd_32, kd_33, kd_34, kd_35, kd_36, kd_37, kd_38, kd_39, kd_40, kd_41, kd_42, kd_43, kd_44, kd_45, ln_2, ln_3, ln_4, ln_5, ln_6, ln_7, ln_11, ln_12, ln_13, ln_14, ln_15, ln_16, ln_29, ln_30, ln_32, ln_33, ln_34, ln_35, ln_36, ln_37, ln_38, ln_40, ln_41, ln_42, ln_43, ln_45, Option.toList_some, Option.toList_none, List.cons_append, List.nil_append, true_and, and_true, if_true, if_false, true_or, or_true, Nat.reduceAdd, Int.reduceAdd, Bool.false_eq_true, tn_0, tn_1, tn_2, tn_3, tn_4, tn_5, tn_6, tn_7]
    refine J_callSr (within_c _ _ _ _) k_X5_prove_15 o_X5_within rfl (by decide) rfl (Nat.le_of_ble_eq_true rfl) ?_
    refine J_blk a_X5_prove_18 ?_
    simp only [b_X5_prove_18, w_if_ne, w_nil, kd_0, kd_1, kd_2, kd_3, kd_4, kd_5, kd_6, kd_7, kd_10, kd_11, kd_12, kd_13, kd_14, kd_15, kd_16, kd_19, kd_28, kd_29, kd_30, kd_31, kd_32, kd_33, kd_34, kd_35, kd_36, kd_37, kd_38, kd_39, kd_40, kd_41, kd_42, kd_43, kd_44, kd_45, ln_2, ln_3, ln_4, ln_5, ln_6, ln_7, ln_11, ln_12, ln_13, ln_14, ln_15, ln_16, ln_29, ln_30, ln_32, ln_33, ln_34, ln_35, ln_36, ln_37, ln_38, ln_40, ln_41, ln_42, ln_43, ln_45, Option.toList_some, Option.toList_none, List.cons_append, List.nil_append, true_and, and_true, if_true, if_false, true_or, or_true, Nat.reduceAdd, Int.reduceAdd, Bool.false_eq_true, tn_0, tn_1, tn_2, tn_3, tn_4, tn_5, tn_6, tn_7]
    refine ⟨fun c2 => ?_, fun c2 => ?_⟩
    · exact absurd (by grind) h
    · refine J_blk a_X5_prove_21 ?_
      simp only [b_X5_prove_21, w_iconst_m1, w_ireti, kd_0, kd_1, kd_2, kd_3, kd_4, kd_5, kd_6, kd_7, kd_10, kd_11, kd_12, kd_13, kd_14, kd_15, kd_16, kd_19, kd_28, kd_29, kd_30, kd_31, kd_32, kd_33, kd_34, kd_35, kd_36, kd_37, kd_38, kd_39, kd_40, kd_41, kd_42, kd_43, kd_44, kd_45, ln_2, ln_3, ln_4, ln_5, ln_6, ln_7, ln_11, ln_12, ln_13, ln_14, ln_15, ln_16, ln_29, ln_30, ln_32, ln_33, ln_34, ln_35, ln_36, ln_37, ln_38, ln_40, ln_41, ln_42, ln_43, ln_45, Option.toList_some, Option.toList_none, List.cons_append, List.nil_append, true_and, and_true, if_true, if_false, true_or, or_true, Nat.reduceAdd, Int.reduceAdd, Bool.false_eq_true, tn_0, tn_1, tn_2, tn_3, tn_4, tn_5, tn_6, tn_7]
      exact ⟨rfl, rfl⟩
theorem cprove_t (hw : WF s n) (hl : WL s n) (hx : RX M 1 s n) (o y : Nat) (hj : o < n) (hy : 1 ≤ y) (hy2 : y ≤ 10) : K 4 mX5_prove [.ref 0, .int (nI o), .int (nI y)] M (Rq (some (.int (nI y))) (fun M' => RX M' 1 s n ∧ FP M M' ∧ M'.1 0 6 = nI y ∧ M'.1 30 = pvR s n o (M.1 30) y)) := by
  have h8 := hw.2.1
  have ho := ok1 hj (by omega)
  have h1 : 1 ≤ nI y ∧ nI y ≤ 10 := ok3 (m := 10) hy hy2 (by decide)
  have to : (nI o).toNatClampNeg = o := nI_clamp (by omega)
  have loop : ∀ k, k ≤ y → ∀ (M1 : Mm) (z : Option Value), RX M1 10 (yrs s n k) n → (∀ c, (c < 10 ∨ 18 < c) → c ≠ 30 → M1.1 c = M.1 c) → M1.2 = M.2 → M1.1 30 = pvR s n o (M.1 30) k → J 4 mX5_prove 30 [some (.ref 0), some (.int (nI o)), some (.int (nI y)), some (.int (nI k)), z] [] M1 (Rq (some (.int (nI y))) (fun M' => RX M' 1 s n ∧ FP M M' ∧ M'.1 0 6 = nI y ∧ M'.1 30 = pvR s n o (M.1 30) y)) := by
    refine down y ?_ ?_
    · intro M1 z g1 g2 g3 g4
      refine J_blk a_X5_prove_30 ?_
      simp only [b_X5_prove_30, w_iload_n3, w_iload_n2, w_icmp_ge, w_nil, kd_0, kd_1, kd_2, kd_3, kd_4, kd_5, kd_6, kd_7, kd_10, kd_11, kd_12, kd_13, kd_14, kd_15, kd_16, kd_19, kd_28, kd_29, kd_30, kd_31, kd_32, kd_33, kd_34, kd_35, kd_36, kd_37, kd_38, kd_39, kd_40, kd_41, kd_42, kd_43, kd_44, kd_45, ln_2, ln_3, ln_4, ln_5, ln_6, ln_7, ln_11, ln_12, ln_13, ln_14, ln_15, ln_16, ln_29, ln_30, ln_32, ln_33, ln_34, ln_35, ln_36, ln_37, ln_38, ln_40, ln_41, ln_42, ln_43, ln_45, Option.toList_some, Option.toList_none, List.cons_append, List.nil_append, true_and, and_true, if_true, if_false, true_or, or_true, Nat.reduceAdd, Int.reduceAdd, Bool.false_eq_true, tn_0, tn_1, tn_2, tn_3, tn_4, tn_5, tn_6, tn_7]
      refine ⟨fun _ => ?_, fun h => absurd (Int32.le_refl _) h⟩
      refine J_blk a_X5_prove_98 ?_
      simp only [b_X5_prove_98, w_aload_n0, w_iload_n2, w_putf5, w_ireti, kd_0, kd_1, kd_2, kd_3, kd_4, kd_5, kd_6, kd_7, kd_10, kd_11, kd_12, kd_13, kd_14, kd_15, kd_16, kd_19, kd_28, kd_29, kd_30, kd_31, kd_32, kd_33, kd_34, kd_35, kd_36, kd_37, kd_38, kd_39, kd_40, kd_41, kd_42, kd_43, kd_44, kd_45, ln_2, ln_3, ln_4, ln_5, ln_6, ln_7, ln_11, ln_12, ln_13, ln_14, ln_15, ln_16, ln_29, ln_30, ln_32, ln_33, ln_34, ln_35, ln_36, ln_37, ln_38, ln_40, ln_41, ln_42, ln_43, ln_45, Option.toList_some, Option.toList_none, List.cons_append, List.nil_append, true_and, and_true, if_true, if_false, true_or, or_true, Nat.reduceAdd, Int.reduceAdd, Bool.false_eq_true, tn_0, tn_1, tn_2, tn_3, tn_4, tn_5, tn_6, tn_7]
      refine ⟨rfl, RX_of hx (fun i hi => by rw [u1_o _ _ _ _ (by omega)]; exact g2 _ (by omega) (by omega)), ⟨fun k hk => ?_, fun c h1 h2 => ?_, g3⟩, by simp [u1], ?_⟩
      · rw [u1_x (Or.inr hk), g2 0 (by omega) (by omega)]
      · rw [u1_o _ _ _ _ (by omega)]; exact g2 c (by omega) h2
      · rw [u1_o _ _ _ _ (by omega)]; exact g4
    · intro k hk ih M1 z g1 g2 g3 g4
      have e3 : nI k * (3 : Int32) = nI (3 * k) := by rw [show (3 : Int32) = nI 3 from rfl, pk_mul, Nat.mul_comm]
      have a0 : (nI (3 * k)).toNatClampNeg = 3 * k := nI_clamp (by omega)
      have a1 : (nI (3 * k + 1)).toNatClampNeg = 3 * k + 1 := nI_clamp (by omega)
      have a2 : (nI (3 * k + 2)).toNatClampNeg = 3 * k + 2 := nI_clamp (by omega)
      refine J_blk a_X5_prove_30 ?_
      simp only [b_X5_prove_30, w_iload_n3, w_iload_n2, w_icmp_ge, w_nil, kd_0, kd_1, kd_2, kd_3, kd_4, kd_5, kd_6, kd_7, kd_10, kd_11, kd_12, kd_13, kd_14, kd_15, kd_16, kd_19, kd_28, kd_29, kd_30, kd_31, kd_32, kd_33, kd_34, kd_35, kd_36, kd_37, kd_38, kd_39, kd_40, kd_41, kd_42, kd_43, kd_44, kd_45, ln_2, ln_3, ln_4, ln_5, ln_6, ln_7, ln_11, ln_12, ln_13, ln_14, ln_15, ln_16, ln_29, ln_30, ln_32, ln_33, ln_34, ln_35, ln_36, ln_37, ln_38, ln_40, ln_41, ln_42, ln_43, ln_45, Option.toList_some, Option.toList_none, List.cons_append, List.nil_append, true_and, and_true, if_true, if_false, true_or, or_true, Nat.reduceAdd, Int.reduceAdd, Bool.false_eq_true, tn_0, tn_1, tn_2, tn_3, tn_4, tn_5, tn_6, tn_7]
      refine ⟨fun h => absurd h (nI_ge hk (by omega)), fun _ => ?_⟩
      refine J_blk a_X5_prove_35 ?_
      simp only [b_X5_prove_35, w_iload_n3, w_iconst_3, w_imul, w_istore4, nl_4n, nl_4i, nl_4a, w_aload_n0, w_getf5, ne0_30, w_iload4, w_iconst_2, w_iadd, ne0_10, w_nil, kd_0, kd_1, kd_2, kd_3, kd_4, kd_5, kd_6, kd_7, kd_10, kd_11, kd_12, kd_13, kd_14, kd_15, kd_16, kd_19, kd_28, kd_29, kd_30, kd_31, kd_32, kd_33, kd_34, kd_35, kd_36, kd_37, kd_38, kd_39, kd_40, kd_41, kd_42, kd_43, kd_44, kd_45, ln_2, ln_3, ln_4, ln_5, ln_6, ln_7, ln_11, ln_12, ln_13, ln_14, ln_15, ln_16, ln_29, ln_30, ln_32, ln_33, ln_34, ln_35, ln_36, ln_37, ln_38, ln_40, ln_41, ln_42, ln_43, ln_45, Option.toList_some, Option.toList_none, List.cons_append, List.nil_append, true_and, and_true, if_true, if_false, true_or, or_true, Nat.reduceAdd, Int.reduceAdd, Bool.false_eq_true, tn_0, tn_1, tn_2, tn_3, tn_4, tn_5, tn_6, tn_7, e3, ad2]
      refine J_callV (ci := 4) (passYear_c (WF_yrs hw k) (WL_yrs hl k) g1 (Or.inr (Or.inl rfl))) k_X5_prove_52 o_X4_passYear (rfl) rfl rfl rfl (by decide) rfl (Nat.le_of_ble_eq_true rfl) ?_
      rintro r M2 ⟨rfl, k1, k2, k3⟩
      have q4 : ∀ j v, (u1 M2 30 j v).1 14 o = yrs s n (k + 1) (8 + 6 * o + 2) := fun j v => by rw [u1_o _ _ _ _ (by omega)]; exact (k1.2.2.2.2.2.2 o hj).2.2.1
      have q11 : ∀ j v i w, (u1 (u1 M2 30 j v) 30 i w).1 10 11 = bsF (sd (yrs s n k)) n := fun j v i w => by rw [u1_o _ _ _ _ (by omega), u1_o _ _ _ _ (by omega)]; exact k3
      refine J_blk a_X5_prove_55 ?_
      simp only [b_X5_prove_55, w_iast, w_aload_n0, w_getf5, ne0_30, w_iload4, ne0_10, w_getf4, ne0_4, w_iload_n1, w_iald, w_iconst_1, w_iadd, w_nil, kd_0, kd_1, kd_2, kd_3, kd_4, kd_5, kd_6, kd_7, kd_10, kd_11, kd_12, kd_13, kd_14, kd_15, kd_16, kd_19, kd_28, kd_29, kd_30, kd_31, kd_32, kd_33, kd_34, kd_35, kd_36, kd_37, kd_38, kd_39, kd_40, kd_41, kd_42, kd_43, kd_44, kd_45, ln_2, ln_3, ln_4, ln_5, ln_6, ln_7, ln_11, ln_12, ln_13, ln_14, ln_15, ln_16, ln_29, ln_30, ln_32, ln_33, ln_34, ln_35, ln_36, ln_37, ln_38, ln_40, ln_41, ln_42, ln_43, ln_45, Option.toList_some, Option.toList_none, List.cons_append, List.nil_append, true_and, and_true, if_true, if_false, true_or, or_true, Nat.reduceAdd, Int.reduceAdd, Bool.false_eq_true, tn_0, tn_1, tn_2, tn_3, tn_4, tn_5, tn_6, tn_7, a2, a0, q4, q11, ad1, to]
      refine ⟨vinN (by omega) (by decide), vinN (by omega) (by decide), vinN (by omega) (by decide), ?_⟩
      refine J_callSr (bit_c _ (by omega) _) k_X5_prove_88 o_X5_bit rfl (by decide) rfl (Nat.le_of_ble_eq_true rfl) ?_
      rw [bt_sd h8 hj, bI_sd, show bS (yrs s n k) o = bS (yrs s n (k + 1)) o by unfold bS; rw [show sd (yrs s n (k + 1)) o = sd (yrs s n k) o from sd_year (WF_yrs hw k) hj]]
      refine J_blk a_X5_prove_91 ?_
      simp only [b_X5_prove_91, w_iast, w_iinc3, nl_3n, nl_3i, nl_3a, ci_1, w_goto, kd_0, kd_1, kd_2, kd_3, kd_4, kd_5, kd_6, kd_7, kd_10, kd_11, kd_12, kd_13, kd_14, kd_15, kd_16, kd_19, kd_28, kd_29, kd_30, kd_31, kd_32, kd_33, kd_34, kd_35, kd_36, kd_37, kd_38, kd_39, kd_40, kd_41, kd_42, kd_43, kd_44, kd_45, ln_2, ln_3, ln_4, ln_5, ln_6, ln_7, ln_11, ln_12, ln_13, ln_14, ln_15, ln_16, ln_29, ln_30, ln_32, ln_33, ln_34, ln_35, ln_36, ln_37, ln_38, ln_40, ln_41, ln_42, ln_43, ln_45, Option.toList_some, Option.toList_none, List.cons_append, List.nil_append, true_and, and_true, if_true, if_false, true_or, or_true, Nat.reduceAdd, Int.reduceAdd, Bool.false_eq_true, tn_0, tn_1, tn_2, tn_3, tn_4, tn_5, tn_6, tn_7, a1, nI_1]
      refine ⟨vinN (by omega) (by decide), ?_⟩
      have r2 : M2.1 30 = pvR s n o (M.1 30) k := by rw [k2.1 30 (by omega)]; exact g4
      refine ih _ _ (RX_of k1 (fun i hi => by rw [u1_o _ _ _ _ (by omega), u1_o _ _ _ _ (by omega), u1_o _ _ _ _ (by omega)])) (fun c h1 h2 => by rw [u1_o _ _ _ _ h2, u1_o _ _ _ _ h2, u1_o _ _ _ _ h2, k2.1 c (by omega)]; exact g2 c h1 h2) (by show M2.2 = M.2; rw [k2.2]; exact g3) ?_
      rw [pvR, ← r2]
      rw [u1_row (u1 (u1 M2 30 _ _) 30 _ _), su_at, u1_row (u1 M2 30 _ _), su_at, u1_row M2, su_at]
  have go : J 4 mX5_prove 23 [some (.ref 0), some (.int (nI o)), some (.int (nI y)), none, none] [] M (Rq (some (.int (nI y))) (fun M' => RX M' 1 s n ∧ FP M M' ∧ M'.1 0 6 = nI y ∧ M'.1 30 = pvR s n o (M.1 30) y)) := by
    refine J_blk a_X5_prove_23 ?_
    simp only [b_X5_prove_23, w_aload_n0, w_nil, kd_0, kd_1, kd_2, kd_3, kd_4, kd_5, kd_6, kd_7, kd_10, kd_11, kd_12, kd_13, kd_14, kd_15, kd_16, kd_19, kd_28, kd_29, kd_30, kd_31, kd_32, kd_33, kd_34, kd_35, kd_36, kd_37, kd_38, kd_39, kd_40, kd_41, kd_42, kd_43, kd_44, kd_45, ln_2, ln_3, ln_4, ln_5, ln_6, ln_7, ln_11, ln_12, ln_13, ln_14, ln_15, ln_16, ln_29, ln_30, ln_32, ln_33, ln_34, ln_35, ln_36, ln_37, ln_38, ln_40, ln_41, ln_42, ln_43, ln_45, Option.toList_some, Option.toList_none, List.cons_append, List.nil_append, true_and, and_true, if_true, if_false, true_or, or_true, Nat.reduceAdd, Int.reduceAdd, Bool.false_eq_true, tn_0, tn_1, tn_2, tn_3, tn_4, tn_5, tn_6, tn_7]
    refine J_callV (ci := 5) (tryNow_c h8 hx) k_X5_prove_24 o_X5_tryNow (rfl) rfl rfl rfl (by decide) rfl (Nat.le_of_ble_eq_true rfl) ?_
    rintro r M1 ⟨rfl, g1, g2⟩
    refine J_blk a_X5_prove_27 ?_
    simp only [b_X5_prove_27, w_pop_i, w_pop_a, w_iconst_0, w_istore3, nl_3n, nl_3i, nl_3a, w_nil, kd_0, kd_1, kd_2, kd_3, kd_4, kd_5, kd_6, kd_7, kd_10, kd_11, kd_12, kd_13, kd_14, kd_15, kd_16, kd_19, kd_28, kd_29, kd_30, kd_31, kd_32, kd_33, kd_34, kd_35, kd_36, kd_37, kd_38, kd_39, kd_40, kd_41, kd_42, kd_43, kd_44, kd_45, ln_2, ln_3, ln_4, ln_5, ln_6, ln_7, ln_11, ln_12, ln_13, ln_14, ln_15, ln_16, ln_29, ln_30, ln_32, ln_33, ln_34, ln_35, ln_36, ln_37, ln_38, ln_40, ln_41, ln_42, ln_43, ln_45, Option.toList_some, Option.toList_none, List.cons_append, List.nil_append, true_and, and_true, if_true, if_false, true_or, or_true, Nat.reduceAdd, Int.reduceAdd, Bool.false_eq_true, tn_0, tn_1, tn_2, tn_3, tn_4, tn_5, tn_6, tn_7]
    exact loop 0 (by omega) M1 _ g1 (fun c h1 _ => g2.1 c (by omega)) g2.2 (g2.1 30 (by omega))
  refine K_go 2 o_X5_prove [none, none] rfl (Nat.le_of_ble_eq_true rfl) ?_
  simp only [lvA_i, lvA_a, lvA_l, lvA_nil, List.cons_append, List.nil_append]
  refine J_blk a_X5_prove_0 ?_
  simp only [b_X5_prove_0, w_aload_n0, w_getf5, ne0_1, w_iload_n1, w_nil, kd_0, kd_1, kd_2, kd_3, kd_4, kd_5, kd_6, kd_7, kd_10, kd_11, kd_12, kd_13, kd_14, kd_15, kd_16, kd_19, kd_28, kd_29, kd_30, kd_31, kd_32, kd_33, kd_34, kd_35, kd_36, kd_37, kd_38, kd_39, kd_40, kd_41, kd_42, kd_43, kd_44, kd_45, ln_2, ln_3, ln_4, ln_5, ln_6, ln_7, ln_11, ln_12, ln_13, ln_14, ln_15, ln_16, ln_29, ln_30, ln_32, ln_33, ln_34, ln_35, ln_36, ln_37, ln_38, ln_40, ln_41, ln_42, ln_43, ln_45, Option.toList_some, Option.toList_none, List.cons_append, List.nil_append, true_and, and_true, if_true, if_false, true_or, or_true, Nat.reduceAdd, Int.reduceAdd, Bool.false_eq_true, tn_0, tn_1, tn_2, tn_3, tn_4, tn_5, tn_6, tn_7]
  refine J_callVr (ci := 4) (has2 hw hx (Or.inl rfl) _) k_X5_prove_5 o_X4_has (rfl) rfl rfl rfl (by decide) rfl (Nat.le_of_ble_eq_true rfl) ?_
  rw [if_pos ho]
  refine J_blk a_X5_prove_8 ?_
  simp only [b_X5_prove_8, w_if_eq, w_nil, kd_0, kd_1, kd_2, kd_3, kd_4, kd_5, kd_6, kd_7, kd_10, kd_11, kd_12, kd_13, kd_14, kd_15, kd_16, kd_19, kd_28, kd_29, kd_30, kd_31, kd_32, kd_33, kd_34, kd_35, kd_36, kd_37, kd_38, kd_39, kd_40, kd_41, kd_42, kd_43, kd_44, kd_45, ln_2, ln_3, ln_4, ln_5, ln_6, ln_7, ln_11, ln_12, ln_13, ln_14, ln_15, ln_16, ln_29, ln_30, ln_32, ln_33, ln_34, ln_35, ln_36, ln_37, ln_38, ln_40, ln_41, ln_42, ln_43, ln_45, Option.toList_some, Option.toList_none, List.cons_append, List.nil_append, true_and, and_true, if_true, if_false, true_or, or_true, Nat.reduceAdd, Int.reduceAdd, Bool.false_eq_true, tn_0, tn_1, tn_2, tn_3, tn_4, tn_5, tn_6, tn_7]
  refine ⟨fun c3 => ?_, fun c3 => ?_⟩
  · first
      | exact absurd c3 (by decide)
      | (refine J_blk a_X5_prove_21 ?_
         simp only [b_X5_prove_21, w_iconst_m1, w_ireti, kd_0, kd_1, kd_2, kd_3, kd_4, kd_5, kd_6, kd_7, kd_10, kd_11, kd_12, kd_13, kd_14, kd_15, kd_16, kd_19, kd_28, kd_29, kd_30, kd_31, kd_32, kd_33, kd_34, kd_35, kd_36, kd_37, kd_38, kd_39, kd_40, kd_41, kd_42, kd_43, kd_44, kd_45, ln_2, ln_3, ln_4, ln_5, ln_6, ln_7, ln_11, ln_12, ln_13, ln_14, ln_15, ln_16, ln_29, ln_30, ln_32, ln_33, ln_34, ln_35, ln_36, ln_37, ln_38, ln_40, ln_41, ln_42, ln_43, ln_45, Option.toList_some, Option.toList_none, List.cons_append, List.nil_append, true_and, and_true, if_true, if_false, true_or, or_true, Nat.reduceAdd, Int.reduceAdd, Bool.false_eq_true, tn_0, tn_1, tn_2, tn_3, tn_4, tn_5, tn_6, tn_7]
         first | exact ⟨rfl, rfl⟩ | (simp_all [Rt]))
  · first
      | exact absurd c3 (by decide)
      | (refine J_blk a_X5_prove_11 ?_
         simp only [b_X5_prove_11, w_iload_n2, w_iconst_1, w_bipush, ci_10, w_nil, kd_0, kd_1, kd_2, kd_3, kd_4, kd_5, kd_6, kd_7, kd_10, kd_11, kd_12, kd_13, kd_14, kd_15, kd_16, kd_19, kd_28, kd_29, kd_30, kd_31, kd_32, kd_33, kd_34, kd_35, kd_36, kd_37, kd_38, kd_39, kd_40, kd_41, kd_42, kd_43, kd_44, kd_45, ln_2, ln_3, ln_4, ln_5, ln_6, ln_7, ln_11, ln_12, ln_13, ln_14, ln_15, ln_16, ln_29, ln_30, ln_32, ln_33, ln_34, ln_35, ln_36, ln_37, ln_38, ln_40, ln_41, ln_42, ln_43, ln_45, Option.toList_some, Option.toList_none, List.cons_append, List.nil_append, true_and, and_true, if_true, if_false, true_or, or_true, Nat.reduceAdd, Int.reduceAdd, Bool.false_eq_true, tn_0, tn_1, tn_2, tn_3, tn_4, tn_5, tn_6, tn_7]
         refine J_callSr (within_c _ _ _ _) k_X5_prove_15 o_X5_within rfl (by decide) rfl (Nat.le_of_ble_eq_true rfl) ?_
         rw [if_pos (by first | exact h1 | exact h2 | exact h3 | exact h4)]
         refine J_blk a_X5_prove_18 ?_
         simp only [b_X5_prove_18, w_if_ne, w_nil, kd_0, kd_1, kd_2, kd_3, kd_4, kd_5, kd_6, kd_7, kd_10, kd_11, kd_12, kd_13, kd_14, kd_15, kd_16, kd_19, kd_28, kd_29, kd_30, kd_31, kd_32, kd_33, kd_34, kd_35, kd_36, kd_37, kd_38, kd_39, kd_40, kd_41, kd_42, kd_43, kd_44, kd_45, ln_2, ln_3, ln_4, ln_5, ln_6, ln_7, ln_11, ln_12, ln_13, ln_14, ln_15, ln_16, ln_29, ln_30, ln_32, ln_33, ln_34, ln_35, ln_36, ln_37, ln_38, ln_40, ln_41, ln_42, ln_43, ln_45, Option.toList_some, Option.toList_none, List.cons_append, List.nil_append, true_and, and_true, if_true, if_false, true_or, or_true, Nat.reduceAdd, Int.reduceAdd, Bool.false_eq_true, tn_0, tn_1, tn_2, tn_3, tn_4, tn_5, tn_6, tn_7]
         refine ⟨fun c4 => ?_, fun c4 => ?_⟩
         · first
             | exact absurd c4 (by decide)
             | (exact go)
         · first
             | exact absurd c4 (by decide)
             | (refine J_blk a_X5_prove_21 ?_
                simp only [b_X5_prove_21, w_iconst_m1, w_ireti, kd_0, kd_1, kd_2, kd_3, kd_4, kd_5, kd_6, kd_7, kd_10, kd_11, kd_12, kd_13, kd_14, kd_15, kd_16, kd_19, kd_28, kd_29, kd_30, kd_31, kd_32, kd_33, kd_34, kd_35, kd_36, kd_37, kd_38, kd_39, kd_40, kd_41, kd_42, kd_43, kd_44, kd_45, ln_2, ln_3, ln_4, ln_5, ln_6, ln_7, ln_11, ln_12, ln_13, ln_14, ln_15, ln_16, ln_29, ln_30, ln_32, ln_33, ln_34, ln_35, ln_36, ln_37, ln_38, ln_40, ln_41, ln_42, ln_43, ln_45, Option.toList_some, Option.toList_none, List.cons_append, List.nil_append, true_and, and_true, if_true, if_false, true_or, or_true, Nat.reduceAdd, Int.reduceAdd, Bool.false_eq_true, tn_0, tn_1, tn_2, tn_3, tn_4, tn_5, tn_6, tn_7]
                first | exact ⟨rfl, rfl⟩ | (simp_all [Rt])))
theorem hasRow_c (i w : Int32) : K 1 mX5_hasRow [.ref 0, .int i, .int w] M (Rt (some (.int (if (0 ≤ i ∧ i ≤ M.1 0 6 - 1) ∧ (0 ≤ w ∧ w ≤ 2) then 1 else 0))) M) := by
  refine K_go 2 o_X5_hasRow [] rfl (Nat.le_of_ble_eq_true rfl) ?_
  simp only [lvA_i, lvA_a, lvA_l, lvA_nil, List.cons_append, List.nil_append]
  refine J_blk a_X5_hasRow_0 ?_
  simp only [b_X5_hasRow_0, w_iload_n1, w_iconst_0, w_aload_n0, w_getf5, w_iconst_1, w_isub, w_nil, kd_0, kd_1, kd_2, kd_3, kd_4, kd_5, kd_6, kd_7, kd_10, kd_11, kd_12, kd_13, kd_14, kd_15, kd_16, kd_19, kd_28, kd_29, kd_30, kd_31, kd_32, kd_33, kd_34, kd_35, kd_36, kd_37, kd_38, kd_39, kd_40, kd_41, kd_42, kd_43, kd_44, kd_45, ln_2, ln_3, ln_4, ln_5, ln_6, ln_7, ln_11, ln_12, ln_13, ln_14, ln_15, ln_16, ln_29, ln_30, ln_32, ln_33, ln_34, ln_35, ln_36, ln_37, ln_38, ln_40, ln_41, ln_42, ln_43, ln_45, Option.toList_some, Option.toList_none, List.cons_append, List.nil_append, true_and, and_true, if_true, if_false, true_or, or_true, Nat.reduceAdd, Int.reduceAdd, Bool.false_eq_true, tn_0, tn_1, tn_2, tn_3, tn_4, tn_5, tn_6, tn_7]
  refine J_callSr (within_c _ _ _ _) k_X5_hasRow_8 o_X5_within rfl (by decide) rfl (Nat.le_of_ble_eq_true rfl) ?_
  refine J_blk a_X5_hasRow_11 ?_
  simp only [b_X5_hasRow_11, w_if_eq, w_nil, kd_0, kd_1, kd_2, kd_3, kd_4, kd_5, kd_6, kd_7, kd_10, kd_11, kd_12, kd_13, kd_14, kd_15, kd_16, kd_19, kd_28, kd_29, kd_30, kd_31, kd_32, kd_33, kd_34, kd_35, kd_36, kd_37, kd_38, kd_39, kd_40, kd_41, kd_42, kd_43, kd_44, kd_45, ln_2, ln_3, ln_4, ln_5, ln_6, ln_7, ln_11, ln_12, ln_13, ln_14, ln_15, ln_16, ln_29, ln_30, ln_32, ln_33, ln_34, ln_35, ln_36, ln_37, ln_38, ln_40, ln_41, ln_42, ln_43, ln_45, Option.toList_some, Option.toList_none, List.cons_append, List.nil_append, true_and, and_true, if_true, if_false, true_or, or_true, Nat.reduceAdd, Int.reduceAdd, Bool.false_eq_true, tn_0, tn_1, tn_2, tn_3, tn_4, tn_5, tn_6, tn_7]
  refine ⟨fun c5 => ?_, fun c5 => ?_⟩
  · refine J_blk a_X5_hasRow_27 ?_
    simp only [b_X5_hasRow_27, w_iconst_0, w_nil, kd_0, kd_1, kd_2, kd_3, kd_4, kd_5, kd_6, kd_7, kd_10, kd_11, kd_12, kd_13, kd_14, kd_15, kd_16, kd_19, kd_28, kd_29, kd_30, kd_31, kd_32, kd_33, kd_34, kd_35, kd_36, kd_37, kd_38, kd_39, kd_40, kd_41, kd_42, kd_43, kd_44, kd_45, ln_2, ln_3, ln_4, ln_5, ln_6, ln_7, ln_11, ln_12, ln_13, ln_14, ln_15, ln_16, ln_29, ln_30, ln_32, ln_33, ln_34, ln_35, ln_36, ln_37, ln_38, ln_40, ln_41, ln_42, ln_43, ln_45, Option.toList_some, Option.toList_none, List.cons_append, List.nil_append, true_and, and_true, if_true, if_false, true_or, or_true, Nat.reduceAdd, Int.reduceAdd, Bool.false_eq_true, tn_0, tn_1, tn_2, tn_3, tn_4, tn_5, tn_6, tn_7]
    refine J_blk a_X5_hasRow_28 ?_
    simp only [b_X5_hasRow_28, w_iretz, kd_0, kd_1, kd_2, kd_3, kd_4, kd_5, kd_6, kd_7, kd_10, kd_11, kd_12, kd_13, kd_14, kd_15, kd_16, kd_19, kd_28, kd_29, kd_30, kd_31, kd_32, kd_33, kd_34, kd_35, kd_36, kd_37, kd_38, kd_39, kd_40, kd_41, kd_42, kd_43, kd_44, kd_45, ln_2, ln_3, ln_4, ln_5, ln_6, ln_7, ln_11, ln_12, ln_13, ln_14, ln_15, ln_16, ln_29, ln_30, ln_32, ln_33, ln_34, ln_35, ln_36, ln_37, ln_38, ln_40, ln_41, ln_42, ln_43, ln_45, Option.toList_some, Option.toList_none, List.cons_append, List.nil_append, true_and, and_true, if_true, if_false, true_or, or_true, Nat.reduceAdd, Int.reduceAdd, Bool.false_eq_true, tn_0, tn_1, tn_2, tn_3, tn_4, tn_5, tn_6, tn_7]
    try refine ⟨(by first | exact Or.inl rfl | exact Or.inr rfl), ?_⟩
    exact ⟨by grind, rfl⟩
  · refine J_blk a_X5_hasRow_14 ?_
    simp only [b_X5_hasRow_14, w_iload_n2, w_iconst_0, w_iconst_2, w_nil, kd_0, kd_1, kd_2, kd_3, kd_4, kd_5, kd_6, kd_7, kd_10, kd_11, kd_12, kd_13, kd_14, kd_15, kd_16, kd_19, kd_28, kd_29, kd_30, kd_31, kd_32, kd_33, kd_34, kd_35, kd_36, kd_37, kd_38, kd_39, kd_40, kd_41, kd_42, kd_43, kd_44, kd_45, ln_2, ln_3, ln_4, ln_5, ln_6, ln_7, ln_11, ln_12, ln_13, ln_14, ln_15, ln_16, ln_29, ln_30, ln_32, ln_33, ln_34, ln_35, ln_36, ln_37, ln_38, ln_40, ln_41, ln_42, ln_43, ln_45, Option.toList_some, Option.toList_none, List.cons_append, List.nil_append, true_and, and_true, if_true, if_false, true_or, or_true, Nat.reduceAdd, Int.reduceAdd, Bool.false_eq_true, tn_0, tn_1, tn_2, tn_3, tn_4, tn_5, tn_6, tn_7]
    refine J_callSr (within_c _ _ _ _) k_X5_hasRow_17 o_X5_within rfl (by decide) rfl (Nat.le_of_ble_eq_true rfl) ?_
    refine J_blk a_X5_hasRow_20 ?_
    simp only [b_X5_hasRow_20, w_if_eq, w_nil, kd_0, kd_1, kd_2, kd_3, kd_4, kd_5, kd_6, kd_7, kd_10, kd_11, kd_12, kd_13, kd_14, kd_15, kd_16, kd_19, kd_28, kd_29, kd_30, kd_31, kd_32, kd_33, kd_34, kd_35, kd_36, kd_37, kd_38, kd_39, kd_40, kd_41, kd_42, kd_43, kd_44, kd_45, ln_2, ln_3, ln_4, ln_5, ln_6, ln_7, ln_11, ln_12, ln_13, ln_14, ln_15, ln_16, ln_29, ln_30, ln_32, ln_33, ln_34, ln_35, ln_36, ln_37, ln_38, ln_40, ln_41, ln_42, ln_43, ln_45, Option.toList_some, Option.toList_none, List.cons_append, List.nil_append, true_and, and_true, if_true, if_false, true_or, or_true, Nat.reduceAdd, Int.reduceAdd, Bool.false_eq_true, tn_0, tn_1, tn_2, tn_3, tn_4, tn_5, tn_6, tn_7]
    refine ⟨fun c6 => ?_, fun c6 => ?_⟩
    · refine J_blk a_X5_hasRow_27 ?_
      simp only [b_X5_hasRow_27, w_iconst_0, w_nil, kd_0, kd_1, kd_2, kd_3, kd_4, kd_5, kd_6, kd_7, kd_10, kd_11, kd_12, kd_13, kd_14, kd_15, kd_16, kd_19, kd_28, kd_29, kd_30, kd_31, kd_32, kd_33, kd_34, kd_35, kd_36, kd_37, kd_38, kd_39, kd_40, kd_41, kd_42, kd_43, kd_44, kd_45, ln_2, ln_3, ln_4, ln_5, ln_6, ln_7, ln_11, ln_12, ln_13, ln_14, ln_15, ln_16, ln_29, ln_30, ln_32, ln_33, ln_34, ln_35, ln_36, ln_37, ln_38, ln_40, ln_41, ln_42, ln_43, ln_45, Option.toList_some, Option.toList_none, List.cons_append, List.nil_append, true_and, and_true, if_true, if_false, true_or, or_true, Nat.reduceAdd, Int.reduceAdd, Bool.false_eq_true, tn_0, tn_1, tn_2, tn_3, tn_4, tn_5, tn_6, tn_7]
      refine J_blk a_X5_hasRow_28 ?_
      simp only [b_X5_hasRow_28, w_iretz, kd_0, kd_1, kd_2, kd_3, kd_4, kd_5, kd_6, kd_7, kd_10, kd_11, kd_12, kd_13, kd_14, kd_15, kd_16, kd_19, kd_28, kd_29, kd_30, kd_31, kd_32, kd_33, kd_34, kd_35, kd_36, kd_37, kd_38, kd_39, kd_40, kd_41, kd_42, kd_43, kd_44, kd_45, ln_2, ln_3, ln_4, ln_5, ln_6, ln_7, ln_11, ln_12, ln_13, ln_14, ln_15, ln_16, ln_29, ln_30, ln_32, ln_33, ln_34, ln_35, ln_36, ln_37, ln_38, ln_40, ln_41, ln_42, ln_43, ln_45, Option.toList_some, Option.toList_none, List.cons_append, List.nil_append, true_and, and_true, if_true, if_false, true_or, or_true, Nat.reduceAdd, Int.reduceAdd, Bool.false_eq_true, tn_0, tn_1, tn_2, tn_3, tn_4, tn_5, tn_6, tn_7]
      try refine ⟨(by first | exact Or.inl rfl | exact Or.inr rfl), ?_⟩
      exact ⟨by grind, rfl⟩
    · refine J_blk a_X5_hasRow_23 ?_
      simp only [b_X5_hasRow_23, w_iconst_1, w_goto, kd_0, kd_1, kd_2, kd_3, kd_4, kd_5, kd_6, kd_7, kd_10, kd_11, kd_12, kd_13, kd_14, kd_15, kd_16, kd_19, kd_28, kd_29, kd_30, kd_31, kd_32, kd_33, kd_34, kd_35, kd_36, kd_37, kd_38, kd_39, kd_40, kd_41, kd_42, kd_43, kd_44, kd_45, ln_2, ln_3, ln_4, ln_5, ln_6, ln_7, ln_11, ln_12, ln_13, ln_14, ln_15, ln_16, ln_29, ln_30, ln_32, ln_33, ln_34, ln_35, ln_36, ln_37, ln_38, ln_40, ln_41, ln_42, ln_43, ln_45, Option.toList_some, Option.toList_none, List.cons_append, List.nil_append, true_and, and_true, if_true, if_false, true_or, or_true, Nat.reduceAdd, Int.reduceAdd, Bool.false_eq_true, tn_0, tn_1, tn_2, tn_3, tn_4, tn_5, tn_6, tn_7]
      refine J_blk a_X5_hasRow_28 ?_
      simp only [b_X5_hasRow_28, w_iretz, kd_0, kd_1, kd_2, kd_3, kd_4, kd_5, kd_6, kd_7, kd_10, kd_11, kd_12, kd_13, kd_14, kd_15, kd_16, kd_19, kd_28, kd_29, kd_30, kd_31, kd_32, kd_33, kd_34, kd_35, kd_36, kd_37, kd_38, kd_39, kd_40, kd_41, kd_42, kd_43, kd_44, kd_45, ln_2, ln_3, ln_4, ln_5, ln_6, ln_7, ln_11, ln_12, ln_13, ln_14, ln_15, ln_16, ln_29, ln_30, ln_32, ln_33, ln_34, ln_35, ln_36, ln_37, ln_38, ln_40, ln_41, ln_42, ln_43, ln_45, Option.toList_some, Option.toList_none, List.cons_append, List.nil_append, true_and, and_true, if_true, if_false, true_or, or_true, Nat.reduceAdd, Int.reduceAdd, Bool.false_eq_true, tn_0, tn_1, tn_2, tn_3, tn_4, tn_5, tn_6, tn_7]
      try refine ⟨(by first | exact Or.inl rfl | exact Or.inr rfl), ?_⟩
      exact ⟨by grind, rfl⟩
theorem crow_c (i w : Int32) (z : Nat) (hz : z ≤ 10) (ez : M.1 0 6 = nI z) : K 2 mX5_row [.ref 0, .int i, .int w] M (Rt (some (.int (if (0 ≤ i ∧ i ≤ nI z - 1) ∧ (0 ≤ w ∧ w ≤ 2) then M.1 30 (3 * i.toNatClampNeg + w.toNatClampNeg) else -9))) M) := by
  refine K_go 2 o_X5_row [] rfl (Nat.le_of_ble_eq_true rfl) ?_
  simp only [lvA_i, lvA_a, lvA_l, lvA_nil, List.cons_append, List.nil_append]
  refine J_blk a_X5_row_0 ?_
  simp only [b_X5_row_0, w_aload_n0, w_iload_n1, w_iload_n2, w_nil, kd_0, kd_1, kd_2, kd_3, kd_4, kd_5, kd_6, kd_7, kd_10, kd_11, kd_12, kd_13, kd_14, kd_15, kd_16, kd_19, kd_28, kd_29, kd_30, kd_31, kd_32, kd_33, kd_34, kd_35, kd_36, kd_37, kd_38, kd_39, kd_40, kd_41, kd_42, kd_43, kd_44, kd_45, ln_2, ln_3, ln_4, ln_5, ln_6, ln_7, ln_11, ln_12, ln_13, ln_14, ln_15, ln_16, ln_29, ln_30, ln_32, ln_33, ln_34, ln_35, ln_36, ln_37, ln_38, ln_40, ln_41, ln_42, ln_43, ln_45, Option.toList_some, Option.toList_none, List.cons_append, List.nil_append, true_and, and_true, if_true, if_false, true_or, or_true, Nat.reduceAdd, Int.reduceAdd, Bool.false_eq_true, tn_0, tn_1, tn_2, tn_3, tn_4, tn_5, tn_6, tn_7]
  refine J_callVr (ci := 5) (hasRow_c i w) k_X5_row_3 o_X5_hasRow (rfl) rfl rfl rfl (by decide) rfl (Nat.le_of_ble_eq_true rfl) ?_
  rw [ez]
  by_cases h : (0 ≤ i ∧ i ≤ nI z - 1) ∧ (0 ≤ w ∧ w ≤ 2)
  · rw [if_pos h, if_pos h]
    obtain ⟨a, b, ha, hb, rfl, rfl⟩ := rix hz h
    have e3 : nI a * (3 : Int32) + nI b = nI (3 * a + b) := by rw [show (3 : Int32) = nI 3 from rfl, pk_mul, Nat.mul_comm, nI_add]
    have ec : (nI (3 * a + b)).toNatClampNeg = 3 * a + b := nI_clamp (by omega)
    rw [nI_clamp (show a < 2 ^ 31 by omega), nI_clamp (show b < 2 ^ 31 by omega)]
    refine J_blk a_X5_row_6 ?_
    simp only [b_X5_row_6, w_if_eq, w_nil, kd_0, kd_1, kd_2, kd_3, kd_4, kd_5, kd_6, kd_7, kd_10, kd_11, kd_12, kd_13, kd_14, kd_15, kd_16, kd_19, kd_28, kd_29, kd_30, kd_31, kd_32, kd_33, kd_34, kd_35, kd_36, kd_37, kd_38, kd_39, kd_40, kd_41, kd_42, kd_43, kd_44, kd_45, ln_2, ln_3, ln_4, ln_5, ln_6, ln_7, ln_11, ln_12, ln_13, ln_14, ln_15, ln_16, ln_29, ln_30, ln_32, ln_33, ln_34, ln_35, ln_36, ln_37, ln_38, ln_40, ln_41, ln_42, ln_43, ln_45, Option.toList_some, Option.toList_none, List.cons_append, List.nil_append, true_and, and_true, if_true, if_false, true_or, or_true, Nat.reduceAdd, Int.reduceAdd, Bool.false_eq_true, tn_0, tn_1, tn_2, tn_3, tn_4, tn_5, tn_6, tn_7]
    refine ⟨fun h => absurd h (by decide), fun _ => ?_⟩
    refine J_blk a_X5_row_9 ?_
    simp only [b_X5_row_9, w_aload_n0, w_getf5, ne0_30, w_iload_n1, w_iconst_3, w_imul, w_iload_n2, w_iadd, w_iald, w_goto, kd_0, kd_1, kd_2, kd_3, kd_4, kd_5, kd_6, kd_7, kd_10, kd_11, kd_12, kd_13, kd_14, kd_15, kd_16, kd_19, kd_28, kd_29, kd_30, kd_31, kd_32, kd_33, kd_34, kd_35, kd_36, kd_37, kd_38, kd_39, kd_40, kd_41, kd_42, kd_43, kd_44, kd_45, ln_2, ln_3, ln_4, ln_5, ln_6, ln_7, ln_11, ln_12, ln_13, ln_14, ln_15, ln_16, ln_29, ln_30, ln_32, ln_33, ln_34, ln_35, ln_36, ln_37, ln_38, ln_40, ln_41, ln_42, ln_43, ln_45, Option.toList_some, Option.toList_none, List.cons_append, List.nil_append, true_and, and_true, if_true, if_false, true_or, or_true, Nat.reduceAdd, Int.reduceAdd, Bool.false_eq_true, tn_0, tn_1, tn_2, tn_3, tn_4, tn_5, tn_6, tn_7, e3, ec]
    refine ⟨vinN (by omega) (by decide), ?_⟩
    refine J_blk a_X5_row_24 ?_
    simp only [b_X5_row_24, w_ireti, kd_0, kd_1, kd_2, kd_3, kd_4, kd_5, kd_6, kd_7, kd_10, kd_11, kd_12, kd_13, kd_14, kd_15, kd_16, kd_19, kd_28, kd_29, kd_30, kd_31, kd_32, kd_33, kd_34, kd_35, kd_36, kd_37, kd_38, kd_39, kd_40, kd_41, kd_42, kd_43, kd_44, kd_45, ln_2, ln_3, ln_4, ln_5, ln_6, ln_7, ln_11, ln_12, ln_13, ln_14, ln_15, ln_16, ln_29, ln_30, ln_32, ln_33, ln_34, ln_35, ln_36, ln_37, ln_38, ln_40, ln_41, ln_42, ln_43, ln_45, Option.toList_some, Option.toList_none, List.cons_append, List.nil_append, true_and, and_true, if_true, if_false, true_or, or_true, Nat.reduceAdd, Int.reduceAdd, Bool.false_eq_true, tn_0, tn_1, tn_2, tn_3, tn_4, tn_5, tn_6, tn_7]
    first | exact ⟨rfl, rfl⟩ | (simp_all [Rt])
  · rw [if_neg h, if_neg h]
    refine J_blk a_X5_row_6 ?_
    simp only [b_X5_row_6, w_if_eq, w_nil, kd_0, kd_1, kd_2, kd_3, kd_4, kd_5, kd_6, kd_7, kd_10, kd_11, kd_12, kd_13, kd_14, kd_15, kd_16, kd_19, kd_28, kd_29, kd_30, kd_31, kd_32, kd_33, kd_34, kd_35, kd_36, kd_37, kd_38, kd_39, kd_40, kd_41, kd_42, kd_43, kd_44, kd_45, ln_2, ln_3, ln_4, ln_5, ln_6, ln_7, ln_11, ln_12, ln_13, ln_14, ln_15, ln_16, ln_29, ln_30, ln_32, ln_33, ln_34, ln_35, ln_36, ln_37, ln_38, ln_40, ln_41, ln_42, ln_43, ln_45, Option.toList_some, Option.toList_none, List.cons_append, List.nil_append, true_and, and_true, if_true, if_false, true_or, or_true, Nat.reduceAdd, Int.reduceAdd, Bool.false_eq_true, tn_0, tn_1, tn_2, tn_3, tn_4, tn_5, tn_6, tn_7]
    refine ⟨fun _ => ?_, fun h => absurd trivial h⟩
    refine J_blk a_X5_row_22 ?_
    simp only [b_X5_row_22, w_bipush, ci_m9, w_nil, kd_0, kd_1, kd_2, kd_3, kd_4, kd_5, kd_6, kd_7, kd_10, kd_11, kd_12, kd_13, kd_14, kd_15, kd_16, kd_19, kd_28, kd_29, kd_30, kd_31, kd_32, kd_33, kd_34, kd_35, kd_36, kd_37, kd_38, kd_39, kd_40, kd_41, kd_42, kd_43, kd_44, kd_45, ln_2, ln_3, ln_4, ln_5, ln_6, ln_7, ln_11, ln_12, ln_13, ln_14, ln_15, ln_16, ln_29, ln_30, ln_32, ln_33, ln_34, ln_35, ln_36, ln_37, ln_38, ln_40, ln_41, ln_42, ln_43, ln_45, Option.toList_some, Option.toList_none, List.cons_append, List.nil_append, true_and, and_true, if_true, if_false, true_or, or_true, Nat.reduceAdd, Int.reduceAdd, Bool.false_eq_true, tn_0, tn_1, tn_2, tn_3, tn_4, tn_5, tn_6, tn_7]
    refine J_blk a_X5_row_24 ?_
    simp only [b_X5_row_24, w_ireti, kd_0, kd_1, kd_2, kd_3, kd_4, kd_5, kd_6, kd_7, kd_10, kd_11, kd_12, kd_13, kd_14, kd_15, kd_16, kd_19, kd_28, kd_29, kd_30, kd_31, kd_32, kd_33, kd_34, kd_35, kd_36, kd_37, kd_38, kd_39, kd_40, kd_41, kd_42, kd_43, kd_44, kd_45, ln_2, ln_3, ln_4, ln_5, ln_6, ln_7, ln_11, ln_12, ln_13, ln_14, ln_15, ln_16, ln_29, ln_30, ln_32, ln_33, ln_34, ln_35, ln_36, ln_37, ln_38, ln_40, ln_41, ln_42, ln_43, ln_45, Option.toList_some, Option.toList_none, List.cons_append, List.nil_append, true_and, and_true, if_true, if_false, true_or, or_true, Nat.reduceAdd, Int.reduceAdd, Bool.false_eq_true, tn_0, tn_1, tn_2, tn_3, tn_4, tn_5, tn_6, tn_7]
    first | exact ⟨rfl, rfl⟩ | (simp_all [Rt])
theorem calterRow_f (i w v : Int32) (z : Nat) (ez : M.1 0 6 = nI z) (h : ¬ ((0 ≤ i ∧ i ≤ nI z - 1) ∧ (0 ≤ w ∧ w ≤ 2))) : K 2 mX5_alterRow [.ref 0, .int i, .int w, .int v] M (Rt (some (.int (-9))) M) := by
  refine K_go 3 o_X5_alterRow [none] rfl (Nat.le_of_ble_eq_true rfl) ?_
  simp only [lvA_i, lvA_a, lvA_l, lvA_nil, List.cons_append, List.nil_append]
  refine J_blk a_X5_alterRow_0 ?_
  simp only [b_X5_alterRow_0, w_aload_n0, w_iload_n1, w_iload_n2, w_nil, kd_0, kd_1, kd_2, kd_3, kd_4, kd_5, kd_6, kd_7, kd_10, kd_11, kd_12, kd_13, kd_14, kd_15, kd_16, kd_19, kd_28, kd_29, kd_30, kd_31, kd_32, kd_33, kd_34, kd_35, kd_36, kd_37, kd_38, kd_39, kd_40, kd_41, kd_42, kd_43, kd_44, kd_45, ln_2, ln_3, ln_4, ln_5, ln_6, ln_7, ln_11, ln_12, ln_13, ln_14, ln_15, ln_16, ln_29, ln_30, ln_32, ln_33, ln_34, ln_35, ln_36, ln_37, ln_38, ln_40, ln_41, ln_42, ln_43, ln_45, Option.toList_some, Option.toList_none, List.cons_append, List.nil_append, true_and, and_true, if_true, if_false, true_or, or_true, Nat.reduceAdd, Int.reduceAdd, Bool.false_eq_true, tn_0, tn_1, tn_2, tn_3, tn_4, tn_5, tn_6, tn_7]
  refine J_callVr (ci := 5) (hasRow_c i w) k_X5_alterRow_3 o_X5_hasRow (rfl) rfl rfl rfl (by decide) rfl (Nat.le_of_ble_eq_true rfl) ?_
  rw [ez, if_neg h]
  refine J_blk a_X5_alterRow_6 ?_
  simp only [b_X5_alterRow_6, w_if_ne, w_nil, kd_0, kd_1, kd_2, kd_3, kd_4, kd_5, kd_6, kd_7, kd_10, kd_11, kd_12, kd_13, kd_14, kd_15, kd_16, kd_19, kd_28, kd_29, kd_30, kd_31, kd_32, kd_33, kd_34, kd_35, kd_36, kd_37, kd_38, kd_39, kd_40, kd_41, kd_42, kd_43, kd_44, kd_45, ln_2, ln_3, ln_4, ln_5, ln_6, ln_7, ln_11, ln_12, ln_13, ln_14, ln_15, ln_16, ln_29, ln_30, ln_32, ln_33, ln_34, ln_35, ln_36, ln_37, ln_38, ln_40, ln_41, ln_42, ln_43, ln_45, Option.toList_some, Option.toList_none, List.cons_append, List.nil_append, true_and, and_true, if_true, if_false, true_or, or_true, Nat.reduceAdd, Int.reduceAdd, Bool.false_eq_true, tn_0, tn_1, tn_2, tn_3, tn_4, tn_5, tn_6, tn_7]
  refine ⟨fun h => absurd trivial h, fun _ => ?_⟩
  refine J_blk a_X5_alterRow_9 ?_
  simp only [b_X5_alterRow_9, w_bipush, ci_m9, w_ireti, kd_0, kd_1, kd_2, kd_3, kd_4, kd_5, kd_6, kd_7, kd_10, kd_11, kd_12, kd_13, kd_14, kd_15, kd_16, kd_19, kd_28, kd_29, kd_30, kd_31, kd_32, kd_33, kd_34, kd_35, kd_36, kd_37, kd_38, kd_39, kd_40, kd_41, kd_42, kd_43, kd_44, kd_45, ln_2, ln_3, ln_4, ln_5, ln_6, ln_7, ln_11, ln_12, ln_13, ln_14, ln_15, ln_16, ln_29, ln_30, ln_32, ln_33, ln_34, ln_35, ln_36, ln_37, ln_38, ln_40, ln_41, ln_42, ln_43, ln_45, Option.toList_some, Option.toList_none, List.cons_append, List.nil_append, true_and, and_true, if_true, if_false, true_or, or_true, Nat.reduceAdd, Int.reduceAdd, Bool.false_eq_true, tn_0, tn_1, tn_2, tn_3, tn_4, tn_5, tn_6, tn_7]
  first | exact ⟨rfl, rfl⟩ | (simp_all [Rt])
theorem calterRow_t (a b z : Nat) (v : Int32) (hz : z ≤ 10) (ez : M.1 0 6 = nI z) (ha : a < z) (hb : b < 3) : K 2 mX5_alterRow [.ref 0, .int (nI a), .int (nI b), .int v] M (Rt (some (.int (M.1 30 (3 * a + b)))) (su M 30 (upd (M.1 30) (3 * a + b) v))) := by
  have e3 : nI a * (3 : Int32) + nI b = nI (3 * a + b) := by rw [show (3 : Int32) = nI 3 from rfl, pk_mul, Nat.mul_comm, nI_add]
  have ec : (nI (3 * a + b)).toNatClampNeg = 3 * a + b := nI_clamp (by omega)
  have h : (0 ≤ nI a ∧ nI a ≤ nI z - 1) ∧ (0 ≤ nI b ∧ nI b ≤ 2) := by
    refine ⟨?_, ok2 (m := 2) (by omega) (by decide)⟩
    rw [nI_sub1 (by omega)]
    exact ok2 (by omega) (by omega)
  refine K_go 3 o_X5_alterRow [none] rfl (Nat.le_of_ble_eq_true rfl) ?_
  simp only [lvA_i, lvA_a, lvA_l, lvA_nil, List.cons_append, List.nil_append]
  refine J_blk a_X5_alterRow_0 ?_
  simp only [b_X5_alterRow_0, w_aload_n0, w_iload_n1, w_iload_n2, w_nil, kd_0, kd_1, kd_2, kd_3, kd_4, kd_5, kd_6, kd_7, kd_10, kd_11, kd_12, kd_13, kd_14, kd_15, kd_16, kd_19, kd_28, kd_29, kd_30, kd_31, kd_32, kd_33, kd_34, kd_35, kd_36, kd_37, kd_38, kd_39, kd_40, kd_41, kd_42, kd_43, kd_44, kd_45, ln_2, ln_3, ln_4, ln_5, ln_6, ln_7, ln_11, ln_12, ln_13, ln_14, ln_15, ln_16, ln_29, ln_30, ln_32, ln_33, ln_34, ln_35, ln_36, ln_37, ln_38, ln_40, ln_41, ln_42, ln_43, ln_45, Option.toList_some, Option.toList_none, List.cons_append, List.nil_append, true_and, and_true, if_true, if_false, true_or, or_true, Nat.reduceAdd, Int.reduceAdd, Bool.false_eq_true, tn_0, tn_1, tn_2, tn_3, tn_4, tn_5, tn_6, tn_7]
  refine J_callVr (ci := 5) (hasRow_c _ _) k_X5_alterRow_3 o_X5_hasRow (rfl) rfl rfl rfl (by decide) rfl (Nat.le_of_ble_eq_true rfl) ?_
  rw [ez, if_pos h]
  refine J_blk a_X5_alterRow_6 ?_
  simp only [b_X5_alterRow_6, w_if_ne, w_nil, kd_0, kd_1, kd_2, kd_3, kd_4, kd_5, kd_6, kd_7, kd_10, kd_11, kd_12, kd_13, kd_14, kd_15, kd_16, kd_19, kd_28, kd_29, kd_30, kd_31, kd_32, kd_33, kd_34, kd_35, kd_36, kd_37, kd_38, kd_39, kd_40, kd_41, kd_42, kd_43, kd_44, kd_45, ln_2, ln_3, ln_4, ln_5, ln_6, ln_7, ln_11, ln_12, ln_13, ln_14, ln_15, ln_16, ln_29, ln_30, ln_32, ln_33, ln_34, ln_35, ln_36, ln_37, ln_38, ln_40, ln_41, ln_42, ln_43, ln_45, Option.toList_some, Option.toList_none, List.cons_append, List.nil_append, true_and, and_true, if_true, if_false, true_or, or_true, Nat.reduceAdd, Int.reduceAdd, Bool.false_eq_true, tn_0, tn_1, tn_2, tn_3, tn_4, tn_5, tn_6, tn_7]
  refine ⟨fun _ => ?_, fun h => absurd h (by decide)⟩
  refine J_blk a_X5_alterRow_12 ?_
  simp only [b_X5_alterRow_12, w_aload_n0, w_getf5, ne0_30, w_iload_n1, w_iconst_3, w_imul, w_iload_n2, w_iadd, w_iald, w_istore4, nl_4n, nl_4i, nl_4a, w_iload_n3, w_iast, w_iload4, w_ireti, kd_0, kd_1, kd_2, kd_3, kd_4, kd_5, kd_6, kd_7, kd_10, kd_11, kd_12, kd_13, kd_14, kd_15, kd_16, kd_19, kd_28, kd_29, kd_30, kd_31, kd_32, kd_33, kd_34, kd_35, kd_36, kd_37, kd_38, kd_39, kd_40, kd_41, kd_42, kd_43, kd_44, kd_45, ln_2, ln_3, ln_4, ln_5, ln_6, ln_7, ln_11, ln_12, ln_13, ln_14, ln_15, ln_16, ln_29, ln_30, ln_32, ln_33, ln_34, ln_35, ln_36, ln_37, ln_38, ln_40, ln_41, ln_42, ln_43, ln_45, Option.toList_some, Option.toList_none, List.cons_append, List.nil_append, true_and, and_true, if_true, if_false, true_or, or_true, Nat.reduceAdd, Int.reduceAdd, Bool.false_eq_true, tn_0, tn_1, tn_2, tn_3, tn_4, tn_5, tn_6, tn_7, e3, ec]
  exact ⟨vinN (by omega) (by decide), vinN (by omega) (by decide), rfl, by rw [u1_row]⟩
theorem cjudge_f (hw : WF s n) (hx : RX M 1 s n) (o : Int32) (h : ¬ (0 ≤ o ∧ o < nI n)) : K 2 mX5_judge [.ref 0, .int o] M (Rt (some (.int (-1))) M) := by
  refine K_go 1 o_X5_judge [none, none, none, none] rfl (Nat.le_of_ble_eq_true rfl) ?_
  simp only [lvA_i, lvA_a, lvA_l, lvA_nil, List.cons_append, List.nil_append]
  refine J_blk a_X5_judge_0 ?_
  simp only [b_X5_judge_0, w_aload_n0, w_getf5, ne0_1, w_iload_n1, w_nil, kd_0, kd_1, kd_2, kd_3, kd_4, kd_5, kd_6, kd_7, kd_10, kd_11, kd_12, kd_13, kd_14, kd_15, kd_16, kd_19, kd_28, kd_29, kd_30, kd_31, kd_32, kd_33, kd_34, kd_35, kd_36, kd_37, kd_38, kd_39, kd_40, kd_41, kd_42, kd_43, kd_44, kd_45, ln_2, ln_3, ln_4, ln_5, ln_6, ln_7, ln_11, ln_12, ln_13, ln_14, ln_15, ln_16, ln_29, ln_30, ln_32, ln_33, ln_34, ln_35, ln_36, ln_37, ln_38, ln_40, ln_41, ln_42, ln_43, ln_45, Option.toList_some, Option.toList_none, List.cons_append, List.nil_append, true_and, and_true, if_true, if_false, true_or, or_true, Nat.reduceAdd, Int.reduceAdd, Bool.false_eq_true, tn_0, tn_1, tn_2, tn_3, tn_4, tn_5, tn_6, tn_7]
  refine J_callVr (ci := 4) (has2 hw hx (Or.inl rfl) _) k_X5_judge_5 o_X4_has (rfl) rfl rfl rfl (by decide) rfl (Nat.le_of_ble_eq_true rfl) ?_
  rw [if_neg h]
  refine J_blk a_X5_judge_8 ?_
  simp only [b_X5_judge_8, w_if_ne, w_nil, kd_0, kd_1, kd_2, kd_3, kd_4, kd_5, kd_6, kd_7, kd_10, kd_11, kd_12, kd_13, kd_14, kd_15, kd_16, kd_19, kd_28, kd_29, kd_30, kd_31, kd_32, kd_33, kd_34, kd_35, kd_36, kd_37, kd_38, kd_39, kd_40, kd_41, kd_42, kd_43, kd_44, kd_45, ln_2, ln_3, ln_4, ln_5, ln_6, ln_7, ln_11, ln_12, ln_13, ln_14, ln_15, ln_16, ln_29, ln_30, ln_32, ln_33, ln_34, ln_35, ln_36, ln_37, ln_38, ln_40, ln_41, ln_42, ln_43, ln_45, Option.toList_some, Option.toList_none, List.cons_append, List.nil_append, true_and, and_true, if_true, if_false, true_or, or_true, Nat.reduceAdd, Int.reduceAdd, Bool.false_eq_true, tn_0, tn_1, tn_2, tn_3, tn_4, tn_5, tn_6, tn_7]
  refine ⟨fun c7 => ?_, fun c7 => ?_⟩
  · first
      | exact absurd c7 (by decide)
      | (exact absurd trivial (by assumption))
  · first
      | exact absurd c7 (by decide)
      | (refine J_blk a_X5_judge_11 ?_
         simp only [b_X5_judge_11, w_iconst_m1, w_ireti, kd_0, kd_1, kd_2, kd_3, kd_4, kd_5, kd_6, kd_7, kd_10, kd_11, kd_12, kd_13, kd_14, kd_15, kd_16, kd_19, kd_28, kd_29, kd_30, kd_31, kd_32, kd_33, kd_34, kd_35, kd_36, kd_37, kd_38, kd_39, kd_40, kd_41, kd_42, kd_43, kd_44, kd_45, ln_2, ln_3, ln_4, ln_5, ln_6, ln_7, ln_11, ln_12, ln_13, ln_14, ln_15, ln_16, ln_29, ln_30, ln_32, ln_33, ln_34, ln_35, ln_36, ln_37, ln_38, ln_40, ln_41, ln_42, ln_43, ln_45, Option.toList_some, Option.toList_none, List.cons_append, List.nil_append, true_and, and_true, if_true, if_false, true_or, or_true, Nat.reduceAdd, Int.reduceAdd, Bool.false_eq_true, tn_0, tn_1, tn_2, tn_3, tn_4, tn_5, tn_6, tn_7]
         exact ⟨rfl, rfl⟩)
theorem cjudge_t (hw : WF s n) (hl : WL s n) (hx : RX M 1 s n) (o z : Nat) (hj : o < n) (hz : z ≤ 10) (ez : M.1 0 6 = nI z) : K 4 mX5_judge [.ref 0, .int (nI o)] M (Rq (some (.int (juF s n o (M.1 30) z 0))) (fun M' => RX M' 1 s n ∧ FC M M')) := by
  have h8 := hw.2.1
  have ho := ok1 hj (by omega)
  have to : (nI o).toNatClampNeg = o := nI_clamp (by omega)
  have loop : ∀ f k, f + k = z → ∀ (M1 : Mm) (z3 z4 z5 : Option Value), RX M1 10 (yrs s n k) n → FB 10 M M1 → J 4 mX5_judge 20 [some (.ref 0), some (.int (nI o)), some (.int (nI k)), z3, z4, z5] [] M1 (Rq (some (.int (juF s n o (M.1 30) f k))) (fun M' => RX M' 1 s n ∧ FC M M')) := by
    intro f
    induction f with
    | zero =>
      intro k hk M1 z3 z4 z5 g1 g2
      have : k = z := by omega
      subst this
      have e6 : M1.1 0 6 = nI k := by rw [g2.1 0 (by omega)]; exact ez
      refine J_blk a_X5_judge_20 ?_
      simp only [b_X5_judge_20, w_iload_n2, w_aload_n0, w_getf5, w_icmp_ge, w_nil, kd_0, kd_1, kd_2, kd_3, kd_4, kd_5, kd_6, kd_7, kd_10, kd_11, kd_12, kd_13, kd_14, kd_15, kd_16, kd_19, kd_28, kd_29, kd_30, kd_31, kd_32, kd_33, kd_34, kd_35, kd_36, kd_37, kd_38, kd_39, kd_40, kd_41, kd_42, kd_43, kd_44, kd_45, ln_2, ln_3, ln_4, ln_5, ln_6, ln_7, ln_11, ln_12, ln_13, ln_14, ln_15, ln_16, ln_29, ln_30, ln_32, ln_33, ln_34, ln_35, ln_36, ln_37, ln_38, ln_40, ln_41, ln_42, ln_43, ln_45, Option.toList_some, Option.toList_none, List.cons_append, List.nil_append, true_and, and_true, if_true, if_false, true_or, or_true, Nat.reduceAdd, Int.reduceAdd, Bool.false_eq_true, tn_0, tn_1, tn_2, tn_3, tn_4, tn_5, tn_6, tn_7, e6]
      refine ⟨fun _ => ?_, fun h => absurd (Int32.le_refl _) h⟩
      refine J_blk a_X5_judge_116 ?_
      simp only [b_X5_judge_116, w_iconst_0, w_ireti, kd_0, kd_1, kd_2, kd_3, kd_4, kd_5, kd_6, kd_7, kd_10, kd_11, kd_12, kd_13, kd_14, kd_15, kd_16, kd_19, kd_28, kd_29, kd_30, kd_31, kd_32, kd_33, kd_34, kd_35, kd_36, kd_37, kd_38, kd_39, kd_40, kd_41, kd_42, kd_43, kd_44, kd_45, ln_2, ln_3, ln_4, ln_5, ln_6, ln_7, ln_11, ln_12, ln_13, ln_14, ln_15, ln_16, ln_29, ln_30, ln_32, ln_33, ln_34, ln_35, ln_36, ln_37, ln_38, ln_40, ln_41, ln_42, ln_43, ln_45, Option.toList_some, Option.toList_none, List.cons_append, List.nil_append, true_and, and_true, if_true, if_false, true_or, or_true, Nat.reduceAdd, Int.reduceAdd, Bool.false_eq_true, tn_0, tn_1, tn_2, tn_3, tn_4, tn_5, tn_6, tn_7]
      exact ⟨rfl, RX_10 g2 hx, g2.c10⟩
    | succ f ih =>
      intro k hk M1 z3 z4 z5 g1 g2
      have e6 : M1.1 0 6 = nI z := by rw [g2.1 0 (by omega)]; exact ez
      have e3 : nI k * (3 : Int32) = nI (3 * k) := by rw [show (3 : Int32) = nI 3 from rfl, pk_mul, Nat.mul_comm]
      have a0 : (nI (3 * k)).toNatClampNeg = 3 * k := nI_clamp (by omega)
      have a1 : (nI (3 * k + 1)).toNatClampNeg = 3 * k + 1 := nI_clamp (by omega)
      have a2 : (nI (3 * k + 2)).toNatClampNeg = 3 * k + 2 := nI_clamp (by omega)
      rw [juF]
      refine J_blk a_X5_judge_20 ?_
      simp only [b_X5_judge_20, w_iload_n2, w_aload_n0, w_getf5, w_icmp_ge, w_nil, kd_0, kd_1, kd_2, kd_3, kd_4, kd_5, kd_6, kd_7, kd_10, kd_11, kd_12, kd_13, kd_14, kd_15, kd_16, kd_19, kd_28, kd_29, kd_30, kd_31, kd_32, kd_33, kd_34, kd_35, kd_36, kd_37, kd_38, kd_39, kd_40, kd_41, kd_42, kd_43, kd_44, kd_45, ln_2, ln_3, ln_4, ln_5, ln_6, ln_7, ln_11, ln_12, ln_13, ln_14, ln_15, ln_16, ln_29, ln_30, ln_32, ln_33, ln_34, ln_35, ln_36, ln_37, ln_38, ln_40, ln_41, ln_42, ln_43, ln_45, Option.toList_some, Option.toList_none, List.cons_append, List.nil_append, true_and, and_true, if_true, if_false, true_or, or_true, Nat.reduceAdd, Int.reduceAdd, Bool.false_eq_true, tn_0, tn_1, tn_2, tn_3, tn_4, tn_5, tn_6, tn_7, e6]
      refine ⟨fun h => absurd h (nI_ge (by omega) (by omega)), fun _ => ?_⟩
      refine J_blk a_X5_judge_28 ?_
      simp only [b_X5_judge_28, w_iload_n2, w_iconst_3, w_imul, w_istore3, nl_3n, nl_3i, nl_3a, w_aload_n0, w_getf5, ne0_10, w_nil, kd_0, kd_1, kd_2, kd_3, kd_4, kd_5, kd_6, kd_7, kd_10, kd_11, kd_12, kd_13, kd_14, kd_15, kd_16, kd_19, kd_28, kd_29, kd_30, kd_31, kd_32, kd_33, kd_34, kd_35, kd_36, kd_37, kd_38, kd_39, kd_40, kd_41, kd_42, kd_43, kd_44, kd_45, ln_2, ln_3, ln_4, ln_5, ln_6, ln_7, ln_11, ln_12, ln_13, ln_14, ln_15, ln_16, ln_29, ln_30, ln_32, ln_33, ln_34, ln_35, ln_36, ln_37, ln_38, ln_40, ln_41, ln_42, ln_43, ln_45, Option.toList_some, Option.toList_none, List.cons_append, List.nil_append, true_and, and_true, if_true, if_false, true_or, or_true, Nat.reduceAdd, Int.reduceAdd, Bool.false_eq_true, tn_0, tn_1, tn_2, tn_3, tn_4, tn_5, tn_6, tn_7, e3]
      refine J_callV (ci := 4) (passYear_c (WF_yrs hw k) (WL_yrs hl k) g1 (Or.inr (Or.inl rfl))) k_X5_judge_36 o_X4_passYear (rfl) rfl rfl rfl (by decide) rfl (Nat.le_of_ble_eq_true rfl) ?_
      rintro r M2 ⟨rfl, k1, k2, k3⟩
      have f2 := g2.trans k2
      have r30 : M2.1 30 = M.1 30 := f2.1 30 (by omega)
      have q4 : M2.1 14 o = yrs s n (k + 1) (8 + 6 * o + 2) := (k1.2.2.2.2.2.2 o hj).2.2.1
      have q11 : M2.1 10 11 = bsF (sd (yrs s n k)) n := k3
      have no : ¬ (M.1 30 (3 * k + 2) = sumS (yrs s n k) n ∧ M.1 30 (3 * k) = yrs s n (k + 1) (8 + 6 * o + 2) ∧ M.1 30 (3 * k + 1) = bS (yrs s n (k + 1)) o) → J 4 mX5_judge 98 [some (.ref 0), some (.int (nI o)), some (.int (nI k)), some (.int (nI (3 * k))), some (.int (sumS (yrs s n k) n)), z5] [] M2 (Rq (some (.int (if M.1 30 (3 * k + 2) = sumS (yrs s n k) n ∧ M.1 30 (3 * k) = yrs s n (k + 1) (8 + 6 * o + 2) ∧ M.1 30 (3 * k + 1) = bS (yrs s n (k + 1)) o then juF s n o (M.1 30) f (k + 1) else nI (k + 1)))) (fun M' => RX M' 1 s n ∧ FC M M')) := by
        intro hc
        rw [if_neg hc]
        refine J_blk a_X5_judge_98 ?_
        simp only [b_X5_judge_98, w_iconst_0, w_nil, kd_0, kd_1, kd_2, kd_3, kd_4, kd_5, kd_6, kd_7, kd_10, kd_11, kd_12, kd_13, kd_14, kd_15, kd_16, kd_19, kd_28, kd_29, kd_30, kd_31, kd_32, kd_33, kd_34, kd_35, kd_36, kd_37, kd_38, kd_39, kd_40, kd_41, kd_42, kd_43, kd_44, kd_45, ln_2, ln_3, ln_4, ln_5, ln_6, ln_7, ln_11, ln_12, ln_13, ln_14, ln_15, ln_16, ln_29, ln_30, ln_32, ln_33, ln_34, ln_35, ln_36, ln_37, ln_38, ln_40, ln_41, ln_42, ln_43, ln_45, Option.toList_some, Option.toList_none, List.cons_append, List.nil_append, true_and, and_true, if_true, if_false, true_or, or_true, Nat.reduceAdd, Int.reduceAdd, Bool.false_eq_true, tn_0, tn_1, tn_2, tn_3, tn_4, tn_5, tn_6, tn_7]
        refine J_blk a_X5_judge_99 ?_
        simp only [b_X5_judge_99, w_istore5, nl_5n, nl_5i, nl_5a, w_iload5, w_if_ne, w_nil, kd_0, kd_1, kd_2, kd_3, kd_4, kd_5, kd_6, kd_7, kd_10, kd_11, kd_12, kd_13, kd_14, kd_15, kd_16, kd_19, kd_28, kd_29, kd_30, kd_31, kd_32, kd_33, kd_34, kd_35, kd_36, kd_37, kd_38, kd_39, kd_40, kd_41, kd_42, kd_43, kd_44, kd_45, ln_2, ln_3, ln_4, ln_5, ln_6, ln_7, ln_11, ln_12, ln_13, ln_14, ln_15, ln_16, ln_29, ln_30, ln_32, ln_33, ln_34, ln_35, ln_36, ln_37, ln_38, ln_40, ln_41, ln_42, ln_43, ln_45, Option.toList_some, Option.toList_none, List.cons_append, List.nil_append, true_and, and_true, if_true, if_false, true_or, or_true, Nat.reduceAdd, Int.reduceAdd, Bool.false_eq_true, tn_0, tn_1, tn_2, tn_3, tn_4, tn_5, tn_6, tn_7]
        refine ⟨fun h => absurd trivial h, fun _ => ?_⟩
        refine J_blk a_X5_judge_106 ?_
        simp only [b_X5_judge_106, w_iload_n2, w_iconst_1, w_iadd, w_ireti, kd_0, kd_1, kd_2, kd_3, kd_4, kd_5, kd_6, kd_7, kd_10, kd_11, kd_12, kd_13, kd_14, kd_15, kd_16, kd_19, kd_28, kd_29, kd_30, kd_31, kd_32, kd_33, kd_34, kd_35, kd_36, kd_37, kd_38, kd_39, kd_40, kd_41, kd_42, kd_43, kd_44, kd_45, ln_2, ln_3, ln_4, ln_5, ln_6, ln_7, ln_11, ln_12, ln_13, ln_14, ln_15, ln_16, ln_29, ln_30, ln_32, ln_33, ln_34, ln_35, ln_36, ln_37, ln_38, ln_40, ln_41, ln_42, ln_43, ln_45, Option.toList_some, Option.toList_none, List.cons_append, List.nil_append, true_and, and_true, if_true, if_false, true_or, or_true, Nat.reduceAdd, Int.reduceAdd, Bool.false_eq_true, tn_0, tn_1, tn_2, tn_3, tn_4, tn_5, tn_6, tn_7, nI_1]
        exact ⟨rfl, RX_10 f2 hx, f2.c10⟩
      refine J_blk a_X5_judge_39 ?_
      simp only [b_X5_judge_39, w_istore4, nl_4n, nl_4i, nl_4a, w_aload_n0, w_getf5, ne0_30, w_iload_n3, w_iald, ne0_10, w_getf4, ne0_4, w_iload_n1, w_icmp_ne, w_nil, kd_0, kd_1, kd_2, kd_3, kd_4, kd_5, kd_6, kd_7, kd_10, kd_11, kd_12, kd_13, kd_14, kd_15, kd_16, kd_19, kd_28, kd_29, kd_30, kd_31, kd_32, kd_33, kd_34, kd_35, kd_36, kd_37, kd_38, kd_39, kd_40, kd_41, kd_42, kd_43, kd_44, kd_45, ln_2, ln_3, ln_4, ln_5, ln_6, ln_7, ln_11, ln_12, ln_13, ln_14, ln_15, ln_16, ln_29, ln_30, ln_32, ln_33, ln_34, ln_35, ln_36, ln_37, ln_38, ln_40, ln_41, ln_42, ln_43, ln_45, Option.toList_some, Option.toList_none, List.cons_append, List.nil_append, true_and, and_true, if_true, if_false, true_or, or_true, Nat.reduceAdd, Int.reduceAdd, Bool.false_eq_true, tn_0, tn_1, tn_2, tn_3, tn_4, tn_5, tn_6, tn_7, a0, r30, to, q4]
      refine ⟨vinN (by omega) (by decide), vinN (by omega) (by decide), fun c => no (fun h => c h.2.1), fun c => ?_⟩
      refine J_blk a_X5_judge_59 ?_
      simp only [b_X5_judge_59, w_aload_n0, w_getf5, ne0_30, w_iload_n3, w_iconst_1, w_iadd, w_iald, ne0_10, w_getf4, w_iload_n1, w_nil, kd_0, kd_1, kd_2, kd_3, kd_4, kd_5, kd_6, kd_7, kd_10, kd_11, kd_12, kd_13, kd_14, kd_15, kd_16, kd_19, kd_28, kd_29, kd_30, kd_31, kd_32, kd_33, kd_34, kd_35, kd_36, kd_37, kd_38, kd_39, kd_40, kd_41, kd_42, kd_43, kd_44, kd_45, ln_2, ln_3, ln_4, ln_5, ln_6, ln_7, ln_11, ln_12, ln_13, ln_14, ln_15, ln_16, ln_29, ln_30, ln_32, ln_33, ln_34, ln_35, ln_36, ln_37, ln_38, ln_40, ln_41, ln_42, ln_43, ln_45, Option.toList_some, Option.toList_none, List.cons_append, List.nil_append, true_and, and_true, if_true, if_false, true_or, or_true, Nat.reduceAdd, Int.reduceAdd, Bool.false_eq_true, tn_0, tn_1, tn_2, tn_3, tn_4, tn_5, tn_6, tn_7, ad1, a1, r30, q11]
      refine ⟨vinN (by omega) (by decide), ?_⟩
      refine J_callSr (bit_c _ (by omega) _) k_X5_judge_75 o_X5_bit rfl (by decide) rfl (Nat.le_of_ble_eq_true rfl) ?_
      rw [bt_sd h8 hj, bI_sd, show bS (yrs s n k) o = bS (yrs s n (k + 1)) o by unfold bS; rw [show sd (yrs s n (k + 1)) o = sd (yrs s n k) o from sd_year (WF_yrs hw k) hj]]
      refine J_blk a_X5_judge_78 ?_
      simp only [b_X5_judge_78, w_icmp_ne, w_nil, kd_0, kd_1, kd_2, kd_3, kd_4, kd_5, kd_6, kd_7, kd_10, kd_11, kd_12, kd_13, kd_14, kd_15, kd_16, kd_19, kd_28, kd_29, kd_30, kd_31, kd_32, kd_33, kd_34, kd_35, kd_36, kd_37, kd_38, kd_39, kd_40, kd_41, kd_42, kd_43, kd_44, kd_45, ln_2, ln_3, ln_4, ln_5, ln_6, ln_7, ln_11, ln_12, ln_13, ln_14, ln_15, ln_16, ln_29, ln_30, ln_32, ln_33, ln_34, ln_35, ln_36, ln_37, ln_38, ln_40, ln_41, ln_42, ln_43, ln_45, Option.toList_some, Option.toList_none, List.cons_append, List.nil_append, true_and, and_true, if_true, if_false, true_or, or_true, Nat.reduceAdd, Int.reduceAdd, Bool.false_eq_true, tn_0, tn_1, tn_2, tn_3, tn_4, tn_5, tn_6, tn_7]
      refine ⟨fun c2 => no (fun h => c2 h.2.2), fun c2 => ?_⟩
      refine J_blk a_X5_judge_81 ?_
      simp only [b_X5_judge_81, w_aload_n0, w_getf5, ne0_30, w_iload_n3, w_iconst_2, w_iadd, w_iald, w_iload4, w_icmp_ne, w_nil, kd_0, kd_1, kd_2, kd_3, kd_4, kd_5, kd_6, kd_7, kd_10, kd_11, kd_12, kd_13, kd_14, kd_15, kd_16, kd_19, kd_28, kd_29, kd_30, kd_31, kd_32, kd_33, kd_34, kd_35, kd_36, kd_37, kd_38, kd_39, kd_40, kd_41, kd_42, kd_43, kd_44, kd_45, ln_2, ln_3, ln_4, ln_5, ln_6, ln_7, ln_11, ln_12, ln_13, ln_14, ln_15, ln_16, ln_29, ln_30, ln_32, ln_33, ln_34, ln_35, ln_36, ln_37, ln_38, ln_40, ln_41, ln_42, ln_43, ln_45, Option.toList_some, Option.toList_none, List.cons_append, List.nil_append, true_and, and_true, if_true, if_false, true_or, or_true, Nat.reduceAdd, Int.reduceAdd, Bool.false_eq_true, tn_0, tn_1, tn_2, tn_3, tn_4, tn_5, tn_6, tn_7, ad2, a2, r30]
      refine ⟨vinN (by omega) (by decide), fun c3 => no (fun h => c3 h.1), fun c3 => ?_⟩
      rw [if_pos ⟨c3, c, c2⟩]
      refine J_blk a_X5_judge_94 ?_
      simp only [b_X5_judge_94, w_iconst_1, w_goto, kd_0, kd_1, kd_2, kd_3, kd_4, kd_5, kd_6, kd_7, kd_10, kd_11, kd_12, kd_13, kd_14, kd_15, kd_16, kd_19, kd_28, kd_29, kd_30, kd_31, kd_32, kd_33, kd_34, kd_35, kd_36, kd_37, kd_38, kd_39, kd_40, kd_41, kd_42, kd_43, kd_44, kd_45, ln_2, ln_3, ln_4, ln_5, ln_6, ln_7, ln_11, ln_12, ln_13, ln_14, ln_15, ln_16, ln_29, ln_30, ln_32, ln_33, ln_34, ln_35, ln_36, ln_37, ln_38, ln_40, ln_41, ln_42, ln_43, ln_45, Option.toList_some, Option.toList_none, List.cons_append, List.nil_append, true_and, and_true, if_true, if_false, true_or, or_true, Nat.reduceAdd, Int.reduceAdd, Bool.false_eq_true, tn_0, tn_1, tn_2, tn_3, tn_4, tn_5, tn_6, tn_7]
      refine J_blk a_X5_judge_99 ?_
      simp only [b_X5_judge_99, w_istore5, nl_5n, nl_5i, nl_5a, w_iload5, w_if_ne, w_nil, kd_0, kd_1, kd_2, kd_3, kd_4, kd_5, kd_6, kd_7, kd_10, kd_11, kd_12, kd_13, kd_14, kd_15, kd_16, kd_19, kd_28, kd_29, kd_30, kd_31, kd_32, kd_33, kd_34, kd_35, kd_36, kd_37, kd_38, kd_39, kd_40, kd_41, kd_42, kd_43, kd_44, kd_45, ln_2, ln_3, ln_4, ln_5, ln_6, ln_7, ln_11, ln_12, ln_13, ln_14, ln_15, ln_16, ln_29, ln_30, ln_32, ln_33, ln_34, ln_35, ln_36, ln_37, ln_38, ln_40, ln_41, ln_42, ln_43, ln_45, Option.toList_some, Option.toList_none, List.cons_append, List.nil_append, true_and, and_true, if_true, if_false, true_or, or_true, Nat.reduceAdd, Int.reduceAdd, Bool.false_eq_true, tn_0, tn_1, tn_2, tn_3, tn_4, tn_5, tn_6, tn_7]
      refine ⟨fun _ => ?_, fun h => absurd h (by decide)⟩
      refine J_blk a_X5_judge_110 ?_
      simp only [b_X5_judge_110, w_iinc2, nl_2n, nl_2i, nl_2a, ci_1, w_goto, kd_0, kd_1, kd_2, kd_3, kd_4, kd_5, kd_6, kd_7, kd_10, kd_11, kd_12, kd_13, kd_14, kd_15, kd_16, kd_19, kd_28, kd_29, kd_30, kd_31, kd_32, kd_33, kd_34, kd_35, kd_36, kd_37, kd_38, kd_39, kd_40, kd_41, kd_42, kd_43, kd_44, kd_45, ln_2, ln_3, ln_4, ln_5, ln_6, ln_7, ln_11, ln_12, ln_13, ln_14, ln_15, ln_16, ln_29, ln_30, ln_32, ln_33, ln_34, ln_35, ln_36, ln_37, ln_38, ln_40, ln_41, ln_42, ln_43, ln_45, Option.toList_some, Option.toList_none, List.cons_append, List.nil_append, true_and, and_true, if_true, if_false, true_or, or_true, Nat.reduceAdd, Int.reduceAdd, Bool.false_eq_true, tn_0, tn_1, tn_2, tn_3, tn_4, tn_5, tn_6, tn_7, nI_1]
      exact ih (k + 1) (by omega) M2 _ _ _ k1 f2
  have go : J 4 mX5_judge 13 [some (.ref 0), some (.int (nI o)), none, none, none, none] [] M (Rq (some (.int (juF s n o (M.1 30) z 0))) (fun M' => RX M' 1 s n ∧ FC M M')) := by
    refine J_blk a_X5_judge_13 ?_
    simp only [b_X5_judge_13, w_aload_n0, w_nil, kd_0, kd_1, kd_2, kd_3, kd_4, kd_5, kd_6, kd_7, kd_10, kd_11, kd_12, kd_13, kd_14, kd_15, kd_16, kd_19, kd_28, kd_29, kd_30, kd_31, kd_32, kd_33, kd_34, kd_35, kd_36, kd_37, kd_38, kd_39, kd_40, kd_41, kd_42, kd_43, kd_44, kd_45, ln_2, ln_3, ln_4, ln_5, ln_6, ln_7, ln_11, ln_12, ln_13, ln_14, ln_15, ln_16, ln_29, ln_30, ln_32, ln_33, ln_34, ln_35, ln_36, ln_37, ln_38, ln_40, ln_41, ln_42, ln_43, ln_45, Option.toList_some, Option.toList_none, List.cons_append, List.nil_append, true_and, and_true, if_true, if_false, true_or, or_true, Nat.reduceAdd, Int.reduceAdd, Bool.false_eq_true, tn_0, tn_1, tn_2, tn_3, tn_4, tn_5, tn_6, tn_7]
    refine J_callV (ci := 5) (tryNow_c h8 hx) k_X5_judge_14 o_X5_tryNow (rfl) rfl rfl rfl (by decide) rfl (Nat.le_of_ble_eq_true rfl) ?_
    rintro r M1 ⟨rfl, g1, g2⟩
    refine J_blk a_X5_judge_17 ?_
    simp only [b_X5_judge_17, w_pop_i, w_pop_a, w_iconst_0, w_istore2, nl_2n, nl_2i, nl_2a, w_nil, kd_0, kd_1, kd_2, kd_3, kd_4, kd_5, kd_6, kd_7, kd_10, kd_11, kd_12, kd_13, kd_14, kd_15, kd_16, kd_19, kd_28, kd_29, kd_30, kd_31, kd_32, kd_33, kd_34, kd_35, kd_36, kd_37, kd_38, kd_39, kd_40, kd_41, kd_42, kd_43, kd_44, kd_45, ln_2, ln_3, ln_4, ln_5, ln_6, ln_7, ln_11, ln_12, ln_13, ln_14, ln_15, ln_16, ln_29, ln_30, ln_32, ln_33, ln_34, ln_35, ln_36, ln_37, ln_38, ln_40, ln_41, ln_42, ln_43, ln_45, Option.toList_some, Option.toList_none, List.cons_append, List.nil_append, true_and, and_true, if_true, if_false, true_or, or_true, Nat.reduceAdd, Int.reduceAdd, Bool.false_eq_true, tn_0, tn_1, tn_2, tn_3, tn_4, tn_5, tn_6, tn_7]
    exact loop z 0 (by omega) M1 _ _ _ g1 g2
  refine K_go 1 o_X5_judge [none, none, none, none] rfl (Nat.le_of_ble_eq_true rfl) ?_
  simp only [lvA_i, lvA_a, lvA_l, lvA_nil, List.cons_append, List.nil_append]
  refine J_blk a_X5_judge_0 ?_
  simp only [b_X5_judge_0, w_aload_n0, w_getf5, ne0_1, w_iload_n1, w_nil, kd_0, kd_1, kd_2, kd_3, kd_4, kd_5, kd_6, kd_7, kd_10, kd_11, kd_12, kd_13, kd_14, kd_15, kd_16, kd_19, kd_28, kd_29, kd_30, kd_31, kd_32, kd_33, kd_34, kd_35, kd_36, kd_37, kd_38, kd_39, kd_40, kd_41, kd_42, kd_43, kd_44, kd_45, ln_2, ln_3, ln_4, ln_5, ln_6, ln_7, ln_11, ln_12, ln_13, ln_14, ln_15, ln_16, ln_29, ln_30, ln_32, ln_33, ln_34, ln_35, ln_36, ln_37, ln_38, ln_40, ln_41, ln_42, ln_43, ln_45, Option.toList_some, Option.toList_none, List.cons_append, List.nil_append, true_and, and_true, if_true, if_false, true_or, or_true, Nat.reduceAdd, Int.reduceAdd, Bool.false_eq_true, tn_0, tn_1, tn_2, tn_3, tn_4, tn_5, tn_6, tn_7]
  refine J_callVr (ci := 4) (has2 hw hx (Or.inl rfl) _) k_X5_judge_5 o_X4_has (rfl) rfl rfl rfl (by decide) rfl (Nat.le_of_ble_eq_true rfl) ?_
  rw [if_pos ho]
  refine J_blk a_X5_judge_8 ?_
  simp only [b_X5_judge_8, w_if_ne, w_nil, kd_0, kd_1, kd_2, kd_3, kd_4, kd_5, kd_6, kd_7, kd_10, kd_11, kd_12, kd_13, kd_14, kd_15, kd_16, kd_19, kd_28, kd_29, kd_30, kd_31, kd_32, kd_33, kd_34, kd_35, kd_36, kd_37, kd_38, kd_39, kd_40, kd_41, kd_42, kd_43, kd_44, kd_45, ln_2, ln_3, ln_4, ln_5, ln_6, ln_7, ln_11, ln_12, ln_13, ln_14, ln_15, ln_16, ln_29, ln_30, ln_32, ln_33, ln_34, ln_35, ln_36, ln_37, ln_38, ln_40, ln_41, ln_42, ln_43, ln_45, Option.toList_some, Option.toList_none, List.cons_append, List.nil_append, true_and, and_true, if_true, if_false, true_or, or_true, Nat.reduceAdd, Int.reduceAdd, Bool.false_eq_true, tn_0, tn_1, tn_2, tn_3, tn_4, tn_5, tn_6, tn_7]
  refine ⟨fun c8 => ?_, fun c8 => ?_⟩
  · first
      | exact absurd c8 (by decide)
      | (exact go)
  · first
      | exact absurd c8 (by decide)
      | (refine J_blk a_X5_judge_11 ?_
         simp only [b_X5_judge_11, w_iconst_m1, w_ireti, kd_0, kd_1, kd_2, kd_3, kd_4, kd_5, kd_6, kd_7, kd_10, kd_11, kd_12, kd_13, kd_14, kd_15, kd_16, kd_19, kd_28, kd_29, kd_30, kd_31, kd_32, kd_33, kd_34, kd_35, kd_36, kd_37, kd_38, kd_39, kd_40, kd_41, kd_42, kd_43, kd_44, kd_45, ln_2, ln_3, ln_4, ln_5, ln_6, ln_7, ln_11, ln_12, ln_13, ln_14, ln_15, ln_16, ln_29, ln_30, ln_32, ln_33, ln_34, ln_35, ln_36, ln_37, ln_38, ln_40, ln_41, ln_42, ln_43, ln_45, Option.toList_some, Option.toList_none, List.cons_append, List.nil_append, true_and, and_true, if_true, if_false, true_or, or_true, Nat.reduceAdd, Int.reduceAdd, Bool.false_eq_true, tn_0, tn_1, tn_2, tn_3, tn_4, tn_5, tn_6, tn_7]
         first | exact ⟨rfl, rfl⟩ | (simp_all [Rt]))
end RW
theorem power_c (b n : Nat) (M : Mm) (hb : b < 1000) (hn : n < 100) : K 0 mX5_power [.int (nI b), .int (nI n)] M (Rt (some (.long (lN (b ^ n)))) M) := by
  have loop : ∀ k, k ≤ n → J 0 mX5_power 5 [some (.int (nI b)), some (.int (nI n)), some (.long (lN (b ^ k))), none, some (.int (nI k))] [] M (Rt (some (.long (lN (b ^ n)))) M) := by
    refine down n ?_ ?_
    · refine J_blk a_X5_power_5 ?_
      simp only [b_X5_power_5, w_iload4, w_iload_n1, w_icmp_ge, w_nil, kd_0, kd_1, kd_2, kd_3, kd_4, kd_5, kd_6, kd_7, kd_10, kd_11, kd_12, kd_13, kd_14, kd_15, kd_16, kd_19, kd_28, kd_29, kd_30, kd_31, kd_32, kd_33, kd_34, kd_35, kd_36, kd_37, kd_38, kd_39, kd_40, kd_41, kd_42, kd_43, kd_44, kd_45, ln_2, ln_3, ln_4, ln_5, ln_6, ln_7, ln_11, ln_12, ln_13, ln_14, ln_15, ln_16, ln_29, ln_30, ln_32, ln_33, ln_34, ln_35, ln_36, ln_37, ln_38, ln_40, ln_41, ln_42, ln_43, ln_45, Option.toList_some, Option.toList_none, List.cons_append, List.nil_append, true_and, and_true, if_true, if_false, true_or, or_true, Nat.reduceAdd, Int.reduceAdd, Bool.false_eq_true, tn_0, tn_1, tn_2, tn_3, tn_4, tn_5, tn_6, tn_7]
      refine ⟨fun _ => ?_, fun h => absurd (Int32.le_refl _) h⟩
      refine J_blk a_X5_power_22 ?_
      simp only [b_X5_power_22, w_lload_n2, w_lret, kd_0, kd_1, kd_2, kd_3, kd_4, kd_5, kd_6, kd_7, kd_10, kd_11, kd_12, kd_13, kd_14, kd_15, kd_16, kd_19, kd_28, kd_29, kd_30, kd_31, kd_32, kd_33, kd_34, kd_35, kd_36, kd_37, kd_38, kd_39, kd_40, kd_41, kd_42, kd_43, kd_44, kd_45, ln_2, ln_3, ln_4, ln_5, ln_6, ln_7, ln_11, ln_12, ln_13, ln_14, ln_15, ln_16, ln_29, ln_30, ln_32, ln_33, ln_34, ln_35, ln_36, ln_37, ln_38, ln_40, ln_41, ln_42, ln_43, ln_45, Option.toList_some, Option.toList_none, List.cons_append, List.nil_append, true_and, and_true, if_true, if_false, true_or, or_true, Nat.reduceAdd, Int.reduceAdd, Bool.false_eq_true, tn_0, tn_1, tn_2, tn_3, tn_4, tn_5, tn_6, tn_7]
      first | exact ⟨rfl, rfl⟩ | (simp_all [Rt])
    · intro k hk ih
      rw [Nat.pow_succ] at ih
      refine J_blk a_X5_power_5 ?_
      simp only [b_X5_power_5, w_iload4, w_iload_n1, w_icmp_ge, w_nil, kd_0, kd_1, kd_2, kd_3, kd_4, kd_5, kd_6, kd_7, kd_10, kd_11, kd_12, kd_13, kd_14, kd_15, kd_16, kd_19, kd_28, kd_29, kd_30, kd_31, kd_32, kd_33, kd_34, kd_35, kd_36, kd_37, kd_38, kd_39, kd_40, kd_41, kd_42, kd_43, kd_44, kd_45, ln_2, ln_3, ln_4, ln_5, ln_6, ln_7, ln_11, ln_12, ln_13, ln_14, ln_15, ln_16, ln_29, ln_30, ln_32, ln_33, ln_34, ln_35, ln_36, ln_37, ln_38, ln_40, ln_41, ln_42, ln_43, ln_45, Option.toList_some, Option.toList_none, List.cons_append, List.nil_append, true_and, and_true, if_true, if_false, true_or, or_true, Nat.reduceAdd, Int.reduceAdd, Bool.false_eq_true, tn_0, tn_1, tn_2, tn_3, tn_4, tn_5, tn_6, tn_7]
      refine ⟨fun h => absurd h (nI_ge hk (by omega)), fun _ => ?_⟩
      refine J_blk a_X5_power_11 ?_
      simp only [b_X5_power_11, w_lload_n2, w_iload_n0, w_i2l, w_lmul, w_lstore2, nl_2n, nl_2i, nl_2a, w_iinc4, nl_4n, nl_4i, nl_4a, ci_1, w_goto, kd_0, kd_1, kd_2, kd_3, kd_4, kd_5, kd_6, kd_7, kd_10, kd_11, kd_12, kd_13, kd_14, kd_15, kd_16, kd_19, kd_28, kd_29, kd_30, kd_31, kd_32, kd_33, kd_34, kd_35, kd_36, kd_37, kd_38, kd_39, kd_40, kd_41, kd_42, kd_43, kd_44, kd_45, ln_2, ln_3, ln_4, ln_5, ln_6, ln_7, ln_11, ln_12, ln_13, ln_14, ln_15, ln_16, ln_29, ln_30, ln_32, ln_33, ln_34, ln_35, ln_36, ln_37, ln_38, ln_40, ln_41, ln_42, ln_43, ln_45, Option.toList_some, Option.toList_none, List.cons_append, List.nil_append, true_and, and_true, if_true, if_false, true_or, or_true, Nat.reduceAdd, Int.reduceAdd, Bool.false_eq_true, tn_0, tn_1, tn_2, tn_3, tn_4, tn_5, tn_6, tn_7, nI_l (show b < 2 ^ 31 by omega), lN_mul, nI_1]
      exact ih
  refine K_go 2 o_X5_power [none, none, none] rfl (Nat.le_of_ble_eq_true rfl) ?_
  simp only [lvA_i, lvA_a, lvA_l, lvA_nil, List.cons_append, List.nil_append]
  refine J_blk a_X5_power_0 ?_
  simp only [b_X5_power_0, w_lconst_1, w_lstore2, nl_2n, nl_2i, nl_2a, w_iconst_0, w_istore4, nl_4n, nl_4i, nl_4a, w_nil, kd_0, kd_1, kd_2, kd_3, kd_4, kd_5, kd_6, kd_7, kd_10, kd_11, kd_12, kd_13, kd_14, kd_15, kd_16, kd_19, kd_28, kd_29, kd_30, kd_31, kd_32, kd_33, kd_34, kd_35, kd_36, kd_37, kd_38, kd_39, kd_40, kd_41, kd_42, kd_43, kd_44, kd_45, ln_2, ln_3, ln_4, ln_5, ln_6, ln_7, ln_11, ln_12, ln_13, ln_14, ln_15, ln_16, ln_29, ln_30, ln_32, ln_33, ln_34, ln_35, ln_36, ln_37, ln_38, ln_40, ln_41, ln_42, ln_43, ln_45, Option.toList_some, Option.toList_none, List.cons_append, List.nil_append, true_and, and_true, if_true, if_false, true_or, or_true, Nat.reduceAdd, Int.reduceAdd, Bool.false_eq_true, tn_0, tn_1, tn_2, tn_3, tn_4, tn_5, tn_6, tn_7]
  exact loop 0 (by omega)
def chW (n k : Nat) : Nat → Nat
  | 0 => 1
  | i + 1 => chW n k i * (n - k + (i + 1)) / (i + 1)
theorem chW_all : ∀ n, n ≤ 8 → ∀ k, k ≤ n → (∀ i, i ≤ k → chW n k i ≤ 70) ∧ chW n k k = facN n / facN k / facN (n - k) := by decide +kernel
theorem ways_c (n k : Nat) (M : Mm) (hn : n ≤ 8) (hk : k ≤ n) : K 0 mX5_waysToChoose [.int (nI n), .int (nI k)] M (Rt (some (.long (lN (chW n k k)))) M) := by
  have hb := (chW_all n hn k hk).1
  have loop : ∀ f i, f + i = k → J 0 mX5_waysToChoose 5 [some (.int (nI n)), some (.int (nI k)), some (.long (lN (chW n k i))), none, some (.int (nI (i + 1)))] [] M (Rt (some (.long (lN (chW n k k)))) M) := by
    intro f
    induction f with
    | zero =>
      intro i hi
      have : i = k := by omega
      subst this
      refine J_blk a_X5_waysToChoose_5 ?_
      simp only [b_X5_waysToChoose_5, w_iload4, w_iload_n1, w_icmp_gt, w_nil, kd_0, kd_1, kd_2, kd_3, kd_4, kd_5, kd_6, kd_7, kd_10, kd_11, kd_12, kd_13, kd_14, kd_15, kd_16, kd_19, kd_28, kd_29, kd_30, kd_31, kd_32, kd_33, kd_34, kd_35, kd_36, kd_37, kd_38, kd_39, kd_40, kd_41, kd_42, kd_43, kd_44, kd_45, ln_2, ln_3, ln_4, ln_5, ln_6, ln_7, ln_11, ln_12, ln_13, ln_14, ln_15, ln_16, ln_29, ln_30, ln_32, ln_33, ln_34, ln_35, ln_36, ln_37, ln_38, ln_40, ln_41, ln_42, ln_43, ln_45, Option.toList_some, Option.toList_none, List.cons_append, List.nil_append, true_and, and_true, if_true, if_false, true_or, or_true, Nat.reduceAdd, Int.reduceAdd, Bool.false_eq_true, tn_0, tn_1, tn_2, tn_3, tn_4, tn_5, tn_6, tn_7]
      refine ⟨fun _ => ?_, fun h => absurd (nI_lt (show i < i + 1 by omega) (by omega)) h⟩
      refine J_blk a_X5_waysToChoose_31 ?_
      simp only [b_X5_waysToChoose_31, w_lload_n2, w_lret, kd_0, kd_1, kd_2, kd_3, kd_4, kd_5, kd_6, kd_7, kd_10, kd_11, kd_12, kd_13, kd_14, kd_15, kd_16, kd_19, kd_28, kd_29, kd_30, kd_31, kd_32, kd_33, kd_34, kd_35, kd_36, kd_37, kd_38, kd_39, kd_40, kd_41, kd_42, kd_43, kd_44, kd_45, ln_2, ln_3, ln_4, ln_5, ln_6, ln_7, ln_11, ln_12, ln_13, ln_14, ln_15, ln_16, ln_29, ln_30, ln_32, ln_33, ln_34, ln_35, ln_36, ln_37, ln_38, ln_40, ln_41, ln_42, ln_43, ln_45, Option.toList_some, Option.toList_none, List.cons_append, List.nil_append, true_and, and_true, if_true, if_false, true_or, or_true, Nat.reduceAdd, Int.reduceAdd, Bool.false_eq_true, tn_0, tn_1, tn_2, tn_3, tn_4, tn_5, tn_6, tn_7]
      first | exact ⟨rfl, rfl⟩ | (simp_all [Rt])
    | succ f ih =>
      intro i hi
      have hbi := hb i (by omega)
      have hm : chW n k i * (n - k + (i + 1)) ≤ 70 * 17 := Nat.mul_le_mul hbi (by omega)
      have g := ih (i + 1) (by omega)
      rw [chW] at g
      have ne : ¬ lN (i + 1) = 0 := fun e => absurd ((pk_lEQ (b := 0) (by omega) (by decide)).mp e) (by omega)
      refine J_blk a_X5_waysToChoose_5 ?_
      simp only [b_X5_waysToChoose_5, w_iload4, w_iload_n1, w_icmp_gt, w_nil, kd_0, kd_1, kd_2, kd_3, kd_4, kd_5, kd_6, kd_7, kd_10, kd_11, kd_12, kd_13, kd_14, kd_15, kd_16, kd_19, kd_28, kd_29, kd_30, kd_31, kd_32, kd_33, kd_34, kd_35, kd_36, kd_37, kd_38, kd_39, kd_40, kd_41, kd_42, kd_43, kd_44, kd_45, ln_2, ln_3, ln_4, ln_5, ln_6, ln_7, ln_11, ln_12, ln_13, ln_14, ln_15, ln_16, ln_29, ln_30, ln_32, ln_33, ln_34, ln_35, ln_36, ln_37, ln_38, ln_40, ln_41, ln_42, ln_43, ln_45, Option.toList_some, Option.toList_none, List.cons_append, List.nil_append, true_and, and_true, if_true, if_false, true_or, or_true, Nat.reduceAdd, Int.reduceAdd, Bool.false_eq_true, tn_0, tn_1, tn_2, tn_3, tn_4, tn_5, tn_6, tn_7]
      refine ⟨fun h => absurd h (nI_nlt (by omega) (by omega)), fun _ => ?_⟩
      refine J_blk a_X5_waysToChoose_11 ?_
      simp only [b_X5_waysToChoose_11, w_lload_n2, w_iload_n0, w_iload_n1, w_isub, w_iload4, w_iadd, w_i2l, w_lmul, w_ldiv, w_lstore2, nl_2n, nl_2i, nl_2a, w_iinc4, nl_4n, nl_4i, nl_4a, ci_1, w_goto, kd_0, kd_1, kd_2, kd_3, kd_4, kd_5, kd_6, kd_7, kd_10, kd_11, kd_12, kd_13, kd_14, kd_15, kd_16, kd_19, kd_28, kd_29, kd_30, kd_31, kd_32, kd_33, kd_34, kd_35, kd_36, kd_37, kd_38, kd_39, kd_40, kd_41, kd_42, kd_43, kd_44, kd_45, ln_2, ln_3, ln_4, ln_5, ln_6, ln_7, ln_11, ln_12, ln_13, ln_14, ln_15, ln_16, ln_29, ln_30, ln_32, ln_33, ln_34, ln_35, ln_36, ln_37, ln_38, ln_40, ln_41, ln_42, ln_43, ln_45, Option.toList_some, Option.toList_none, List.cons_append, List.nil_append, true_and, and_true, if_true, if_false, true_or, or_true, Nat.reduceAdd, Int.reduceAdd, Bool.false_eq_true, tn_0, tn_1, tn_2, tn_3, tn_4, tn_5, tn_6, tn_7, pk_sub hk, nI_add, nI_l (show n - k + (i + 1) < 2 ^ 31 by omega), lN_mul, nI_l (show i + 1 < 2 ^ 31 by omega), pk_lDiv (show chW n k i * (n - k + (i + 1)) < 2 ^ 63 by omega) (show 0 < i + 1 by omega) (show i + 1 < 2 ^ 63 by omega), nI_1]
      exact ⟨ne, g⟩
  refine K_go 2 o_X5_waysToChoose [none, none, none] rfl (Nat.le_of_ble_eq_true rfl) ?_
  simp only [lvA_i, lvA_a, lvA_l, lvA_nil, List.cons_append, List.nil_append]
  refine J_blk a_X5_waysToChoose_0 ?_
  simp only [b_X5_waysToChoose_0, w_lconst_1, w_lstore2, nl_2n, nl_2i, nl_2a, w_iconst_1, w_istore4, nl_4n, nl_4i, nl_4a, w_nil, kd_0, kd_1, kd_2, kd_3, kd_4, kd_5, kd_6, kd_7, kd_10, kd_11, kd_12, kd_13, kd_14, kd_15, kd_16, kd_19, kd_28, kd_29, kd_30, kd_31, kd_32, kd_33, kd_34, kd_35, kd_36, kd_37, kd_38, kd_39, kd_40, kd_41, kd_42, kd_43, kd_44, kd_45, ln_2, ln_3, ln_4, ln_5, ln_6, ln_7, ln_11, ln_12, ln_13, ln_14, ln_15, ln_16, ln_29, ln_30, ln_32, ln_33, ln_34, ln_35, ln_36, ln_37, ln_38, ln_40, ln_41, ln_42, ln_43, ln_45, Option.toList_some, Option.toList_none, List.cons_append, List.nil_append, true_and, and_true, if_true, if_false, true_or, or_true, Nat.reduceAdd, Int.reduceAdd, Bool.false_eq_true, tn_0, tn_1, tn_2, tn_3, tn_4, tn_5, tn_6, tn_7]
  exact loop k 0 (by omega)
theorem comDiv_c (a b : Nat) (M : Mm) (ha : a < 2 ^ 63) (hb : b < 2 ^ 63) : K 0 mX5_commonDivisor [.long (lN a), .long (lN b)] M (Rt (some (.long (lN (Nat.gcd a b)))) M) := by
  have ne : ∀ {y : Nat}, 0 < y → y < 2 ^ 63 → ¬ lN y = 0 := fun h0 h e => absurd ((pk_lEQ (b := 0) h (by decide)).mp e) (by omega)
  have out : ∀ (x i : Nat) (z : Option Value), i ≤ 200 → x = Nat.gcd a b → J 0 mX5_commonDivisor 9 [some (.long (lN a)), none, some (.long (lN b)), none, some (.long (lN x)), none, some (.long (lN 0)), none, some (.int (nI i)), z, none] [] M (Rt (some (.long (lN (Nat.gcd a b)))) M) := by
    intro x i z hi hx
    subst hx
    refine J_blk a_X5_commonDivisor_9 ?_
    simp only [b_X5_commonDivisor_9, w_iload8, w_sipush, ci_200, w_icmp_ge, w_nil, kd_0, kd_1, kd_2, kd_3, kd_4, kd_5, kd_6, kd_7, kd_10, kd_11, kd_12, kd_13, kd_14, kd_15, kd_16, kd_19, kd_28, kd_29, kd_30, kd_31, kd_32, kd_33, kd_34, kd_35, kd_36, kd_37, kd_38, kd_39, kd_40, kd_41, kd_42, kd_43, kd_44, kd_45, ln_2, ln_3, ln_4, ln_5, ln_6, ln_7, ln_11, ln_12, ln_13, ln_14, ln_15, ln_16, ln_29, ln_30, ln_32, ln_33, ln_34, ln_35, ln_36, ln_37, ln_38, ln_40, ln_41, ln_42, ln_43, ln_45, Option.toList_some, Option.toList_none, List.cons_append, List.nil_append, true_and, and_true, if_true, if_false, true_or, or_true, Nat.reduceAdd, Int.reduceAdd, Bool.false_eq_true, tn_0, tn_1, tn_2, tn_3, tn_4, tn_5, tn_6, tn_7]
    refine ⟨fun _ => ?_, fun _ => ?_⟩
    · refine J_blk a_X5_commonDivisor_45 ?_
      simp only [b_X5_commonDivisor_45, w_lload4, w_lret, kd_0, kd_1, kd_2, kd_3, kd_4, kd_5, kd_6, kd_7, kd_10, kd_11, kd_12, kd_13, kd_14, kd_15, kd_16, kd_19, kd_28, kd_29, kd_30, kd_31, kd_32, kd_33, kd_34, kd_35, kd_36, kd_37, kd_38, kd_39, kd_40, kd_41, kd_42, kd_43, kd_44, kd_45, ln_2, ln_3, ln_4, ln_5, ln_6, ln_7, ln_11, ln_12, ln_13, ln_14, ln_15, ln_16, ln_29, ln_30, ln_32, ln_33, ln_34, ln_35, ln_36, ln_37, ln_38, ln_40, ln_41, ln_42, ln_43, ln_45, Option.toList_some, Option.toList_none, List.cons_append, List.nil_append, true_and, and_true, if_true, if_false, true_or, or_true, Nat.reduceAdd, Int.reduceAdd, Bool.false_eq_true, tn_0, tn_1, tn_2, tn_3, tn_4, tn_5, tn_6, tn_7]
      first | exact ⟨rfl, rfl⟩ | (simp_all [Rt])
    · refine J_blk a_X5_commonDivisor_17 ?_
      simp only [b_X5_commonDivisor_17, w_lload6, w_lconst_0, w_lcmp, w_if_eq, w_nil, kd_0, kd_1, kd_2, kd_3, kd_4, kd_5, kd_6, kd_7, kd_10, kd_11, kd_12, kd_13, kd_14, kd_15, kd_16, kd_19, kd_28, kd_29, kd_30, kd_31, kd_32, kd_33, kd_34, kd_35, kd_36, kd_37, kd_38, kd_39, kd_40, kd_41, kd_42, kd_43, kd_44, kd_45, ln_2, ln_3, ln_4, ln_5, ln_6, ln_7, ln_11, ln_12, ln_13, ln_14, ln_15, ln_16, ln_29, ln_30, ln_32, ln_33, ln_34, ln_35, ln_36, ln_37, ln_38, ln_40, ln_41, ln_42, ln_43, ln_45, Option.toList_some, Option.toList_none, List.cons_append, List.nil_append, true_and, and_true, if_true, if_false, true_or, or_true, Nat.reduceAdd, Int.reduceAdd, Bool.false_eq_true, tn_0, tn_1, tn_2, tn_3, tn_4, tn_5, tn_6, tn_7, lgq]
      refine ⟨fun _ => ?_, fun h => absurd (show lN 0 = 0 from rfl) h⟩
      refine J_blk a_X5_commonDivisor_45 ?_
      simp only [b_X5_commonDivisor_45, w_lload4, w_lret, kd_0, kd_1, kd_2, kd_3, kd_4, kd_5, kd_6, kd_7, kd_10, kd_11, kd_12, kd_13, kd_14, kd_15, kd_16, kd_19, kd_28, kd_29, kd_30, kd_31, kd_32, kd_33, kd_34, kd_35, kd_36, kd_37, kd_38, kd_39, kd_40, kd_41, kd_42, kd_43, kd_44, kd_45, ln_2, ln_3, ln_4, ln_5, ln_6, ln_7, ln_11, ln_12, ln_13, ln_14, ln_15, ln_16, ln_29, ln_30, ln_32, ln_33, ln_34, ln_35, ln_36, ln_37, ln_38, ln_40, ln_41, ln_42, ln_43, ln_45, Option.toList_some, Option.toList_none, List.cons_append, List.nil_append, true_and, and_true, if_true, if_false, true_or, or_true, Nat.reduceAdd, Int.reduceAdd, Bool.false_eq_true, tn_0, tn_1, tn_2, tn_3, tn_4, tn_5, tn_6, tn_7]
      first | exact ⟨rfl, rfl⟩ | (simp_all [Rt])
  have loop : ∀ (m x y i : Nat) (z : Option Value), y < 2 ^ m → i + 2 * m ≤ 199 → x < 2 ^ 63 → y < 2 ^ 63 → Nat.gcd y x = Nat.gcd a b → J 0 mX5_commonDivisor 9 [some (.long (lN a)), none, some (.long (lN b)), none, some (.long (lN x)), none, some (.long (lN y)), none, some (.int (nI i)), z, none] [] M (Rt (some (.long (lN (Nat.gcd a b)))) M) := by
    intro m
    induction m with
    | zero =>
      intro x y i z hy hi hx hy2 hg
      have : y = 0 := by simpa using hy
      subst this
      rw [Nat.gcd_zero_left] at hg
      exact out x i z (by omega) hg
    | succ m ih =>
      intro x y i z hy hi hx hy2 hg
      rcases Nat.eq_zero_or_pos y with h0 | h0
      · subst h0
        rw [Nat.gcd_zero_left] at hg
        exact out x i z (by omega) hg
      · have e200 : ∀ j, j ≤ 199 → (200 ≤ nI j) = False := fun j hj => propext ⟨fun h => absurd ((nI_leI (a := 200) (by decide) (by omega)).mp h) (by omega), fun h => h.elim⟩
        have hr := Nat.mod_lt x h0
        have hg1 : Nat.gcd (x % y) y = Nat.gcd a b := by rw [← Nat.gcd_rec]; exact hg
        refine J_blk a_X5_commonDivisor_9 ?_
        simp only [b_X5_commonDivisor_9, w_iload8, w_sipush, ci_200, w_icmp_ge, w_nil, kd_0, kd_1, kd_2, kd_3, kd_4, kd_5, kd_6, kd_7, kd_10, kd_11, kd_12, kd_13, kd_14, kd_15, kd_16, kd_19, kd_28, kd_29, kd_30, kd_31, kd_32, kd_33, kd_34, kd_35, kd_36, kd_37, kd_38, kd_39, kd_40, kd_41, kd_42, kd_43, kd_44, kd_45, ln_2, ln_3, ln_4, ln_5, ln_6, ln_7, ln_11, ln_12, ln_13, ln_14, ln_15, ln_16, ln_29, ln_30, ln_32, ln_33, ln_34, ln_35, ln_36, ln_37, ln_38, ln_40, ln_41, ln_42, ln_43, ln_45, Option.toList_some, Option.toList_none, List.cons_append, List.nil_append, true_and, and_true, if_true, if_false, true_or, or_true, Nat.reduceAdd, Int.reduceAdd, Bool.false_eq_true, tn_0, tn_1, tn_2, tn_3, tn_4, tn_5, tn_6, tn_7, e200 i (by omega)]
        refine ⟨fun h => h.elim, fun _ => ?_⟩
        refine J_blk a_X5_commonDivisor_17 ?_
        simp only [b_X5_commonDivisor_17, w_lload6, w_lconst_0, w_lcmp, w_if_eq, w_nil, kd_0, kd_1, kd_2, kd_3, kd_4, kd_5, kd_6, kd_7, kd_10, kd_11, kd_12, kd_13, kd_14, kd_15, kd_16, kd_19, kd_28, kd_29, kd_30, kd_31, kd_32, kd_33, kd_34, kd_35, kd_36, kd_37, kd_38, kd_39, kd_40, kd_41, kd_42, kd_43, kd_44, kd_45, ln_2, ln_3, ln_4, ln_5, ln_6, ln_7, ln_11, ln_12, ln_13, ln_14, ln_15, ln_16, ln_29, ln_30, ln_32, ln_33, ln_34, ln_35, ln_36, ln_37, ln_38, ln_40, ln_41, ln_42, ln_43, ln_45, Option.toList_some, Option.toList_none, List.cons_append, List.nil_append, true_and, and_true, if_true, if_false, true_or, or_true, Nat.reduceAdd, Int.reduceAdd, Bool.false_eq_true, tn_0, tn_1, tn_2, tn_3, tn_4, tn_5, tn_6, tn_7, lgq]
        refine ⟨fun h => absurd h (ne h0 hy2), fun _ => ?_⟩
        refine J_blk a_X5_commonDivisor_24 ?_
        simp only [b_X5_commonDivisor_24, w_lload4, w_lload6, w_lrem, w_lstore9, nl_9n, nl_9i, nl_9a, w_lstore4, nl_4n, nl_4i, nl_4a, w_lload9, w_lstore6, nl_6n, nl_6i, nl_6a, w_iinc8, nl_8n, nl_8i, nl_8a, ci_1, w_goto, kd_0, kd_1, kd_2, kd_3, kd_4, kd_5, kd_6, kd_7, kd_10, kd_11, kd_12, kd_13, kd_14, kd_15, kd_16, kd_19, kd_28, kd_29, kd_30, kd_31, kd_32, kd_33, kd_34, kd_35, kd_36, kd_37, kd_38, kd_39, kd_40, kd_41, kd_42, kd_43, kd_44, kd_45, ln_2, ln_3, ln_4, ln_5, ln_6, ln_7, ln_11, ln_12, ln_13, ln_14, ln_15, ln_16, ln_29, ln_30, ln_32, ln_33, ln_34, ln_35, ln_36, ln_37, ln_38, ln_40, ln_41, ln_42, ln_43, ln_45, Option.toList_some, Option.toList_none, List.cons_append, List.nil_append, true_and, and_true, if_true, if_false, true_or, or_true, Nat.reduceAdd, Int.reduceAdd, Bool.false_eq_true, tn_0, tn_1, tn_2, tn_3, tn_4, tn_5, tn_6, tn_7, pk_lRem hx h0 hy2, nI_1]
        refine ⟨ne h0 hy2, ?_⟩
        rcases Nat.eq_zero_or_pos (x % y) with h1 | h1
        · rw [h1] at hg1 ⊢
          rw [Nat.gcd_zero_left] at hg1
          exact out y (i + 1) _ (by omega) hg1
        · have hs := Nat.mod_lt y h1
          have hle : y % (x % y) ≤ y - x % y := by
            rw [Nat.mod_eq_sub_mod (Nat.le_of_lt hr)]
            exact Nat.mod_le _ _
          rw [Nat.pow_succ] at hy
          have hg2 : Nat.gcd (y % (x % y)) (x % y) = Nat.gcd a b := by rw [← Nat.gcd_rec]; exact hg1
          refine J_blk a_X5_commonDivisor_9 ?_
          simp only [b_X5_commonDivisor_9, w_iload8, w_sipush, ci_200, w_icmp_ge, w_nil, kd_0, kd_1, kd_2, kd_3, kd_4, kd_5, kd_6, kd_7, kd_10, kd_11, kd_12, kd_13, kd_14, kd_15, kd_16, kd_19, kd_28, kd_29, kd_30, kd_31, kd_32, kd_33, kd_34, kd_35, kd_36, kd_37, kd_38, kd_39, kd_40, kd_41, kd_42, kd_43, kd_44, kd_45, ln_2, ln_3, ln_4, ln_5, ln_6, ln_7, ln_11, ln_12, ln_13, ln_14, ln_15, ln_16, ln_29, ln_30, ln_32, ln_33, ln_34, ln_35, ln_36, ln_37, ln_38, ln_40, ln_41, ln_42, ln_43, ln_45, Option.toList_some, Option.toList_none, List.cons_append, List.nil_append, true_and, and_true, if_true, if_false, true_or, or_true, Nat.reduceAdd, Int.reduceAdd, Bool.false_eq_true, tn_0, tn_1, tn_2, tn_3, tn_4, tn_5, tn_6, tn_7, e200 (i + 1) (by omega)]
          refine ⟨fun h => h.elim, fun _ => ?_⟩
          refine J_blk a_X5_commonDivisor_17 ?_
          simp only [b_X5_commonDivisor_17, w_lload6, w_lconst_0, w_lcmp, w_if_eq, w_nil, kd_0, kd_1, kd_2, kd_3, kd_4, kd_5, kd_6, kd_7, kd_10, kd_11, kd_12, kd_13, kd_14, kd_15, kd_16, kd_19, kd_28, kd_29, kd_30, kd_31, kd_32, kd_33, kd_34, kd_35, kd_36, kd_37, kd_38, kd_39, kd_40, kd_41, kd_42, kd_43, kd_44, kd_45, ln_2, ln_3, ln_4, ln_5, ln_6, ln_7, ln_11, ln_12, ln_13, ln_14, ln_15, ln_16, ln_29, ln_30, ln_32, ln_33, ln_34, ln_35, ln_36, ln_37, ln_38, ln_40, ln_41, ln_42, ln_43, ln_45, Option.toList_some, Option.toList_none, List.cons_append, List.nil_append, true_and, and_true, if_true, if_false, true_or, or_true, Nat.reduceAdd, Int.reduceAdd, Bool.false_eq_true, tn_0, tn_1, tn_2, tn_3, tn_4, tn_5, tn_6, tn_7, lgq]
          refine ⟨fun h => absurd h (ne h1 (by omega)), fun _ => ?_⟩
          refine J_blk a_X5_commonDivisor_24 ?_
          simp only [b_X5_commonDivisor_24, w_lload4, w_lload6, w_lrem, w_lstore9, nl_9n, nl_9i, nl_9a, w_lstore4, nl_4n, nl_4i, nl_4a, w_lload9, w_lstore6, nl_6n, nl_6i, nl_6a, w_iinc8, nl_8n, nl_8i, nl_8a, ci_1, w_goto, kd_0, kd_1, kd_2, kd_3, kd_4, kd_5, kd_6, kd_7, kd_10, kd_11, kd_12, kd_13, kd_14, kd_15, kd_16, kd_19, kd_28, kd_29, kd_30, kd_31, kd_32, kd_33, kd_34, kd_35, kd_36, kd_37, kd_38, kd_39, kd_40, kd_41, kd_42, kd_43, kd_44, kd_45, ln_2, ln_3, ln_4, ln_5, ln_6, ln_7, ln_11, ln_12, ln_13, ln_14, ln_15, ln_16, ln_29, ln_30, ln_32, ln_33, ln_34, ln_35, ln_36, ln_37, ln_38, ln_40, ln_41, ln_42, ln_43, ln_45, Option.toList_some, Option.toList_none, List.cons_append, List.nil_append, true_and, and_true, if_true, if_false, true_or, or_true, Nat.reduceAdd, Int.reduceAdd, Bool.false_eq_true, tn_0, tn_1, tn_2, tn_3, tn_4, tn_5, tn_6, tn_7, pk_lRem hy2 h1 (show x % y < 2 ^ 63 by omega), nI_1]
          refine ⟨ne h1 (by omega), ?_⟩
          exact ih (x % y) (y % (x % y)) (i + 1 + 1) _ (by omega) (by omega) (by omega) (by omega) hg2
  refine K_go 2 o_X5_commonDivisor [none, none, none, none, none, none, none] rfl (Nat.le_of_ble_eq_true rfl) ?_
  simp only [lvA_i, lvA_a, lvA_l, lvA_nil, List.cons_append, List.nil_append]
  refine J_blk a_X5_commonDivisor_0 ?_
  simp only [b_X5_commonDivisor_0, w_lload_n0, w_lstore4, nl_4n, nl_4i, nl_4a, w_lload_n2, w_lstore6, nl_6n, nl_6i, nl_6a, w_iconst_0, w_istore8, nl_8n, nl_8i, nl_8a, w_nil, kd_0, kd_1, kd_2, kd_3, kd_4, kd_5, kd_6, kd_7, kd_10, kd_11, kd_12, kd_13, kd_14, kd_15, kd_16, kd_19, kd_28, kd_29, kd_30, kd_31, kd_32, kd_33, kd_34, kd_35, kd_36, kd_37, kd_38, kd_39, kd_40, kd_41, kd_42, kd_43, kd_44, kd_45, ln_2, ln_3, ln_4, ln_5, ln_6, ln_7, ln_11, ln_12, ln_13, ln_14, ln_15, ln_16, ln_29, ln_30, ln_32, ln_33, ln_34, ln_35, ln_36, ln_37, ln_38, ln_40, ln_41, ln_42, ln_43, ln_45, Option.toList_some, Option.toList_none, List.cons_append, List.nil_append, true_and, and_true, if_true, if_false, true_or, or_true, Nat.reduceAdd, Int.reduceAdd, Bool.false_eq_true, tn_0, tn_1, tn_2, tn_3, tn_4, tn_5, tn_6, tn_7]
  exact loop 63 a b 0 _ hb (by omega) ha hb (Nat.gcd_comm b a)
theorem cpartOf_c (a b : Nat) (p : Int32) (M : Mm) (hb : 0 < b) (ha2 : a < 2 ^ 63) (hb2 : b < 2 ^ 63) : K 1 mX5_partOf [.long (lN a), .long (lN b), .int p] M (Rt (some (.long (lN ((if p = 0 then a else b) / Nat.gcd a b)))) M) := by
  have hg : 0 < Nat.gcd a b := Nat.gcd_pos_of_pos_right _ hb
  have hgb : Nat.gcd a b ≤ b := Nat.gcd_le_right _ hb
  have ne : ¬ lN (Nat.gcd a b) = 0 := fun e => absurd ((pk_lEQ (b := 0) (by omega) (by decide)).mp e) (by omega)
  have tail : ∀ w : Nat, w < 2 ^ 63 → J 1 mX5_partOf 17 [some (.long (lN a)), none, some (.long (lN b)), none, some (.int p), some (.long (lN (Nat.gcd a b))), none, none, none] [.long (lN w)] M (Rt (some (.long (lN (w / Nat.gcd a b)))) M) := by
    intro w hw
    refine J_blk a_X5_partOf_17 ?_
    simp only [b_X5_partOf_17, w_lstore7, nl_7n, nl_7i, nl_7a, w_lload5, w_lconst_0, w_lcmp, w_if_ne, w_nil, kd_0, kd_1, kd_2, kd_3, kd_4, kd_5, kd_6, kd_7, kd_10, kd_11, kd_12, kd_13, kd_14, kd_15, kd_16, kd_19, kd_28, kd_29, kd_30, kd_31, kd_32, kd_33, kd_34, kd_35, kd_36, kd_37, kd_38, kd_39, kd_40, kd_41, kd_42, kd_43, kd_44, kd_45, ln_2, ln_3, ln_4, ln_5, ln_6, ln_7, ln_11, ln_12, ln_13, ln_14, ln_15, ln_16, ln_29, ln_30, ln_32, ln_33, ln_34, ln_35, ln_36, ln_37, ln_38, ln_40, ln_41, ln_42, ln_43, ln_45, Option.toList_some, Option.toList_none, List.cons_append, List.nil_append, true_and, and_true, if_true, if_false, true_or, or_true, Nat.reduceAdd, Int.reduceAdd, Bool.false_eq_true, tn_0, tn_1, tn_2, tn_3, tn_4, tn_5, tn_6, tn_7, lgq]
    refine ⟨fun _ => ?_, fun h => absurd h ne⟩
    refine J_blk a_X5_partOf_31 ?_
    simp only [b_X5_partOf_31, w_lload7, w_lload5, w_ldiv, w_nil, kd_0, kd_1, kd_2, kd_3, kd_4, kd_5, kd_6, kd_7, kd_10, kd_11, kd_12, kd_13, kd_14, kd_15, kd_16, kd_19, kd_28, kd_29, kd_30, kd_31, kd_32, kd_33, kd_34, kd_35, kd_36, kd_37, kd_38, kd_39, kd_40, kd_41, kd_42, kd_43, kd_44, kd_45, ln_2, ln_3, ln_4, ln_5, ln_6, ln_7, ln_11, ln_12, ln_13, ln_14, ln_15, ln_16, ln_29, ln_30, ln_32, ln_33, ln_34, ln_35, ln_36, ln_37, ln_38, ln_40, ln_41, ln_42, ln_43, ln_45, Option.toList_some, Option.toList_none, List.cons_append, List.nil_append, true_and, and_true, if_true, if_false, true_or, or_true, Nat.reduceAdd, Int.reduceAdd, Bool.false_eq_true, tn_0, tn_1, tn_2, tn_3, tn_4, tn_5, tn_6, tn_7, pk_lDiv hw hg (show Nat.gcd a b < 2 ^ 63 by omega)]
    refine ⟨ne, ?_⟩
    refine J_blk a_X5_partOf_36 ?_
    simp only [b_X5_partOf_36, w_lret, kd_0, kd_1, kd_2, kd_3, kd_4, kd_5, kd_6, kd_7, kd_10, kd_11, kd_12, kd_13, kd_14, kd_15, kd_16, kd_19, kd_28, kd_29, kd_30, kd_31, kd_32, kd_33, kd_34, kd_35, kd_36, kd_37, kd_38, kd_39, kd_40, kd_41, kd_42, kd_43, kd_44, kd_45, ln_2, ln_3, ln_4, ln_5, ln_6, ln_7, ln_11, ln_12, ln_13, ln_14, ln_15, ln_16, ln_29, ln_30, ln_32, ln_33, ln_34, ln_35, ln_36, ln_37, ln_38, ln_40, ln_41, ln_42, ln_43, ln_45, Option.toList_some, Option.toList_none, List.cons_append, List.nil_append, true_and, and_true, if_true, if_false, true_or, or_true, Nat.reduceAdd, Int.reduceAdd, Bool.false_eq_true, tn_0, tn_1, tn_2, tn_3, tn_4, tn_5, tn_6, tn_7]
    first | exact ⟨rfl, rfl⟩ | (simp_all [Rt])
  refine K_go 3 o_X5_partOf [none, none, none, none] rfl (Nat.le_of_ble_eq_true rfl) ?_
  simp only [lvA_i, lvA_a, lvA_l, lvA_nil, List.cons_append, List.nil_append]
  refine J_blk a_X5_partOf_0 ?_
  simp only [b_X5_partOf_0, w_lload_n0, w_lload_n2, w_nil, kd_0, kd_1, kd_2, kd_3, kd_4, kd_5, kd_6, kd_7, kd_10, kd_11, kd_12, kd_13, kd_14, kd_15, kd_16, kd_19, kd_28, kd_29, kd_30, kd_31, kd_32, kd_33, kd_34, kd_35, kd_36, kd_37, kd_38, kd_39, kd_40, kd_41, kd_42, kd_43, kd_44, kd_45, ln_2, ln_3, ln_4, ln_5, ln_6, ln_7, ln_11, ln_12, ln_13, ln_14, ln_15, ln_16, ln_29, ln_30, ln_32, ln_33, ln_34, ln_35, ln_36, ln_37, ln_38, ln_40, ln_41, ln_42, ln_43, ln_45, Option.toList_some, Option.toList_none, List.cons_append, List.nil_append, true_and, and_true, if_true, if_false, true_or, or_true, Nat.reduceAdd, Int.reduceAdd, Bool.false_eq_true, tn_0, tn_1, tn_2, tn_3, tn_4, tn_5, tn_6, tn_7]
  refine J_callSr (comDiv_c a b M ha2 hb2) k_X5_partOf_2 o_X5_commonDivisor rfl (by decide) rfl (Nat.le_of_ble_eq_true rfl) ?_
  refine J_blk a_X5_partOf_5 ?_
  simp only [b_X5_partOf_5, w_lstore5, nl_5n, nl_5i, nl_5a, w_iload4, w_if_ne, w_nil, kd_0, kd_1, kd_2, kd_3, kd_4, kd_5, kd_6, kd_7, kd_10, kd_11, kd_12, kd_13, kd_14, kd_15, kd_16, kd_19, kd_28, kd_29, kd_30, kd_31, kd_32, kd_33, kd_34, kd_35, kd_36, kd_37, kd_38, kd_39, kd_40, kd_41, kd_42, kd_43, kd_44, kd_45, ln_2, ln_3, ln_4, ln_5, ln_6, ln_7, ln_11, ln_12, ln_13, ln_14, ln_15, ln_16, ln_29, ln_30, ln_32, ln_33, ln_34, ln_35, ln_36, ln_37, ln_38, ln_40, ln_41, ln_42, ln_43, ln_45, Option.toList_some, Option.toList_none, List.cons_append, List.nil_append, true_and, and_true, if_true, if_false, true_or, or_true, Nat.reduceAdd, Int.reduceAdd, Bool.false_eq_true, tn_0, tn_1, tn_2, tn_3, tn_4, tn_5, tn_6, tn_7]
  refine ⟨fun c => ?_, fun c => ?_⟩
  · rw [if_neg c]
    refine J_blk a_X5_partOf_16 ?_
    simp only [b_X5_partOf_16, w_lload_n2, w_nil, kd_0, kd_1, kd_2, kd_3, kd_4, kd_5, kd_6, kd_7, kd_10, kd_11, kd_12, kd_13, kd_14, kd_15, kd_16, kd_19, kd_28, kd_29, kd_30, kd_31, kd_32, kd_33, kd_34, kd_35, kd_36, kd_37, kd_38, kd_39, kd_40, kd_41, kd_42, kd_43, kd_44, kd_45, ln_2, ln_3, ln_4, ln_5, ln_6, ln_7, ln_11, ln_12, ln_13, ln_14, ln_15, ln_16, ln_29, ln_30, ln_32, ln_33, ln_34, ln_35, ln_36, ln_37, ln_38, ln_40, ln_41, ln_42, ln_43, ln_45, Option.toList_some, Option.toList_none, List.cons_append, List.nil_append, true_and, and_true, if_true, if_false, true_or, or_true, Nat.reduceAdd, Int.reduceAdd, Bool.false_eq_true, tn_0, tn_1, tn_2, tn_3, tn_4, tn_5, tn_6, tn_7]
    exact tail b hb2
  · rw [if_pos c]
    refine J_blk a_X5_partOf_12 ?_
    simp only [b_X5_partOf_12, w_lload_n0, w_goto, kd_0, kd_1, kd_2, kd_3, kd_4, kd_5, kd_6, kd_7, kd_10, kd_11, kd_12, kd_13, kd_14, kd_15, kd_16, kd_19, kd_28, kd_29, kd_30, kd_31, kd_32, kd_33, kd_34, kd_35, kd_36, kd_37, kd_38, kd_39, kd_40, kd_41, kd_42, kd_43, kd_44, kd_45, ln_2, ln_3, ln_4, ln_5, ln_6, ln_7, ln_11, ln_12, ln_13, ln_14, ln_15, ln_16, ln_29, ln_30, ln_32, ln_33, ln_34, ln_35, ln_36, ln_37, ln_38, ln_40, ln_41, ln_42, ln_43, ln_45, Option.toList_some, Option.toList_none, List.cons_append, List.nil_append, true_and, and_true, if_true, if_false, true_or, or_true, Nat.reduceAdd, Int.reduceAdd, Bool.false_eq_true, tn_0, tn_1, tn_2, tn_3, tn_4, tn_5, tn_6, tn_7]
    exact tail a ha2
theorem odA_eq (c f k : Nat) : ∀ j, odA c f k (k + j) = c * f ^ k * (100 - f) ^ j := by
  have lo : ∀ i, i ≤ k → odA c f k i = c * f ^ i := by
    intro i
    induction i with
    | zero => intro _; simp [odA]
    | succ i ih => intro hi; rw [odA, ih (by omega), if_pos (by omega), Nat.pow_succ, Nat.mul_assoc]
  intro j
  induction j with
  | zero => rw [Nat.add_zero, lo k (Nat.le_refl k)]; simp
  | succ j ih => rw [← Nat.add_assoc, odA, ih, if_neg (by omega), Nat.pow_succ, Nat.mul_assoc]
theorem codds_f (a k p : Int32) (M : Mm) (h : ¬ ((0 ≤ a ∧ a ≤ 8) ∧ (0 ≤ k ∧ k ≤ a) ∧ (0 ≤ p ∧ p ≤ 1))) : K 2 mX5_odds [.ref 0, .int a, .int k, .int p] M (Rt (some (.long (-1))) M) := by
  refine K_go 3 o_X5_odds [none, none, none] rfl (Nat.le_of_ble_eq_true rfl) ?_
  simp only [lvA_i, lvA_a, lvA_l, lvA_nil, List.cons_append, List.nil_append]
  refine J_blk a_X5_odds_0 ?_
  simp only [b_X5_odds_0, w_iload_n1, w_iconst_0, w_bipush, ci_8, w_nil, kd_0, kd_1, kd_2, kd_3, kd_4, kd_5, kd_6, kd_7, kd_10, kd_11, kd_12, kd_13, kd_14, kd_15, kd_16, kd_19, kd_28, kd_29, kd_30, kd_31, kd_32, kd_33, kd_34, kd_35, kd_36, kd_37, kd_38, kd_39, kd_40, kd_41, kd_42, kd_43, kd_44, kd_45, ln_2, ln_3, ln_4, ln_5, ln_6, ln_7, ln_11, ln_12, ln_13, ln_14, ln_15, ln_16, ln_29, ln_30, ln_32, ln_33, ln_34, ln_35, ln_36, ln_37, ln_38, ln_40, ln_41, ln_42, ln_43, ln_45, Option.toList_some, Option.toList_none, List.cons_append, List.nil_append, true_and, and_true, if_true, if_false, true_or, or_true, Nat.reduceAdd, Int.reduceAdd, Bool.false_eq_true, tn_0, tn_1, tn_2, tn_3, tn_4, tn_5, tn_6, tn_7]
  refine J_callSr (within_c _ _ _ _) k_X5_odds_4 o_X5_within rfl (by decide) rfl (Nat.le_of_ble_eq_true rfl) ?_
  refine J_blk a_X5_odds_7 ?_
  simp only [b_X5_odds_7, w_if_eq, w_nil, kd_0, kd_1, kd_2, kd_3, kd_4, kd_5, kd_6, kd_7, kd_10, kd_11, kd_12, kd_13, kd_14, kd_15, kd_16, kd_19, kd_28, kd_29, kd_30, kd_31, kd_32, kd_33, kd_34, kd_35, kd_36, kd_37, kd_38, kd_39, kd_40, kd_41, kd_42, kd_43, kd_44, kd_45, ln_2, ln_3, ln_4, ln_5, ln_6, ln_7, ln_11, ln_12, ln_13, ln_14, ln_15, ln_16, ln_29, ln_30, ln_32, ln_33, ln_34, ln_35, ln_36, ln_37, ln_38, ln_40, ln_41, ln_42, ln_43, ln_45, Option.toList_some, Option.toList_none, List.cons_append, List.nil_append, true_and, and_true, if_true, if_false, true_or, or_true, Nat.reduceAdd, Int.reduceAdd, Bool.false_eq_true, tn_0, tn_1, tn_2, tn_3, tn_4, tn_5, tn_6, tn_7]
  refine ⟨fun c9 => ?_, fun c9 => ?_⟩
  · refine J_blk a_X5_odds_28 ?_
    simp only [b_X5_odds_28, w_ldc2, cl_m1, w_lret, kd_0, kd_1, kd_2, kd_3, kd_4, kd_5, kd_6, kd_7, kd_10, kd_11, kd_12, kd_13, kd_14, kd_15, kd_16, kd_19, kd_28, kd_29, kd_30, kd_31, kd_32, kd_33, kd_34, kd_35, kd_36, kd_37, kd_38, kd_39, kd_40, kd_41, kd_42, kd_43, kd_44, kd_45, ln_2, ln_3, ln_4, ln_5, ln_6, ln_7, ln_11, ln_12, ln_13, ln_14, ln_15, ln_16, ln_29, ln_30, ln_32, ln_33, ln_34, ln_35, ln_36, ln_37, ln_38, ln_40, ln_41, ln_42, ln_43, ln_45, Option.toList_some, Option.toList_none, List.cons_append, List.nil_append, true_and, and_true, if_true, if_false, true_or, or_true, Nat.reduceAdd, Int.reduceAdd, Bool.false_eq_true, tn_0, tn_1, tn_2, tn_3, tn_4, tn_5, tn_6, tn_7]
    exact ⟨rfl, rfl⟩
  · refine J_blk a_X5_odds_10 ?_
    simp only [b_X5_odds_10, w_iload_n2, w_iconst_0, w_iload_n1, w_nil, kd_0, kd_1, kd_2, kd_3, kd_4, kd_5, kd_6, kd_7, kd_10, kd_11, kd_12, kd_13, kd_14, kd_15, kd_16, kd_19, kd_28, kd_29, kd_30, kd_31, kd_32, kd_33, kd_34, kd_35, kd_36, kd_37, kd_38, kd_39, kd_40, kd_41, kd_42, kd_43, kd_44, kd_45, ln_2, ln_3, ln_4, ln_5, ln_6, ln_7, ln_11, ln_12, ln_13, ln_14, ln_15, ln_16, ln_29, ln_30, ln_32, ln_33, ln_34, ln_35, ln_36, ln_37, ln_38, ln_40, ln_41, ln_42, ln_43, ln_45, Option.toList_some, Option.toList_none, List.cons_append, List.nil_append, true_and, and_true, if_true, if_false, true_or, or_true, Nat.reduceAdd, Int.reduceAdd, Bool.false_eq_true, tn_0, tn_1, tn_2, tn_3, tn_4, tn_5, tn_6, tn_7]
    refine J_callSr (within_c _ _ _ _) k_X5_odds_13 o_X5_within rfl (by decide) rfl (Nat.le_of_ble_eq_true rfl) ?_
    refine J_blk a_X5_odds_16 ?_
    simp only [b_X5_odds_16, w_if_eq, w_nil, kd_0, kd_1, kd_2, kd_3, kd_4, kd_5, kd_6, kd_7, kd_10, kd_11, kd_12, kd_13, kd_14, kd_15, kd_16, kd_19, kd_28, kd_29, kd_30, kd_31, kd_32, kd_33, kd_34, kd_35, kd_36, kd_37, kd_38, kd_39, kd_40, kd_41, kd_42, kd_43, kd_44, kd_45, ln_2, ln_3, ln_4, ln_5, ln_6, ln_7, ln_11, ln_12, ln_13, ln_14, ln_15, ln_16, ln_29, ln_30, ln_32, ln_33, ln_34, ln_35, ln_36, ln_37, ln_38, ln_40, ln_41, ln_42, ln_43, ln_45, Option.toList_some, Option.toList_none, List.cons_append, List.nil_append, true_and, and_true, if_true, if_false, true_or, or_true, Nat.reduceAdd, Int.reduceAdd, Bool.false_eq_true, tn_0, tn_1, tn_2, tn_3, tn_4, tn_5, tn_6, tn_7]
    refine ⟨fun c10 => ?_, fun c10 => ?_⟩
    · refine J_blk a_X5_odds_28 ?_
      simp only [b_X5_odds_28, w_ldc2, cl_m1, w_lret, kd_0, kd_1, kd_2, kd_3, kd_4, kd_5, kd_6, kd_7, kd_10, kd_11, kd_12, kd_13, kd_14, kd_15, kd_16, kd_19, kd_28, kd_29, kd_30, kd_31, kd_32, kd_33, kd_34, kd_35, kd_36, kd_37, kd_38, kd_39, kd_40, kd_41, kd_42, kd_43, kd_44, kd_45, ln_2, ln_3, ln_4, ln_5, ln_6, ln_7, ln_11, ln_12, ln_13, ln_14, ln_15, ln_16, ln_29, ln_30, ln_32, ln_33, ln_34, ln_35, ln_36, ln_37, ln_38, ln_40, ln_41, ln_42, ln_43, ln_45, Option.toList_some, Option.toList_none, List.cons_append, List.nil_append, true_and, and_true, if_true, if_false, true_or, or_true, Nat.reduceAdd, Int.reduceAdd, Bool.false_eq_true, tn_0, tn_1, tn_2, tn_3, tn_4, tn_5, tn_6, tn_7]
      exact ⟨rfl, rfl⟩
    · refine J_blk a_X5_odds_19 ?_
      simp only [b_X5_odds_19, w_iload_n3, w_iconst_0, w_iconst_1, w_nil, kd_0, kd_1, kd_2, kd_3, kd_4, kd_5, kd_6, kd_7, kd_10, kd_11, kd_12, kd_13, kd_14, kd_15, kd_16, kd_19, kd_28, kd_29, kd_30, kd_31, kd_32, kd_33, kd_34, kd_35, kd_36, kd_37, kd_38, kd_39, kd_40, kd_41, kd_42, kd_43, kd_44, kd_45, ln_2, ln_3, ln_4, ln_5, ln_6, ln_7, ln_11, ln_12, ln_13, ln_14, ln_15, ln_16, ln_29, ln_30, ln_32, ln_33, ln_34, ln_35, ln_36, ln_37, ln_38, ln_40, ln_41, ln_42, ln_43, ln_45, Option.toList_some, Option.toList_none, List.cons_append, List.nil_append, true_and, and_true, if_true, if_false, true_or, or_true, Nat.reduceAdd, Int.reduceAdd, Bool.false_eq_true, tn_0, tn_1, tn_2, tn_3, tn_4, tn_5, tn_6, tn_7]
      refine J_callSr (within_c _ _ _ _) k_X5_odds_22 o_X5_within rfl (by decide) rfl (Nat.le_of_ble_eq_true rfl) ?_
      refine J_blk a_X5_odds_25 ?_
      simp only [b_X5_odds_25, w_if_ne, w_nil, kd_0, kd_1, kd_2, kd_3, kd_4, kd_5, kd_6, kd_7, kd_10, kd_11, kd_12, kd_13, kd_14, kd_15, kd_16, kd_19, kd_28, kd_29, kd_30, kd_31, kd_32, kd_33, kd_34, kd_35, kd_36, kd_37, kd_38, kd_39, kd_40, kd_41, kd_42, kd_43, kd_44, kd_45, ln_2, ln_3, ln_4, ln_5, ln_6, ln_7, ln_11, ln_12, ln_13, ln_14, ln_15, ln_16, ln_29, ln_30, ln_32, ln_33, ln_34, ln_35, ln_36, ln_37, ln_38, ln_40, ln_41, ln_42, ln_43, ln_45, Option.toList_some, Option.toList_none, List.cons_append, List.nil_append, true_and, and_true, if_true, if_false, true_or, or_true, Nat.reduceAdd, Int.reduceAdd, Bool.false_eq_true, tn_0, tn_1, tn_2, tn_3, tn_4, tn_5, tn_6, tn_7]
      refine ⟨fun c11 => ?_, fun c11 => ?_⟩
      · exact absurd (by grind) h
      · refine J_blk a_X5_odds_28 ?_
        simp only [b_X5_odds_28, w_ldc2, cl_m1, w_lret, kd_0, kd_1, kd_2, kd_3, kd_4, kd_5, kd_6, kd_7, kd_10, kd_11, kd_12, kd_13, kd_14, kd_15, kd_16, kd_19, kd_28, kd_29, kd_30, kd_31, kd_32, kd_33, kd_34, kd_35, kd_36, kd_37, kd_38, kd_39, kd_40, kd_41, kd_42, kd_43, kd_44, kd_45, ln_2, ln_3, ln_4, ln_5, ln_6, ln_7, ln_11, ln_12, ln_13, ln_14, ln_15, ln_16, ln_29, ln_30, ln_32, ln_33, ln_34, ln_35, ln_36, ln_37, ln_38, ln_40, ln_41, ln_42, ln_43, ln_45, Option.toList_some, Option.toList_none, List.cons_append, List.nil_append, true_and, and_true, if_true, if_false, true_or, or_true, Nat.reduceAdd, Int.reduceAdd, Bool.false_eq_true, tn_0, tn_1, tn_2, tn_3, tn_4, tn_5, tn_6, tn_7]
        exact ⟨rfl, rfl⟩
theorem codds_t {s : Nat → Int32} {m : Nat} (n k p f : Nat) (M : Mm) (hx : RX M 1 s m) (hn : n ≤ 8) (hk : k ≤ n) (hp : p ≤ 1) (hf : f ≤ 99) (ef : s 7 = nI f) : K 2 mX5_odds [.ref 0, .int (nI n), .int (nI k), .int (nI p)] M (Rt (some (.long (lN ((if p = 0 then odA (facN n / facN k / facN (n - k)) f k n else 100 ^ n) / Nat.gcd (odA (facN n / facN k / facN (n - k)) f k n) (100 ^ n))))) M) := by
  obtain ⟨c1, c2, c3, c4, c5, c6, c7, c8, c9⟩ := chN n hn k hk
  have h1 : 0 ≤ nI n ∧ nI n ≤ 8 := ok2 (m := 8) (by omega) (by decide)
  have h2 : 0 ≤ nI k ∧ nI k ≤ nI n := ok2 hk (by omega)
  have h3 : 0 ≤ nI p ∧ nI p ≤ 1 := ok2 (m := 1) (by omega) (by decide)
  have ep : (nI p = 0) = (p = 0) := propext (nI_eq (b := 0) (by omega) (by decide))
  have ew := (chW_all n hn k hk).2
  generalize hc : facN n / facN k / facN (n - k) = c at *
  have hA := odA_le c f k (by omega) n
  have hA2 : odA c f k n < 2 ^ 63 := by
    have : c * 100 ^ n ≤ 70 * 100 ^ 8 := Nat.mul_le_mul c1 c8
    omega
  have eA : c * f ^ k * (100 - f) ^ (n - k) = odA c f k n := by
    have := odA_eq c f k (n - k)
    rw [show k + (n - k) = n by omega] at this
    exact this.symm
  have l3 : M.1 2 3 = nI f := by have := hx.2.2.2.2.2.1 3 (by omega); rw [← ef]; exact this
  have e100 : (100 : Int32) - nI f = nI (100 - f) := pk_sub (a := 100) (by omega)
  have go : J 2 mX5_odds 32 [some (.ref 0), some (.int (nI n)), some (.int (nI k)), some (.int (nI p)), none, none, none] [] M (Rt (some (.long (lN ((if p = 0 then odA c f k n else 100 ^ n) / Nat.gcd (odA c f k n) (100 ^ n))))) M) := by
    refine J_blk a_X5_odds_32 ?_
    simp only [b_X5_odds_32, w_aload_n0, w_getf5, ne0_1, w_getf4, w_iconst_3, w_iald, w_istore4, nl_4n, nl_4i, nl_4a, w_iload_n1, w_iload_n2, w_nil, kd_0, kd_1, kd_2, kd_3, kd_4, kd_5, kd_6, kd_7, kd_10, kd_11, kd_12, kd_13, kd_14, kd_15, kd_16, kd_19, kd_28, kd_29, kd_30, kd_31, kd_32, kd_33, kd_34, kd_35, kd_36, kd_37, kd_38, kd_39, kd_40, kd_41, kd_42, kd_43, kd_44, kd_45, ln_2, ln_3, ln_4, ln_5, ln_6, ln_7, ln_11, ln_12, ln_13, ln_14, ln_15, ln_16, ln_29, ln_30, ln_32, ln_33, ln_34, ln_35, ln_36, ln_37, ln_38, ln_40, ln_41, ln_42, ln_43, ln_45, Option.toList_some, Option.toList_none, List.cons_append, List.nil_append, true_and, and_true, if_true, if_false, true_or, or_true, Nat.reduceAdd, Int.reduceAdd, Bool.false_eq_true, tn_0, tn_1, tn_2, tn_3, tn_4, tn_5, tn_6, tn_7, l3]
    refine ⟨vlit (by decide), ?_⟩
    refine J_callSr (ways_c n k M hn hk) k_X5_odds_45 o_X5_waysToChoose rfl (by decide) rfl (Nat.le_of_ble_eq_true rfl) ?_
    rw [ew]
    refine J_blk a_X5_odds_48 ?_
    simp only [b_X5_odds_48, w_iload4, w_iload_n2, w_nil, kd_0, kd_1, kd_2, kd_3, kd_4, kd_5, kd_6, kd_7, kd_10, kd_11, kd_12, kd_13, kd_14, kd_15, kd_16, kd_19, kd_28, kd_29, kd_30, kd_31, kd_32, kd_33, kd_34, kd_35, kd_36, kd_37, kd_38, kd_39, kd_40, kd_41, kd_42, kd_43, kd_44, kd_45, ln_2, ln_3, ln_4, ln_5, ln_6, ln_7, ln_11, ln_12, ln_13, ln_14, ln_15, ln_16, ln_29, ln_30, ln_32, ln_33, ln_34, ln_35, ln_36, ln_37, ln_38, ln_40, ln_41, ln_42, ln_43, ln_45, Option.toList_some, Option.toList_none, List.cons_append, List.nil_append, true_and, and_true, if_true, if_false, true_or, or_true, Nat.reduceAdd, Int.reduceAdd, Bool.false_eq_true, tn_0, tn_1, tn_2, tn_3, tn_4, tn_5, tn_6, tn_7]
    refine J_callSr (power_c f k M (by omega) (by omega)) k_X5_odds_51 o_X5_power rfl (by decide) rfl (Nat.le_of_ble_eq_true rfl) ?_
    refine J_blk a_X5_odds_54 ?_
    simp only [b_X5_odds_54, w_lmul, w_bipush, ci_100, w_iload4, w_isub, w_iload_n1, w_iload_n2, w_nil, kd_0, kd_1, kd_2, kd_3, kd_4, kd_5, kd_6, kd_7, kd_10, kd_11, kd_12, kd_13, kd_14, kd_15, kd_16, kd_19, kd_28, kd_29, kd_30, kd_31, kd_32, kd_33, kd_34, kd_35, kd_36, kd_37, kd_38, kd_39, kd_40, kd_41, kd_42, kd_43, kd_44, kd_45, ln_2, ln_3, ln_4, ln_5, ln_6, ln_7, ln_11, ln_12, ln_13, ln_14, ln_15, ln_16, ln_29, ln_30, ln_32, ln_33, ln_34, ln_35, ln_36, ln_37, ln_38, ln_40, ln_41, ln_42, ln_43, ln_45, Option.toList_some, Option.toList_none, List.cons_append, List.nil_append, true_and, and_true, if_true, if_false, true_or, or_true, Nat.reduceAdd, Int.reduceAdd, Bool.false_eq_true, tn_0, tn_1, tn_2, tn_3, tn_4, tn_5, tn_6, tn_7, lN_mul, e100, pk_sub hk]
    refine J_callSr (power_c (100 - f) (n - k) M (by omega) (by omega)) k_X5_odds_63 o_X5_power rfl (by decide) rfl (Nat.le_of_ble_eq_true rfl) ?_
    refine J_blk a_X5_odds_66 ?_
    simp only [b_X5_odds_66, w_lmul, w_lstore5, nl_5n, nl_5i, nl_5a, w_lload5, w_bipush, ci_100, w_iload_n1, w_nil, kd_0, kd_1, kd_2, kd_3, kd_4, kd_5, kd_6, kd_7, kd_10, kd_11, kd_12, kd_13, kd_14, kd_15, kd_16, kd_19, kd_28, kd_29, kd_30, kd_31, kd_32, kd_33, kd_34, kd_35, kd_36, kd_37, kd_38, kd_39, kd_40, kd_41, kd_42, kd_43, kd_44, kd_45, ln_2, ln_3, ln_4, ln_5, ln_6, ln_7, ln_11, ln_12, ln_13, ln_14, ln_15, ln_16, ln_29, ln_30, ln_32, ln_33, ln_34, ln_35, ln_36, ln_37, ln_38, ln_40, ln_41, ln_42, ln_43, ln_45, Option.toList_some, Option.toList_none, List.cons_append, List.nil_append, true_and, and_true, if_true, if_false, true_or, or_true, Nat.reduceAdd, Int.reduceAdd, Bool.false_eq_true, tn_0, tn_1, tn_2, tn_3, tn_4, tn_5, tn_6, tn_7, lN_mul, eA]
    refine J_callSr (power_c 100 n M (by omega) (by omega)) k_X5_odds_74 o_X5_power rfl (by decide) rfl (Nat.le_of_ble_eq_true rfl) ?_
    refine J_blk a_X5_odds_77 ?_
    simp only [b_X5_odds_77, w_iload_n3, w_nil, kd_0, kd_1, kd_2, kd_3, kd_4, kd_5, kd_6, kd_7, kd_10, kd_11, kd_12, kd_13, kd_14, kd_15, kd_16, kd_19, kd_28, kd_29, kd_30, kd_31, kd_32, kd_33, kd_34, kd_35, kd_36, kd_37, kd_38, kd_39, kd_40, kd_41, kd_42, kd_43, kd_44, kd_45, ln_2, ln_3, ln_4, ln_5, ln_6, ln_7, ln_11, ln_12, ln_13, ln_14, ln_15, ln_16, ln_29, ln_30, ln_32, ln_33, ln_34, ln_35, ln_36, ln_37, ln_38, ln_40, ln_41, ln_42, ln_43, ln_45, Option.toList_some, Option.toList_none, List.cons_append, List.nil_append, true_and, and_true, if_true, if_false, true_or, or_true, Nat.reduceAdd, Int.reduceAdd, Bool.false_eq_true, tn_0, tn_1, tn_2, tn_3, tn_4, tn_5, tn_6, tn_7]
    refine J_callSr (cpartOf_c _ _ _ _ c9 hA2 (by omega)) k_X5_odds_78 o_X5_partOf rfl (by decide) rfl (Nat.le_of_ble_eq_true rfl) ?_
    simp only [ep]
    refine J_blk a_X5_odds_81 ?_
    simp only [b_X5_odds_81, w_lret, kd_0, kd_1, kd_2, kd_3, kd_4, kd_5, kd_6, kd_7, kd_10, kd_11, kd_12, kd_13, kd_14, kd_15, kd_16, kd_19, kd_28, kd_29, kd_30, kd_31, kd_32, kd_33, kd_34, kd_35, kd_36, kd_37, kd_38, kd_39, kd_40, kd_41, kd_42, kd_43, kd_44, kd_45, ln_2, ln_3, ln_4, ln_5, ln_6, ln_7, ln_11, ln_12, ln_13, ln_14, ln_15, ln_16, ln_29, ln_30, ln_32, ln_33, ln_34, ln_35, ln_36, ln_37, ln_38, ln_40, ln_41, ln_42, ln_43, ln_45, Option.toList_some, Option.toList_none, List.cons_append, List.nil_append, true_and, and_true, if_true, if_false, true_or, or_true, Nat.reduceAdd, Int.reduceAdd, Bool.false_eq_true, tn_0, tn_1, tn_2, tn_3, tn_4, tn_5, tn_6, tn_7]
    first | exact ⟨rfl, rfl⟩ | (simp_all [Rt])
  refine K_go 3 o_X5_odds [none, none, none] rfl (Nat.le_of_ble_eq_true rfl) ?_
  simp only [lvA_i, lvA_a, lvA_l, lvA_nil, List.cons_append, List.nil_append]
  refine J_blk a_X5_odds_0 ?_
  simp only [b_X5_odds_0, w_iload_n1, w_iconst_0, w_bipush, ci_8, w_nil, kd_0, kd_1, kd_2, kd_3, kd_4, kd_5, kd_6, kd_7, kd_10, kd_11, kd_12, kd_13, kd_14, kd_15, kd_16, kd_19, kd_28, kd_29, kd_30, kd_31, kd_32, kd_33, kd_34, kd_35, kd_36, kd_37, kd_38, kd_39, kd_40, kd_41, kd_42, kd_43, kd_44, kd_45, ln_2, ln_3, ln_4, ln_5, ln_6, ln_7, ln_11, ln_12, ln_13, ln_14, ln_15, ln_16, ln_29, ln_30, ln_32, ln_33, ln_34, ln_35, ln_36, ln_37, ln_38, ln_40, ln_41, ln_42, ln_43, ln_45, Option.toList_some, Option.toList_none, List.cons_append, List.nil_append, true_and, and_true, if_true, if_false, true_or, or_true, Nat.reduceAdd, Int.reduceAdd, Bool.false_eq_true, tn_0, tn_1, tn_2, tn_3, tn_4, tn_5, tn_6, tn_7]
  refine J_callSr (within_c _ _ _ _) k_X5_odds_4 o_X5_within rfl (by decide) rfl (Nat.le_of_ble_eq_true rfl) ?_
  rw [if_pos (by first | exact h1 | exact h2 | exact h3 | exact h4)]
  refine J_blk a_X5_odds_7 ?_
  simp only [b_X5_odds_7, w_if_eq, w_nil, kd_0, kd_1, kd_2, kd_3, kd_4, kd_5, kd_6, kd_7, kd_10, kd_11, kd_12, kd_13, kd_14, kd_15, kd_16, kd_19, kd_28, kd_29, kd_30, kd_31, kd_32, kd_33, kd_34, kd_35, kd_36, kd_37, kd_38, kd_39, kd_40, kd_41, kd_42, kd_43, kd_44, kd_45, ln_2, ln_3, ln_4, ln_5, ln_6, ln_7, ln_11, ln_12, ln_13, ln_14, ln_15, ln_16, ln_29, ln_30, ln_32, ln_33, ln_34, ln_35, ln_36, ln_37, ln_38, ln_40, ln_41, ln_42, ln_43, ln_45, Option.toList_some, Option.toList_none, List.cons_append, List.nil_append, true_and, and_true, if_true, if_false, true_or, or_true, Nat.reduceAdd, Int.reduceAdd, Bool.false_eq_true, tn_0, tn_1, tn_2, tn_3, tn_4, tn_5, tn_6, tn_7]
  refine ⟨fun c12 => ?_, fun c12 => ?_⟩
  · first
      | exact absurd c12 (by decide)
      | (refine J_blk a_X5_odds_28 ?_
         simp only [b_X5_odds_28, w_ldc2, cl_m1, w_lret, kd_0, kd_1, kd_2, kd_3, kd_4, kd_5, kd_6, kd_7, kd_10, kd_11, kd_12, kd_13, kd_14, kd_15, kd_16, kd_19, kd_28, kd_29, kd_30, kd_31, kd_32, kd_33, kd_34, kd_35, kd_36, kd_37, kd_38, kd_39, kd_40, kd_41, kd_42, kd_43, kd_44, kd_45, ln_2, ln_3, ln_4, ln_5, ln_6, ln_7, ln_11, ln_12, ln_13, ln_14, ln_15, ln_16, ln_29, ln_30, ln_32, ln_33, ln_34, ln_35, ln_36, ln_37, ln_38, ln_40, ln_41, ln_42, ln_43, ln_45, Option.toList_some, Option.toList_none, List.cons_append, List.nil_append, true_and, and_true, if_true, if_false, true_or, or_true, Nat.reduceAdd, Int.reduceAdd, Bool.false_eq_true, tn_0, tn_1, tn_2, tn_3, tn_4, tn_5, tn_6, tn_7]
         first | exact ⟨rfl, rfl⟩ | (simp_all [Rt]))
  · first
      | exact absurd c12 (by decide)
      | (refine J_blk a_X5_odds_10 ?_
         simp only [b_X5_odds_10, w_iload_n2, w_iconst_0, w_iload_n1, w_nil, kd_0, kd_1, kd_2, kd_3, kd_4, kd_5, kd_6, kd_7, kd_10, kd_11, kd_12, kd_13, kd_14, kd_15, kd_16, kd_19, kd_28, kd_29, kd_30, kd_31, kd_32, kd_33, kd_34, kd_35, kd_36, kd_37, kd_38, kd_39, kd_40, kd_41, kd_42, kd_43, kd_44, kd_45, ln_2, ln_3, ln_4, ln_5, ln_6, ln_7, ln_11, ln_12, ln_13, ln_14, ln_15, ln_16, ln_29, ln_30, ln_32, ln_33, ln_34, ln_35, ln_36, ln_37, ln_38, ln_40, ln_41, ln_42, ln_43, ln_45, Option.toList_some, Option.toList_none, List.cons_append, List.nil_append, true_and, and_true, if_true, if_false, true_or, or_true, Nat.reduceAdd, Int.reduceAdd, Bool.false_eq_true, tn_0, tn_1, tn_2, tn_3, tn_4, tn_5, tn_6, tn_7]
         refine J_callSr (within_c _ _ _ _) k_X5_odds_13 o_X5_within rfl (by decide) rfl (Nat.le_of_ble_eq_true rfl) ?_
         rw [if_pos (by first | exact h1 | exact h2 | exact h3 | exact h4)]
         refine J_blk a_X5_odds_16 ?_
         simp only [b_X5_odds_16, w_if_eq, w_nil, kd_0, kd_1, kd_2, kd_3, kd_4, kd_5, kd_6, kd_7, kd_10, kd_11, kd_12, kd_13, kd_14, kd_15, kd_16, kd_19, kd_28, kd_29, kd_30, kd_31, kd_32, kd_33, kd_34, kd_35, kd_36, kd_37, kd_38, kd_39, kd_40, kd_41, kd_42, kd_43, kd_44, kd_45, ln_2, ln_3, ln_4, ln_5, ln_6, ln_7, ln_11, ln_12, ln_13, ln_14, ln_15, ln_16, ln_29, ln_30, ln_32, ln_33, ln_34, ln_35, ln_36, ln_37, ln_38, ln_40, ln_41, ln_42, ln_43, ln_45, Option.toList_some, Option.toList_none, List.cons_append, List.nil_append, true_and, and_true, if_true, if_false, true_or, or_true, Nat.reduceAdd, Int.reduceAdd, Bool.false_eq_true, tn_0, tn_1, tn_2, tn_3, tn_4, tn_5, tn_6, tn_7]
         refine ⟨fun c13 => ?_, fun c13 => ?_⟩
         · first
             | exact absurd c13 (by decide)
             | (refine J_blk a_X5_odds_28 ?_
                simp only [b_X5_odds_28, w_ldc2, cl_m1, w_lret, kd_0, kd_1, kd_2, kd_3, kd_4, kd_5, kd_6, kd_7, kd_10, kd_11, kd_12, kd_13, kd_14, kd_15, kd_16, kd_19, kd_28, kd_29, kd_30, kd_31, kd_32, kd_33, kd_34, kd_35, kd_36, kd_37, kd_38, kd_39, kd_40, kd_41, kd_42, kd_43, kd_44, kd_45, ln_2, ln_3, ln_4, ln_5, ln_6, ln_7, ln_11, ln_12, ln_13, ln_14, ln_15, ln_16, ln_29, ln_30, ln_32, ln_33, ln_34, ln_35, ln_36, ln_37, ln_38, ln_40, ln_41, ln_42, ln_43, ln_45, Option.toList_some, Option.toList_none, List.cons_append, List.nil_append, true_and, and_true, if_true, if_false, true_or, or_true, Nat.reduceAdd, Int.reduceAdd, Bool.false_eq_true, tn_0, tn_1, tn_2, tn_3, tn_4, tn_5, tn_6, tn_7]
                first | exact ⟨rfl, rfl⟩ | (simp_all [Rt]))
         · first
             | exact absurd c13 (by decide)
             | (refine J_blk a_X5_odds_19 ?_
                simp only [b_X5_odds_19, w_iload_n3, w_iconst_0, w_iconst_1, w_nil, kd_0, kd_1, kd_2, kd_3, kd_4, kd_5, kd_6, kd_7, kd_10, kd_11, kd_12, kd_13, kd_14, kd_15, kd_16, kd_19, kd_28, kd_29, kd_30, kd_31, kd_32, kd_33, kd_34, kd_35, kd_36, kd_37, kd_38, kd_39, kd_40, kd_41, kd_42, kd_43, kd_44, kd_45, ln_2, ln_3, ln_4, ln_5, ln_6, ln_7, ln_11, ln_12, ln_13, ln_14, ln_15, ln_16, ln_29, ln_30, ln_32, ln_33, ln_34, ln_35, ln_36, ln_37, ln_38, ln_40, ln_41, ln_42, ln_43, ln_45, Option.toList_some, Option.toList_none, List.cons_append, List.nil_append, true_and, and_true, if_true, if_false, true_or, or_true, Nat.reduceAdd, Int.reduceAdd, Bool.false_eq_true, tn_0, tn_1, tn_2, tn_3, tn_4, tn_5, tn_6, tn_7]
                refine J_callSr (within_c _ _ _ _) k_X5_odds_22 o_X5_within rfl (by decide) rfl (Nat.le_of_ble_eq_true rfl) ?_
                rw [if_pos (by first | exact h1 | exact h2 | exact h3 | exact h4)]
                refine J_blk a_X5_odds_25 ?_
                simp only [b_X5_odds_25, w_if_ne, w_nil, kd_0, kd_1, kd_2, kd_3, kd_4, kd_5, kd_6, kd_7, kd_10, kd_11, kd_12, kd_13, kd_14, kd_15, kd_16, kd_19, kd_28, kd_29, kd_30, kd_31, kd_32, kd_33, kd_34, kd_35, kd_36, kd_37, kd_38, kd_39, kd_40, kd_41, kd_42, kd_43, kd_44, kd_45, ln_2, ln_3, ln_4, ln_5, ln_6, ln_7, ln_11, ln_12, ln_13, ln_14, ln_15, ln_16, ln_29, ln_30, ln_32, ln_33, ln_34, ln_35, ln_36, ln_37, ln_38, ln_40, ln_41, ln_42, ln_43, ln_45, Option.toList_some, Option.toList_none, List.cons_append, List.nil_append, true_and, and_true, if_true, if_false, true_or, or_true, Nat.reduceAdd, Int.reduceAdd, Bool.false_eq_true, tn_0, tn_1, tn_2, tn_3, tn_4, tn_5, tn_6, tn_7]
                refine ⟨fun c14 => ?_, fun c14 => ?_⟩
                · first
                    | exact absurd c14 (by decide)
                    | (exact go)
                · first
                    | exact absurd c14 (by decide)
                    | (refine J_blk a_X5_odds_28 ?_
                       simp only [b_X5_odds_28, w_ldc2, cl_m1, w_lret, kd_0, kd_1, kd_2, kd_3, kd_4, kd_5, kd_6, kd_7, kd_10, kd_11, kd_12, kd_13, kd_14, kd_15, kd_16, kd_19, kd_28, kd_29, kd_30, kd_31, kd_32, kd_33, kd_34, kd_35, kd_36, kd_37, kd_38, kd_39, kd_40, kd_41, kd_42, kd_43, kd_44, kd_45, ln_2, ln_3, ln_4, ln_5, ln_6, ln_7, ln_11, ln_12, ln_13, ln_14, ln_15, ln_16, ln_29, ln_30, ln_32, ln_33, ln_34, ln_35, ln_36, ln_37, ln_38, ln_40, ln_41, ln_42, ln_43, ln_45, Option.toList_some, Option.toList_none, List.cons_append, List.nil_append, true_and, and_true, if_true, if_false, true_or, or_true, Nat.reduceAdd, Int.reduceAdd, Bool.false_eq_true, tn_0, tn_1, tn_2, tn_3, tn_4, tn_5, tn_6, tn_7]
                       first | exact ⟨rfl, rfl⟩ | (simp_all [Rt]))))
theorem chope_f (a p : Int32) (M : Mm) (h : ¬ ((0 ≤ a ∧ a ≤ 99) ∧ (0 ≤ p ∧ p ≤ 1))) : K 2 mX5_hope [.ref 0, .int a, .int p] M (Rt (some (.long (-1))) M) := by
  refine K_go 2 o_X5_hope [] rfl (Nat.le_of_ble_eq_true rfl) ?_
  simp only [lvA_i, lvA_a, lvA_l, lvA_nil, List.cons_append, List.nil_append]
  refine J_blk a_X5_hope_0 ?_
  simp only [b_X5_hope_0, w_iload_n1, w_iconst_0, w_bipush, ci_99, w_nil, kd_0, kd_1, kd_2, kd_3, kd_4, kd_5, kd_6, kd_7, kd_10, kd_11, kd_12, kd_13, kd_14, kd_15, kd_16, kd_19, kd_28, kd_29, kd_30, kd_31, kd_32, kd_33, kd_34, kd_35, kd_36, kd_37, kd_38, kd_39, kd_40, kd_41, kd_42, kd_43, kd_44, kd_45, ln_2, ln_3, ln_4, ln_5, ln_6, ln_7, ln_11, ln_12, ln_13, ln_14, ln_15, ln_16, ln_29, ln_30, ln_32, ln_33, ln_34, ln_35, ln_36, ln_37, ln_38, ln_40, ln_41, ln_42, ln_43, ln_45, Option.toList_some, Option.toList_none, List.cons_append, List.nil_append, true_and, and_true, if_true, if_false, true_or, or_true, Nat.reduceAdd, Int.reduceAdd, Bool.false_eq_true, tn_0, tn_1, tn_2, tn_3, tn_4, tn_5, tn_6, tn_7]
  refine J_callSr (within_c _ _ _ _) k_X5_hope_4 o_X5_within rfl (by decide) rfl (Nat.le_of_ble_eq_true rfl) ?_
  refine J_blk a_X5_hope_7 ?_
  simp only [b_X5_hope_7, w_if_eq, w_nil, kd_0, kd_1, kd_2, kd_3, kd_4, kd_5, kd_6, kd_7, kd_10, kd_11, kd_12, kd_13, kd_14, kd_15, kd_16, kd_19, kd_28, kd_29, kd_30, kd_31, kd_32, kd_33, kd_34, kd_35, kd_36, kd_37, kd_38, kd_39, kd_40, kd_41, kd_42, kd_43, kd_44, kd_45, ln_2, ln_3, ln_4, ln_5, ln_6, ln_7, ln_11, ln_12, ln_13, ln_14, ln_15, ln_16, ln_29, ln_30, ln_32, ln_33, ln_34, ln_35, ln_36, ln_37, ln_38, ln_40, ln_41, ln_42, ln_43, ln_45, Option.toList_some, Option.toList_none, List.cons_append, List.nil_append, true_and, and_true, if_true, if_false, true_or, or_true, Nat.reduceAdd, Int.reduceAdd, Bool.false_eq_true, tn_0, tn_1, tn_2, tn_3, tn_4, tn_5, tn_6, tn_7]
  refine ⟨fun c15 => ?_, fun c15 => ?_⟩
  · refine J_blk a_X5_hope_19 ?_
    simp only [b_X5_hope_19, w_ldc2, cl_m1, w_lret, kd_0, kd_1, kd_2, kd_3, kd_4, kd_5, kd_6, kd_7, kd_10, kd_11, kd_12, kd_13, kd_14, kd_15, kd_16, kd_19, kd_28, kd_29, kd_30, kd_31, kd_32, kd_33, kd_34, kd_35, kd_36, kd_37, kd_38, kd_39, kd_40, kd_41, kd_42, kd_43, kd_44, kd_45, ln_2, ln_3, ln_4, ln_5, ln_6, ln_7, ln_11, ln_12, ln_13, ln_14, ln_15, ln_16, ln_29, ln_30, ln_32, ln_33, ln_34, ln_35, ln_36, ln_37, ln_38, ln_40, ln_41, ln_42, ln_43, ln_45, Option.toList_some, Option.toList_none, List.cons_append, List.nil_append, true_and, and_true, if_true, if_false, true_or, or_true, Nat.reduceAdd, Int.reduceAdd, Bool.false_eq_true, tn_0, tn_1, tn_2, tn_3, tn_4, tn_5, tn_6, tn_7]
    exact ⟨rfl, rfl⟩
  · refine J_blk a_X5_hope_10 ?_
    simp only [b_X5_hope_10, w_iload_n2, w_iconst_0, w_iconst_1, w_nil, kd_0, kd_1, kd_2, kd_3, kd_4, kd_5, kd_6, kd_7, kd_10, kd_11, kd_12, kd_13, kd_14, kd_15, kd_16, kd_19, kd_28, kd_29, kd_30, kd_31, kd_32, kd_33, kd_34, kd_35, kd_36, kd_37, kd_38, kd_39, kd_40, kd_41, kd_42, kd_43, kd_44, kd_45, ln_2, ln_3, ln_4, ln_5, ln_6, ln_7, ln_11, ln_12, ln_13, ln_14, ln_15, ln_16, ln_29, ln_30, ln_32, ln_33, ln_34, ln_35, ln_36, ln_37, ln_38, ln_40, ln_41, ln_42, ln_43, ln_45, Option.toList_some, Option.toList_none, List.cons_append, List.nil_append, true_and, and_true, if_true, if_false, true_or, or_true, Nat.reduceAdd, Int.reduceAdd, Bool.false_eq_true, tn_0, tn_1, tn_2, tn_3, tn_4, tn_5, tn_6, tn_7]
    refine J_callSr (within_c _ _ _ _) k_X5_hope_13 o_X5_within rfl (by decide) rfl (Nat.le_of_ble_eq_true rfl) ?_
    refine J_blk a_X5_hope_16 ?_
    simp only [b_X5_hope_16, w_if_ne, w_nil, kd_0, kd_1, kd_2, kd_3, kd_4, kd_5, kd_6, kd_7, kd_10, kd_11, kd_12, kd_13, kd_14, kd_15, kd_16, kd_19, kd_28, kd_29, kd_30, kd_31, kd_32, kd_33, kd_34, kd_35, kd_36, kd_37, kd_38, kd_39, kd_40, kd_41, kd_42, kd_43, kd_44, kd_45, ln_2, ln_3, ln_4, ln_5, ln_6, ln_7, ln_11, ln_12, ln_13, ln_14, ln_15, ln_16, ln_29, ln_30, ln_32, ln_33, ln_34, ln_35, ln_36, ln_37, ln_38, ln_40, ln_41, ln_42, ln_43, ln_45, Option.toList_some, Option.toList_none, List.cons_append, List.nil_append, true_and, and_true, if_true, if_false, true_or, or_true, Nat.reduceAdd, Int.reduceAdd, Bool.false_eq_true, tn_0, tn_1, tn_2, tn_3, tn_4, tn_5, tn_6, tn_7]
    refine ⟨fun c16 => ?_, fun c16 => ?_⟩
    · exact absurd (by grind) h
    · refine J_blk a_X5_hope_19 ?_
      simp only [b_X5_hope_19, w_ldc2, cl_m1, w_lret, kd_0, kd_1, kd_2, kd_3, kd_4, kd_5, kd_6, kd_7, kd_10, kd_11, kd_12, kd_13, kd_14, kd_15, kd_16, kd_19, kd_28, kd_29, kd_30, kd_31, kd_32, kd_33, kd_34, kd_35, kd_36, kd_37, kd_38, kd_39, kd_40, kd_41, kd_42, kd_43, kd_44, kd_45, ln_2, ln_3, ln_4, ln_5, ln_6, ln_7, ln_11, ln_12, ln_13, ln_14, ln_15, ln_16, ln_29, ln_30, ln_32, ln_33, ln_34, ln_35, ln_36, ln_37, ln_38, ln_40, ln_41, ln_42, ln_43, ln_45, Option.toList_some, Option.toList_none, List.cons_append, List.nil_append, true_and, and_true, if_true, if_false, true_or, or_true, Nat.reduceAdd, Int.reduceAdd, Bool.false_eq_true, tn_0, tn_1, tn_2, tn_3, tn_4, tn_5, tn_6, tn_7]
      exact ⟨rfl, rfl⟩
theorem chope_t {s : Nat → Int32} {m : Nat} (a p f : Nat) (M : Mm) (hx : RX M 1 s m) (ha : a ≤ 99) (hp : p ≤ 1) (hf : f ≤ 99) (ef : s 7 = nI f) : K 2 mX5_hope [.ref 0, .int (nI a), .int (nI p)] M (Rt (some (.long (lN ((if p = 0 then a * f else 100) / Nat.gcd (a * f) 100)))) M) := by
  have h1 : 0 ≤ nI a ∧ nI a ≤ 99 := ok2 (m := 99) (by omega) (by decide)
  have h3 : 0 ≤ nI p ∧ nI p ≤ 1 := ok2 (m := 1) (by omega) (by decide)
  have ep : (nI p = 0) = (p = 0) := propext (nI_eq (b := 0) (by omega) (by decide))
  have haf : a * f ≤ 99 * 99 := Nat.mul_le_mul ha hf
  have l3 : M.1 2 3 = nI f := by have := hx.2.2.2.2.2.1 3 (by omega); rw [← ef]; exact this
  have go : J 2 mX5_hope 23 [some (.ref 0), some (.int (nI a)), some (.int (nI p))] [] M (Rt (some (.long (lN ((if p = 0 then a * f else 100) / Nat.gcd (a * f) 100)))) M) := by
    refine J_blk a_X5_hope_23 ?_
    simp only [b_X5_hope_23, w_iload_n1, w_i2l, w_aload_n0, w_getf5, ne0_1, w_getf4, w_iconst_3, w_iald, w_lmul, w_ldc2, cl_100, w_iload_n2, w_nil, kd_0, kd_1, kd_2, kd_3, kd_4, kd_5, kd_6, kd_7, kd_10, kd_11, kd_12, kd_13, kd_14, kd_15, kd_16, kd_19, kd_28, kd_29, kd_30, kd_31, kd_32, kd_33, kd_34, kd_35, kd_36, kd_37, kd_38, kd_39, kd_40, kd_41, kd_42, kd_43, kd_44, kd_45, ln_2, ln_3, ln_4, ln_5, ln_6, ln_7, ln_11, ln_12, ln_13, ln_14, ln_15, ln_16, ln_29, ln_30, ln_32, ln_33, ln_34, ln_35, ln_36, ln_37, ln_38, ln_40, ln_41, ln_42, ln_43, ln_45, Option.toList_some, Option.toList_none, List.cons_append, List.nil_append, true_and, and_true, if_true, if_false, true_or, or_true, Nat.reduceAdd, Int.reduceAdd, Bool.false_eq_true, tn_0, tn_1, tn_2, tn_3, tn_4, tn_5, tn_6, tn_7, l3, nI_l (show f < 2 ^ 31 by omega), nI_l (show a < 2 ^ 31 by omega), lN_mul]
    refine ⟨vlit (by decide), ?_⟩
    refine J_callSr (cpartOf_c (a * f) 100 _ _ (by omega) (by omega) (by omega)) k_X5_hope_40 o_X5_partOf rfl (by decide) rfl (Nat.le_of_ble_eq_true rfl) ?_
    simp only [ep]
    refine J_blk a_X5_hope_43 ?_
    simp only [b_X5_hope_43, w_lret, kd_0, kd_1, kd_2, kd_3, kd_4, kd_5, kd_6, kd_7, kd_10, kd_11, kd_12, kd_13, kd_14, kd_15, kd_16, kd_19, kd_28, kd_29, kd_30, kd_31, kd_32, kd_33, kd_34, kd_35, kd_36, kd_37, kd_38, kd_39, kd_40, kd_41, kd_42, kd_43, kd_44, kd_45, ln_2, ln_3, ln_4, ln_5, ln_6, ln_7, ln_11, ln_12, ln_13, ln_14, ln_15, ln_16, ln_29, ln_30, ln_32, ln_33, ln_34, ln_35, ln_36, ln_37, ln_38, ln_40, ln_41, ln_42, ln_43, ln_45, Option.toList_some, Option.toList_none, List.cons_append, List.nil_append, true_and, and_true, if_true, if_false, true_or, or_true, Nat.reduceAdd, Int.reduceAdd, Bool.false_eq_true, tn_0, tn_1, tn_2, tn_3, tn_4, tn_5, tn_6, tn_7]
    first | exact ⟨rfl, rfl⟩ | (simp_all [Rt])
  refine K_go 2 o_X5_hope [] rfl (Nat.le_of_ble_eq_true rfl) ?_
  simp only [lvA_i, lvA_a, lvA_l, lvA_nil, List.cons_append, List.nil_append]
  refine J_blk a_X5_hope_0 ?_
  simp only [b_X5_hope_0, w_iload_n1, w_iconst_0, w_bipush, ci_99, w_nil, kd_0, kd_1, kd_2, kd_3, kd_4, kd_5, kd_6, kd_7, kd_10, kd_11, kd_12, kd_13, kd_14, kd_15, kd_16, kd_19, kd_28, kd_29, kd_30, kd_31, kd_32, kd_33, kd_34, kd_35, kd_36, kd_37, kd_38, kd_39, kd_40, kd_41, kd_42, kd_43, kd_44, kd_45, ln_2, ln_3, ln_4, ln_5, ln_6, ln_7, ln_11, ln_12, ln_13, ln_14, ln_15, ln_16, ln_29, ln_30, ln_32, ln_33, ln_34, ln_35, ln_36, ln_37, ln_38, ln_40, ln_41, ln_42, ln_43, ln_45, Option.toList_some, Option.toList_none, List.cons_append, List.nil_append, true_and, and_true, if_true, if_false, true_or, or_true, Nat.reduceAdd, Int.reduceAdd, Bool.false_eq_true, tn_0, tn_1, tn_2, tn_3, tn_4, tn_5, tn_6, tn_7]
  refine J_callSr (within_c _ _ _ _) k_X5_hope_4 o_X5_within rfl (by decide) rfl (Nat.le_of_ble_eq_true rfl) ?_
  rw [if_pos (by first | exact h1 | exact h2 | exact h3 | exact h4)]
  refine J_blk a_X5_hope_7 ?_
  simp only [b_X5_hope_7, w_if_eq, w_nil, kd_0, kd_1, kd_2, kd_3, kd_4, kd_5, kd_6, kd_7, kd_10, kd_11, kd_12, kd_13, kd_14, kd_15, kd_16, kd_19, kd_28, kd_29, kd_30, kd_31, kd_32, kd_33, kd_34, kd_35, kd_36, kd_37, kd_38, kd_39, kd_40, kd_41, kd_42, kd_43, kd_44, kd_45, ln_2, ln_3, ln_4, ln_5, ln_6, ln_7, ln_11, ln_12, ln_13, ln_14, ln_15, ln_16, ln_29, ln_30, ln_32, ln_33, ln_34, ln_35, ln_36, ln_37, ln_38, ln_40, ln_41, ln_42, ln_43, ln_45, Option.toList_some, Option.toList_none, List.cons_append, List.nil_append, true_and, and_true, if_true, if_false, true_or, or_true, Nat.reduceAdd, Int.reduceAdd, Bool.false_eq_true, tn_0, tn_1, tn_2, tn_3, tn_4, tn_5, tn_6, tn_7]
  refine ⟨fun c17 => ?_, fun c17 => ?_⟩
  · first
      | exact absurd c17 (by decide)
      | (refine J_blk a_X5_hope_19 ?_
         simp only [b_X5_hope_19, w_ldc2, cl_m1, w_lret, kd_0, kd_1, kd_2, kd_3, kd_4, kd_5, kd_6, kd_7, kd_10, kd_11, kd_12, kd_13, kd_14, kd_15, kd_16, kd_19, kd_28, kd_29, kd_30, kd_31, kd_32, kd_33, kd_34, kd_35, kd_36, kd_37, kd_38, kd_39, kd_40, kd_41, kd_42, kd_43, kd_44, kd_45, ln_2, ln_3, ln_4, ln_5, ln_6, ln_7, ln_11, ln_12, ln_13, ln_14, ln_15, ln_16, ln_29, ln_30, ln_32, ln_33, ln_34, ln_35, ln_36, ln_37, ln_38, ln_40, ln_41, ln_42, ln_43, ln_45, Option.toList_some, Option.toList_none, List.cons_append, List.nil_append, true_and, and_true, if_true, if_false, true_or, or_true, Nat.reduceAdd, Int.reduceAdd, Bool.false_eq_true, tn_0, tn_1, tn_2, tn_3, tn_4, tn_5, tn_6, tn_7]
         first | exact ⟨rfl, rfl⟩ | (simp_all [Rt]))
  · first
      | exact absurd c17 (by decide)
      | (refine J_blk a_X5_hope_10 ?_
         simp only [b_X5_hope_10, w_iload_n2, w_iconst_0, w_iconst_1, w_nil, kd_0, kd_1, kd_2, kd_3, kd_4, kd_5, kd_6, kd_7, kd_10, kd_11, kd_12, kd_13, kd_14, kd_15, kd_16, kd_19, kd_28, kd_29, kd_30, kd_31, kd_32, kd_33, kd_34, kd_35, kd_36, kd_37, kd_38, kd_39, kd_40, kd_41, kd_42, kd_43, kd_44, kd_45, ln_2, ln_3, ln_4, ln_5, ln_6, ln_7, ln_11, ln_12, ln_13, ln_14, ln_15, ln_16, ln_29, ln_30, ln_32, ln_33, ln_34, ln_35, ln_36, ln_37, ln_38, ln_40, ln_41, ln_42, ln_43, ln_45, Option.toList_some, Option.toList_none, List.cons_append, List.nil_append, true_and, and_true, if_true, if_false, true_or, or_true, Nat.reduceAdd, Int.reduceAdd, Bool.false_eq_true, tn_0, tn_1, tn_2, tn_3, tn_4, tn_5, tn_6, tn_7]
         refine J_callSr (within_c _ _ _ _) k_X5_hope_13 o_X5_within rfl (by decide) rfl (Nat.le_of_ble_eq_true rfl) ?_
         rw [if_pos (by first | exact h1 | exact h2 | exact h3 | exact h4)]
         refine J_blk a_X5_hope_16 ?_
         simp only [b_X5_hope_16, w_if_ne, w_nil, kd_0, kd_1, kd_2, kd_3, kd_4, kd_5, kd_6, kd_7, kd_10, kd_11, kd_12, kd_13, kd_14, kd_15, kd_16, kd_19, kd_28, kd_29, kd_30, kd_31, kd_32, kd_33, kd_34, kd_35, kd_36, kd_37, kd_38, kd_39, kd_40, kd_41, kd_42, kd_43, kd_44, kd_45, ln_2, ln_3, ln_4, ln_5, ln_6, ln_7, ln_11, ln_12, ln_13, ln_14, ln_15, ln_16, ln_29, ln_30, ln_32, ln_33, ln_34, ln_35, ln_36, ln_37, ln_38, ln_40, ln_41, ln_42, ln_43, ln_45, Option.toList_some, Option.toList_none, List.cons_append, List.nil_append, true_and, and_true, if_true, if_false, true_or, or_true, Nat.reduceAdd, Int.reduceAdd, Bool.false_eq_true, tn_0, tn_1, tn_2, tn_3, tn_4, tn_5, tn_6, tn_7]
         refine ⟨fun c18 => ?_, fun c18 => ?_⟩
         · first
             | exact absurd c18 (by decide)
             | (exact go)
         · first
             | exact absurd c18 (by decide)
             | (refine J_blk a_X5_hope_19 ?_
                simp only [b_X5_hope_19, w_ldc2, cl_m1, w_lret, kd_0, kd_1, kd_2, kd_3, kd_4, kd_5, kd_6, kd_7, kd_10, kd_11, kd_12, kd_13, kd_14, kd_15, kd_16, kd_19, kd_28, kd_29, kd_30, kd_31, kd_32, kd_33, kd_34, kd_35, kd_36, kd_37, kd_38, kd_39, kd_40, kd_41, kd_42, kd_43, kd_44, kd_45, ln_2, ln_3, ln_4, ln_5, ln_6, ln_7, ln_11, ln_12, ln_13, ln_14, ln_15, ln_16, ln_29, ln_30, ln_32, ln_33, ln_34, ln_35, ln_36, ln_37, ln_38, ln_40, ln_41, ln_42, ln_43, ln_45, Option.toList_some, Option.toList_none, List.cons_append, List.nil_append, true_and, and_true, if_true, if_false, true_or, or_true, Nat.reduceAdd, Int.reduceAdd, Bool.false_eq_true, tn_0, tn_1, tn_2, tn_3, tn_4, tn_5, tn_6, tn_7]
                first | exact ⟨rfl, rfl⟩ | (simp_all [Rt])))

