/-! the class: copies of Trees, branches that come and go; what is refused -/
theorem has2 {b n : Nat} {s : Nat → Int32} {M : Mm} (hw : WF s n) (hx : RX M b s n) (hT : TB b) (o : Int32) : K 1 mX4_has [.ref b, .int o] M (Rt (some (.int (if 0 ≤ o ∧ o < nI n then 1 else 0))) M) := by
  have h8 := hw.2.1
  have e : (0 ≤ o ∧ o ≤ nI n - 1) = (0 ≤ o ∧ o < nI n) := by
    apply propext
    rcases Nat.eq_zero_or_pos n with h | h
    · subst h
      constructor
      · intro q; exact absurd (Int32.le_trans q.1 q.2) (by decide)
      · intro q; exact absurd (Int32.lt_of_le_of_lt q.1 q.2) (by decide)
    · rw [nI_sub1 (by omega)]
      constructor
      · intro q
        exact ⟨q.1, Int32.lt_of_le_of_lt q.2 (nI_lt (by omega) (by omega))⟩
      · intro q
        obtain ⟨j, hj, rfl⟩ := inN q (by omega)
        exact ⟨q.1, nI_le (by omega) (by omega)⟩
  have k := has_c hx hT o
  simp only [e] at k
  exact k
theorem isBare_c {M : Mm} {b n : Nat} {s : Nat → Int32} (hw : WF s n) (hx : RX M b s n) (hT : TB b) : K 3 mX4_isBare [.ref b] M (Rq (some (.int (bI (baB s n)))) (fun M' => RX M' b s n ∧ FB b M M')) := by
  have h8 := hw.2.1
  generalize hM1 : smN M b (hsR s (M.1 (b + 7)) n) (ldR s (M.1 (b + 8)) n) (bsF (sd s) n) = M1
  have hx1 : RX M1 b s n := by rw [← hM1]; exact sm_RX hx
  have hv1 : SV M1 b s n := by rw [← hM1]; exact sm_SV hw
  have hf1 : FB b M M1 := by rw [← hM1]; exact sm_FB
  have mono : ∀ k, k ≤ n → baF s (sd s) n k = false → baB s n = false := by
    intro k hk
    refine down (Q := fun k => baF s (sd s) n k = false → baB s n = false) n ?_ ?_ k hk
    · exact fun h => h
    · intro k _ ih h
      exact ih (by rw [baF, h]; rfl)
  have loop : ∀ k, k ≤ n → baF s (sd s) n k = true → J 3 mX4_isBare 7 [some (.ref b), some (.int (nI k))] [] M1 (Rq (some (.int (bI (baB s n)))) (fun M' => RX M' b s n ∧ FB b M M')) := by
    have x7 := hx1.1
    refine down n ?_ ?_
    · intro ht
      refine J_blk a_X4_isBare_7 ?_
      simp only [b_X4_isBare_7, w_iload_n1, w_aload_n0, w_getf4, w_icmp_ge, w_nil, kb0 hT, kb1 hT, kb2 hT, kb3 hT, kb4 hT, kb5 hT, kb6 hT, kb7 hT, kb8 hT, lb1 hT, lb2 hT, lb3 hT, lb4 hT, lb5 hT, lb6 hT, lb7 hT, lb8 hT, Option.toList_some, Option.toList_none, List.cons_append, List.nil_append, true_and, and_true, if_true, if_false, true_or, or_true, Nat.reduceAdd, Int.reduceAdd, Bool.false_eq_true, tn_0, tn_1, tn_2, tn_3, tn_4, tn_5, tn_6, tn_7, x7]
      refine ⟨fun _ => ?_, fun h => absurd (Int32.le_refl _) h⟩
      refine J_blk a_X4_isBare_43 ?_
      simp only [b_X4_isBare_43, w_iconst_1, w_iretz, kb0 hT, kb1 hT, kb2 hT, kb3 hT, kb4 hT, kb5 hT, kb6 hT, kb7 hT, kb8 hT, lb1 hT, lb2 hT, lb3 hT, lb4 hT, lb5 hT, lb6 hT, lb7 hT, lb8 hT, Option.toList_some, Option.toList_none, List.cons_append, List.nil_append, true_and, and_true, if_true, if_false, true_or, or_true, Nat.reduceAdd, Int.reduceAdd, Bool.false_eq_true, tn_0, tn_1, tn_2, tn_3, tn_4, tn_5, tn_6, tn_7]
      exact ⟨by rw [show baB s n = true from ht]; rfl, hx1, hf1⟩
    · intro k hk ih ht
      have v1 := hv1.1
      have hb : bt (bsF (sd s) n) k = sd s k := bt_sd h8 hk
      rw [baF, ht, Bool.true_and] at ih
      refine J_blk a_X4_isBare_7 ?_
      simp only [b_X4_isBare_7, w_iload_n1, w_aload_n0, w_getf4, w_icmp_ge, w_nil, kb0 hT, kb1 hT, kb2 hT, kb3 hT, kb4 hT, kb5 hT, kb6 hT, kb7 hT, kb8 hT, lb1 hT, lb2 hT, lb3 hT, lb4 hT, lb5 hT, lb6 hT, lb7 hT, lb8 hT, Option.toList_some, Option.toList_none, List.cons_append, List.nil_append, true_and, and_true, if_true, if_false, true_or, or_true, Nat.reduceAdd, Int.reduceAdd, Bool.false_eq_true, tn_0, tn_1, tn_2, tn_3, tn_4, tn_5, tn_6, tn_7, x7]
      refine ⟨fun h => absurd h (nI_ge hk (by omega)), fun _ => ?_⟩
      refine J_blk a_X4_isBare_15 ?_
      simp only [b_X4_isBare_15, w_aload_n0, w_getf4, w_iload_n1, w_nil, kb0 hT, kb1 hT, kb2 hT, kb3 hT, kb4 hT, kb5 hT, kb6 hT, kb7 hT, kb8 hT, lb1 hT, lb2 hT, lb3 hT, lb4 hT, lb5 hT, lb6 hT, lb7 hT, lb8 hT, Option.toList_some, Option.toList_none, List.cons_append, List.nil_append, true_and, and_true, if_true, if_false, true_or, or_true, Nat.reduceAdd, Int.reduceAdd, Bool.false_eq_true, tn_0, tn_1, tn_2, tn_3, tn_4, tn_5, tn_6, tn_7, v1]
      refine J_callSr (bit_c _ (by omega) _) k_X4_isBare_20 o_X5_bit rfl (by decide) rfl (Nat.le_of_ble_eq_true rfl) ?_
      rw [hb]
      cases hs : sd s k
      · rw [hs] at ih
        refine J_blk a_X4_isBare_23 ?_
        simp only [b_X4_isBare_23, w_iconst_1, w_icmp_ne, w_nil, kb0 hT, kb1 hT, kb2 hT, kb3 hT, kb4 hT, kb5 hT, kb6 hT, kb7 hT, kb8 hT, lb1 hT, lb2 hT, lb3 hT, lb4 hT, lb5 hT, lb6 hT, lb7 hT, lb8 hT, Option.toList_some, Option.toList_none, List.cons_append, List.nil_append, true_and, and_true, if_true, if_false, true_or, or_true, Nat.reduceAdd, Int.reduceAdd, Bool.false_eq_true, tn_0, tn_1, tn_2, tn_3, tn_4, tn_5, tn_6, tn_7]
        refine ⟨fun _ => ?_, fun h => absurd h (by decide)⟩
        refine J_blk a_X4_isBare_37 ?_
        simp only [b_X4_isBare_37, w_iinc1, nl_1n, nl_1i, nl_1a, ci_1, w_goto, kb0 hT, kb1 hT, kb2 hT, kb3 hT, kb4 hT, kb5 hT, kb6 hT, kb7 hT, kb8 hT, lb1 hT, lb2 hT, lb3 hT, lb4 hT, lb5 hT, lb6 hT, lb7 hT, lb8 hT, Option.toList_some, Option.toList_none, List.cons_append, List.nil_append, true_and, and_true, if_true, if_false, true_or, or_true, Nat.reduceAdd, Int.reduceAdd, Bool.false_eq_true, tn_0, tn_1, tn_2, tn_3, tn_4, tn_5, tn_6, tn_7, nI_1]
        exact ih rfl
      · rw [hs, Bool.true_and] at ih
        refine J_blk a_X4_isBare_23 ?_
        simp only [b_X4_isBare_23, w_iconst_1, w_icmp_ne, w_nil, kb0 hT, kb1 hT, kb2 hT, kb3 hT, kb4 hT, kb5 hT, kb6 hT, kb7 hT, kb8 hT, lb1 hT, lb2 hT, lb3 hT, lb4 hT, lb5 hT, lb6 hT, lb7 hT, lb8 hT, Option.toList_some, Option.toList_none, List.cons_append, List.nil_append, true_and, and_true, if_true, if_false, true_or, or_true, Nat.reduceAdd, Int.reduceAdd, Bool.false_eq_true, tn_0, tn_1, tn_2, tn_3, tn_4, tn_5, tn_6, tn_7]
        refine ⟨fun h => absurd rfl h, fun _ => ?_⟩
        refine J_blk a_X4_isBare_27 ?_
        simp only [b_X4_isBare_27, w_aload_n0, w_iload_n1, w_nil, kb0 hT, kb1 hT, kb2 hT, kb3 hT, kb4 hT, kb5 hT, kb6 hT, kb7 hT, kb8 hT, lb1 hT, lb2 hT, lb3 hT, lb4 hT, lb5 hT, lb6 hT, lb7 hT, lb8 hT, Option.toList_some, Option.toList_none, List.cons_append, List.nil_append, true_and, and_true, if_true, if_false, true_or, or_true, Nat.reduceAdd, Int.reduceAdd, Bool.false_eq_true, tn_0, tn_1, tn_2, tn_3, tn_4, tn_5, tn_6, tn_7]
        refine J_callVr (ci := 4) (bears_c hw hx1 hv1 hT hk) k_X4_isBare_29 o_X4_bears (kb0 hT) rfl rfl rfl (by decide) rfl (Nat.le_of_ble_eq_true rfl) ?_
        refine J_blk a_X4_isBare_32 ?_
        simp only [b_X4_isBare_32, w_if_le, w_nil, kb0 hT, kb1 hT, kb2 hT, kb3 hT, kb4 hT, kb5 hT, kb6 hT, kb7 hT, kb8 hT, lb1 hT, lb2 hT, lb3 hT, lb4 hT, lb5 hT, lb6 hT, lb7 hT, lb8 hT, Option.toList_some, Option.toList_none, List.cons_append, List.nil_append, true_and, and_true, if_true, if_false, true_or, or_true, Nat.reduceAdd, Int.reduceAdd, Bool.false_eq_true, tn_0, tn_1, tn_2, tn_3, tn_4, tn_5, tn_6, tn_7]
        refine ⟨fun c => ?_, fun c => ?_⟩
        · rw [decide_eq_false (Int32.not_lt.mpr c)] at ih
          refine J_blk a_X4_isBare_37 ?_
          simp only [b_X4_isBare_37, w_iinc1, nl_1n, nl_1i, nl_1a, ci_1, w_goto, kb0 hT, kb1 hT, kb2 hT, kb3 hT, kb4 hT, kb5 hT, kb6 hT, kb7 hT, kb8 hT, lb1 hT, lb2 hT, lb3 hT, lb4 hT, lb5 hT, lb6 hT, lb7 hT, lb8 hT, Option.toList_some, Option.toList_none, List.cons_append, List.nil_append, true_and, and_true, if_true, if_false, true_or, or_true, Nat.reduceAdd, Int.reduceAdd, Bool.false_eq_true, tn_0, tn_1, tn_2, tn_3, tn_4, tn_5, tn_6, tn_7, nI_1]
          exact ih rfl
        · have hf : baB s n = false := mono (k + 1) (by omega) (by rw [baF, ht, hs, decide_eq_true (Int32.not_le.mp c)]; rfl)
          refine J_blk a_X4_isBare_35 ?_
          simp only [b_X4_isBare_35, w_iconst_0, w_iretz, kb0 hT, kb1 hT, kb2 hT, kb3 hT, kb4 hT, kb5 hT, kb6 hT, kb7 hT, kb8 hT, lb1 hT, lb2 hT, lb3 hT, lb4 hT, lb5 hT, lb6 hT, lb7 hT, lb8 hT, Option.toList_some, Option.toList_none, List.cons_append, List.nil_append, true_and, and_true, if_true, if_false, true_or, or_true, Nat.reduceAdd, Int.reduceAdd, Bool.false_eq_true, tn_0, tn_1, tn_2, tn_3, tn_4, tn_5, tn_6, tn_7]
          exact ⟨by rw [hf]; rfl, hx1, hf1⟩
  refine K_go 0 o_X4_isBare [none] rfl (Nat.le_of_ble_eq_true rfl) ?_
  simp only [lvA_i, lvA_a, lvA_l, lvA_nil, List.cons_append, List.nil_append]
  refine J_blk a_X4_isBare_0 ?_
  simp only [b_X4_isBare_0, w_aload_n0, w_nil, kb0 hT, kb1 hT, kb2 hT, kb3 hT, kb4 hT, kb5 hT, kb6 hT, kb7 hT, kb8 hT, lb1 hT, lb2 hT, lb3 hT, lb4 hT, lb5 hT, lb6 hT, lb7 hT, lb8 hT, Option.toList_some, Option.toList_none, List.cons_append, List.nil_append, true_and, and_true, if_true, if_false, true_or, or_true, Nat.reduceAdd, Int.reduceAdd, Bool.false_eq_true, tn_0, tn_1, tn_2, tn_3, tn_4, tn_5, tn_6, tn_7]
  refine J_callVr (ci := 4) (survey_c hw hx hT) k_X4_isBare_1 o_X4_survey (kb0 hT) rfl rfl rfl (by decide) rfl (Nat.le_of_ble_eq_true rfl) ?_
  rw [hM1]
  refine J_blk a_X4_isBare_4 ?_
  simp only [b_X4_isBare_4, w_pop_i, w_pop_a, w_iconst_0, w_istore1, nl_1n, nl_1i, nl_1a, w_nil, kb0 hT, kb1 hT, kb2 hT, kb3 hT, kb4 hT, kb5 hT, kb6 hT, kb7 hT, kb8 hT, lb1 hT, lb2 hT, lb3 hT, lb4 hT, lb5 hT, lb6 hT, lb7 hT, lb8 hT, Option.toList_some, Option.toList_none, List.cons_append, List.nil_append, true_and, and_true, if_true, if_false, true_or, or_true, Nat.reduceAdd, Int.reduceAdd, Bool.false_eq_true, tn_0, tn_1, tn_2, tn_3, tn_4, tn_5, tn_6, tn_7]
  exact loop 0 (by omega) rfl
theorem copyFrom_c {M : Mm} {b b0 n : Nat} {s : Nat → Int32} (h8 : n ≤ 8) (hx : RX M b0 s n) (hT : TB b) (hT0 : TB b0) (hne : b ≠ b0) : K 1 mX4_copyFrom [.ref b, .ref b0] M (Rq none (fun M' => RX M' b s n ∧ FB b M M')) := by
  refine K_go 1 o_X4_copyFrom [] rfl (Nat.le_of_ble_eq_true rfl) ?_
  simp only [lvA_i, lvA_a, lvA_l, lvA_nil, List.cons_append, List.nil_append]
  refine J_blk a_X4_copyFrom_0 ?_
  simp only [b_X4_copyFrom_0, w_aload_n1, w_getf4, ne0_1, w_iconst_0, w_aload_n0, w_alen, w_nil, kb0 hT, kb1 hT, kb2 hT, kb3 hT, kb4 hT, kb5 hT, kb6 hT, kb7 hT, kb8 hT, lb1 hT, lb2 hT, lb3 hT, lb4 hT, lb5 hT, lb6 hT, lb7 hT, lb8 hT, Option.toList_some, Option.toList_none, List.cons_append, List.nil_append, true_and, and_true, if_true, if_false, true_or, or_true, Nat.reduceAdd, Int.reduceAdd, Bool.false_eq_true, tn_0, tn_1, tn_2, tn_3, tn_4, tn_5, tn_6, tn_7, kb0 hT0]
  refine J_cpy z_X4_copyFrom_15 (by decide) (Nat.le_of_ble_eq_true rfl) (k := 4) rfl (by decide) (kb1 hT0) (kb1 hT) (by rw [lb1 hT0]; decide) (by rw [lb1 hT]; decide) ?_
  refine J_blk a_X4_copyFrom_18 ?_
  simp only [b_X4_copyFrom_18, w_aload_n1, w_getf4, ne0_2, w_iconst_0, w_aload_n0, w_bipush, ci_8, w_nil, kb0 hT, kb1 hT, kb2 hT, kb3 hT, kb4 hT, kb5 hT, kb6 hT, kb7 hT, kb8 hT, lb1 hT, lb2 hT, lb3 hT, lb4 hT, lb5 hT, lb6 hT, lb7 hT, lb8 hT, Option.toList_some, Option.toList_none, List.cons_append, List.nil_append, true_and, and_true, if_true, if_false, true_or, or_true, Nat.reduceAdd, Int.reduceAdd, Bool.false_eq_true, tn_0, tn_1, tn_2, tn_3, tn_4, tn_5, tn_6, tn_7, kb0 hT0]
  refine J_cpy z_X4_copyFrom_30 (by decide) (Nat.le_of_ble_eq_true rfl) (k := 8) rfl (by decide) (kb2 hT0) (kb2 hT) (by rw [lb2 hT0]; decide) (by rw [lb2 hT]; decide) ?_
  refine J_blk a_X4_copyFrom_33 ?_
  simp only [b_X4_copyFrom_33, w_aload_n1, w_getf4, ne0_3, w_iconst_0, w_aload_n0, w_bipush, ci_8, w_nil, kb0 hT, kb1 hT, kb2 hT, kb3 hT, kb4 hT, kb5 hT, kb6 hT, kb7 hT, kb8 hT, lb1 hT, lb2 hT, lb3 hT, lb4 hT, lb5 hT, lb6 hT, lb7 hT, lb8 hT, Option.toList_some, Option.toList_none, List.cons_append, List.nil_append, true_and, and_true, if_true, if_false, true_or, or_true, Nat.reduceAdd, Int.reduceAdd, Bool.false_eq_true, tn_0, tn_1, tn_2, tn_3, tn_4, tn_5, tn_6, tn_7, kb0 hT0]
  refine J_cpy z_X4_copyFrom_45 (by decide) (Nat.le_of_ble_eq_true rfl) (k := 8) rfl (by decide) (kb3 hT0) (kb3 hT) (by rw [lb3 hT0]; decide) (by rw [lb3 hT]; decide) ?_
  refine J_blk a_X4_copyFrom_48 ?_
  simp only [b_X4_copyFrom_48, w_aload_n1, w_getf4, ne0_4, w_iconst_0, w_aload_n0, w_bipush, ci_8, w_nil, kb0 hT, kb1 hT, kb2 hT, kb3 hT, kb4 hT, kb5 hT, kb6 hT, kb7 hT, kb8 hT, lb1 hT, lb2 hT, lb3 hT, lb4 hT, lb5 hT, lb6 hT, lb7 hT, lb8 hT, Option.toList_some, Option.toList_none, List.cons_append, List.nil_append, true_and, and_true, if_true, if_false, true_or, or_true, Nat.reduceAdd, Int.reduceAdd, Bool.false_eq_true, tn_0, tn_1, tn_2, tn_3, tn_4, tn_5, tn_6, tn_7, kb0 hT0]
  refine J_cpy z_X4_copyFrom_60 (by decide) (Nat.le_of_ble_eq_true rfl) (k := 8) rfl (by decide) (kb4 hT0) (kb4 hT) (by rw [lb4 hT0]; decide) (by rw [lb4 hT]; decide) ?_
  refine J_blk a_X4_copyFrom_63 ?_
  simp only [b_X4_copyFrom_63, w_aload_n1, w_getf4, ne0_5, w_iconst_0, w_aload_n0, w_bipush, ci_8, w_nil, kb0 hT, kb1 hT, kb2 hT, kb3 hT, kb4 hT, kb5 hT, kb6 hT, kb7 hT, kb8 hT, lb1 hT, lb2 hT, lb3 hT, lb4 hT, lb5 hT, lb6 hT, lb7 hT, lb8 hT, Option.toList_some, Option.toList_none, List.cons_append, List.nil_append, true_and, and_true, if_true, if_false, true_or, or_true, Nat.reduceAdd, Int.reduceAdd, Bool.false_eq_true, tn_0, tn_1, tn_2, tn_3, tn_4, tn_5, tn_6, tn_7, kb0 hT0]
  refine J_cpy z_X4_copyFrom_75 (by decide) (Nat.le_of_ble_eq_true rfl) (k := 8) rfl (by decide) (kb5 hT0) (kb5 hT) (by rw [lb5 hT0]; decide) (by rw [lb5 hT]; decide) ?_
  refine J_blk a_X4_copyFrom_78 ?_
  simp only [b_X4_copyFrom_78, w_aload_n1, w_getf4, ne0_6, w_iconst_0, w_aload_n0, w_bipush, ci_8, w_nil, kb0 hT, kb1 hT, kb2 hT, kb3 hT, kb4 hT, kb5 hT, kb6 hT, kb7 hT, kb8 hT, lb1 hT, lb2 hT, lb3 hT, lb4 hT, lb5 hT, lb6 hT, lb7 hT, lb8 hT, Option.toList_some, Option.toList_none, List.cons_append, List.nil_append, true_and, and_true, if_true, if_false, true_or, or_true, Nat.reduceAdd, Int.reduceAdd, Bool.false_eq_true, tn_0, tn_1, tn_2, tn_3, tn_4, tn_5, tn_6, tn_7, kb0 hT0]
  refine J_cpy z_X4_copyFrom_90 (by decide) (Nat.le_of_ble_eq_true rfl) (k := 8) rfl (by decide) (kb6 hT0) (kb6 hT) (by rw [lb6 hT0]; decide) (by rw [lb6 hT]; decide) ?_
  refine J_blk a_X4_copyFrom_93 ?_
  simp only [b_X4_copyFrom_93, w_aload_n0, w_aload_n1, w_getf4, w_putf4, w_vret, kb0 hT, kb1 hT, kb2 hT, kb3 hT, kb4 hT, kb5 hT, kb6 hT, kb7 hT, kb8 hT, lb1 hT, lb2 hT, lb3 hT, lb4 hT, lb5 hT, lb6 hT, lb7 hT, lb8 hT, Option.toList_some, Option.toList_none, List.cons_append, List.nil_append, true_and, and_true, if_true, if_false, true_or, or_true, Nat.reduceAdd, Int.reduceAdd, Bool.false_eq_true, tn_0, tn_1, tn_2, tn_3, tn_4, tn_5, tn_6, tn_7, kb0 hT0]
  obtain ⟨x7, xy, xc, xz, x6, xl, xo⟩ := hx
  refine ⟨rfl, ?_, ?_⟩
  · rcases hT with rfl | rfl | rfl <;> rcases hT0 with rfl | rfl | rfl <;> first | exact absurd rfl hne | (
      refine ⟨by simp [u1, su, x7], by simp [u1, su, xy], by simp [u1, su, xc], by simp [u1, su, xz], by simp [u1, su, x6], fun j hj => ?_, fun o ho => ?_⟩
      · have := xl j hj
        simp [u1, su, cpN, hj] at this ⊢
        exact this
      · have := xo o ho
        simp [u1, su, cpN, show o < 8 by omega] at this ⊢
        exact this)
  · exact (((((((((((FB_su _ _ (by omega)).trans (FB_su _ _ (by omega))).trans (FB_su _ _ (by omega))).trans (FB_su _ _ (by omega))).trans (FB_su _ _ (by omega))).trans (FB_su _ _ (by omega))).trans (FB_u1 _ _ _ (by omega))).trans (FB_u1 _ _ _ (by omega))).trans (FB_u1 _ _ _ (by omega))).trans (FB_u1 _ _ _ (by omega))).trans (FB_u1 _ _ _ (by omega)))
theorem tryNow_c {M : Mm} {n : Nat} {s : Nat → Int32} (h8 : n ≤ 8) (hx : RX M 1 s n) : K 2 mX5_tryNow [.ref 0] M (Rq (some (.ref 10)) (fun M' => RX M' 10 s n ∧ FB 10 M M')) := by
  refine K_go 0 o_X5_tryNow [] rfl (Nat.le_of_ble_eq_true rfl) ?_
  simp only [lvA_i, lvA_a, lvA_l, lvA_nil, List.cons_append, List.nil_append]
  refine J_blk a_X5_tryNow_0 ?_
  simp only [b_X5_tryNow_0, w_aload_n0, w_getf5, ne0_10, ne0_1, w_nil, kd_0, kd_1, kd_2, kd_3, kd_4, kd_5, kd_6, kd_7, kd_10, kd_11, kd_12, kd_13, kd_14, kd_15, kd_16, kd_19, kd_28, kd_29, kd_30, kd_31, kd_32, kd_33, kd_34, kd_35, kd_36, kd_37, kd_38, kd_39, kd_40, kd_41, kd_42, kd_43, kd_44, kd_45, ln_2, ln_3, ln_4, ln_5, ln_6, ln_7, ln_11, ln_12, ln_13, ln_14, ln_15, ln_16, ln_29, ln_30, ln_32, ln_33, ln_34, ln_35, ln_36, ln_37, ln_38, ln_40, ln_41, ln_42, ln_43, ln_45, Option.toList_some, Option.toList_none, List.cons_append, List.nil_append, true_and, and_true, if_true, if_false, true_or, or_true, Nat.reduceAdd, Int.reduceAdd, Bool.false_eq_true, tn_0, tn_1, tn_2, tn_3, tn_4, tn_5, tn_6, tn_7]
  refine J_callV (ci := 4) (copyFrom_c h8 hx (Or.inr (Or.inl rfl)) (Or.inl rfl) (by decide)) k_X5_tryNow_8 o_X4_copyFrom (rfl) rfl rfl rfl (by decide) rfl (Nat.le_of_ble_eq_true rfl) ?_
  rintro r M' ⟨rfl, g1, g2⟩
  refine J_blk a_X5_tryNow_11 ?_
  simp only [b_X5_tryNow_11, w_aload_n0, w_getf5, ne0_10, w_aret, kd_0, kd_1, kd_2, kd_3, kd_4, kd_5, kd_6, kd_7, kd_10, kd_11, kd_12, kd_13, kd_14, kd_15, kd_16, kd_19, kd_28, kd_29, kd_30, kd_31, kd_32, kd_33, kd_34, kd_35, kd_36, kd_37, kd_38, kd_39, kd_40, kd_41, kd_42, kd_43, kd_44, kd_45, ln_2, ln_3, ln_4, ln_5, ln_6, ln_7, ln_11, ln_12, ln_13, ln_14, ln_15, ln_16, ln_29, ln_30, ln_32, ln_33, ln_34, ln_35, ln_36, ln_37, ln_38, ln_40, ln_41, ln_42, ln_43, ln_45, Option.toList_some, Option.toList_none, List.cons_append, List.nil_append, true_and, and_true, if_true, if_false, true_or, or_true, Nat.reduceAdd, Int.reduceAdd, Bool.false_eq_true, tn_0, tn_1, tn_2, tn_3, tn_4, tn_5, tn_6, tn_7]
  exact ⟨rfl, g1, g2⟩
theorem RX_cut {M : Mm} {b n o : Nat} {s : Nat → Int32} (hx : RX M b s n) (h8 : n ≤ 8) (ho : o < n) : RX (u1 M b 6 (bsF (cuF s) n ||| (1 : Int32) <<< (nI o &&& 31))) b (upd s (8 + 6 * o + 4) 1) n := by
  obtain ⟨x7, xy, xc, xz, x6, xl, xo⟩ := hx
  refine ⟨by simp [u1]; exact x7, by simp [u1, upd]; exact xy, by simp [u1, upd]; exact xc, by simp [u1, upd]; exact xz, ?_, fun j hj => by rw [u1_o _ _ _ _ (by omega), pk_un (by omega)]; exact xl j hj, fun q hq => ?_⟩
  · rw [show ∀ v, (u1 M b 6 v).1 b 6 = v from fun v => by simp [u1]]
    apply b_ext
    intro i hi
    rw [b_or, bt_bsF _ n (by omega) i hi, bt_bsF _ n (by omega) i hi, bt_shl1 (by omega) hi]
    unfold cuF
    by_cases e : i = o
    · subst e; simp [ho, upd]
    · rw [pk_un (by omega)]; simp [e]
  · rw [u1_o _ _ _ _ (by omega), u1_o _ _ _ _ (by omega), u1_o _ _ _ _ (by omega), u1_o _ _ _ _ (by omega), u1_o _ _ _ _ (by omega), pk_un (by omega), pk_un (by omega), pk_un (by omega), pk_un (by omega), pk_un (by omega)]
    exact xo q hq
theorem RX_ct {M : Mm} {b n : Nat} {s : Nat → Int32} {set : Int32} (hw : WF s n) (hx : RX M b s n) (hset : ∀ i, i < 32 → n ≤ i → bt set i = false) : RX (u1 M b 6 (bsF (cuF s) n ||| set)) b (ctR s set n) n := by
  have h8 := hw.2.1
  obtain ⟨x7, xy, xc, xz, x6, xl, xo⟩ := hx
  refine ⟨by simp [u1]; exact x7, by rw [ctR_low _ _ _ (by omega)]; simp [u1]; exact xy, by rw [ctR_low _ _ _ (by omega)]; simp [u1]; exact xc, by rw [ctR_low _ _ _ (by omega)]; simp [u1]; exact xz, ?_, fun j hj => by rw [u1_o _ _ _ _ (by omega), ctR_low _ _ _ (by omega)]; exact xl j hj, fun q hq => ?_⟩
  · rw [show ∀ v, (u1 M b 6 v).1 b 6 = v from fun v => by simp [u1]]
    apply b_ext
    intro i hi
    rw [b_or, bt_bsF _ n (by omega) i hi, bt_bsF _ n (by omega) i hi]
    by_cases hin : i < n
    · unfold cuF
      rw [ctR_at s set hin (show 4 < 6 by omega), if_pos rfl]
      rcases (hw.2.2 i hin).2.2.2.2.1 with e | e <;> rw [e] <;> cases hb : bt set i <;> simp [hin] <;> decide
    · simp [hin, hset i hi (by omega)]
  · rw [u1_o _ _ _ _ (by omega), u1_o _ _ _ _ (by omega), u1_o _ _ _ _ (by omega), u1_o _ _ _ _ (by omega), u1_o _ _ _ _ (by omega)]
    have e0 : ctR s set n (8 + 6 * q) = s (8 + 6 * q) := by
      have := ctR_at s set hq (show 0 < 6 by omega)
      simpa using this
    rw [e0, ctR_at s set hq (show 1 < 6 by omega), ctR_at s set hq (show 2 < 6 by omega), ctR_at s set hq (show 3 < 6 by omega), ctR_at s set hq (show 5 < 6 by omega)]
    simpa using xo q hq
theorem WL_ct {s : Nat → Int32} {n : Nat} {set : Int32} (hw : WF s n) (hl : WL s n) : WL (ctR s set n) n := by
  intro o ho h
  rw [ctR_at s set ho (show 4 < 6 by omega), if_pos rfl] at h
  rw [ctR_at s set ho (show 5 < 6 by omega), if_neg (by omega)]
  refine hl o ho (fun e => h ?_)
  rw [e]
  split <;> decide
theorem haveBack_c {M : Mm} {b n o : Nat} {s : Nat → Int32} (h8 : n ≤ 8) (hx : RX M b s n) (hT : TB b) (ho : o < n) : K 0 mX4_haveBack [.ref b, .int (nI o)] M (Rq none (fun M' => RX M' b (cbR s o) n ∧ FB b M M')) := by
  have to : (nI o).toNatClampNeg = o := nI_clamp (by omega)
  have x6 := hx.2.2.2.2.1
  have key : RX (u1 M b 6 (bsF (cuF s) n &&& ((1 : Int32) <<< (nI o &&& 31) ^^^ -1))) b (upd s (8 + 6 * o + 4) 0) n := by
    obtain ⟨x7, xy, xc, xz, x6, xl, xo⟩ := hx
    refine ⟨by simp [u1]; exact x7, by simp [u1, upd]; exact xy, by simp [u1, upd]; exact xc, by simp [u1, upd]; exact xz, ?_, fun j hj => by rw [u1_o _ _ _ _ (by omega), pk_un (by omega)]; exact xl j hj, fun q hq => ?_⟩
    · rw [show ∀ v, (u1 M b 6 v).1 b 6 = v from fun v => by simp [u1]]
      apply b_ext
      intro i hi
      rw [b_and, b_xor, bt_bsF _ n (by omega) i hi, bt_bsF _ n (by omega) i hi, bt_shl1 (by omega) hi, b_m1 i hi]
      unfold cuF
      by_cases e : i = o
      · subst e; simp [upd]
      · rw [pk_un (by omega)]; simp [e]
    · rw [u1_o _ _ _ _ (by omega), u1_o _ _ _ _ (by omega), u1_o _ _ _ _ (by omega), u1_o _ _ _ _ (by omega), u1_o _ _ _ _ (by omega), pk_un (by omega), pk_un (by omega), pk_un (by omega), pk_un (by omega), pk_un (by omega)]
      exact xo q hq
  refine K_go 1 o_X4_haveBack [] rfl (Nat.le_of_ble_eq_true rfl) ?_
  simp only [lvA_i, lvA_a, lvA_l, lvA_nil, List.cons_append, List.nil_append]
  refine J_blk a_X4_haveBack_0 ?_
  simp only [b_X4_haveBack_0, w_aload_n0, w_dup_i, w_dup_a, w_getf4, w_iconst_1, w_iload_n1, w_ishl, w_iconst_m1, w_ixor, w_iand, w_putf4, ne0_6, w_iconst_0, w_iast, w_vret, kb0 hT, kb1 hT, kb2 hT, kb3 hT, kb4 hT, kb5 hT, kb6 hT, kb7 hT, kb8 hT, lb1 hT, lb2 hT, lb3 hT, lb4 hT, lb5 hT, lb6 hT, lb7 hT, lb8 hT, Option.toList_some, Option.toList_none, List.cons_append, List.nil_append, true_and, and_true, if_true, if_false, true_or, or_true, Nat.reduceAdd, Int.reduceAdd, Bool.false_eq_true, tn_0, tn_1, tn_2, tn_3, tn_4, tn_5, tn_6, tn_7, to, x6]
  refine ⟨vinN (by omega) (by decide), rfl, RX_6 key _, (FB_u1 M _ _ (by omega)).trans (FB_u1 _ _ _ (by omega))⟩
theorem add_c {M : Mm} {b n : Nat} {s : Nat → Int32} {k q f a : Int32} (h8 : n < 8) (hx : RX M b s n) (hT : TB b) : K 0 mX4_add [.ref b, .int k, .int q, .int f, .int a] M (Rq (some (.int (nI n))) (fun M' => RX M' b (brR s n k q f a) (n + 1) ∧ FB b M M')) := by
  have tn : (nI n).toNatClampNeg = n := nI_clamp (by omega)
  have x7 := hx.1
  have e7 : ∀ c1 c2 c3 c4 c5 : Int32, (u1 (u1 (u1 (u1 (u1 M (b + 2) n c1) (b + 3) n c2) (b + 4) n c3) (b + 5) n c4) (b + 6) n c5).1 b 7 = nI n := by
    intro c1 c2 c3 c4 c5
    rw [u1_o _ _ _ _ (by omega), u1_o _ _ _ _ (by omega), u1_o _ _ _ _ (by omega), u1_o _ _ _ _ (by omega), u1_o _ _ _ _ (by omega)]
    exact x7
  refine K_go 4 o_X4_add [none] rfl (Nat.le_of_ble_eq_true rfl) ?_
  simp only [lvA_i, lvA_a, lvA_l, lvA_nil, List.cons_append, List.nil_append]
  refine J_blk a_X4_add_0 ?_
  simp only [b_X4_add_0, w_aload_n0, w_getf4, w_istore5, nl_5n, nl_5i, nl_5a, ne0_2, w_iload5, w_iload_n1, w_iast, ne0_3, w_iload_n2, ne0_4, w_iload_n3, ne0_5, w_iload4, ne0_6, w_iconst_0, w_dup_i, w_dup_a, w_iconst_1, w_iadd, w_putf4, w_ireti, kb0 hT, kb1 hT, kb2 hT, kb3 hT, kb4 hT, kb5 hT, kb6 hT, kb7 hT, kb8 hT, lb1 hT, lb2 hT, lb3 hT, lb4 hT, lb5 hT, lb6 hT, lb7 hT, lb8 hT, Option.toList_some, Option.toList_none, List.cons_append, List.nil_append, true_and, and_true, if_true, if_false, true_or, or_true, Nat.reduceAdd, Int.reduceAdd, Bool.false_eq_true, tn_0, tn_1, tn_2, tn_3, tn_4, tn_5, tn_6, tn_7, x7, tn, e7, nI_1]
  refine ⟨vinN (by omega) (by decide), vinN (by omega) (by decide), vinN (by omega) (by decide), vinN (by omega) (by decide), vinN (by omega) (by decide), rfl, ?_, ?_⟩
  · obtain ⟨x7, xy, xc, xz, x6, xl, xo⟩ := hx
    have br : ∀ j, j < 8 + 6 * n → j ≠ 0 → brR s n k q f a j = s j := fun j hj h0 => by
      unfold brR
      rw [pk_un h0, pk_un (by omega), pk_un (by omega), pk_un (by omega), pk_un (by omega), pk_un (by omega), pk_un (by omega)]
    refine ⟨by simp [u1], by rw [br 1 (by omega) (by omega)]; simp [u1]; exact xy, by rw [br 3 (by omega) (by omega)]; simp [u1]; exact xc, by rw [br 2 (by omega) (by omega)]; simp [u1]; exact xz, ?_, fun j hj => ?_, fun o ho => ?_⟩
    · rw [bsF]
      have ec : cuF (brR s n k q f a) n = false := by unfold cuF brR; simp [upd]
      rw [ec]
      simp [u1]
      rw [x6]
      exact bsF_congr n (fun i hi => by unfold cuF; rw [br _ (by omega) (by omega)])
    · rw [br _ (by omega) (by omega)]
      simp [u1]
      exact xl j hj
    · by_cases e : o = n
      · subst e
        unfold brR
        simp [u1, upd]
      · have hlt : o < n := by omega
        rw [br _ (by omega) (by omega), br _ (by omega) (by omega), br _ (by omega) (by omega), br _ (by omega) (by omega), br _ (by omega) (by omega)]
        simp [u1, e]
        exact xo o hlt
  · exact (((((FB_u1 M _ _ (by omega)).trans (FB_u1 _ _ _ (by omega))).trans (FB_u1 _ _ _ (by omega))).trans (FB_u1 _ _ _ (by omega))).trans (FB_u1 _ _ _ (by omega))).trans (FB_u1 _ _ _ (by omega))
theorem clawOf_f (law : Int32) (M : Mm) (n : Nat) (s : Nat → Int32) (hw : WF s n) (hx : RX M 1 s n) (h : ¬ (0 ≤ law ∧ law ≤ 3)) : K 2 mX5_lawOf [.ref 0, .int law] M (Rt (some (.int (-1))) M) := by
  have x7 : M.1 1 7 = nI n := hx.1
  refine K_go 1 o_X5_lawOf [] rfl (Nat.le_of_ble_eq_true rfl) ?_
  simp only [lvA_i, lvA_a, lvA_l, lvA_nil, List.cons_append, List.nil_append]
  refine J_blk a_X5_lawOf_0 ?_
  simp only [b_X5_lawOf_0, w_iload_n1, w_nil, kd_0, kd_1, kd_2, kd_3, kd_4, kd_5, kd_6, kd_7, kd_10, kd_11, kd_12, kd_13, kd_14, kd_15, kd_16, kd_19, kd_28, kd_29, kd_30, kd_31, kd_32, kd_33, kd_34, kd_35, kd_36, kd_37, kd_38, kd_39, kd_40, kd_41, kd_42, kd_43, kd_44, kd_45, ln_2, ln_3, ln_4, ln_5, ln_6, ln_7, ln_11, ln_12, ln_13, ln_14, ln_15, ln_16, ln_29, ln_30, ln_32, ln_33, ln_34, ln_35, ln_36, ln_37, ln_38, ln_40, ln_41, ln_42, ln_43, ln_45, Option.toList_some, Option.toList_none, List.cons_append, List.nil_append, true_and, and_true, if_true, if_false, true_or, or_true, Nat.reduceAdd, Int.reduceAdd, Bool.false_eq_true, tn_0, tn_1, tn_2, tn_3, tn_4, tn_5, tn_6, tn_7, x7]
  refine J_callSr (isLaw_c _ _) k_X5_lawOf_1 o_X5_isLaw rfl (by decide) rfl (Nat.le_of_ble_eq_true rfl) ?_
  refine J_blk a_X5_lawOf_4 ?_
  simp only [b_X5_lawOf_4, w_if_eq, w_nil, kd_0, kd_1, kd_2, kd_3, kd_4, kd_5, kd_6, kd_7, kd_10, kd_11, kd_12, kd_13, kd_14, kd_15, kd_16, kd_19, kd_28, kd_29, kd_30, kd_31, kd_32, kd_33, kd_34, kd_35, kd_36, kd_37, kd_38, kd_39, kd_40, kd_41, kd_42, kd_43, kd_44, kd_45, ln_2, ln_3, ln_4, ln_5, ln_6, ln_7, ln_11, ln_12, ln_13, ln_14, ln_15, ln_16, ln_29, ln_30, ln_32, ln_33, ln_34, ln_35, ln_36, ln_37, ln_38, ln_40, ln_41, ln_42, ln_43, ln_45, Option.toList_some, Option.toList_none, List.cons_append, List.nil_append, true_and, and_true, if_true, if_false, true_or, or_true, Nat.reduceAdd, Int.reduceAdd, Bool.false_eq_true, tn_0, tn_1, tn_2, tn_3, tn_4, tn_5, tn_6, tn_7, x7]
  refine ⟨fun c1 => ?_, fun c1 => ?_⟩
  · refine J_blk a_X5_lawOf_19 ?_
    simp only [b_X5_lawOf_19, w_iconst_m1, w_nil, kd_0, kd_1, kd_2, kd_3, kd_4, kd_5, kd_6, kd_7, kd_10, kd_11, kd_12, kd_13, kd_14, kd_15, kd_16, kd_19, kd_28, kd_29, kd_30, kd_31, kd_32, kd_33, kd_34, kd_35, kd_36, kd_37, kd_38, kd_39, kd_40, kd_41, kd_42, kd_43, kd_44, kd_45, ln_2, ln_3, ln_4, ln_5, ln_6, ln_7, ln_11, ln_12, ln_13, ln_14, ln_15, ln_16, ln_29, ln_30, ln_32, ln_33, ln_34, ln_35, ln_36, ln_37, ln_38, ln_40, ln_41, ln_42, ln_43, ln_45, Option.toList_some, Option.toList_none, List.cons_append, List.nil_append, true_and, and_true, if_true, if_false, true_or, or_true, Nat.reduceAdd, Int.reduceAdd, Bool.false_eq_true, tn_0, tn_1, tn_2, tn_3, tn_4, tn_5, tn_6, tn_7, x7]
    refine J_blk a_X5_lawOf_20 ?_
    simp only [b_X5_lawOf_20, w_ireti, kd_0, kd_1, kd_2, kd_3, kd_4, kd_5, kd_6, kd_7, kd_10, kd_11, kd_12, kd_13, kd_14, kd_15, kd_16, kd_19, kd_28, kd_29, kd_30, kd_31, kd_32, kd_33, kd_34, kd_35, kd_36, kd_37, kd_38, kd_39, kd_40, kd_41, kd_42, kd_43, kd_44, kd_45, ln_2, ln_3, ln_4, ln_5, ln_6, ln_7, ln_11, ln_12, ln_13, ln_14, ln_15, ln_16, ln_29, ln_30, ln_32, ln_33, ln_34, ln_35, ln_36, ln_37, ln_38, ln_40, ln_41, ln_42, ln_43, ln_45, Option.toList_some, Option.toList_none, List.cons_append, List.nil_append, true_and, and_true, if_true, if_false, true_or, or_true, Nat.reduceAdd, Int.reduceAdd, Bool.false_eq_true, tn_0, tn_1, tn_2, tn_3, tn_4, tn_5, tn_6, tn_7, x7]
    exact ⟨rfl, rfl⟩
  · exact absurd (by grind) h
theorem cbranch_f (k on f a : Int32) (M : Mm) (n : Nat) (s : Nat → Int32) (hw : WF s n) (hx : RX M 1 s n) (h : ¬ ((0 ≤ k ∧ k ≤ 5) ∧ (0 ≤ on ∧ on ≤ nI n) ∧ (0 ≤ f ∧ f ≤ 9) ∧ (0 ≤ a ∧ a ≤ 99))) : K 2 mX5_branch [.ref 0, .int k, .int on, .int f, .int a] M (Rt (some (.int (-1))) M) := by
  have x7 : M.1 1 7 = nI n := hx.1
  refine K_go 4 o_X5_branch [] rfl (Nat.le_of_ble_eq_true rfl) ?_
  simp only [lvA_i, lvA_a, lvA_l, lvA_nil, List.cons_append, List.nil_append]
  refine J_blk a_X5_branch_0 ?_
  simp only [b_X5_branch_0, w_iload_n1, w_nil, kd_0, kd_1, kd_2, kd_3, kd_4, kd_5, kd_6, kd_7, kd_10, kd_11, kd_12, kd_13, kd_14, kd_15, kd_16, kd_19, kd_28, kd_29, kd_30, kd_31, kd_32, kd_33, kd_34, kd_35, kd_36, kd_37, kd_38, kd_39, kd_40, kd_41, kd_42, kd_43, kd_44, kd_45, ln_2, ln_3, ln_4, ln_5, ln_6, ln_7, ln_11, ln_12, ln_13, ln_14, ln_15, ln_16, ln_29, ln_30, ln_32, ln_33, ln_34, ln_35, ln_36, ln_37, ln_38, ln_40, ln_41, ln_42, ln_43, ln_45, Option.toList_some, Option.toList_none, List.cons_append, List.nil_append, true_and, and_true, if_true, if_false, true_or, or_true, Nat.reduceAdd, Int.reduceAdd, Bool.false_eq_true, tn_0, tn_1, tn_2, tn_3, tn_4, tn_5, tn_6, tn_7, x7]
  refine J_callSr (isKind_c _ _) k_X5_branch_1 o_X5_isKind rfl (by decide) rfl (Nat.le_of_ble_eq_true rfl) ?_
  refine J_blk a_X5_branch_4 ?_
  simp only [b_X5_branch_4, w_if_eq, w_nil, kd_0, kd_1, kd_2, kd_3, kd_4, kd_5, kd_6, kd_7, kd_10, kd_11, kd_12, kd_13, kd_14, kd_15, kd_16, kd_19, kd_28, kd_29, kd_30, kd_31, kd_32, kd_33, kd_34, kd_35, kd_36, kd_37, kd_38, kd_39, kd_40, kd_41, kd_42, kd_43, kd_44, kd_45, ln_2, ln_3, ln_4, ln_5, ln_6, ln_7, ln_11, ln_12, ln_13, ln_14, ln_15, ln_16, ln_29, ln_30, ln_32, ln_33, ln_34, ln_35, ln_36, ln_37, ln_38, ln_40, ln_41, ln_42, ln_43, ln_45, Option.toList_some, Option.toList_none, List.cons_append, List.nil_append, true_and, and_true, if_true, if_false, true_or, or_true, Nat.reduceAdd, Int.reduceAdd, Bool.false_eq_true, tn_0, tn_1, tn_2, tn_3, tn_4, tn_5, tn_6, tn_7, x7]
  refine ⟨fun c2 => ?_, fun c2 => ?_⟩
  · refine J_blk a_X5_branch_37 ?_
    simp only [b_X5_branch_37, w_iconst_m1, w_ireti, kd_0, kd_1, kd_2, kd_3, kd_4, kd_5, kd_6, kd_7, kd_10, kd_11, kd_12, kd_13, kd_14, kd_15, kd_16, kd_19, kd_28, kd_29, kd_30, kd_31, kd_32, kd_33, kd_34, kd_35, kd_36, kd_37, kd_38, kd_39, kd_40, kd_41, kd_42, kd_43, kd_44, kd_45, ln_2, ln_3, ln_4, ln_5, ln_6, ln_7, ln_11, ln_12, ln_13, ln_14, ln_15, ln_16, ln_29, ln_30, ln_32, ln_33, ln_34, ln_35, ln_36, ln_37, ln_38, ln_40, ln_41, ln_42, ln_43, ln_45, Option.toList_some, Option.toList_none, List.cons_append, List.nil_append, true_and, and_true, if_true, if_false, true_or, or_true, Nat.reduceAdd, Int.reduceAdd, Bool.false_eq_true, tn_0, tn_1, tn_2, tn_3, tn_4, tn_5, tn_6, tn_7, x7]
    exact ⟨rfl, rfl⟩
  · refine J_blk a_X5_branch_7 ?_
    simp only [b_X5_branch_7, w_iload_n2, w_iconst_0, w_aload_n0, w_getf5, ne0_1, w_getf4, w_nil, kd_0, kd_1, kd_2, kd_3, kd_4, kd_5, kd_6, kd_7, kd_10, kd_11, kd_12, kd_13, kd_14, kd_15, kd_16, kd_19, kd_28, kd_29, kd_30, kd_31, kd_32, kd_33, kd_34, kd_35, kd_36, kd_37, kd_38, kd_39, kd_40, kd_41, kd_42, kd_43, kd_44, kd_45, ln_2, ln_3, ln_4, ln_5, ln_6, ln_7, ln_11, ln_12, ln_13, ln_14, ln_15, ln_16, ln_29, ln_30, ln_32, ln_33, ln_34, ln_35, ln_36, ln_37, ln_38, ln_40, ln_41, ln_42, ln_43, ln_45, Option.toList_some, Option.toList_none, List.cons_append, List.nil_append, true_and, and_true, if_true, if_false, true_or, or_true, Nat.reduceAdd, Int.reduceAdd, Bool.false_eq_true, tn_0, tn_1, tn_2, tn_3, tn_4, tn_5, tn_6, tn_7, x7]
    refine J_callSr (within_c _ _ _ _) k_X5_branch_16 o_X5_within rfl (by decide) rfl (Nat.le_of_ble_eq_true rfl) ?_
    refine J_blk a_X5_branch_19 ?_
    simp only [b_X5_branch_19, w_if_eq, w_nil, kd_0, kd_1, kd_2, kd_3, kd_4, kd_5, kd_6, kd_7, kd_10, kd_11, kd_12, kd_13, kd_14, kd_15, kd_16, kd_19, kd_28, kd_29, kd_30, kd_31, kd_32, kd_33, kd_34, kd_35, kd_36, kd_37, kd_38, kd_39, kd_40, kd_41, kd_42, kd_43, kd_44, kd_45, ln_2, ln_3, ln_4, ln_5, ln_6, ln_7, ln_11, ln_12, ln_13, ln_14, ln_15, ln_16, ln_29, ln_30, ln_32, ln_33, ln_34, ln_35, ln_36, ln_37, ln_38, ln_40, ln_41, ln_42, ln_43, ln_45, Option.toList_some, Option.toList_none, List.cons_append, List.nil_append, true_and, and_true, if_true, if_false, true_or, or_true, Nat.reduceAdd, Int.reduceAdd, Bool.false_eq_true, tn_0, tn_1, tn_2, tn_3, tn_4, tn_5, tn_6, tn_7, x7]
    refine ⟨fun c3 => ?_, fun c3 => ?_⟩
    · refine J_blk a_X5_branch_37 ?_
      simp only [b_X5_branch_37, w_iconst_m1, w_ireti, kd_0, kd_1, kd_2, kd_3, kd_4, kd_5, kd_6, kd_7, kd_10, kd_11, kd_12, kd_13, kd_14, kd_15, kd_16, kd_19, kd_28, kd_29, kd_30, kd_31, kd_32, kd_33, kd_34, kd_35, kd_36, kd_37, kd_38, kd_39, kd_40, kd_41, kd_42, kd_43, kd_44, kd_45, ln_2, ln_3, ln_4, ln_5, ln_6, ln_7, ln_11, ln_12, ln_13, ln_14, ln_15, ln_16, ln_29, ln_30, ln_32, ln_33, ln_34, ln_35, ln_36, ln_37, ln_38, ln_40, ln_41, ln_42, ln_43, ln_45, Option.toList_some, Option.toList_none, List.cons_append, List.nil_append, true_and, and_true, if_true, if_false, true_or, or_true, Nat.reduceAdd, Int.reduceAdd, Bool.false_eq_true, tn_0, tn_1, tn_2, tn_3, tn_4, tn_5, tn_6, tn_7, x7]
      exact ⟨rfl, rfl⟩
    · refine J_blk a_X5_branch_22 ?_
      simp only [b_X5_branch_22, w_iload_n3, w_nil, kd_0, kd_1, kd_2, kd_3, kd_4, kd_5, kd_6, kd_7, kd_10, kd_11, kd_12, kd_13, kd_14, kd_15, kd_16, kd_19, kd_28, kd_29, kd_30, kd_31, kd_32, kd_33, kd_34, kd_35, kd_36, kd_37, kd_38, kd_39, kd_40, kd_41, kd_42, kd_43, kd_44, kd_45, ln_2, ln_3, ln_4, ln_5, ln_6, ln_7, ln_11, ln_12, ln_13, ln_14, ln_15, ln_16, ln_29, ln_30, ln_32, ln_33, ln_34, ln_35, ln_36, ln_37, ln_38, ln_40, ln_41, ln_42, ln_43, ln_45, Option.toList_some, Option.toList_none, List.cons_append, List.nil_append, true_and, and_true, if_true, if_false, true_or, or_true, Nat.reduceAdd, Int.reduceAdd, Bool.false_eq_true, tn_0, tn_1, tn_2, tn_3, tn_4, tn_5, tn_6, tn_7, x7]
      refine J_callSr (isForce_c _ _) k_X5_branch_23 o_X5_isForce rfl (by decide) rfl (Nat.le_of_ble_eq_true rfl) ?_
      refine J_blk a_X5_branch_26 ?_
      simp only [b_X5_branch_26, w_if_eq, w_nil, kd_0, kd_1, kd_2, kd_3, kd_4, kd_5, kd_6, kd_7, kd_10, kd_11, kd_12, kd_13, kd_14, kd_15, kd_16, kd_19, kd_28, kd_29, kd_30, kd_31, kd_32, kd_33, kd_34, kd_35, kd_36, kd_37, kd_38, kd_39, kd_40, kd_41, kd_42, kd_43, kd_44, kd_45, ln_2, ln_3, ln_4, ln_5, ln_6, ln_7, ln_11, ln_12, ln_13, ln_14, ln_15, ln_16, ln_29, ln_30, ln_32, ln_33, ln_34, ln_35, ln_36, ln_37, ln_38, ln_40, ln_41, ln_42, ln_43, ln_45, Option.toList_some, Option.toList_none, List.cons_append, List.nil_append, true_and, and_true, if_true, if_false, true_or, or_true, Nat.reduceAdd, Int.reduceAdd, Bool.false_eq_true, tn_0, tn_1, tn_2, tn_3, tn_4, tn_5, tn_6, tn_7, x7]
      refine ⟨fun c4 => ?_, fun c4 => ?_⟩
      · refine J_blk a_X5_branch_37 ?_
        simp only [b_X5_branch_37, w_iconst_m1, w_ireti, kd_0, kd_1, kd_2, kd_3, kd_4, kd_5, kd_6, kd_7, kd_10, kd_11, kd_12, kd_13, kd_14, kd_15, kd_16, kd_19, kd_28, kd_29, kd_30, kd_31, kd_32, kd_33, kd_34, kd_35, kd_36, kd_37, kd_38, kd_39, kd_40, kd_41, kd_42, kd_43, kd_44, kd_45, ln_2, ln_3, ln_4, ln_5, ln_6, ln_7, ln_11, ln_12, ln_13, ln_14, ln_15, ln_16, ln_29, ln_30, ln_32, ln_33, ln_34, ln_35, ln_36, ln_37, ln_38, ln_40, ln_41, ln_42, ln_43, ln_45, Option.toList_some, Option.toList_none, List.cons_append, List.nil_append, true_and, and_true, if_true, if_false, true_or, or_true, Nat.reduceAdd, Int.reduceAdd, Bool.false_eq_true, tn_0, tn_1, tn_2, tn_3, tn_4, tn_5, tn_6, tn_7, x7]
        exact ⟨rfl, rfl⟩
      · refine J_blk a_X5_branch_29 ?_
        simp only [b_X5_branch_29, w_iload4, w_nil, kd_0, kd_1, kd_2, kd_3, kd_4, kd_5, kd_6, kd_7, kd_10, kd_11, kd_12, kd_13, kd_14, kd_15, kd_16, kd_19, kd_28, kd_29, kd_30, kd_31, kd_32, kd_33, kd_34, kd_35, kd_36, kd_37, kd_38, kd_39, kd_40, kd_41, kd_42, kd_43, kd_44, kd_45, ln_2, ln_3, ln_4, ln_5, ln_6, ln_7, ln_11, ln_12, ln_13, ln_14, ln_15, ln_16, ln_29, ln_30, ln_32, ln_33, ln_34, ln_35, ln_36, ln_37, ln_38, ln_40, ln_41, ln_42, ln_43, ln_45, Option.toList_some, Option.toList_none, List.cons_append, List.nil_append, true_and, and_true, if_true, if_false, true_or, or_true, Nat.reduceAdd, Int.reduceAdd, Bool.false_eq_true, tn_0, tn_1, tn_2, tn_3, tn_4, tn_5, tn_6, tn_7, x7]
        refine J_callSr (isAge_c _ _) k_X5_branch_31 o_X5_isAge rfl (by decide) rfl (Nat.le_of_ble_eq_true rfl) ?_
        refine J_blk a_X5_branch_34 ?_
        simp only [b_X5_branch_34, w_if_ne, w_nil, kd_0, kd_1, kd_2, kd_3, kd_4, kd_5, kd_6, kd_7, kd_10, kd_11, kd_12, kd_13, kd_14, kd_15, kd_16, kd_19, kd_28, kd_29, kd_30, kd_31, kd_32, kd_33, kd_34, kd_35, kd_36, kd_37, kd_38, kd_39, kd_40, kd_41, kd_42, kd_43, kd_44, kd_45, ln_2, ln_3, ln_4, ln_5, ln_6, ln_7, ln_11, ln_12, ln_13, ln_14, ln_15, ln_16, ln_29, ln_30, ln_32, ln_33, ln_34, ln_35, ln_36, ln_37, ln_38, ln_40, ln_41, ln_42, ln_43, ln_45, Option.toList_some, Option.toList_none, List.cons_append, List.nil_append, true_and, and_true, if_true, if_false, true_or, or_true, Nat.reduceAdd, Int.reduceAdd, Bool.false_eq_true, tn_0, tn_1, tn_2, tn_3, tn_4, tn_5, tn_6, tn_7, x7]
        refine ⟨fun c5 => ?_, fun c5 => ?_⟩
        · exact absurd (by grind) h
        · refine J_blk a_X5_branch_37 ?_
          simp only [b_X5_branch_37, w_iconst_m1, w_ireti, kd_0, kd_1, kd_2, kd_3, kd_4, kd_5, kd_6, kd_7, kd_10, kd_11, kd_12, kd_13, kd_14, kd_15, kd_16, kd_19, kd_28, kd_29, kd_30, kd_31, kd_32, kd_33, kd_34, kd_35, kd_36, kd_37, kd_38, kd_39, kd_40, kd_41, kd_42, kd_43, kd_44, kd_45, ln_2, ln_3, ln_4, ln_5, ln_6, ln_7, ln_11, ln_12, ln_13, ln_14, ln_15, ln_16, ln_29, ln_30, ln_32, ln_33, ln_34, ln_35, ln_36, ln_37, ln_38, ln_40, ln_41, ln_42, ln_43, ln_45, Option.toList_some, Option.toList_none, List.cons_append, List.nil_append, true_and, and_true, if_true, if_false, true_or, or_true, Nat.reduceAdd, Int.reduceAdd, Bool.false_eq_true, tn_0, tn_1, tn_2, tn_3, tn_4, tn_5, tn_6, tn_7, x7]
          exact ⟨rfl, rfl⟩
theorem cstem_f (o : Int32) (M : Mm) (n : Nat) (s : Nat → Int32) (hw : WF s n) (hx : RX M 1 s n) (h : ¬ (0 ≤ o ∧ o < nI n)) : K 2 mX5_stem [.ref 0, .int o] M (Rt (some (.int (-1))) M) := by
  have x7 : M.1 1 7 = nI n := hx.1
  refine K_go 1 o_X5_stem [] rfl (Nat.le_of_ble_eq_true rfl) ?_
  simp only [lvA_i, lvA_a, lvA_l, lvA_nil, List.cons_append, List.nil_append]
  refine J_blk a_X5_stem_0 ?_
  simp only [b_X5_stem_0, w_aload_n0, w_getf5, ne0_1, w_iload_n1, w_nil, kd_0, kd_1, kd_2, kd_3, kd_4, kd_5, kd_6, kd_7, kd_10, kd_11, kd_12, kd_13, kd_14, kd_15, kd_16, kd_19, kd_28, kd_29, kd_30, kd_31, kd_32, kd_33, kd_34, kd_35, kd_36, kd_37, kd_38, kd_39, kd_40, kd_41, kd_42, kd_43, kd_44, kd_45, ln_2, ln_3, ln_4, ln_5, ln_6, ln_7, ln_11, ln_12, ln_13, ln_14, ln_15, ln_16, ln_29, ln_30, ln_32, ln_33, ln_34, ln_35, ln_36, ln_37, ln_38, ln_40, ln_41, ln_42, ln_43, ln_45, Option.toList_some, Option.toList_none, List.cons_append, List.nil_append, true_and, and_true, if_true, if_false, true_or, or_true, Nat.reduceAdd, Int.reduceAdd, Bool.false_eq_true, tn_0, tn_1, tn_2, tn_3, tn_4, tn_5, tn_6, tn_7, x7]
  refine J_callVr (ci := 4) (has2 hw hx (Or.inl rfl) _) k_X5_stem_5 o_X4_has (rfl) rfl rfl rfl (by decide) rfl (Nat.le_of_ble_eq_true rfl) ?_
  refine J_blk a_X5_stem_8 ?_
  simp only [b_X5_stem_8, w_if_eq, w_nil, kd_0, kd_1, kd_2, kd_3, kd_4, kd_5, kd_6, kd_7, kd_10, kd_11, kd_12, kd_13, kd_14, kd_15, kd_16, kd_19, kd_28, kd_29, kd_30, kd_31, kd_32, kd_33, kd_34, kd_35, kd_36, kd_37, kd_38, kd_39, kd_40, kd_41, kd_42, kd_43, kd_44, kd_45, ln_2, ln_3, ln_4, ln_5, ln_6, ln_7, ln_11, ln_12, ln_13, ln_14, ln_15, ln_16, ln_29, ln_30, ln_32, ln_33, ln_34, ln_35, ln_36, ln_37, ln_38, ln_40, ln_41, ln_42, ln_43, ln_45, Option.toList_some, Option.toList_none, List.cons_append, List.nil_append, true_and, and_true, if_true, if_false, true_or, or_true, Nat.reduceAdd, Int.reduceAdd, Bool.false_eq_true, tn_0, tn_1, tn_2, tn_3, tn_4, tn_5, tn_6, tn_7, x7]
  refine ⟨fun c6 => ?_, fun c6 => ?_⟩
  · refine J_blk a_X5_stem_22 ?_
    simp only [b_X5_stem_22, w_iconst_m1, w_nil, kd_0, kd_1, kd_2, kd_3, kd_4, kd_5, kd_6, kd_7, kd_10, kd_11, kd_12, kd_13, kd_14, kd_15, kd_16, kd_19, kd_28, kd_29, kd_30, kd_31, kd_32, kd_33, kd_34, kd_35, kd_36, kd_37, kd_38, kd_39, kd_40, kd_41, kd_42, kd_43, kd_44, kd_45, ln_2, ln_3, ln_4, ln_5, ln_6, ln_7, ln_11, ln_12, ln_13, ln_14, ln_15, ln_16, ln_29, ln_30, ln_32, ln_33, ln_34, ln_35, ln_36, ln_37, ln_38, ln_40, ln_41, ln_42, ln_43, ln_45, Option.toList_some, Option.toList_none, List.cons_append, List.nil_append, true_and, and_true, if_true, if_false, true_or, or_true, Nat.reduceAdd, Int.reduceAdd, Bool.false_eq_true, tn_0, tn_1, tn_2, tn_3, tn_4, tn_5, tn_6, tn_7, x7]
    refine J_blk a_X5_stem_23 ?_
    simp only [b_X5_stem_23, w_ireti, kd_0, kd_1, kd_2, kd_3, kd_4, kd_5, kd_6, kd_7, kd_10, kd_11, kd_12, kd_13, kd_14, kd_15, kd_16, kd_19, kd_28, kd_29, kd_30, kd_31, kd_32, kd_33, kd_34, kd_35, kd_36, kd_37, kd_38, kd_39, kd_40, kd_41, kd_42, kd_43, kd_44, kd_45, ln_2, ln_3, ln_4, ln_5, ln_6, ln_7, ln_11, ln_12, ln_13, ln_14, ln_15, ln_16, ln_29, ln_30, ln_32, ln_33, ln_34, ln_35, ln_36, ln_37, ln_38, ln_40, ln_41, ln_42, ln_43, ln_45, Option.toList_some, Option.toList_none, List.cons_append, List.nil_append, true_and, and_true, if_true, if_false, true_or, or_true, Nat.reduceAdd, Int.reduceAdd, Bool.false_eq_true, tn_0, tn_1, tn_2, tn_3, tn_4, tn_5, tn_6, tn_7, x7]
    exact ⟨rfl, rfl⟩
  · exact absurd (by grind) h
theorem cmind_f (o k f : Int32) (M : Mm) (n : Nat) (s : Nat → Int32) (hw : WF s n) (hx : RX M 1 s n) (h : ¬ ((0 ≤ o ∧ o < nI n) ∧ (0 ≤ k ∧ k ≤ 5) ∧ (0 ≤ f ∧ f ≤ 9))) : K 2 mX5_mind [.ref 0, .int o, .int k, .int f] M (Rt (some (.int (-1))) M) := by
  have x7 : M.1 1 7 = nI n := hx.1
  refine K_go 3 o_X5_mind [none] rfl (Nat.le_of_ble_eq_true rfl) ?_
  simp only [lvA_i, lvA_a, lvA_l, lvA_nil, List.cons_append, List.nil_append]
  refine J_blk a_X5_mind_0 ?_
  simp only [b_X5_mind_0, w_aload_n0, w_getf5, ne0_1, w_iload_n1, w_nil, kd_0, kd_1, kd_2, kd_3, kd_4, kd_5, kd_6, kd_7, kd_10, kd_11, kd_12, kd_13, kd_14, kd_15, kd_16, kd_19, kd_28, kd_29, kd_30, kd_31, kd_32, kd_33, kd_34, kd_35, kd_36, kd_37, kd_38, kd_39, kd_40, kd_41, kd_42, kd_43, kd_44, kd_45, ln_2, ln_3, ln_4, ln_5, ln_6, ln_7, ln_11, ln_12, ln_13, ln_14, ln_15, ln_16, ln_29, ln_30, ln_32, ln_33, ln_34, ln_35, ln_36, ln_37, ln_38, ln_40, ln_41, ln_42, ln_43, ln_45, Option.toList_some, Option.toList_none, List.cons_append, List.nil_append, true_and, and_true, if_true, if_false, true_or, or_true, Nat.reduceAdd, Int.reduceAdd, Bool.false_eq_true, tn_0, tn_1, tn_2, tn_3, tn_4, tn_5, tn_6, tn_7, x7]
  refine J_callVr (ci := 4) (has2 hw hx (Or.inl rfl) _) k_X5_mind_5 o_X4_has (rfl) rfl rfl rfl (by decide) rfl (Nat.le_of_ble_eq_true rfl) ?_
  refine J_blk a_X5_mind_8 ?_
  simp only [b_X5_mind_8, w_if_eq, w_nil, kd_0, kd_1, kd_2, kd_3, kd_4, kd_5, kd_6, kd_7, kd_10, kd_11, kd_12, kd_13, kd_14, kd_15, kd_16, kd_19, kd_28, kd_29, kd_30, kd_31, kd_32, kd_33, kd_34, kd_35, kd_36, kd_37, kd_38, kd_39, kd_40, kd_41, kd_42, kd_43, kd_44, kd_45, ln_2, ln_3, ln_4, ln_5, ln_6, ln_7, ln_11, ln_12, ln_13, ln_14, ln_15, ln_16, ln_29, ln_30, ln_32, ln_33, ln_34, ln_35, ln_36, ln_37, ln_38, ln_40, ln_41, ln_42, ln_43, ln_45, Option.toList_some, Option.toList_none, List.cons_append, List.nil_append, true_and, and_true, if_true, if_false, true_or, or_true, Nat.reduceAdd, Int.reduceAdd, Bool.false_eq_true, tn_0, tn_1, tn_2, tn_3, tn_4, tn_5, tn_6, tn_7, x7]
  refine ⟨fun c7 => ?_, fun c7 => ?_⟩
  · refine J_blk a_X5_mind_25 ?_
    simp only [b_X5_mind_25, w_iconst_m1, w_ireti, kd_0, kd_1, kd_2, kd_3, kd_4, kd_5, kd_6, kd_7, kd_10, kd_11, kd_12, kd_13, kd_14, kd_15, kd_16, kd_19, kd_28, kd_29, kd_30, kd_31, kd_32, kd_33, kd_34, kd_35, kd_36, kd_37, kd_38, kd_39, kd_40, kd_41, kd_42, kd_43, kd_44, kd_45, ln_2, ln_3, ln_4, ln_5, ln_6, ln_7, ln_11, ln_12, ln_13, ln_14, ln_15, ln_16, ln_29, ln_30, ln_32, ln_33, ln_34, ln_35, ln_36, ln_37, ln_38, ln_40, ln_41, ln_42, ln_43, ln_45, Option.toList_some, Option.toList_none, List.cons_append, List.nil_append, true_and, and_true, if_true, if_false, true_or, or_true, Nat.reduceAdd, Int.reduceAdd, Bool.false_eq_true, tn_0, tn_1, tn_2, tn_3, tn_4, tn_5, tn_6, tn_7, x7]
    exact ⟨rfl, rfl⟩
  · refine J_blk a_X5_mind_11 ?_
    simp only [b_X5_mind_11, w_iload_n2, w_nil, kd_0, kd_1, kd_2, kd_3, kd_4, kd_5, kd_6, kd_7, kd_10, kd_11, kd_12, kd_13, kd_14, kd_15, kd_16, kd_19, kd_28, kd_29, kd_30, kd_31, kd_32, kd_33, kd_34, kd_35, kd_36, kd_37, kd_38, kd_39, kd_40, kd_41, kd_42, kd_43, kd_44, kd_45, ln_2, ln_3, ln_4, ln_5, ln_6, ln_7, ln_11, ln_12, ln_13, ln_14, ln_15, ln_16, ln_29, ln_30, ln_32, ln_33, ln_34, ln_35, ln_36, ln_37, ln_38, ln_40, ln_41, ln_42, ln_43, ln_45, Option.toList_some, Option.toList_none, List.cons_append, List.nil_append, true_and, and_true, if_true, if_false, true_or, or_true, Nat.reduceAdd, Int.reduceAdd, Bool.false_eq_true, tn_0, tn_1, tn_2, tn_3, tn_4, tn_5, tn_6, tn_7, x7]
    refine J_callSr (isKind_c _ _) k_X5_mind_12 o_X5_isKind rfl (by decide) rfl (Nat.le_of_ble_eq_true rfl) ?_
    refine J_blk a_X5_mind_15 ?_
    simp only [b_X5_mind_15, w_if_eq, w_nil, kd_0, kd_1, kd_2, kd_3, kd_4, kd_5, kd_6, kd_7, kd_10, kd_11, kd_12, kd_13, kd_14, kd_15, kd_16, kd_19, kd_28, kd_29, kd_30, kd_31, kd_32, kd_33, kd_34, kd_35, kd_36, kd_37, kd_38, kd_39, kd_40, kd_41, kd_42, kd_43, kd_44, kd_45, ln_2, ln_3, ln_4, ln_5, ln_6, ln_7, ln_11, ln_12, ln_13, ln_14, ln_15, ln_16, ln_29, ln_30, ln_32, ln_33, ln_34, ln_35, ln_36, ln_37, ln_38, ln_40, ln_41, ln_42, ln_43, ln_45, Option.toList_some, Option.toList_none, List.cons_append, List.nil_append, true_and, and_true, if_true, if_false, true_or, or_true, Nat.reduceAdd, Int.reduceAdd, Bool.false_eq_true, tn_0, tn_1, tn_2, tn_3, tn_4, tn_5, tn_6, tn_7, x7]
    refine ⟨fun c8 => ?_, fun c8 => ?_⟩
    · refine J_blk a_X5_mind_25 ?_
      simp only [b_X5_mind_25, w_iconst_m1, w_ireti, kd_0, kd_1, kd_2, kd_3, kd_4, kd_5, kd_6, kd_7, kd_10, kd_11, kd_12, kd_13, kd_14, kd_15, kd_16, kd_19, kd_28, kd_29, kd_30, kd_31, kd_32, kd_33, kd_34, kd_35, kd_36, kd_37, kd_38, kd_39, kd_40, kd_41, kd_42, kd_43, kd_44, kd_45, ln_2, ln_3, ln_4, ln_5, ln_6, ln_7, ln_11, ln_12, ln_13, ln_14, ln_15, ln_16, ln_29, ln_30, ln_32, ln_33, ln_34, ln_35, ln_36, ln_37, ln_38, ln_40, ln_41, ln_42, ln_43, ln_45, Option.toList_some, Option.toList_none, List.cons_append, List.nil_append, true_and, and_true, if_true, if_false, true_or, or_true, Nat.reduceAdd, Int.reduceAdd, Bool.false_eq_true, tn_0, tn_1, tn_2, tn_3, tn_4, tn_5, tn_6, tn_7, x7]
      exact ⟨rfl, rfl⟩
    · refine J_blk a_X5_mind_18 ?_
      simp only [b_X5_mind_18, w_iload_n3, w_nil, kd_0, kd_1, kd_2, kd_3, kd_4, kd_5, kd_6, kd_7, kd_10, kd_11, kd_12, kd_13, kd_14, kd_15, kd_16, kd_19, kd_28, kd_29, kd_30, kd_31, kd_32, kd_33, kd_34, kd_35, kd_36, kd_37, kd_38, kd_39, kd_40, kd_41, kd_42, kd_43, kd_44, kd_45, ln_2, ln_3, ln_4, ln_5, ln_6, ln_7, ln_11, ln_12, ln_13, ln_14, ln_15, ln_16, ln_29, ln_30, ln_32, ln_33, ln_34, ln_35, ln_36, ln_37, ln_38, ln_40, ln_41, ln_42, ln_43, ln_45, Option.toList_some, Option.toList_none, List.cons_append, List.nil_append, true_and, and_true, if_true, if_false, true_or, or_true, Nat.reduceAdd, Int.reduceAdd, Bool.false_eq_true, tn_0, tn_1, tn_2, tn_3, tn_4, tn_5, tn_6, tn_7, x7]
      refine J_callSr (isForce_c _ _) k_X5_mind_19 o_X5_isForce rfl (by decide) rfl (Nat.le_of_ble_eq_true rfl) ?_
      refine J_blk a_X5_mind_22 ?_
      simp only [b_X5_mind_22, w_if_ne, w_nil, kd_0, kd_1, kd_2, kd_3, kd_4, kd_5, kd_6, kd_7, kd_10, kd_11, kd_12, kd_13, kd_14, kd_15, kd_16, kd_19, kd_28, kd_29, kd_30, kd_31, kd_32, kd_33, kd_34, kd_35, kd_36, kd_37, kd_38, kd_39, kd_40, kd_41, kd_42, kd_43, kd_44, kd_45, ln_2, ln_3, ln_4, ln_5, ln_6, ln_7, ln_11, ln_12, ln_13, ln_14, ln_15, ln_16, ln_29, ln_30, ln_32, ln_33, ln_34, ln_35, ln_36, ln_37, ln_38, ln_40, ln_41, ln_42, ln_43, ln_45, Option.toList_some, Option.toList_none, List.cons_append, List.nil_append, true_and, and_true, if_true, if_false, true_or, or_true, Nat.reduceAdd, Int.reduceAdd, Bool.false_eq_true, tn_0, tn_1, tn_2, tn_3, tn_4, tn_5, tn_6, tn_7, x7]
      refine ⟨fun c9 => ?_, fun c9 => ?_⟩
      · exact absurd (by grind) h
      · refine J_blk a_X5_mind_25 ?_
        simp only [b_X5_mind_25, w_iconst_m1, w_ireti, kd_0, kd_1, kd_2, kd_3, kd_4, kd_5, kd_6, kd_7, kd_10, kd_11, kd_12, kd_13, kd_14, kd_15, kd_16, kd_19, kd_28, kd_29, kd_30, kd_31, kd_32, kd_33, kd_34, kd_35, kd_36, kd_37, kd_38, kd_39, kd_40, kd_41, kd_42, kd_43, kd_44, kd_45, ln_2, ln_3, ln_4, ln_5, ln_6, ln_7, ln_11, ln_12, ln_13, ln_14, ln_15, ln_16, ln_29, ln_30, ln_32, ln_33, ln_34, ln_35, ln_36, ln_37, ln_38, ln_40, ln_41, ln_42, ln_43, ln_45, Option.toList_some, Option.toList_none, List.cons_append, List.nil_append, true_and, and_true, if_true, if_false, true_or, or_true, Nat.reduceAdd, Int.reduceAdd, Bool.false_eq_true, tn_0, tn_1, tn_2, tn_3, tn_4, tn_5, tn_6, tn_7, x7]
        exact ⟨rfl, rfl⟩
theorem cage_f (o v : Int32) (M : Mm) (n : Nat) (s : Nat → Int32) (hw : WF s n) (hx : RX M 1 s n) (h : ¬ ((0 ≤ o ∧ o < nI n) ∧ (0 ≤ v ∧ v ≤ 99))) : K 2 mX5_age [.ref 0, .int o, .int v] M (Rt (some (.int (-1))) M) := by
  have x7 : M.1 1 7 = nI n := hx.1
  refine K_go 2 o_X5_age [none] rfl (Nat.le_of_ble_eq_true rfl) ?_
  simp only [lvA_i, lvA_a, lvA_l, lvA_nil, List.cons_append, List.nil_append]
  refine J_blk a_X5_age_0 ?_
  simp only [b_X5_age_0, w_aload_n0, w_getf5, ne0_1, w_iload_n1, w_nil, kd_0, kd_1, kd_2, kd_3, kd_4, kd_5, kd_6, kd_7, kd_10, kd_11, kd_12, kd_13, kd_14, kd_15, kd_16, kd_19, kd_28, kd_29, kd_30, kd_31, kd_32, kd_33, kd_34, kd_35, kd_36, kd_37, kd_38, kd_39, kd_40, kd_41, kd_42, kd_43, kd_44, kd_45, ln_2, ln_3, ln_4, ln_5, ln_6, ln_7, ln_11, ln_12, ln_13, ln_14, ln_15, ln_16, ln_29, ln_30, ln_32, ln_33, ln_34, ln_35, ln_36, ln_37, ln_38, ln_40, ln_41, ln_42, ln_43, ln_45, Option.toList_some, Option.toList_none, List.cons_append, List.nil_append, true_and, and_true, if_true, if_false, true_or, or_true, Nat.reduceAdd, Int.reduceAdd, Bool.false_eq_true, tn_0, tn_1, tn_2, tn_3, tn_4, tn_5, tn_6, tn_7, x7]
  refine J_callVr (ci := 4) (has2 hw hx (Or.inl rfl) _) k_X5_age_5 o_X4_has (rfl) rfl rfl rfl (by decide) rfl (Nat.le_of_ble_eq_true rfl) ?_
  refine J_blk a_X5_age_8 ?_
  simp only [b_X5_age_8, w_if_eq, w_nil, kd_0, kd_1, kd_2, kd_3, kd_4, kd_5, kd_6, kd_7, kd_10, kd_11, kd_12, kd_13, kd_14, kd_15, kd_16, kd_19, kd_28, kd_29, kd_30, kd_31, kd_32, kd_33, kd_34, kd_35, kd_36, kd_37, kd_38, kd_39, kd_40, kd_41, kd_42, kd_43, kd_44, kd_45, ln_2, ln_3, ln_4, ln_5, ln_6, ln_7, ln_11, ln_12, ln_13, ln_14, ln_15, ln_16, ln_29, ln_30, ln_32, ln_33, ln_34, ln_35, ln_36, ln_37, ln_38, ln_40, ln_41, ln_42, ln_43, ln_45, Option.toList_some, Option.toList_none, List.cons_append, List.nil_append, true_and, and_true, if_true, if_false, true_or, or_true, Nat.reduceAdd, Int.reduceAdd, Bool.false_eq_true, tn_0, tn_1, tn_2, tn_3, tn_4, tn_5, tn_6, tn_7, x7]
  refine ⟨fun c10 => ?_, fun c10 => ?_⟩
  · refine J_blk a_X5_age_18 ?_
    simp only [b_X5_age_18, w_iconst_m1, w_ireti, kd_0, kd_1, kd_2, kd_3, kd_4, kd_5, kd_6, kd_7, kd_10, kd_11, kd_12, kd_13, kd_14, kd_15, kd_16, kd_19, kd_28, kd_29, kd_30, kd_31, kd_32, kd_33, kd_34, kd_35, kd_36, kd_37, kd_38, kd_39, kd_40, kd_41, kd_42, kd_43, kd_44, kd_45, ln_2, ln_3, ln_4, ln_5, ln_6, ln_7, ln_11, ln_12, ln_13, ln_14, ln_15, ln_16, ln_29, ln_30, ln_32, ln_33, ln_34, ln_35, ln_36, ln_37, ln_38, ln_40, ln_41, ln_42, ln_43, ln_45, Option.toList_some, Option.toList_none, List.cons_append, List.nil_append, true_and, and_true, if_true, if_false, true_or, or_true, Nat.reduceAdd, Int.reduceAdd, Bool.false_eq_true, tn_0, tn_1, tn_2, tn_3, tn_4, tn_5, tn_6, tn_7, x7]
    exact ⟨rfl, rfl⟩
  · refine J_blk a_X5_age_11 ?_
    simp only [b_X5_age_11, w_iload_n2, w_nil, kd_0, kd_1, kd_2, kd_3, kd_4, kd_5, kd_6, kd_7, kd_10, kd_11, kd_12, kd_13, kd_14, kd_15, kd_16, kd_19, kd_28, kd_29, kd_30, kd_31, kd_32, kd_33, kd_34, kd_35, kd_36, kd_37, kd_38, kd_39, kd_40, kd_41, kd_42, kd_43, kd_44, kd_45, ln_2, ln_3, ln_4, ln_5, ln_6, ln_7, ln_11, ln_12, ln_13, ln_14, ln_15, ln_16, ln_29, ln_30, ln_32, ln_33, ln_34, ln_35, ln_36, ln_37, ln_38, ln_40, ln_41, ln_42, ln_43, ln_45, Option.toList_some, Option.toList_none, List.cons_append, List.nil_append, true_and, and_true, if_true, if_false, true_or, or_true, Nat.reduceAdd, Int.reduceAdd, Bool.false_eq_true, tn_0, tn_1, tn_2, tn_3, tn_4, tn_5, tn_6, tn_7, x7]
    refine J_callSr (isAge_c _ _) k_X5_age_12 o_X5_isAge rfl (by decide) rfl (Nat.le_of_ble_eq_true rfl) ?_
    refine J_blk a_X5_age_15 ?_
    simp only [b_X5_age_15, w_if_ne, w_nil, kd_0, kd_1, kd_2, kd_3, kd_4, kd_5, kd_6, kd_7, kd_10, kd_11, kd_12, kd_13, kd_14, kd_15, kd_16, kd_19, kd_28, kd_29, kd_30, kd_31, kd_32, kd_33, kd_34, kd_35, kd_36, kd_37, kd_38, kd_39, kd_40, kd_41, kd_42, kd_43, kd_44, kd_45, ln_2, ln_3, ln_4, ln_5, ln_6, ln_7, ln_11, ln_12, ln_13, ln_14, ln_15, ln_16, ln_29, ln_30, ln_32, ln_33, ln_34, ln_35, ln_36, ln_37, ln_38, ln_40, ln_41, ln_42, ln_43, ln_45, Option.toList_some, Option.toList_none, List.cons_append, List.nil_append, true_and, and_true, if_true, if_false, true_or, or_true, Nat.reduceAdd, Int.reduceAdd, Bool.false_eq_true, tn_0, tn_1, tn_2, tn_3, tn_4, tn_5, tn_6, tn_7, x7]
    refine ⟨fun c11 => ?_, fun c11 => ?_⟩
    · exact absurd (by grind) h
    · refine J_blk a_X5_age_18 ?_
      simp only [b_X5_age_18, w_iconst_m1, w_ireti, kd_0, kd_1, kd_2, kd_3, kd_4, kd_5, kd_6, kd_7, kd_10, kd_11, kd_12, kd_13, kd_14, kd_15, kd_16, kd_19, kd_28, kd_29, kd_30, kd_31, kd_32, kd_33, kd_34, kd_35, kd_36, kd_37, kd_38, kd_39, kd_40, kd_41, kd_42, kd_43, kd_44, kd_45, ln_2, ln_3, ln_4, ln_5, ln_6, ln_7, ln_11, ln_12, ln_13, ln_14, ln_15, ln_16, ln_29, ln_30, ln_32, ln_33, ln_34, ln_35, ln_36, ln_37, ln_38, ln_40, ln_41, ln_42, ln_43, ln_45, Option.toList_some, Option.toList_none, List.cons_append, List.nil_append, true_and, and_true, if_true, if_false, true_or, or_true, Nat.reduceAdd, Int.reduceAdd, Bool.false_eq_true, tn_0, tn_1, tn_2, tn_3, tn_4, tn_5, tn_6, tn_7, x7]
      exact ⟨rfl, rfl⟩
theorem cgraft_f (o v : Int32) (M : Mm) (n : Nat) (s : Nat → Int32) (hw : WF s n) (hx : RX M 1 s n) (h : ¬ ((0 ≤ o ∧ o < nI n) ∧ (0 ≤ v ∧ v ≤ o))) : K 2 mX5_graft [.ref 0, .int o, .int v] M (Rt (some (.int (-1))) M) := by
  have x7 : M.1 1 7 = nI n := hx.1
  refine K_go 2 o_X5_graft [none] rfl (Nat.le_of_ble_eq_true rfl) ?_
  simp only [lvA_i, lvA_a, lvA_l, lvA_nil, List.cons_append, List.nil_append]
  refine J_blk a_X5_graft_0 ?_
  simp only [b_X5_graft_0, w_aload_n0, w_getf5, ne0_1, w_iload_n1, w_nil, kd_0, kd_1, kd_2, kd_3, kd_4, kd_5, kd_6, kd_7, kd_10, kd_11, kd_12, kd_13, kd_14, kd_15, kd_16, kd_19, kd_28, kd_29, kd_30, kd_31, kd_32, kd_33, kd_34, kd_35, kd_36, kd_37, kd_38, kd_39, kd_40, kd_41, kd_42, kd_43, kd_44, kd_45, ln_2, ln_3, ln_4, ln_5, ln_6, ln_7, ln_11, ln_12, ln_13, ln_14, ln_15, ln_16, ln_29, ln_30, ln_32, ln_33, ln_34, ln_35, ln_36, ln_37, ln_38, ln_40, ln_41, ln_42, ln_43, ln_45, Option.toList_some, Option.toList_none, List.cons_append, List.nil_append, true_and, and_true, if_true, if_false, true_or, or_true, Nat.reduceAdd, Int.reduceAdd, Bool.false_eq_true, tn_0, tn_1, tn_2, tn_3, tn_4, tn_5, tn_6, tn_7, x7]
  refine J_callVr (ci := 4) (has2 hw hx (Or.inl rfl) _) k_X5_graft_5 o_X4_has (rfl) rfl rfl rfl (by decide) rfl (Nat.le_of_ble_eq_true rfl) ?_
  refine J_blk a_X5_graft_8 ?_
  simp only [b_X5_graft_8, w_if_eq, w_nil, kd_0, kd_1, kd_2, kd_3, kd_4, kd_5, kd_6, kd_7, kd_10, kd_11, kd_12, kd_13, kd_14, kd_15, kd_16, kd_19, kd_28, kd_29, kd_30, kd_31, kd_32, kd_33, kd_34, kd_35, kd_36, kd_37, kd_38, kd_39, kd_40, kd_41, kd_42, kd_43, kd_44, kd_45, ln_2, ln_3, ln_4, ln_5, ln_6, ln_7, ln_11, ln_12, ln_13, ln_14, ln_15, ln_16, ln_29, ln_30, ln_32, ln_33, ln_34, ln_35, ln_36, ln_37, ln_38, ln_40, ln_41, ln_42, ln_43, ln_45, Option.toList_some, Option.toList_none, List.cons_append, List.nil_append, true_and, and_true, if_true, if_false, true_or, or_true, Nat.reduceAdd, Int.reduceAdd, Bool.false_eq_true, tn_0, tn_1, tn_2, tn_3, tn_4, tn_5, tn_6, tn_7, x7]
  refine ⟨fun c12 => ?_, fun c12 => ?_⟩
  · refine J_blk a_X5_graft_20 ?_
    simp only [b_X5_graft_20, w_iconst_m1, w_ireti, kd_0, kd_1, kd_2, kd_3, kd_4, kd_5, kd_6, kd_7, kd_10, kd_11, kd_12, kd_13, kd_14, kd_15, kd_16, kd_19, kd_28, kd_29, kd_30, kd_31, kd_32, kd_33, kd_34, kd_35, kd_36, kd_37, kd_38, kd_39, kd_40, kd_41, kd_42, kd_43, kd_44, kd_45, ln_2, ln_3, ln_4, ln_5, ln_6, ln_7, ln_11, ln_12, ln_13, ln_14, ln_15, ln_16, ln_29, ln_30, ln_32, ln_33, ln_34, ln_35, ln_36, ln_37, ln_38, ln_40, ln_41, ln_42, ln_43, ln_45, Option.toList_some, Option.toList_none, List.cons_append, List.nil_append, true_and, and_true, if_true, if_false, true_or, or_true, Nat.reduceAdd, Int.reduceAdd, Bool.false_eq_true, tn_0, tn_1, tn_2, tn_3, tn_4, tn_5, tn_6, tn_7, x7]
    exact ⟨rfl, rfl⟩
  · refine J_blk a_X5_graft_11 ?_
    simp only [b_X5_graft_11, w_iload_n2, w_iconst_0, w_iload_n1, w_nil, kd_0, kd_1, kd_2, kd_3, kd_4, kd_5, kd_6, kd_7, kd_10, kd_11, kd_12, kd_13, kd_14, kd_15, kd_16, kd_19, kd_28, kd_29, kd_30, kd_31, kd_32, kd_33, kd_34, kd_35, kd_36, kd_37, kd_38, kd_39, kd_40, kd_41, kd_42, kd_43, kd_44, kd_45, ln_2, ln_3, ln_4, ln_5, ln_6, ln_7, ln_11, ln_12, ln_13, ln_14, ln_15, ln_16, ln_29, ln_30, ln_32, ln_33, ln_34, ln_35, ln_36, ln_37, ln_38, ln_40, ln_41, ln_42, ln_43, ln_45, Option.toList_some, Option.toList_none, List.cons_append, List.nil_append, true_and, and_true, if_true, if_false, true_or, or_true, Nat.reduceAdd, Int.reduceAdd, Bool.false_eq_true, tn_0, tn_1, tn_2, tn_3, tn_4, tn_5, tn_6, tn_7, x7]
    refine J_callSr (within_c _ _ _ _) k_X5_graft_14 o_X5_within rfl (by decide) rfl (Nat.le_of_ble_eq_true rfl) ?_
    refine J_blk a_X5_graft_17 ?_
    simp only [b_X5_graft_17, w_if_ne, w_nil, kd_0, kd_1, kd_2, kd_3, kd_4, kd_5, kd_6, kd_7, kd_10, kd_11, kd_12, kd_13, kd_14, kd_15, kd_16, kd_19, kd_28, kd_29, kd_30, kd_31, kd_32, kd_33, kd_34, kd_35, kd_36, kd_37, kd_38, kd_39, kd_40, kd_41, kd_42, kd_43, kd_44, kd_45, ln_2, ln_3, ln_4, ln_5, ln_6, ln_7, ln_11, ln_12, ln_13, ln_14, ln_15, ln_16, ln_29, ln_30, ln_32, ln_33, ln_34, ln_35, ln_36, ln_37, ln_38, ln_40, ln_41, ln_42, ln_43, ln_45, Option.toList_some, Option.toList_none, List.cons_append, List.nil_append, true_and, and_true, if_true, if_false, true_or, or_true, Nat.reduceAdd, Int.reduceAdd, Bool.false_eq_true, tn_0, tn_1, tn_2, tn_3, tn_4, tn_5, tn_6, tn_7, x7]
    refine ⟨fun c13 => ?_, fun c13 => ?_⟩
    · exact absurd (by grind) h
    · refine J_blk a_X5_graft_20 ?_
      simp only [b_X5_graft_20, w_iconst_m1, w_ireti, kd_0, kd_1, kd_2, kd_3, kd_4, kd_5, kd_6, kd_7, kd_10, kd_11, kd_12, kd_13, kd_14, kd_15, kd_16, kd_19, kd_28, kd_29, kd_30, kd_31, kd_32, kd_33, kd_34, kd_35, kd_36, kd_37, kd_38, kd_39, kd_40, kd_41, kd_42, kd_43, kd_44, kd_45, ln_2, ln_3, ln_4, ln_5, ln_6, ln_7, ln_11, ln_12, ln_13, ln_14, ln_15, ln_16, ln_29, ln_30, ln_32, ln_33, ln_34, ln_35, ln_36, ln_37, ln_38, ln_40, ln_41, ln_42, ln_43, ln_45, Option.toList_some, Option.toList_none, List.cons_append, List.nil_append, true_and, and_true, if_true, if_false, true_or, or_true, Nat.reduceAdd, Int.reduceAdd, Bool.false_eq_true, tn_0, tn_1, tn_2, tn_3, tn_4, tn_5, tn_6, tn_7, x7]
      exact ⟨rfl, rfl⟩
theorem ccut_f (o : Int32) (M : Mm) (n : Nat) (s : Nat → Int32) (hw : WF s n) (hx : RX M 1 s n) (h : ¬ (0 ≤ o ∧ o < nI n)) : K 2 mX5_cut [.ref 0, .int o] M (Rt (some (.int (-1))) M) := by
  have x7 : M.1 1 7 = nI n := hx.1
  refine K_go 1 o_X5_cut [] rfl (Nat.le_of_ble_eq_true rfl) ?_
  simp only [lvA_i, lvA_a, lvA_l, lvA_nil, List.cons_append, List.nil_append]
  refine J_blk a_X5_cut_0 ?_
  simp only [b_X5_cut_0, w_aload_n0, w_getf5, ne0_1, w_iload_n1, w_nil, kd_0, kd_1, kd_2, kd_3, kd_4, kd_5, kd_6, kd_7, kd_10, kd_11, kd_12, kd_13, kd_14, kd_15, kd_16, kd_19, kd_28, kd_29, kd_30, kd_31, kd_32, kd_33, kd_34, kd_35, kd_36, kd_37, kd_38, kd_39, kd_40, kd_41, kd_42, kd_43, kd_44, kd_45, ln_2, ln_3, ln_4, ln_5, ln_6, ln_7, ln_11, ln_12, ln_13, ln_14, ln_15, ln_16, ln_29, ln_30, ln_32, ln_33, ln_34, ln_35, ln_36, ln_37, ln_38, ln_40, ln_41, ln_42, ln_43, ln_45, Option.toList_some, Option.toList_none, List.cons_append, List.nil_append, true_and, and_true, if_true, if_false, true_or, or_true, Nat.reduceAdd, Int.reduceAdd, Bool.false_eq_true, tn_0, tn_1, tn_2, tn_3, tn_4, tn_5, tn_6, tn_7, x7]
  refine J_callVr (ci := 4) (has2 hw hx (Or.inl rfl) _) k_X5_cut_5 o_X4_has (rfl) rfl rfl rfl (by decide) rfl (Nat.le_of_ble_eq_true rfl) ?_
  refine J_blk a_X5_cut_8 ?_
  simp only [b_X5_cut_8, w_if_ne, w_nil, kd_0, kd_1, kd_2, kd_3, kd_4, kd_5, kd_6, kd_7, kd_10, kd_11, kd_12, kd_13, kd_14, kd_15, kd_16, kd_19, kd_28, kd_29, kd_30, kd_31, kd_32, kd_33, kd_34, kd_35, kd_36, kd_37, kd_38, kd_39, kd_40, kd_41, kd_42, kd_43, kd_44, kd_45, ln_2, ln_3, ln_4, ln_5, ln_6, ln_7, ln_11, ln_12, ln_13, ln_14, ln_15, ln_16, ln_29, ln_30, ln_32, ln_33, ln_34, ln_35, ln_36, ln_37, ln_38, ln_40, ln_41, ln_42, ln_43, ln_45, Option.toList_some, Option.toList_none, List.cons_append, List.nil_append, true_and, and_true, if_true, if_false, true_or, or_true, Nat.reduceAdd, Int.reduceAdd, Bool.false_eq_true, tn_0, tn_1, tn_2, tn_3, tn_4, tn_5, tn_6, tn_7, x7]
  refine ⟨fun c14 => ?_, fun c14 => ?_⟩
  · exact absurd (by grind) h
  · refine J_blk a_X5_cut_11 ?_
    simp only [b_X5_cut_11, w_iconst_m1, w_ireti, kd_0, kd_1, kd_2, kd_3, kd_4, kd_5, kd_6, kd_7, kd_10, kd_11, kd_12, kd_13, kd_14, kd_15, kd_16, kd_19, kd_28, kd_29, kd_30, kd_31, kd_32, kd_33, kd_34, kd_35, kd_36, kd_37, kd_38, kd_39, kd_40, kd_41, kd_42, kd_43, kd_44, kd_45, ln_2, ln_3, ln_4, ln_5, ln_6, ln_7, ln_11, ln_12, ln_13, ln_14, ln_15, ln_16, ln_29, ln_30, ln_32, ln_33, ln_34, ln_35, ln_36, ln_37, ln_38, ln_40, ln_41, ln_42, ln_43, ln_45, Option.toList_some, Option.toList_none, List.cons_append, List.nil_append, true_and, and_true, if_true, if_false, true_or, or_true, Nat.reduceAdd, Int.reduceAdd, Bool.false_eq_true, tn_0, tn_1, tn_2, tn_3, tn_4, tn_5, tn_6, tn_7, x7]
    exact ⟨rfl, rfl⟩
theorem cback_f (o : Int32) (M : Mm) (n : Nat) (s : Nat → Int32) (hw : WF s n) (hx : RX M 1 s n) (h : ¬ (0 ≤ o ∧ o < nI n)) : K 2 mX5_back [.ref 0, .int o] M (Rt (some (.int (-1))) M) := by
  have x7 : M.1 1 7 = nI n := hx.1
  refine K_go 1 o_X5_back [] rfl (Nat.le_of_ble_eq_true rfl) ?_
  simp only [lvA_i, lvA_a, lvA_l, lvA_nil, List.cons_append, List.nil_append]
  refine J_blk a_X5_back_0 ?_
  simp only [b_X5_back_0, w_aload_n0, w_getf5, ne0_1, w_iload_n1, w_nil, kd_0, kd_1, kd_2, kd_3, kd_4, kd_5, kd_6, kd_7, kd_10, kd_11, kd_12, kd_13, kd_14, kd_15, kd_16, kd_19, kd_28, kd_29, kd_30, kd_31, kd_32, kd_33, kd_34, kd_35, kd_36, kd_37, kd_38, kd_39, kd_40, kd_41, kd_42, kd_43, kd_44, kd_45, ln_2, ln_3, ln_4, ln_5, ln_6, ln_7, ln_11, ln_12, ln_13, ln_14, ln_15, ln_16, ln_29, ln_30, ln_32, ln_33, ln_34, ln_35, ln_36, ln_37, ln_38, ln_40, ln_41, ln_42, ln_43, ln_45, Option.toList_some, Option.toList_none, List.cons_append, List.nil_append, true_and, and_true, if_true, if_false, true_or, or_true, Nat.reduceAdd, Int.reduceAdd, Bool.false_eq_true, tn_0, tn_1, tn_2, tn_3, tn_4, tn_5, tn_6, tn_7, x7]
  refine J_callVr (ci := 4) (has2 hw hx (Or.inl rfl) _) k_X5_back_5 o_X4_has (rfl) rfl rfl rfl (by decide) rfl (Nat.le_of_ble_eq_true rfl) ?_
  refine J_blk a_X5_back_8 ?_
  simp only [b_X5_back_8, w_if_ne, w_nil, kd_0, kd_1, kd_2, kd_3, kd_4, kd_5, kd_6, kd_7, kd_10, kd_11, kd_12, kd_13, kd_14, kd_15, kd_16, kd_19, kd_28, kd_29, kd_30, kd_31, kd_32, kd_33, kd_34, kd_35, kd_36, kd_37, kd_38, kd_39, kd_40, kd_41, kd_42, kd_43, kd_44, kd_45, ln_2, ln_3, ln_4, ln_5, ln_6, ln_7, ln_11, ln_12, ln_13, ln_14, ln_15, ln_16, ln_29, ln_30, ln_32, ln_33, ln_34, ln_35, ln_36, ln_37, ln_38, ln_40, ln_41, ln_42, ln_43, ln_45, Option.toList_some, Option.toList_none, List.cons_append, List.nil_append, true_and, and_true, if_true, if_false, true_or, or_true, Nat.reduceAdd, Int.reduceAdd, Bool.false_eq_true, tn_0, tn_1, tn_2, tn_3, tn_4, tn_5, tn_6, tn_7, x7]
  refine ⟨fun c15 => ?_, fun c15 => ?_⟩
  · exact absurd (by grind) h
  · refine J_blk a_X5_back_11 ?_
    simp only [b_X5_back_11, w_iconst_m1, w_ireti, kd_0, kd_1, kd_2, kd_3, kd_4, kd_5, kd_6, kd_7, kd_10, kd_11, kd_12, kd_13, kd_14, kd_15, kd_16, kd_19, kd_28, kd_29, kd_30, kd_31, kd_32, kd_33, kd_34, kd_35, kd_36, kd_37, kd_38, kd_39, kd_40, kd_41, kd_42, kd_43, kd_44, kd_45, ln_2, ln_3, ln_4, ln_5, ln_6, ln_7, ln_11, ln_12, ln_13, ln_14, ln_15, ln_16, ln_29, ln_30, ln_32, ln_33, ln_34, ln_35, ln_36, ln_37, ln_38, ln_40, ln_41, ln_42, ln_43, ln_45, Option.toList_some, Option.toList_none, List.cons_append, List.nil_append, true_and, and_true, if_true, if_false, true_or, or_true, Nat.reduceAdd, Int.reduceAdd, Bool.false_eq_true, tn_0, tn_1, tn_2, tn_3, tn_4, tn_5, tn_6, tn_7, x7]
    exact ⟨rfl, rfl⟩
theorem cyears_f (v : Int32) (M : Mm) (n : Nat) (s : Nat → Int32) (hw : WF s n) (hx : RX M 1 s n) (h : ¬ (1 ≤ v ∧ v ≤ 60)) : K 2 mX5_years [.ref 0, .int v] M (Rt (some (.int (-1))) M) := by
  have x7 : M.1 1 7 = nI n := hx.1
  refine K_go 1 o_X5_years [] rfl (Nat.le_of_ble_eq_true rfl) ?_
  simp only [lvA_i, lvA_a, lvA_l, lvA_nil, List.cons_append, List.nil_append]
  refine J_blk a_X5_years_0 ?_
  simp only [b_X5_years_0, w_iload_n1, w_iconst_1, w_bipush, ci_60, w_nil, kd_0, kd_1, kd_2, kd_3, kd_4, kd_5, kd_6, kd_7, kd_10, kd_11, kd_12, kd_13, kd_14, kd_15, kd_16, kd_19, kd_28, kd_29, kd_30, kd_31, kd_32, kd_33, kd_34, kd_35, kd_36, kd_37, kd_38, kd_39, kd_40, kd_41, kd_42, kd_43, kd_44, kd_45, ln_2, ln_3, ln_4, ln_5, ln_6, ln_7, ln_11, ln_12, ln_13, ln_14, ln_15, ln_16, ln_29, ln_30, ln_32, ln_33, ln_34, ln_35, ln_36, ln_37, ln_38, ln_40, ln_41, ln_42, ln_43, ln_45, Option.toList_some, Option.toList_none, List.cons_append, List.nil_append, true_and, and_true, if_true, if_false, true_or, or_true, Nat.reduceAdd, Int.reduceAdd, Bool.false_eq_true, tn_0, tn_1, tn_2, tn_3, tn_4, tn_5, tn_6, tn_7, x7]
  refine J_callSr (within_c _ _ _ _) k_X5_years_4 o_X5_within rfl (by decide) rfl (Nat.le_of_ble_eq_true rfl) ?_
  refine J_blk a_X5_years_7 ?_
  simp only [b_X5_years_7, w_if_ne, w_nil, kd_0, kd_1, kd_2, kd_3, kd_4, kd_5, kd_6, kd_7, kd_10, kd_11, kd_12, kd_13, kd_14, kd_15, kd_16, kd_19, kd_28, kd_29, kd_30, kd_31, kd_32, kd_33, kd_34, kd_35, kd_36, kd_37, kd_38, kd_39, kd_40, kd_41, kd_42, kd_43, kd_44, kd_45, ln_2, ln_3, ln_4, ln_5, ln_6, ln_7, ln_11, ln_12, ln_13, ln_14, ln_15, ln_16, ln_29, ln_30, ln_32, ln_33, ln_34, ln_35, ln_36, ln_37, ln_38, ln_40, ln_41, ln_42, ln_43, ln_45, Option.toList_some, Option.toList_none, List.cons_append, List.nil_append, true_and, and_true, if_true, if_false, true_or, or_true, Nat.reduceAdd, Int.reduceAdd, Bool.false_eq_true, tn_0, tn_1, tn_2, tn_3, tn_4, tn_5, tn_6, tn_7, x7]
  refine ⟨fun c16 => ?_, fun c16 => ?_⟩
  · exact absurd (by grind) h
  · refine J_blk a_X5_years_10 ?_
    simp only [b_X5_years_10, w_iconst_m1, w_ireti, kd_0, kd_1, kd_2, kd_3, kd_4, kd_5, kd_6, kd_7, kd_10, kd_11, kd_12, kd_13, kd_14, kd_15, kd_16, kd_19, kd_28, kd_29, kd_30, kd_31, kd_32, kd_33, kd_34, kd_35, kd_36, kd_37, kd_38, kd_39, kd_40, kd_41, kd_42, kd_43, kd_44, kd_45, ln_2, ln_3, ln_4, ln_5, ln_6, ln_7, ln_11, ln_12, ln_13, ln_14, ln_15, ln_16, ln_29, ln_30, ln_32, ln_33, ln_34, ln_35, ln_36, ln_37, ln_38, ln_40, ln_41, ln_42, ln_43, ln_45, Option.toList_some, Option.toList_none, List.cons_append, List.nil_append, true_and, and_true, if_true, if_false, true_or, or_true, Nat.reduceAdd, Int.reduceAdd, Bool.false_eq_true, tn_0, tn_1, tn_2, tn_3, tn_4, tn_5, tn_6, tn_7, x7]
    exact ⟨rfl, rfl⟩
theorem cwinters_f (v : Int32) (M : Mm) (n : Nat) (s : Nat → Int32) (hw : WF s n) (hx : RX M 1 s n) (h : ¬ (1 ≤ v ∧ v ≤ 30)) : K 2 mX5_winters [.ref 0, .int v] M (Rt (some (.int (-1))) M) := by
  have x7 : M.1 1 7 = nI n := hx.1
  refine K_go 1 o_X5_winters [none, none, none, none] rfl (Nat.le_of_ble_eq_true rfl) ?_
  simp only [lvA_i, lvA_a, lvA_l, lvA_nil, List.cons_append, List.nil_append]
  refine J_blk a_X5_winters_0 ?_
  simp only [b_X5_winters_0, w_iload_n1, w_iconst_1, w_bipush, ci_30, w_nil, kd_0, kd_1, kd_2, kd_3, kd_4, kd_5, kd_6, kd_7, kd_10, kd_11, kd_12, kd_13, kd_14, kd_15, kd_16, kd_19, kd_28, kd_29, kd_30, kd_31, kd_32, kd_33, kd_34, kd_35, kd_36, kd_37, kd_38, kd_39, kd_40, kd_41, kd_42, kd_43, kd_44, kd_45, ln_2, ln_3, ln_4, ln_5, ln_6, ln_7, ln_11, ln_12, ln_13, ln_14, ln_15, ln_16, ln_29, ln_30, ln_32, ln_33, ln_34, ln_35, ln_36, ln_37, ln_38, ln_40, ln_41, ln_42, ln_43, ln_45, Option.toList_some, Option.toList_none, List.cons_append, List.nil_append, true_and, and_true, if_true, if_false, true_or, or_true, Nat.reduceAdd, Int.reduceAdd, Bool.false_eq_true, tn_0, tn_1, tn_2, tn_3, tn_4, tn_5, tn_6, tn_7, x7]
  refine J_callSr (within_c _ _ _ _) k_X5_winters_4 o_X5_within rfl (by decide) rfl (Nat.le_of_ble_eq_true rfl) ?_
  refine J_blk a_X5_winters_7 ?_
  simp only [b_X5_winters_7, w_if_ne, w_nil, kd_0, kd_1, kd_2, kd_3, kd_4, kd_5, kd_6, kd_7, kd_10, kd_11, kd_12, kd_13, kd_14, kd_15, kd_16, kd_19, kd_28, kd_29, kd_30, kd_31, kd_32, kd_33, kd_34, kd_35, kd_36, kd_37, kd_38, kd_39, kd_40, kd_41, kd_42, kd_43, kd_44, kd_45, ln_2, ln_3, ln_4, ln_5, ln_6, ln_7, ln_11, ln_12, ln_13, ln_14, ln_15, ln_16, ln_29, ln_30, ln_32, ln_33, ln_34, ln_35, ln_36, ln_37, ln_38, ln_40, ln_41, ln_42, ln_43, ln_45, Option.toList_some, Option.toList_none, List.cons_append, List.nil_append, true_and, and_true, if_true, if_false, true_or, or_true, Nat.reduceAdd, Int.reduceAdd, Bool.false_eq_true, tn_0, tn_1, tn_2, tn_3, tn_4, tn_5, tn_6, tn_7, x7]
  refine ⟨fun c17 => ?_, fun c17 => ?_⟩
  · exact absurd (by grind) h
  · refine J_blk a_X5_winters_10 ?_
    simp only [b_X5_winters_10, w_iconst_m1, w_ireti, kd_0, kd_1, kd_2, kd_3, kd_4, kd_5, kd_6, kd_7, kd_10, kd_11, kd_12, kd_13, kd_14, kd_15, kd_16, kd_19, kd_28, kd_29, kd_30, kd_31, kd_32, kd_33, kd_34, kd_35, kd_36, kd_37, kd_38, kd_39, kd_40, kd_41, kd_42, kd_43, kd_44, kd_45, ln_2, ln_3, ln_4, ln_5, ln_6, ln_7, ln_11, ln_12, ln_13, ln_14, ln_15, ln_16, ln_29, ln_30, ln_32, ln_33, ln_34, ln_35, ln_36, ln_37, ln_38, ln_40, ln_41, ln_42, ln_43, ln_45, Option.toList_some, Option.toList_none, List.cons_append, List.nil_append, true_and, and_true, if_true, if_false, true_or, or_true, Nat.reduceAdd, Int.reduceAdd, Bool.false_eq_true, tn_0, tn_1, tn_2, tn_3, tn_4, tn_5, tn_6, tn_7, x7]
    exact ⟨rfl, rfl⟩
theorem charvest_f (v : Int32) (M : Mm) (n : Nat) (s : Nat → Int32) (hw : WF s n) (hx : RX M 1 s n) (h : ¬ (0 ≤ v ∧ v ≤ 60)) : K 2 mX5_harvest [.ref 0, .int v] M (Rt (some (.int (-1))) M) := by
  have x7 : M.1 1 7 = nI n := hx.1
  refine K_go 1 o_X5_harvest [] rfl (Nat.le_of_ble_eq_true rfl) ?_
  simp only [lvA_i, lvA_a, lvA_l, lvA_nil, List.cons_append, List.nil_append]
  refine J_blk a_X5_harvest_0 ?_
  simp only [b_X5_harvest_0, w_iload_n1, w_iconst_0, w_bipush, ci_60, w_nil, kd_0, kd_1, kd_2, kd_3, kd_4, kd_5, kd_6, kd_7, kd_10, kd_11, kd_12, kd_13, kd_14, kd_15, kd_16, kd_19, kd_28, kd_29, kd_30, kd_31, kd_32, kd_33, kd_34, kd_35, kd_36, kd_37, kd_38, kd_39, kd_40, kd_41, kd_42, kd_43, kd_44, kd_45, ln_2, ln_3, ln_4, ln_5, ln_6, ln_7, ln_11, ln_12, ln_13, ln_14, ln_15, ln_16, ln_29, ln_30, ln_32, ln_33, ln_34, ln_35, ln_36, ln_37, ln_38, ln_40, ln_41, ln_42, ln_43, ln_45, Option.toList_some, Option.toList_none, List.cons_append, List.nil_append, true_and, and_true, if_true, if_false, true_or, or_true, Nat.reduceAdd, Int.reduceAdd, Bool.false_eq_true, tn_0, tn_1, tn_2, tn_3, tn_4, tn_5, tn_6, tn_7, x7]
  refine J_callSr (within_c _ _ _ _) k_X5_harvest_4 o_X5_within rfl (by decide) rfl (Nat.le_of_ble_eq_true rfl) ?_
  refine J_blk a_X5_harvest_7 ?_
  simp only [b_X5_harvest_7, w_if_eq, w_nil, kd_0, kd_1, kd_2, kd_3, kd_4, kd_5, kd_6, kd_7, kd_10, kd_11, kd_12, kd_13, kd_14, kd_15, kd_16, kd_19, kd_28, kd_29, kd_30, kd_31, kd_32, kd_33, kd_34, kd_35, kd_36, kd_37, kd_38, kd_39, kd_40, kd_41, kd_42, kd_43, kd_44, kd_45, ln_2, ln_3, ln_4, ln_5, ln_6, ln_7, ln_11, ln_12, ln_13, ln_14, ln_15, ln_16, ln_29, ln_30, ln_32, ln_33, ln_34, ln_35, ln_36, ln_37, ln_38, ln_40, ln_41, ln_42, ln_43, ln_45, Option.toList_some, Option.toList_none, List.cons_append, List.nil_append, true_and, and_true, if_true, if_false, true_or, or_true, Nat.reduceAdd, Int.reduceAdd, Bool.false_eq_true, tn_0, tn_1, tn_2, tn_3, tn_4, tn_5, tn_6, tn_7, x7]
  refine ⟨fun c18 => ?_, fun c18 => ?_⟩
  · refine J_blk a_X5_harvest_21 ?_
    simp only [b_X5_harvest_21, w_iconst_m1, w_nil, kd_0, kd_1, kd_2, kd_3, kd_4, kd_5, kd_6, kd_7, kd_10, kd_11, kd_12, kd_13, kd_14, kd_15, kd_16, kd_19, kd_28, kd_29, kd_30, kd_31, kd_32, kd_33, kd_34, kd_35, kd_36, kd_37, kd_38, kd_39, kd_40, kd_41, kd_42, kd_43, kd_44, kd_45, ln_2, ln_3, ln_4, ln_5, ln_6, ln_7, ln_11, ln_12, ln_13, ln_14, ln_15, ln_16, ln_29, ln_30, ln_32, ln_33, ln_34, ln_35, ln_36, ln_37, ln_38, ln_40, ln_41, ln_42, ln_43, ln_45, Option.toList_some, Option.toList_none, List.cons_append, List.nil_append, true_and, and_true, if_true, if_false, true_or, or_true, Nat.reduceAdd, Int.reduceAdd, Bool.false_eq_true, tn_0, tn_1, tn_2, tn_3, tn_4, tn_5, tn_6, tn_7, x7]
    refine J_blk a_X5_harvest_22 ?_
    simp only [b_X5_harvest_22, w_ireti, kd_0, kd_1, kd_2, kd_3, kd_4, kd_5, kd_6, kd_7, kd_10, kd_11, kd_12, kd_13, kd_14, kd_15, kd_16, kd_19, kd_28, kd_29, kd_30, kd_31, kd_32, kd_33, kd_34, kd_35, kd_36, kd_37, kd_38, kd_39, kd_40, kd_41, kd_42, kd_43, kd_44, kd_45, ln_2, ln_3, ln_4, ln_5, ln_6, ln_7, ln_11, ln_12, ln_13, ln_14, ln_15, ln_16, ln_29, ln_30, ln_32, ln_33, ln_34, ln_35, ln_36, ln_37, ln_38, ln_40, ln_41, ln_42, ln_43, ln_45, Option.toList_some, Option.toList_none, List.cons_append, List.nil_append, true_and, and_true, if_true, if_false, true_or, or_true, Nat.reduceAdd, Int.reduceAdd, Bool.false_eq_true, tn_0, tn_1, tn_2, tn_3, tn_4, tn_5, tn_6, tn_7, x7]
    exact ⟨rfl, rfl⟩
  · exact absurd (by grind) h
theorem cripe_f (o : Int32) (M : Mm) (n : Nat) (s : Nat → Int32) (hw : WF s n) (hx : RX M 1 s n) (h : ¬ (0 ≤ o ∧ o < nI n)) : K 2 mX5_ripe [.ref 0, .int o] M (Rt (some (.int (-1))) M) := by
  have x7 : M.1 1 7 = nI n := hx.1
  refine K_go 1 o_X5_ripe [none] rfl (Nat.le_of_ble_eq_true rfl) ?_
  simp only [lvA_i, lvA_a, lvA_l, lvA_nil, List.cons_append, List.nil_append]
  refine J_blk a_X5_ripe_0 ?_
  simp only [b_X5_ripe_0, w_aload_n0, w_getf5, ne0_1, w_iload_n1, w_nil, kd_0, kd_1, kd_2, kd_3, kd_4, kd_5, kd_6, kd_7, kd_10, kd_11, kd_12, kd_13, kd_14, kd_15, kd_16, kd_19, kd_28, kd_29, kd_30, kd_31, kd_32, kd_33, kd_34, kd_35, kd_36, kd_37, kd_38, kd_39, kd_40, kd_41, kd_42, kd_43, kd_44, kd_45, ln_2, ln_3, ln_4, ln_5, ln_6, ln_7, ln_11, ln_12, ln_13, ln_14, ln_15, ln_16, ln_29, ln_30, ln_32, ln_33, ln_34, ln_35, ln_36, ln_37, ln_38, ln_40, ln_41, ln_42, ln_43, ln_45, Option.toList_some, Option.toList_none, List.cons_append, List.nil_append, true_and, and_true, if_true, if_false, true_or, or_true, Nat.reduceAdd, Int.reduceAdd, Bool.false_eq_true, tn_0, tn_1, tn_2, tn_3, tn_4, tn_5, tn_6, tn_7, x7]
  refine J_callVr (ci := 4) (has2 hw hx (Or.inl rfl) _) k_X5_ripe_5 o_X4_has (rfl) rfl rfl rfl (by decide) rfl (Nat.le_of_ble_eq_true rfl) ?_
  refine J_blk a_X5_ripe_8 ?_
  simp only [b_X5_ripe_8, w_if_ne, w_nil, kd_0, kd_1, kd_2, kd_3, kd_4, kd_5, kd_6, kd_7, kd_10, kd_11, kd_12, kd_13, kd_14, kd_15, kd_16, kd_19, kd_28, kd_29, kd_30, kd_31, kd_32, kd_33, kd_34, kd_35, kd_36, kd_37, kd_38, kd_39, kd_40, kd_41, kd_42, kd_43, kd_44, kd_45, ln_2, ln_3, ln_4, ln_5, ln_6, ln_7, ln_11, ln_12, ln_13, ln_14, ln_15, ln_16, ln_29, ln_30, ln_32, ln_33, ln_34, ln_35, ln_36, ln_37, ln_38, ln_40, ln_41, ln_42, ln_43, ln_45, Option.toList_some, Option.toList_none, List.cons_append, List.nil_append, true_and, and_true, if_true, if_false, true_or, or_true, Nat.reduceAdd, Int.reduceAdd, Bool.false_eq_true, tn_0, tn_1, tn_2, tn_3, tn_4, tn_5, tn_6, tn_7, x7]
  refine ⟨fun c19 => ?_, fun c19 => ?_⟩
  · exact absurd (by grind) h
  · refine J_blk a_X5_ripe_11 ?_
    simp only [b_X5_ripe_11, w_iconst_m1, w_ireti, kd_0, kd_1, kd_2, kd_3, kd_4, kd_5, kd_6, kd_7, kd_10, kd_11, kd_12, kd_13, kd_14, kd_15, kd_16, kd_19, kd_28, kd_29, kd_30, kd_31, kd_32, kd_33, kd_34, kd_35, kd_36, kd_37, kd_38, kd_39, kd_40, kd_41, kd_42, kd_43, kd_44, kd_45, ln_2, ln_3, ln_4, ln_5, ln_6, ln_7, ln_11, ln_12, ln_13, ln_14, ln_15, ln_16, ln_29, ln_30, ln_32, ln_33, ln_34, ln_35, ln_36, ln_37, ln_38, ln_40, ln_41, ln_42, ln_43, ln_45, Option.toList_some, Option.toList_none, List.cons_append, List.nil_append, true_and, and_true, if_true, if_false, true_or, or_true, Nat.reduceAdd, Int.reduceAdd, Bool.false_eq_true, tn_0, tn_1, tn_2, tn_3, tn_4, tn_5, tn_6, tn_7, x7]
    exact ⟨rfl, rfl⟩
theorem ccutFor_f (v : Int32) (M : Mm) (n : Nat) (s : Nat → Int32) (hw : WF s n) (hx : RX M 1 s n) (h : ¬ (1 ≤ v ∧ v ≤ 20)) : K 2 mX5_cutFor [.ref 0, .int v] M (Rt (some (.int (-1))) M) := by
  have x7 : M.1 1 7 = nI n := hx.1
  refine K_go 1 o_X5_cutFor [none, none, none, none, none] rfl (Nat.le_of_ble_eq_true rfl) ?_
  simp only [lvA_i, lvA_a, lvA_l, lvA_nil, List.cons_append, List.nil_append]
  refine J_blk a_X5_cutFor_0 ?_
  simp only [b_X5_cutFor_0, w_iload_n1, w_iconst_1, w_bipush, ci_20, w_nil, kd_0, kd_1, kd_2, kd_3, kd_4, kd_5, kd_6, kd_7, kd_10, kd_11, kd_12, kd_13, kd_14, kd_15, kd_16, kd_19, kd_28, kd_29, kd_30, kd_31, kd_32, kd_33, kd_34, kd_35, kd_36, kd_37, kd_38, kd_39, kd_40, kd_41, kd_42, kd_43, kd_44, kd_45, ln_2, ln_3, ln_4, ln_5, ln_6, ln_7, ln_11, ln_12, ln_13, ln_14, ln_15, ln_16, ln_29, ln_30, ln_32, ln_33, ln_34, ln_35, ln_36, ln_37, ln_38, ln_40, ln_41, ln_42, ln_43, ln_45, Option.toList_some, Option.toList_none, List.cons_append, List.nil_append, true_and, and_true, if_true, if_false, true_or, or_true, Nat.reduceAdd, Int.reduceAdd, Bool.false_eq_true, tn_0, tn_1, tn_2, tn_3, tn_4, tn_5, tn_6, tn_7, x7]
  refine J_callSr (within_c _ _ _ _) k_X5_cutFor_4 o_X5_within rfl (by decide) rfl (Nat.le_of_ble_eq_true rfl) ?_
  refine J_blk a_X5_cutFor_7 ?_
  simp only [b_X5_cutFor_7, w_if_ne, w_nil, kd_0, kd_1, kd_2, kd_3, kd_4, kd_5, kd_6, kd_7, kd_10, kd_11, kd_12, kd_13, kd_14, kd_15, kd_16, kd_19, kd_28, kd_29, kd_30, kd_31, kd_32, kd_33, kd_34, kd_35, kd_36, kd_37, kd_38, kd_39, kd_40, kd_41, kd_42, kd_43, kd_44, kd_45, ln_2, ln_3, ln_4, ln_5, ln_6, ln_7, ln_11, ln_12, ln_13, ln_14, ln_15, ln_16, ln_29, ln_30, ln_32, ln_33, ln_34, ln_35, ln_36, ln_37, ln_38, ln_40, ln_41, ln_42, ln_43, ln_45, Option.toList_some, Option.toList_none, List.cons_append, List.nil_append, true_and, and_true, if_true, if_false, true_or, or_true, Nat.reduceAdd, Int.reduceAdd, Bool.false_eq_true, tn_0, tn_1, tn_2, tn_3, tn_4, tn_5, tn_6, tn_7, x7]
  refine ⟨fun c20 => ?_, fun c20 => ?_⟩
  · exact absurd (by grind) h
  · refine J_blk a_X5_cutFor_10 ?_
    simp only [b_X5_cutFor_10, w_iconst_m1, w_ireti, kd_0, kd_1, kd_2, kd_3, kd_4, kd_5, kd_6, kd_7, kd_10, kd_11, kd_12, kd_13, kd_14, kd_15, kd_16, kd_19, kd_28, kd_29, kd_30, kd_31, kd_32, kd_33, kd_34, kd_35, kd_36, kd_37, kd_38, kd_39, kd_40, kd_41, kd_42, kd_43, kd_44, kd_45, ln_2, ln_3, ln_4, ln_5, ln_6, ln_7, ln_11, ln_12, ln_13, ln_14, ln_15, ln_16, ln_29, ln_30, ln_32, ln_33, ln_34, ln_35, ln_36, ln_37, ln_38, ln_40, ln_41, ln_42, ln_43, ln_45, Option.toList_some, Option.toList_none, List.cons_append, List.nil_append, true_and, and_true, if_true, if_false, true_or, or_true, Nat.reduceAdd, Int.reduceAdd, Bool.false_eq_true, tn_0, tn_1, tn_2, tn_3, tn_4, tn_5, tn_6, tn_7, x7]
    exact ⟨rfl, rfl⟩
theorem ccutsFor_f (v : Int32) (M : Mm) (n : Nat) (s : Nat → Int32) (hw : WF s n) (hx : RX M 1 s n) (h : ¬ (1 ≤ v ∧ v ≤ 10)) : K 2 mX5_cutsFor [.ref 0, .int v] M (Rt (some (.int (-1))) M) := by
  have x7 : M.1 1 7 = nI n := hx.1
  refine K_go 1 o_X5_cutsFor [none, none, none, none, none] rfl (Nat.le_of_ble_eq_true rfl) ?_
  simp only [lvA_i, lvA_a, lvA_l, lvA_nil, List.cons_append, List.nil_append]
  refine J_blk a_X5_cutsFor_0 ?_
  simp only [b_X5_cutsFor_0, w_iload_n1, w_iconst_1, w_bipush, ci_10, w_nil, kd_0, kd_1, kd_2, kd_3, kd_4, kd_5, kd_6, kd_7, kd_10, kd_11, kd_12, kd_13, kd_14, kd_15, kd_16, kd_19, kd_28, kd_29, kd_30, kd_31, kd_32, kd_33, kd_34, kd_35, kd_36, kd_37, kd_38, kd_39, kd_40, kd_41, kd_42, kd_43, kd_44, kd_45, ln_2, ln_3, ln_4, ln_5, ln_6, ln_7, ln_11, ln_12, ln_13, ln_14, ln_15, ln_16, ln_29, ln_30, ln_32, ln_33, ln_34, ln_35, ln_36, ln_37, ln_38, ln_40, ln_41, ln_42, ln_43, ln_45, Option.toList_some, Option.toList_none, List.cons_append, List.nil_append, true_and, and_true, if_true, if_false, true_or, or_true, Nat.reduceAdd, Int.reduceAdd, Bool.false_eq_true, tn_0, tn_1, tn_2, tn_3, tn_4, tn_5, tn_6, tn_7, x7]
  refine J_callSr (within_c _ _ _ _) k_X5_cutsFor_4 o_X5_within rfl (by decide) rfl (Nat.le_of_ble_eq_true rfl) ?_
  refine J_blk a_X5_cutsFor_7 ?_
  simp only [b_X5_cutsFor_7, w_if_ne, w_nil, kd_0, kd_1, kd_2, kd_3, kd_4, kd_5, kd_6, kd_7, kd_10, kd_11, kd_12, kd_13, kd_14, kd_15, kd_16, kd_19, kd_28, kd_29, kd_30, kd_31, kd_32, kd_33, kd_34, kd_35, kd_36, kd_37, kd_38, kd_39, kd_40, kd_41, kd_42, kd_43, kd_44, kd_45, ln_2, ln_3, ln_4, ln_5, ln_6, ln_7, ln_11, ln_12, ln_13, ln_14, ln_15, ln_16, ln_29, ln_30, ln_32, ln_33, ln_34, ln_35, ln_36, ln_37, ln_38, ln_40, ln_41, ln_42, ln_43, ln_45, Option.toList_some, Option.toList_none, List.cons_append, List.nil_append, true_and, and_true, if_true, if_false, true_or, or_true, Nat.reduceAdd, Int.reduceAdd, Bool.false_eq_true, tn_0, tn_1, tn_2, tn_3, tn_4, tn_5, tn_6, tn_7, x7]
  refine ⟨fun c21 => ?_, fun c21 => ?_⟩
  · exact absurd (by grind) h
  · refine J_blk a_X5_cutsFor_10 ?_
    simp only [b_X5_cutsFor_10, w_iconst_m1, w_ireti, kd_0, kd_1, kd_2, kd_3, kd_4, kd_5, kd_6, kd_7, kd_10, kd_11, kd_12, kd_13, kd_14, kd_15, kd_16, kd_19, kd_28, kd_29, kd_30, kd_31, kd_32, kd_33, kd_34, kd_35, kd_36, kd_37, kd_38, kd_39, kd_40, kd_41, kd_42, kd_43, kd_44, kd_45, ln_2, ln_3, ln_4, ln_5, ln_6, ln_7, ln_11, ln_12, ln_13, ln_14, ln_15, ln_16, ln_29, ln_30, ln_32, ln_33, ln_34, ln_35, ln_36, ln_37, ln_38, ln_40, ln_41, ln_42, ln_43, ln_45, Option.toList_some, Option.toList_none, List.cons_append, List.nil_append, true_and, and_true, if_true, if_false, true_or, or_true, Nat.reduceAdd, Int.reduceAdd, Bool.false_eq_true, tn_0, tn_1, tn_2, tn_3, tn_4, tn_5, tn_6, tn_7, x7]
    exact ⟨rfl, rfl⟩
theorem ckindFor_f (o v : Int32) (M : Mm) (n : Nat) (s : Nat → Int32) (hw : WF s n) (hx : RX M 1 s n) (h : ¬ ((0 ≤ o ∧ o < nI n) ∧ (1 ≤ v ∧ v ≤ 20))) : K 2 mX5_kindFor [.ref 0, .int o, .int v] M (Rt (some (.int (-1))) M) := by
  have x7 : M.1 1 7 = nI n := hx.1
  refine K_go 2 o_X5_kindFor [none, none, none, none] rfl (Nat.le_of_ble_eq_true rfl) ?_
  simp only [lvA_i, lvA_a, lvA_l, lvA_nil, List.cons_append, List.nil_append]
  refine J_blk a_X5_kindFor_0 ?_
  simp only [b_X5_kindFor_0, w_aload_n0, w_getf5, ne0_1, w_iload_n1, w_nil, kd_0, kd_1, kd_2, kd_3, kd_4, kd_5, kd_6, kd_7, kd_10, kd_11, kd_12, kd_13, kd_14, kd_15, kd_16, kd_19, kd_28, kd_29, kd_30, kd_31, kd_32, kd_33, kd_34, kd_35, kd_36, kd_37, kd_38, kd_39, kd_40, kd_41, kd_42, kd_43, kd_44, kd_45, ln_2, ln_3, ln_4, ln_5, ln_6, ln_7, ln_11, ln_12, ln_13, ln_14, ln_15, ln_16, ln_29, ln_30, ln_32, ln_33, ln_34, ln_35, ln_36, ln_37, ln_38, ln_40, ln_41, ln_42, ln_43, ln_45, Option.toList_some, Option.toList_none, List.cons_append, List.nil_append, true_and, and_true, if_true, if_false, true_or, or_true, Nat.reduceAdd, Int.reduceAdd, Bool.false_eq_true, tn_0, tn_1, tn_2, tn_3, tn_4, tn_5, tn_6, tn_7, x7]
  refine J_callVr (ci := 4) (has2 hw hx (Or.inl rfl) _) k_X5_kindFor_5 o_X4_has (rfl) rfl rfl rfl (by decide) rfl (Nat.le_of_ble_eq_true rfl) ?_
  refine J_blk a_X5_kindFor_8 ?_
  simp only [b_X5_kindFor_8, w_if_eq, w_nil, kd_0, kd_1, kd_2, kd_3, kd_4, kd_5, kd_6, kd_7, kd_10, kd_11, kd_12, kd_13, kd_14, kd_15, kd_16, kd_19, kd_28, kd_29, kd_30, kd_31, kd_32, kd_33, kd_34, kd_35, kd_36, kd_37, kd_38, kd_39, kd_40, kd_41, kd_42, kd_43, kd_44, kd_45, ln_2, ln_3, ln_4, ln_5, ln_6, ln_7, ln_11, ln_12, ln_13, ln_14, ln_15, ln_16, ln_29, ln_30, ln_32, ln_33, ln_34, ln_35, ln_36, ln_37, ln_38, ln_40, ln_41, ln_42, ln_43, ln_45, Option.toList_some, Option.toList_none, List.cons_append, List.nil_append, true_and, and_true, if_true, if_false, true_or, or_true, Nat.reduceAdd, Int.reduceAdd, Bool.false_eq_true, tn_0, tn_1, tn_2, tn_3, tn_4, tn_5, tn_6, tn_7, x7]
  refine ⟨fun c22 => ?_, fun c22 => ?_⟩
  · refine J_blk a_X5_kindFor_21 ?_
    simp only [b_X5_kindFor_21, w_iconst_m1, w_ireti, kd_0, kd_1, kd_2, kd_3, kd_4, kd_5, kd_6, kd_7, kd_10, kd_11, kd_12, kd_13, kd_14, kd_15, kd_16, kd_19, kd_28, kd_29, kd_30, kd_31, kd_32, kd_33, kd_34, kd_35, kd_36, kd_37, kd_38, kd_39, kd_40, kd_41, kd_42, kd_43, kd_44, kd_45, ln_2, ln_3, ln_4, ln_5, ln_6, ln_7, ln_11, ln_12, ln_13, ln_14, ln_15, ln_16, ln_29, ln_30, ln_32, ln_33, ln_34, ln_35, ln_36, ln_37, ln_38, ln_40, ln_41, ln_42, ln_43, ln_45, Option.toList_some, Option.toList_none, List.cons_append, List.nil_append, true_and, and_true, if_true, if_false, true_or, or_true, Nat.reduceAdd, Int.reduceAdd, Bool.false_eq_true, tn_0, tn_1, tn_2, tn_3, tn_4, tn_5, tn_6, tn_7, x7]
    exact ⟨rfl, rfl⟩
  · refine J_blk a_X5_kindFor_11 ?_
    simp only [b_X5_kindFor_11, w_iload_n2, w_iconst_1, w_bipush, ci_20, w_nil, kd_0, kd_1, kd_2, kd_3, kd_4, kd_5, kd_6, kd_7, kd_10, kd_11, kd_12, kd_13, kd_14, kd_15, kd_16, kd_19, kd_28, kd_29, kd_30, kd_31, kd_32, kd_33, kd_34, kd_35, kd_36, kd_37, kd_38, kd_39, kd_40, kd_41, kd_42, kd_43, kd_44, kd_45, ln_2, ln_3, ln_4, ln_5, ln_6, ln_7, ln_11, ln_12, ln_13, ln_14, ln_15, ln_16, ln_29, ln_30, ln_32, ln_33, ln_34, ln_35, ln_36, ln_37, ln_38, ln_40, ln_41, ln_42, ln_43, ln_45, Option.toList_some, Option.toList_none, List.cons_append, List.nil_append, true_and, and_true, if_true, if_false, true_or, or_true, Nat.reduceAdd, Int.reduceAdd, Bool.false_eq_true, tn_0, tn_1, tn_2, tn_3, tn_4, tn_5, tn_6, tn_7, x7]
    refine J_callSr (within_c _ _ _ _) k_X5_kindFor_15 o_X5_within rfl (by decide) rfl (Nat.le_of_ble_eq_true rfl) ?_
    refine J_blk a_X5_kindFor_18 ?_
    simp only [b_X5_kindFor_18, w_if_ne, w_nil, kd_0, kd_1, kd_2, kd_3, kd_4, kd_5, kd_6, kd_7, kd_10, kd_11, kd_12, kd_13, kd_14, kd_15, kd_16, kd_19, kd_28, kd_29, kd_30, kd_31, kd_32, kd_33, kd_34, kd_35, kd_36, kd_37, kd_38, kd_39, kd_40, kd_41, kd_42, kd_43, kd_44, kd_45, ln_2, ln_3, ln_4, ln_5, ln_6, ln_7, ln_11, ln_12, ln_13, ln_14, ln_15, ln_16, ln_29, ln_30, ln_32, ln_33, ln_34, ln_35, ln_36, ln_37, ln_38, ln_40, ln_41, ln_42, ln_43, ln_45, Option.toList_some, Option.toList_none, List.cons_append, List.nil_append, true_and, and_true, if_true, if_false, true_or, or_true, Nat.reduceAdd, Int.reduceAdd, Bool.false_eq_true, tn_0, tn_1, tn_2, tn_3, tn_4, tn_5, tn_6, tn_7, x7]
    refine ⟨fun c23 => ?_, fun c23 => ?_⟩
    · exact absurd (by grind) h
    · refine J_blk a_X5_kindFor_21 ?_
      simp only [b_X5_kindFor_21, w_iconst_m1, w_ireti, kd_0, kd_1, kd_2, kd_3, kd_4, kd_5, kd_6, kd_7, kd_10, kd_11, kd_12, kd_13, kd_14, kd_15, kd_16, kd_19, kd_28, kd_29, kd_30, kd_31, kd_32, kd_33, kd_34, kd_35, kd_36, kd_37, kd_38, kd_39, kd_40, kd_41, kd_42, kd_43, kd_44, kd_45, ln_2, ln_3, ln_4, ln_5, ln_6, ln_7, ln_11, ln_12, ln_13, ln_14, ln_15, ln_16, ln_29, ln_30, ln_32, ln_33, ln_34, ln_35, ln_36, ln_37, ln_38, ln_40, ln_41, ln_42, ln_43, ln_45, Option.toList_some, Option.toList_none, List.cons_append, List.nil_append, true_and, and_true, if_true, if_false, true_or, or_true, Nat.reduceAdd, Int.reduceAdd, Bool.false_eq_true, tn_0, tn_1, tn_2, tn_3, tn_4, tn_5, tn_6, tn_7, x7]
      exact ⟨rfl, rfl⟩
theorem cforceFor_f (o v w : Int32) (M : Mm) (n : Nat) (s : Nat → Int32) (hw : WF s n) (hx : RX M 1 s n) (h : ¬ ((0 ≤ o ∧ o < nI n) ∧ (1 ≤ v ∧ v ≤ 20) ∧ (0 ≤ w ∧ w ≤ 9999))) : K 2 mX5_forceFor [.ref 0, .int o, .int v, .int w] M (Rt (some (.int (-1))) M) := by
  have x7 : M.1 1 7 = nI n := hx.1
  refine K_go 3 o_X5_forceFor [none] rfl (Nat.le_of_ble_eq_true rfl) ?_
  simp only [lvA_i, lvA_a, lvA_l, lvA_nil, List.cons_append, List.nil_append]
  refine J_blk a_X5_forceFor_0 ?_
  simp only [b_X5_forceFor_0, w_aload_n0, w_getf5, ne0_1, w_iload_n1, w_nil, kd_0, kd_1, kd_2, kd_3, kd_4, kd_5, kd_6, kd_7, kd_10, kd_11, kd_12, kd_13, kd_14, kd_15, kd_16, kd_19, kd_28, kd_29, kd_30, kd_31, kd_32, kd_33, kd_34, kd_35, kd_36, kd_37, kd_38, kd_39, kd_40, kd_41, kd_42, kd_43, kd_44, kd_45, ln_2, ln_3, ln_4, ln_5, ln_6, ln_7, ln_11, ln_12, ln_13, ln_14, ln_15, ln_16, ln_29, ln_30, ln_32, ln_33, ln_34, ln_35, ln_36, ln_37, ln_38, ln_40, ln_41, ln_42, ln_43, ln_45, Option.toList_some, Option.toList_none, List.cons_append, List.nil_append, true_and, and_true, if_true, if_false, true_or, or_true, Nat.reduceAdd, Int.reduceAdd, Bool.false_eq_true, tn_0, tn_1, tn_2, tn_3, tn_4, tn_5, tn_6, tn_7, x7]
  refine J_callVr (ci := 4) (has2 hw hx (Or.inl rfl) _) k_X5_forceFor_5 o_X4_has (rfl) rfl rfl rfl (by decide) rfl (Nat.le_of_ble_eq_true rfl) ?_
  refine J_blk a_X5_forceFor_8 ?_
  simp only [b_X5_forceFor_8, w_if_eq, w_nil, kd_0, kd_1, kd_2, kd_3, kd_4, kd_5, kd_6, kd_7, kd_10, kd_11, kd_12, kd_13, kd_14, kd_15, kd_16, kd_19, kd_28, kd_29, kd_30, kd_31, kd_32, kd_33, kd_34, kd_35, kd_36, kd_37, kd_38, kd_39, kd_40, kd_41, kd_42, kd_43, kd_44, kd_45, ln_2, ln_3, ln_4, ln_5, ln_6, ln_7, ln_11, ln_12, ln_13, ln_14, ln_15, ln_16, ln_29, ln_30, ln_32, ln_33, ln_34, ln_35, ln_36, ln_37, ln_38, ln_40, ln_41, ln_42, ln_43, ln_45, Option.toList_some, Option.toList_none, List.cons_append, List.nil_append, true_and, and_true, if_true, if_false, true_or, or_true, Nat.reduceAdd, Int.reduceAdd, Bool.false_eq_true, tn_0, tn_1, tn_2, tn_3, tn_4, tn_5, tn_6, tn_7, x7]
  refine ⟨fun c24 => ?_, fun c24 => ?_⟩
  · refine J_blk a_X5_forceFor_32 ?_
    simp only [b_X5_forceFor_32, w_iconst_m1, w_ireti, kd_0, kd_1, kd_2, kd_3, kd_4, kd_5, kd_6, kd_7, kd_10, kd_11, kd_12, kd_13, kd_14, kd_15, kd_16, kd_19, kd_28, kd_29, kd_30, kd_31, kd_32, kd_33, kd_34, kd_35, kd_36, kd_37, kd_38, kd_39, kd_40, kd_41, kd_42, kd_43, kd_44, kd_45, ln_2, ln_3, ln_4, ln_5, ln_6, ln_7, ln_11, ln_12, ln_13, ln_14, ln_15, ln_16, ln_29, ln_30, ln_32, ln_33, ln_34, ln_35, ln_36, ln_37, ln_38, ln_40, ln_41, ln_42, ln_43, ln_45, Option.toList_some, Option.toList_none, List.cons_append, List.nil_append, true_and, and_true, if_true, if_false, true_or, or_true, Nat.reduceAdd, Int.reduceAdd, Bool.false_eq_true, tn_0, tn_1, tn_2, tn_3, tn_4, tn_5, tn_6, tn_7, x7]
    exact ⟨rfl, rfl⟩
  · refine J_blk a_X5_forceFor_11 ?_
    simp only [b_X5_forceFor_11, w_iload_n2, w_iconst_1, w_bipush, ci_20, w_nil, kd_0, kd_1, kd_2, kd_3, kd_4, kd_5, kd_6, kd_7, kd_10, kd_11, kd_12, kd_13, kd_14, kd_15, kd_16, kd_19, kd_28, kd_29, kd_30, kd_31, kd_32, kd_33, kd_34, kd_35, kd_36, kd_37, kd_38, kd_39, kd_40, kd_41, kd_42, kd_43, kd_44, kd_45, ln_2, ln_3, ln_4, ln_5, ln_6, ln_7, ln_11, ln_12, ln_13, ln_14, ln_15, ln_16, ln_29, ln_30, ln_32, ln_33, ln_34, ln_35, ln_36, ln_37, ln_38, ln_40, ln_41, ln_42, ln_43, ln_45, Option.toList_some, Option.toList_none, List.cons_append, List.nil_append, true_and, and_true, if_true, if_false, true_or, or_true, Nat.reduceAdd, Int.reduceAdd, Bool.false_eq_true, tn_0, tn_1, tn_2, tn_3, tn_4, tn_5, tn_6, tn_7, x7]
    refine J_callSr (within_c _ _ _ _) k_X5_forceFor_15 o_X5_within rfl (by decide) rfl (Nat.le_of_ble_eq_true rfl) ?_
    refine J_blk a_X5_forceFor_18 ?_
    simp only [b_X5_forceFor_18, w_if_eq, w_nil, kd_0, kd_1, kd_2, kd_3, kd_4, kd_5, kd_6, kd_7, kd_10, kd_11, kd_12, kd_13, kd_14, kd_15, kd_16, kd_19, kd_28, kd_29, kd_30, kd_31, kd_32, kd_33, kd_34, kd_35, kd_36, kd_37, kd_38, kd_39, kd_40, kd_41, kd_42, kd_43, kd_44, kd_45, ln_2, ln_3, ln_4, ln_5, ln_6, ln_7, ln_11, ln_12, ln_13, ln_14, ln_15, ln_16, ln_29, ln_30, ln_32, ln_33, ln_34, ln_35, ln_36, ln_37, ln_38, ln_40, ln_41, ln_42, ln_43, ln_45, Option.toList_some, Option.toList_none, List.cons_append, List.nil_append, true_and, and_true, if_true, if_false, true_or, or_true, Nat.reduceAdd, Int.reduceAdd, Bool.false_eq_true, tn_0, tn_1, tn_2, tn_3, tn_4, tn_5, tn_6, tn_7, x7]
    refine ⟨fun c25 => ?_, fun c25 => ?_⟩
    · refine J_blk a_X5_forceFor_32 ?_
      simp only [b_X5_forceFor_32, w_iconst_m1, w_ireti, kd_0, kd_1, kd_2, kd_3, kd_4, kd_5, kd_6, kd_7, kd_10, kd_11, kd_12, kd_13, kd_14, kd_15, kd_16, kd_19, kd_28, kd_29, kd_30, kd_31, kd_32, kd_33, kd_34, kd_35, kd_36, kd_37, kd_38, kd_39, kd_40, kd_41, kd_42, kd_43, kd_44, kd_45, ln_2, ln_3, ln_4, ln_5, ln_6, ln_7, ln_11, ln_12, ln_13, ln_14, ln_15, ln_16, ln_29, ln_30, ln_32, ln_33, ln_34, ln_35, ln_36, ln_37, ln_38, ln_40, ln_41, ln_42, ln_43, ln_45, Option.toList_some, Option.toList_none, List.cons_append, List.nil_append, true_and, and_true, if_true, if_false, true_or, or_true, Nat.reduceAdd, Int.reduceAdd, Bool.false_eq_true, tn_0, tn_1, tn_2, tn_3, tn_4, tn_5, tn_6, tn_7, x7]
      exact ⟨rfl, rfl⟩
    · refine J_blk a_X5_forceFor_21 ?_
      simp only [b_X5_forceFor_21, w_iload_n3, w_iconst_0, w_sipush, ci_9999, w_nil, kd_0, kd_1, kd_2, kd_3, kd_4, kd_5, kd_6, kd_7, kd_10, kd_11, kd_12, kd_13, kd_14, kd_15, kd_16, kd_19, kd_28, kd_29, kd_30, kd_31, kd_32, kd_33, kd_34, kd_35, kd_36, kd_37, kd_38, kd_39, kd_40, kd_41, kd_42, kd_43, kd_44, kd_45, ln_2, ln_3, ln_4, ln_5, ln_6, ln_7, ln_11, ln_12, ln_13, ln_14, ln_15, ln_16, ln_29, ln_30, ln_32, ln_33, ln_34, ln_35, ln_36, ln_37, ln_38, ln_40, ln_41, ln_42, ln_43, ln_45, Option.toList_some, Option.toList_none, List.cons_append, List.nil_append, true_and, and_true, if_true, if_false, true_or, or_true, Nat.reduceAdd, Int.reduceAdd, Bool.false_eq_true, tn_0, tn_1, tn_2, tn_3, tn_4, tn_5, tn_6, tn_7, x7]
      refine J_callSr (within_c _ _ _ _) k_X5_forceFor_26 o_X5_within rfl (by decide) rfl (Nat.le_of_ble_eq_true rfl) ?_
      refine J_blk a_X5_forceFor_29 ?_
      simp only [b_X5_forceFor_29, w_if_ne, w_nil, kd_0, kd_1, kd_2, kd_3, kd_4, kd_5, kd_6, kd_7, kd_10, kd_11, kd_12, kd_13, kd_14, kd_15, kd_16, kd_19, kd_28, kd_29, kd_30, kd_31, kd_32, kd_33, kd_34, kd_35, kd_36, kd_37, kd_38, kd_39, kd_40, kd_41, kd_42, kd_43, kd_44, kd_45, ln_2, ln_3, ln_4, ln_5, ln_6, ln_7, ln_11, ln_12, ln_13, ln_14, ln_15, ln_16, ln_29, ln_30, ln_32, ln_33, ln_34, ln_35, ln_36, ln_37, ln_38, ln_40, ln_41, ln_42, ln_43, ln_45, Option.toList_some, Option.toList_none, List.cons_append, List.nil_append, true_and, and_true, if_true, if_false, true_or, or_true, Nat.reduceAdd, Int.reduceAdd, Bool.false_eq_true, tn_0, tn_1, tn_2, tn_3, tn_4, tn_5, tn_6, tn_7, x7]
      refine ⟨fun c26 => ?_, fun c26 => ?_⟩
      · exact absurd (by grind) h
      · refine J_blk a_X5_forceFor_32 ?_
        simp only [b_X5_forceFor_32, w_iconst_m1, w_ireti, kd_0, kd_1, kd_2, kd_3, kd_4, kd_5, kd_6, kd_7, kd_10, kd_11, kd_12, kd_13, kd_14, kd_15, kd_16, kd_19, kd_28, kd_29, kd_30, kd_31, kd_32, kd_33, kd_34, kd_35, kd_36, kd_37, kd_38, kd_39, kd_40, kd_41, kd_42, kd_43, kd_44, kd_45, ln_2, ln_3, ln_4, ln_5, ln_6, ln_7, ln_11, ln_12, ln_13, ln_14, ln_15, ln_16, ln_29, ln_30, ln_32, ln_33, ln_34, ln_35, ln_36, ln_37, ln_38, ln_40, ln_41, ln_42, ln_43, ln_45, Option.toList_some, Option.toList_none, List.cons_append, List.nil_append, true_and, and_true, if_true, if_false, true_or, or_true, Nat.reduceAdd, Int.reduceAdd, Bool.false_eq_true, tn_0, tn_1, tn_2, tn_3, tn_4, tn_5, tn_6, tn_7, x7]
        exact ⟨rfl, rfl⟩
theorem cregret_f (o v : Int32) (M : Mm) (n : Nat) (s : Nat → Int32) (hw : WF s n) (hx : RX M 1 s n) (h : ¬ ((0 ≤ o ∧ o < nI n) ∧ (1 ≤ v ∧ v ≤ 20))) : K 2 mX5_regret [.ref 0, .int o, .int v] M (Rt (some (.int (-1))) M) := by
  have x7 : M.1 1 7 = nI n := hx.1
  refine K_go 2 o_X5_regret [none] rfl (Nat.le_of_ble_eq_true rfl) ?_
  simp only [lvA_i, lvA_a, lvA_l, lvA_nil, List.cons_append, List.nil_append]
  refine J_blk a_X5_regret_0 ?_
  simp only [b_X5_regret_0, w_aload_n0, w_getf5, ne0_1, w_iload_n1, w_nil, kd_0, kd_1, kd_2, kd_3, kd_4, kd_5, kd_6, kd_7, kd_10, kd_11, kd_12, kd_13, kd_14, kd_15, kd_16, kd_19, kd_28, kd_29, kd_30, kd_31, kd_32, kd_33, kd_34, kd_35, kd_36, kd_37, kd_38, kd_39, kd_40, kd_41, kd_42, kd_43, kd_44, kd_45, ln_2, ln_3, ln_4, ln_5, ln_6, ln_7, ln_11, ln_12, ln_13, ln_14, ln_15, ln_16, ln_29, ln_30, ln_32, ln_33, ln_34, ln_35, ln_36, ln_37, ln_38, ln_40, ln_41, ln_42, ln_43, ln_45, Option.toList_some, Option.toList_none, List.cons_append, List.nil_append, true_and, and_true, if_true, if_false, true_or, or_true, Nat.reduceAdd, Int.reduceAdd, Bool.false_eq_true, tn_0, tn_1, tn_2, tn_3, tn_4, tn_5, tn_6, tn_7, x7]
  refine J_callVr (ci := 4) (has2 hw hx (Or.inl rfl) _) k_X5_regret_5 o_X4_has (rfl) rfl rfl rfl (by decide) rfl (Nat.le_of_ble_eq_true rfl) ?_
  refine J_blk a_X5_regret_8 ?_
  simp only [b_X5_regret_8, w_if_eq, w_nil, kd_0, kd_1, kd_2, kd_3, kd_4, kd_5, kd_6, kd_7, kd_10, kd_11, kd_12, kd_13, kd_14, kd_15, kd_16, kd_19, kd_28, kd_29, kd_30, kd_31, kd_32, kd_33, kd_34, kd_35, kd_36, kd_37, kd_38, kd_39, kd_40, kd_41, kd_42, kd_43, kd_44, kd_45, ln_2, ln_3, ln_4, ln_5, ln_6, ln_7, ln_11, ln_12, ln_13, ln_14, ln_15, ln_16, ln_29, ln_30, ln_32, ln_33, ln_34, ln_35, ln_36, ln_37, ln_38, ln_40, ln_41, ln_42, ln_43, ln_45, Option.toList_some, Option.toList_none, List.cons_append, List.nil_append, true_and, and_true, if_true, if_false, true_or, or_true, Nat.reduceAdd, Int.reduceAdd, Bool.false_eq_true, tn_0, tn_1, tn_2, tn_3, tn_4, tn_5, tn_6, tn_7, x7]
  refine ⟨fun c27 => ?_, fun c27 => ?_⟩
  · refine J_blk a_X5_regret_21 ?_
    simp only [b_X5_regret_21, w_iconst_m1, w_ireti, kd_0, kd_1, kd_2, kd_3, kd_4, kd_5, kd_6, kd_7, kd_10, kd_11, kd_12, kd_13, kd_14, kd_15, kd_16, kd_19, kd_28, kd_29, kd_30, kd_31, kd_32, kd_33, kd_34, kd_35, kd_36, kd_37, kd_38, kd_39, kd_40, kd_41, kd_42, kd_43, kd_44, kd_45, ln_2, ln_3, ln_4, ln_5, ln_6, ln_7, ln_11, ln_12, ln_13, ln_14, ln_15, ln_16, ln_29, ln_30, ln_32, ln_33, ln_34, ln_35, ln_36, ln_37, ln_38, ln_40, ln_41, ln_42, ln_43, ln_45, Option.toList_some, Option.toList_none, List.cons_append, List.nil_append, true_and, and_true, if_true, if_false, true_or, or_true, Nat.reduceAdd, Int.reduceAdd, Bool.false_eq_true, tn_0, tn_1, tn_2, tn_3, tn_4, tn_5, tn_6, tn_7, x7]
    exact ⟨rfl, rfl⟩
  · refine J_blk a_X5_regret_11 ?_
    simp only [b_X5_regret_11, w_iload_n2, w_iconst_1, w_bipush, ci_20, w_nil, kd_0, kd_1, kd_2, kd_3, kd_4, kd_5, kd_6, kd_7, kd_10, kd_11, kd_12, kd_13, kd_14, kd_15, kd_16, kd_19, kd_28, kd_29, kd_30, kd_31, kd_32, kd_33, kd_34, kd_35, kd_36, kd_37, kd_38, kd_39, kd_40, kd_41, kd_42, kd_43, kd_44, kd_45, ln_2, ln_3, ln_4, ln_5, ln_6, ln_7, ln_11, ln_12, ln_13, ln_14, ln_15, ln_16, ln_29, ln_30, ln_32, ln_33, ln_34, ln_35, ln_36, ln_37, ln_38, ln_40, ln_41, ln_42, ln_43, ln_45, Option.toList_some, Option.toList_none, List.cons_append, List.nil_append, true_and, and_true, if_true, if_false, true_or, or_true, Nat.reduceAdd, Int.reduceAdd, Bool.false_eq_true, tn_0, tn_1, tn_2, tn_3, tn_4, tn_5, tn_6, tn_7, x7]
    refine J_callSr (within_c _ _ _ _) k_X5_regret_15 o_X5_within rfl (by decide) rfl (Nat.le_of_ble_eq_true rfl) ?_
    refine J_blk a_X5_regret_18 ?_
    simp only [b_X5_regret_18, w_if_ne, w_nil, kd_0, kd_1, kd_2, kd_3, kd_4, kd_5, kd_6, kd_7, kd_10, kd_11, kd_12, kd_13, kd_14, kd_15, kd_16, kd_19, kd_28, kd_29, kd_30, kd_31, kd_32, kd_33, kd_34, kd_35, kd_36, kd_37, kd_38, kd_39, kd_40, kd_41, kd_42, kd_43, kd_44, kd_45, ln_2, ln_3, ln_4, ln_5, ln_6, ln_7, ln_11, ln_12, ln_13, ln_14, ln_15, ln_16, ln_29, ln_30, ln_32, ln_33, ln_34, ln_35, ln_36, ln_37, ln_38, ln_40, ln_41, ln_42, ln_43, ln_45, Option.toList_some, Option.toList_none, List.cons_append, List.nil_append, true_and, and_true, if_true, if_false, true_or, or_true, Nat.reduceAdd, Int.reduceAdd, Bool.false_eq_true, tn_0, tn_1, tn_2, tn_3, tn_4, tn_5, tn_6, tn_7, x7]
    refine ⟨fun c28 => ?_, fun c28 => ?_⟩
    · exact absurd (by grind) h
    · refine J_blk a_X5_regret_21 ?_
      simp only [b_X5_regret_21, w_iconst_m1, w_ireti, kd_0, kd_1, kd_2, kd_3, kd_4, kd_5, kd_6, kd_7, kd_10, kd_11, kd_12, kd_13, kd_14, kd_15, kd_16, kd_19, kd_28, kd_29, kd_30, kd_31, kd_32, kd_33, kd_34, kd_35, kd_36, kd_37, kd_38, kd_39, kd_40, kd_41, kd_42, kd_43, kd_44, kd_45, ln_2, ln_3, ln_4, ln_5, ln_6, ln_7, ln_11, ln_12, ln_13, ln_14, ln_15, ln_16, ln_29, ln_30, ln_32, ln_33, ln_34, ln_35, ln_36, ln_37, ln_38, ln_40, ln_41, ln_42, ln_43, ln_45, Option.toList_some, Option.toList_none, List.cons_append, List.nil_append, true_and, and_true, if_true, if_false, true_or, or_true, Nat.reduceAdd, Int.reduceAdd, Bool.false_eq_true, tn_0, tn_1, tn_2, tn_3, tn_4, tn_5, tn_6, tn_7, x7]
      exact ⟨rfl, rfl⟩
theorem cfreeFor_f (o v : Int32) (M : Mm) (n : Nat) (s : Nat → Int32) (hw : WF s n) (hx : RX M 1 s n) (h : ¬ ((0 ≤ o ∧ o < nI n) ∧ (0 ≤ v ∧ v ≤ 99))) : K 2 mX5_freeFor [.ref 0, .int o, .int v] M (Rt (some (.int (-1))) M) := by
  have x7 : M.1 1 7 = nI n := hx.1
  refine K_go 2 o_X5_freeFor [none, none, none, none, none] rfl (Nat.le_of_ble_eq_true rfl) ?_
  simp only [lvA_i, lvA_a, lvA_l, lvA_nil, List.cons_append, List.nil_append]
  refine J_blk a_X5_freeFor_0 ?_
  simp only [b_X5_freeFor_0, w_aload_n0, w_getf5, ne0_1, w_iload_n1, w_nil, kd_0, kd_1, kd_2, kd_3, kd_4, kd_5, kd_6, kd_7, kd_10, kd_11, kd_12, kd_13, kd_14, kd_15, kd_16, kd_19, kd_28, kd_29, kd_30, kd_31, kd_32, kd_33, kd_34, kd_35, kd_36, kd_37, kd_38, kd_39, kd_40, kd_41, kd_42, kd_43, kd_44, kd_45, ln_2, ln_3, ln_4, ln_5, ln_6, ln_7, ln_11, ln_12, ln_13, ln_14, ln_15, ln_16, ln_29, ln_30, ln_32, ln_33, ln_34, ln_35, ln_36, ln_37, ln_38, ln_40, ln_41, ln_42, ln_43, ln_45, Option.toList_some, Option.toList_none, List.cons_append, List.nil_append, true_and, and_true, if_true, if_false, true_or, or_true, Nat.reduceAdd, Int.reduceAdd, Bool.false_eq_true, tn_0, tn_1, tn_2, tn_3, tn_4, tn_5, tn_6, tn_7, x7]
  refine J_callVr (ci := 4) (has2 hw hx (Or.inl rfl) _) k_X5_freeFor_5 o_X4_has (rfl) rfl rfl rfl (by decide) rfl (Nat.le_of_ble_eq_true rfl) ?_
  refine J_blk a_X5_freeFor_8 ?_
  simp only [b_X5_freeFor_8, w_if_eq, w_nil, kd_0, kd_1, kd_2, kd_3, kd_4, kd_5, kd_6, kd_7, kd_10, kd_11, kd_12, kd_13, kd_14, kd_15, kd_16, kd_19, kd_28, kd_29, kd_30, kd_31, kd_32, kd_33, kd_34, kd_35, kd_36, kd_37, kd_38, kd_39, kd_40, kd_41, kd_42, kd_43, kd_44, kd_45, ln_2, ln_3, ln_4, ln_5, ln_6, ln_7, ln_11, ln_12, ln_13, ln_14, ln_15, ln_16, ln_29, ln_30, ln_32, ln_33, ln_34, ln_35, ln_36, ln_37, ln_38, ln_40, ln_41, ln_42, ln_43, ln_45, Option.toList_some, Option.toList_none, List.cons_append, List.nil_append, true_and, and_true, if_true, if_false, true_or, or_true, Nat.reduceAdd, Int.reduceAdd, Bool.false_eq_true, tn_0, tn_1, tn_2, tn_3, tn_4, tn_5, tn_6, tn_7, x7]
  refine ⟨fun c29 => ?_, fun c29 => ?_⟩
  · refine J_blk a_X5_freeFor_21 ?_
    simp only [b_X5_freeFor_21, w_iconst_m1, w_ireti, kd_0, kd_1, kd_2, kd_3, kd_4, kd_5, kd_6, kd_7, kd_10, kd_11, kd_12, kd_13, kd_14, kd_15, kd_16, kd_19, kd_28, kd_29, kd_30, kd_31, kd_32, kd_33, kd_34, kd_35, kd_36, kd_37, kd_38, kd_39, kd_40, kd_41, kd_42, kd_43, kd_44, kd_45, ln_2, ln_3, ln_4, ln_5, ln_6, ln_7, ln_11, ln_12, ln_13, ln_14, ln_15, ln_16, ln_29, ln_30, ln_32, ln_33, ln_34, ln_35, ln_36, ln_37, ln_38, ln_40, ln_41, ln_42, ln_43, ln_45, Option.toList_some, Option.toList_none, List.cons_append, List.nil_append, true_and, and_true, if_true, if_false, true_or, or_true, Nat.reduceAdd, Int.reduceAdd, Bool.false_eq_true, tn_0, tn_1, tn_2, tn_3, tn_4, tn_5, tn_6, tn_7, x7]
    exact ⟨rfl, rfl⟩
  · refine J_blk a_X5_freeFor_11 ?_
    simp only [b_X5_freeFor_11, w_iload_n2, w_iconst_0, w_bipush, ci_99, w_nil, kd_0, kd_1, kd_2, kd_3, kd_4, kd_5, kd_6, kd_7, kd_10, kd_11, kd_12, kd_13, kd_14, kd_15, kd_16, kd_19, kd_28, kd_29, kd_30, kd_31, kd_32, kd_33, kd_34, kd_35, kd_36, kd_37, kd_38, kd_39, kd_40, kd_41, kd_42, kd_43, kd_44, kd_45, ln_2, ln_3, ln_4, ln_5, ln_6, ln_7, ln_11, ln_12, ln_13, ln_14, ln_15, ln_16, ln_29, ln_30, ln_32, ln_33, ln_34, ln_35, ln_36, ln_37, ln_38, ln_40, ln_41, ln_42, ln_43, ln_45, Option.toList_some, Option.toList_none, List.cons_append, List.nil_append, true_and, and_true, if_true, if_false, true_or, or_true, Nat.reduceAdd, Int.reduceAdd, Bool.false_eq_true, tn_0, tn_1, tn_2, tn_3, tn_4, tn_5, tn_6, tn_7, x7]
    refine J_callSr (within_c _ _ _ _) k_X5_freeFor_15 o_X5_within rfl (by decide) rfl (Nat.le_of_ble_eq_true rfl) ?_
    refine J_blk a_X5_freeFor_18 ?_
    simp only [b_X5_freeFor_18, w_if_ne, w_nil, kd_0, kd_1, kd_2, kd_3, kd_4, kd_5, kd_6, kd_7, kd_10, kd_11, kd_12, kd_13, kd_14, kd_15, kd_16, kd_19, kd_28, kd_29, kd_30, kd_31, kd_32, kd_33, kd_34, kd_35, kd_36, kd_37, kd_38, kd_39, kd_40, kd_41, kd_42, kd_43, kd_44, kd_45, ln_2, ln_3, ln_4, ln_5, ln_6, ln_7, ln_11, ln_12, ln_13, ln_14, ln_15, ln_16, ln_29, ln_30, ln_32, ln_33, ln_34, ln_35, ln_36, ln_37, ln_38, ln_40, ln_41, ln_42, ln_43, ln_45, Option.toList_some, Option.toList_none, List.cons_append, List.nil_append, true_and, and_true, if_true, if_false, true_or, or_true, Nat.reduceAdd, Int.reduceAdd, Bool.false_eq_true, tn_0, tn_1, tn_2, tn_3, tn_4, tn_5, tn_6, tn_7, x7]
    refine ⟨fun c30 => ?_, fun c30 => ?_⟩
    · exact absurd (by grind) h
    · refine J_blk a_X5_freeFor_21 ?_
      simp only [b_X5_freeFor_21, w_iconst_m1, w_ireti, kd_0, kd_1, kd_2, kd_3, kd_4, kd_5, kd_6, kd_7, kd_10, kd_11, kd_12, kd_13, kd_14, kd_15, kd_16, kd_19, kd_28, kd_29, kd_30, kd_31, kd_32, kd_33, kd_34, kd_35, kd_36, kd_37, kd_38, kd_39, kd_40, kd_41, kd_42, kd_43, kd_44, kd_45, ln_2, ln_3, ln_4, ln_5, ln_6, ln_7, ln_11, ln_12, ln_13, ln_14, ln_15, ln_16, ln_29, ln_30, ln_32, ln_33, ln_34, ln_35, ln_36, ln_37, ln_38, ln_40, ln_41, ln_42, ln_43, ln_45, Option.toList_some, Option.toList_none, List.cons_append, List.nil_append, true_and, and_true, if_true, if_false, true_or, or_true, Nat.reduceAdd, Int.reduceAdd, Bool.false_eq_true, tn_0, tn_1, tn_2, tn_3, tn_4, tn_5, tn_6, tn_7, x7]
      exact ⟨rfl, rfl⟩

