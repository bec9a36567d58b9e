/-! the class: strings, the tape's bytes -/
theorem lvA_n {vs : List Value} : lvA (.null :: vs) = some .null :: lvA vs := rfl
theorem nI_subN {a b : Nat} (h : b ≤ a) : nI a - nI b = nI (a - b) := by
  have e : nI a = nI (a - b) + nI b := by rw [nI_add]; congr 1; omega
  rw [e, Int32.add_sub_cancel]
def wL : List (List Nat) := [[98,114,97,110,99,104],[115,112,117,114],[98,111,117,103,104],[98,117,100],[108,105,109,98],[103,114,97,102,116],[115,104,97,100,101],[115,117,110],[114,97,105,110],[102,114,111,115,116],[111,110],[102,111,114,99,101],[97,103,101],[99,117,116],[59]]
def wLn (j : Nat) : List Nat := wL.getD j []
theorem wL_len : ∀ j, j < 15 → (wLn j).length = slL.getD j 0 ∧ slL.getD j 0 ≤ 6 := by decide +kernel
theorem wL_at : ∀ j, j < 15 → ∀ i, i < 6 → (sbL.getD j []).getD i 0 = nI ((wLn j).getD i 0) ∧ (wLn j).getD i 0 < 256 := by decide +kernel
theorem wL_ch : ∀ j, j < 15 → ∀ i, i < 6 → ((((sbL.getD j []).getD i 0 &&& 255).toUInt32 % 65536).toInt32) = nI ((wLn j).getD i 0) := by decide +kernel
theorem wL_sh : ∀ j, j < 15 → Int32.ofNat (slL.getD j 0) >>> ((0 : Int32) &&& 31) = nI ((wLn j).length) := by decide +kernel
theorem nar_ch : ∀ j, j < 15 → ∀ i, i < 6 → narrow .char (.int (nI ((wLn j).getD i 0))) = .int (nI ((wLn j).getD i 0)) := by decide +kernel
section ST
variable {j : Nat} {M : Mm}
theorem coder_c (hj : j < 15) : K 0 mJ0_coder_7d493 [.ref (65 + j)] M (Rt (some (.int 0)) M) := by
  refine K_go 0 o_J0_coder_7d493 [] rfl (Nat.le_of_ble_eq_true rfl) ?_
  simp only [lvA_i, lvA_a, lvA_l, lvA_nil, List.cons_append, List.nil_append]
  refine J_blk a_J0_coder_7d493_0 ?_
  simp only [b_J0_coder_7d493_0, w_getsC, w_if_eq, w_nil, Option.toList_some, Option.toList_none, List.cons_append, List.nil_append, true_and, and_true, if_true, if_false, true_or, or_true, Nat.reduceAdd, Int.reduceAdd, Bool.false_eq_true, tn_0, tn_1, tn_2, tn_3, tn_4, tn_5, tn_6, tn_7]
  refine ⟨fun h => absurd h (by decide), fun _ => ?_⟩
  refine J_blk a_J0_coder_7d493_6 ?_
  simp only [b_J0_coder_7d493_6, w_aload_n0, w_getfC, w_goto, Option.toList_some, Option.toList_none, List.cons_append, List.nil_append, true_and, and_true, if_true, if_false, true_or, or_true, Nat.reduceAdd, Int.reduceAdd, Bool.false_eq_true, tn_0, tn_1, tn_2, tn_3, tn_4, tn_5, tn_6, tn_7]
  refine ⟨j, hj, rfl, ?_⟩
  refine J_blk a_J0_coder_7d493_14 ?_
  simp only [b_J0_coder_7d493_14, w_iretb, Option.toList_some, Option.toList_none, List.cons_append, List.nil_append, true_and, and_true, if_true, if_false, true_or, or_true, Nat.reduceAdd, Int.reduceAdd, Bool.false_eq_true, tn_0, tn_1, tn_2, tn_3, tn_4, tn_5, tn_6, tn_7]
  exact ⟨rfl, rfl, rfl⟩
theorem latin_c (hj : j < 15) : K 0 mJ0_isLatin1_aae02 [.ref (65 + j)] M (Rt (some (.int 1)) M) := by
  refine K_go 0 o_J0_isLatin1_aae02 [] rfl (Nat.le_of_ble_eq_true rfl) ?_
  simp only [lvA_i, lvA_a, lvA_l, lvA_nil, List.cons_append, List.nil_append]
  refine J_blk a_J0_isLatin1_aae02_0 ?_
  simp only [b_J0_isLatin1_aae02_0, w_getsC, w_if_eq, w_nil, Option.toList_some, Option.toList_none, List.cons_append, List.nil_append, true_and, and_true, if_true, if_false, true_or, or_true, Nat.reduceAdd, Int.reduceAdd, Bool.false_eq_true, tn_0, tn_1, tn_2, tn_3, tn_4, tn_5, tn_6, tn_7]
  refine ⟨fun h => absurd h (by decide), fun _ => ?_⟩
  refine J_blk a_J0_isLatin1_aae02_6 ?_
  simp only [b_J0_isLatin1_aae02_6, w_aload_n0, w_getfC, w_if_ne, w_nil, Option.toList_some, Option.toList_none, List.cons_append, List.nil_append, true_and, and_true, if_true, if_false, true_or, or_true, Nat.reduceAdd, Int.reduceAdd, Bool.false_eq_true, tn_0, tn_1, tn_2, tn_3, tn_4, tn_5, tn_6, tn_7]
  refine ⟨j, hj, rfl, fun h => absurd trivial h, fun _ => ?_⟩
  refine J_blk a_J0_isLatin1_aae02_13 ?_
  simp only [b_J0_isLatin1_aae02_13, w_iconst_1, w_goto, Option.toList_some, Option.toList_none, List.cons_append, List.nil_append, true_and, and_true, if_true, if_false, true_or, or_true, Nat.reduceAdd, Int.reduceAdd, Bool.false_eq_true, tn_0, tn_1, tn_2, tn_3, tn_4, tn_5, tn_6, tn_7]
  refine J_blk a_J0_isLatin1_aae02_18 ?_
  simp only [b_J0_isLatin1_aae02_18, w_iretz, Option.toList_some, Option.toList_none, List.cons_append, List.nil_append, true_and, and_true, if_true, if_false, true_or, or_true, Nat.reduceAdd, Int.reduceAdd, Bool.false_eq_true, tn_0, tn_1, tn_2, tn_3, tn_4, tn_5, tn_6, tn_7]
  exact ⟨rfl, rfl⟩
theorem length_c (hj : j < 15) : K 1 mJ0_length_8abf5 [.ref (65 + j)] M (Rt (some (.int (nI (wLn j).length))) M) := by
  refine K_go 0 o_J0_length_8abf5 [] rfl (Nat.le_of_ble_eq_true rfl) ?_
  simp only [lvA_i, lvA_a, lvA_l, lvA_nil, List.cons_append, List.nil_append]
  refine J_blk a_J0_length_8abf5_0 ?_
  simp only [b_J0_length_8abf5_0, w_aload_n0, w_getfV, w_alenB, w_nil, Option.toList_some, Option.toList_none, List.cons_append, List.nil_append, true_and, and_true, if_true, if_false, true_or, or_true, Nat.reduceAdd, Int.reduceAdd, Bool.false_eq_true, tn_0, tn_1, tn_2, tn_3, tn_4, tn_5, tn_6, tn_7]
  refine ⟨j, hj, rfl, j, hj, rfl, ?_⟩
  refine J_callT hj (coder_c hj) k_J0_length_8abf5_6 o_J0_coder_7d493 rfl rfl (by decide) rfl (Nat.le_of_ble_eq_true rfl) ?_
  rintro r M' ⟨rfl, rfl⟩
  refine J_blk a_J0_length_8abf5_9 ?_
  simp only [b_J0_length_8abf5_9, w_ishr, w_ireti, Option.toList_some, Option.toList_none, List.cons_append, List.nil_append, true_and, and_true, if_true, if_false, true_or, or_true, Nat.reduceAdd, Int.reduceAdd, Bool.false_eq_true, tn_0, tn_1, tn_2, tn_3, tn_4, tn_5, tn_6, tn_7]
  exact ⟨by rw [wL_sh j hj], rfl⟩
theorem chk3_c (i n : Int32) (v : Value) (hv : v = .null ∨ v = .ref 96) (h : 0 ≤ i ∧ i < n) : K 0 mJ3_checkIndex_8e157 [.int i, .int n, v] M (Rt (some (.int i)) M) := by
  rcases hv with rfl | rfl
  · refine K_go 3 o_J3_checkIndex_8e157 [] rfl (Nat.le_of_ble_eq_true rfl) ?_
    simp only [lvA_i, lvA_n, lvA_nil, List.cons_append, List.nil_append]
    refine J_blk a_J3_checkIndex_8e157_0 ?_
    simp only [b_J3_checkIndex_8e157_0, w_iload_n0, w_if_lt, w_nil, Option.toList_some, Option.toList_none, List.cons_append, List.nil_append, true_and, and_true, if_true, if_false, true_or, or_true, Nat.reduceAdd, Int.reduceAdd, Bool.false_eq_true, tn_0, tn_1, tn_2, tn_3, tn_4, tn_5, tn_6, tn_7]
    refine ⟨fun c => absurd h.1 (Int32.not_le.mpr c), fun _ => ?_⟩
    refine J_blk a_J3_checkIndex_8e157_4 ?_
    simp only [b_J3_checkIndex_8e157_4, w_iload_n0, w_iload_n1, w_icmp_lt, w_nil, Option.toList_some, Option.toList_none, List.cons_append, List.nil_append, true_and, and_true, if_true, if_false, true_or, or_true, Nat.reduceAdd, Int.reduceAdd, Bool.false_eq_true, tn_0, tn_1, tn_2, tn_3, tn_4, tn_5, tn_6, tn_7]
    refine ⟨fun _ => ?_, fun c => absurd h.2 c⟩
    refine J_blk a_J3_checkIndex_8e157_16 ?_
    simp only [b_J3_checkIndex_8e157_16, w_iload_n0, w_ireti, Option.toList_some, Option.toList_none, List.cons_append, List.nil_append, true_and, and_true, if_true, if_false, true_or, or_true, Nat.reduceAdd, Int.reduceAdd, Bool.false_eq_true, tn_0, tn_1, tn_2, tn_3, tn_4, tn_5, tn_6, tn_7]
    first | exact ⟨rfl, rfl⟩ | (simp_all [Rt])
  · refine K_go 3 o_J3_checkIndex_8e157 [] rfl (Nat.le_of_ble_eq_true rfl) ?_
    simp only [lvA_i, lvA_a, lvA_nil, List.cons_append, List.nil_append]
    refine J_blk a_J3_checkIndex_8e157_0 ?_
    simp only [b_J3_checkIndex_8e157_0, w_iload_n0, w_if_lt, w_nil, Option.toList_some, Option.toList_none, List.cons_append, List.nil_append, true_and, and_true, if_true, if_false, true_or, or_true, Nat.reduceAdd, Int.reduceAdd, Bool.false_eq_true, tn_0, tn_1, tn_2, tn_3, tn_4, tn_5, tn_6, tn_7]
    refine ⟨fun c => absurd h.1 (Int32.not_le.mpr c), fun _ => ?_⟩
    refine J_blk a_J3_checkIndex_8e157_4 ?_
    simp only [b_J3_checkIndex_8e157_4, w_iload_n0, w_iload_n1, w_icmp_lt, w_nil, Option.toList_some, Option.toList_none, List.cons_append, List.nil_append, true_and, and_true, if_true, if_false, true_or, or_true, Nat.reduceAdd, Int.reduceAdd, Bool.false_eq_true, tn_0, tn_1, tn_2, tn_3, tn_4, tn_5, tn_6, tn_7]
    refine ⟨fun _ => ?_, fun c => absurd h.2 c⟩
    refine J_blk a_J3_checkIndex_8e157_16 ?_
    simp only [b_J3_checkIndex_8e157_16, w_iload_n0, w_ireti, Option.toList_some, Option.toList_none, List.cons_append, List.nil_append, true_and, and_true, if_true, if_false, true_or, or_true, Nat.reduceAdd, Int.reduceAdd, Bool.false_eq_true, tn_0, tn_1, tn_2, tn_3, tn_4, tn_5, tn_6, tn_7]
    first | exact ⟨rfl, rfl⟩ | (simp_all [Rt])
theorem chk0_c (i n : Int32) (h : 0 ≤ i ∧ i < n) : K 1 mJ0_checkIndex_df160 [.int i, .int n] M (Rt none M) := by
  refine K_go 2 o_J0_checkIndex_df160 [] rfl (Nat.le_of_ble_eq_true rfl) ?_
  simp only [lvA_i, lvA_a, lvA_l, lvA_nil, List.cons_append, List.nil_append]
  refine J_iload_n (k := 0) (x := i) (by decide +kernel) rfl ?_
  refine J_iload_n (k := 1) (x := n) (by decide +kernel) rfl ?_
  have fin : J 1 mJ0_checkIndex_df160 8 [some (.int i), some (.int n)] [.int i] M (Rt none M) := by
    refine J_blk a_J0_checkIndex_df160_8 ?_
    simp only [b_J0_checkIndex_df160_8, w_pop_i, w_pop_a, w_vret, Option.toList_some, Option.toList_none, List.cons_append, List.nil_append, true_and, and_true, if_true, if_false, true_or, or_true, Nat.reduceAdd, Int.reduceAdd, Bool.false_eq_true, tn_0, tn_1, tn_2, tn_3, tn_4, tn_5, tn_6, tn_7]
    exact ⟨rfl, rfl⟩
  refine J_getsF (i := 1053) (by decide +kernel) (in_gw 353 (by decide +kernel) rfl) ?_ ?_
  · refine J_callSr (chk3_c i n .null (Or.inl rfl) h) k_J0_checkIndex_df160_5 o_J3_checkIndex_8e157 rfl (by decide) rfl (Nat.le_of_ble_eq_true rfl) ?_
    exact fin
  · refine J_callSr (chk3_c i n (.ref 96) (Or.inr rfl) h) k_J0_checkIndex_df160_5 o_J3_checkIndex_8e157 rfl (by decide) rfl (Nat.le_of_ble_eq_true rfl) ?_
    exact fin
theorem char1_c (hj : j < 15) (i : Nat) (hi : i < (wLn j).length) : K 2 mJ1_charAt_3b067 [.ref (80 + j), .int (nI i)] M (Rt (some (.int (nI ((wLn j).getD i 0)))) M) := by
  have h6 := (wL_len j hj).2
  have hl := (wL_len j hj).1
  have ti : (nI i).toNatClampNeg = i := nI_clamp (by omega)
  refine K_go 2 o_J1_charAt_3b067 [] rfl (Nat.le_of_ble_eq_true rfl) ?_
  simp only [lvA_i, lvA_a, lvA_l, lvA_nil, List.cons_append, List.nil_append]
  refine J_blk a_J1_charAt_3b067_0 ?_
  simp only [b_J1_charAt_3b067_0, w_iload_n1, w_aload_n0, w_alenB, w_nil, Option.toList_some, Option.toList_none, List.cons_append, List.nil_append, true_and, and_true, if_true, if_false, true_or, or_true, Nat.reduceAdd, Int.reduceAdd, Bool.false_eq_true, tn_0, tn_1, tn_2, tn_3, tn_4, tn_5, tn_6, tn_7]
  refine ⟨j, hj, rfl, ?_⟩
  refine J_callSr (chk0_c (nI i) _ (ok1 (show i < slL.getD j 0 by omega) (by omega))) k_J1_charAt_3b067_3 o_J0_checkIndex_df160 rfl (by decide) rfl (Nat.le_of_ble_eq_true rfl) ?_
  refine J_blk a_J1_charAt_3b067_6 ?_
  simp only [b_J1_charAt_3b067_6, w_aload_n0, w_iload_n1, w_bald, w_sipush, ci_255, w_iand, w_i2c, w_iretc, Option.toList_some, Option.toList_none, List.cons_append, List.nil_append, true_and, and_true, if_true, if_false, true_or, or_true, Nat.reduceAdd, Int.reduceAdd, Bool.false_eq_true, tn_0, tn_1, tn_2, tn_3, tn_4, tn_5, tn_6, tn_7, ti]
  refine ⟨j, hj, rfl, vinN (by omega) (by omega), ?_⟩
  rw [wL_ch j hj i (by omega)]
  exact ⟨nar_ch j hj i (by omega), rfl, rfl⟩
theorem charAt_c (hj : j < 15) (i : Nat) (hi : i < (wLn j).length) : K 3 mJ0_charAt_5068e [.ref (65 + j), .int (nI i)] M (Rt (some (.int (nI ((wLn j).getD i 0)))) M) := by
  have h6 := (wL_len j hj).2
  have hl := (wL_len j hj).1
  refine K_go 1 o_J0_charAt_5068e [] rfl (Nat.le_of_ble_eq_true rfl) ?_
  simp only [lvA_i, lvA_a, lvA_l, lvA_nil, List.cons_append, List.nil_append]
  refine J_blk a_J0_charAt_5068e_0 ?_
  simp only [b_J0_charAt_5068e_0, w_aload_n0, w_nil, Option.toList_some, Option.toList_none, List.cons_append, List.nil_append, true_and, and_true, if_true, if_false, true_or, or_true, Nat.reduceAdd, Int.reduceAdd, Bool.false_eq_true, tn_0, tn_1, tn_2, tn_3, tn_4, tn_5, tn_6, tn_7]
  refine J_callT hj (latin_c hj) k_J0_charAt_5068e_1 o_J0_isLatin1_aae02 rfl rfl (by decide) rfl (Nat.le_of_ble_eq_true rfl) ?_
  rintro r M' ⟨rfl, rfl⟩
  refine J_blk a_J0_charAt_5068e_4 ?_
  simp only [b_J0_charAt_5068e_4, w_if_eq, w_nil, Option.toList_some, Option.toList_none, List.cons_append, List.nil_append, true_and, and_true, if_true, if_false, true_or, or_true, Nat.reduceAdd, Int.reduceAdd, Bool.false_eq_true, tn_0, tn_1, tn_2, tn_3, tn_4, tn_5, tn_6, tn_7]
  refine ⟨fun h => absurd h (by decide), fun _ => ?_⟩
  refine J_blk a_J0_charAt_5068e_7 ?_
  simp only [b_J0_charAt_5068e_7, w_aload_n0, w_getfV, w_iload_n1, w_nil, Option.toList_some, Option.toList_none, List.cons_append, List.nil_append, true_and, and_true, if_true, if_false, true_or, or_true, Nat.reduceAdd, Int.reduceAdd, Bool.false_eq_true, tn_0, tn_1, tn_2, tn_3, tn_4, tn_5, tn_6, tn_7]
  refine ⟨j, hj, rfl, ?_⟩
  refine J_callSr (char1_c hj i hi) k_J0_charAt_5068e_12 o_J1_charAt_3b067 rfl (by decide) rfl (Nat.le_of_ble_eq_true rfl) ?_
  refine J_blk a_J0_charAt_5068e_15 ?_
  simp only [b_J0_charAt_5068e_15, w_iretc, Option.toList_some, Option.toList_none, List.cons_append, List.nil_append, true_and, and_true, if_true, if_false, true_or, or_true, Nat.reduceAdd, Int.reduceAdd, Bool.false_eq_true, tn_0, tn_1, tn_2, tn_3, tn_4, tn_5, tn_6, tn_7]
  exact ⟨nar_ch j hj i (by omega), rfl, rfl⟩
end ST
def soN (b : Nat) : Nat := if alB b = true then 0 else if dgB b = true then 1 else 2
theorem sortOf_c (b : Nat) (M : Mm) (hb : b < 256) : K 0 mX3_sortOf [.int (nI b)] M (Rt (some (.int (nI (soN b)))) M) := by
  have e1 : (nI b < 97) = (b < 97) := propext (nI_ltI (b := 97) (by omega) (by decide))
  have e2 : ((122 : Int32) < nI b) = (122 < b) := propext (nI_ltI (a := 122) (by decide) (by omega))
  have e3 : (nI b < 48) = (b < 48) := propext (nI_ltI (b := 48) (by omega) (by decide))
  have e4 : ((57 : Int32) < nI b) = (57 < b) := propext (nI_ltI (a := 57) (by decide) (by omega))
  unfold soN alB dgB
  refine K_go 1 o_X3_sortOf [] rfl (Nat.le_of_ble_eq_true rfl) ?_
  simp only [lvA_i, lvA_a, lvA_l, lvA_nil, List.cons_append, List.nil_append]
  refine J_blk a_X3_sortOf_0 ?_
  simp only [b_X3_sortOf_0, w_iload_n0, w_bipush, ci_97, w_icmp_lt, w_nil, kd_28, kd_29, ln_29, Option.toList_some, Option.toList_none, List.cons_append, List.nil_append, true_and, and_true, if_true, if_false, true_or, or_true, Nat.reduceAdd, Int.reduceAdd, Bool.false_eq_true, tn_0, tn_1, tn_2, tn_3, tn_4, tn_5, tn_6, tn_7, e1, e2, e3, e4]
  refine ⟨fun c1 => ?_, fun c1 => ?_⟩
  · refine J_blk a_X3_sortOf_14 ?_
    simp only [b_X3_sortOf_14, w_iload_n0, w_bipush, ci_48, w_icmp_lt, w_nil, kd_28, kd_29, ln_29, Option.toList_some, Option.toList_none, List.cons_append, List.nil_append, true_and, and_true, if_true, if_false, true_or, or_true, Nat.reduceAdd, Int.reduceAdd, Bool.false_eq_true, tn_0, tn_1, tn_2, tn_3, tn_4, tn_5, tn_6, tn_7, e1, e2, e3, e4]
    refine ⟨fun c2 => ?_, fun c2 => ?_⟩
    · refine J_blk a_X3_sortOf_30 ?_
      simp only [b_X3_sortOf_30, w_iconst_2, w_nil, kd_28, kd_29, ln_29, Option.toList_some, Option.toList_none, List.cons_append, List.nil_append, true_and, and_true, if_true, if_false, true_or, or_true, Nat.reduceAdd, Int.reduceAdd, Bool.false_eq_true, tn_0, tn_1, tn_2, tn_3, tn_4, tn_5, tn_6, tn_7, e1, e2, e3, e4]
      refine J_blk a_X3_sortOf_31 ?_
      simp only [b_X3_sortOf_31, w_ireti, kd_28, kd_29, ln_29, Option.toList_some, Option.toList_none, List.cons_append, List.nil_append, true_and, and_true, if_true, if_false, true_or, or_true, Nat.reduceAdd, Int.reduceAdd, Bool.false_eq_true, tn_0, tn_1, tn_2, tn_3, tn_4, tn_5, tn_6, tn_7, e1, e2, e3, e4]
      (refine ⟨?_, rfl⟩; simp only [decide_eq_true_eq]; congr 2; split <;> (try split) <;> first | rfl | (exfalso; omega))
    · refine J_blk a_X3_sortOf_20 ?_
      simp only [b_X3_sortOf_20, w_iload_n0, w_bipush, ci_57, w_icmp_gt, w_nil, kd_28, kd_29, ln_29, Option.toList_some, Option.toList_none, List.cons_append, List.nil_append, true_and, and_true, if_true, if_false, true_or, or_true, Nat.reduceAdd, Int.reduceAdd, Bool.false_eq_true, tn_0, tn_1, tn_2, tn_3, tn_4, tn_5, tn_6, tn_7, e1, e2, e3, e4]
      refine ⟨fun c3 => ?_, fun c3 => ?_⟩
      · refine J_blk a_X3_sortOf_30 ?_
        simp only [b_X3_sortOf_30, w_iconst_2, w_nil, kd_28, kd_29, ln_29, Option.toList_some, Option.toList_none, List.cons_append, List.nil_append, true_and, and_true, if_true, if_false, true_or, or_true, Nat.reduceAdd, Int.reduceAdd, Bool.false_eq_true, tn_0, tn_1, tn_2, tn_3, tn_4, tn_5, tn_6, tn_7, e1, e2, e3, e4]
        refine J_blk a_X3_sortOf_31 ?_
        simp only [b_X3_sortOf_31, w_ireti, kd_28, kd_29, ln_29, Option.toList_some, Option.toList_none, List.cons_append, List.nil_append, true_and, and_true, if_true, if_false, true_or, or_true, Nat.reduceAdd, Int.reduceAdd, Bool.false_eq_true, tn_0, tn_1, tn_2, tn_3, tn_4, tn_5, tn_6, tn_7, e1, e2, e3, e4]
        (refine ⟨?_, rfl⟩; simp only [decide_eq_true_eq]; congr 2; split <;> (try split) <;> first | rfl | (exfalso; omega))
      · refine J_blk a_X3_sortOf_26 ?_
        simp only [b_X3_sortOf_26, w_iconst_1, w_goto, kd_28, kd_29, ln_29, Option.toList_some, Option.toList_none, List.cons_append, List.nil_append, true_and, and_true, if_true, if_false, true_or, or_true, Nat.reduceAdd, Int.reduceAdd, Bool.false_eq_true, tn_0, tn_1, tn_2, tn_3, tn_4, tn_5, tn_6, tn_7, e1, e2, e3, e4]
        refine J_blk a_X3_sortOf_31 ?_
        simp only [b_X3_sortOf_31, w_ireti, kd_28, kd_29, ln_29, Option.toList_some, Option.toList_none, List.cons_append, List.nil_append, true_and, and_true, if_true, if_false, true_or, or_true, Nat.reduceAdd, Int.reduceAdd, Bool.false_eq_true, tn_0, tn_1, tn_2, tn_3, tn_4, tn_5, tn_6, tn_7, e1, e2, e3, e4]
        (refine ⟨?_, rfl⟩; simp only [decide_eq_true_eq]; congr 2; split <;> (try split) <;> first | rfl | (exfalso; omega))
  · refine J_blk a_X3_sortOf_6 ?_
    simp only [b_X3_sortOf_6, w_iload_n0, w_bipush, ci_122, w_icmp_gt, w_nil, kd_28, kd_29, ln_29, Option.toList_some, Option.toList_none, List.cons_append, List.nil_append, true_and, and_true, if_true, if_false, true_or, or_true, Nat.reduceAdd, Int.reduceAdd, Bool.false_eq_true, tn_0, tn_1, tn_2, tn_3, tn_4, tn_5, tn_6, tn_7, e1, e2, e3, e4]
    refine ⟨fun c4 => ?_, fun c4 => ?_⟩
    · refine J_blk a_X3_sortOf_14 ?_
      simp only [b_X3_sortOf_14, w_iload_n0, w_bipush, ci_48, w_icmp_lt, w_nil, kd_28, kd_29, ln_29, Option.toList_some, Option.toList_none, List.cons_append, List.nil_append, true_and, and_true, if_true, if_false, true_or, or_true, Nat.reduceAdd, Int.reduceAdd, Bool.false_eq_true, tn_0, tn_1, tn_2, tn_3, tn_4, tn_5, tn_6, tn_7, e1, e2, e3, e4]
      refine ⟨fun c5 => ?_, fun c5 => ?_⟩
      · refine J_blk a_X3_sortOf_30 ?_
        simp only [b_X3_sortOf_30, w_iconst_2, w_nil, kd_28, kd_29, ln_29, Option.toList_some, Option.toList_none, List.cons_append, List.nil_append, true_and, and_true, if_true, if_false, true_or, or_true, Nat.reduceAdd, Int.reduceAdd, Bool.false_eq_true, tn_0, tn_1, tn_2, tn_3, tn_4, tn_5, tn_6, tn_7, e1, e2, e3, e4]
        refine J_blk a_X3_sortOf_31 ?_
        simp only [b_X3_sortOf_31, w_ireti, kd_28, kd_29, ln_29, Option.toList_some, Option.toList_none, List.cons_append, List.nil_append, true_and, and_true, if_true, if_false, true_or, or_true, Nat.reduceAdd, Int.reduceAdd, Bool.false_eq_true, tn_0, tn_1, tn_2, tn_3, tn_4, tn_5, tn_6, tn_7, e1, e2, e3, e4]
        (refine ⟨?_, rfl⟩; simp only [decide_eq_true_eq]; congr 2; split <;> (try split) <;> first | rfl | (exfalso; omega))
      · refine J_blk a_X3_sortOf_20 ?_
        simp only [b_X3_sortOf_20, w_iload_n0, w_bipush, ci_57, w_icmp_gt, w_nil, kd_28, kd_29, ln_29, Option.toList_some, Option.toList_none, List.cons_append, List.nil_append, true_and, and_true, if_true, if_false, true_or, or_true, Nat.reduceAdd, Int.reduceAdd, Bool.false_eq_true, tn_0, tn_1, tn_2, tn_3, tn_4, tn_5, tn_6, tn_7, e1, e2, e3, e4]
        refine ⟨fun c6 => ?_, fun c6 => ?_⟩
        · refine J_blk a_X3_sortOf_30 ?_
          simp only [b_X3_sortOf_30, w_iconst_2, w_nil, kd_28, kd_29, ln_29, Option.toList_some, Option.toList_none, List.cons_append, List.nil_append, true_and, and_true, if_true, if_false, true_or, or_true, Nat.reduceAdd, Int.reduceAdd, Bool.false_eq_true, tn_0, tn_1, tn_2, tn_3, tn_4, tn_5, tn_6, tn_7, e1, e2, e3, e4]
          refine J_blk a_X3_sortOf_31 ?_
          simp only [b_X3_sortOf_31, w_ireti, kd_28, kd_29, ln_29, Option.toList_some, Option.toList_none, List.cons_append, List.nil_append, true_and, and_true, if_true, if_false, true_or, or_true, Nat.reduceAdd, Int.reduceAdd, Bool.false_eq_true, tn_0, tn_1, tn_2, tn_3, tn_4, tn_5, tn_6, tn_7, e1, e2, e3, e4]
          (refine ⟨?_, rfl⟩; simp only [decide_eq_true_eq]; congr 2; split <;> (try split) <;> first | rfl | (exfalso; omega))
        · refine J_blk a_X3_sortOf_26 ?_
          simp only [b_X3_sortOf_26, w_iconst_1, w_goto, kd_28, kd_29, ln_29, Option.toList_some, Option.toList_none, List.cons_append, List.nil_append, true_and, and_true, if_true, if_false, true_or, or_true, Nat.reduceAdd, Int.reduceAdd, Bool.false_eq_true, tn_0, tn_1, tn_2, tn_3, tn_4, tn_5, tn_6, tn_7, e1, e2, e3, e4]
          refine J_blk a_X3_sortOf_31 ?_
          simp only [b_X3_sortOf_31, w_ireti, kd_28, kd_29, ln_29, Option.toList_some, Option.toList_none, List.cons_append, List.nil_append, true_and, and_true, if_true, if_false, true_or, or_true, Nat.reduceAdd, Int.reduceAdd, Bool.false_eq_true, tn_0, tn_1, tn_2, tn_3, tn_4, tn_5, tn_6, tn_7, e1, e2, e3, e4]
          (refine ⟨?_, rfl⟩; simp only [decide_eq_true_eq]; congr 2; split <;> (try split) <;> first | rfl | (exfalso; omega))
    · refine J_blk a_X3_sortOf_12 ?_
      simp only [b_X3_sortOf_12, w_iconst_0, w_ireti, kd_28, kd_29, ln_29, Option.toList_some, Option.toList_none, List.cons_append, List.nil_append, true_and, and_true, if_true, if_false, true_or, or_true, Nat.reduceAdd, Int.reduceAdd, Bool.false_eq_true, tn_0, tn_1, tn_2, tn_3, tn_4, tn_5, tn_6, tn_7, e1, e2, e3, e4]
      (refine ⟨?_, rfl⟩; simp only [decide_eq_true_eq]; congr 2; split <;> (try split) <;> first | rfl | (exfalso; omega))
/-- the tape of the class -/
def TA (M : Mm) (t : Nat → Nat) (L : Nat) : Prop := M.1 28 1 = nI L ∧ L ≤ 200 ∧ (∀ i, t i < 256) ∧ ∀ i, i < L → M.1 29 i = nI (t i)
def srt (t : Nat → Nat) (L fr : Nat) : Nat := if fr < L then soN (t fr) else 2
def TS (M : Mm) (t : Nat → Nat) (L fr : Nat) (w : Bool) : Prop := TA M t L ∧ fr ≤ L ∧ M.1 28 2 = nI fr ∧ M.1 28 3 = nI (te t L fr) ∧ M.1 28 4 = nI (srt t L fr) ∧ M.1 28 5 = bI w
def FT (M M' : Mm) : Prop := (∀ c, c ≠ 28 → M'.1 c = M.1 c) ∧ M'.2 = M.2
theorem FT.refl (M : Mm) : FT M M := ⟨fun _ _ => rfl, rfl⟩
theorem FT.trans {M M' M'' : Mm} (h : FT M M') (h2 : FT M' M'') : FT M M'' := ⟨fun c hc => (h2.1 c hc).trans (h.1 c hc), h2.2.trans h.2⟩
theorem FT_u1 (M : Mm) (j : Nat) (v : Int32) : FT M (u1 M 28 j v) := ⟨fun c hc => u1_o _ _ _ _ hc, rfl⟩
theorem TA_u1 {M : Mm} {t : Nat → Nat} {L j : Nat} (v : Int32) (hj : j ≠ 1) (h : TA M t L) : TA (u1 M 28 j v) t L :=
  ⟨by rw [u1_x (Or.inr (Ne.symm hj))]; exact h.1, h.2.1, h.2.2.1, fun i hi => by rw [u1_o _ _ _ _ (by decide)]; exact h.2.2.2 i hi⟩
theorem u1_at (M : Mm) (c j : Nat) (v : Int32) : (u1 M c j v).1 c j = v := by simp [u1]
theorem soN_lt (b : Nat) : soN b ≤ 2 := by
  unfold soN
  split
  · omega
  · split <;> omega
theorem rn_al {t : Nat → Nat} {L fr : Nat} (h : fr < L) (hs : soN (t fr) = 0) : te t L fr = rnF alB t (L - (fr + 1)) (fr + 1) := by
  have ha : alB (t fr) = true := by
    unfold soN at hs
    split at hs
    · assumption
    · split at hs <;> omega
  unfold te
  rw [if_pos h, if_pos ha, show L - fr = (L - (fr + 1)) + 1 by omega, rnF, if_pos ha]
theorem rn_dg {t : Nat → Nat} {L fr : Nat} (h : fr < L) (hs : soN (t fr) = 1) : te t L fr = rnF dgB t (L - (fr + 1)) (fr + 1) := by
  have ha : ¬ alB (t fr) = true ∧ dgB (t fr) = true := by
    unfold soN at hs
    split at hs
    · omega
    · split at hs
      · exact ⟨by assumption, by assumption⟩
      · omega
  unfold te
  rw [if_pos h, if_neg ha.1, if_pos ha.2, show L - fr = (L - (fr + 1)) + 1 by omega, rnF, if_pos ha.2]
theorem so_al (b : Nat) : (soN b = 0) = (alB b = true) := by
  unfold soN
  split
  · next h => simp [h]
  · next h => split <;> simp [h]
theorem so_dg (b : Nat) : (soN b = 1) = (dgB b = true) := by
  unfold soN
  split
  · next h =>
    have : ¬ dgB b = true := by
      unfold alB at h; unfold dgB
      simp only [decide_eq_true_eq] at h ⊢
      omega
    simp [this]
  · next h => split <;> simp_all
/-- the run of one sort -/
theorem rn_so {t : Nat → Nat} {L : Nat} (s : Nat) (hs : s = 0 ∨ s = 1) : ∃ p : Nat → Bool, (∀ b, (soN b = s) = (p b = true)) ∧ ∀ fr, fr < L → soN (t fr) = s → te t L fr = rnF p t (L - (fr + 1)) (fr + 1) := by
  rcases hs with rfl | rfl
  · exact ⟨alB, so_al, fun fr h h2 => rn_al h h2⟩
  · exact ⟨dgB, so_dg, fun fr h h2 => rn_dg h h2⟩
theorem step_c {M : Mm} {t : Nat → Nat} {L to : Nat} {w : Bool} (h : TA M t L) (hto : to ≤ L) (e3 : M.1 28 3 = nI to) (e5 : M.1 28 5 = bI w) : K 1 mX3_step [.ref 28] M (Rq none (fun M' => TS M' t L (skp t L to) w ∧ FT M M')) := by
  have hL := h.2.1
  have hb := h.2.2.1
  -- the last part: the end of the token
  have run : ∀ fr s (p : Nat → Bool), fr < L → s < 2 → (∀ b, (soN b = s) = (p b = true)) → te t L fr = rnF p t (L - (fr + 1)) (fr + 1) → srt t L fr = s → ∀ f i, i + f = L → fr < i → rnF p t f i = te t L fr → ∀ M1 : Mm, TA M1 t L → M1.1 28 2 = nI fr → M1.1 28 3 = nI i → M1.1 28 4 = nI s → M1.1 28 5 = bI w → FT M M1 → J 1 mX3_step 94 [some (.ref 28)] [] M1 (Rq none (fun M' => TS M' t L fr w ∧ FT M M')) := by
    intro fr s p hfr hs2 hp hte hsr f
    induction f with
    | zero =>
      intro i hi hfi hr M1 g1 g2 g3 g4 g5 g6
      have : i = L := by omega
      subst this
      rw [rnF] at hr
      have x1 := g1.1
      refine J_blk a_X3_step_94 ?_
      simp only [b_X3_step_94, w_aload_n0, w_getf3, w_icmp_ge, w_nil, kd_28, kd_29, ln_29, Option.toList_some, Option.toList_none, List.cons_append, List.nil_append, true_and, and_true, if_true, if_false, true_or, or_true, Nat.reduceAdd, Int.reduceAdd, Bool.false_eq_true, tn_0, tn_1, tn_2, tn_3, tn_4, tn_5, tn_6, tn_7, g3, x1]
      refine ⟨fun _ => ?_, fun c => absurd (Int32.le_refl _) c⟩
      refine J_blk a_X3_step_145 ?_
      simp only [b_X3_step_145, w_vret, kd_28, kd_29, ln_29, Option.toList_some, Option.toList_none, List.cons_append, List.nil_append, true_and, and_true, if_true, if_false, true_or, or_true, Nat.reduceAdd, Int.reduceAdd, Bool.false_eq_true, tn_0, tn_1, tn_2, tn_3, tn_4, tn_5, tn_6, tn_7]
      exact ⟨rfl, ⟨g1, by omega, g2, by rw [g3]; exact congrArg nI hr, by rw [g4, hsr], g5⟩, g6⟩
    | succ f ih =>
      intro i hi hfi hr M1 g1 g2 g3 g4 g5 g6
      have ti : (nI i).toNatClampNeg = i := nI_clamp (by omega)
      have x1 := g1.1
      have xb := g1.2.2.2 i (by omega)
      rw [rnF] at hr
      refine J_blk a_X3_step_94 ?_
      simp only [b_X3_step_94, w_aload_n0, w_getf3, w_icmp_ge, w_nil, kd_28, kd_29, ln_29, Option.toList_some, Option.toList_none, List.cons_append, List.nil_append, true_and, and_true, if_true, if_false, true_or, or_true, Nat.reduceAdd, Int.reduceAdd, Bool.false_eq_true, tn_0, tn_1, tn_2, tn_3, tn_4, tn_5, tn_6, tn_7, g3, x1]
      refine ⟨fun c => absurd c (nI_ge (by omega) (by omega)), fun _ => ?_⟩
      refine J_blk a_X3_step_105 ?_
      simp only [b_X3_step_105, w_aload_n0, w_getf3, w_iconst_2, w_icmp_eq, w_nil, kd_28, kd_29, ln_29, Option.toList_some, Option.toList_none, List.cons_append, List.nil_append, true_and, and_true, if_true, if_false, true_or, or_true, Nat.reduceAdd, Int.reduceAdd, Bool.false_eq_true, tn_0, tn_1, tn_2, tn_3, tn_4, tn_5, tn_6, tn_7, g4]
      refine ⟨fun c => absurd ((nI_eq (b := 2) (by omega) (by decide)).mp c) (by omega), fun _ => ?_⟩
      refine J_blk a_X3_step_113 ?_
      simp only [b_X3_step_113, w_aload_n0, w_getf3, ne0_1, w_iald, w_nil, kd_28, kd_29, ln_29, Option.toList_some, Option.toList_none, List.cons_append, List.nil_append, true_and, and_true, if_true, if_false, true_or, or_true, Nat.reduceAdd, Int.reduceAdd, Bool.false_eq_true, tn_0, tn_1, tn_2, tn_3, tn_4, tn_5, tn_6, tn_7, g3, ti, xb]
      refine ⟨vinN (show i < 200 by omega) (by decide), ?_⟩
      refine J_callSr (sortOf_c (t i) M1 (hb i)) k_X3_step_122 o_X3_sortOf rfl (by decide) rfl (Nat.le_of_ble_eq_true rfl) ?_
      have so2 := soN_lt (t i)
      have eqs : (nI (soN (t i)) = nI s) = (soN (t i) = s) := propext (nI_eq (by omega) (by omega))
      refine J_blk a_X3_step_125 ?_
      simp only [b_X3_step_125, w_aload_n0, w_getf3, w_icmp_ne, w_nil, kd_28, kd_29, ln_29, Option.toList_some, Option.toList_none, List.cons_append, List.nil_append, true_and, and_true, if_true, if_false, true_or, or_true, Nat.reduceAdd, Int.reduceAdd, Bool.false_eq_true, tn_0, tn_1, tn_2, tn_3, tn_4, tn_5, tn_6, tn_7, g4, eqs]
      refine ⟨fun c => ?_, fun c => ?_⟩
      · rw [hp] at c
        rw [if_neg c] at hr
        refine J_blk a_X3_step_145 ?_
        simp only [b_X3_step_145, w_vret, kd_28, kd_29, ln_29, Option.toList_some, Option.toList_none, List.cons_append, List.nil_append, true_and, and_true, if_true, if_false, true_or, or_true, Nat.reduceAdd, Int.reduceAdd, Bool.false_eq_true, tn_0, tn_1, tn_2, tn_3, tn_4, tn_5, tn_6, tn_7]
        exact ⟨rfl, ⟨g1, by omega, g2, by rw [g3, hr], by rw [g4, hsr], g5⟩, g6⟩
      · have c' : p (t i) = true := by rw [← hp]; exact c
        rw [if_pos c'] at hr
        refine J_blk a_X3_step_132 ?_
        simp only [b_X3_step_132, w_aload_n0, w_dup_i, w_dup_a, w_getf3, w_iconst_1, w_iadd, w_putf3, w_goto, kd_28, kd_29, ln_29, Option.toList_some, Option.toList_none, List.cons_append, List.nil_append, true_and, and_true, if_true, if_false, true_or, or_true, Nat.reduceAdd, Int.reduceAdd, Bool.false_eq_true, tn_0, tn_1, tn_2, tn_3, tn_4, tn_5, tn_6, tn_7, g3, nI_1]
        exact ih (i + 1) (by omega) (by omega) hr _ (TA_u1 _ (by decide) g1) (by rw [u1_x (Or.inr (by decide))]; exact g2) (u1_at _ _ _ _) (by rw [u1_x (Or.inr (by decide))]; exact g4) (by rw [u1_x (Or.inr (by decide))]; exact g5) (g6.trans (FT_u1 _ _ _))
  -- the middle: what begins
  have mid : ∀ fr, fr = skp t L to → fr ≤ L → ∀ M1 : Mm, TA M1 t L → M1.1 28 2 = nI fr → M1.1 28 5 = bI w → FT M M1 → J 1 mX3_step 46 [some (.ref 28)] [] M1 (Rq none (fun M' => TS M' t L (skp t L to) w ∧ FT M M')) := by
    intro fr hfr hle M1 g1 g2 g5 g6
    rw [← hfr]
    have x1 := g1.1
    have fin : ∀ s, s = srt t L fr → ∀ M1 : Mm, TA M1 t L → M1.1 28 2 = nI fr → M1.1 28 5 = bI w → FT M M1 → J 1 mX3_step 74 [some (.ref 28)] [.int (nI s), .ref 28] M1 (Rq none (fun M' => TS M' t L fr w ∧ FT M M')) := by
      intro s hs M1 g1 g2 g5 g6
      have x1 := g1.1
      have y1 : (u1 M1 28 4 (nI s)).1 28 1 = nI L := by rw [u1_x (Or.inr (by decide))]; exact x1
      have y2 : (u1 M1 28 4 (nI s)).1 28 2 = nI fr := by rw [u1_x (Or.inr (by decide))]; exact g2
      have y5 : (u1 M1 28 4 (nI s)).1 28 5 = bI w := by rw [u1_x (Or.inr (by decide))]; exact g5
      have y4 : (u1 M1 28 4 (nI s)).1 28 4 = nI s := u1_at _ _ _ _
      have yA := TA_u1 (nI s) (show (4 : Nat) ≠ 1 by decide) g1
      have yF := g6.trans (FT_u1 M1 4 (nI s))
      refine J_blk a_X3_step_74 ?_
      simp only [b_X3_step_74, w_putf3, w_aload_n0, w_getf3, w_iconst_1, w_iadd, w_nil, kd_28, kd_29, ln_29, Option.toList_some, Option.toList_none, List.cons_append, List.nil_append, true_and, and_true, if_true, if_false, true_or, or_true, Nat.reduceAdd, Int.reduceAdd, Bool.false_eq_true, tn_0, tn_1, tn_2, tn_3, tn_4, tn_5, tn_6, tn_7, y1, y2, nI_1]
      generalize u1 M1 28 4 (nI s) = M2 at *
      refine J_min z_X3_step_88 (by decide) (Nat.le_of_ble_eq_true rfl) ?_
      by_cases hlt : fr < L
      · rw [if_neg (nI_nlt (show fr + 1 ≤ L by omega) (by omega))]
        refine J_blk a_X3_step_91 ?_
        simp only [b_X3_step_91, w_putf3, w_nil, kd_28, kd_29, ln_29, Option.toList_some, Option.toList_none, List.cons_append, List.nil_append, true_and, and_true, if_true, if_false, true_or, or_true, Nat.reduceAdd, Int.reduceAdd, Bool.false_eq_true, tn_0, tn_1, tn_2, tn_3, tn_4, tn_5, tn_6, tn_7]
        have z1 : (u1 M2 28 3 (nI (fr + 1))).1 28 1 = nI L := by rw [u1_x (Or.inr (by decide))]; exact y1
        have z2 : (u1 M2 28 3 (nI (fr + 1))).1 28 2 = nI fr := by rw [u1_x (Or.inr (by decide))]; exact y2
        have z3 : (u1 M2 28 3 (nI (fr + 1))).1 28 3 = nI (fr + 1) := u1_at _ _ _ _
        have z4 : (u1 M2 28 3 (nI (fr + 1))).1 28 4 = nI s := by rw [u1_x (Or.inr (by decide))]; exact y4
        have z5 : (u1 M2 28 3 (nI (fr + 1))).1 28 5 = bI w := by rw [u1_x (Or.inr (by decide))]; exact y5
        have zA := TA_u1 (nI (fr + 1)) (show (3 : Nat) ≠ 1 by decide) yA
        have zF := yF.trans (FT_u1 M2 3 (nI (fr + 1)))
        generalize u1 M2 28 3 (nI (fr + 1)) = M3 at *
        have hs' : soN (t fr) = s := by rw [hs]; unfold srt; rw [if_pos hlt]
        have s2 := soN_lt (t fr)
        by_cases s01 : s = 0 ∨ s = 1
        · obtain ⟨p, hp, hp2⟩ := rn_so (t := t) (L := L) s s01
          have ht := hp2 fr hlt hs'
          exact run fr s p hlt (by omega) hp ht hs.symm (L - (fr + 1)) (fr + 1) (by omega) (by omega) ht.symm M3 zA z2 z3 z4 z5 zF
        · have s22 : s = 2 := by omega
          have hte : te t L fr = fr + 1 := by
            have n0 : ¬ alB (t fr) = true := by rw [← so_al]; omega
            have n1 : ¬ dgB (t fr) = true := by rw [← so_dg]; omega
            unfold te
            rw [if_pos hlt, if_neg n0, if_neg n1]
          have out : TS M3 t L fr w := ⟨zA, by omega, z2, by rw [z3, hte], by rw [z4, hs], z5⟩
          refine J_blk a_X3_step_94 ?_
          simp only [b_X3_step_94, w_aload_n0, w_getf3, w_icmp_ge, w_nil, kd_28, kd_29, ln_29, Option.toList_some, Option.toList_none, List.cons_append, List.nil_append, true_and, and_true, if_true, if_false, true_or, or_true, Nat.reduceAdd, Int.reduceAdd, Bool.false_eq_true, tn_0, tn_1, tn_2, tn_3, tn_4, tn_5, tn_6, tn_7, z3, z1]
          refine ⟨fun _ => ?_, fun _ => ?_⟩
          · refine J_blk a_X3_step_145 ?_
            simp only [b_X3_step_145, w_vret, kd_28, kd_29, ln_29, Option.toList_some, Option.toList_none, List.cons_append, List.nil_append, true_and, and_true, if_true, if_false, true_or, or_true, Nat.reduceAdd, Int.reduceAdd, Bool.false_eq_true, tn_0, tn_1, tn_2, tn_3, tn_4, tn_5, tn_6, tn_7]
            exact ⟨rfl, out, zF⟩
          · refine J_blk a_X3_step_105 ?_
            simp only [b_X3_step_105, w_aload_n0, w_getf3, w_iconst_2, w_icmp_eq, w_nil, kd_28, kd_29, ln_29, Option.toList_some, Option.toList_none, List.cons_append, List.nil_append, true_and, and_true, if_true, if_false, true_or, or_true, Nat.reduceAdd, Int.reduceAdd, Bool.false_eq_true, tn_0, tn_1, tn_2, tn_3, tn_4, tn_5, tn_6, tn_7, z4]
            refine ⟨fun _ => ?_, fun c => absurd (by rw [s22]; rfl) c⟩
            refine J_blk a_X3_step_145 ?_
            simp only [b_X3_step_145, w_vret, kd_28, kd_29, ln_29, Option.toList_some, Option.toList_none, List.cons_append, List.nil_append, true_and, and_true, if_true, if_false, true_or, or_true, Nat.reduceAdd, Int.reduceAdd, Bool.false_eq_true, tn_0, tn_1, tn_2, tn_3, tn_4, tn_5, tn_6, tn_7]
            exact ⟨rfl, out, zF⟩
      · have hLe : fr = L := by have := yA.2.1; omega
        rw [if_pos (nI_lt (show L < fr + 1 by omega) (by omega))]
        refine J_blk a_X3_step_91 ?_
        simp only [b_X3_step_91, w_putf3, w_nil, kd_28, kd_29, ln_29, Option.toList_some, Option.toList_none, List.cons_append, List.nil_append, true_and, and_true, if_true, if_false, true_or, or_true, Nat.reduceAdd, Int.reduceAdd, Bool.false_eq_true, tn_0, tn_1, tn_2, tn_3, tn_4, tn_5, tn_6, tn_7]
        have z1 : (u1 M2 28 3 (nI L)).1 28 1 = nI L := by rw [u1_x (Or.inr (by decide))]; exact y1
        have z2 : (u1 M2 28 3 (nI L)).1 28 2 = nI fr := by rw [u1_x (Or.inr (by decide))]; exact y2
        have z3 : (u1 M2 28 3 (nI L)).1 28 3 = nI L := u1_at _ _ _ _
        have z4 : (u1 M2 28 3 (nI L)).1 28 4 = nI s := by rw [u1_x (Or.inr (by decide))]; exact y4
        have z5 : (u1 M2 28 3 (nI L)).1 28 5 = bI w := by rw [u1_x (Or.inr (by decide))]; exact y5
        have zA := TA_u1 (nI L) (show (3 : Nat) ≠ 1 by decide) yA
        have zF := yF.trans (FT_u1 M2 3 (nI L))
        generalize u1 M2 28 3 (nI L) = M3 at *
        have hte : te t L fr = L := by unfold te; rw [if_neg hlt]; exact hLe
        refine J_blk a_X3_step_94 ?_
        simp only [b_X3_step_94, w_aload_n0, w_getf3, w_icmp_ge, w_nil, kd_28, kd_29, ln_29, Option.toList_some, Option.toList_none, List.cons_append, List.nil_append, true_and, and_true, if_true, if_false, true_or, or_true, Nat.reduceAdd, Int.reduceAdd, Bool.false_eq_true, tn_0, tn_1, tn_2, tn_3, tn_4, tn_5, tn_6, tn_7, z3, z1]
        refine ⟨fun _ => ?_, fun c => absurd (Int32.le_refl _) c⟩
        refine J_blk a_X3_step_145 ?_
        simp only [b_X3_step_145, w_vret, kd_28, kd_29, ln_29, Option.toList_some, Option.toList_none, List.cons_append, List.nil_append, true_and, and_true, if_true, if_false, true_or, or_true, Nat.reduceAdd, Int.reduceAdd, Bool.false_eq_true, tn_0, tn_1, tn_2, tn_3, tn_4, tn_5, tn_6, tn_7]
        exact ⟨rfl, ⟨zA, by omega, z2, by rw [z3, hte], by rw [z4, hs], z5⟩, zF⟩
    refine J_blk a_X3_step_46 ?_
    simp only [b_X3_step_46, w_aload_n0, w_getf3, w_icmp_ge, w_nil, kd_28, kd_29, ln_29, Option.toList_some, Option.toList_none, List.cons_append, List.nil_append, true_and, and_true, if_true, if_false, true_or, or_true, Nat.reduceAdd, Int.reduceAdd, Bool.false_eq_true, tn_0, tn_1, tn_2, tn_3, tn_4, tn_5, tn_6, tn_7, g2, x1]
    refine ⟨fun c => ?_, fun c => ?_⟩
    · have hn : ¬ fr < L := fun q => absurd c (nI_ge q (by omega))
      refine J_blk a_X3_step_73 ?_
      simp only [b_X3_step_73, w_iconst_2, w_nil, kd_28, kd_29, ln_29, Option.toList_some, Option.toList_none, List.cons_append, List.nil_append, true_and, and_true, if_true, if_false, true_or, or_true, Nat.reduceAdd, Int.reduceAdd, Bool.false_eq_true, tn_0, tn_1, tn_2, tn_3, tn_4, tn_5, tn_6, tn_7]
      exact fin 2 (by unfold srt; rw [if_neg hn]) M1 g1 g2 g5 g6
    · have hlt : fr < L := by
        rcases Nat.lt_or_ge fr L with q | q
        · exact q
        · exact absurd (nI_le q (by omega)) c
      have tf : (nI fr).toNatClampNeg = fr := nI_clamp (by omega)
      have xb := g1.2.2.2 fr hlt
      refine J_blk a_X3_step_58 ?_
      simp only [b_X3_step_58, w_aload_n0, w_getf3, ne0_1, w_iald, w_nil, kd_28, kd_29, ln_29, Option.toList_some, Option.toList_none, List.cons_append, List.nil_append, true_and, and_true, if_true, if_false, true_or, or_true, Nat.reduceAdd, Int.reduceAdd, Bool.false_eq_true, tn_0, tn_1, tn_2, tn_3, tn_4, tn_5, tn_6, tn_7, g2, tf, xb]
      refine ⟨vinN (show fr < 200 by omega) (by decide), ?_⟩
      refine J_callSr (sortOf_c (t fr) M1 (hb fr)) k_X3_step_67 o_X3_sortOf rfl (by decide) rfl (Nat.le_of_ble_eq_true rfl) ?_
      refine J_blk a_X3_step_70 ?_
      simp only [b_X3_step_70, w_goto, kd_28, kd_29, ln_29, Option.toList_some, Option.toList_none, List.cons_append, List.nil_append, true_and, and_true, if_true, if_false, true_or, or_true, Nat.reduceAdd, Int.reduceAdd, Bool.false_eq_true, tn_0, tn_1, tn_2, tn_3, tn_4, tn_5, tn_6, tn_7]
      exact fin _ (by unfold srt; rw [if_pos hlt]) M1 g1 g2 g5 g6
  -- the blanks
  have skip : ∀ f i, i + f = L → skF t f i = skp t L to → ∀ M1 : Mm, TA M1 t L → M1.1 28 2 = nI i → M1.1 28 5 = bI w → FT M M1 → J 1 mX3_step 8 [some (.ref 28)] [] M1 (Rq none (fun M' => TS M' t L (skp t L to) w ∧ FT M M')) := by
    intro f
    induction f with
    | zero =>
      intro i hi hk M1 g1 g2 g5 g6
      have x1 := g1.1
      have hiL : i = L := by omega
      rw [skF] at hk
      refine J_blk a_X3_step_8 ?_
      simp only [b_X3_step_8, w_aload_n0, w_getf3, w_icmp_ge, w_nil, kd_28, kd_29, ln_29, Option.toList_some, Option.toList_none, List.cons_append, List.nil_append, true_and, and_true, if_true, if_false, true_or, or_true, Nat.reduceAdd, Int.reduceAdd, Bool.false_eq_true, tn_0, tn_1, tn_2, tn_3, tn_4, tn_5, tn_6, tn_7, g2, x1]
      refine ⟨fun _ => mid i hk (by omega) M1 g1 g2 g5 g6, fun c => absurd (nI_le (show L ≤ i by omega) (by omega)) c⟩
    | succ f ih =>
      intro i hi hk M1 g1 g2 g5 g6
      have x1 := g1.1
      have ti : (nI i).toNatClampNeg = i := nI_clamp (by omega)
      have xb := g1.2.2.2 i (by omega)
      have h32 : (nI (t i) = 32) = (t i = 32) := propext (nI_eq (b := 32) (by have := hb i; omega) (by decide))
      rw [skF] at hk
      refine J_blk a_X3_step_8 ?_
      simp only [b_X3_step_8, w_aload_n0, w_getf3, w_icmp_ge, w_nil, kd_28, kd_29, ln_29, Option.toList_some, Option.toList_none, List.cons_append, List.nil_append, true_and, and_true, if_true, if_false, true_or, or_true, Nat.reduceAdd, Int.reduceAdd, Bool.false_eq_true, tn_0, tn_1, tn_2, tn_3, tn_4, tn_5, tn_6, tn_7, g2, x1]
      refine ⟨fun c => absurd c (nI_ge (by omega) (by omega)), fun _ => ?_⟩
      refine J_blk a_X3_step_19 ?_
      simp only [b_X3_step_19, w_aload_n0, w_getf3, ne0_1, w_iald, w_bipush, ci_32, w_icmp_ne, w_nil, kd_28, kd_29, ln_29, Option.toList_some, Option.toList_none, List.cons_append, List.nil_append, true_and, and_true, if_true, if_false, true_or, or_true, Nat.reduceAdd, Int.reduceAdd, Bool.false_eq_true, tn_0, tn_1, tn_2, tn_3, tn_4, tn_5, tn_6, tn_7, g2, ti, xb, h32]
      refine ⟨vinN (show i < 200 by omega) (by decide), fun c => ?_, fun c => ?_⟩
      · rw [if_neg c] at hk
        exact mid i hk (by omega) M1 g1 g2 g5 g6
      · have c' : t i = 32 := c
        rw [if_pos c'] at hk
        refine J_blk a_X3_step_33 ?_
        simp only [b_X3_step_33, w_aload_n0, w_dup_i, w_dup_a, w_getf3, w_iconst_1, w_iadd, w_putf3, w_goto, kd_28, kd_29, ln_29, Option.toList_some, Option.toList_none, List.cons_append, List.nil_append, true_and, and_true, if_true, if_false, true_or, or_true, Nat.reduceAdd, Int.reduceAdd, Bool.false_eq_true, tn_0, tn_1, tn_2, tn_3, tn_4, tn_5, tn_6, tn_7, g2, nI_1]
        exact ih (i + 1) (by omega) hk _ (TA_u1 _ (by decide) g1) (u1_at _ _ _ _) (by rw [u1_x (Or.inr (by decide))]; exact g5) (g6.trans (FT_u1 _ _ _))
  refine K_go 0 o_X3_step [] rfl (Nat.le_of_ble_eq_true rfl) ?_
  simp only [lvA_i, lvA_a, lvA_l, lvA_nil, List.cons_append, List.nil_append]
  refine J_blk a_X3_step_0 ?_
  simp only [b_X3_step_0, w_aload_n0, w_getf3, w_putf3, w_nil, kd_28, kd_29, ln_29, Option.toList_some, Option.toList_none, List.cons_append, List.nil_append, true_and, and_true, if_true, if_false, true_or, or_true, Nat.reduceAdd, Int.reduceAdd, Bool.false_eq_true, tn_0, tn_1, tn_2, tn_3, tn_4, tn_5, tn_6, tn_7, e3]
  exact skip (L - to) to (by omega) rfl _ (TA_u1 _ (by decide) h) (u1_at _ _ _ _) (by rw [u1_x (Or.inr (by decide))]; exact e5) (FT_u1 _ _ _)
theorem TS.step {M : Mm} {t : Nat → Nat} {L fr : Nat} {w : Bool} (h : TS M t L fr w) : K 1 mX3_step [.ref 28] M (Rq none (fun M' => TS M' t L (nx t L fr) w ∧ FT M M')) := step_c h.1 (te_le t h.2.1).1 h.2.2.2.1 h.2.2.2.2.2

