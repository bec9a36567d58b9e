/-! the class: rows for its own calls; its helpers -/
def ZM (mi : MI) (pc : Nat) (y : MethodName) : Prop := ∃ i, decode mi.2.1 pc = .ok (.invokestatic i, 3) ∧ Cond.methodLink mi.1.cls i y ∈ gw
section ZR
variable {n : Nat} {mi : MI} {pc : Nat} {lv : LVs} {st : List Value} {M : Mm} {P : Option Value → Mm → Prop}
theorem J_max {x y : Int32} (z : ZM mi pc Lib.Math.max.name) (hn : 1 ≤ n) (hr : (st.map fun v => v.category).sum + 13 ≤ 60) (h : J n mi (pc + 3) lv (.int (if x < y then y else x) :: st) M P) : J n mi pc lv (.int y :: .int x :: st) M P := by
  obtain ⟨i, h1, h2⟩ := z
  exact J_mmax h1 h2 (in_gw 423 (by decide +kernel) rfl) (in_gw 66 (by decide +kernel) rfl) (in_gw 424 (by decide +kernel) rfl) hn hr h
theorem J_min {x y : Int32} (z : ZM mi pc Lib.Math.min.name) (hn : 1 ≤ n) (hr : (st.map fun v => v.category).sum + 13 ≤ 60) (h : J n mi (pc + 3) lv (.int (if y < x then y else x) :: st) M P) : J n mi pc lv (.int y :: .int x :: st) M P := by
  obtain ⟨i, h1, h2⟩ := z
  exact J_mmin h1 h2 (in_gw 318 (by decide +kernel) rfl) (in_gw 66 (by decide +kernel) rfl) (in_gw 319 (by decide +kernel) rfl) hn hr h
theorem cp_cpN (M : Mm) (c1 : Nat) (f : Nat → Int32) (k : Nat) : cp M c1 f 0 0 k = su M c1 (cpN f (M.1 c1) k) := by
  apply mmx
  · intro a j
    by_cases h : a = c1
    · subst h
      simp only [cp, su, if_true]
      by_cases hj : j < k
      · rw [pk_cpy_in (by omega) (by omega)]; simp [cpN, hj]
      · rw [pk_cpy_out (by omega)]; simp [cpN, hj]
    · simp [cp, su, h]
  · rfl
theorem J_cpy {c0 c1 k : Nat} {kk : Int32} (z : ZM mi pc arraycopyName) (hn : 1 ≤ n) (hr : (st.map fun v => v.category).sum + (nativeFrameWords "java/lang/System" "arraycopy" 5 + 11) ≤ 60) (hk : kk = nI k) (hk2 : k < 100) (ho0 : kd c0 = 7) (ho1 : kd c1 = 7) (h4 : k ≤ ln c0) (h5 : k ≤ ln c1) (h : J n mi (pc + 3) lv st (su M c1 (cpN (M.1 c0) (M.1 c1) k)) P) : J n mi pc lv (.int kk :: .int 0 :: .ref c1 :: .int 0 :: .ref c0 :: st) M P := by
  subst hk
  obtain ⟨i, h1, h2⟩ := z
  have ek : (nI k).toNatClampNeg = k := nI_clamp (by omega)
  refine J_copy h1 h2 (in_gw 309 (by decide +kernel) rfl) (in_gw 308 (by decide +kernel) rfl) (in_gw 65 (by decide +kernel) rfl) hn hr ho0 ho1 (by decide) (by decide) (nI_pos (by omega)) (by rw [ek]; show 0 + k ≤ ln c0; omega) (by rw [ek]; show 0 + k ≤ ln c1; omega) ?_
  rw [ek, show (0 : Int32).toNatClampNeg = 0 from rfl, cp_cpN]
  exact h
theorem J_getsF {i : Nat} (hd : decode mi.2.1 pc = .ok (.getstatic i, 3)) (hw : Cond.fieldLink mi.1.cls i "jdk/internal/util/Preconditions" "SIOOBE_FORMATTER" "Ljava/util/function/BiFunction;" ∈ gw) (h1 : J n mi (pc + 3) lv (.null :: st) M P) (h2 : J n mi (pc + 3) lv (.ref 96 :: st) M P) : J n mi pc lv st M P := by
  intro l p e R s m args below meth c g A cells slots Q X hret H locs ls hH hl
  rcases X.2.2.2.2.2.2.2.1.2.2.2.2.2.2.2.2 with hz | hz
  · exact va_gets X.1 X.2.1 hz hH.2.1 X.2.2.2.1 (X.2.2.2.2.1 _ (gw_ws hw)) (fun _ h9 => h9) hd (h1 l p e R s m args below meth c g A cells slots Q X hret H locs ls hH hl)
  · exact va_gets X.1 X.2.1 hz hH.2.1 X.2.2.2.1 (X.2.2.2.2.1 _ (gw_ws hw)) (fun _ h9 => h9) hd (h2 l p e R s m args below meth c g A cells slots Q X hret H locs ls hH hl)
end ZR
theorem z_X3_tellBranch_65 : ZM mX3_tellBranch 65 Lib.Math.max.name := ⟨83, by decide +kernel, in_gw 422 (by decide +kernel) rfl⟩
theorem z_X3_tellBranch_71 : ZM mX3_tellBranch 71 Lib.Math.max.name := ⟨83, by decide +kernel, in_gw 422 (by decide +kernel) rfl⟩
theorem z_X3_step_88 : ZM mX3_step 88 Lib.Math.min.name := ⟨145, by decide +kernel, in_gw 317 (by decide +kernel) rfl⟩
theorem z_X4_copyFrom_15 : ZM mX4_copyFrom 15 arraycopyName := ⟨63, by decide +kernel, in_gw 307 (by decide +kernel) rfl⟩
theorem z_X4_copyFrom_30 : ZM mX4_copyFrom 30 arraycopyName := ⟨63, by decide +kernel, in_gw 307 (by decide +kernel) rfl⟩
theorem z_X4_copyFrom_45 : ZM mX4_copyFrom 45 arraycopyName := ⟨63, by decide +kernel, in_gw 307 (by decide +kernel) rfl⟩
theorem z_X4_copyFrom_60 : ZM mX4_copyFrom 60 arraycopyName := ⟨63, by decide +kernel, in_gw 307 (by decide +kernel) rfl⟩
theorem z_X4_copyFrom_75 : ZM mX4_copyFrom 75 arraycopyName := ⟨63, by decide +kernel, in_gw 307 (by decide +kernel) rfl⟩
theorem z_X4_copyFrom_90 : ZM mX4_copyFrom 90 arraycopyName := ⟨63, by decide +kernel, in_gw 307 (by decide +kernel) rfl⟩
theorem z_X4_clear_14 : ZM mX4_clear 14 arraycopyName := ⟨63, by decide +kernel, in_gw 307 (by decide +kernel) rfl⟩
theorem z_X4_passYear_36 : ZM mX4_passYear 36 Lib.Math.max.name := ⟨98, by decide +kernel, in_gw 567 (by decide +kernel) rfl⟩
theorem z_X4_passYear_77 : ZM mX4_passYear 77 Lib.Math.min.name := ⟨108, by decide +kernel, in_gw 578 (by decide +kernel) rfl⟩
theorem z_X4_growOrLie_51 : ZM mX4_growOrLie 51 Lib.Math.min.name := ⟨108, by decide +kernel, in_gw 578 (by decide +kernel) rfl⟩
theorem z_X4_growOrLie_78 : ZM mX4_growOrLie 78 Lib.Math.min.name := ⟨108, by decide +kernel, in_gw 578 (by decide +kernel) rfl⟩
theorem z_X5_held_3 : ZM mX5_held 3 Lib.Math.min.name := ⟨301, by decide +kernel, in_gw 576 (by decide +kernel) rfl⟩
theorem z_X5_held_6 : ZM mX5_held 6 Lib.Math.max.name := ⟨306, by decide +kernel, in_gw 577 (by decide +kernel) rfl⟩
def TB (b : Nat) : Prop := b = 1 ∨ b = 10 ∨ b = 19
theorem kb0 {b : Nat} (h : TB b) : kd b = 4 := by rcases h with rfl | rfl | rfl <;> rfl
theorem kb1 {b : Nat} (h : TB b) : kd (b + 1) = 7 := by rcases h with rfl | rfl | rfl <;> rfl
theorem kb2 {b : Nat} (h : TB b) : kd (b + 2) = 7 := by rcases h with rfl | rfl | rfl <;> rfl
theorem kb3 {b : Nat} (h : TB b) : kd (b + 3) = 7 := by rcases h with rfl | rfl | rfl <;> rfl
theorem kb4 {b : Nat} (h : TB b) : kd (b + 4) = 7 := by rcases h with rfl | rfl | rfl <;> rfl
theorem kb5 {b : Nat} (h : TB b) : kd (b + 5) = 7 := by rcases h with rfl | rfl | rfl <;> rfl
theorem kb6 {b : Nat} (h : TB b) : kd (b + 6) = 7 := by rcases h with rfl | rfl | rfl <;> rfl
theorem kb7 {b : Nat} (h : TB b) : kd (b + 7) = 7 := by rcases h with rfl | rfl | rfl <;> rfl
theorem kb8 {b : Nat} (h : TB b) : kd (b + 8) = 7 := by rcases h with rfl | rfl | rfl <;> rfl
theorem lb1 {b : Nat} (h : TB b) : ln (b + 1) = 4 := by rcases h with rfl | rfl | rfl <;> rfl
theorem lb2 {b : Nat} (h : TB b) : ln (b + 2) = 8 := by rcases h with rfl | rfl | rfl <;> rfl
theorem lb3 {b : Nat} (h : TB b) : ln (b + 3) = 8 := by rcases h with rfl | rfl | rfl <;> rfl
theorem lb4 {b : Nat} (h : TB b) : ln (b + 4) = 8 := by rcases h with rfl | rfl | rfl <;> rfl
theorem lb5 {b : Nat} (h : TB b) : ln (b + 5) = 8 := by rcases h with rfl | rfl | rfl <;> rfl
theorem lb6 {b : Nat} (h : TB b) : ln (b + 6) = 8 := by rcases h with rfl | rfl | rfl <;> rfl
theorem lb7 {b : Nat} (h : TB b) : ln (b + 7) = 9 := by rcases h with rfl | rfl | rfl <;> rfl
theorem lb8 {b : Nat} (h : TB b) : ln (b + 8) = 9 := by rcases h with rfl | rfl | rfl <;> rfl
theorem within_c (v lo hi : Int32) (M : Mm) : K 0 mX5_within [.int v, .int lo, .int hi] M (Rt (some (.int (if lo ≤ v ∧ v ≤ hi then 1 else 0))) M) := by
  refine K_go 3 o_X5_within [] rfl (Nat.le_of_ble_eq_true rfl) ?_
  simp only [lvA_i, lvA_a, lvA_l, lvA_nil, List.cons_append, List.nil_append]
  refine J_blk a_X5_within_0 ?_
  simp only [b_X5_within_0, w_iload_n0, w_iload_n1, w_icmp_lt, w_nil, kd_0, kd_1, kd_2, kd_3, kd_4, kd_5, kd_6, kd_7, kd_10, kd_11, kd_12, kd_13, kd_14, kd_15, kd_16, kd_19, kd_28, kd_29, kd_30, kd_31, kd_32, kd_33, kd_34, kd_35, kd_36, kd_37, kd_38, kd_39, kd_40, kd_41, kd_42, kd_43, kd_44, kd_45, ln_2, ln_3, ln_4, ln_5, ln_6, ln_7, ln_11, ln_12, ln_13, ln_14, ln_15, ln_16, ln_29, ln_30, ln_32, ln_33, ln_34, ln_35, ln_36, ln_37, ln_38, ln_40, ln_41, ln_42, ln_43, ln_45, Option.toList_some, Option.toList_none, List.cons_append, List.nil_append, true_and, and_true, if_true, if_false, true_or, or_true, Nat.reduceAdd, Int.reduceAdd, Bool.false_eq_true, tn_0, tn_1, tn_2, tn_3, tn_4, tn_5, tn_6, tn_7]
  refine ⟨fun c1 => ?_, fun c1 => ?_⟩
  · refine J_blk a_X5_within_14 ?_
    simp only [b_X5_within_14, w_iconst_0, w_nil, kd_0, kd_1, kd_2, kd_3, kd_4, kd_5, kd_6, kd_7, kd_10, kd_11, kd_12, kd_13, kd_14, kd_15, kd_16, kd_19, kd_28, kd_29, kd_30, kd_31, kd_32, kd_33, kd_34, kd_35, kd_36, kd_37, kd_38, kd_39, kd_40, kd_41, kd_42, kd_43, kd_44, kd_45, ln_2, ln_3, ln_4, ln_5, ln_6, ln_7, ln_11, ln_12, ln_13, ln_14, ln_15, ln_16, ln_29, ln_30, ln_32, ln_33, ln_34, ln_35, ln_36, ln_37, ln_38, ln_40, ln_41, ln_42, ln_43, ln_45, Option.toList_some, Option.toList_none, List.cons_append, List.nil_append, true_and, and_true, if_true, if_false, true_or, or_true, Nat.reduceAdd, Int.reduceAdd, Bool.false_eq_true, tn_0, tn_1, tn_2, tn_3, tn_4, tn_5, tn_6, tn_7]
    refine J_blk a_X5_within_15 ?_
    simp only [b_X5_within_15, w_iretz, kd_0, kd_1, kd_2, kd_3, kd_4, kd_5, kd_6, kd_7, kd_10, kd_11, kd_12, kd_13, kd_14, kd_15, kd_16, kd_19, kd_28, kd_29, kd_30, kd_31, kd_32, kd_33, kd_34, kd_35, kd_36, kd_37, kd_38, kd_39, kd_40, kd_41, kd_42, kd_43, kd_44, kd_45, ln_2, ln_3, ln_4, ln_5, ln_6, ln_7, ln_11, ln_12, ln_13, ln_14, ln_15, ln_16, ln_29, ln_30, ln_32, ln_33, ln_34, ln_35, ln_36, ln_37, ln_38, ln_40, ln_41, ln_42, ln_43, ln_45, Option.toList_some, Option.toList_none, List.cons_append, List.nil_append, true_and, and_true, if_true, if_false, true_or, or_true, Nat.reduceAdd, Int.reduceAdd, Bool.false_eq_true, tn_0, tn_1, tn_2, tn_3, tn_4, tn_5, tn_6, tn_7]
    try refine ⟨(by first | exact Or.inl rfl | exact Or.inr rfl), ?_⟩
    exact ⟨by congr 2; (try simp only [Int32.not_lt, Int32.not_le] at *); split <;> grind, rfl⟩
  · refine J_blk a_X5_within_5 ?_
    simp only [b_X5_within_5, w_iload_n0, w_iload_n2, w_icmp_gt, w_nil, kd_0, kd_1, kd_2, kd_3, kd_4, kd_5, kd_6, kd_7, kd_10, kd_11, kd_12, kd_13, kd_14, kd_15, kd_16, kd_19, kd_28, kd_29, kd_30, kd_31, kd_32, kd_33, kd_34, kd_35, kd_36, kd_37, kd_38, kd_39, kd_40, kd_41, kd_42, kd_43, kd_44, kd_45, ln_2, ln_3, ln_4, ln_5, ln_6, ln_7, ln_11, ln_12, ln_13, ln_14, ln_15, ln_16, ln_29, ln_30, ln_32, ln_33, ln_34, ln_35, ln_36, ln_37, ln_38, ln_40, ln_41, ln_42, ln_43, ln_45, Option.toList_some, Option.toList_none, List.cons_append, List.nil_append, true_and, and_true, if_true, if_false, true_or, or_true, Nat.reduceAdd, Int.reduceAdd, Bool.false_eq_true, tn_0, tn_1, tn_2, tn_3, tn_4, tn_5, tn_6, tn_7]
    refine ⟨fun c2 => ?_, fun c2 => ?_⟩
    · refine J_blk a_X5_within_14 ?_
      simp only [b_X5_within_14, w_iconst_0, w_nil, kd_0, kd_1, kd_2, kd_3, kd_4, kd_5, kd_6, kd_7, kd_10, kd_11, kd_12, kd_13, kd_14, kd_15, kd_16, kd_19, kd_28, kd_29, kd_30, kd_31, kd_32, kd_33, kd_34, kd_35, kd_36, kd_37, kd_38, kd_39, kd_40, kd_41, kd_42, kd_43, kd_44, kd_45, ln_2, ln_3, ln_4, ln_5, ln_6, ln_7, ln_11, ln_12, ln_13, ln_14, ln_15, ln_16, ln_29, ln_30, ln_32, ln_33, ln_34, ln_35, ln_36, ln_37, ln_38, ln_40, ln_41, ln_42, ln_43, ln_45, Option.toList_some, Option.toList_none, List.cons_append, List.nil_append, true_and, and_true, if_true, if_false, true_or, or_true, Nat.reduceAdd, Int.reduceAdd, Bool.false_eq_true, tn_0, tn_1, tn_2, tn_3, tn_4, tn_5, tn_6, tn_7]
      refine J_blk a_X5_within_15 ?_
      simp only [b_X5_within_15, w_iretz, kd_0, kd_1, kd_2, kd_3, kd_4, kd_5, kd_6, kd_7, kd_10, kd_11, kd_12, kd_13, kd_14, kd_15, kd_16, kd_19, kd_28, kd_29, kd_30, kd_31, kd_32, kd_33, kd_34, kd_35, kd_36, kd_37, kd_38, kd_39, kd_40, kd_41, kd_42, kd_43, kd_44, kd_45, ln_2, ln_3, ln_4, ln_5, ln_6, ln_7, ln_11, ln_12, ln_13, ln_14, ln_15, ln_16, ln_29, ln_30, ln_32, ln_33, ln_34, ln_35, ln_36, ln_37, ln_38, ln_40, ln_41, ln_42, ln_43, ln_45, Option.toList_some, Option.toList_none, List.cons_append, List.nil_append, true_and, and_true, if_true, if_false, true_or, or_true, Nat.reduceAdd, Int.reduceAdd, Bool.false_eq_true, tn_0, tn_1, tn_2, tn_3, tn_4, tn_5, tn_6, tn_7]
      try refine ⟨(by first | exact Or.inl rfl | exact Or.inr rfl), ?_⟩
      exact ⟨by congr 2; (try simp only [Int32.not_lt, Int32.not_le] at *); split <;> grind, rfl⟩
    · refine J_blk a_X5_within_10 ?_
      simp only [b_X5_within_10, w_iconst_1, w_goto, kd_0, kd_1, kd_2, kd_3, kd_4, kd_5, kd_6, kd_7, kd_10, kd_11, kd_12, kd_13, kd_14, kd_15, kd_16, kd_19, kd_28, kd_29, kd_30, kd_31, kd_32, kd_33, kd_34, kd_35, kd_36, kd_37, kd_38, kd_39, kd_40, kd_41, kd_42, kd_43, kd_44, kd_45, ln_2, ln_3, ln_4, ln_5, ln_6, ln_7, ln_11, ln_12, ln_13, ln_14, ln_15, ln_16, ln_29, ln_30, ln_32, ln_33, ln_34, ln_35, ln_36, ln_37, ln_38, ln_40, ln_41, ln_42, ln_43, ln_45, Option.toList_some, Option.toList_none, List.cons_append, List.nil_append, true_and, and_true, if_true, if_false, true_or, or_true, Nat.reduceAdd, Int.reduceAdd, Bool.false_eq_true, tn_0, tn_1, tn_2, tn_3, tn_4, tn_5, tn_6, tn_7]
      refine J_blk a_X5_within_15 ?_
      simp only [b_X5_within_15, w_iretz, kd_0, kd_1, kd_2, kd_3, kd_4, kd_5, kd_6, kd_7, kd_10, kd_11, kd_12, kd_13, kd_14, kd_15, kd_16, kd_19, kd_28, kd_29, kd_30, kd_31, kd_32, kd_33, kd_34, kd_35, kd_36, kd_37, kd_38, kd_39, kd_40, kd_41, kd_42, kd_43, kd_44, kd_45, ln_2, ln_3, ln_4, ln_5, ln_6, ln_7, ln_11, ln_12, ln_13, ln_14, ln_15, ln_16, ln_29, ln_30, ln_32, ln_33, ln_34, ln_35, ln_36, ln_37, ln_38, ln_40, ln_41, ln_42, ln_43, ln_45, Option.toList_some, Option.toList_none, List.cons_append, List.nil_append, true_and, and_true, if_true, if_false, true_or, or_true, Nat.reduceAdd, Int.reduceAdd, Bool.false_eq_true, tn_0, tn_1, tn_2, tn_3, tn_4, tn_5, tn_6, tn_7]
      try refine ⟨(by first | exact Or.inl rfl | exact Or.inr rfl), ?_⟩
      exact ⟨by congr 2; (try simp only [Int32.not_lt, Int32.not_le] at *); split <;> grind, rfl⟩
theorem z01 (p : Prop) [Decidable p] : (if p then (1 : Int32) else 0) = 0 ∨ (if p then (1 : Int32) else 0) = 1 := by
  split
  · exact Or.inr rfl
  · exact Or.inl rfl
theorem isLaw_c (v : Int32) (M : Mm) : K 1 mX5_isLaw [.int v] M (Rt (some (.int (if 0 ≤ v ∧ v ≤ 3 then 1 else 0))) M) := by
  refine K_go 1 o_X5_isLaw [] rfl (Nat.le_of_ble_eq_true rfl) ?_
  simp only [lvA_i, lvA_a, lvA_l, lvA_nil, List.cons_append, List.nil_append]
  refine J_blk a_X5_isLaw_0 ?_
  simp only [b_X5_isLaw_0, w_iload_n0, w_iconst_0, w_iconst_3, w_nil, kd_0, kd_1, kd_2, kd_3, kd_4, kd_5, kd_6, kd_7, kd_10, kd_11, kd_12, kd_13, kd_14, kd_15, kd_16, kd_19, kd_28, kd_29, kd_30, kd_31, kd_32, kd_33, kd_34, kd_35, kd_36, kd_37, kd_38, kd_39, kd_40, kd_41, kd_42, kd_43, kd_44, kd_45, ln_2, ln_3, ln_4, ln_5, ln_6, ln_7, ln_11, ln_12, ln_13, ln_14, ln_15, ln_16, ln_29, ln_30, ln_32, ln_33, ln_34, ln_35, ln_36, ln_37, ln_38, ln_40, ln_41, ln_42, ln_43, ln_45, Option.toList_some, Option.toList_none, List.cons_append, List.nil_append, true_and, and_true, if_true, if_false, true_or, or_true, Nat.reduceAdd, Int.reduceAdd, Bool.false_eq_true, tn_0, tn_1, tn_2, tn_3, tn_4, tn_5, tn_6, tn_7]
  refine J_callSr (within_c _ _ _ _) k_X5_isLaw_3 o_X5_within rfl (by decide) rfl (Nat.le_of_ble_eq_true rfl) ?_
  refine J_blk a_X5_isLaw_6 ?_
  simp only [b_X5_isLaw_6, w_iretz, kd_0, kd_1, kd_2, kd_3, kd_4, kd_5, kd_6, kd_7, kd_10, kd_11, kd_12, kd_13, kd_14, kd_15, kd_16, kd_19, kd_28, kd_29, kd_30, kd_31, kd_32, kd_33, kd_34, kd_35, kd_36, kd_37, kd_38, kd_39, kd_40, kd_41, kd_42, kd_43, kd_44, kd_45, ln_2, ln_3, ln_4, ln_5, ln_6, ln_7, ln_11, ln_12, ln_13, ln_14, ln_15, ln_16, ln_29, ln_30, ln_32, ln_33, ln_34, ln_35, ln_36, ln_37, ln_38, ln_40, ln_41, ln_42, ln_43, ln_45, Option.toList_some, Option.toList_none, List.cons_append, List.nil_append, true_and, and_true, if_true, if_false, true_or, or_true, Nat.reduceAdd, Int.reduceAdd, Bool.false_eq_true, tn_0, tn_1, tn_2, tn_3, tn_4, tn_5, tn_6, tn_7]
  try refine ⟨(by first | exact Or.inl rfl | exact Or.inr rfl), ?_⟩
  exact ⟨z01 _, rfl, rfl⟩
theorem isKind_c (v : Int32) (M : Mm) : K 1 mX5_isKind [.int v] M (Rt (some (.int (if 0 ≤ v ∧ v ≤ 5 then 1 else 0))) M) := by
  refine K_go 1 o_X5_isKind [] rfl (Nat.le_of_ble_eq_true rfl) ?_
  simp only [lvA_i, lvA_a, lvA_l, lvA_nil, List.cons_append, List.nil_append]
  refine J_blk a_X5_isKind_0 ?_
  simp only [b_X5_isKind_0, w_iload_n0, w_iconst_0, w_iconst_5, w_nil, kd_0, kd_1, kd_2, kd_3, kd_4, kd_5, kd_6, kd_7, kd_10, kd_11, kd_12, kd_13, kd_14, kd_15, kd_16, kd_19, kd_28, kd_29, kd_30, kd_31, kd_32, kd_33, kd_34, kd_35, kd_36, kd_37, kd_38, kd_39, kd_40, kd_41, kd_42, kd_43, kd_44, kd_45, ln_2, ln_3, ln_4, ln_5, ln_6, ln_7, ln_11, ln_12, ln_13, ln_14, ln_15, ln_16, ln_29, ln_30, ln_32, ln_33, ln_34, ln_35, ln_36, ln_37, ln_38, ln_40, ln_41, ln_42, ln_43, ln_45, Option.toList_some, Option.toList_none, List.cons_append, List.nil_append, true_and, and_true, if_true, if_false, true_or, or_true, Nat.reduceAdd, Int.reduceAdd, Bool.false_eq_true, tn_0, tn_1, tn_2, tn_3, tn_4, tn_5, tn_6, tn_7]
  refine J_callSr (within_c _ _ _ _) k_X5_isKind_3 o_X5_within rfl (by decide) rfl (Nat.le_of_ble_eq_true rfl) ?_
  refine J_blk a_X5_isKind_6 ?_
  simp only [b_X5_isKind_6, w_iretz, kd_0, kd_1, kd_2, kd_3, kd_4, kd_5, kd_6, kd_7, kd_10, kd_11, kd_12, kd_13, kd_14, kd_15, kd_16, kd_19, kd_28, kd_29, kd_30, kd_31, kd_32, kd_33, kd_34, kd_35, kd_36, kd_37, kd_38, kd_39, kd_40, kd_41, kd_42, kd_43, kd_44, kd_45, ln_2, ln_3, ln_4, ln_5, ln_6, ln_7, ln_11, ln_12, ln_13, ln_14, ln_15, ln_16, ln_29, ln_30, ln_32, ln_33, ln_34, ln_35, ln_36, ln_37, ln_38, ln_40, ln_41, ln_42, ln_43, ln_45, Option.toList_some, Option.toList_none, List.cons_append, List.nil_append, true_and, and_true, if_true, if_false, true_or, or_true, Nat.reduceAdd, Int.reduceAdd, Bool.false_eq_true, tn_0, tn_1, tn_2, tn_3, tn_4, tn_5, tn_6, tn_7]
  try refine ⟨(by first | exact Or.inl rfl | exact Or.inr rfl), ?_⟩
  exact ⟨z01 _, rfl, rfl⟩
theorem isForce_c (v : Int32) (M : Mm) : K 1 mX5_isForce [.int v] M (Rt (some (.int (if 0 ≤ v ∧ v ≤ 9 then 1 else 0))) M) := by
  refine K_go 1 o_X5_isForce [] rfl (Nat.le_of_ble_eq_true rfl) ?_
  simp only [lvA_i, lvA_a, lvA_l, lvA_nil, List.cons_append, List.nil_append]
  refine J_blk a_X5_isForce_0 ?_
  simp only [b_X5_isForce_0, w_iload_n0, w_iconst_0, w_bipush, ci_9, w_nil, kd_0, kd_1, kd_2, kd_3, kd_4, kd_5, kd_6, kd_7, kd_10, kd_11, kd_12, kd_13, kd_14, kd_15, kd_16, kd_19, kd_28, kd_29, kd_30, kd_31, kd_32, kd_33, kd_34, kd_35, kd_36, kd_37, kd_38, kd_39, kd_40, kd_41, kd_42, kd_43, kd_44, kd_45, ln_2, ln_3, ln_4, ln_5, ln_6, ln_7, ln_11, ln_12, ln_13, ln_14, ln_15, ln_16, ln_29, ln_30, ln_32, ln_33, ln_34, ln_35, ln_36, ln_37, ln_38, ln_40, ln_41, ln_42, ln_43, ln_45, Option.toList_some, Option.toList_none, List.cons_append, List.nil_append, true_and, and_true, if_true, if_false, true_or, or_true, Nat.reduceAdd, Int.reduceAdd, Bool.false_eq_true, tn_0, tn_1, tn_2, tn_3, tn_4, tn_5, tn_6, tn_7]
  refine J_callSr (within_c _ _ _ _) k_X5_isForce_4 o_X5_within rfl (by decide) rfl (Nat.le_of_ble_eq_true rfl) ?_
  refine J_blk a_X5_isForce_7 ?_
  simp only [b_X5_isForce_7, w_iretz, kd_0, kd_1, kd_2, kd_3, kd_4, kd_5, kd_6, kd_7, kd_10, kd_11, kd_12, kd_13, kd_14, kd_15, kd_16, kd_19, kd_28, kd_29, kd_30, kd_31, kd_32, kd_33, kd_34, kd_35, kd_36, kd_37, kd_38, kd_39, kd_40, kd_41, kd_42, kd_43, kd_44, kd_45, ln_2, ln_3, ln_4, ln_5, ln_6, ln_7, ln_11, ln_12, ln_13, ln_14, ln_15, ln_16, ln_29, ln_30, ln_32, ln_33, ln_34, ln_35, ln_36, ln_37, ln_38, ln_40, ln_41, ln_42, ln_43, ln_45, Option.toList_some, Option.toList_none, List.cons_append, List.nil_append, true_and, and_true, if_true, if_false, true_or, or_true, Nat.reduceAdd, Int.reduceAdd, Bool.false_eq_true, tn_0, tn_1, tn_2, tn_3, tn_4, tn_5, tn_6, tn_7]
  try refine ⟨(by first | exact Or.inl rfl | exact Or.inr rfl), ?_⟩
  exact ⟨z01 _, rfl, rfl⟩
theorem isAge_c (v : Int32) (M : Mm) : K 1 mX5_isAge [.int v] M (Rt (some (.int (if 0 ≤ v ∧ v ≤ 99 then 1 else 0))) M) := by
  refine K_go 1 o_X5_isAge [] rfl (Nat.le_of_ble_eq_true rfl) ?_
  simp only [lvA_i, lvA_a, lvA_l, lvA_nil, List.cons_append, List.nil_append]
  refine J_blk a_X5_isAge_0 ?_
  simp only [b_X5_isAge_0, w_iload_n0, w_iconst_0, w_bipush, ci_99, w_nil, kd_0, kd_1, kd_2, kd_3, kd_4, kd_5, kd_6, kd_7, kd_10, kd_11, kd_12, kd_13, kd_14, kd_15, kd_16, kd_19, kd_28, kd_29, kd_30, kd_31, kd_32, kd_33, kd_34, kd_35, kd_36, kd_37, kd_38, kd_39, kd_40, kd_41, kd_42, kd_43, kd_44, kd_45, ln_2, ln_3, ln_4, ln_5, ln_6, ln_7, ln_11, ln_12, ln_13, ln_14, ln_15, ln_16, ln_29, ln_30, ln_32, ln_33, ln_34, ln_35, ln_36, ln_37, ln_38, ln_40, ln_41, ln_42, ln_43, ln_45, Option.toList_some, Option.toList_none, List.cons_append, List.nil_append, true_and, and_true, if_true, if_false, true_or, or_true, Nat.reduceAdd, Int.reduceAdd, Bool.false_eq_true, tn_0, tn_1, tn_2, tn_3, tn_4, tn_5, tn_6, tn_7]
  refine J_callSr (within_c _ _ _ _) k_X5_isAge_4 o_X5_within rfl (by decide) rfl (Nat.le_of_ble_eq_true rfl) ?_
  refine J_blk a_X5_isAge_7 ?_
  simp only [b_X5_isAge_7, w_iretz, kd_0, kd_1, kd_2, kd_3, kd_4, kd_5, kd_6, kd_7, kd_10, kd_11, kd_12, kd_13, kd_14, kd_15, kd_16, kd_19, kd_28, kd_29, kd_30, kd_31, kd_32, kd_33, kd_34, kd_35, kd_36, kd_37, kd_38, kd_39, kd_40, kd_41, kd_42, kd_43, kd_44, kd_45, ln_2, ln_3, ln_4, ln_5, ln_6, ln_7, ln_11, ln_12, ln_13, ln_14, ln_15, ln_16, ln_29, ln_30, ln_32, ln_33, ln_34, ln_35, ln_36, ln_37, ln_38, ln_40, ln_41, ln_42, ln_43, ln_45, Option.toList_some, Option.toList_none, List.cons_append, List.nil_append, true_and, and_true, if_true, if_false, true_or, or_true, Nat.reduceAdd, Int.reduceAdd, Bool.false_eq_true, tn_0, tn_1, tn_2, tn_3, tn_4, tn_5, tn_6, tn_7]
  try refine ⟨(by first | exact Or.inl rfl | exact Or.inr rfl), ?_⟩
  exact ⟨z01 _, rfl, rfl⟩
theorem bit_c (set : Int32) {q : Nat} (hq : q < 32) (M : Mm) : K 0 mX5_bit [.int set, .int (nI q)] M (Rt (some (.int (bI (bt set q)))) M) := by
  refine K_go 2 o_X5_bit [] rfl (Nat.le_of_ble_eq_true rfl) ?_
  simp only [lvA_i, lvA_a, lvA_l, lvA_nil, List.cons_append, List.nil_append]
  refine J_blk a_X5_bit_0 ?_
  simp only [b_X5_bit_0, w_iload_n0, w_iload_n1, w_ishr, w_iconst_1, w_iand, w_ireti, kd_0, kd_1, kd_2, kd_3, kd_4, kd_5, kd_6, kd_7, kd_10, kd_11, kd_12, kd_13, kd_14, kd_15, kd_16, kd_19, kd_28, kd_29, kd_30, kd_31, kd_32, kd_33, kd_34, kd_35, kd_36, kd_37, kd_38, kd_39, kd_40, kd_41, kd_42, kd_43, kd_44, kd_45, ln_2, ln_3, ln_4, ln_5, ln_6, ln_7, ln_11, ln_12, ln_13, ln_14, ln_15, ln_16, ln_29, ln_30, ln_32, ln_33, ln_34, ln_35, ln_36, ln_37, ln_38, ln_40, ln_41, ln_42, ln_43, ln_45, Option.toList_some, Option.toList_none, List.cons_append, List.nil_append, true_and, and_true, if_true, if_false, true_or, or_true, Nat.reduceAdd, Int.reduceAdd, Bool.false_eq_true, tn_0, tn_1, tn_2, tn_3, tn_4, tn_5, tn_6, tn_7, bit1 set hq]
  exact ⟨rfl, rfl⟩
theorem isSubset_c (set all : Int32) (M : Mm) : K 0 mX5_isSubset [.int set, .int all] M (Rt (some (.int (if set &&& (all ^^^ -1) = 0 then 1 else 0))) M) := by
  refine K_go 2 o_X5_isSubset [] rfl (Nat.le_of_ble_eq_true rfl) ?_
  simp only [lvA_i, lvA_a, lvA_l, lvA_nil, List.cons_append, List.nil_append]
  refine J_blk a_X5_isSubset_0 ?_
  simp only [b_X5_isSubset_0, w_iload_n0, w_iload_n1, w_iconst_m1, w_ixor, w_iand, w_if_ne, w_nil, kd_0, kd_1, kd_2, kd_3, kd_4, kd_5, kd_6, kd_7, kd_10, kd_11, kd_12, kd_13, kd_14, kd_15, kd_16, kd_19, kd_28, kd_29, kd_30, kd_31, kd_32, kd_33, kd_34, kd_35, kd_36, kd_37, kd_38, kd_39, kd_40, kd_41, kd_42, kd_43, kd_44, kd_45, ln_2, ln_3, ln_4, ln_5, ln_6, ln_7, ln_11, ln_12, ln_13, ln_14, ln_15, ln_16, ln_29, ln_30, ln_32, ln_33, ln_34, ln_35, ln_36, ln_37, ln_38, ln_40, ln_41, ln_42, ln_43, ln_45, Option.toList_some, Option.toList_none, List.cons_append, List.nil_append, true_and, and_true, if_true, if_false, true_or, or_true, Nat.reduceAdd, Int.reduceAdd, Bool.false_eq_true, tn_0, tn_1, tn_2, tn_3, tn_4, tn_5, tn_6, tn_7]
  refine ⟨fun c3 => ?_, fun c3 => ?_⟩
  · refine J_blk a_X5_isSubset_12 ?_
    simp only [b_X5_isSubset_12, w_iconst_0, w_nil, kd_0, kd_1, kd_2, kd_3, kd_4, kd_5, kd_6, kd_7, kd_10, kd_11, kd_12, kd_13, kd_14, kd_15, kd_16, kd_19, kd_28, kd_29, kd_30, kd_31, kd_32, kd_33, kd_34, kd_35, kd_36, kd_37, kd_38, kd_39, kd_40, kd_41, kd_42, kd_43, kd_44, kd_45, ln_2, ln_3, ln_4, ln_5, ln_6, ln_7, ln_11, ln_12, ln_13, ln_14, ln_15, ln_16, ln_29, ln_30, ln_32, ln_33, ln_34, ln_35, ln_36, ln_37, ln_38, ln_40, ln_41, ln_42, ln_43, ln_45, Option.toList_some, Option.toList_none, List.cons_append, List.nil_append, true_and, and_true, if_true, if_false, true_or, or_true, Nat.reduceAdd, Int.reduceAdd, Bool.false_eq_true, tn_0, tn_1, tn_2, tn_3, tn_4, tn_5, tn_6, tn_7]
    refine J_blk a_X5_isSubset_13 ?_
    simp only [b_X5_isSubset_13, w_iretz, kd_0, kd_1, kd_2, kd_3, kd_4, kd_5, kd_6, kd_7, kd_10, kd_11, kd_12, kd_13, kd_14, kd_15, kd_16, kd_19, kd_28, kd_29, kd_30, kd_31, kd_32, kd_33, kd_34, kd_35, kd_36, kd_37, kd_38, kd_39, kd_40, kd_41, kd_42, kd_43, kd_44, kd_45, ln_2, ln_3, ln_4, ln_5, ln_6, ln_7, ln_11, ln_12, ln_13, ln_14, ln_15, ln_16, ln_29, ln_30, ln_32, ln_33, ln_34, ln_35, ln_36, ln_37, ln_38, ln_40, ln_41, ln_42, ln_43, ln_45, Option.toList_some, Option.toList_none, List.cons_append, List.nil_append, true_and, and_true, if_true, if_false, true_or, or_true, Nat.reduceAdd, Int.reduceAdd, Bool.false_eq_true, tn_0, tn_1, tn_2, tn_3, tn_4, tn_5, tn_6, tn_7]
    try refine ⟨(by first | exact Or.inl rfl | exact Or.inr rfl), ?_⟩
    exact ⟨by congr 2; split <;> grind, rfl⟩
  · refine J_blk a_X5_isSubset_8 ?_
    simp only [b_X5_isSubset_8, w_iconst_1, w_goto, kd_0, kd_1, kd_2, kd_3, kd_4, kd_5, kd_6, kd_7, kd_10, kd_11, kd_12, kd_13, kd_14, kd_15, kd_16, kd_19, kd_28, kd_29, kd_30, kd_31, kd_32, kd_33, kd_34, kd_35, kd_36, kd_37, kd_38, kd_39, kd_40, kd_41, kd_42, kd_43, kd_44, kd_45, ln_2, ln_3, ln_4, ln_5, ln_6, ln_7, ln_11, ln_12, ln_13, ln_14, ln_15, ln_16, ln_29, ln_30, ln_32, ln_33, ln_34, ln_35, ln_36, ln_37, ln_38, ln_40, ln_41, ln_42, ln_43, ln_45, Option.toList_some, Option.toList_none, List.cons_append, List.nil_append, true_and, and_true, if_true, if_false, true_or, or_true, Nat.reduceAdd, Int.reduceAdd, Bool.false_eq_true, tn_0, tn_1, tn_2, tn_3, tn_4, tn_5, tn_6, tn_7]
    refine J_blk a_X5_isSubset_13 ?_
    simp only [b_X5_isSubset_13, w_iretz, kd_0, kd_1, kd_2, kd_3, kd_4, kd_5, kd_6, kd_7, kd_10, kd_11, kd_12, kd_13, kd_14, kd_15, kd_16, kd_19, kd_28, kd_29, kd_30, kd_31, kd_32, kd_33, kd_34, kd_35, kd_36, kd_37, kd_38, kd_39, kd_40, kd_41, kd_42, kd_43, kd_44, kd_45, ln_2, ln_3, ln_4, ln_5, ln_6, ln_7, ln_11, ln_12, ln_13, ln_14, ln_15, ln_16, ln_29, ln_30, ln_32, ln_33, ln_34, ln_35, ln_36, ln_37, ln_38, ln_40, ln_41, ln_42, ln_43, ln_45, Option.toList_some, Option.toList_none, List.cons_append, List.nil_append, true_and, and_true, if_true, if_false, true_or, or_true, Nat.reduceAdd, Int.reduceAdd, Bool.false_eq_true, tn_0, tn_1, tn_2, tn_3, tn_4, tn_5, tn_6, tn_7]
    try refine ⟨(by first | exact Or.inl rfl | exact Or.inr rfl), ?_⟩
    exact ⟨by congr 2; split <;> grind, rfl⟩
theorem held_c (v : Int32) (M : Mm) : K 1 mX5_held [.int v, .int 0, .int 9] M (Rt (some (.int (wi v))) M) := by
  have e : (if (0 : Int32) < (if v < 9 then v else 9) then (if v < 9 then v else 9) else 0) = wi v := by
    unfold wi
    by_cases h1 : v < 0
    · have h2 : v < 9 := Int32.lt_trans h1 (by decide)
      have h3 : ¬ 0 < v := Int32.not_lt.mpr (Int32.le_of_lt h1)
      rw [if_pos h1, if_pos h2, if_neg h3]
    · rw [if_neg h1]
      by_cases h2 : v < 9
      · rw [if_pos h2, if_neg (Int32.not_lt.mpr (Int32.le_of_lt h2))]
        by_cases h3 : 0 < v
        · rw [if_pos h3]
        · rw [if_neg h3]; exact Int32.le_antisymm (Int32.not_lt.mp h1) (Int32.not_lt.mp h3)
      · rw [if_neg h2, if_pos (by decide)]
        by_cases h3 : 9 < v
        · rw [if_pos h3]
        · rw [if_neg h3]; exact Int32.le_antisymm (Int32.not_lt.mp h2) (Int32.not_lt.mp h3)
  refine K_go 3 o_X5_held [] rfl (Nat.le_of_ble_eq_true rfl) ?_
  simp only [lvA_i, lvA_a, lvA_l, lvA_nil, List.cons_append, List.nil_append]
  refine J_blk a_X5_held_0 ?_
  simp only [b_X5_held_0, w_iload_n1, w_iload_n2, w_iload_n0, w_nil, kd_0, kd_1, kd_2, kd_3, kd_4, kd_5, kd_6, kd_7, kd_10, kd_11, kd_12, kd_13, kd_14, kd_15, kd_16, kd_19, kd_28, kd_29, kd_30, kd_31, kd_32, kd_33, kd_34, kd_35, kd_36, kd_37, kd_38, kd_39, kd_40, kd_41, kd_42, kd_43, kd_44, kd_45, ln_2, ln_3, ln_4, ln_5, ln_6, ln_7, ln_11, ln_12, ln_13, ln_14, ln_15, ln_16, ln_29, ln_30, ln_32, ln_33, ln_34, ln_35, ln_36, ln_37, ln_38, ln_40, ln_41, ln_42, ln_43, ln_45, Option.toList_some, Option.toList_none, List.cons_append, List.nil_append, true_and, and_true, if_true, if_false, true_or, or_true, Nat.reduceAdd, Int.reduceAdd, Bool.false_eq_true, tn_0, tn_1, tn_2, tn_3, tn_4, tn_5, tn_6, tn_7]
  refine J_min z_X5_held_3 (by decide) (Nat.le_of_ble_eq_true rfl) ?_
  refine J_max z_X5_held_6 (by decide) (Nat.le_of_ble_eq_true rfl) ?_
  refine J_blk a_X5_held_9 ?_
  simp only [b_X5_held_9, w_ireti, kd_0, kd_1, kd_2, kd_3, kd_4, kd_5, kd_6, kd_7, kd_10, kd_11, kd_12, kd_13, kd_14, kd_15, kd_16, kd_19, kd_28, kd_29, kd_30, kd_31, kd_32, kd_33, kd_34, kd_35, kd_36, kd_37, kd_38, kd_39, kd_40, kd_41, kd_42, kd_43, kd_44, kd_45, ln_2, ln_3, ln_4, ln_5, ln_6, ln_7, ln_11, ln_12, ln_13, ln_14, ln_15, ln_16, ln_29, ln_30, ln_32, ln_33, ln_34, ln_35, ln_36, ln_37, ln_38, ln_40, ln_41, ln_42, ln_43, ln_45, Option.toList_some, Option.toList_none, List.cons_append, List.nil_append, true_and, and_true, if_true, if_false, true_or, or_true, Nat.reduceAdd, Int.reduceAdd, Bool.false_eq_true, tn_0, tn_1, tn_2, tn_3, tn_4, tn_5, tn_6, tn_7]
  exact ⟨by rw [← e], rfl⟩
def us (x : Int32) (k : Int32) : Int32 := (x.toUInt32 >>> (k.toUInt32 &&& Int32.toUInt32 31)).toInt32
def bc1 (x : Int32) : Int32 := x - (us x 1 &&& 1431655765)
def bc2 (x : Int32) : Int32 := (x &&& 858993459) + (us x 2 &&& 858993459)
def bc3 (x : Int32) : Int32 := (x + us x 4) &&& 252645135
def bc4 (x : Int32) : Int32 := x + us x 8
def bc5 (x : Int32) : Int32 := (x + us x 16) &&& 63
theorem bc_all : ∀ a, a < 256 → bc5 (bc4 (bc3 (bc2 (bc1 (nI a))))) = nI (pcN a) := by decide +kernel
theorem bitCount_c (a : Nat) (M : Mm) (h : a < 256) : K 0 mJ6_bitCount_0f7a4 [.int (nI a)] M (Rt (some (.int (nI (pcN a)))) M) := by
  rw [← bc_all a h]
  refine K_go 1 o_J6_bitCount_0f7a4 [] rfl (Nat.le_of_ble_eq_true rfl) ?_
  simp only [lvA_i, lvA_a, lvA_l, lvA_nil, List.cons_append, List.nil_append]
  refine J_blk a_J6_bitCount_0f7a4_0 ?_
  simp only [b_J6_bitCount_0f7a4_0, w_iload_n0, w_iconst_1, w_iushr, w_ldcw, ci_1431655765, w_iand, w_isub, w_istore0, nl_0, ci_858993459, w_iconst_2, w_iadd, w_iconst_4, ci_252645135, w_bipush, ci_8, ci_16, ci_63, w_ireti, Option.toList_some, Option.toList_none, List.cons_append, List.nil_append, true_and, and_true, if_true, if_false, true_or, or_true, Nat.reduceAdd, Int.reduceAdd, Bool.false_eq_true, tn_0, tn_1, tn_2, tn_3, tn_4, tn_5, tn_6, tn_7]
  exact ⟨rfl, rfl⟩
theorem isFewer_c (a b : Nat) (M : Mm) (ha : a < 256) (hb : b < 256) : K 1 mX5_isFewer [.int (nI a), .int (nI b)] M (Rt (some (.int (if pcN a < pcN b then 1 else 0))) M) := by
  refine K_go 2 o_X5_isFewer [] rfl (Nat.le_of_ble_eq_true rfl) ?_
  simp only [lvA_i, lvA_a, lvA_l, lvA_nil, List.cons_append, List.nil_append]
  refine J_blk a_X5_isFewer_0 ?_
  simp only [b_X5_isFewer_0, w_iload_n0, w_nil, kd_0, kd_1, kd_2, kd_3, kd_4, kd_5, kd_6, kd_7, kd_10, kd_11, kd_12, kd_13, kd_14, kd_15, kd_16, kd_19, kd_28, kd_29, kd_30, kd_31, kd_32, kd_33, kd_34, kd_35, kd_36, kd_37, kd_38, kd_39, kd_40, kd_41, kd_42, kd_43, kd_44, kd_45, ln_2, ln_3, ln_4, ln_5, ln_6, ln_7, ln_11, ln_12, ln_13, ln_14, ln_15, ln_16, ln_29, ln_30, ln_32, ln_33, ln_34, ln_35, ln_36, ln_37, ln_38, ln_40, ln_41, ln_42, ln_43, ln_45, Option.toList_some, Option.toList_none, List.cons_append, List.nil_append, true_and, and_true, if_true, if_false, true_or, or_true, Nat.reduceAdd, Int.reduceAdd, Bool.false_eq_true, tn_0, tn_1, tn_2, tn_3, tn_4, tn_5, tn_6, tn_7]
  refine J_callSr (bitCount_c a M ha) k_X5_isFewer_1 o_J6_bitCount_0f7a4 rfl (by decide) rfl (Nat.le_of_ble_eq_true rfl) ?_
  refine J_blk a_X5_isFewer_4 ?_
  simp only [b_X5_isFewer_4, w_iload_n1, w_nil, kd_0, kd_1, kd_2, kd_3, kd_4, kd_5, kd_6, kd_7, kd_10, kd_11, kd_12, kd_13, kd_14, kd_15, kd_16, kd_19, kd_28, kd_29, kd_30, kd_31, kd_32, kd_33, kd_34, kd_35, kd_36, kd_37, kd_38, kd_39, kd_40, kd_41, kd_42, kd_43, kd_44, kd_45, ln_2, ln_3, ln_4, ln_5, ln_6, ln_7, ln_11, ln_12, ln_13, ln_14, ln_15, ln_16, ln_29, ln_30, ln_32, ln_33, ln_34, ln_35, ln_36, ln_37, ln_38, ln_40, ln_41, ln_42, ln_43, ln_45, Option.toList_some, Option.toList_none, List.cons_append, List.nil_append, true_and, and_true, if_true, if_false, true_or, or_true, Nat.reduceAdd, Int.reduceAdd, Bool.false_eq_true, tn_0, tn_1, tn_2, tn_3, tn_4, tn_5, tn_6, tn_7]
  refine J_callSr (bitCount_c b M hb) k_X5_isFewer_5 o_J6_bitCount_0f7a4 rfl (by decide) rfl (Nat.le_of_ble_eq_true rfl) ?_
  refine J_blk a_X5_isFewer_8 ?_
  simp only [b_X5_isFewer_8, w_icmp_ge, w_nil, kd_0, kd_1, kd_2, kd_3, kd_4, kd_5, kd_6, kd_7, kd_10, kd_11, kd_12, kd_13, kd_14, kd_15, kd_16, kd_19, kd_28, kd_29, kd_30, kd_31, kd_32, kd_33, kd_34, kd_35, kd_36, kd_37, kd_38, kd_39, kd_40, kd_41, kd_42, kd_43, kd_44, kd_45, ln_2, ln_3, ln_4, ln_5, ln_6, ln_7, ln_11, ln_12, ln_13, ln_14, ln_15, ln_16, ln_29, ln_30, ln_32, ln_33, ln_34, ln_35, ln_36, ln_37, ln_38, ln_40, ln_41, ln_42, ln_43, ln_45, Option.toList_some, Option.toList_none, List.cons_append, List.nil_append, true_and, and_true, if_true, if_false, true_or, or_true, Nat.reduceAdd, Int.reduceAdd, Bool.false_eq_true, tn_0, tn_1, tn_2, tn_3, tn_4, tn_5, tn_6, tn_7, pc_le]
  refine ⟨fun c4 => ?_, fun c4 => ?_⟩
  · refine J_blk a_X5_isFewer_15 ?_
    simp only [b_X5_isFewer_15, w_iconst_0, w_nil, kd_0, kd_1, kd_2, kd_3, kd_4, kd_5, kd_6, kd_7, kd_10, kd_11, kd_12, kd_13, kd_14, kd_15, kd_16, kd_19, kd_28, kd_29, kd_30, kd_31, kd_32, kd_33, kd_34, kd_35, kd_36, kd_37, kd_38, kd_39, kd_40, kd_41, kd_42, kd_43, kd_44, kd_45, ln_2, ln_3, ln_4, ln_5, ln_6, ln_7, ln_11, ln_12, ln_13, ln_14, ln_15, ln_16, ln_29, ln_30, ln_32, ln_33, ln_34, ln_35, ln_36, ln_37, ln_38, ln_40, ln_41, ln_42, ln_43, ln_45, Option.toList_some, Option.toList_none, List.cons_append, List.nil_append, true_and, and_true, if_true, if_false, true_or, or_true, Nat.reduceAdd, Int.reduceAdd, Bool.false_eq_true, tn_0, tn_1, tn_2, tn_3, tn_4, tn_5, tn_6, tn_7, pc_le]
    refine J_blk a_X5_isFewer_16 ?_
    simp only [b_X5_isFewer_16, w_iretz, kd_0, kd_1, kd_2, kd_3, kd_4, kd_5, kd_6, kd_7, kd_10, kd_11, kd_12, kd_13, kd_14, kd_15, kd_16, kd_19, kd_28, kd_29, kd_30, kd_31, kd_32, kd_33, kd_34, kd_35, kd_36, kd_37, kd_38, kd_39, kd_40, kd_41, kd_42, kd_43, kd_44, kd_45, ln_2, ln_3, ln_4, ln_5, ln_6, ln_7, ln_11, ln_12, ln_13, ln_14, ln_15, ln_16, ln_29, ln_30, ln_32, ln_33, ln_34, ln_35, ln_36, ln_37, ln_38, ln_40, ln_41, ln_42, ln_43, ln_45, Option.toList_some, Option.toList_none, List.cons_append, List.nil_append, true_and, and_true, if_true, if_false, true_or, or_true, Nat.reduceAdd, Int.reduceAdd, Bool.false_eq_true, tn_0, tn_1, tn_2, tn_3, tn_4, tn_5, tn_6, tn_7, pc_le]
    try refine ⟨(by first | exact Or.inl rfl | exact Or.inr rfl), ?_⟩
    exact ⟨by first | rw [if_neg (by omega)] | rw [if_pos (by omega)], rfl⟩
  · refine J_blk a_X5_isFewer_11 ?_
    simp only [b_X5_isFewer_11, w_iconst_1, w_goto, kd_0, kd_1, kd_2, kd_3, kd_4, kd_5, kd_6, kd_7, kd_10, kd_11, kd_12, kd_13, kd_14, kd_15, kd_16, kd_19, kd_28, kd_29, kd_30, kd_31, kd_32, kd_33, kd_34, kd_35, kd_36, kd_37, kd_38, kd_39, kd_40, kd_41, kd_42, kd_43, kd_44, kd_45, ln_2, ln_3, ln_4, ln_5, ln_6, ln_7, ln_11, ln_12, ln_13, ln_14, ln_15, ln_16, ln_29, ln_30, ln_32, ln_33, ln_34, ln_35, ln_36, ln_37, ln_38, ln_40, ln_41, ln_42, ln_43, ln_45, Option.toList_some, Option.toList_none, List.cons_append, List.nil_append, true_and, and_true, if_true, if_false, true_or, or_true, Nat.reduceAdd, Int.reduceAdd, Bool.false_eq_true, tn_0, tn_1, tn_2, tn_3, tn_4, tn_5, tn_6, tn_7, pc_le]
    refine J_blk a_X5_isFewer_16 ?_
    simp only [b_X5_isFewer_16, w_iretz, kd_0, kd_1, kd_2, kd_3, kd_4, kd_5, kd_6, kd_7, kd_10, kd_11, kd_12, kd_13, kd_14, kd_15, kd_16, kd_19, kd_28, kd_29, kd_30, kd_31, kd_32, kd_33, kd_34, kd_35, kd_36, kd_37, kd_38, kd_39, kd_40, kd_41, kd_42, kd_43, kd_44, kd_45, ln_2, ln_3, ln_4, ln_5, ln_6, ln_7, ln_11, ln_12, ln_13, ln_14, ln_15, ln_16, ln_29, ln_30, ln_32, ln_33, ln_34, ln_35, ln_36, ln_37, ln_38, ln_40, ln_41, ln_42, ln_43, ln_45, Option.toList_some, Option.toList_none, List.cons_append, List.nil_append, true_and, and_true, if_true, if_false, true_or, or_true, Nat.reduceAdd, Int.reduceAdd, Bool.false_eq_true, tn_0, tn_1, tn_2, tn_3, tn_4, tn_5, tn_6, tn_7, pc_le]
    try refine ⟨(by first | exact Or.inl rfl | exact Or.inr rfl), ?_⟩
    exact ⟨by first | rw [if_neg (by omega)] | rw [if_pos (by omega)], rfl⟩
theorem fill_c (c N : Nat) (v : Int32) (M : Mm) (hk : kd c = 7) (hl : ln c = N) (hN : N < 1000) : K 0 mJ7_fill_53178 [.ref c, .int v] M (Rt none (su M c (cpN (fun _ => v) (M.1 c) N))) := by
  refine K_go 2 o_J7_fill_53178 [none, none] rfl (Nat.le_of_ble_eq_true rfl) ?_
  simp only [lvA_i, lvA_a, lvA_l, lvA_nil, List.cons_append, List.nil_append]
  refine J_blk a_J7_fill_53178_0 ?_
  simp only [b_J7_fill_53178_0, w_iconst_0, w_istore2, nl_2n, nl_2i, nl_2a, w_aload_n0, w_alen, w_istore3, nl_3n, nl_3i, nl_3a, w_nil, Option.toList_some, Option.toList_none, List.cons_append, List.nil_append, true_and, and_true, if_true, if_false, true_or, or_true, Nat.reduceAdd, Int.reduceAdd, Bool.false_eq_true, tn_0, tn_1, tn_2, tn_3, tn_4, tn_5, tn_6, tn_7, hk, hl]
  have loop : ∀ k, k ≤ N → J 0 mJ7_fill_53178 5 [some (.ref c), some (.int v), some (.int (nI k)), some (.int (nI N))] [] (su M c (cpN (fun _ => v) (M.1 c) k)) (Rt none (su M c (cpN (fun _ => v) (M.1 c) N))) := by
    refine down N ?_ ?_
    · refine J_blk a_J7_fill_53178_5 ?_
      simp only [b_J7_fill_53178_5, w_iload_n2, w_iload_n3, w_icmp_ge, w_nil, Option.toList_some, Option.toList_none, List.cons_append, List.nil_append, true_and, and_true, if_true, if_false, true_or, or_true, Nat.reduceAdd, Int.reduceAdd, Bool.false_eq_true, tn_0, tn_1, tn_2, tn_3, tn_4, tn_5, tn_6, tn_7]
      refine ⟨fun _ => ?_, fun h => absurd (Int32.le_refl _) h⟩
      refine J_blk a_J7_fill_53178_20 ?_
      simp only [b_J7_fill_53178_20, w_vret, Option.toList_some, Option.toList_none, List.cons_append, List.nil_append, true_and, and_true, if_true, if_false, true_or, or_true, Nat.reduceAdd, Int.reduceAdd, Bool.false_eq_true, tn_0, tn_1, tn_2, tn_3, tn_4, tn_5, tn_6, tn_7]
      first | exact ⟨rfl, rfl⟩ | (simp_all [Rt])
    · intro k hk2 ih
      have e : (nI k).toNatClampNeg = k := nI_clamp (by omega)
      refine J_blk a_J7_fill_53178_5 ?_
      simp only [b_J7_fill_53178_5, w_iload_n2, w_iload_n3, w_icmp_ge, w_nil, Option.toList_some, Option.toList_none, List.cons_append, List.nil_append, true_and, and_true, if_true, if_false, true_or, or_true, Nat.reduceAdd, Int.reduceAdd, Bool.false_eq_true, tn_0, tn_1, tn_2, tn_3, tn_4, tn_5, tn_6, tn_7]
      refine ⟨fun h => absurd h (nI_ge hk2 (by omega)), fun _ => ?_⟩
      refine J_blk a_J7_fill_53178_10 ?_
      simp only [b_J7_fill_53178_10, w_aload_n0, w_iload_n2, w_iload_n1, w_iast, w_iinc2, nl_2n, nl_2i, nl_2a, ci_1, w_goto, Option.toList_some, Option.toList_none, List.cons_append, List.nil_append, true_and, and_true, if_true, if_false, true_or, or_true, Nat.reduceAdd, Int.reduceAdd, Bool.false_eq_true, tn_0, tn_1, tn_2, tn_3, tn_4, tn_5, tn_6, tn_7, e, hk, hl, nI_1, u1_su]
      refine ⟨vinN hk2 (by omega), ?_⟩
      rw [cpN_step (fun _ => v)]
      exact ih
  have l0 := loop 0 (by omega)
  rw [cpN_0, su_self] at l0
  exact l0

