/-! numbers; loops; the first methods of the model -/
theorem tn_0 : (0 : Int32).toNatClampNeg = 0 := rfl
theorem tn_1 : (1 : Int32).toNatClampNeg = 1 := rfl
theorem tn_2 : (2 : Int32).toNatClampNeg = 2 := rfl
theorem tn_3 : (3 : Int32).toNatClampNeg = 3 := rfl
theorem tn_4 : (4 : Int32).toNatClampNeg = 4 := rfl
theorem tn_5 : (5 : Int32).toNatClampNeg = 5 := rfl
theorem tn_6 : (6 : Int32).toNatClampNeg = 6 := rfl
theorem tn_7 : (7 : Int32).toNatClampNeg = 7 := rfl
theorem down {Q : Nat → Prop} (N : Nat) (he : Q N) (hs : ∀ k, k < N → Q (k + 1) → Q k) : ∀ k, k ≤ N → Q k := by
  intro k hk
  obtain ⟨d, rfl⟩ : ∃ d, N = k + d := ⟨N - k, by omega⟩
  induction d generalizing k with
  | zero => exact he
  | succ d ih => exact hs k (by omega) (ih (k + 1) (by rw [show k + 1 + d = k + (d + 1) by omega]; exact he) (fun j hj => hs j (by omega)) (by omega))
theorem vlit {i : Int32} {n : Nat} (h : (decide (0 ≤ i) && decide (i.toNatClampNeg < n)) = true) : vp_in i n := by
  simp only [Bool.and_eq_true, decide_eq_true_eq] at h
  intro q
  rcases q with q | q
  · exact absurd h.1 (Int32.not_le.mpr q)
  · omega
theorem ix (o k : Nat) : (8 : Int32) + 6 * nI o + nI k = nI (8 + 6 * o + k) := by
  show nI 8 + nI 6 * nI o + nI k = _
  rw [pk_mul, nI_add, nI_add]
theorem vinN {j n : Nat} (h : j < n) (hn : n < 2 ^ 31) : vp_in (nI j) n := vp_in_nI h hn
theorem mmx {M M' : Mm} (h1 : ∀ a b, M.1 a b = M'.1 a b) (h2 : M.2 = M'.2) : M = M' := Prod.ext (funext fun a => funext fun b => h1 a b) h2
/-- a whole row of ints becomes another -/
def su (M : Mm) (c : Nat) (f : Nat → Int32) : Mm := (fun a b => if a = c then f b else M.1 a b, M.2)
theorem su_at (M : Mm) (c : Nat) (f : Nat → Int32) : (su M c f).1 c = f := by funext b; simp [su]
theorem su_ne (M : Mm) (c a : Nat) (f : Nat → Int32) (h : a ≠ c) : (su M c f).1 a = M.1 a := by funext b; simp [su, h]
theorem su_self (M : Mm) (c : Nat) : su M c (M.1 c) = M := by
  apply mmx
  · intro a b
    by_cases h : a = c
    · subst h; simp [su]
    · simp [su, h]
  · rfl
theorem u1_su (M : Mm) (c j : Nat) (v : Int32) (f : Nat → Int32) : u1 (su M c f) c j v = su M c (upd f j v) := by
  apply mmx
  · intro a b
    by_cases h : a = c
    · subst h; simp [u1, su, upd]
    · simp [u1, su, h]
  · rfl
theorem u1_row (M : Mm) (c j : Nat) (v : Int32) : u1 M c j v = su M c (upd (M.1 c) j v) := by
  rw [← u1_su, su_self]
theorem su_su (M : Mm) (c : Nat) (f g : Nat → Int32) : su (su M c f) c g = su M c g := by
  apply mmx
  · intro a b
    by_cases h : a = c
    · subst h; simp [su]
    · simp [su, h]
  · rfl
theorem J_callSr {n n' : Nat} {mi mi' : MI} {pc : Nat} {lv : LVs} {st rest : List Value} {M M0 : Mm} {P : Option Value → Mm → Prop} {np : Nat} {r0 : Option Value} {av : List Value} (hK : K n' mi' av M (Rt r0 M0)) (hC : CS mi pc mi') (hM : MOK mi' np) (hnp : av.length = np) (hn : n' < n) (hst : st = av.reverse ++ rest) (hw : (rest.map fun v => v.category).sum ≤ 8) (k : J n mi (pc + 3) lv (r0.toList ++ rest) M0 P) : J n mi pc lv st M P := J_callS hK hC hM hnp hn hst hw (fun r M' h => by obtain ⟨h1, h2⟩ := h; rw [h1, h2]; exact k)
theorem J_callVr {n n' : Nat} {mi mi' : MI} {pc : Nat} {lv : LVs} {st rest : List Value} {M M0 : Mm} {P : Option Value → Mm → Prop} {np : Nat} {r0 : Option Value} {As : List Value} {c0 ci : Nat} {C : String} {T : u_T} {N : Nat} (hK : K n' mi' (.ref c0 :: As) M (Rt r0 M0)) (hC : CV mi pc mi') (hM : MOK mi' np) (ho : kd c0 = ci) (hcl : vwCl[ci]? = some (C, T, N)) (hCn : C = mi'.1.cls) (hnp : As.length = np) (hn : n' < n) (hst : st = As.reverse ++ .ref c0 :: rest) (hw : (rest.map fun v => v.category).sum ≤ 8) (k : J n mi (pc + 3) lv (r0.toList ++ rest) M0 P) : J n mi pc lv st M P := J_callV hK hC hM ho hcl hCn hnp hn hst hw (fun r M' h => by obtain ⟨h1, h2⟩ := h; rw [h1, h2]; exact k)
theorem isIn_ok (v lo hi : Int64) (M : Mm) : K 0 mX6_isIn [.long v, .long lo, .long hi] M (Rt (some (.int (if lo ≤ v ∧ v ≤ hi then 1 else 0))) M) := by
  refine K_go 3 o_X6_isIn [] rfl (Nat.le_of_ble_eq_true rfl) ?_
  simp only [lvA_i, lvA_a, lvA_l, lvA_nil, List.cons_append, List.nil_append]
  refine J_blk a_X6_isIn_0 ?_
  simp only [b_X6_isIn_0, w_lload_n0, w_lload_n2, w_lcmp, w_if_lt, w_nil, kd_46, kd_47, kd_48, kd_49, kd_50, kd_51, kd_52, kd_53, kd_54, kd_55, kd_56, kd_57, kd_58, kd_59, ln_47, ln_48, ln_49, ln_50, ln_51, ln_52, ln_53, ln_54, ln_55, ln_56, ln_57, ln_58, ln_59, Option.toList_some, Option.toList_none, List.cons_append, List.nil_append, true_and, and_true, if_true, if_false, true_or, or_true, Nat.reduceAdd, Int.reduceAdd, Bool.false_eq_true, tn_0, tn_1, tn_2, tn_3, tn_4, tn_5, tn_6, tn_7, lg_cmp_lt, lg_cmp_gt]
  refine ⟨fun c1 => ?_, fun c1 => ?_⟩
  · refine J_blk a_X6_isIn_17 ?_
    simp only [b_X6_isIn_17, w_iconst_0, w_nil, kd_46, kd_47, kd_48, kd_49, kd_50, kd_51, kd_52, kd_53, kd_54, kd_55, kd_56, kd_57, kd_58, kd_59, ln_47, ln_48, ln_49, ln_50, ln_51, ln_52, ln_53, ln_54, ln_55, ln_56, ln_57, ln_58, ln_59, Option.toList_some, Option.toList_none, List.cons_append, List.nil_append, true_and, and_true, if_true, if_false, true_or, or_true, Nat.reduceAdd, Int.reduceAdd, Bool.false_eq_true, tn_0, tn_1, tn_2, tn_3, tn_4, tn_5, tn_6, tn_7, lg_cmp_lt, lg_cmp_gt]
    refine J_blk a_X6_isIn_18 ?_
    simp only [b_X6_isIn_18, w_iretz, kd_46, kd_47, kd_48, kd_49, kd_50, kd_51, kd_52, kd_53, kd_54, kd_55, kd_56, kd_57, kd_58, kd_59, ln_47, ln_48, ln_49, ln_50, ln_51, ln_52, ln_53, ln_54, ln_55, ln_56, ln_57, ln_58, ln_59, Option.toList_some, Option.toList_none, List.cons_append, List.nil_append, true_and, and_true, if_true, if_false, true_or, or_true, Nat.reduceAdd, Int.reduceAdd, Bool.false_eq_true, tn_0, tn_1, tn_2, tn_3, tn_4, tn_5, tn_6, tn_7, lg_cmp_lt, lg_cmp_gt]
    try refine ⟨(by first | exact Or.inl rfl | exact Or.inr rfl), ?_⟩
    exact ⟨by congr 2; (try simp only [Int64.not_lt, Int64.not_le] at *); split <;> grind, rfl⟩
  · refine J_blk a_X6_isIn_6 ?_
    simp only [b_X6_isIn_6, w_lload_n0, w_lload4, w_lcmp, w_if_gt, w_nil, kd_46, kd_47, kd_48, kd_49, kd_50, kd_51, kd_52, kd_53, kd_54, kd_55, kd_56, kd_57, kd_58, kd_59, ln_47, ln_48, ln_49, ln_50, ln_51, ln_52, ln_53, ln_54, ln_55, ln_56, ln_57, ln_58, ln_59, Option.toList_some, Option.toList_none, List.cons_append, List.nil_append, true_and, and_true, if_true, if_false, true_or, or_true, Nat.reduceAdd, Int.reduceAdd, Bool.false_eq_true, tn_0, tn_1, tn_2, tn_3, tn_4, tn_5, tn_6, tn_7, lg_cmp_lt, lg_cmp_gt]
    refine ⟨fun c2 => ?_, fun c2 => ?_⟩
    · refine J_blk a_X6_isIn_17 ?_
      simp only [b_X6_isIn_17, w_iconst_0, w_nil, kd_46, kd_47, kd_48, kd_49, kd_50, kd_51, kd_52, kd_53, kd_54, kd_55, kd_56, kd_57, kd_58, kd_59, ln_47, ln_48, ln_49, ln_50, ln_51, ln_52, ln_53, ln_54, ln_55, ln_56, ln_57, ln_58, ln_59, Option.toList_some, Option.toList_none, List.cons_append, List.nil_append, true_and, and_true, if_true, if_false, true_or, or_true, Nat.reduceAdd, Int.reduceAdd, Bool.false_eq_true, tn_0, tn_1, tn_2, tn_3, tn_4, tn_5, tn_6, tn_7, lg_cmp_lt, lg_cmp_gt]
      refine J_blk a_X6_isIn_18 ?_
      simp only [b_X6_isIn_18, w_iretz, kd_46, kd_47, kd_48, kd_49, kd_50, kd_51, kd_52, kd_53, kd_54, kd_55, kd_56, kd_57, kd_58, kd_59, ln_47, ln_48, ln_49, ln_50, ln_51, ln_52, ln_53, ln_54, ln_55, ln_56, ln_57, ln_58, ln_59, Option.toList_some, Option.toList_none, List.cons_append, List.nil_append, true_and, and_true, if_true, if_false, true_or, or_true, Nat.reduceAdd, Int.reduceAdd, Bool.false_eq_true, tn_0, tn_1, tn_2, tn_3, tn_4, tn_5, tn_6, tn_7, lg_cmp_lt, lg_cmp_gt]
      try refine ⟨(by first | exact Or.inl rfl | exact Or.inr rfl), ?_⟩
      exact ⟨by congr 2; (try simp only [Int64.not_lt, Int64.not_le] at *); split <;> grind, rfl⟩
    · refine J_blk a_X6_isIn_13 ?_
      simp only [b_X6_isIn_13, w_iconst_1, w_goto, kd_46, kd_47, kd_48, kd_49, kd_50, kd_51, kd_52, kd_53, kd_54, kd_55, kd_56, kd_57, kd_58, kd_59, ln_47, ln_48, ln_49, ln_50, ln_51, ln_52, ln_53, ln_54, ln_55, ln_56, ln_57, ln_58, ln_59, Option.toList_some, Option.toList_none, List.cons_append, List.nil_append, true_and, and_true, if_true, if_false, true_or, or_true, Nat.reduceAdd, Int.reduceAdd, Bool.false_eq_true, tn_0, tn_1, tn_2, tn_3, tn_4, tn_5, tn_6, tn_7, lg_cmp_lt, lg_cmp_gt]
      refine J_blk a_X6_isIn_18 ?_
      simp only [b_X6_isIn_18, w_iretz, kd_46, kd_47, kd_48, kd_49, kd_50, kd_51, kd_52, kd_53, kd_54, kd_55, kd_56, kd_57, kd_58, kd_59, ln_47, ln_48, ln_49, ln_50, ln_51, ln_52, ln_53, ln_54, ln_55, ln_56, ln_57, ln_58, ln_59, Option.toList_some, Option.toList_none, List.cons_append, List.nil_append, true_and, and_true, if_true, if_false, true_or, or_true, Nat.reduceAdd, Int.reduceAdd, Bool.false_eq_true, tn_0, tn_1, tn_2, tn_3, tn_4, tn_5, tn_6, tn_7, lg_cmp_lt, lg_cmp_gt]
      try refine ⟨(by first | exact Or.inl rfl | exact Or.inr rfl), ?_⟩
      exact ⟨by congr 2; (try simp only [Int64.not_lt, Int64.not_le] at *); split <;> grind, rfl⟩
theorem isOne_ok (o : Int32) (M : Mm) : K 0 mX6_isOne [.ref 46, .int o] M (Rt (some (.int (if 0 ≤ o ∧ o < M.1 47 0 then 1 else 0))) M) := by
  refine K_go 1 o_X6_isOne [] rfl (Nat.le_of_ble_eq_true rfl) ?_
  simp only [lvA_i, lvA_a, lvA_l, lvA_nil, List.cons_append, List.nil_append]
  refine J_blk a_X6_isOne_0 ?_
  simp only [b_X6_isOne_0, w_iload_n1, w_if_lt, w_nil, kd_46, kd_47, kd_48, kd_49, kd_50, kd_51, kd_52, kd_53, kd_54, kd_55, kd_56, kd_57, kd_58, kd_59, ln_47, ln_48, ln_49, ln_50, ln_51, ln_52, ln_53, ln_54, ln_55, ln_56, ln_57, ln_58, ln_59, Option.toList_some, Option.toList_none, List.cons_append, List.nil_append, true_and, and_true, if_true, if_false, true_or, or_true, Nat.reduceAdd, Int.reduceAdd, Bool.false_eq_true, tn_0, tn_1, tn_2, tn_3, tn_4, tn_5, tn_6, tn_7]
  refine ⟨fun c3 => ?_, fun c3 => ?_⟩
  · refine J_blk a_X6_isOne_18 ?_
    simp only [b_X6_isOne_18, w_iconst_0, w_nil, kd_46, kd_47, kd_48, kd_49, kd_50, kd_51, kd_52, kd_53, kd_54, kd_55, kd_56, kd_57, kd_58, kd_59, ln_47, ln_48, ln_49, ln_50, ln_51, ln_52, ln_53, ln_54, ln_55, ln_56, ln_57, ln_58, ln_59, Option.toList_some, Option.toList_none, List.cons_append, List.nil_append, true_and, and_true, if_true, if_false, true_or, or_true, Nat.reduceAdd, Int.reduceAdd, Bool.false_eq_true, tn_0, tn_1, tn_2, tn_3, tn_4, tn_5, tn_6, tn_7]
    refine J_blk a_X6_isOne_19 ?_
    simp only [b_X6_isOne_19, w_iretz, kd_46, kd_47, kd_48, kd_49, kd_50, kd_51, kd_52, kd_53, kd_54, kd_55, kd_56, kd_57, kd_58, kd_59, ln_47, ln_48, ln_49, ln_50, ln_51, ln_52, ln_53, ln_54, ln_55, ln_56, ln_57, ln_58, ln_59, Option.toList_some, Option.toList_none, List.cons_append, List.nil_append, true_and, and_true, if_true, if_false, true_or, or_true, Nat.reduceAdd, Int.reduceAdd, Bool.false_eq_true, tn_0, tn_1, tn_2, tn_3, tn_4, tn_5, tn_6, tn_7]
    try refine ⟨(by first | exact Or.inl rfl | exact Or.inr rfl), ?_⟩
    exact ⟨by congr 2; (try simp only [Int32.not_lt, Int32.not_le] at *); split <;> grind, rfl⟩
  · refine J_blk a_X6_isOne_4 ?_
    simp only [b_X6_isOne_4, w_iload_n1, w_aload_n0, w_getf6, ne0_1, w_iconst_0, w_iald, w_icmp_ge, w_nil, kd_46, kd_47, kd_48, kd_49, kd_50, kd_51, kd_52, kd_53, kd_54, kd_55, kd_56, kd_57, kd_58, kd_59, ln_47, ln_48, ln_49, ln_50, ln_51, ln_52, ln_53, ln_54, ln_55, ln_56, ln_57, ln_58, ln_59, Option.toList_some, Option.toList_none, List.cons_append, List.nil_append, true_and, and_true, if_true, if_false, true_or, or_true, Nat.reduceAdd, Int.reduceAdd, Bool.false_eq_true, tn_0, tn_1, tn_2, tn_3, tn_4, tn_5, tn_6, tn_7]
    refine ⟨(by first | exact vlit (by decide) | simp), ?_⟩
    refine ⟨fun c4 => ?_, fun c4 => ?_⟩
    · refine J_blk a_X6_isOne_18 ?_
      simp only [b_X6_isOne_18, w_iconst_0, w_nil, kd_46, kd_47, kd_48, kd_49, kd_50, kd_51, kd_52, kd_53, kd_54, kd_55, kd_56, kd_57, kd_58, kd_59, ln_47, ln_48, ln_49, ln_50, ln_51, ln_52, ln_53, ln_54, ln_55, ln_56, ln_57, ln_58, ln_59, Option.toList_some, Option.toList_none, List.cons_append, List.nil_append, true_and, and_true, if_true, if_false, true_or, or_true, Nat.reduceAdd, Int.reduceAdd, Bool.false_eq_true, tn_0, tn_1, tn_2, tn_3, tn_4, tn_5, tn_6, tn_7]
      refine J_blk a_X6_isOne_19 ?_
      simp only [b_X6_isOne_19, w_iretz, kd_46, kd_47, kd_48, kd_49, kd_50, kd_51, kd_52, kd_53, kd_54, kd_55, kd_56, kd_57, kd_58, kd_59, ln_47, ln_48, ln_49, ln_50, ln_51, ln_52, ln_53, ln_54, ln_55, ln_56, ln_57, ln_58, ln_59, Option.toList_some, Option.toList_none, List.cons_append, List.nil_append, true_and, and_true, if_true, if_false, true_or, or_true, Nat.reduceAdd, Int.reduceAdd, Bool.false_eq_true, tn_0, tn_1, tn_2, tn_3, tn_4, tn_5, tn_6, tn_7]
      try refine ⟨(by first | exact Or.inl rfl | exact Or.inr rfl), ?_⟩
      exact ⟨by congr 2; (try simp only [Int32.not_lt, Int32.not_le] at *); split <;> grind, rfl⟩
    · refine J_blk a_X6_isOne_14 ?_
      simp only [b_X6_isOne_14, w_iconst_1, w_goto, kd_46, kd_47, kd_48, kd_49, kd_50, kd_51, kd_52, kd_53, kd_54, kd_55, kd_56, kd_57, kd_58, kd_59, ln_47, ln_48, ln_49, ln_50, ln_51, ln_52, ln_53, ln_54, ln_55, ln_56, ln_57, ln_58, ln_59, Option.toList_some, Option.toList_none, List.cons_append, List.nil_append, true_and, and_true, if_true, if_false, true_or, or_true, Nat.reduceAdd, Int.reduceAdd, Bool.false_eq_true, tn_0, tn_1, tn_2, tn_3, tn_4, tn_5, tn_6, tn_7]
      refine J_blk a_X6_isOne_19 ?_
      simp only [b_X6_isOne_19, w_iretz, kd_46, kd_47, kd_48, kd_49, kd_50, kd_51, kd_52, kd_53, kd_54, kd_55, kd_56, kd_57, kd_58, kd_59, ln_47, ln_48, ln_49, ln_50, ln_51, ln_52, ln_53, ln_54, ln_55, ln_56, ln_57, ln_58, ln_59, Option.toList_some, Option.toList_none, List.cons_append, List.nil_append, true_and, and_true, if_true, if_false, true_or, or_true, Nat.reduceAdd, Int.reduceAdd, Bool.false_eq_true, tn_0, tn_1, tn_2, tn_3, tn_4, tn_5, tn_6, tn_7]
      try refine ⟨(by first | exact Or.inl rfl | exact Or.inr rfl), ?_⟩
      exact ⟨by congr 2; (try simp only [Int32.not_lt, Int32.not_le] at *); split <;> grind, rfl⟩
theorem its_ok (o k : Nat) (M : Mm) (h : 8 + 6 * o + k < 56) : K 0 mX6_its [.ref 46, .int (nI o), .int (nI k)] M (Rt (some (.int (M.1 47 (8 + 6 * o + k)))) M) := by
  refine K_go 2 o_X6_its [] rfl (Nat.le_of_ble_eq_true rfl) ?_
  simp only [lvA_i, lvA_a, lvA_l, lvA_nil, List.cons_append, List.nil_append]
  refine J_blk a_X6_its_0 ?_
  simp only [b_X6_its_0, w_aload_n0, w_getf6, ne0_1, w_bipush, ci_8, ci_6, w_iload_n1, w_imul, w_iadd, w_iload_n2, w_iald, w_ireti, kd_46, kd_47, kd_48, kd_49, kd_50, kd_51, kd_52, kd_53, kd_54, kd_55, kd_56, kd_57, kd_58, kd_59, ln_47, ln_48, ln_49, ln_50, ln_51, ln_52, ln_53, ln_54, ln_55, ln_56, ln_57, ln_58, ln_59, Option.toList_some, Option.toList_none, List.cons_append, List.nil_append, true_and, and_true, if_true, if_false, true_or, or_true, Nat.reduceAdd, Int.reduceAdd, Bool.false_eq_true, tn_0, tn_1, tn_2, tn_3, tn_4, tn_5, tn_6, tn_7, ix]
  refine ⟨vinN h (by decide), ?_⟩
  rw [nI_clamp (by omega)]
  exact ⟨rfl, rfl⟩
theorem becomes_ok (at_ : Nat) (v : Int32) (M : Mm) (h : at_ < 56) : K 0 mX6_becomes [.ref 46, .int (nI at_), .int v] M (Rt (some (.int (M.1 47 at_))) (u1 M 47 at_ v)) := by
  have e : (nI at_).toNatClampNeg = at_ := nI_clamp (by omega)
  refine K_go 2 o_X6_becomes [none] rfl (Nat.le_of_ble_eq_true rfl) ?_
  simp only [lvA_i, lvA_a, lvA_l, lvA_nil, List.cons_append, List.nil_append]
  refine J_blk a_X6_becomes_0 ?_
  simp only [b_X6_becomes_0, w_aload_n0, w_getf6, ne0_1, w_iload_n1, w_iald, w_istore3, nl_3n, nl_3i, nl_3a, w_iload_n2, w_iast, w_iload_n3, w_ireti, kd_46, kd_47, kd_48, kd_49, kd_50, kd_51, kd_52, kd_53, kd_54, kd_55, kd_56, kd_57, kd_58, kd_59, ln_47, ln_48, ln_49, ln_50, ln_51, ln_52, ln_53, ln_54, ln_55, ln_56, ln_57, ln_58, ln_59, Option.toList_some, Option.toList_none, List.cons_append, List.nil_append, true_and, and_true, if_true, if_false, true_or, or_true, Nat.reduceAdd, Int.reduceAdd, Bool.false_eq_true, tn_0, tn_1, tn_2, tn_3, tn_4, tn_5, tn_6, tn_7, e]
  exact ⟨vinN h (by decide), vinN h (by decide), rfl, rfl⟩
theorem least_ok (a b : Int32) (M : Mm) : K 0 mX6_least [.int a, .int b] M (Rt (some (.int (if a < b then a else b))) M) := by
  refine K_go 2 o_X6_least [] rfl (Nat.le_of_ble_eq_true rfl) ?_
  simp only [lvA_i, lvA_a, lvA_l, lvA_nil, List.cons_append, List.nil_append]
  refine J_blk a_X6_least_0 ?_
  simp only [b_X6_least_0, w_iload_n0, w_iload_n1, w_icmp_ge, w_nil, kd_46, kd_47, kd_48, kd_49, kd_50, kd_51, kd_52, kd_53, kd_54, kd_55, kd_56, kd_57, kd_58, kd_59, ln_47, ln_48, ln_49, ln_50, ln_51, ln_52, ln_53, ln_54, ln_55, ln_56, ln_57, ln_58, ln_59, Option.toList_some, Option.toList_none, List.cons_append, List.nil_append, true_and, and_true, if_true, if_false, true_or, or_true, Nat.reduceAdd, Int.reduceAdd, Bool.false_eq_true, tn_0, tn_1, tn_2, tn_3, tn_4, tn_5, tn_6, tn_7]
  refine ⟨fun c5 => ?_, fun c5 => ?_⟩
  · refine J_blk a_X6_least_9 ?_
    simp only [b_X6_least_9, w_iload_n1, w_nil, kd_46, kd_47, kd_48, kd_49, kd_50, kd_51, kd_52, kd_53, kd_54, kd_55, kd_56, kd_57, kd_58, kd_59, ln_47, ln_48, ln_49, ln_50, ln_51, ln_52, ln_53, ln_54, ln_55, ln_56, ln_57, ln_58, ln_59, Option.toList_some, Option.toList_none, List.cons_append, List.nil_append, true_and, and_true, if_true, if_false, true_or, or_true, Nat.reduceAdd, Int.reduceAdd, Bool.false_eq_true, tn_0, tn_1, tn_2, tn_3, tn_4, tn_5, tn_6, tn_7]
    refine J_blk a_X6_least_10 ?_
    simp only [b_X6_least_10, w_ireti, kd_46, kd_47, kd_48, kd_49, kd_50, kd_51, kd_52, kd_53, kd_54, kd_55, kd_56, kd_57, kd_58, kd_59, ln_47, ln_48, ln_49, ln_50, ln_51, ln_52, ln_53, ln_54, ln_55, ln_56, ln_57, ln_58, ln_59, Option.toList_some, Option.toList_none, List.cons_append, List.nil_append, true_and, and_true, if_true, if_false, true_or, or_true, Nat.reduceAdd, Int.reduceAdd, Bool.false_eq_true, tn_0, tn_1, tn_2, tn_3, tn_4, tn_5, tn_6, tn_7]
    exact ⟨by congr 2; (try simp only [Int32.not_lt, Int32.not_le] at *); split <;> grind, rfl⟩
  · refine J_blk a_X6_least_5 ?_
    simp only [b_X6_least_5, w_iload_n0, w_goto, kd_46, kd_47, kd_48, kd_49, kd_50, kd_51, kd_52, kd_53, kd_54, kd_55, kd_56, kd_57, kd_58, kd_59, ln_47, ln_48, ln_49, ln_50, ln_51, ln_52, ln_53, ln_54, ln_55, ln_56, ln_57, ln_58, ln_59, Option.toList_some, Option.toList_none, List.cons_append, List.nil_append, true_and, and_true, if_true, if_false, true_or, or_true, Nat.reduceAdd, Int.reduceAdd, Bool.false_eq_true, tn_0, tn_1, tn_2, tn_3, tn_4, tn_5, tn_6, tn_7]
    refine J_blk a_X6_least_10 ?_
    simp only [b_X6_least_10, w_ireti, kd_46, kd_47, kd_48, kd_49, kd_50, kd_51, kd_52, kd_53, kd_54, kd_55, kd_56, kd_57, kd_58, kd_59, ln_47, ln_48, ln_49, ln_50, ln_51, ln_52, ln_53, ln_54, ln_55, ln_56, ln_57, ln_58, ln_59, Option.toList_some, Option.toList_none, List.cons_append, List.nil_append, true_and, and_true, if_true, if_false, true_or, or_true, Nat.reduceAdd, Int.reduceAdd, Bool.false_eq_true, tn_0, tn_1, tn_2, tn_3, tn_4, tn_5, tn_6, tn_7]
    exact ⟨by congr 2; (try simp only [Int32.not_lt, Int32.not_le] at *); split <;> grind, rfl⟩
def wi (v : Int32) : Int32 := if v < 0 then 0 else if 9 < v then 9 else v
theorem within_ok (v : Int32) (M : Mm) : K 0 mX6_within [.int v] M (Rt (some (.int (wi v))) M) := by
  refine K_go 1 o_X6_within [] rfl (Nat.le_of_ble_eq_true rfl) ?_
  simp only [lvA_i, lvA_a, lvA_l, lvA_nil, List.cons_append, List.nil_append]
  refine J_blk a_X6_within_0 ?_
  simp only [b_X6_within_0, w_iload_n0, w_if_ge, w_nil, kd_46, kd_47, kd_48, kd_49, kd_50, kd_51, kd_52, kd_53, kd_54, kd_55, kd_56, kd_57, kd_58, kd_59, ln_47, ln_48, ln_49, ln_50, ln_51, ln_52, ln_53, ln_54, ln_55, ln_56, ln_57, ln_58, ln_59, Option.toList_some, Option.toList_none, List.cons_append, List.nil_append, true_and, and_true, if_true, if_false, true_or, or_true, Nat.reduceAdd, Int.reduceAdd, Bool.false_eq_true, tn_0, tn_1, tn_2, tn_3, tn_4, tn_5, tn_6, tn_7]
  refine ⟨fun c6 => ?_, fun c6 => ?_⟩
  · refine J_blk a_X6_within_8 ?_
    simp only [b_X6_within_8, w_iload_n0, w_bipush, ci_9, w_icmp_le, w_nil, kd_46, kd_47, kd_48, kd_49, kd_50, kd_51, kd_52, kd_53, kd_54, kd_55, kd_56, kd_57, kd_58, kd_59, ln_47, ln_48, ln_49, ln_50, ln_51, ln_52, ln_53, ln_54, ln_55, ln_56, ln_57, ln_58, ln_59, Option.toList_some, Option.toList_none, List.cons_append, List.nil_append, true_and, and_true, if_true, if_false, true_or, or_true, Nat.reduceAdd, Int.reduceAdd, Bool.false_eq_true, tn_0, tn_1, tn_2, tn_3, tn_4, tn_5, tn_6, tn_7]
    refine ⟨fun c7 => ?_, fun c7 => ?_⟩
    · refine J_blk a_X6_within_19 ?_
      simp only [b_X6_within_19, w_iload_n0, w_nil, kd_46, kd_47, kd_48, kd_49, kd_50, kd_51, kd_52, kd_53, kd_54, kd_55, kd_56, kd_57, kd_58, kd_59, ln_47, ln_48, ln_49, ln_50, ln_51, ln_52, ln_53, ln_54, ln_55, ln_56, ln_57, ln_58, ln_59, Option.toList_some, Option.toList_none, List.cons_append, List.nil_append, true_and, and_true, if_true, if_false, true_or, or_true, Nat.reduceAdd, Int.reduceAdd, Bool.false_eq_true, tn_0, tn_1, tn_2, tn_3, tn_4, tn_5, tn_6, tn_7]
      refine J_blk a_X6_within_20 ?_
      simp only [b_X6_within_20, w_ireti, kd_46, kd_47, kd_48, kd_49, kd_50, kd_51, kd_52, kd_53, kd_54, kd_55, kd_56, kd_57, kd_58, kd_59, ln_47, ln_48, ln_49, ln_50, ln_51, ln_52, ln_53, ln_54, ln_55, ln_56, ln_57, ln_58, ln_59, Option.toList_some, Option.toList_none, List.cons_append, List.nil_append, true_and, and_true, if_true, if_false, true_or, or_true, Nat.reduceAdd, Int.reduceAdd, Bool.false_eq_true, tn_0, tn_1, tn_2, tn_3, tn_4, tn_5, tn_6, tn_7]
      exact ⟨by unfold wi; congr 2; (try simp only [Int32.not_lt, Int32.not_le] at *); grind, rfl⟩
    · refine J_blk a_X6_within_14 ?_
      simp only [b_X6_within_14, w_bipush, ci_9, w_goto, kd_46, kd_47, kd_48, kd_49, kd_50, kd_51, kd_52, kd_53, kd_54, kd_55, kd_56, kd_57, kd_58, kd_59, ln_47, ln_48, ln_49, ln_50, ln_51, ln_52, ln_53, ln_54, ln_55, ln_56, ln_57, ln_58, ln_59, Option.toList_some, Option.toList_none, List.cons_append, List.nil_append, true_and, and_true, if_true, if_false, true_or, or_true, Nat.reduceAdd, Int.reduceAdd, Bool.false_eq_true, tn_0, tn_1, tn_2, tn_3, tn_4, tn_5, tn_6, tn_7]
      refine J_blk a_X6_within_20 ?_
      simp only [b_X6_within_20, w_ireti, kd_46, kd_47, kd_48, kd_49, kd_50, kd_51, kd_52, kd_53, kd_54, kd_55, kd_56, kd_57, kd_58, kd_59, ln_47, ln_48, ln_49, ln_50, ln_51, ln_52, ln_53, ln_54, ln_55, ln_56, ln_57, ln_58, ln_59, Option.toList_some, Option.toList_none, List.cons_append, List.nil_append, true_and, and_true, if_true, if_false, true_or, or_true, Nat.reduceAdd, Int.reduceAdd, Bool.false_eq_true, tn_0, tn_1, tn_2, tn_3, tn_4, tn_5, tn_6, tn_7]
      exact ⟨by unfold wi; congr 2; (try simp only [Int32.not_lt, Int32.not_le] at *); grind, rfl⟩
  · refine J_blk a_X6_within_4 ?_
    simp only [b_X6_within_4, w_iconst_0, w_goto, kd_46, kd_47, kd_48, kd_49, kd_50, kd_51, kd_52, kd_53, kd_54, kd_55, kd_56, kd_57, kd_58, kd_59, ln_47, ln_48, ln_49, ln_50, ln_51, ln_52, ln_53, ln_54, ln_55, ln_56, ln_57, ln_58, ln_59, Option.toList_some, Option.toList_none, List.cons_append, List.nil_append, true_and, and_true, if_true, if_false, true_or, or_true, Nat.reduceAdd, Int.reduceAdd, Bool.false_eq_true, tn_0, tn_1, tn_2, tn_3, tn_4, tn_5, tn_6, tn_7]
    refine J_blk a_X6_within_20 ?_
    simp only [b_X6_within_20, w_ireti, kd_46, kd_47, kd_48, kd_49, kd_50, kd_51, kd_52, kd_53, kd_54, kd_55, kd_56, kd_57, kd_58, kd_59, ln_47, ln_48, ln_49, ln_50, ln_51, ln_52, ln_53, ln_54, ln_55, ln_56, ln_57, ln_58, ln_59, Option.toList_some, Option.toList_none, List.cons_append, List.nil_append, true_and, and_true, if_true, if_false, true_or, or_true, Nat.reduceAdd, Int.reduceAdd, Bool.false_eq_true, tn_0, tn_1, tn_2, tn_3, tn_4, tn_5, tn_6, tn_7]
    exact ⟨by unfold wi; congr 2; (try simp only [Int32.not_lt, Int32.not_le] at *); grind, rfl⟩
def cpN (f g : Nat → Int32) (k : Nat) : Nat → Int32 := fun j => if j < k then f j else g j
theorem copyRow_ok (c0 c1 : Nat) (M : Mm) (h0 : kd c0 = 7) (h1 : kd c1 = 7) (l0 : ln c0 = 56) (l1 : ln c1 = 56) (hne : c0 ≠ c1) : K 0 mX6_copyRow [.ref c0, .ref c1] M (Rt none (su M c1 (cpN (M.1 c0) (M.1 c1) 56))) := by
  refine K_go 2 o_X6_copyRow [none] rfl (Nat.le_of_ble_eq_true rfl) ?_
  simp only [lvA_i, lvA_a, lvA_l, lvA_nil, List.cons_append, List.nil_append]
  refine J_blk a_X6_copyRow_0 ?_
  simp only [b_X6_copyRow_0, w_iconst_0, w_istore2, nl_2n, nl_2i, nl_2a, w_nil, kd_46, kd_47, kd_48, kd_49, kd_50, kd_51, kd_52, kd_53, kd_54, kd_55, kd_56, kd_57, kd_58, kd_59, ln_47, ln_48, ln_49, ln_50, ln_51, ln_52, ln_53, ln_54, ln_55, ln_56, ln_57, ln_58, ln_59, Option.toList_some, Option.toList_none, List.cons_append, List.nil_append, true_and, and_true, if_true, if_false, true_or, or_true, Nat.reduceAdd, Int.reduceAdd, Bool.false_eq_true, tn_0, tn_1, tn_2, tn_3, tn_4, tn_5, tn_6, tn_7]
  have key : ∀ k, k ≤ 56 → J 0 mX6_copyRow 2 [some (.ref c0), some (.ref c1), some (.int (nI k))] [] (su M c1 (cpN (M.1 c0) (M.1 c1) k)) (Rt none (su M c1 (cpN (M.1 c0) (M.1 c1) 56))) := by
    refine down 56 ?_ ?_
    · refine J_blk a_X6_copyRow_2 ?_
      simp only [b_X6_copyRow_2, w_iload_n2, w_bipush, ci_56, w_icmp_ge, w_nil, kd_46, kd_47, kd_48, kd_49, kd_50, kd_51, kd_52, kd_53, kd_54, kd_55, kd_56, kd_57, kd_58, kd_59, ln_47, ln_48, ln_49, ln_50, ln_51, ln_52, ln_53, ln_54, ln_55, ln_56, ln_57, ln_58, ln_59, Option.toList_some, Option.toList_none, List.cons_append, List.nil_append, true_and, and_true, if_true, if_false, true_or, or_true, Nat.reduceAdd, Int.reduceAdd, Bool.false_eq_true, tn_0, tn_1, tn_2, tn_3, tn_4, tn_5, tn_6, tn_7]
      refine ⟨fun _ => ?_, fun h => absurd (show (56 : Int32) ≤ nI 56 by decide) h⟩
      refine J_blk a_X6_copyRow_20 ?_
      simp only [b_X6_copyRow_20, w_vret, kd_46, kd_47, kd_48, kd_49, kd_50, kd_51, kd_52, kd_53, kd_54, kd_55, kd_56, kd_57, kd_58, kd_59, ln_47, ln_48, ln_49, ln_50, ln_51, ln_52, ln_53, ln_54, ln_55, ln_56, ln_57, ln_58, ln_59, Option.toList_some, Option.toList_none, List.cons_append, List.nil_append, true_and, and_true, if_true, if_false, true_or, or_true, Nat.reduceAdd, Int.reduceAdd, Bool.false_eq_true, tn_0, tn_1, tn_2, tn_3, tn_4, tn_5, tn_6, tn_7]
      exact ⟨rfl, rfl⟩
    · intro k hk ih
      have e : (nI k).toNatClampNeg = k := nI_clamp (by omega)
      refine J_blk a_X6_copyRow_2 ?_
      simp only [b_X6_copyRow_2, w_iload_n2, w_bipush, ci_56, w_icmp_ge, w_nil, kd_46, kd_47, kd_48, kd_49, kd_50, kd_51, kd_52, kd_53, kd_54, kd_55, kd_56, kd_57, kd_58, kd_59, ln_47, ln_48, ln_49, ln_50, ln_51, ln_52, ln_53, ln_54, ln_55, ln_56, ln_57, ln_58, ln_59, Option.toList_some, Option.toList_none, List.cons_append, List.nil_append, true_and, and_true, if_true, if_false, true_or, or_true, Nat.reduceAdd, Int.reduceAdd, Bool.false_eq_true, tn_0, tn_1, tn_2, tn_3, tn_4, tn_5, tn_6, tn_7]
      refine ⟨fun h => absurd h (nI_ge (b := 56) hk (by decide)), fun _ => ?_⟩
      refine J_blk a_X6_copyRow_8 ?_
      simp only [b_X6_copyRow_8, w_aload_n1, w_iload_n2, w_aload_n0, w_iald, w_iast, w_iinc2, nl_2n, nl_2i, nl_2a, ci_1, w_goto, kd_46, kd_47, kd_48, kd_49, kd_50, kd_51, kd_52, kd_53, kd_54, kd_55, kd_56, kd_57, kd_58, kd_59, ln_47, ln_48, ln_49, ln_50, ln_51, ln_52, ln_53, ln_54, ln_55, ln_56, ln_57, ln_58, ln_59, Option.toList_some, Option.toList_none, List.cons_append, List.nil_append, true_and, and_true, if_true, if_false, true_or, or_true, Nat.reduceAdd, Int.reduceAdd, Bool.false_eq_true, tn_0, tn_1, tn_2, tn_3, tn_4, tn_5, tn_6, tn_7, e, h0, h1, l0, l1, nI_1]
      refine ⟨vinN hk (by decide), vinN hk (by decide), ?_⟩
      rw [su_ne _ _ _ _ hne, u1_su, show upd (cpN (M.1 c0) (M.1 c1) k) k (M.1 c0 k) = cpN (M.1 c0) (M.1 c1) (k + 1) by
        funext j
        simp only [upd, cpN]
        by_cases hj : j = k
        · subst hj; simp
        · by_cases hl : j < k
          · simp [hj, hl, Nat.lt_succ_of_lt hl]
          · simp [hj, hl, show ¬ j < k + 1 by omega]]
      exact ih
  have h := key 0 (by omega)
  rw [show su M c1 (cpN (M.1 c0) (M.1 c1) 0) = M by
    rw [show cpN (M.1 c0) (M.1 c1) 0 = M.1 c1 by funext j; simp [cpN]]
    exact su_self M c1] at h
  exact h
def begS (s : Nat → Int32) : Nat → Int32 := fun j => if j = 2 then s 2 else if j = 4 then 2 else if j = 5 then 1 else if j = 6 then 2 else if j = 7 then 20 else if j < 56 then 0 else s j
theorem begins_ok (M : Mm) : K 0 mX6_begins [.ref 46] M (Rt none (su M 47 (begS (M.1 47)))) := by
  refine K_go 0 o_X6_begins [none, none] rfl (Nat.le_of_ble_eq_true rfl) ?_
  simp only [lvA_i, lvA_a, lvA_l, lvA_nil, List.cons_append, List.nil_append]
  refine J_blk a_X6_begins_0 ?_
  simp only [b_X6_begins_0, w_aload_n0, w_getf6, ne0_1, w_iconst_2, w_iald, w_istore1, nl_1n, nl_1i, nl_1a, w_iconst_0, w_istore2, nl_2n, nl_2i, nl_2a, w_nil, kd_46, kd_47, kd_48, kd_49, kd_50, kd_51, kd_52, kd_53, kd_54, kd_55, kd_56, kd_57, kd_58, kd_59, ln_47, ln_48, ln_49, ln_50, ln_51, ln_52, ln_53, ln_54, ln_55, ln_56, ln_57, ln_58, ln_59, Option.toList_some, Option.toList_none, List.cons_append, List.nil_append, true_and, and_true, if_true, if_false, true_or, or_true, Nat.reduceAdd, Int.reduceAdd, Bool.false_eq_true, tn_0, tn_1, tn_2, tn_3, tn_4, tn_5, tn_6, tn_7]
  refine ⟨vlit (by decide), ?_⟩
  have key : ∀ k, k ≤ 56 → J 0 mX6_begins 9 [some (.ref 46), some (.int (M.1 47 2)), some (.int (nI k))] [] (su M 47 (cpN (fun _ => 0) (M.1 47) k)) (Rt none (su M 47 (begS (M.1 47)))) := by
    refine down 56 ?_ ?_
    · refine J_blk a_X6_begins_9 ?_
      simp only [b_X6_begins_9, w_iload_n2, w_bipush, ci_56, w_icmp_ge, w_nil, kd_46, kd_47, kd_48, kd_49, kd_50, kd_51, kd_52, kd_53, kd_54, kd_55, kd_56, kd_57, kd_58, kd_59, ln_47, ln_48, ln_49, ln_50, ln_51, ln_52, ln_53, ln_54, ln_55, ln_56, ln_57, ln_58, ln_59, Option.toList_some, Option.toList_none, List.cons_append, List.nil_append, true_and, and_true, if_true, if_false, true_or, or_true, Nat.reduceAdd, Int.reduceAdd, Bool.false_eq_true, tn_0, tn_1, tn_2, tn_3, tn_4, tn_5, tn_6, tn_7]
      refine ⟨fun _ => ?_, fun h => absurd (show (56 : Int32) ≤ nI 56 by decide) h⟩
      refine J_blk a_X6_begins_28 ?_
      simp only [b_X6_begins_28, w_aload_n0, w_getf6, ne0_1, w_iconst_2, w_iload_n1, w_iast, w_iconst_4, w_iconst_5, w_iconst_1, w_bipush, ci_6, ci_7, ci_20, w_vret, kd_46, kd_47, kd_48, kd_49, kd_50, kd_51, kd_52, kd_53, kd_54, kd_55, kd_56, kd_57, kd_58, kd_59, ln_47, ln_48, ln_49, ln_50, ln_51, ln_52, ln_53, ln_54, ln_55, ln_56, ln_57, ln_58, ln_59, Option.toList_some, Option.toList_none, List.cons_append, List.nil_append, true_and, and_true, if_true, if_false, true_or, or_true, Nat.reduceAdd, Int.reduceAdd, Bool.false_eq_true, tn_0, tn_1, tn_2, tn_3, tn_4, tn_5, tn_6, tn_7]
      refine ⟨vlit (by decide), vlit (by decide), vlit (by decide), vlit (by decide), vlit (by decide), rfl, ?_⟩
      simp only [u1_su]
      congr 1
      funext j
      simp only [upd, cpN, begS, show (2 : Int32).toNatClampNeg = 2 from rfl, show (4 : Int32).toNatClampNeg = 4 from rfl, show (5 : Int32).toNatClampNeg = 5 from rfl, show (6 : Int32).toNatClampNeg = 6 from rfl, show (7 : Int32).toNatClampNeg = 7 from rfl]
      by_cases h2 : j = 2
      · subst h2; simp
      · by_cases h4 : j = 4
        · subst h4; simp
        · by_cases h5 : j = 5
          · subst h5; simp
          · by_cases h6 : j = 6
            · subst h6; simp
            · by_cases h7 : j = 7
              · subst h7; simp
              · simp [h2, h4, h5, h6, h7]
    · intro k hk ih
      have e : (nI k).toNatClampNeg = k := nI_clamp (by omega)
      refine J_blk a_X6_begins_9 ?_
      simp only [b_X6_begins_9, w_iload_n2, w_bipush, ci_56, w_icmp_ge, w_nil, kd_46, kd_47, kd_48, kd_49, kd_50, kd_51, kd_52, kd_53, kd_54, kd_55, kd_56, kd_57, kd_58, kd_59, ln_47, ln_48, ln_49, ln_50, ln_51, ln_52, ln_53, ln_54, ln_55, ln_56, ln_57, ln_58, ln_59, Option.toList_some, Option.toList_none, List.cons_append, List.nil_append, true_and, and_true, if_true, if_false, true_or, or_true, Nat.reduceAdd, Int.reduceAdd, Bool.false_eq_true, tn_0, tn_1, tn_2, tn_3, tn_4, tn_5, tn_6, tn_7]
      refine ⟨fun h => absurd h (nI_ge (b := 56) hk (by decide)), fun _ => ?_⟩
      refine J_blk a_X6_begins_15 ?_
      simp only [b_X6_begins_15, w_aload_n0, w_getf6, ne0_1, w_iload_n2, w_iconst_0, w_iast, w_iinc2, nl_2n, nl_2i, nl_2a, ci_1, w_goto, kd_46, kd_47, kd_48, kd_49, kd_50, kd_51, kd_52, kd_53, kd_54, kd_55, kd_56, kd_57, kd_58, kd_59, ln_47, ln_48, ln_49, ln_50, ln_51, ln_52, ln_53, ln_54, ln_55, ln_56, ln_57, ln_58, ln_59, Option.toList_some, Option.toList_none, List.cons_append, List.nil_append, true_and, and_true, if_true, if_false, true_or, or_true, Nat.reduceAdd, Int.reduceAdd, Bool.false_eq_true, tn_0, tn_1, tn_2, tn_3, tn_4, tn_5, tn_6, tn_7, e, nI_1]
      refine ⟨vinN hk (by decide), ?_⟩
      rw [u1_su, show upd (cpN (fun _ => 0) (M.1 47) k) k 0 = cpN (fun _ => 0) (M.1 47) (k + 1) by
        funext j
        simp only [upd, cpN]
        by_cases hj : j = k
        · subst hj; simp
        · by_cases hl : j < k
          · simp [hj, hl, Nat.lt_succ_of_lt hl]
          · simp [hj, hl, show ¬ j < k + 1 by omega]]
      exact ih
  have h := key 0 (by omega)
  rw [show su M 47 (cpN (fun _ => 0) (M.1 47) 0) = M by
    rw [show cpN (fun _ => 0) (M.1 47) 0 = M.1 47 by funext j; simp [cpN]]
    exact su_self M 47] at h
  exact h

