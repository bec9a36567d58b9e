/-! the class: what is tried, on; rows; odds -/
theorem sdF_cong {s s' : Nat → Int32} {n : Nat} (hw : WF s n) (h : ∀ o, o < n → s' (8 + 6 * o + 4) = s (8 + 6 * o + 4) ∧ s' (8 + 6 * o + 1) = s (8 + 6 * o + 1)) : ∀ f o, o < n → sdF s' f o = sdF s f o := by
  intro f
  induction f with
  | zero => intro o _; rfl
  | succ f ih =>
    intro o ho
    rw [sdF, sdF, (h o ho).1, (h o ho).2]
    obtain ⟨q, hq, eq⟩ := (hw.2.2 o ho).2.1
    have e : (s (8 + 6 * o + 1)).toNatClampNeg = q := by rw [eq]; exact nI_clamp (by have := hw.2.1; omega)
    rw [e]
    by_cases h0 : s (8 + 6 * o + 1) = 0
    · rw [if_pos h0, if_pos h0]
    · have hq0 : q ≠ 0 := by intro z; subst z; exact h0 eq
      rw [if_neg h0, if_neg h0, ih (q - 1) (by omega)]
theorem sd_year {s : Nat → Int32} {n o : Nat} (hw : WF s n) (ho : o < n) : sd (yearS s n) o = sd s o := by
  unfold sd
  refine sdF_cong hw (fun q hq => ?_) 8 o ho
  unfold yearS
  rw [yearR_at, yearR_at, ybS_at _ _ hq (show 4 < 6 by omega), ybS_at _ _ hq (show 1 < 6 by omega)]
  simp
theorem sdF_ct {s : Nat → Int32} {n : Nat} (hw : WF s n) (set : Int32) : ∀ f o, o < n → sdF (ctR s set n) f o = true → sdF s f o = true := by
  intro f
  induction f with
  | zero => intro o _ h; exact h
  | succ f ih =>
    intro o ho h
    rw [sdF, ctR_at s set ho (show 4 < 6 by omega), ctR_at s set ho (show 1 < 6 by omega)] at h
    simp only [if_true, show ¬ (1 : Nat) = 4 by omega, if_false] at h
    rw [sdF]
    obtain ⟨q, hq, eq⟩ := (hw.2.2 o ho).2.1
    have e : (s (8 + 6 * o + 1)).toNatClampNeg = q := by rw [eq]; exact nI_clamp (by have := hw.2.1; omega)
    rw [e] at h ⊢
    rcases (hw.2.2 o ho).2.2.2.2.1 with hc | hc
    · rw [hc] at h ⊢
      rw [if_pos rfl]
      by_cases hb : bt set o = true
      · rw [if_pos hb, if_neg (by decide)] at h; exact absurd h (by decide)
      · rw [if_neg hb, if_pos (by decide)] at h
        by_cases h0 : s (8 + 6 * o + 1) = 0
        · rw [if_pos h0]
        · have hq0 : q ≠ 0 := by intro z; subst z; exact h0 eq
          rw [if_neg h0] at h ⊢
          exact ih (q - 1) (by omega) h
    · rw [hc] at h
      have : ¬ ((1 : Int32) ||| (if bt set o = true then 1 else 0)) = 0 := by split <;> decide
      rw [if_neg this] at h
      exact absurd h (by decide)
theorem i64_eq (x y : Int32) : (x.toInt64 = y.toInt64) = (x = y) := by
  apply propext
  constructor
  · intro h
    have := congrArg Int64.toInt h
    rw [Int32.toInt_toInt64, Int32.toInt_toInt64] at this
    exact Int32.toInt_inj.mp this
  · intro h; rw [h]
section TR2
variable {n : Nat} {s : Nat → Int32} {M : Mm}
theorem cwinters_t (hw : WF s n) (hl : WL s n) (hx : RX M 1 s n) (y : Nat) (hy : 1 ≤ y) (hy2 : y ≤ 30) : K 5 mX5_winters [.ref 0, .int (nI y)] M (Rq (some (.int (wzS s n y).2)) (fun M' => RX M' 1 s n ∧ FC M M')) := by
  have h8 := hw.2.1
  have h1 : 1 ≤ nI y ∧ nI y ≤ 30 := ok3 (m := 30) hy hy2 (by decide)
  have loop : ∀ k, k ≤ y → ∀ M1 : Mm, FB 10 M M1 → J 5 mX5_winters 35 [some (.ref 0), some (.int (nI y)), some (.int (sumS s n)), some (.int (wzS s n k).1), some (.int (wzS s n k).2), some (.int (nI k))] [] M1 (Rq (some (.int (wzS s n y).2)) (fun M' => RX M' 1 s n ∧ FC M M')) := by
    refine down y ?_ ?_
    · intro M1 g2
      refine J_blk a_X5_winters_35 ?_
      simp only [b_X5_winters_35, w_iload5, w_iload_n1, w_icmp_ge, w_nil, kd_0, kd_1, kd_2, kd_3, kd_4, kd_5, kd_6, kd_7, kd_10, kd_11, kd_12, kd_13, kd_14, kd_15, kd_16, kd_19, kd_28, kd_29, kd_30, kd_31, kd_32, kd_33, kd_34, kd_35, kd_36, kd_37, kd_38, kd_39, kd_40, kd_41, kd_42, kd_43, kd_44, kd_45, ln_2, ln_3, ln_4, ln_5, ln_6, ln_7, ln_11, ln_12, ln_13, ln_14, ln_15, ln_16, ln_29, ln_30, ln_32, ln_33, ln_34, ln_35, ln_36, ln_37, ln_38, ln_40, ln_41, ln_42, ln_43, ln_45, Option.toList_some, Option.toList_none, List.cons_append, List.nil_append, true_and, and_true, if_true, if_false, true_or, or_true, Nat.reduceAdd, Int.reduceAdd, Bool.false_eq_true, tn_0, tn_1, tn_2, tn_3, tn_4, tn_5, tn_6, tn_7]
      refine ⟨fun _ => ?_, fun h => absurd (Int32.le_refl _) h⟩
      refine J_blk a_X5_winters_77 ?_
      simp only [b_X5_winters_77, w_iload4, w_ireti, kd_0, kd_1, kd_2, kd_3, kd_4, kd_5, kd_6, kd_7, kd_10, kd_11, kd_12, kd_13, kd_14, kd_15, kd_16, kd_19, kd_28, kd_29, kd_30, kd_31, kd_32, kd_33, kd_34, kd_35, kd_36, kd_37, kd_38, kd_39, kd_40, kd_41, kd_42, kd_43, kd_44, kd_45, ln_2, ln_3, ln_4, ln_5, ln_6, ln_7, ln_11, ln_12, ln_13, ln_14, ln_15, ln_16, ln_29, ln_30, ln_32, ln_33, ln_34, ln_35, ln_36, ln_37, ln_38, ln_40, ln_41, ln_42, ln_43, ln_45, Option.toList_some, Option.toList_none, List.cons_append, List.nil_append, true_and, and_true, if_true, if_false, true_or, or_true, Nat.reduceAdd, Int.reduceAdd, Bool.false_eq_true, tn_0, tn_1, tn_2, tn_3, tn_4, tn_5, tn_6, tn_7]
      exact ⟨rfl, RX_10 g2 hx, g2.c10⟩
    · intro k hk ih M1 g2
      rw [wzS] at ih
      refine J_blk a_X5_winters_35 ?_
      simp only [b_X5_winters_35, w_iload5, w_iload_n1, w_icmp_ge, w_nil, kd_0, kd_1, kd_2, kd_3, kd_4, kd_5, kd_6, kd_7, kd_10, kd_11, kd_12, kd_13, kd_14, kd_15, kd_16, kd_19, kd_28, kd_29, kd_30, kd_31, kd_32, kd_33, kd_34, kd_35, kd_36, kd_37, kd_38, kd_39, kd_40, kd_41, kd_42, kd_43, kd_44, kd_45, ln_2, ln_3, ln_4, ln_5, ln_6, ln_7, ln_11, ln_12, ln_13, ln_14, ln_15, ln_16, ln_29, ln_30, ln_32, ln_33, ln_34, ln_35, ln_36, ln_37, ln_38, ln_40, ln_41, ln_42, ln_43, ln_45, Option.toList_some, Option.toList_none, List.cons_append, List.nil_append, true_and, and_true, if_true, if_false, true_or, or_true, Nat.reduceAdd, Int.reduceAdd, Bool.false_eq_true, tn_0, tn_1, tn_2, tn_3, tn_4, tn_5, tn_6, tn_7]
      refine ⟨fun h => absurd h (nI_ge hk (by omega)), fun _ => ?_⟩
      refine J_blk a_X5_winters_41 ?_
      simp only [b_X5_winters_41, w_aload_n0, w_nil, kd_0, kd_1, kd_2, kd_3, kd_4, kd_5, kd_6, kd_7, kd_10, kd_11, kd_12, kd_13, kd_14, kd_15, kd_16, kd_19, kd_28, kd_29, kd_30, kd_31, kd_32, kd_33, kd_34, kd_35, kd_36, kd_37, kd_38, kd_39, kd_40, kd_41, kd_42, kd_43, kd_44, kd_45, ln_2, ln_3, ln_4, ln_5, ln_6, ln_7, ln_11, ln_12, ln_13, ln_14, ln_15, ln_16, ln_29, ln_30, ln_32, ln_33, ln_34, ln_35, ln_36, ln_37, ln_38, ln_40, ln_41, ln_42, ln_43, ln_45, Option.toList_some, Option.toList_none, List.cons_append, List.nil_append, true_and, and_true, if_true, if_false, true_or, or_true, Nat.reduceAdd, Int.reduceAdd, Bool.false_eq_true, tn_0, tn_1, tn_2, tn_3, tn_4, tn_5, tn_6, tn_7]
      refine J_callV (ci := 5) (tryNow_c h8 (RX_10 g2 hx)) k_X5_winters_42 o_X5_tryNow (rfl) rfl rfl rfl (by decide) rfl (Nat.le_of_ble_eq_true rfl) ?_
      rintro r M2 ⟨rfl, k1, k2⟩
      refine J_blk a_X5_winters_45 ?_
      simp only [b_X5_winters_45, w_iload_n3, w_putf4, w_aload_n0, w_getf5, ne0_10, w_nil, kd_0, kd_1, kd_2, kd_3, kd_4, kd_5, kd_6, kd_7, kd_10, kd_11, kd_12, kd_13, kd_14, kd_15, kd_16, kd_19, kd_28, kd_29, kd_30, kd_31, kd_32, kd_33, kd_34, kd_35, kd_36, kd_37, kd_38, kd_39, kd_40, kd_41, kd_42, kd_43, kd_44, kd_45, ln_2, ln_3, ln_4, ln_5, ln_6, ln_7, ln_11, ln_12, ln_13, ln_14, ln_15, ln_16, ln_29, ln_30, ln_32, ln_33, ln_34, ln_35, ln_36, ln_37, ln_38, ln_40, ln_41, ln_42, ln_43, ln_45, Option.toList_some, Option.toList_none, List.cons_append, List.nil_append, true_and, and_true, if_true, if_false, true_or, or_true, Nat.reduceAdd, Int.reduceAdd, Bool.false_eq_true, tn_0, tn_1, tn_2, tn_3, tn_4, tn_5, tn_6, tn_7]
      refine J_callV (ci := 4) (byDraws_c (WF_z hw (wzS s n k).1 (show 0 < 2 by omega) (by omega)) (WL_hi hl _ (fun o _ => by omega)) (RX_f10 k1 (wzS s n k).1) (Or.inr (Or.inl rfl))) k_X5_winters_53 o_X4_passYearByDraws (rfl) rfl rfl rfl (by decide) rfl (Nat.le_of_ble_eq_true rfl) ?_
      rintro r M3 ⟨rfl, l1, l2⟩
      have f3 : FB 10 M M3 := (g2.trans (k2.trans (FB_u1 M2 _ _ (by omega)))).trans l2
      have z3 : M3.1 10 10 = yearS (frR (upd s 2 (wzS s n k).1) n) n 2 := l1.2.2.2.1
      have nx := ih M3 f3
      refine J_blk a_X5_winters_56 ?_
      simp only [b_X5_winters_56, w_iload_n2, w_icmp_ge, w_nil, kd_0, kd_1, kd_2, kd_3, kd_4, kd_5, kd_6, kd_7, kd_10, kd_11, kd_12, kd_13, kd_14, kd_15, kd_16, kd_19, kd_28, kd_29, kd_30, kd_31, kd_32, kd_33, kd_34, kd_35, kd_36, kd_37, kd_38, kd_39, kd_40, kd_41, kd_42, kd_43, kd_44, kd_45, ln_2, ln_3, ln_4, ln_5, ln_6, ln_7, ln_11, ln_12, ln_13, ln_14, ln_15, ln_16, ln_29, ln_30, ln_32, ln_33, ln_34, ln_35, ln_36, ln_37, ln_38, ln_40, ln_41, ln_42, ln_43, ln_45, Option.toList_some, Option.toList_none, List.cons_append, List.nil_append, true_and, and_true, if_true, if_false, true_or, or_true, Nat.reduceAdd, Int.reduceAdd, Bool.false_eq_true, tn_0, tn_1, tn_2, tn_3, tn_4, tn_5, tn_6, tn_7, z3]
      refine ⟨fun c1 => ?_, fun c1 => ?_⟩
      · refine J_blk a_X5_winters_63 ?_
        simp only [b_X5_winters_63, w_aload_n0, w_getf5, ne0_10, w_getf4, w_istore3, nl_3n, nl_3i, nl_3a, w_iinc5, nl_5n, nl_5i, nl_5a, ci_1, w_goto, kd_0, kd_1, kd_2, kd_3, kd_4, kd_5, kd_6, kd_7, kd_10, kd_11, kd_12, kd_13, kd_14, kd_15, kd_16, kd_19, kd_28, kd_29, kd_30, kd_31, kd_32, kd_33, kd_34, kd_35, kd_36, kd_37, kd_38, kd_39, kd_40, kd_41, kd_42, kd_43, kd_44, kd_45, ln_2, ln_3, ln_4, ln_5, ln_6, ln_7, ln_11, ln_12, ln_13, ln_14, ln_15, ln_16, ln_29, ln_30, ln_32, ln_33, ln_34, ln_35, ln_36, ln_37, ln_38, ln_40, ln_41, ln_42, ln_43, ln_45, Option.toList_some, Option.toList_none, List.cons_append, List.nil_append, true_and, and_true, if_true, if_false, true_or, or_true, Nat.reduceAdd, Int.reduceAdd, Bool.false_eq_true, tn_0, tn_1, tn_2, tn_3, tn_4, tn_5, tn_6, tn_7, z3]
        exact J_cast nx (by simp only [nI_1, List.cons.injEq, Option.some.injEq, Value.int.injEq, true_and, and_true]; grind) rfl rfl
      · refine J_blk a_X5_winters_60 ?_
        simp only [b_X5_winters_60, w_iinc4, nl_4n, nl_4i, nl_4a, ci_1, w_nil, kd_0, kd_1, kd_2, kd_3, kd_4, kd_5, kd_6, kd_7, kd_10, kd_11, kd_12, kd_13, kd_14, kd_15, kd_16, kd_19, kd_28, kd_29, kd_30, kd_31, kd_32, kd_33, kd_34, kd_35, kd_36, kd_37, kd_38, kd_39, kd_40, kd_41, kd_42, kd_43, kd_44, kd_45, ln_2, ln_3, ln_4, ln_5, ln_6, ln_7, ln_11, ln_12, ln_13, ln_14, ln_15, ln_16, ln_29, ln_30, ln_32, ln_33, ln_34, ln_35, ln_36, ln_37, ln_38, ln_40, ln_41, ln_42, ln_43, ln_45, Option.toList_some, Option.toList_none, List.cons_append, List.nil_append, true_and, and_true, if_true, if_false, true_or, or_true, Nat.reduceAdd, Int.reduceAdd, Bool.false_eq_true, tn_0, tn_1, tn_2, tn_3, tn_4, tn_5, tn_6, tn_7, z3]
        refine J_blk a_X5_winters_63 ?_
        simp only [b_X5_winters_63, w_aload_n0, w_getf5, ne0_10, w_getf4, w_istore3, nl_3n, nl_3i, nl_3a, w_iinc5, nl_5n, nl_5i, nl_5a, ci_1, w_goto, kd_0, kd_1, kd_2, kd_3, kd_4, kd_5, kd_6, kd_7, kd_10, kd_11, kd_12, kd_13, kd_14, kd_15, kd_16, kd_19, kd_28, kd_29, kd_30, kd_31, kd_32, kd_33, kd_34, kd_35, kd_36, kd_37, kd_38, kd_39, kd_40, kd_41, kd_42, kd_43, kd_44, kd_45, ln_2, ln_3, ln_4, ln_5, ln_6, ln_7, ln_11, ln_12, ln_13, ln_14, ln_15, ln_16, ln_29, ln_30, ln_32, ln_33, ln_34, ln_35, ln_36, ln_37, ln_38, ln_40, ln_41, ln_42, ln_43, ln_45, Option.toList_some, Option.toList_none, List.cons_append, List.nil_append, true_and, and_true, if_true, if_false, true_or, or_true, Nat.reduceAdd, Int.reduceAdd, Bool.false_eq_true, tn_0, tn_1, tn_2, tn_3, tn_4, tn_5, tn_6, tn_7, z3]
        exact J_cast nx (by simp only [nI_1, List.cons.injEq, Option.some.injEq, Value.int.injEq, true_and, and_true]; grind) rfl rfl
  have go : J 5 mX5_winters 12 [some (.ref 0), some (.int (nI y)), none, none, none, none] [] M (Rq (some (.int (wzS s n y).2)) (fun M' => RX M' 1 s n ∧ FC M M')) := by
    refine J_blk a_X5_winters_12 ?_
    simp only [b_X5_winters_12, w_aload_n0, w_nil, kd_0, kd_1, kd_2, kd_3, kd_4, kd_5, kd_6, kd_7, kd_10, kd_11, kd_12, kd_13, kd_14, kd_15, kd_16, kd_19, kd_28, kd_29, kd_30, kd_31, kd_32, kd_33, kd_34, kd_35, kd_36, kd_37, kd_38, kd_39, kd_40, kd_41, kd_42, kd_43, kd_44, kd_45, ln_2, ln_3, ln_4, ln_5, ln_6, ln_7, ln_11, ln_12, ln_13, ln_14, ln_15, ln_16, ln_29, ln_30, ln_32, ln_33, ln_34, ln_35, ln_36, ln_37, ln_38, ln_40, ln_41, ln_42, ln_43, ln_45, Option.toList_some, Option.toList_none, List.cons_append, List.nil_append, true_and, and_true, if_true, if_false, true_or, or_true, Nat.reduceAdd, Int.reduceAdd, Bool.false_eq_true, tn_0, tn_1, tn_2, tn_3, tn_4, tn_5, tn_6, tn_7]
    refine J_callV (ci := 5) (tryNow_c h8 hx) k_X5_winters_13 o_X5_tryNow (rfl) rfl rfl rfl (by decide) rfl (Nat.le_of_ble_eq_true rfl) ?_
    rintro r M1 ⟨rfl, g1, g2⟩
    refine J_blk a_X5_winters_16 ?_
    simp only [b_X5_winters_16, w_iconst_1, w_nil, kd_0, kd_1, kd_2, kd_3, kd_4, kd_5, kd_6, kd_7, kd_10, kd_11, kd_12, kd_13, kd_14, kd_15, kd_16, kd_19, kd_28, kd_29, kd_30, kd_31, kd_32, kd_33, kd_34, kd_35, kd_36, kd_37, kd_38, kd_39, kd_40, kd_41, kd_42, kd_43, kd_44, kd_45, ln_2, ln_3, ln_4, ln_5, ln_6, ln_7, ln_11, ln_12, ln_13, ln_14, ln_15, ln_16, ln_29, ln_30, ln_32, ln_33, ln_34, ln_35, ln_36, ln_37, ln_38, ln_40, ln_41, ln_42, ln_43, ln_45, Option.toList_some, Option.toList_none, List.cons_append, List.nil_append, true_and, and_true, if_true, if_false, true_or, or_true, Nat.reduceAdd, Int.reduceAdd, Bool.false_eq_true, tn_0, tn_1, tn_2, tn_3, tn_4, tn_5, tn_6, tn_7]
    refine J_callV (ci := 4) (passYears_c (y := 1) hw hl g1 (Or.inr (Or.inl rfl)) (by omega)) k_X5_winters_17 o_X4_passYears (rfl) rfl rfl rfl (by decide) rfl (Nat.le_of_ble_eq_true rfl) ?_
    rintro r M2 ⟨rfl, k1, k2⟩
    have f2 := g2.trans k2
    have xz : M2.1 1 10 = s 2 := (RX_10 f2 hx).2.2.2.1
    have e : hvS s n 1 = sumS s n := by rw [hvS, hvS, Int32.zero_add]; rfl
    rw [e]
    refine J_blk a_X5_winters_20 ?_
    simp only [b_X5_winters_20, w_istore2, nl_2n, nl_2i, nl_2a, w_aload_n0, w_getf5, ne0_1, w_getf4, w_istore3, nl_3n, nl_3i, nl_3a, w_iconst_0, w_istore4, nl_4n, nl_4i, nl_4a, w_istore5, nl_5n, nl_5i, nl_5a, w_nil, kd_0, kd_1, kd_2, kd_3, kd_4, kd_5, kd_6, kd_7, kd_10, kd_11, kd_12, kd_13, kd_14, kd_15, kd_16, kd_19, kd_28, kd_29, kd_30, kd_31, kd_32, kd_33, kd_34, kd_35, kd_36, kd_37, kd_38, kd_39, kd_40, kd_41, kd_42, kd_43, kd_44, kd_45, ln_2, ln_3, ln_4, ln_5, ln_6, ln_7, ln_11, ln_12, ln_13, ln_14, ln_15, ln_16, ln_29, ln_30, ln_32, ln_33, ln_34, ln_35, ln_36, ln_37, ln_38, ln_40, ln_41, ln_42, ln_43, ln_45, Option.toList_some, Option.toList_none, List.cons_append, List.nil_append, true_and, and_true, if_true, if_false, true_or, or_true, Nat.reduceAdd, Int.reduceAdd, Bool.false_eq_true, tn_0, tn_1, tn_2, tn_3, tn_4, tn_5, tn_6, tn_7, xz]
    exact loop 0 (by omega) M2 f2
  refine K_go 1 o_X5_winters [none, none, none, none] rfl (Nat.le_of_ble_eq_true rfl) ?_
  simp only [lvA_i, lvA_a, lvA_l, lvA_nil, List.cons_append, List.nil_append]
  refine J_blk a_X5_winters_0 ?_
  simp only [b_X5_winters_0, w_iload_n1, w_iconst_1, w_bipush, ci_30, w_nil, kd_0, kd_1, kd_2, kd_3, kd_4, kd_5, kd_6, kd_7, kd_10, kd_11, kd_12, kd_13, kd_14, kd_15, kd_16, kd_19, kd_28, kd_29, kd_30, kd_31, kd_32, kd_33, kd_34, kd_35, kd_36, kd_37, kd_38, kd_39, kd_40, kd_41, kd_42, kd_43, kd_44, kd_45, ln_2, ln_3, ln_4, ln_5, ln_6, ln_7, ln_11, ln_12, ln_13, ln_14, ln_15, ln_16, ln_29, ln_30, ln_32, ln_33, ln_34, ln_35, ln_36, ln_37, ln_38, ln_40, ln_41, ln_42, ln_43, ln_45, Option.toList_some, Option.toList_none, List.cons_append, List.nil_append, true_and, and_true, if_true, if_false, true_or, or_true, Nat.reduceAdd, Int.reduceAdd, Bool.false_eq_true, tn_0, tn_1, tn_2, tn_3, tn_4, tn_5, tn_6, tn_7]
  refine J_callSr (within_c _ _ _ _) k_X5_winters_4 o_X5_within rfl (by decide) rfl (Nat.le_of_ble_eq_true rfl) ?_
  rw [if_pos (by first | exact h1 | exact h2 | exact h3 | exact h4)]
  refine J_blk a_X5_winters_7 ?_
  simp only [b_X5_winters_7, w_if_ne, w_nil, kd_0, kd_1, kd_2, kd_3, kd_4, kd_5, kd_6, kd_7, kd_10, kd_11, kd_12, kd_13, kd_14, kd_15, kd_16, kd_19, kd_28, kd_29, kd_30, kd_31, kd_32, kd_33, kd_34, kd_35, kd_36, kd_37, kd_38, kd_39, kd_40, kd_41, kd_42, kd_43, kd_44, kd_45, ln_2, ln_3, ln_4, ln_5, ln_6, ln_7, ln_11, ln_12, ln_13, ln_14, ln_15, ln_16, ln_29, ln_30, ln_32, ln_33, ln_34, ln_35, ln_36, ln_37, ln_38, ln_40, ln_41, ln_42, ln_43, ln_45, Option.toList_some, Option.toList_none, List.cons_append, List.nil_append, true_and, and_true, if_true, if_false, true_or, or_true, Nat.reduceAdd, Int.reduceAdd, Bool.false_eq_true, tn_0, tn_1, tn_2, tn_3, tn_4, tn_5, tn_6, tn_7]
  refine ⟨fun c2 => ?_, fun c2 => ?_⟩
  · first
      | exact absurd c2 (by decide)
      | (exact go)
  · first
      | exact absurd c2 (by decide)
      | (refine J_blk a_X5_winters_10 ?_
         simp only [b_X5_winters_10, w_iconst_m1, w_ireti, kd_0, kd_1, kd_2, kd_3, kd_4, kd_5, kd_6, kd_7, kd_10, kd_11, kd_12, kd_13, kd_14, kd_15, kd_16, kd_19, kd_28, kd_29, kd_30, kd_31, kd_32, kd_33, kd_34, kd_35, kd_36, kd_37, kd_38, kd_39, kd_40, kd_41, kd_42, kd_43, kd_44, kd_45, ln_2, ln_3, ln_4, ln_5, ln_6, ln_7, ln_11, ln_12, ln_13, ln_14, ln_15, ln_16, ln_29, ln_30, ln_32, ln_33, ln_34, ln_35, ln_36, ln_37, ln_38, ln_40, ln_41, ln_42, ln_43, ln_45, Option.toList_some, Option.toList_none, List.cons_append, List.nil_append, true_and, and_true, if_true, if_false, true_or, or_true, Nat.reduceAdd, Int.reduceAdd, Bool.false_eq_true, tn_0, tn_1, tn_2, tn_3, tn_4, tn_5, tn_6, tn_7]
         first | exact ⟨rfl, rfl⟩ | (simp_all [Rt]))
theorem ckindFor_t (hw : WF s n) (hl : WL s n) (hx : RX M 1 s n) (o y : Nat) (hj : o < n) (hy : 1 ≤ y) (hy2 : y ≤ 20) : K 5 mX5_kindFor [.ref 0, .int (nI o), .int (nI y)] M (Rq (some (.int (mxS (kfV s n o y) 0 (-1) 6).1)) (fun M' => RX M' 1 s n ∧ FC M M')) := by
  have h8 := hw.2.1
  have ho := ok1 hj (by omega)
  have h1 : 1 ≤ nI y ∧ nI y ≤ 20 := ok3 (m := 20) hy hy2 (by decide)
  have to : (nI o).toNatClampNeg = o := nI_clamp (by omega)
  have loop : ∀ k, k ≤ 6 → ∀ (M1 : Mm) (z : Option Value), FB 10 M M1 → J 5 mX5_kindFor 31 [some (.ref 0), some (.int (nI o)), some (.int (nI y)), some (.int (mxS (kfV s n o y) 0 (-1) k).2), some (.int (mxS (kfV s n o y) 0 (-1) k).1), some (.int (nI k)), z] [] M1 (Rq (some (.int (mxS (kfV s n o y) 0 (-1) 6).1)) (fun M' => RX M' 1 s n ∧ FC M M')) := by
    refine down 6 ?_ ?_
    · intro M1 z g2
      refine J_blk a_X5_kindFor_31 ?_
      simp only [b_X5_kindFor_31, w_iload5, w_iconst_5, w_icmp_gt, w_nil, kd_0, kd_1, kd_2, kd_3, kd_4, kd_5, kd_6, kd_7, kd_10, kd_11, kd_12, kd_13, kd_14, kd_15, kd_16, kd_19, kd_28, kd_29, kd_30, kd_31, kd_32, kd_33, kd_34, kd_35, kd_36, kd_37, kd_38, kd_39, kd_40, kd_41, kd_42, kd_43, kd_44, kd_45, ln_2, ln_3, ln_4, ln_5, ln_6, ln_7, ln_11, ln_12, ln_13, ln_14, ln_15, ln_16, ln_29, ln_30, ln_32, ln_33, ln_34, ln_35, ln_36, ln_37, ln_38, ln_40, ln_41, ln_42, ln_43, ln_45, Option.toList_some, Option.toList_none, List.cons_append, List.nil_append, true_and, and_true, if_true, if_false, true_or, or_true, Nat.reduceAdd, Int.reduceAdd, Bool.false_eq_true, tn_0, tn_1, tn_2, tn_3, tn_4, tn_5, tn_6, tn_7]
      refine ⟨fun _ => ?_, fun h => absurd (show (5 : Int32) < nI 6 by decide) h⟩
      refine J_blk a_X5_kindFor_77 ?_
      simp only [b_X5_kindFor_77, w_iload4, w_ireti, kd_0, kd_1, kd_2, kd_3, kd_4, kd_5, kd_6, kd_7, kd_10, kd_11, kd_12, kd_13, kd_14, kd_15, kd_16, kd_19, kd_28, kd_29, kd_30, kd_31, kd_32, kd_33, kd_34, kd_35, kd_36, kd_37, kd_38, kd_39, kd_40, kd_41, kd_42, kd_43, kd_44, kd_45, ln_2, ln_3, ln_4, ln_5, ln_6, ln_7, ln_11, ln_12, ln_13, ln_14, ln_15, ln_16, ln_29, ln_30, ln_32, ln_33, ln_34, ln_35, ln_36, ln_37, ln_38, ln_40, ln_41, ln_42, ln_43, ln_45, Option.toList_some, Option.toList_none, List.cons_append, List.nil_append, true_and, and_true, if_true, if_false, true_or, or_true, Nat.reduceAdd, Int.reduceAdd, Bool.false_eq_true, tn_0, tn_1, tn_2, tn_3, tn_4, tn_5, tn_6, tn_7]
      exact ⟨rfl, RX_10 g2 hx, g2.c10⟩
    · intro k hk ih M1 z g2
      have e5 : (5 < nI k) = (5 < k) := propext (nI_ltI (a := 5) (by decide) (by omega))
      simp only [mxS] at ih
      refine J_blk a_X5_kindFor_31 ?_
      simp only [b_X5_kindFor_31, w_iload5, w_iconst_5, w_icmp_gt, w_nil, kd_0, kd_1, kd_2, kd_3, kd_4, kd_5, kd_6, kd_7, kd_10, kd_11, kd_12, kd_13, kd_14, kd_15, kd_16, kd_19, kd_28, kd_29, kd_30, kd_31, kd_32, kd_33, kd_34, kd_35, kd_36, kd_37, kd_38, kd_39, kd_40, kd_41, kd_42, kd_43, kd_44, kd_45, ln_2, ln_3, ln_4, ln_5, ln_6, ln_7, ln_11, ln_12, ln_13, ln_14, ln_15, ln_16, ln_29, ln_30, ln_32, ln_33, ln_34, ln_35, ln_36, ln_37, ln_38, ln_40, ln_41, ln_42, ln_43, ln_45, Option.toList_some, Option.toList_none, List.cons_append, List.nil_append, true_and, and_true, if_true, if_false, true_or, or_true, Nat.reduceAdd, Int.reduceAdd, Bool.false_eq_true, tn_0, tn_1, tn_2, tn_3, tn_4, tn_5, tn_6, tn_7, e5]
      refine ⟨fun h => absurd h (by omega), fun _ => ?_⟩
      refine J_blk a_X5_kindFor_37 ?_
      simp only [b_X5_kindFor_37, w_aload_n0, w_nil, kd_0, kd_1, kd_2, kd_3, kd_4, kd_5, kd_6, kd_7, kd_10, kd_11, kd_12, kd_13, kd_14, kd_15, kd_16, kd_19, kd_28, kd_29, kd_30, kd_31, kd_32, kd_33, kd_34, kd_35, kd_36, kd_37, kd_38, kd_39, kd_40, kd_41, kd_42, kd_43, kd_44, kd_45, ln_2, ln_3, ln_4, ln_5, ln_6, ln_7, ln_11, ln_12, ln_13, ln_14, ln_15, ln_16, ln_29, ln_30, ln_32, ln_33, ln_34, ln_35, ln_36, ln_37, ln_38, ln_40, ln_41, ln_42, ln_43, ln_45, Option.toList_some, Option.toList_none, List.cons_append, List.nil_append, true_and, and_true, if_true, if_false, true_or, or_true, Nat.reduceAdd, Int.reduceAdd, Bool.false_eq_true, tn_0, tn_1, tn_2, tn_3, tn_4, tn_5, tn_6, tn_7]
      refine J_callV (ci := 5) (tryNow_c h8 (RX_10 g2 hx)) k_X5_kindFor_38 o_X5_tryNow (rfl) rfl rfl rfl (by decide) rfl (Nat.le_of_ble_eq_true rfl) ?_
      rintro r M2 ⟨rfl, k1, k2⟩
      refine J_blk a_X5_kindFor_41 ?_
      simp only [b_X5_kindFor_41, w_getf4, ne0_2, w_iload_n1, w_iload5, w_iast, w_aload_n0, w_getf5, ne0_10, w_iload_n2, w_nil, kd_0, kd_1, kd_2, kd_3, kd_4, kd_5, kd_6, kd_7, kd_10, kd_11, kd_12, kd_13, kd_14, kd_15, kd_16, kd_19, kd_28, kd_29, kd_30, kd_31, kd_32, kd_33, kd_34, kd_35, kd_36, kd_37, kd_38, kd_39, kd_40, kd_41, kd_42, kd_43, kd_44, kd_45, ln_2, ln_3, ln_4, ln_5, ln_6, ln_7, ln_11, ln_12, ln_13, ln_14, ln_15, ln_16, ln_29, ln_30, ln_32, ln_33, ln_34, ln_35, ln_36, ln_37, ln_38, ln_40, ln_41, ln_42, ln_43, ln_45, Option.toList_some, Option.toList_none, List.cons_append, List.nil_append, true_and, and_true, if_true, if_false, true_or, or_true, Nat.reduceAdd, Int.reduceAdd, Bool.false_eq_true, tn_0, tn_1, tn_2, tn_3, tn_4, tn_5, tn_6, tn_7, to]
      refine ⟨vinN (by omega) (by decide), ?_⟩
      refine J_callV (ci := 4) (passYears_c (WF_kind (o := o) hw (show k ≤ 5 by omega)) (WL_hi hl (j := 8 + 6 * o) _ (fun q _ => by omega)) (RX_2 (m := o) k1 (nI k)) (Or.inr (Or.inl rfl)) (show y ≤ 60 by omega)) k_X5_kindFor_53 o_X4_passYears (rfl) rfl rfl rfl (by decide) rfl (Nat.le_of_ble_eq_true rfl) ?_
      rintro r M3 ⟨rfl, l1, l2⟩
      have f3 : FB 10 M M3 := (g2.trans (k2.trans (FB_u1 M2 _ _ (by omega)))).trans l2
      rw [show hvS (upd s (8 + 6 * o) (nI k)) n y = kfV s n o y k from rfl]
      generalize mxS (kfV s n o y) 0 (-1) k = q at *
      generalize kfV s n o y k = v at *
      refine J_blk a_X5_kindFor_56 ?_
      simp only [b_X5_kindFor_56, w_istore6, nl_6n, nl_6i, nl_6a, w_iload6, w_iload_n3, w_icmp_le, w_nil, kd_0, kd_1, kd_2, kd_3, kd_4, kd_5, kd_6, kd_7, kd_10, kd_11, kd_12, kd_13, kd_14, kd_15, kd_16, kd_19, kd_28, kd_29, kd_30, kd_31, kd_32, kd_33, kd_34, kd_35, kd_36, kd_37, kd_38, kd_39, kd_40, kd_41, kd_42, kd_43, kd_44, kd_45, ln_2, ln_3, ln_4, ln_5, ln_6, ln_7, ln_11, ln_12, ln_13, ln_14, ln_15, ln_16, ln_29, ln_30, ln_32, ln_33, ln_34, ln_35, ln_36, ln_37, ln_38, ln_40, ln_41, ln_42, ln_43, ln_45, Option.toList_some, Option.toList_none, List.cons_append, List.nil_append, true_and, and_true, if_true, if_false, true_or, or_true, Nat.reduceAdd, Int.reduceAdd, Bool.false_eq_true, tn_0, tn_1, tn_2, tn_3, tn_4, tn_5, tn_6, tn_7]
      refine ⟨fun c => ?_, fun c => ?_⟩
      · simp only [if_neg (Int32.not_lt.mpr c)] at ih
        refine J_blk a_X5_kindFor_71 ?_
        simp only [b_X5_kindFor_71, w_iinc5, nl_5n, nl_5i, nl_5a, ci_1, w_goto, kd_0, kd_1, kd_2, kd_3, kd_4, kd_5, kd_6, kd_7, kd_10, kd_11, kd_12, kd_13, kd_14, kd_15, kd_16, kd_19, kd_28, kd_29, kd_30, kd_31, kd_32, kd_33, kd_34, kd_35, kd_36, kd_37, kd_38, kd_39, kd_40, kd_41, kd_42, kd_43, kd_44, kd_45, ln_2, ln_3, ln_4, ln_5, ln_6, ln_7, ln_11, ln_12, ln_13, ln_14, ln_15, ln_16, ln_29, ln_30, ln_32, ln_33, ln_34, ln_35, ln_36, ln_37, ln_38, ln_40, ln_41, ln_42, ln_43, ln_45, Option.toList_some, Option.toList_none, List.cons_append, List.nil_append, true_and, and_true, if_true, if_false, true_or, or_true, Nat.reduceAdd, Int.reduceAdd, Bool.false_eq_true, tn_0, tn_1, tn_2, tn_3, tn_4, tn_5, tn_6, tn_7, nI_1]
        exact ih M3 _ f3
      · simp only [if_pos (Int32.not_le.mp c)] at ih
        refine J_blk a_X5_kindFor_64 ?_
        simp only [b_X5_kindFor_64, w_iload6, w_istore3, nl_3n, nl_3i, nl_3a, w_iload5, w_istore4, nl_4n, nl_4i, nl_4a, w_nil, kd_0, kd_1, kd_2, kd_3, kd_4, kd_5, kd_6, kd_7, kd_10, kd_11, kd_12, kd_13, kd_14, kd_15, kd_16, kd_19, kd_28, kd_29, kd_30, kd_31, kd_32, kd_33, kd_34, kd_35, kd_36, kd_37, kd_38, kd_39, kd_40, kd_41, kd_42, kd_43, kd_44, kd_45, ln_2, ln_3, ln_4, ln_5, ln_6, ln_7, ln_11, ln_12, ln_13, ln_14, ln_15, ln_16, ln_29, ln_30, ln_32, ln_33, ln_34, ln_35, ln_36, ln_37, ln_38, ln_40, ln_41, ln_42, ln_43, ln_45, Option.toList_some, Option.toList_none, List.cons_append, List.nil_append, true_and, and_true, if_true, if_false, true_or, or_true, Nat.reduceAdd, Int.reduceAdd, Bool.false_eq_true, tn_0, tn_1, tn_2, tn_3, tn_4, tn_5, tn_6, tn_7, nI_1]
        refine J_blk a_X5_kindFor_71 ?_
        simp only [b_X5_kindFor_71, w_iinc5, nl_5n, nl_5i, nl_5a, ci_1, w_goto, kd_0, kd_1, kd_2, kd_3, kd_4, kd_5, kd_6, kd_7, kd_10, kd_11, kd_12, kd_13, kd_14, kd_15, kd_16, kd_19, kd_28, kd_29, kd_30, kd_31, kd_32, kd_33, kd_34, kd_35, kd_36, kd_37, kd_38, kd_39, kd_40, kd_41, kd_42, kd_43, kd_44, kd_45, ln_2, ln_3, ln_4, ln_5, ln_6, ln_7, ln_11, ln_12, ln_13, ln_14, ln_15, ln_16, ln_29, ln_30, ln_32, ln_33, ln_34, ln_35, ln_36, ln_37, ln_38, ln_40, ln_41, ln_42, ln_43, ln_45, Option.toList_some, Option.toList_none, List.cons_append, List.nil_append, true_and, and_true, if_true, if_false, true_or, or_true, Nat.reduceAdd, Int.reduceAdd, Bool.false_eq_true, tn_0, tn_1, tn_2, tn_3, tn_4, tn_5, tn_6, tn_7, nI_1]
        exact ih M3 _ f3
  have l0 := loop 0 (by omega) M none (FB.refl _ _)
  refine K_go 2 o_X5_kindFor [none, none, none, none] rfl (Nat.le_of_ble_eq_true rfl) ?_
  simp only [lvA_i, lvA_a, lvA_l, lvA_nil, List.cons_append, List.nil_append]
  refine J_blk a_X5_kindFor_0 ?_
  simp only [b_X5_kindFor_0, w_aload_n0, w_getf5, ne0_1, w_iload_n1, w_nil, kd_0, kd_1, kd_2, kd_3, kd_4, kd_5, kd_6, kd_7, kd_10, kd_11, kd_12, kd_13, kd_14, kd_15, kd_16, kd_19, kd_28, kd_29, kd_30, kd_31, kd_32, kd_33, kd_34, kd_35, kd_36, kd_37, kd_38, kd_39, kd_40, kd_41, kd_42, kd_43, kd_44, kd_45, ln_2, ln_3, ln_4, ln_5, ln_6, ln_7, ln_11, ln_12, ln_13, ln_14, ln_15, ln_16, ln_29, ln_30, ln_32, ln_33, ln_34, ln_35, ln_36, ln_37, ln_38, ln_40, ln_41, ln_42, ln_43, ln_45, Option.toList_some, Option.toList_none, List.cons_append, List.nil_append, true_and, and_true, if_true, if_false, true_or, or_true, Nat.reduceAdd, Int.reduceAdd, Bool.false_eq_true, tn_0, tn_1, tn_2, tn_3, tn_4, tn_5, tn_6, tn_7]
  refine J_callVr (ci := 4) (has2 hw hx (Or.inl rfl) _) k_X5_kindFor_5 o_X4_has (rfl) rfl rfl rfl (by decide) rfl (Nat.le_of_ble_eq_true rfl) ?_
  rw [if_pos ho]
  refine J_blk a_X5_kindFor_8 ?_
  simp only [b_X5_kindFor_8, w_if_eq, w_nil, kd_0, kd_1, kd_2, kd_3, kd_4, kd_5, kd_6, kd_7, kd_10, kd_11, kd_12, kd_13, kd_14, kd_15, kd_16, kd_19, kd_28, kd_29, kd_30, kd_31, kd_32, kd_33, kd_34, kd_35, kd_36, kd_37, kd_38, kd_39, kd_40, kd_41, kd_42, kd_43, kd_44, kd_45, ln_2, ln_3, ln_4, ln_5, ln_6, ln_7, ln_11, ln_12, ln_13, ln_14, ln_15, ln_16, ln_29, ln_30, ln_32, ln_33, ln_34, ln_35, ln_36, ln_37, ln_38, ln_40, ln_41, ln_42, ln_43, ln_45, Option.toList_some, Option.toList_none, List.cons_append, List.nil_append, true_and, and_true, if_true, if_false, true_or, or_true, Nat.reduceAdd, Int.reduceAdd, Bool.false_eq_true, tn_0, tn_1, tn_2, tn_3, tn_4, tn_5, tn_6, tn_7]
  refine ⟨fun c3 => ?_, fun c3 => ?_⟩
  · first
      | exact absurd c3 (by decide)
      | (refine J_blk a_X5_kindFor_21 ?_
         simp only [b_X5_kindFor_21, w_iconst_m1, w_ireti, kd_0, kd_1, kd_2, kd_3, kd_4, kd_5, kd_6, kd_7, kd_10, kd_11, kd_12, kd_13, kd_14, kd_15, kd_16, kd_19, kd_28, kd_29, kd_30, kd_31, kd_32, kd_33, kd_34, kd_35, kd_36, kd_37, kd_38, kd_39, kd_40, kd_41, kd_42, kd_43, kd_44, kd_45, ln_2, ln_3, ln_4, ln_5, ln_6, ln_7, ln_11, ln_12, ln_13, ln_14, ln_15, ln_16, ln_29, ln_30, ln_32, ln_33, ln_34, ln_35, ln_36, ln_37, ln_38, ln_40, ln_41, ln_42, ln_43, ln_45, Option.toList_some, Option.toList_none, List.cons_append, List.nil_append, true_and, and_true, if_true, if_false, true_or, or_true, Nat.reduceAdd, Int.reduceAdd, Bool.false_eq_true, tn_0, tn_1, tn_2, tn_3, tn_4, tn_5, tn_6, tn_7]
         first | exact ⟨rfl, rfl⟩ | (simp_all [Rt]))
  · first
      | exact absurd c3 (by decide)
      | (refine J_blk a_X5_kindFor_11 ?_
         simp only [b_X5_kindFor_11, w_iload_n2, w_iconst_1, w_bipush, ci_20, w_nil, kd_0, kd_1, kd_2, kd_3, kd_4, kd_5, kd_6, kd_7, kd_10, kd_11, kd_12, kd_13, kd_14, kd_15, kd_16, kd_19, kd_28, kd_29, kd_30, kd_31, kd_32, kd_33, kd_34, kd_35, kd_36, kd_37, kd_38, kd_39, kd_40, kd_41, kd_42, kd_43, kd_44, kd_45, ln_2, ln_3, ln_4, ln_5, ln_6, ln_7, ln_11, ln_12, ln_13, ln_14, ln_15, ln_16, ln_29, ln_30, ln_32, ln_33, ln_34, ln_35, ln_36, ln_37, ln_38, ln_40, ln_41, ln_42, ln_43, ln_45, Option.toList_some, Option.toList_none, List.cons_append, List.nil_append, true_and, and_true, if_true, if_false, true_or, or_true, Nat.reduceAdd, Int.reduceAdd, Bool.false_eq_true, tn_0, tn_1, tn_2, tn_3, tn_4, tn_5, tn_6, tn_7]
         refine J_callSr (within_c _ _ _ _) k_X5_kindFor_15 o_X5_within rfl (by decide) rfl (Nat.le_of_ble_eq_true rfl) ?_
         rw [if_pos (by first | exact h1 | exact h2 | exact h3 | exact h4)]
         refine J_blk a_X5_kindFor_18 ?_
         simp only [b_X5_kindFor_18, w_if_ne, w_nil, kd_0, kd_1, kd_2, kd_3, kd_4, kd_5, kd_6, kd_7, kd_10, kd_11, kd_12, kd_13, kd_14, kd_15, kd_16, kd_19, kd_28, kd_29, kd_30, kd_31, kd_32, kd_33, kd_34, kd_35, kd_36, kd_37, kd_38, kd_39, kd_40, kd_41, kd_42, kd_43, kd_44, kd_45, ln_2, ln_3, ln_4, ln_5, ln_6, ln_7, ln_11, ln_12, ln_13, ln_14, ln_15, ln_16, ln_29, ln_30, ln_32, ln_33, ln_34, ln_35, ln_36, ln_37, ln_38, ln_40, ln_41, ln_42, ln_43, ln_45, Option.toList_some, Option.toList_none, List.cons_append, List.nil_append, true_and, and_true, if_true, if_false, true_or, or_true, Nat.reduceAdd, Int.reduceAdd, Bool.false_eq_true, tn_0, tn_1, tn_2, tn_3, tn_4, tn_5, tn_6, tn_7]
         refine ⟨fun c4 => ?_, fun c4 => ?_⟩
         · first
             | exact absurd c4 (by decide)
             | (refine J_blk a_X5_kindFor_23 ?_
                simp only [b_X5_kindFor_23, w_iconst_m1, w_istore3, nl_3n, nl_3i, nl_3a, w_iconst_0, w_istore4, nl_4n, nl_4i, nl_4a, w_istore5, nl_5n, nl_5i, nl_5a, w_nil, kd_0, kd_1, kd_2, kd_3, kd_4, kd_5, kd_6, kd_7, kd_10, kd_11, kd_12, kd_13, kd_14, kd_15, kd_16, kd_19, kd_28, kd_29, kd_30, kd_31, kd_32, kd_33, kd_34, kd_35, kd_36, kd_37, kd_38, kd_39, kd_40, kd_41, kd_42, kd_43, kd_44, kd_45, ln_2, ln_3, ln_4, ln_5, ln_6, ln_7, ln_11, ln_12, ln_13, ln_14, ln_15, ln_16, ln_29, ln_30, ln_32, ln_33, ln_34, ln_35, ln_36, ln_37, ln_38, ln_40, ln_41, ln_42, ln_43, ln_45, Option.toList_some, Option.toList_none, List.cons_append, List.nil_append, true_and, and_true, if_true, if_false, true_or, or_true, Nat.reduceAdd, Int.reduceAdd, Bool.false_eq_true, tn_0, tn_1, tn_2, tn_3, tn_4, tn_5, tn_6, tn_7]
                exact l0)
         · first
             | exact absurd c4 (by decide)
             | (refine J_blk a_X5_kindFor_21 ?_
                simp only [b_X5_kindFor_21, w_iconst_m1, w_ireti, kd_0, kd_1, kd_2, kd_3, kd_4, kd_5, kd_6, kd_7, kd_10, kd_11, kd_12, kd_13, kd_14, kd_15, kd_16, kd_19, kd_28, kd_29, kd_30, kd_31, kd_32, kd_33, kd_34, kd_35, kd_36, kd_37, kd_38, kd_39, kd_40, kd_41, kd_42, kd_43, kd_44, kd_45, ln_2, ln_3, ln_4, ln_5, ln_6, ln_7, ln_11, ln_12, ln_13, ln_14, ln_15, ln_16, ln_29, ln_30, ln_32, ln_33, ln_34, ln_35, ln_36, ln_37, ln_38, ln_40, ln_41, ln_42, ln_43, ln_45, Option.toList_some, Option.toList_none, List.cons_append, List.nil_append, true_and, and_true, if_true, if_false, true_or, or_true, Nat.reduceAdd, Int.reduceAdd, Bool.false_eq_true, tn_0, tn_1, tn_2, tn_3, tn_4, tn_5, tn_6, tn_7]
                first | exact ⟨rfl, rfl⟩ | (simp_all [Rt])))
theorem cforceFor_t (hw : WF s n) (hl : WL s n) (hx : RX M 1 s n) (o y : Nat) (v : Int32) (hj : o < n) (hy : 1 ≤ y) (hy2 : y ≤ 20) (h2 : 0 ≤ v ∧ v ≤ 9999) : K 5 mX5_forceFor [.ref 0, .int (nI o), .int (nI y), .int v] M (Rq (some (.int (fst1 (ffV s n o y v) 10 0))) (fun M' => RX M' 1 s n ∧ FC M M')) := by
  have h8 := hw.2.1
  have ho := ok1 hj (by omega)
  have h1 : 1 ≤ nI y ∧ nI y ≤ 20 := ok3 (m := 20) hy hy2 (by decide)
  have to : (nI o).toNatClampNeg = o := nI_clamp (by omega)
  have loop : ∀ f k, f + k = 10 → ∀ M1 : Mm, FB 10 M M1 → J 5 mX5_forceFor 37 [some (.ref 0), some (.int (nI o)), some (.int (nI y)), some (.int v), some (.int (nI k))] [] M1 (Rq (some (.int (fst1 (ffV s n o y v) f k))) (fun M' => RX M' 1 s n ∧ FC M M')) := by
    intro f
    induction f with
    | zero =>
      intro k hk M1 g2
      have : k = 10 := by omega
      subst this
      refine J_blk a_X5_forceFor_37 ?_
      simp only [b_X5_forceFor_37, w_iload4, w_bipush, ci_9, w_icmp_gt, w_nil, kd_0, kd_1, kd_2, kd_3, kd_4, kd_5, kd_6, kd_7, kd_10, kd_11, kd_12, kd_13, kd_14, kd_15, kd_16, kd_19, kd_28, kd_29, kd_30, kd_31, kd_32, kd_33, kd_34, kd_35, kd_36, kd_37, kd_38, kd_39, kd_40, kd_41, kd_42, kd_43, kd_44, kd_45, ln_2, ln_3, ln_4, ln_5, ln_6, ln_7, ln_11, ln_12, ln_13, ln_14, ln_15, ln_16, ln_29, ln_30, ln_32, ln_33, ln_34, ln_35, ln_36, ln_37, ln_38, ln_40, ln_41, ln_42, ln_43, ln_45, Option.toList_some, Option.toList_none, List.cons_append, List.nil_append, true_and, and_true, if_true, if_false, true_or, or_true, Nat.reduceAdd, Int.reduceAdd, Bool.false_eq_true, tn_0, tn_1, tn_2, tn_3, tn_4, tn_5, tn_6, tn_7]
      refine ⟨fun _ => ?_, fun h => absurd (show (9 : Int32) < nI 10 by decide) h⟩
      refine J_blk a_X5_forceFor_76 ?_
      simp only [b_X5_forceFor_76, w_bipush, ci_m3, w_ireti, kd_0, kd_1, kd_2, kd_3, kd_4, kd_5, kd_6, kd_7, kd_10, kd_11, kd_12, kd_13, kd_14, kd_15, kd_16, kd_19, kd_28, kd_29, kd_30, kd_31, kd_32, kd_33, kd_34, kd_35, kd_36, kd_37, kd_38, kd_39, kd_40, kd_41, kd_42, kd_43, kd_44, kd_45, ln_2, ln_3, ln_4, ln_5, ln_6, ln_7, ln_11, ln_12, ln_13, ln_14, ln_15, ln_16, ln_29, ln_30, ln_32, ln_33, ln_34, ln_35, ln_36, ln_37, ln_38, ln_40, ln_41, ln_42, ln_43, ln_45, Option.toList_some, Option.toList_none, List.cons_append, List.nil_append, true_and, and_true, if_true, if_false, true_or, or_true, Nat.reduceAdd, Int.reduceAdd, Bool.false_eq_true, tn_0, tn_1, tn_2, tn_3, tn_4, tn_5, tn_6, tn_7]
      exact ⟨rfl, RX_10 g2 hx, g2.c10⟩
    | succ f ih =>
      intro k hk M1 g2
      have e9 : (9 < nI k) = (9 < k) := propext (nI_ltI (a := 9) (by decide) (by omega))
      rw [fst1, ffV]
      simp only [decide_eq_true_eq]
      refine J_blk a_X5_forceFor_37 ?_
      simp only [b_X5_forceFor_37, w_iload4, w_bipush, ci_9, w_icmp_gt, w_nil, kd_0, kd_1, kd_2, kd_3, kd_4, kd_5, kd_6, kd_7, kd_10, kd_11, kd_12, kd_13, kd_14, kd_15, kd_16, kd_19, kd_28, kd_29, kd_30, kd_31, kd_32, kd_33, kd_34, kd_35, kd_36, kd_37, kd_38, kd_39, kd_40, kd_41, kd_42, kd_43, kd_44, kd_45, ln_2, ln_3, ln_4, ln_5, ln_6, ln_7, ln_11, ln_12, ln_13, ln_14, ln_15, ln_16, ln_29, ln_30, ln_32, ln_33, ln_34, ln_35, ln_36, ln_37, ln_38, ln_40, ln_41, ln_42, ln_43, ln_45, Option.toList_some, Option.toList_none, List.cons_append, List.nil_append, true_and, and_true, if_true, if_false, true_or, or_true, Nat.reduceAdd, Int.reduceAdd, Bool.false_eq_true, tn_0, tn_1, tn_2, tn_3, tn_4, tn_5, tn_6, tn_7, e9]
      refine ⟨fun h => absurd h (by omega), fun _ => ?_⟩
      refine J_blk a_X5_forceFor_44 ?_
      simp only [b_X5_forceFor_44, w_aload_n0, w_nil, kd_0, kd_1, kd_2, kd_3, kd_4, kd_5, kd_6, kd_7, kd_10, kd_11, kd_12, kd_13, kd_14, kd_15, kd_16, kd_19, kd_28, kd_29, kd_30, kd_31, kd_32, kd_33, kd_34, kd_35, kd_36, kd_37, kd_38, kd_39, kd_40, kd_41, kd_42, kd_43, kd_44, kd_45, ln_2, ln_3, ln_4, ln_5, ln_6, ln_7, ln_11, ln_12, ln_13, ln_14, ln_15, ln_16, ln_29, ln_30, ln_32, ln_33, ln_34, ln_35, ln_36, ln_37, ln_38, ln_40, ln_41, ln_42, ln_43, ln_45, Option.toList_some, Option.toList_none, List.cons_append, List.nil_append, true_and, and_true, if_true, if_false, true_or, or_true, Nat.reduceAdd, Int.reduceAdd, Bool.false_eq_true, tn_0, tn_1, tn_2, tn_3, tn_4, tn_5, tn_6, tn_7]
      refine J_callV (ci := 5) (tryNow_c h8 (RX_10 g2 hx)) k_X5_forceFor_45 o_X5_tryNow (rfl) rfl rfl rfl (by decide) rfl (Nat.le_of_ble_eq_true rfl) ?_
      rintro r M2 ⟨rfl, k1, k2⟩
      refine J_blk a_X5_forceFor_48 ?_
      simp only [b_X5_forceFor_48, w_getf4, ne0_4, w_iload_n1, w_iload4, w_iast, w_aload_n0, w_getf5, ne0_10, w_iload_n2, w_nil, kd_0, kd_1, kd_2, kd_3, kd_4, kd_5, kd_6, kd_7, kd_10, kd_11, kd_12, kd_13, kd_14, kd_15, kd_16, kd_19, kd_28, kd_29, kd_30, kd_31, kd_32, kd_33, kd_34, kd_35, kd_36, kd_37, kd_38, kd_39, kd_40, kd_41, kd_42, kd_43, kd_44, kd_45, ln_2, ln_3, ln_4, ln_5, ln_6, ln_7, ln_11, ln_12, ln_13, ln_14, ln_15, ln_16, ln_29, ln_30, ln_32, ln_33, ln_34, ln_35, ln_36, ln_37, ln_38, ln_40, ln_41, ln_42, ln_43, ln_45, Option.toList_some, Option.toList_none, List.cons_append, List.nil_append, true_and, and_true, if_true, if_false, true_or, or_true, Nat.reduceAdd, Int.reduceAdd, Bool.false_eq_true, tn_0, tn_1, tn_2, tn_3, tn_4, tn_5, tn_6, tn_7, to]
      refine ⟨vinN (by omega) (by decide), ?_⟩
      refine J_callV (ci := 4) (passYears_c (WF_force (o := o) hw (show k ≤ 9 by omega)) (WL_hi hl (j := 8 + 6 * o + 2) _ (fun q _ => by omega)) (RX_4 (m := o) k1 (nI k)) (Or.inr (Or.inl rfl)) (show y ≤ 60 by omega)) k_X5_forceFor_60 o_X4_passYears (rfl) rfl rfl rfl (by decide) rfl (Nat.le_of_ble_eq_true rfl) ?_
      rintro r M3 ⟨rfl, l1, l2⟩
      have f3 : FB 10 M M3 := (g2.trans (k2.trans (FB_u1 M2 _ _ (by omega)))).trans l2
      refine J_blk a_X5_forceFor_63 ?_
      simp only [b_X5_forceFor_63, w_iload_n3, w_icmp_lt, w_nil, kd_0, kd_1, kd_2, kd_3, kd_4, kd_5, kd_6, kd_7, kd_10, kd_11, kd_12, kd_13, kd_14, kd_15, kd_16, kd_19, kd_28, kd_29, kd_30, kd_31, kd_32, kd_33, kd_34, kd_35, kd_36, kd_37, kd_38, kd_39, kd_40, kd_41, kd_42, kd_43, kd_44, kd_45, ln_2, ln_3, ln_4, ln_5, ln_6, ln_7, ln_11, ln_12, ln_13, ln_14, ln_15, ln_16, ln_29, ln_30, ln_32, ln_33, ln_34, ln_35, ln_36, ln_37, ln_38, ln_40, ln_41, ln_42, ln_43, ln_45, Option.toList_some, Option.toList_none, List.cons_append, List.nil_append, true_and, and_true, if_true, if_false, true_or, or_true, Nat.reduceAdd, Int.reduceAdd, Bool.false_eq_true, tn_0, tn_1, tn_2, tn_3, tn_4, tn_5, tn_6, tn_7]
      refine ⟨fun c => ?_, fun c => ?_⟩
      · rw [if_neg (Int32.not_le.mpr c)]
        refine J_blk a_X5_forceFor_70 ?_
        simp only [b_X5_forceFor_70, w_iinc4, nl_4n, nl_4i, nl_4a, ci_1, w_goto, kd_0, kd_1, kd_2, kd_3, kd_4, kd_5, kd_6, kd_7, kd_10, kd_11, kd_12, kd_13, kd_14, kd_15, kd_16, kd_19, kd_28, kd_29, kd_30, kd_31, kd_32, kd_33, kd_34, kd_35, kd_36, kd_37, kd_38, kd_39, kd_40, kd_41, kd_42, kd_43, kd_44, kd_45, ln_2, ln_3, ln_4, ln_5, ln_6, ln_7, ln_11, ln_12, ln_13, ln_14, ln_15, ln_16, ln_29, ln_30, ln_32, ln_33, ln_34, ln_35, ln_36, ln_37, ln_38, ln_40, ln_41, ln_42, ln_43, ln_45, Option.toList_some, Option.toList_none, List.cons_append, List.nil_append, true_and, and_true, if_true, if_false, true_or, or_true, Nat.reduceAdd, Int.reduceAdd, Bool.false_eq_true, tn_0, tn_1, tn_2, tn_3, tn_4, tn_5, tn_6, tn_7, nI_1]
        exact ih (k + 1) (by omega) M3 f3
      · rw [if_pos (Int32.not_lt.mp c)]
        refine J_blk a_X5_forceFor_67 ?_
        simp only [b_X5_forceFor_67, w_iload4, w_ireti, kd_0, kd_1, kd_2, kd_3, kd_4, kd_5, kd_6, kd_7, kd_10, kd_11, kd_12, kd_13, kd_14, kd_15, kd_16, kd_19, kd_28, kd_29, kd_30, kd_31, kd_32, kd_33, kd_34, kd_35, kd_36, kd_37, kd_38, kd_39, kd_40, kd_41, kd_42, kd_43, kd_44, kd_45, ln_2, ln_3, ln_4, ln_5, ln_6, ln_7, ln_11, ln_12, ln_13, ln_14, ln_15, ln_16, ln_29, ln_30, ln_32, ln_33, ln_34, ln_35, ln_36, ln_37, ln_38, ln_40, ln_41, ln_42, ln_43, ln_45, Option.toList_some, Option.toList_none, List.cons_append, List.nil_append, true_and, and_true, if_true, if_false, true_or, or_true, Nat.reduceAdd, Int.reduceAdd, Bool.false_eq_true, tn_0, tn_1, tn_2, tn_3, tn_4, tn_5, tn_6, tn_7]
        exact ⟨rfl, RX_10 f3 hx, f3.c10⟩
  have l0 := loop 10 0 (by omega) M (FB.refl _ _)
  refine K_go 3 o_X5_forceFor [none] rfl (Nat.le_of_ble_eq_true rfl) ?_
  simp only [lvA_i, lvA_a, lvA_l, lvA_nil, List.cons_append, List.nil_append]
  refine J_blk a_X5_forceFor_0 ?_
  simp only [b_X5_forceFor_0, w_aload_n0, w_getf5, ne0_1, w_iload_n1, w_nil, kd_0, kd_1, kd_2, kd_3, kd_4, kd_5, kd_6, kd_7, kd_10, kd_11, kd_12, kd_13, kd_14, kd_15, kd_16, kd_19, kd_28, kd_29, kd_30, kd_31, kd_32, kd_33, kd_34, kd_35, kd_36, kd_37, kd_38, kd_39, kd_40, kd_41, kd_42, kd_43, kd_44, kd_45, ln_2, ln_3, ln_4, ln_5, ln_6, ln_7, ln_11, ln_12, ln_13, ln_14, ln_15, ln_16, ln_29, ln_30, ln_32, ln_33, ln_34, ln_35, ln_36, ln_37, ln_38, ln_40, ln_41, ln_42, ln_43, ln_45, Option.toList_some, Option.toList_none, List.cons_append, List.nil_append, true_and, and_true, if_true, if_false, true_or, or_true, Nat.reduceAdd, Int.reduceAdd, Bool.false_eq_true, tn_0, tn_1, tn_2, tn_3, tn_4, tn_5, tn_6, tn_7]
  refine J_callVr (ci := 4) (has2 hw hx (Or.inl rfl) _) k_X5_forceFor_5 o_X4_has (rfl) rfl rfl rfl (by decide) rfl (Nat.le_of_ble_eq_true rfl) ?_
  rw [if_pos ho]
  refine J_blk a_X5_forceFor_8 ?_
  simp only [b_X5_forceFor_8, w_if_eq, w_nil, kd_0, kd_1, kd_2, kd_3, kd_4, kd_5, kd_6, kd_7, kd_10, kd_11, kd_12, kd_13, kd_14, kd_15, kd_16, kd_19, kd_28, kd_29, kd_30, kd_31, kd_32, kd_33, kd_34, kd_35, kd_36, kd_37, kd_38, kd_39, kd_40, kd_41, kd_42, kd_43, kd_44, kd_45, ln_2, ln_3, ln_4, ln_5, ln_6, ln_7, ln_11, ln_12, ln_13, ln_14, ln_15, ln_16, ln_29, ln_30, ln_32, ln_33, ln_34, ln_35, ln_36, ln_37, ln_38, ln_40, ln_41, ln_42, ln_43, ln_45, Option.toList_some, Option.toList_none, List.cons_append, List.nil_append, true_and, and_true, if_true, if_false, true_or, or_true, Nat.reduceAdd, Int.reduceAdd, Bool.false_eq_true, tn_0, tn_1, tn_2, tn_3, tn_4, tn_5, tn_6, tn_7]
  refine ⟨fun c5 => ?_, fun c5 => ?_⟩
  · first
      | exact absurd c5 (by decide)
      | (refine J_blk a_X5_forceFor_32 ?_
         simp only [b_X5_forceFor_32, w_iconst_m1, w_ireti, kd_0, kd_1, kd_2, kd_3, kd_4, kd_5, kd_6, kd_7, kd_10, kd_11, kd_12, kd_13, kd_14, kd_15, kd_16, kd_19, kd_28, kd_29, kd_30, kd_31, kd_32, kd_33, kd_34, kd_35, kd_36, kd_37, kd_38, kd_39, kd_40, kd_41, kd_42, kd_43, kd_44, kd_45, ln_2, ln_3, ln_4, ln_5, ln_6, ln_7, ln_11, ln_12, ln_13, ln_14, ln_15, ln_16, ln_29, ln_30, ln_32, ln_33, ln_34, ln_35, ln_36, ln_37, ln_38, ln_40, ln_41, ln_42, ln_43, ln_45, Option.toList_some, Option.toList_none, List.cons_append, List.nil_append, true_and, and_true, if_true, if_false, true_or, or_true, Nat.reduceAdd, Int.reduceAdd, Bool.false_eq_true, tn_0, tn_1, tn_2, tn_3, tn_4, tn_5, tn_6, tn_7]
         first | exact ⟨rfl, rfl⟩ | (simp_all [Rt]))
  · first
      | exact absurd c5 (by decide)
      | (refine J_blk a_X5_forceFor_11 ?_
         simp only [b_X5_forceFor_11, w_iload_n2, w_iconst_1, w_bipush, ci_20, w_nil, kd_0, kd_1, kd_2, kd_3, kd_4, kd_5, kd_6, kd_7, kd_10, kd_11, kd_12, kd_13, kd_14, kd_15, kd_16, kd_19, kd_28, kd_29, kd_30, kd_31, kd_32, kd_33, kd_34, kd_35, kd_36, kd_37, kd_38, kd_39, kd_40, kd_41, kd_42, kd_43, kd_44, kd_45, ln_2, ln_3, ln_4, ln_5, ln_6, ln_7, ln_11, ln_12, ln_13, ln_14, ln_15, ln_16, ln_29, ln_30, ln_32, ln_33, ln_34, ln_35, ln_36, ln_37, ln_38, ln_40, ln_41, ln_42, ln_43, ln_45, Option.toList_some, Option.toList_none, List.cons_append, List.nil_append, true_and, and_true, if_true, if_false, true_or, or_true, Nat.reduceAdd, Int.reduceAdd, Bool.false_eq_true, tn_0, tn_1, tn_2, tn_3, tn_4, tn_5, tn_6, tn_7]
         refine J_callSr (within_c _ _ _ _) k_X5_forceFor_15 o_X5_within rfl (by decide) rfl (Nat.le_of_ble_eq_true rfl) ?_
         rw [if_pos (by first | exact h1 | exact h2 | exact h3 | exact h4)]
         refine J_blk a_X5_forceFor_18 ?_
         simp only [b_X5_forceFor_18, w_if_eq, w_nil, kd_0, kd_1, kd_2, kd_3, kd_4, kd_5, kd_6, kd_7, kd_10, kd_11, kd_12, kd_13, kd_14, kd_15, kd_16, kd_19, kd_28, kd_29, kd_30, kd_31, kd_32, kd_33, kd_34, kd_35, kd_36, kd_37, kd_38, kd_39, kd_40, kd_41, kd_42, kd_43, kd_44, kd_45, ln_2, ln_3, ln_4, ln_5, ln_6, ln_7, ln_11, ln_12, ln_13, ln_14, ln_15, ln_16, ln_29, ln_30, ln_32, ln_33, ln_34, ln_35, ln_36, ln_37, ln_38, ln_40, ln_41, ln_42, ln_43, ln_45, Option.toList_some, Option.toList_none, List.cons_append, List.nil_append, true_and, and_true, if_true, if_false, true_or, or_true, Nat.reduceAdd, Int.reduceAdd, Bool.false_eq_true, tn_0, tn_1, tn_2, tn_3, tn_4, tn_5, tn_6, tn_7]
         refine ⟨fun c6 => ?_, fun c6 => ?_⟩
         · first
             | exact absurd c6 (by decide)
             | (refine J_blk a_X5_forceFor_32 ?_
                simp only [b_X5_forceFor_32, w_iconst_m1, w_ireti, kd_0, kd_1, kd_2, kd_3, kd_4, kd_5, kd_6, kd_7, kd_10, kd_11, kd_12, kd_13, kd_14, kd_15, kd_16, kd_19, kd_28, kd_29, kd_30, kd_31, kd_32, kd_33, kd_34, kd_35, kd_36, kd_37, kd_38, kd_39, kd_40, kd_41, kd_42, kd_43, kd_44, kd_45, ln_2, ln_3, ln_4, ln_5, ln_6, ln_7, ln_11, ln_12, ln_13, ln_14, ln_15, ln_16, ln_29, ln_30, ln_32, ln_33, ln_34, ln_35, ln_36, ln_37, ln_38, ln_40, ln_41, ln_42, ln_43, ln_45, Option.toList_some, Option.toList_none, List.cons_append, List.nil_append, true_and, and_true, if_true, if_false, true_or, or_true, Nat.reduceAdd, Int.reduceAdd, Bool.false_eq_true, tn_0, tn_1, tn_2, tn_3, tn_4, tn_5, tn_6, tn_7]
                first | exact ⟨rfl, rfl⟩ | (simp_all [Rt]))
         · first
             | exact absurd c6 (by decide)
             | (refine J_blk a_X5_forceFor_21 ?_
                simp only [b_X5_forceFor_21, w_iload_n3, w_iconst_0, w_sipush, ci_9999, w_nil, kd_0, kd_1, kd_2, kd_3, kd_4, kd_5, kd_6, kd_7, kd_10, kd_11, kd_12, kd_13, kd_14, kd_15, kd_16, kd_19, kd_28, kd_29, kd_30, kd_31, kd_32, kd_33, kd_34, kd_35, kd_36, kd_37, kd_38, kd_39, kd_40, kd_41, kd_42, kd_43, kd_44, kd_45, ln_2, ln_3, ln_4, ln_5, ln_6, ln_7, ln_11, ln_12, ln_13, ln_14, ln_15, ln_16, ln_29, ln_30, ln_32, ln_33, ln_34, ln_35, ln_36, ln_37, ln_38, ln_40, ln_41, ln_42, ln_43, ln_45, Option.toList_some, Option.toList_none, List.cons_append, List.nil_append, true_and, and_true, if_true, if_false, true_or, or_true, Nat.reduceAdd, Int.reduceAdd, Bool.false_eq_true, tn_0, tn_1, tn_2, tn_3, tn_4, tn_5, tn_6, tn_7]
                refine J_callSr (within_c _ _ _ _) k_X5_forceFor_26 o_X5_within rfl (by decide) rfl (Nat.le_of_ble_eq_true rfl) ?_
                rw [if_pos (by first | exact h1 | exact h2 | exact h3 | exact h4)]
                refine J_blk a_X5_forceFor_29 ?_
                simp only [b_X5_forceFor_29, w_if_ne, w_nil, kd_0, kd_1, kd_2, kd_3, kd_4, kd_5, kd_6, kd_7, kd_10, kd_11, kd_12, kd_13, kd_14, kd_15, kd_16, kd_19, kd_28, kd_29, kd_30, kd_31, kd_32, kd_33, kd_34, kd_35, kd_36, kd_37, kd_38, kd_39, kd_40, kd_41, kd_42, kd_43, kd_44, kd_45, ln_2, ln_3, ln_4, ln_5, ln_6, ln_7, ln_11, ln_12, ln_13, ln_14, ln_15, ln_16, ln_29, ln_30, ln_32, ln_33, ln_34, ln_35, ln_36, ln_37, ln_38, ln_40, ln_41, ln_42, ln_43, ln_45, Option.toList_some, Option.toList_none, List.cons_append, List.nil_append, true_and, and_true, if_true, if_false, true_or, or_true, Nat.reduceAdd, Int.reduceAdd, Bool.false_eq_true, tn_0, tn_1, tn_2, tn_3, tn_4, tn_5, tn_6, tn_7]
                refine ⟨fun c7 => ?_, fun c7 => ?_⟩
                · first
                    | exact absurd c7 (by decide)
                    | (refine J_blk a_X5_forceFor_34 ?_
                       simp only [b_X5_forceFor_34, w_iconst_0, w_istore4, nl_4n, nl_4i, nl_4a, w_nil, kd_0, kd_1, kd_2, kd_3, kd_4, kd_5, kd_6, kd_7, kd_10, kd_11, kd_12, kd_13, kd_14, kd_15, kd_16, kd_19, kd_28, kd_29, kd_30, kd_31, kd_32, kd_33, kd_34, kd_35, kd_36, kd_37, kd_38, kd_39, kd_40, kd_41, kd_42, kd_43, kd_44, kd_45, ln_2, ln_3, ln_4, ln_5, ln_6, ln_7, ln_11, ln_12, ln_13, ln_14, ln_15, ln_16, ln_29, ln_30, ln_32, ln_33, ln_34, ln_35, ln_36, ln_37, ln_38, ln_40, ln_41, ln_42, ln_43, ln_45, Option.toList_some, Option.toList_none, List.cons_append, List.nil_append, true_and, and_true, if_true, if_false, true_or, or_true, Nat.reduceAdd, Int.reduceAdd, Bool.false_eq_true, tn_0, tn_1, tn_2, tn_3, tn_4, tn_5, tn_6, tn_7]
                       exact l0)
                · first
                    | exact absurd c7 (by decide)
                    | (refine J_blk a_X5_forceFor_32 ?_
                       simp only [b_X5_forceFor_32, w_iconst_m1, w_ireti, kd_0, kd_1, kd_2, kd_3, kd_4, kd_5, kd_6, kd_7, kd_10, kd_11, kd_12, kd_13, kd_14, kd_15, kd_16, kd_19, kd_28, kd_29, kd_30, kd_31, kd_32, kd_33, kd_34, kd_35, kd_36, kd_37, kd_38, kd_39, kd_40, kd_41, kd_42, kd_43, kd_44, kd_45, ln_2, ln_3, ln_4, ln_5, ln_6, ln_7, ln_11, ln_12, ln_13, ln_14, ln_15, ln_16, ln_29, ln_30, ln_32, ln_33, ln_34, ln_35, ln_36, ln_37, ln_38, ln_40, ln_41, ln_42, ln_43, ln_45, Option.toList_some, Option.toList_none, List.cons_append, List.nil_append, true_and, and_true, if_true, if_false, true_or, or_true, Nat.reduceAdd, Int.reduceAdd, Bool.false_eq_true, tn_0, tn_1, tn_2, tn_3, tn_4, tn_5, tn_6, tn_7]
                       first | exact ⟨rfl, rfl⟩ | (simp_all [Rt]))))
theorem cregret_n (hw : WF s n) (hx : RX M 1 s n) (o y : Nat) (hj : o < n) (hy : 1 ≤ y) (hy2 : y ≤ 20) (hc : ¬ (s (8 + 6 * o + 4) = 1 ∧ ¬ 6 ≤ s (8 + 6 * o + 5))) : K 5 mX5_regret [.ref 0, .int (nI o), .int (nI y)] M (Rt (some (.int (-3))) M) := by
  have h8 := hw.2.1
  have ho := ok1 hj (by omega)
  have h1 : 1 ≤ nI y ∧ nI y ≤ 20 := ok3 (m := 20) hy hy2 (by decide)
  refine K_go 2 o_X5_regret [none] rfl (Nat.le_of_ble_eq_true rfl) ?_
  simp only [lvA_i, lvA_a, lvA_l, lvA_nil, List.cons_append, List.nil_append]
  refine J_blk a_X5_regret_0 ?_
  simp only [b_X5_regret_0, w_aload_n0, w_getf5, ne0_1, w_iload_n1, w_nil, kd_0, kd_1, kd_2, kd_3, kd_4, kd_5, kd_6, kd_7, kd_10, kd_11, kd_12, kd_13, kd_14, kd_15, kd_16, kd_19, kd_28, kd_29, kd_30, kd_31, kd_32, kd_33, kd_34, kd_35, kd_36, kd_37, kd_38, kd_39, kd_40, kd_41, kd_42, kd_43, kd_44, kd_45, ln_2, ln_3, ln_4, ln_5, ln_6, ln_7, ln_11, ln_12, ln_13, ln_14, ln_15, ln_16, ln_29, ln_30, ln_32, ln_33, ln_34, ln_35, ln_36, ln_37, ln_38, ln_40, ln_41, ln_42, ln_43, ln_45, Option.toList_some, Option.toList_none, List.cons_append, List.nil_append, true_and, and_true, if_true, if_false, true_or, or_true, Nat.reduceAdd, Int.reduceAdd, Bool.false_eq_true, tn_0, tn_1, tn_2, tn_3, tn_4, tn_5, tn_6, tn_7]
  refine J_callVr (ci := 4) (has2 hw hx (Or.inl rfl) _) k_X5_regret_5 o_X4_has (rfl) rfl rfl rfl (by decide) rfl (Nat.le_of_ble_eq_true rfl) ?_
  rw [if_pos ho]
  refine J_blk a_X5_regret_8 ?_
  simp only [b_X5_regret_8, w_if_eq, w_nil, kd_0, kd_1, kd_2, kd_3, kd_4, kd_5, kd_6, kd_7, kd_10, kd_11, kd_12, kd_13, kd_14, kd_15, kd_16, kd_19, kd_28, kd_29, kd_30, kd_31, kd_32, kd_33, kd_34, kd_35, kd_36, kd_37, kd_38, kd_39, kd_40, kd_41, kd_42, kd_43, kd_44, kd_45, ln_2, ln_3, ln_4, ln_5, ln_6, ln_7, ln_11, ln_12, ln_13, ln_14, ln_15, ln_16, ln_29, ln_30, ln_32, ln_33, ln_34, ln_35, ln_36, ln_37, ln_38, ln_40, ln_41, ln_42, ln_43, ln_45, Option.toList_some, Option.toList_none, List.cons_append, List.nil_append, true_and, and_true, if_true, if_false, true_or, or_true, Nat.reduceAdd, Int.reduceAdd, Bool.false_eq_true, tn_0, tn_1, tn_2, tn_3, tn_4, tn_5, tn_6, tn_7]
  refine ⟨fun c8 => ?_, fun c8 => ?_⟩
  · first
      | exact absurd c8 (by decide)
      | (refine J_blk a_X5_regret_21 ?_
         simp only [b_X5_regret_21, w_iconst_m1, w_ireti, kd_0, kd_1, kd_2, kd_3, kd_4, kd_5, kd_6, kd_7, kd_10, kd_11, kd_12, kd_13, kd_14, kd_15, kd_16, kd_19, kd_28, kd_29, kd_30, kd_31, kd_32, kd_33, kd_34, kd_35, kd_36, kd_37, kd_38, kd_39, kd_40, kd_41, kd_42, kd_43, kd_44, kd_45, ln_2, ln_3, ln_4, ln_5, ln_6, ln_7, ln_11, ln_12, ln_13, ln_14, ln_15, ln_16, ln_29, ln_30, ln_32, ln_33, ln_34, ln_35, ln_36, ln_37, ln_38, ln_40, ln_41, ln_42, ln_43, ln_45, Option.toList_some, Option.toList_none, List.cons_append, List.nil_append, true_and, and_true, if_true, if_false, true_or, or_true, Nat.reduceAdd, Int.reduceAdd, Bool.false_eq_true, tn_0, tn_1, tn_2, tn_3, tn_4, tn_5, tn_6, tn_7]
         exact ⟨rfl, rfl⟩)
  · first
      | exact absurd c8 (by decide)
      | (refine J_blk a_X5_regret_11 ?_
         simp only [b_X5_regret_11, w_iload_n2, w_iconst_1, w_bipush, ci_20, w_nil, kd_0, kd_1, kd_2, kd_3, kd_4, kd_5, kd_6, kd_7, kd_10, kd_11, kd_12, kd_13, kd_14, kd_15, kd_16, kd_19, kd_28, kd_29, kd_30, kd_31, kd_32, kd_33, kd_34, kd_35, kd_36, kd_37, kd_38, kd_39, kd_40, kd_41, kd_42, kd_43, kd_44, kd_45, ln_2, ln_3, ln_4, ln_5, ln_6, ln_7, ln_11, ln_12, ln_13, ln_14, ln_15, ln_16, ln_29, ln_30, ln_32, ln_33, ln_34, ln_35, ln_36, ln_37, ln_38, ln_40, ln_41, ln_42, ln_43, ln_45, Option.toList_some, Option.toList_none, List.cons_append, List.nil_append, true_and, and_true, if_true, if_false, true_or, or_true, Nat.reduceAdd, Int.reduceAdd, Bool.false_eq_true, tn_0, tn_1, tn_2, tn_3, tn_4, tn_5, tn_6, tn_7]
         refine J_callSr (within_c _ _ _ _) k_X5_regret_15 o_X5_within rfl (by decide) rfl (Nat.le_of_ble_eq_true rfl) ?_
         rw [if_pos (by first | exact h1 | exact h2 | exact h3 | exact h4)]
         refine J_blk a_X5_regret_18 ?_
         simp only [b_X5_regret_18, w_if_ne, w_nil, kd_0, kd_1, kd_2, kd_3, kd_4, kd_5, kd_6, kd_7, kd_10, kd_11, kd_12, kd_13, kd_14, kd_15, kd_16, kd_19, kd_28, kd_29, kd_30, kd_31, kd_32, kd_33, kd_34, kd_35, kd_36, kd_37, kd_38, kd_39, kd_40, kd_41, kd_42, kd_43, kd_44, kd_45, ln_2, ln_3, ln_4, ln_5, ln_6, ln_7, ln_11, ln_12, ln_13, ln_14, ln_15, ln_16, ln_29, ln_30, ln_32, ln_33, ln_34, ln_35, ln_36, ln_37, ln_38, ln_40, ln_41, ln_42, ln_43, ln_45, Option.toList_some, Option.toList_none, List.cons_append, List.nil_append, true_and, and_true, if_true, if_false, true_or, or_true, Nat.reduceAdd, Int.reduceAdd, Bool.false_eq_true, tn_0, tn_1, tn_2, tn_3, tn_4, tn_5, tn_6, tn_7]
         refine ⟨fun c9 => ?_, fun c9 => ?_⟩
         · first
             | exact absurd c9 (by decide)
             | (refine J_blk a_X5_regret_23 ?_
                simp only [b_X5_regret_23, w_aload_n0, w_getf5, ne0_1, w_iload_n1, w_nil, kd_0, kd_1, kd_2, kd_3, kd_4, kd_5, kd_6, kd_7, kd_10, kd_11, kd_12, kd_13, kd_14, kd_15, kd_16, kd_19, kd_28, kd_29, kd_30, kd_31, kd_32, kd_33, kd_34, kd_35, kd_36, kd_37, kd_38, kd_39, kd_40, kd_41, kd_42, kd_43, kd_44, kd_45, ln_2, ln_3, ln_4, ln_5, ln_6, ln_7, ln_11, ln_12, ln_13, ln_14, ln_15, ln_16, ln_29, ln_30, ln_32, ln_33, ln_34, ln_35, ln_36, ln_37, ln_38, ln_40, ln_41, ln_42, ln_43, ln_45, Option.toList_some, Option.toList_none, List.cons_append, List.nil_append, true_and, and_true, if_true, if_false, true_or, or_true, Nat.reduceAdd, Int.reduceAdd, Bool.false_eq_true, tn_0, tn_1, tn_2, tn_3, tn_4, tn_5, tn_6, tn_7]
                refine J_callVr (ci := 4) (canBack_c hw hx (Or.inl rfl) hj) k_X5_regret_28 o_X4_canBeHadBack (rfl) rfl rfl rfl (by decide) rfl (Nat.le_of_ble_eq_true rfl) ?_
                rw [if_neg hc]
                refine J_blk a_X5_regret_31 ?_
                simp only [b_X5_regret_31, w_if_ne, w_nil, kd_0, kd_1, kd_2, kd_3, kd_4, kd_5, kd_6, kd_7, kd_10, kd_11, kd_12, kd_13, kd_14, kd_15, kd_16, kd_19, kd_28, kd_29, kd_30, kd_31, kd_32, kd_33, kd_34, kd_35, kd_36, kd_37, kd_38, kd_39, kd_40, kd_41, kd_42, kd_43, kd_44, kd_45, ln_2, ln_3, ln_4, ln_5, ln_6, ln_7, ln_11, ln_12, ln_13, ln_14, ln_15, ln_16, ln_29, ln_30, ln_32, ln_33, ln_34, ln_35, ln_36, ln_37, ln_38, ln_40, ln_41, ln_42, ln_43, ln_45, Option.toList_some, Option.toList_none, List.cons_append, List.nil_append, true_and, and_true, if_true, if_false, true_or, or_true, Nat.reduceAdd, Int.reduceAdd, Bool.false_eq_true, tn_0, tn_1, tn_2, tn_3, tn_4, tn_5, tn_6, tn_7]
                refine ⟨fun c10 => ?_, fun c10 => ?_⟩
                · first
                    | exact absurd c10 (by decide)
                    | (exact absurd trivial (by assumption))
                · first
                    | exact absurd c10 (by decide)
                    | (refine J_blk a_X5_regret_34 ?_
                       simp only [b_X5_regret_34, w_bipush, ci_m3, w_ireti, kd_0, kd_1, kd_2, kd_3, kd_4, kd_5, kd_6, kd_7, kd_10, kd_11, kd_12, kd_13, kd_14, kd_15, kd_16, kd_19, kd_28, kd_29, kd_30, kd_31, kd_32, kd_33, kd_34, kd_35, kd_36, kd_37, kd_38, kd_39, kd_40, kd_41, kd_42, kd_43, kd_44, kd_45, ln_2, ln_3, ln_4, ln_5, ln_6, ln_7, ln_11, ln_12, ln_13, ln_14, ln_15, ln_16, ln_29, ln_30, ln_32, ln_33, ln_34, ln_35, ln_36, ln_37, ln_38, ln_40, ln_41, ln_42, ln_43, ln_45, Option.toList_some, Option.toList_none, List.cons_append, List.nil_append, true_and, and_true, if_true, if_false, true_or, or_true, Nat.reduceAdd, Int.reduceAdd, Bool.false_eq_true, tn_0, tn_1, tn_2, tn_3, tn_4, tn_5, tn_6, tn_7]
                       exact ⟨rfl, rfl⟩))
         · first
             | exact absurd c9 (by decide)
             | (refine J_blk a_X5_regret_21 ?_
                simp only [b_X5_regret_21, w_iconst_m1, w_ireti, kd_0, kd_1, kd_2, kd_3, kd_4, kd_5, kd_6, kd_7, kd_10, kd_11, kd_12, kd_13, kd_14, kd_15, kd_16, kd_19, kd_28, kd_29, kd_30, kd_31, kd_32, kd_33, kd_34, kd_35, kd_36, kd_37, kd_38, kd_39, kd_40, kd_41, kd_42, kd_43, kd_44, kd_45, ln_2, ln_3, ln_4, ln_5, ln_6, ln_7, ln_11, ln_12, ln_13, ln_14, ln_15, ln_16, ln_29, ln_30, ln_32, ln_33, ln_34, ln_35, ln_36, ln_37, ln_38, ln_40, ln_41, ln_42, ln_43, ln_45, Option.toList_some, Option.toList_none, List.cons_append, List.nil_append, true_and, and_true, if_true, if_false, true_or, or_true, Nat.reduceAdd, Int.reduceAdd, Bool.false_eq_true, tn_0, tn_1, tn_2, tn_3, tn_4, tn_5, tn_6, tn_7]
                exact ⟨rfl, rfl⟩))
theorem WL_cb (h : WL s n) (o : Nat) : WL (cbR s o) n := by
  intro q hq hc
  unfold cbR at hc ⊢
  by_cases e : q = o
  · subst e; exact pk_us
  · rw [pk_un (by omega), pk_un (by omega)] at hc
    rw [pk_un (by omega), pk_un (by omega)]
    exact h q hq hc
theorem cregret_t (hw : WF s n) (hl : WL s n) (hx : RX M 1 s n) (o y : Nat) (hj : o < n) (hy : 1 ≤ y) (hy2 : y ≤ 20) (hc : s (8 + 6 * o + 4) = 1 ∧ ¬ 6 ≤ s (8 + 6 * o + 5)) : K 5 mX5_regret [.ref 0, .int (nI o), .int (nI y)] M (Rq (some (.int (10000 + (hvS (cbR s o) n y - hvS s n y)))) (fun M' => RX M' 1 s n ∧ FC M M')) := by
  have h8 := hw.2.1
  have ho := ok1 hj (by omega)
  have h1 : 1 ≤ nI y ∧ nI y ≤ 20 := ok3 (m := 20) hy hy2 (by decide)
  have go : J 5 mX5_regret 37 [some (.ref 0), some (.int (nI o)), some (.int (nI y)), none] [] M (Rq (some (.int (10000 + (hvS (cbR s o) n y - hvS s n y)))) (fun M' => RX M' 1 s n ∧ FC M M')) := by
    refine J_blk a_X5_regret_37 ?_
    simp only [b_X5_regret_37, w_aload_n0, w_nil, kd_0, kd_1, kd_2, kd_3, kd_4, kd_5, kd_6, kd_7, kd_10, kd_11, kd_12, kd_13, kd_14, kd_15, kd_16, kd_19, kd_28, kd_29, kd_30, kd_31, kd_32, kd_33, kd_34, kd_35, kd_36, kd_37, kd_38, kd_39, kd_40, kd_41, kd_42, kd_43, kd_44, kd_45, ln_2, ln_3, ln_4, ln_5, ln_6, ln_7, ln_11, ln_12, ln_13, ln_14, ln_15, ln_16, ln_29, ln_30, ln_32, ln_33, ln_34, ln_35, ln_36, ln_37, ln_38, ln_40, ln_41, ln_42, ln_43, ln_45, Option.toList_some, Option.toList_none, List.cons_append, List.nil_append, true_and, and_true, if_true, if_false, true_or, or_true, Nat.reduceAdd, Int.reduceAdd, Bool.false_eq_true, tn_0, tn_1, tn_2, tn_3, tn_4, tn_5, tn_6, tn_7]
    refine J_callV (ci := 5) (tryNow_c h8 hx) k_X5_regret_38 o_X5_tryNow (rfl) rfl rfl rfl (by decide) rfl (Nat.le_of_ble_eq_true rfl) ?_
    rintro r M1 ⟨rfl, g1, g2⟩
    refine J_blk a_X5_regret_41 ?_
    simp only [b_X5_regret_41, w_iload_n2, w_nil, kd_0, kd_1, kd_2, kd_3, kd_4, kd_5, kd_6, kd_7, kd_10, kd_11, kd_12, kd_13, kd_14, kd_15, kd_16, kd_19, kd_28, kd_29, kd_30, kd_31, kd_32, kd_33, kd_34, kd_35, kd_36, kd_37, kd_38, kd_39, kd_40, kd_41, kd_42, kd_43, kd_44, kd_45, ln_2, ln_3, ln_4, ln_5, ln_6, ln_7, ln_11, ln_12, ln_13, ln_14, ln_15, ln_16, ln_29, ln_30, ln_32, ln_33, ln_34, ln_35, ln_36, ln_37, ln_38, ln_40, ln_41, ln_42, ln_43, ln_45, Option.toList_some, Option.toList_none, List.cons_append, List.nil_append, true_and, and_true, if_true, if_false, true_or, or_true, Nat.reduceAdd, Int.reduceAdd, Bool.false_eq_true, tn_0, tn_1, tn_2, tn_3, tn_4, tn_5, tn_6, tn_7]
    refine J_callV (ci := 4) (passYears_c hw hl g1 (Or.inr (Or.inl rfl)) (show y ≤ 60 by omega)) k_X5_regret_42 o_X4_passYears (rfl) rfl rfl rfl (by decide) rfl (Nat.le_of_ble_eq_true rfl) ?_
    rintro r M2 ⟨rfl, k1, k2⟩
    have f2 := g2.trans k2
    refine J_blk a_X5_regret_45 ?_
    simp only [b_X5_regret_45, w_istore3, nl_3n, nl_3i, nl_3a, w_aload_n0, w_nil, kd_0, kd_1, kd_2, kd_3, kd_4, kd_5, kd_6, kd_7, kd_10, kd_11, kd_12, kd_13, kd_14, kd_15, kd_16, kd_19, kd_28, kd_29, kd_30, kd_31, kd_32, kd_33, kd_34, kd_35, kd_36, kd_37, kd_38, kd_39, kd_40, kd_41, kd_42, kd_43, kd_44, kd_45, ln_2, ln_3, ln_4, ln_5, ln_6, ln_7, ln_11, ln_12, ln_13, ln_14, ln_15, ln_16, ln_29, ln_30, ln_32, ln_33, ln_34, ln_35, ln_36, ln_37, ln_38, ln_40, ln_41, ln_42, ln_43, ln_45, Option.toList_some, Option.toList_none, List.cons_append, List.nil_append, true_and, and_true, if_true, if_false, true_or, or_true, Nat.reduceAdd, Int.reduceAdd, Bool.false_eq_true, tn_0, tn_1, tn_2, tn_3, tn_4, tn_5, tn_6, tn_7]
    refine J_callV (ci := 5) (tryNow_c h8 (RX_10 f2 hx)) k_X5_regret_47 o_X5_tryNow (rfl) rfl rfl rfl (by decide) rfl (Nat.le_of_ble_eq_true rfl) ?_
    rintro r M3 ⟨rfl, l1, l2⟩
    refine J_blk a_X5_regret_50 ?_
    simp only [b_X5_regret_50, w_iload_n1, w_nil, kd_0, kd_1, kd_2, kd_3, kd_4, kd_5, kd_6, kd_7, kd_10, kd_11, kd_12, kd_13, kd_14, kd_15, kd_16, kd_19, kd_28, kd_29, kd_30, kd_31, kd_32, kd_33, kd_34, kd_35, kd_36, kd_37, kd_38, kd_39, kd_40, kd_41, kd_42, kd_43, kd_44, kd_45, ln_2, ln_3, ln_4, ln_5, ln_6, ln_7, ln_11, ln_12, ln_13, ln_14, ln_15, ln_16, ln_29, ln_30, ln_32, ln_33, ln_34, ln_35, ln_36, ln_37, ln_38, ln_40, ln_41, ln_42, ln_43, ln_45, Option.toList_some, Option.toList_none, List.cons_append, List.nil_append, true_and, and_true, if_true, if_false, true_or, or_true, Nat.reduceAdd, Int.reduceAdd, Bool.false_eq_true, tn_0, tn_1, tn_2, tn_3, tn_4, tn_5, tn_6, tn_7]
    refine J_callV (ci := 4) (haveBack_c h8 l1 (Or.inr (Or.inl rfl)) hj) k_X5_regret_51 o_X4_haveBack (rfl) rfl rfl rfl (by decide) rfl (Nat.le_of_ble_eq_true rfl) ?_
    rintro r M4 ⟨rfl, p1, p2⟩
    refine J_blk a_X5_regret_54 ?_
    simp only [b_X5_regret_54, w_sipush, ci_10000, w_aload_n0, w_getf5, ne0_10, w_iload_n2, w_nil, kd_0, kd_1, kd_2, kd_3, kd_4, kd_5, kd_6, kd_7, kd_10, kd_11, kd_12, kd_13, kd_14, kd_15, kd_16, kd_19, kd_28, kd_29, kd_30, kd_31, kd_32, kd_33, kd_34, kd_35, kd_36, kd_37, kd_38, kd_39, kd_40, kd_41, kd_42, kd_43, kd_44, kd_45, ln_2, ln_3, ln_4, ln_5, ln_6, ln_7, ln_11, ln_12, ln_13, ln_14, ln_15, ln_16, ln_29, ln_30, ln_32, ln_33, ln_34, ln_35, ln_36, ln_37, ln_38, ln_40, ln_41, ln_42, ln_43, ln_45, Option.toList_some, Option.toList_none, List.cons_append, List.nil_append, true_and, and_true, if_true, if_false, true_or, or_true, Nat.reduceAdd, Int.reduceAdd, Bool.false_eq_true, tn_0, tn_1, tn_2, tn_3, tn_4, tn_5, tn_6, tn_7]
    refine J_callV (ci := 4) (passYears_c (WF_cb hw) (WL_cb hl o) p1 (Or.inr (Or.inl rfl)) (show y ≤ 60 by omega)) k_X5_regret_62 o_X4_passYears (rfl) rfl rfl rfl (by decide) rfl (Nat.le_of_ble_eq_true rfl) ?_
    rintro r M5 ⟨rfl, q1, q2⟩
    have f5 := ((f2.trans l2).trans p2).trans q2
    refine J_blk a_X5_regret_65 ?_
    simp only [b_X5_regret_65, w_iadd, w_iload_n3, w_isub, w_ireti, kd_0, kd_1, kd_2, kd_3, kd_4, kd_5, kd_6, kd_7, kd_10, kd_11, kd_12, kd_13, kd_14, kd_15, kd_16, kd_19, kd_28, kd_29, kd_30, kd_31, kd_32, kd_33, kd_34, kd_35, kd_36, kd_37, kd_38, kd_39, kd_40, kd_41, kd_42, kd_43, kd_44, kd_45, ln_2, ln_3, ln_4, ln_5, ln_6, ln_7, ln_11, ln_12, ln_13, ln_14, ln_15, ln_16, ln_29, ln_30, ln_32, ln_33, ln_34, ln_35, ln_36, ln_37, ln_38, ln_40, ln_41, ln_42, ln_43, ln_45, Option.toList_some, Option.toList_none, List.cons_append, List.nil_append, true_and, and_true, if_true, if_false, true_or, or_true, Nat.reduceAdd, Int.reduceAdd, Bool.false_eq_true, tn_0, tn_1, tn_2, tn_3, tn_4, tn_5, tn_6, tn_7]
    refine ⟨?_, RX_10 f5 hx, f5.c10⟩
    congr 2
    grind
  refine K_go 2 o_X5_regret [none] rfl (Nat.le_of_ble_eq_true rfl) ?_
  simp only [lvA_i, lvA_a, lvA_l, lvA_nil, List.cons_append, List.nil_append]
  refine J_blk a_X5_regret_0 ?_
  simp only [b_X5_regret_0, w_aload_n0, w_getf5, ne0_1, w_iload_n1, w_nil, kd_0, kd_1, kd_2, kd_3, kd_4, kd_5, kd_6, kd_7, kd_10, kd_11, kd_12, kd_13, kd_14, kd_15, kd_16, kd_19, kd_28, kd_29, kd_30, kd_31, kd_32, kd_33, kd_34, kd_35, kd_36, kd_37, kd_38, kd_39, kd_40, kd_41, kd_42, kd_43, kd_44, kd_45, ln_2, ln_3, ln_4, ln_5, ln_6, ln_7, ln_11, ln_12, ln_13, ln_14, ln_15, ln_16, ln_29, ln_30, ln_32, ln_33, ln_34, ln_35, ln_36, ln_37, ln_38, ln_40, ln_41, ln_42, ln_43, ln_45, Option.toList_some, Option.toList_none, List.cons_append, List.nil_append, true_and, and_true, if_true, if_false, true_or, or_true, Nat.reduceAdd, Int.reduceAdd, Bool.false_eq_true, tn_0, tn_1, tn_2, tn_3, tn_4, tn_5, tn_6, tn_7]
  refine J_callVr (ci := 4) (has2 hw hx (Or.inl rfl) _) k_X5_regret_5 o_X4_has (rfl) rfl rfl rfl (by decide) rfl (Nat.le_of_ble_eq_true rfl) ?_
  rw [if_pos ho]
  refine J_blk a_X5_regret_8 ?_
  simp only [b_X5_regret_8, w_if_eq, w_nil, kd_0, kd_1, kd_2, kd_3, kd_4, kd_5, kd_6, kd_7, kd_10, kd_11, kd_12, kd_13, kd_14, kd_15, kd_16, kd_19, kd_28, kd_29, kd_30, kd_31, kd_32, kd_33, kd_34, kd_35, kd_36, kd_37, kd_38, kd_39, kd_40, kd_41, kd_42, kd_43, kd_44, kd_45, ln_2, ln_3, ln_4, ln_5, ln_6, ln_7, ln_11, ln_12, ln_13, ln_14, ln_15, ln_16, ln_29, ln_30, ln_32, ln_33, ln_34, ln_35, ln_36, ln_37, ln_38, ln_40, ln_41, ln_42, ln_43, ln_45, Option.toList_some, Option.toList_none, List.cons_append, List.nil_append, true_and, and_true, if_true, if_false, true_or, or_true, Nat.reduceAdd, Int.reduceAdd, Bool.false_eq_true, tn_0, tn_1, tn_2, tn_3, tn_4, tn_5, tn_6, tn_7]
  refine ⟨fun c11 => ?_, fun c11 => ?_⟩
  · first
      | exact absurd c11 (by decide)
      | (refine J_blk a_X5_regret_21 ?_
         simp only [b_X5_regret_21, w_iconst_m1, w_ireti, kd_0, kd_1, kd_2, kd_3, kd_4, kd_5, kd_6, kd_7, kd_10, kd_11, kd_12, kd_13, kd_14, kd_15, kd_16, kd_19, kd_28, kd_29, kd_30, kd_31, kd_32, kd_33, kd_34, kd_35, kd_36, kd_37, kd_38, kd_39, kd_40, kd_41, kd_42, kd_43, kd_44, kd_45, ln_2, ln_3, ln_4, ln_5, ln_6, ln_7, ln_11, ln_12, ln_13, ln_14, ln_15, ln_16, ln_29, ln_30, ln_32, ln_33, ln_34, ln_35, ln_36, ln_37, ln_38, ln_40, ln_41, ln_42, ln_43, ln_45, Option.toList_some, Option.toList_none, List.cons_append, List.nil_append, true_and, and_true, if_true, if_false, true_or, or_true, Nat.reduceAdd, Int.reduceAdd, Bool.false_eq_true, tn_0, tn_1, tn_2, tn_3, tn_4, tn_5, tn_6, tn_7]
         first | exact ⟨rfl, rfl⟩ | (simp_all [Rt]))
  · first
      | exact absurd c11 (by decide)
      | (refine J_blk a_X5_regret_11 ?_
         simp only [b_X5_regret_11, w_iload_n2, w_iconst_1, w_bipush, ci_20, w_nil, kd_0, kd_1, kd_2, kd_3, kd_4, kd_5, kd_6, kd_7, kd_10, kd_11, kd_12, kd_13, kd_14, kd_15, kd_16, kd_19, kd_28, kd_29, kd_30, kd_31, kd_32, kd_33, kd_34, kd_35, kd_36, kd_37, kd_38, kd_39, kd_40, kd_41, kd_42, kd_43, kd_44, kd_45, ln_2, ln_3, ln_4, ln_5, ln_6, ln_7, ln_11, ln_12, ln_13, ln_14, ln_15, ln_16, ln_29, ln_30, ln_32, ln_33, ln_34, ln_35, ln_36, ln_37, ln_38, ln_40, ln_41, ln_42, ln_43, ln_45, Option.toList_some, Option.toList_none, List.cons_append, List.nil_append, true_and, and_true, if_true, if_false, true_or, or_true, Nat.reduceAdd, Int.reduceAdd, Bool.false_eq_true, tn_0, tn_1, tn_2, tn_3, tn_4, tn_5, tn_6, tn_7]
         refine J_callSr (within_c _ _ _ _) k_X5_regret_15 o_X5_within rfl (by decide) rfl (Nat.le_of_ble_eq_true rfl) ?_
         rw [if_pos (by first | exact h1 | exact h2 | exact h3 | exact h4)]
         refine J_blk a_X5_regret_18 ?_
         simp only [b_X5_regret_18, w_if_ne, w_nil, kd_0, kd_1, kd_2, kd_3, kd_4, kd_5, kd_6, kd_7, kd_10, kd_11, kd_12, kd_13, kd_14, kd_15, kd_16, kd_19, kd_28, kd_29, kd_30, kd_31, kd_32, kd_33, kd_34, kd_35, kd_36, kd_37, kd_38, kd_39, kd_40, kd_41, kd_42, kd_43, kd_44, kd_45, ln_2, ln_3, ln_4, ln_5, ln_6, ln_7, ln_11, ln_12, ln_13, ln_14, ln_15, ln_16, ln_29, ln_30, ln_32, ln_33, ln_34, ln_35, ln_36, ln_37, ln_38, ln_40, ln_41, ln_42, ln_43, ln_45, Option.toList_some, Option.toList_none, List.cons_append, List.nil_append, true_and, and_true, if_true, if_false, true_or, or_true, Nat.reduceAdd, Int.reduceAdd, Bool.false_eq_true, tn_0, tn_1, tn_2, tn_3, tn_4, tn_5, tn_6, tn_7]
         refine ⟨fun c12 => ?_, fun c12 => ?_⟩
         · first
             | exact absurd c12 (by decide)
             | (refine J_blk a_X5_regret_23 ?_
                simp only [b_X5_regret_23, w_aload_n0, w_getf5, ne0_1, w_iload_n1, w_nil, kd_0, kd_1, kd_2, kd_3, kd_4, kd_5, kd_6, kd_7, kd_10, kd_11, kd_12, kd_13, kd_14, kd_15, kd_16, kd_19, kd_28, kd_29, kd_30, kd_31, kd_32, kd_33, kd_34, kd_35, kd_36, kd_37, kd_38, kd_39, kd_40, kd_41, kd_42, kd_43, kd_44, kd_45, ln_2, ln_3, ln_4, ln_5, ln_6, ln_7, ln_11, ln_12, ln_13, ln_14, ln_15, ln_16, ln_29, ln_30, ln_32, ln_33, ln_34, ln_35, ln_36, ln_37, ln_38, ln_40, ln_41, ln_42, ln_43, ln_45, Option.toList_some, Option.toList_none, List.cons_append, List.nil_append, true_and, and_true, if_true, if_false, true_or, or_true, Nat.reduceAdd, Int.reduceAdd, Bool.false_eq_true, tn_0, tn_1, tn_2, tn_3, tn_4, tn_5, tn_6, tn_7]
                refine J_callVr (ci := 4) (canBack_c hw hx (Or.inl rfl) hj) k_X5_regret_28 o_X4_canBeHadBack (rfl) rfl rfl rfl (by decide) rfl (Nat.le_of_ble_eq_true rfl) ?_
                rw [if_pos hc]
                refine J_blk a_X5_regret_31 ?_
                simp only [b_X5_regret_31, w_if_ne, w_nil, kd_0, kd_1, kd_2, kd_3, kd_4, kd_5, kd_6, kd_7, kd_10, kd_11, kd_12, kd_13, kd_14, kd_15, kd_16, kd_19, kd_28, kd_29, kd_30, kd_31, kd_32, kd_33, kd_34, kd_35, kd_36, kd_37, kd_38, kd_39, kd_40, kd_41, kd_42, kd_43, kd_44, kd_45, ln_2, ln_3, ln_4, ln_5, ln_6, ln_7, ln_11, ln_12, ln_13, ln_14, ln_15, ln_16, ln_29, ln_30, ln_32, ln_33, ln_34, ln_35, ln_36, ln_37, ln_38, ln_40, ln_41, ln_42, ln_43, ln_45, Option.toList_some, Option.toList_none, List.cons_append, List.nil_append, true_and, and_true, if_true, if_false, true_or, or_true, Nat.reduceAdd, Int.reduceAdd, Bool.false_eq_true, tn_0, tn_1, tn_2, tn_3, tn_4, tn_5, tn_6, tn_7]
                refine ⟨fun c13 => ?_, fun c13 => ?_⟩
                · first
                    | exact absurd c13 (by decide)
                    | (exact go)
                · first
                    | exact absurd c13 (by decide)
                    | (refine J_blk a_X5_regret_34 ?_
                       simp only [b_X5_regret_34, w_bipush, ci_m3, w_ireti, kd_0, kd_1, kd_2, kd_3, kd_4, kd_5, kd_6, kd_7, kd_10, kd_11, kd_12, kd_13, kd_14, kd_15, kd_16, kd_19, kd_28, kd_29, kd_30, kd_31, kd_32, kd_33, kd_34, kd_35, kd_36, kd_37, kd_38, kd_39, kd_40, kd_41, kd_42, kd_43, kd_44, kd_45, ln_2, ln_3, ln_4, ln_5, ln_6, ln_7, ln_11, ln_12, ln_13, ln_14, ln_15, ln_16, ln_29, ln_30, ln_32, ln_33, ln_34, ln_35, ln_36, ln_37, ln_38, ln_40, ln_41, ln_42, ln_43, ln_45, Option.toList_some, Option.toList_none, List.cons_append, List.nil_append, true_and, and_true, if_true, if_false, true_or, or_true, Nat.reduceAdd, Int.reduceAdd, Bool.false_eq_true, tn_0, tn_1, tn_2, tn_3, tn_4, tn_5, tn_6, tn_7]
                       first | exact ⟨rfl, rfl⟩ | (simp_all [Rt])))
         · first
             | exact absurd c12 (by decide)
             | (refine J_blk a_X5_regret_21 ?_
                simp only [b_X5_regret_21, w_iconst_m1, w_ireti, kd_0, kd_1, kd_2, kd_3, kd_4, kd_5, kd_6, kd_7, kd_10, kd_11, kd_12, kd_13, kd_14, kd_15, kd_16, kd_19, kd_28, kd_29, kd_30, kd_31, kd_32, kd_33, kd_34, kd_35, kd_36, kd_37, kd_38, kd_39, kd_40, kd_41, kd_42, kd_43, kd_44, kd_45, ln_2, ln_3, ln_4, ln_5, ln_6, ln_7, ln_11, ln_12, ln_13, ln_14, ln_15, ln_16, ln_29, ln_30, ln_32, ln_33, ln_34, ln_35, ln_36, ln_37, ln_38, ln_40, ln_41, ln_42, ln_43, ln_45, Option.toList_some, Option.toList_none, List.cons_append, List.nil_append, true_and, and_true, if_true, if_false, true_or, or_true, Nat.reduceAdd, Int.reduceAdd, Bool.false_eq_true, tn_0, tn_1, tn_2, tn_3, tn_4, tn_5, tn_6, tn_7]
                first | exact ⟨rfl, rfl⟩ | (simp_all [Rt])))
theorem isFreeBy_c (hw : WF s n) (hx : RX M 1 s n) (k o : Nat) (v : Int32) (hk : k < 2 ^ n) (hj : o < n) : K 4 mX5_isFreeBy [.ref 0, .int (nI k), .int (nI o), .int v] M (Rq (some (.int (bI (frB s n o v (nI k))))) (fun M' => RX M' 1 s n ∧ FC M M')) := by
  have h8 := hw.2.1
  have hw1 := WF_ctR hw (nI k)
  refine K_go 3 o_X5_isFreeBy [] rfl (Nat.le_of_ble_eq_true rfl) ?_
  simp only [lvA_i, lvA_a, lvA_l, lvA_nil, List.cons_append, List.nil_append]
  refine J_blk a_X5_isFreeBy_0 ?_
  simp only [b_X5_isFreeBy_0, w_aload_n0, w_nil, kd_0, kd_1, kd_2, kd_3, kd_4, kd_5, kd_6, kd_7, kd_10, kd_11, kd_12, kd_13, kd_14, kd_15, kd_16, kd_19, kd_28, kd_29, kd_30, kd_31, kd_32, kd_33, kd_34, kd_35, kd_36, kd_37, kd_38, kd_39, kd_40, kd_41, kd_42, kd_43, kd_44, kd_45, ln_2, ln_3, ln_4, ln_5, ln_6, ln_7, ln_11, ln_12, ln_13, ln_14, ln_15, ln_16, ln_29, ln_30, ln_32, ln_33, ln_34, ln_35, ln_36, ln_37, ln_38, ln_40, ln_41, ln_42, ln_43, ln_45, Option.toList_some, Option.toList_none, List.cons_append, List.nil_append, true_and, and_true, if_true, if_false, true_or, or_true, Nat.reduceAdd, Int.reduceAdd, Bool.false_eq_true, tn_0, tn_1, tn_2, tn_3, tn_4, tn_5, tn_6, tn_7]
  refine J_callV (ci := 5) (tryNow_c h8 hx) k_X5_isFreeBy_1 o_X5_tryNow (rfl) rfl rfl rfl (by decide) rfl (Nat.le_of_ble_eq_true rfl) ?_
  rintro r M1 ⟨rfl, g1, g2⟩
  have x6 : M1.1 10 6 = bsF (cuF s) n := g1.2.2.2.2.1
  have g3 := RX_ct hw g1 (nI_bt hk h8)
  have f1 : FB 10 M (u1 M1 10 6 (bsF (cuF s) n ||| nI k)) := g2.trans (FB_u1 M1 _ _ (by omega))
  refine J_blk a_X5_isFreeBy_4 ?_
  simp only [b_X5_isFreeBy_4, w_dup_i, w_dup_a, w_getf4, w_iload_n1, w_ior, w_putf4, w_aload_n0, w_getf5, ne0_10, w_nil, kd_0, kd_1, kd_2, kd_3, kd_4, kd_5, kd_6, kd_7, kd_10, kd_11, kd_12, kd_13, kd_14, kd_15, kd_16, kd_19, kd_28, kd_29, kd_30, kd_31, kd_32, kd_33, kd_34, kd_35, kd_36, kd_37, kd_38, kd_39, kd_40, kd_41, kd_42, kd_43, kd_44, kd_45, ln_2, ln_3, ln_4, ln_5, ln_6, ln_7, ln_11, ln_12, ln_13, ln_14, ln_15, ln_16, ln_29, ln_30, ln_32, ln_33, ln_34, ln_35, ln_36, ln_37, ln_38, ln_40, ln_41, ln_42, ln_43, ln_45, Option.toList_some, Option.toList_none, List.cons_append, List.nil_append, true_and, and_true, if_true, if_false, true_or, or_true, Nat.reduceAdd, Int.reduceAdd, Bool.false_eq_true, tn_0, tn_1, tn_2, tn_3, tn_4, tn_5, tn_6, tn_7, x6]
  refine J_callVr (ci := 4) (survey_c hw1 g3 (Or.inr (Or.inl rfl))) k_X5_isFreeBy_17 o_X4_survey (rfl) rfl rfl rfl (by decide) rfl (Nat.le_of_ble_eq_true rfl) ?_
  have hv := sm_SV (M := u1 M1 10 6 (bsF (cuF s) n ||| nI k)) (b := 10) hw1
  have g4 := sm_RX (h := hsR (ctR s (nI k) n) ((u1 M1 10 6 (bsF (cuF s) n ||| nI k)).1 (10 + 7)) n) (l := ldR (ctR s (nI k) n) ((u1 M1 10 6 (bsF (cuF s) n ||| nI k)).1 (10 + 8)) n) (v := bsF (sd (ctR s (nI k) n)) n) g3
  have f2 : FB 10 M (smN (u1 M1 10 6 (bsF (cuF s) n ||| nI k)) 10 (hsR (ctR s (nI k) n) ((u1 M1 10 6 (bsF (cuF s) n ||| nI k)).1 (10 + 7)) n) (ldR (ctR s (nI k) n) ((u1 M1 10 6 (bsF (cuF s) n ||| nI k)).1 (10 + 8)) n) (bsF (sd (ctR s (nI k) n)) n)) := f1.trans sm_FB
  have hb : bt (bsF (sd (ctR s (nI k) n)) n) o = sd (ctR s (nI k) n) o := bt_sd h8 hj
  refine J_blk a_X5_isFreeBy_20 ?_
  simp only [b_X5_isFreeBy_20, w_iload_n2, w_nil, kd_0, kd_1, kd_2, kd_3, kd_4, kd_5, kd_6, kd_7, kd_10, kd_11, kd_12, kd_13, kd_14, kd_15, kd_16, kd_19, kd_28, kd_29, kd_30, kd_31, kd_32, kd_33, kd_34, kd_35, kd_36, kd_37, kd_38, kd_39, kd_40, kd_41, kd_42, kd_43, kd_44, kd_45, ln_2, ln_3, ln_4, ln_5, ln_6, ln_7, ln_11, ln_12, ln_13, ln_14, ln_15, ln_16, ln_29, ln_30, ln_32, ln_33, ln_34, ln_35, ln_36, ln_37, ln_38, ln_40, ln_41, ln_42, ln_43, ln_45, Option.toList_some, Option.toList_none, List.cons_append, List.nil_append, true_and, and_true, if_true, if_false, true_or, or_true, Nat.reduceAdd, Int.reduceAdd, Bool.false_eq_true, tn_0, tn_1, tn_2, tn_3, tn_4, tn_5, tn_6, tn_7]
  refine J_callSr (bit_c _ (by omega) _) k_X5_isFreeBy_21 o_X5_bit rfl (by decide) rfl (Nat.le_of_ble_eq_true rfl) ?_
  rw [hb]
  unfold frB
  cases hs : sd (ctR s (nI k) n) o
  · refine J_blk a_X5_isFreeBy_24 ?_
    simp only [b_X5_isFreeBy_24, w_iconst_1, w_icmp_ne, w_nil, kd_0, kd_1, kd_2, kd_3, kd_4, kd_5, kd_6, kd_7, kd_10, kd_11, kd_12, kd_13, kd_14, kd_15, kd_16, kd_19, kd_28, kd_29, kd_30, kd_31, kd_32, kd_33, kd_34, kd_35, kd_36, kd_37, kd_38, kd_39, kd_40, kd_41, kd_42, kd_43, kd_44, kd_45, ln_2, ln_3, ln_4, ln_5, ln_6, ln_7, ln_11, ln_12, ln_13, ln_14, ln_15, ln_16, ln_29, ln_30, ln_32, ln_33, ln_34, ln_35, ln_36, ln_37, ln_38, ln_40, ln_41, ln_42, ln_43, ln_45, Option.toList_some, Option.toList_none, List.cons_append, List.nil_append, true_and, and_true, if_true, if_false, true_or, or_true, Nat.reduceAdd, Int.reduceAdd, Bool.false_eq_true, tn_0, tn_1, tn_2, tn_3, tn_4, tn_5, tn_6, tn_7]
    refine ⟨fun _ => ?_, fun h => absurd h (by decide)⟩
    refine J_blk a_X5_isFreeBy_44 ?_
    simp only [b_X5_isFreeBy_44, w_iconst_0, w_nil, kd_0, kd_1, kd_2, kd_3, kd_4, kd_5, kd_6, kd_7, kd_10, kd_11, kd_12, kd_13, kd_14, kd_15, kd_16, kd_19, kd_28, kd_29, kd_30, kd_31, kd_32, kd_33, kd_34, kd_35, kd_36, kd_37, kd_38, kd_39, kd_40, kd_41, kd_42, kd_43, kd_44, kd_45, ln_2, ln_3, ln_4, ln_5, ln_6, ln_7, ln_11, ln_12, ln_13, ln_14, ln_15, ln_16, ln_29, ln_30, ln_32, ln_33, ln_34, ln_35, ln_36, ln_37, ln_38, ln_40, ln_41, ln_42, ln_43, ln_45, Option.toList_some, Option.toList_none, List.cons_append, List.nil_append, true_and, and_true, if_true, if_false, true_or, or_true, Nat.reduceAdd, Int.reduceAdd, Bool.false_eq_true, tn_0, tn_1, tn_2, tn_3, tn_4, tn_5, tn_6, tn_7]
    refine J_blk a_X5_isFreeBy_45 ?_
    simp only [b_X5_isFreeBy_45, w_iretz, kd_0, kd_1, kd_2, kd_3, kd_4, kd_5, kd_6, kd_7, kd_10, kd_11, kd_12, kd_13, kd_14, kd_15, kd_16, kd_19, kd_28, kd_29, kd_30, kd_31, kd_32, kd_33, kd_34, kd_35, kd_36, kd_37, kd_38, kd_39, kd_40, kd_41, kd_42, kd_43, kd_44, kd_45, ln_2, ln_3, ln_4, ln_5, ln_6, ln_7, ln_11, ln_12, ln_13, ln_14, ln_15, ln_16, ln_29, ln_30, ln_32, ln_33, ln_34, ln_35, ln_36, ln_37, ln_38, ln_40, ln_41, ln_42, ln_43, ln_45, Option.toList_some, Option.toList_none, List.cons_append, List.nil_append, true_and, and_true, if_true, if_false, true_or, or_true, Nat.reduceAdd, Int.reduceAdd, Bool.false_eq_true, tn_0, tn_1, tn_2, tn_3, tn_4, tn_5, tn_6, tn_7]
    try refine ⟨(by first | exact Or.inl rfl | exact Or.inr rfl), ?_⟩
    exact ⟨rfl, RX_10 f2 hx, f2.c10⟩
  · refine J_blk a_X5_isFreeBy_24 ?_
    simp only [b_X5_isFreeBy_24, w_iconst_1, w_icmp_ne, w_nil, kd_0, kd_1, kd_2, kd_3, kd_4, kd_5, kd_6, kd_7, kd_10, kd_11, kd_12, kd_13, kd_14, kd_15, kd_16, kd_19, kd_28, kd_29, kd_30, kd_31, kd_32, kd_33, kd_34, kd_35, kd_36, kd_37, kd_38, kd_39, kd_40, kd_41, kd_42, kd_43, kd_44, kd_45, ln_2, ln_3, ln_4, ln_5, ln_6, ln_7, ln_11, ln_12, ln_13, ln_14, ln_15, ln_16, ln_29, ln_30, ln_32, ln_33, ln_34, ln_35, ln_36, ln_37, ln_38, ln_40, ln_41, ln_42, ln_43, ln_45, Option.toList_some, Option.toList_none, List.cons_append, List.nil_append, true_and, and_true, if_true, if_false, true_or, or_true, Nat.reduceAdd, Int.reduceAdd, Bool.false_eq_true, tn_0, tn_1, tn_2, tn_3, tn_4, tn_5, tn_6, tn_7]
    refine ⟨fun h => absurd rfl h, fun _ => ?_⟩
    refine J_blk a_X5_isFreeBy_28 ?_
    simp only [b_X5_isFreeBy_28, w_aload_n0, w_getf5, ne0_10, w_iload_n2, w_nil, kd_0, kd_1, kd_2, kd_3, kd_4, kd_5, kd_6, kd_7, kd_10, kd_11, kd_12, kd_13, kd_14, kd_15, kd_16, kd_19, kd_28, kd_29, kd_30, kd_31, kd_32, kd_33, kd_34, kd_35, kd_36, kd_37, kd_38, kd_39, kd_40, kd_41, kd_42, kd_43, kd_44, kd_45, ln_2, ln_3, ln_4, ln_5, ln_6, ln_7, ln_11, ln_12, ln_13, ln_14, ln_15, ln_16, ln_29, ln_30, ln_32, ln_33, ln_34, ln_35, ln_36, ln_37, ln_38, ln_40, ln_41, ln_42, ln_43, ln_45, Option.toList_some, Option.toList_none, List.cons_append, List.nil_append, true_and, and_true, if_true, if_false, true_or, or_true, Nat.reduceAdd, Int.reduceAdd, Bool.false_eq_true, tn_0, tn_1, tn_2, tn_3, tn_4, tn_5, tn_6, tn_7]
    refine J_callVr (ci := 4) (bears_c hw1 g4 hv (Or.inr (Or.inl rfl)) hj) k_X5_isFreeBy_33 o_X4_bears (rfl) rfl rfl rfl (by decide) rfl (Nat.le_of_ble_eq_true rfl) ?_
    refine J_blk a_X5_isFreeBy_36 ?_
    simp only [b_X5_isFreeBy_36, w_iload_n3, w_icmp_lt, w_nil, kd_0, kd_1, kd_2, kd_3, kd_4, kd_5, kd_6, kd_7, kd_10, kd_11, kd_12, kd_13, kd_14, kd_15, kd_16, kd_19, kd_28, kd_29, kd_30, kd_31, kd_32, kd_33, kd_34, kd_35, kd_36, kd_37, kd_38, kd_39, kd_40, kd_41, kd_42, kd_43, kd_44, kd_45, ln_2, ln_3, ln_4, ln_5, ln_6, ln_7, ln_11, ln_12, ln_13, ln_14, ln_15, ln_16, ln_29, ln_30, ln_32, ln_33, ln_34, ln_35, ln_36, ln_37, ln_38, ln_40, ln_41, ln_42, ln_43, ln_45, Option.toList_some, Option.toList_none, List.cons_append, List.nil_append, true_and, and_true, if_true, if_false, true_or, or_true, Nat.reduceAdd, Int.reduceAdd, Bool.false_eq_true, tn_0, tn_1, tn_2, tn_3, tn_4, tn_5, tn_6, tn_7]
    refine ⟨fun c => ?_, fun c => ?_⟩
    · rw [decide_eq_false (Int32.not_le.mpr c)]
      refine J_blk a_X5_isFreeBy_44 ?_
      simp only [b_X5_isFreeBy_44, w_iconst_0, w_nil, kd_0, kd_1, kd_2, kd_3, kd_4, kd_5, kd_6, kd_7, kd_10, kd_11, kd_12, kd_13, kd_14, kd_15, kd_16, kd_19, kd_28, kd_29, kd_30, kd_31, kd_32, kd_33, kd_34, kd_35, kd_36, kd_37, kd_38, kd_39, kd_40, kd_41, kd_42, kd_43, kd_44, kd_45, ln_2, ln_3, ln_4, ln_5, ln_6, ln_7, ln_11, ln_12, ln_13, ln_14, ln_15, ln_16, ln_29, ln_30, ln_32, ln_33, ln_34, ln_35, ln_36, ln_37, ln_38, ln_40, ln_41, ln_42, ln_43, ln_45, Option.toList_some, Option.toList_none, List.cons_append, List.nil_append, true_and, and_true, if_true, if_false, true_or, or_true, Nat.reduceAdd, Int.reduceAdd, Bool.false_eq_true, tn_0, tn_1, tn_2, tn_3, tn_4, tn_5, tn_6, tn_7]
      refine J_blk a_X5_isFreeBy_45 ?_
      simp only [b_X5_isFreeBy_45, w_iretz, kd_0, kd_1, kd_2, kd_3, kd_4, kd_5, kd_6, kd_7, kd_10, kd_11, kd_12, kd_13, kd_14, kd_15, kd_16, kd_19, kd_28, kd_29, kd_30, kd_31, kd_32, kd_33, kd_34, kd_35, kd_36, kd_37, kd_38, kd_39, kd_40, kd_41, kd_42, kd_43, kd_44, kd_45, ln_2, ln_3, ln_4, ln_5, ln_6, ln_7, ln_11, ln_12, ln_13, ln_14, ln_15, ln_16, ln_29, ln_30, ln_32, ln_33, ln_34, ln_35, ln_36, ln_37, ln_38, ln_40, ln_41, ln_42, ln_43, ln_45, Option.toList_some, Option.toList_none, List.cons_append, List.nil_append, true_and, and_true, if_true, if_false, true_or, or_true, Nat.reduceAdd, Int.reduceAdd, Bool.false_eq_true, tn_0, tn_1, tn_2, tn_3, tn_4, tn_5, tn_6, tn_7]
      try refine ⟨(by first | exact Or.inl rfl | exact Or.inr rfl), ?_⟩
      exact ⟨rfl, RX_10 f2 hx, f2.c10⟩
    · rw [decide_eq_true (Int32.not_lt.mp c)]
      refine J_blk a_X5_isFreeBy_40 ?_
      simp only [b_X5_isFreeBy_40, w_iconst_1, w_goto, kd_0, kd_1, kd_2, kd_3, kd_4, kd_5, kd_6, kd_7, kd_10, kd_11, kd_12, kd_13, kd_14, kd_15, kd_16, kd_19, kd_28, kd_29, kd_30, kd_31, kd_32, kd_33, kd_34, kd_35, kd_36, kd_37, kd_38, kd_39, kd_40, kd_41, kd_42, kd_43, kd_44, kd_45, ln_2, ln_3, ln_4, ln_5, ln_6, ln_7, ln_11, ln_12, ln_13, ln_14, ln_15, ln_16, ln_29, ln_30, ln_32, ln_33, ln_34, ln_35, ln_36, ln_37, ln_38, ln_40, ln_41, ln_42, ln_43, ln_45, Option.toList_some, Option.toList_none, List.cons_append, List.nil_append, true_and, and_true, if_true, if_false, true_or, or_true, Nat.reduceAdd, Int.reduceAdd, Bool.false_eq_true, tn_0, tn_1, tn_2, tn_3, tn_4, tn_5, tn_6, tn_7]
      refine J_blk a_X5_isFreeBy_45 ?_
      simp only [b_X5_isFreeBy_45, w_iretz, kd_0, kd_1, kd_2, kd_3, kd_4, kd_5, kd_6, kd_7, kd_10, kd_11, kd_12, kd_13, kd_14, kd_15, kd_16, kd_19, kd_28, kd_29, kd_30, kd_31, kd_32, kd_33, kd_34, kd_35, kd_36, kd_37, kd_38, kd_39, kd_40, kd_41, kd_42, kd_43, kd_44, kd_45, ln_2, ln_3, ln_4, ln_5, ln_6, ln_7, ln_11, ln_12, ln_13, ln_14, ln_15, ln_16, ln_29, ln_30, ln_32, ln_33, ln_34, ln_35, ln_36, ln_37, ln_38, ln_40, ln_41, ln_42, ln_43, ln_45, Option.toList_some, Option.toList_none, List.cons_append, List.nil_append, true_and, and_true, if_true, if_false, true_or, or_true, Nat.reduceAdd, Int.reduceAdd, Bool.false_eq_true, tn_0, tn_1, tn_2, tn_3, tn_4, tn_5, tn_6, tn_7]
      try refine ⟨(by first | exact Or.inl rfl | exact Or.inr rfl), ?_⟩
      exact ⟨rfl, RX_10 f2 hx, f2.c10⟩
theorem cfreeFor_t (hw : WF s n) (hx : RX M 1 s n) (o : Nat) (v : Int32) (hj : o < n) (h1 : 0 ≤ v ∧ v ≤ 99) : K 5 mX5_freeFor [.ref 0, .int (nI o), .int v] M (Rq (some (.int (oI (ffS s n o v (2 ^ n))))) (fun M' => RX M' 1 s n ∧ FC M M')) := by
  have h8 := hw.2.1
  have ho := ok1 hj (by omega)
  have hsh := shl1 n h8
  have hp := p256 h8
  have hb : bt (bsF (sd s) n) o = sd s o := bt_sd h8 hj
  have loop : ∀ k, k ≤ 2 ^ n → ∀ (M1 : Mm) (z : Option Value), RX M1 1 s n → FC M M1 → J 5 mX5_freeFor 58 [some (.ref 0), some (.int (nI o)), some (.int v), some (.int (bsF (sd s) n)), some (.int (bsF (sd s) n &&& ((1 : Int32) <<< (nI o &&& 31) ^^^ -1))), some (.int (oI (ffS s n o v k))), some (.int (nI k)), z] [] M1 (Rq (some (.int (oI (ffS s n o v (2 ^ n))))) (fun M' => RX M' 1 s n ∧ FC M M')) := by
    refine down (2 ^ n) ?_ ?_
    · intro M1 z g1 g2
      have x7 : M1.1 1 7 = nI n := g1.1
      refine J_blk a_X5_freeFor_58 ?_
      simp only [b_X5_freeFor_58, w_iload6, w_iconst_1, w_aload_n0, w_getf5, ne0_1, w_getf4, w_ishl, w_icmp_ge, w_nil, kd_0, kd_1, kd_2, kd_3, kd_4, kd_5, kd_6, kd_7, kd_10, kd_11, kd_12, kd_13, kd_14, kd_15, kd_16, kd_19, kd_28, kd_29, kd_30, kd_31, kd_32, kd_33, kd_34, kd_35, kd_36, kd_37, kd_38, kd_39, kd_40, kd_41, kd_42, kd_43, kd_44, kd_45, ln_2, ln_3, ln_4, ln_5, ln_6, ln_7, ln_11, ln_12, ln_13, ln_14, ln_15, ln_16, ln_29, ln_30, ln_32, ln_33, ln_34, ln_35, ln_36, ln_37, ln_38, ln_40, ln_41, ln_42, ln_43, ln_45, Option.toList_some, Option.toList_none, List.cons_append, List.nil_append, true_and, and_true, if_true, if_false, true_or, or_true, Nat.reduceAdd, Int.reduceAdd, Bool.false_eq_true, tn_0, tn_1, tn_2, tn_3, tn_4, tn_5, tn_6, tn_7, x7, hsh]
      refine ⟨fun _ => ?_, fun h => absurd (Int32.le_refl _) h⟩
      refine J_blk a_X5_freeFor_132 ?_
      simp only [b_X5_freeFor_132, w_iload5, w_ireti, kd_0, kd_1, kd_2, kd_3, kd_4, kd_5, kd_6, kd_7, kd_10, kd_11, kd_12, kd_13, kd_14, kd_15, kd_16, kd_19, kd_28, kd_29, kd_30, kd_31, kd_32, kd_33, kd_34, kd_35, kd_36, kd_37, kd_38, kd_39, kd_40, kd_41, kd_42, kd_43, kd_44, kd_45, ln_2, ln_3, ln_4, ln_5, ln_6, ln_7, ln_11, ln_12, ln_13, ln_14, ln_15, ln_16, ln_29, ln_30, ln_32, ln_33, ln_34, ln_35, ln_36, ln_37, ln_38, ln_40, ln_41, ln_42, ln_43, ln_45, Option.toList_some, Option.toList_none, List.cons_append, List.nil_append, true_and, and_true, if_true, if_false, true_or, or_true, Nat.reduceAdd, Int.reduceAdd, Bool.false_eq_true, tn_0, tn_1, tn_2, tn_3, tn_4, tn_5, tn_6, tn_7]
      exact ⟨rfl, g1, g2⟩
    · intro k hk ih M1 z g1 g2
      have x7 : M1.1 1 7 = nI n := g1.1
      have hlt := ffS_lt s n o v k (by omega)
      rw [ffS] at ih
      generalize ffS s n o v k = q at *
      have old : ∀ (M2 : Mm) (z : Option Value), RX M2 1 s n → FC M M2 → ¬ ((∀ b, q = some b → pcN k < pcN b) ∧ nI k &&& ((bsF (sd s) n &&& ((1 : Int32) <<< (nI o &&& 31) ^^^ -1)) ^^^ -1) = 0 ∧ frB s n o v (nI k) = true) → J 5 mX5_freeFor 126 [some (.ref 0), some (.int (nI o)), some (.int v), some (.int (bsF (sd s) n)), some (.int (bsF (sd s) n &&& ((1 : Int32) <<< (nI o &&& 31) ^^^ -1))), some (.int (oI q)), some (.int (nI k)), z] [] M2 (Rq (some (.int (oI (ffS s n o v (2 ^ n))))) (fun M' => RX M' 1 s n ∧ FC M M')) := by
        intro M2 z k1 k2 hc
        rw [if_neg hc] at ih
        refine J_blk a_X5_freeFor_126 ?_
        simp only [b_X5_freeFor_126, w_iinc6, nl_6n, nl_6i, nl_6a, ci_1, w_goto, kd_0, kd_1, kd_2, kd_3, kd_4, kd_5, kd_6, kd_7, kd_10, kd_11, kd_12, kd_13, kd_14, kd_15, kd_16, kd_19, kd_28, kd_29, kd_30, kd_31, kd_32, kd_33, kd_34, kd_35, kd_36, kd_37, kd_38, kd_39, kd_40, kd_41, kd_42, kd_43, kd_44, kd_45, ln_2, ln_3, ln_4, ln_5, ln_6, ln_7, ln_11, ln_12, ln_13, ln_14, ln_15, ln_16, ln_29, ln_30, ln_32, ln_33, ln_34, ln_35, ln_36, ln_37, ln_38, ln_40, ln_41, ln_42, ln_43, ln_45, Option.toList_some, Option.toList_none, List.cons_append, List.nil_append, true_and, and_true, if_true, if_false, true_or, or_true, Nat.reduceAdd, Int.reduceAdd, Bool.false_eq_true, tn_0, tn_1, tn_2, tn_3, tn_4, tn_5, tn_6, tn_7, nI_1]
        exact ih M2 z k1 k2
      have on : nI k &&& ((bsF (sd s) n &&& ((1 : Int32) <<< (nI o &&& 31) ^^^ -1)) ^^^ -1) = 0 → (∀ b, q = some b → pcN k < pcN b) → J 5 mX5_freeFor 99 [some (.ref 0), some (.int (nI o)), some (.int v), some (.int (bsF (sd s) n)), some (.int (bsF (sd s) n &&& ((1 : Int32) <<< (nI o &&& 31) ^^^ -1))), some (.int (oI q)), some (.int (nI k)), z] [] M1 (Rq (some (.int (oI (ffS s n o v (2 ^ n))))) (fun M' => RX M' 1 s n ∧ FC M M')) := by
        intro c hf
        refine J_blk a_X5_freeFor_99 ?_
        simp only [b_X5_freeFor_99, w_iconst_1, w_goto, kd_0, kd_1, kd_2, kd_3, kd_4, kd_5, kd_6, kd_7, kd_10, kd_11, kd_12, kd_13, kd_14, kd_15, kd_16, kd_19, kd_28, kd_29, kd_30, kd_31, kd_32, kd_33, kd_34, kd_35, kd_36, kd_37, kd_38, kd_39, kd_40, kd_41, kd_42, kd_43, kd_44, kd_45, ln_2, ln_3, ln_4, ln_5, ln_6, ln_7, ln_11, ln_12, ln_13, ln_14, ln_15, ln_16, ln_29, ln_30, ln_32, ln_33, ln_34, ln_35, ln_36, ln_37, ln_38, ln_40, ln_41, ln_42, ln_43, ln_45, Option.toList_some, Option.toList_none, List.cons_append, List.nil_append, true_and, and_true, if_true, if_false, true_or, or_true, Nat.reduceAdd, Int.reduceAdd, Bool.false_eq_true, tn_0, tn_1, tn_2, tn_3, tn_4, tn_5, tn_6, tn_7]
        refine J_blk a_X5_freeFor_104 ?_
        simp only [b_X5_freeFor_104, w_istore7, nl_7n, nl_7i, nl_7a, w_iload7, w_if_eq, w_nil, kd_0, kd_1, kd_2, kd_3, kd_4, kd_5, kd_6, kd_7, kd_10, kd_11, kd_12, kd_13, kd_14, kd_15, kd_16, kd_19, kd_28, kd_29, kd_30, kd_31, kd_32, kd_33, kd_34, kd_35, kd_36, kd_37, kd_38, kd_39, kd_40, kd_41, kd_42, kd_43, kd_44, kd_45, ln_2, ln_3, ln_4, ln_5, ln_6, ln_7, ln_11, ln_12, ln_13, ln_14, ln_15, ln_16, ln_29, ln_30, ln_32, ln_33, ln_34, ln_35, ln_36, ln_37, ln_38, ln_40, ln_41, ln_42, ln_43, ln_45, Option.toList_some, Option.toList_none, List.cons_append, List.nil_append, true_and, and_true, if_true, if_false, true_or, or_true, Nat.reduceAdd, Int.reduceAdd, Bool.false_eq_true, tn_0, tn_1, tn_2, tn_3, tn_4, tn_5, tn_6, tn_7]
        refine ⟨fun h => absurd h (by decide), fun _ => ?_⟩
        refine J_blk a_X5_freeFor_111 ?_
        simp only [b_X5_freeFor_111, w_aload_n0, w_iload6, w_iload_n1, w_iload_n2, w_nil, kd_0, kd_1, kd_2, kd_3, kd_4, kd_5, kd_6, kd_7, kd_10, kd_11, kd_12, kd_13, kd_14, kd_15, kd_16, kd_19, kd_28, kd_29, kd_30, kd_31, kd_32, kd_33, kd_34, kd_35, kd_36, kd_37, kd_38, kd_39, kd_40, kd_41, kd_42, kd_43, kd_44, kd_45, ln_2, ln_3, ln_4, ln_5, ln_6, ln_7, ln_11, ln_12, ln_13, ln_14, ln_15, ln_16, ln_29, ln_30, ln_32, ln_33, ln_34, ln_35, ln_36, ln_37, ln_38, ln_40, ln_41, ln_42, ln_43, ln_45, Option.toList_some, Option.toList_none, List.cons_append, List.nil_append, true_and, and_true, if_true, if_false, true_or, or_true, Nat.reduceAdd, Int.reduceAdd, Bool.false_eq_true, tn_0, tn_1, tn_2, tn_3, tn_4, tn_5, tn_6, tn_7]
        refine J_callV (ci := 5) (isFreeBy_c hw g1 k o v hk hj) k_X5_freeFor_116 o_X5_isFreeBy (rfl) rfl rfl rfl (by decide) rfl (Nat.le_of_ble_eq_true rfl) ?_
        rintro r M2 ⟨rfl, k1, k2⟩
        by_cases hbb : frB s n o v (nI k) = true
        · rw [if_pos ⟨hf, c, hbb⟩] at ih
          rw [hbb]
          refine J_blk a_X5_freeFor_119 ?_
          simp only [b_X5_freeFor_119, w_if_eq, w_nil, kd_0, kd_1, kd_2, kd_3, kd_4, kd_5, kd_6, kd_7, kd_10, kd_11, kd_12, kd_13, kd_14, kd_15, kd_16, kd_19, kd_28, kd_29, kd_30, kd_31, kd_32, kd_33, kd_34, kd_35, kd_36, kd_37, kd_38, kd_39, kd_40, kd_41, kd_42, kd_43, kd_44, kd_45, ln_2, ln_3, ln_4, ln_5, ln_6, ln_7, ln_11, ln_12, ln_13, ln_14, ln_15, ln_16, ln_29, ln_30, ln_32, ln_33, ln_34, ln_35, ln_36, ln_37, ln_38, ln_40, ln_41, ln_42, ln_43, ln_45, Option.toList_some, Option.toList_none, List.cons_append, List.nil_append, true_and, and_true, if_true, if_false, true_or, or_true, Nat.reduceAdd, Int.reduceAdd, Bool.false_eq_true, tn_0, tn_1, tn_2, tn_3, tn_4, tn_5, tn_6, tn_7]
          refine ⟨fun h => absurd h (by decide), fun _ => ?_⟩
          refine J_blk a_X5_freeFor_122 ?_
          simp only [b_X5_freeFor_122, w_iload6, w_istore5, nl_5n, nl_5i, nl_5a, w_nil, kd_0, kd_1, kd_2, kd_3, kd_4, kd_5, kd_6, kd_7, kd_10, kd_11, kd_12, kd_13, kd_14, kd_15, kd_16, kd_19, kd_28, kd_29, kd_30, kd_31, kd_32, kd_33, kd_34, kd_35, kd_36, kd_37, kd_38, kd_39, kd_40, kd_41, kd_42, kd_43, kd_44, kd_45, ln_2, ln_3, ln_4, ln_5, ln_6, ln_7, ln_11, ln_12, ln_13, ln_14, ln_15, ln_16, ln_29, ln_30, ln_32, ln_33, ln_34, ln_35, ln_36, ln_37, ln_38, ln_40, ln_41, ln_42, ln_43, ln_45, Option.toList_some, Option.toList_none, List.cons_append, List.nil_append, true_and, and_true, if_true, if_false, true_or, or_true, Nat.reduceAdd, Int.reduceAdd, Bool.false_eq_true, tn_0, tn_1, tn_2, tn_3, tn_4, tn_5, tn_6, tn_7, nI_1]
          refine J_blk a_X5_freeFor_126 ?_
          simp only [b_X5_freeFor_126, w_iinc6, nl_6n, nl_6i, nl_6a, ci_1, w_goto, kd_0, kd_1, kd_2, kd_3, kd_4, kd_5, kd_6, kd_7, kd_10, kd_11, kd_12, kd_13, kd_14, kd_15, kd_16, kd_19, kd_28, kd_29, kd_30, kd_31, kd_32, kd_33, kd_34, kd_35, kd_36, kd_37, kd_38, kd_39, kd_40, kd_41, kd_42, kd_43, kd_44, kd_45, ln_2, ln_3, ln_4, ln_5, ln_6, ln_7, ln_11, ln_12, ln_13, ln_14, ln_15, ln_16, ln_29, ln_30, ln_32, ln_33, ln_34, ln_35, ln_36, ln_37, ln_38, ln_40, ln_41, ln_42, ln_43, ln_45, Option.toList_some, Option.toList_none, List.cons_append, List.nil_append, true_and, and_true, if_true, if_false, true_or, or_true, Nat.reduceAdd, Int.reduceAdd, Bool.false_eq_true, tn_0, tn_1, tn_2, tn_3, tn_4, tn_5, tn_6, tn_7, nI_1]
          exact ih M2 _ k1 (g2.trans k2)
        · rw [(Bool.not_eq_true _).mp hbb]
          refine J_blk a_X5_freeFor_119 ?_
          simp only [b_X5_freeFor_119, w_if_eq, w_nil, kd_0, kd_1, kd_2, kd_3, kd_4, kd_5, kd_6, kd_7, kd_10, kd_11, kd_12, kd_13, kd_14, kd_15, kd_16, kd_19, kd_28, kd_29, kd_30, kd_31, kd_32, kd_33, kd_34, kd_35, kd_36, kd_37, kd_38, kd_39, kd_40, kd_41, kd_42, kd_43, kd_44, kd_45, ln_2, ln_3, ln_4, ln_5, ln_6, ln_7, ln_11, ln_12, ln_13, ln_14, ln_15, ln_16, ln_29, ln_30, ln_32, ln_33, ln_34, ln_35, ln_36, ln_37, ln_38, ln_40, ln_41, ln_42, ln_43, ln_45, Option.toList_some, Option.toList_none, List.cons_append, List.nil_append, true_and, and_true, if_true, if_false, true_or, or_true, Nat.reduceAdd, Int.reduceAdd, Bool.false_eq_true, tn_0, tn_1, tn_2, tn_3, tn_4, tn_5, tn_6, tn_7]
          exact ⟨fun _ => old M2 _ k1 (g2.trans k2) (fun h => hbb h.2.2), fun h => absurd rfl h⟩
      have off : ¬ ((∀ b, q = some b → pcN k < pcN b) ∧ nI k &&& ((bsF (sd s) n &&& ((1 : Int32) <<< (nI o &&& 31) ^^^ -1)) ^^^ -1) = 0 ∧ frB s n o v (nI k) = true) → J 5 mX5_freeFor 103 [some (.ref 0), some (.int (nI o)), some (.int v), some (.int (bsF (sd s) n)), some (.int (bsF (sd s) n &&& ((1 : Int32) <<< (nI o &&& 31) ^^^ -1))), some (.int (oI q)), some (.int (nI k)), z] [] M1 (Rq (some (.int (oI (ffS s n o v (2 ^ n))))) (fun M' => RX M' 1 s n ∧ FC M M')) := by
        intro hc
        refine J_blk a_X5_freeFor_103 ?_
        simp only [b_X5_freeFor_103, w_iconst_0, w_nil, kd_0, kd_1, kd_2, kd_3, kd_4, kd_5, kd_6, kd_7, kd_10, kd_11, kd_12, kd_13, kd_14, kd_15, kd_16, kd_19, kd_28, kd_29, kd_30, kd_31, kd_32, kd_33, kd_34, kd_35, kd_36, kd_37, kd_38, kd_39, kd_40, kd_41, kd_42, kd_43, kd_44, kd_45, ln_2, ln_3, ln_4, ln_5, ln_6, ln_7, ln_11, ln_12, ln_13, ln_14, ln_15, ln_16, ln_29, ln_30, ln_32, ln_33, ln_34, ln_35, ln_36, ln_37, ln_38, ln_40, ln_41, ln_42, ln_43, ln_45, Option.toList_some, Option.toList_none, List.cons_append, List.nil_append, true_and, and_true, if_true, if_false, true_or, or_true, Nat.reduceAdd, Int.reduceAdd, Bool.false_eq_true, tn_0, tn_1, tn_2, tn_3, tn_4, tn_5, tn_6, tn_7]
        refine J_blk a_X5_freeFor_104 ?_
        simp only [b_X5_freeFor_104, w_istore7, nl_7n, nl_7i, nl_7a, w_iload7, w_if_eq, w_nil, kd_0, kd_1, kd_2, kd_3, kd_4, kd_5, kd_6, kd_7, kd_10, kd_11, kd_12, kd_13, kd_14, kd_15, kd_16, kd_19, kd_28, kd_29, kd_30, kd_31, kd_32, kd_33, kd_34, kd_35, kd_36, kd_37, kd_38, kd_39, kd_40, kd_41, kd_42, kd_43, kd_44, kd_45, ln_2, ln_3, ln_4, ln_5, ln_6, ln_7, ln_11, ln_12, ln_13, ln_14, ln_15, ln_16, ln_29, ln_30, ln_32, ln_33, ln_34, ln_35, ln_36, ln_37, ln_38, ln_40, ln_41, ln_42, ln_43, ln_45, Option.toList_some, Option.toList_none, List.cons_append, List.nil_append, true_and, and_true, if_true, if_false, true_or, or_true, Nat.reduceAdd, Int.reduceAdd, Bool.false_eq_true, tn_0, tn_1, tn_2, tn_3, tn_4, tn_5, tn_6, tn_7]
        exact ⟨fun _ => old M1 _ g1 g2 hc, fun h => absurd trivial h⟩
      refine J_blk a_X5_freeFor_58 ?_
      simp only [b_X5_freeFor_58, w_iload6, w_iconst_1, w_aload_n0, w_getf5, ne0_1, w_getf4, w_ishl, w_icmp_ge, w_nil, kd_0, kd_1, kd_2, kd_3, kd_4, kd_5, kd_6, kd_7, kd_10, kd_11, kd_12, kd_13, kd_14, kd_15, kd_16, kd_19, kd_28, kd_29, kd_30, kd_31, kd_32, kd_33, kd_34, kd_35, kd_36, kd_37, kd_38, kd_39, kd_40, kd_41, kd_42, kd_43, kd_44, kd_45, ln_2, ln_3, ln_4, ln_5, ln_6, ln_7, ln_11, ln_12, ln_13, ln_14, ln_15, ln_16, ln_29, ln_30, ln_32, ln_33, ln_34, ln_35, ln_36, ln_37, ln_38, ln_40, ln_41, ln_42, ln_43, ln_45, Option.toList_some, Option.toList_none, List.cons_append, List.nil_append, true_and, and_true, if_true, if_false, true_or, or_true, Nat.reduceAdd, Int.reduceAdd, Bool.false_eq_true, tn_0, tn_1, tn_2, tn_3, tn_4, tn_5, tn_6, tn_7, x7, hsh]
      refine ⟨fun h => absurd h (nI_ge hk (by omega)), fun _ => ?_⟩
      refine J_blk a_X5_freeFor_72 ?_
      simp only [b_X5_freeFor_72, w_iload6, w_iload4, w_nil, kd_0, kd_1, kd_2, kd_3, kd_4, kd_5, kd_6, kd_7, kd_10, kd_11, kd_12, kd_13, kd_14, kd_15, kd_16, kd_19, kd_28, kd_29, kd_30, kd_31, kd_32, kd_33, kd_34, kd_35, kd_36, kd_37, kd_38, kd_39, kd_40, kd_41, kd_42, kd_43, kd_44, kd_45, ln_2, ln_3, ln_4, ln_5, ln_6, ln_7, ln_11, ln_12, ln_13, ln_14, ln_15, ln_16, ln_29, ln_30, ln_32, ln_33, ln_34, ln_35, ln_36, ln_37, ln_38, ln_40, ln_41, ln_42, ln_43, ln_45, Option.toList_some, Option.toList_none, List.cons_append, List.nil_append, true_and, and_true, if_true, if_false, true_or, or_true, Nat.reduceAdd, Int.reduceAdd, Bool.false_eq_true, tn_0, tn_1, tn_2, tn_3, tn_4, tn_5, tn_6, tn_7]
      refine J_callSr (isSubset_c _ _ _) k_X5_freeFor_76 o_X5_isSubset rfl (by decide) rfl (Nat.le_of_ble_eq_true rfl) ?_
      by_cases c : nI k &&& ((bsF (sd s) n &&& ((1 : Int32) <<< (nI o &&& 31) ^^^ -1)) ^^^ -1) = 0
      · rw [if_pos c]
        refine J_blk a_X5_freeFor_79 ?_
        simp only [b_X5_freeFor_79, w_if_eq, w_nil, kd_0, kd_1, kd_2, kd_3, kd_4, kd_5, kd_6, kd_7, kd_10, kd_11, kd_12, kd_13, kd_14, kd_15, kd_16, kd_19, kd_28, kd_29, kd_30, kd_31, kd_32, kd_33, kd_34, kd_35, kd_36, kd_37, kd_38, kd_39, kd_40, kd_41, kd_42, kd_43, kd_44, kd_45, ln_2, ln_3, ln_4, ln_5, ln_6, ln_7, ln_11, ln_12, ln_13, ln_14, ln_15, ln_16, ln_29, ln_30, ln_32, ln_33, ln_34, ln_35, ln_36, ln_37, ln_38, ln_40, ln_41, ln_42, ln_43, ln_45, Option.toList_some, Option.toList_none, List.cons_append, List.nil_append, true_and, and_true, if_true, if_false, true_or, or_true, Nat.reduceAdd, Int.reduceAdd, Bool.false_eq_true, tn_0, tn_1, tn_2, tn_3, tn_4, tn_5, tn_6, tn_7]
        refine ⟨fun h => absurd h (by decide), fun _ => ?_⟩
        refine J_blk a_X5_freeFor_82 ?_
        simp only [b_X5_freeFor_82, w_iload5, w_bipush, ci_m3, w_icmp_eq, w_nil, kd_0, kd_1, kd_2, kd_3, kd_4, kd_5, kd_6, kd_7, kd_10, kd_11, kd_12, kd_13, kd_14, kd_15, kd_16, kd_19, kd_28, kd_29, kd_30, kd_31, kd_32, kd_33, kd_34, kd_35, kd_36, kd_37, kd_38, kd_39, kd_40, kd_41, kd_42, kd_43, kd_44, kd_45, ln_2, ln_3, ln_4, ln_5, ln_6, ln_7, ln_11, ln_12, ln_13, ln_14, ln_15, ln_16, ln_29, ln_30, ln_32, ln_33, ln_34, ln_35, ln_36, ln_37, ln_38, ln_40, ln_41, ln_42, ln_43, ln_45, Option.toList_some, Option.toList_none, List.cons_append, List.nil_append, true_and, and_true, if_true, if_false, true_or, or_true, Nat.reduceAdd, Int.reduceAdd, Bool.false_eq_true, tn_0, tn_1, tn_2, tn_3, tn_4, tn_5, tn_6, tn_7]
        cases q with
        | none =>
          exact ⟨fun _ => on c (fun b hbq => by simp at hbq), fun h => absurd (show oI none = -3 from rfl) h⟩
        | some b =>
          have hb2 := hlt b rfl
          have ne3 : ¬ oI (some b) = -3 := fun e => absurd (show (0 : Int32) ≤ -3 by rw [← e]; exact nI_pos' (by omega)) (by decide)
          refine ⟨fun h => absurd h ne3, fun _ => ?_⟩
          rw [show oI (some b) = nI b from rfl] at *
          refine J_blk a_X5_freeFor_89 ?_
          simp only [b_X5_freeFor_89, w_iload6, w_iload5, w_nil, kd_0, kd_1, kd_2, kd_3, kd_4, kd_5, kd_6, kd_7, kd_10, kd_11, kd_12, kd_13, kd_14, kd_15, kd_16, kd_19, kd_28, kd_29, kd_30, kd_31, kd_32, kd_33, kd_34, kd_35, kd_36, kd_37, kd_38, kd_39, kd_40, kd_41, kd_42, kd_43, kd_44, kd_45, ln_2, ln_3, ln_4, ln_5, ln_6, ln_7, ln_11, ln_12, ln_13, ln_14, ln_15, ln_16, ln_29, ln_30, ln_32, ln_33, ln_34, ln_35, ln_36, ln_37, ln_38, ln_40, ln_41, ln_42, ln_43, ln_45, Option.toList_some, Option.toList_none, List.cons_append, List.nil_append, true_and, and_true, if_true, if_false, true_or, or_true, Nat.reduceAdd, Int.reduceAdd, Bool.false_eq_true, tn_0, tn_1, tn_2, tn_3, tn_4, tn_5, tn_6, tn_7]
          refine J_callSr (isFewer_c k b _ (by omega) hb2) k_X5_freeFor_93 o_X5_isFewer rfl (by decide) rfl (Nat.le_of_ble_eq_true rfl) ?_
          by_cases hf : pcN k < pcN b
          · rw [if_pos hf]
            refine J_blk a_X5_freeFor_96 ?_
            simp only [b_X5_freeFor_96, w_if_eq, w_nil, kd_0, kd_1, kd_2, kd_3, kd_4, kd_5, kd_6, kd_7, kd_10, kd_11, kd_12, kd_13, kd_14, kd_15, kd_16, kd_19, kd_28, kd_29, kd_30, kd_31, kd_32, kd_33, kd_34, kd_35, kd_36, kd_37, kd_38, kd_39, kd_40, kd_41, kd_42, kd_43, kd_44, kd_45, ln_2, ln_3, ln_4, ln_5, ln_6, ln_7, ln_11, ln_12, ln_13, ln_14, ln_15, ln_16, ln_29, ln_30, ln_32, ln_33, ln_34, ln_35, ln_36, ln_37, ln_38, ln_40, ln_41, ln_42, ln_43, ln_45, Option.toList_some, Option.toList_none, List.cons_append, List.nil_append, true_and, and_true, if_true, if_false, true_or, or_true, Nat.reduceAdd, Int.reduceAdd, Bool.false_eq_true, tn_0, tn_1, tn_2, tn_3, tn_4, tn_5, tn_6, tn_7]
            exact ⟨fun h => absurd h (by decide), fun _ => on c (fun b' hb' => by cases hb'; exact hf)⟩
          · rw [if_neg hf]
            refine J_blk a_X5_freeFor_96 ?_
            simp only [b_X5_freeFor_96, w_if_eq, w_nil, kd_0, kd_1, kd_2, kd_3, kd_4, kd_5, kd_6, kd_7, kd_10, kd_11, kd_12, kd_13, kd_14, kd_15, kd_16, kd_19, kd_28, kd_29, kd_30, kd_31, kd_32, kd_33, kd_34, kd_35, kd_36, kd_37, kd_38, kd_39, kd_40, kd_41, kd_42, kd_43, kd_44, kd_45, ln_2, ln_3, ln_4, ln_5, ln_6, ln_7, ln_11, ln_12, ln_13, ln_14, ln_15, ln_16, ln_29, ln_30, ln_32, ln_33, ln_34, ln_35, ln_36, ln_37, ln_38, ln_40, ln_41, ln_42, ln_43, ln_45, Option.toList_some, Option.toList_none, List.cons_append, List.nil_append, true_and, and_true, if_true, if_false, true_or, or_true, Nat.reduceAdd, Int.reduceAdd, Bool.false_eq_true, tn_0, tn_1, tn_2, tn_3, tn_4, tn_5, tn_6, tn_7]
            exact ⟨fun _ => off (fun h => hf (h.1 b rfl)), fun h => absurd trivial h⟩
      · rw [if_neg c]
        refine J_blk a_X5_freeFor_79 ?_
        simp only [b_X5_freeFor_79, w_if_eq, w_nil, kd_0, kd_1, kd_2, kd_3, kd_4, kd_5, kd_6, kd_7, kd_10, kd_11, kd_12, kd_13, kd_14, kd_15, kd_16, kd_19, kd_28, kd_29, kd_30, kd_31, kd_32, kd_33, kd_34, kd_35, kd_36, kd_37, kd_38, kd_39, kd_40, kd_41, kd_42, kd_43, kd_44, kd_45, ln_2, ln_3, ln_4, ln_5, ln_6, ln_7, ln_11, ln_12, ln_13, ln_14, ln_15, ln_16, ln_29, ln_30, ln_32, ln_33, ln_34, ln_35, ln_36, ln_37, ln_38, ln_40, ln_41, ln_42, ln_43, ln_45, Option.toList_some, Option.toList_none, List.cons_append, List.nil_append, true_and, and_true, if_true, if_false, true_or, or_true, Nat.reduceAdd, Int.reduceAdd, Bool.false_eq_true, tn_0, tn_1, tn_2, tn_3, tn_4, tn_5, tn_6, tn_7]
        exact ⟨fun _ => off (fun h => c h.2.1), fun h => absurd trivial h⟩
  have go : J 5 mX5_freeFor 23 [some (.ref 0), some (.int (nI o)), some (.int v), none, none, none, none, none] [] M (Rq (some (.int (oI (ffS s n o v (2 ^ n))))) (fun M' => RX M' 1 s n ∧ FC M M')) := by
    refine J_blk a_X5_freeFor_23 ?_
    simp only [b_X5_freeFor_23, w_aload_n0, w_getf5, ne0_1, w_nil, kd_0, kd_1, kd_2, kd_3, kd_4, kd_5, kd_6, kd_7, kd_10, kd_11, kd_12, kd_13, kd_14, kd_15, kd_16, kd_19, kd_28, kd_29, kd_30, kd_31, kd_32, kd_33, kd_34, kd_35, kd_36, kd_37, kd_38, kd_39, kd_40, kd_41, kd_42, kd_43, kd_44, kd_45, ln_2, ln_3, ln_4, ln_5, ln_6, ln_7, ln_11, ln_12, ln_13, ln_14, ln_15, ln_16, ln_29, ln_30, ln_32, ln_33, ln_34, ln_35, ln_36, ln_37, ln_38, ln_40, ln_41, ln_42, ln_43, ln_45, Option.toList_some, Option.toList_none, List.cons_append, List.nil_append, true_and, and_true, if_true, if_false, true_or, or_true, Nat.reduceAdd, Int.reduceAdd, Bool.false_eq_true, tn_0, tn_1, tn_2, tn_3, tn_4, tn_5, tn_6, tn_7]
    refine J_callVr (ci := 4) (survey_c hw hx (Or.inl rfl)) k_X5_freeFor_27 o_X4_survey (rfl) rfl rfl rfl (by decide) rfl (Nat.le_of_ble_eq_true rfl) ?_
    generalize hM1 : smN M 1 (hsR s (M.1 (1 + 7)) n) (ldR s (M.1 (1 + 8)) n) (bsF (sd s) n) = M1
    have g1 : RX M1 1 s n := by rw [← hM1]; exact sm_RX hx
    have g2 : FC M M1 := by rw [← hM1]; exact sm_FB.c1
    refine J_blk a_X5_freeFor_30 ?_
    simp only [b_X5_freeFor_30, w_istore3, nl_3n, nl_3i, nl_3a, w_iload_n3, w_iload_n1, w_nil, kd_0, kd_1, kd_2, kd_3, kd_4, kd_5, kd_6, kd_7, kd_10, kd_11, kd_12, kd_13, kd_14, kd_15, kd_16, kd_19, kd_28, kd_29, kd_30, kd_31, kd_32, kd_33, kd_34, kd_35, kd_36, kd_37, kd_38, kd_39, kd_40, kd_41, kd_42, kd_43, kd_44, kd_45, ln_2, ln_3, ln_4, ln_5, ln_6, ln_7, ln_11, ln_12, ln_13, ln_14, ln_15, ln_16, ln_29, ln_30, ln_32, ln_33, ln_34, ln_35, ln_36, ln_37, ln_38, ln_40, ln_41, ln_42, ln_43, ln_45, Option.toList_some, Option.toList_none, List.cons_append, List.nil_append, true_and, and_true, if_true, if_false, true_or, or_true, Nat.reduceAdd, Int.reduceAdd, Bool.false_eq_true, tn_0, tn_1, tn_2, tn_3, tn_4, tn_5, tn_6, tn_7]
    refine J_callSr (bit_c _ (by omega) _) k_X5_freeFor_33 o_X5_bit rfl (by decide) rfl (Nat.le_of_ble_eq_true rfl) ?_
    rw [hb]
    cases hs : sd s o
    · have nf : ∀ k, frB s n o v (nI k) = false := by
        intro k
        unfold frB
        cases hh : sd (ctR s (nI k) n) o
        · rfl
        · have := sdF_ct hw (nI k) 8 o hj hh
          exact absurd this (by rw [show sdF s 8 o = sd s o from rfl, hs]; decide)
      have fn : ∀ k, ffS s n o v k = none := by
        intro k
        induction k with
        | zero => rfl
        | succ k ih => rw [ffS, if_neg (by rw [nf k]; simp), ih]
      rw [fn]
      refine J_blk a_X5_freeFor_36 ?_
      simp only [b_X5_freeFor_36, w_if_ne, w_nil, kd_0, kd_1, kd_2, kd_3, kd_4, kd_5, kd_6, kd_7, kd_10, kd_11, kd_12, kd_13, kd_14, kd_15, kd_16, kd_19, kd_28, kd_29, kd_30, kd_31, kd_32, kd_33, kd_34, kd_35, kd_36, kd_37, kd_38, kd_39, kd_40, kd_41, kd_42, kd_43, kd_44, kd_45, ln_2, ln_3, ln_4, ln_5, ln_6, ln_7, ln_11, ln_12, ln_13, ln_14, ln_15, ln_16, ln_29, ln_30, ln_32, ln_33, ln_34, ln_35, ln_36, ln_37, ln_38, ln_40, ln_41, ln_42, ln_43, ln_45, Option.toList_some, Option.toList_none, List.cons_append, List.nil_append, true_and, and_true, if_true, if_false, true_or, or_true, Nat.reduceAdd, Int.reduceAdd, Bool.false_eq_true, tn_0, tn_1, tn_2, tn_3, tn_4, tn_5, tn_6, tn_7]
      refine ⟨fun h => absurd rfl h, fun _ => ?_⟩
      refine J_blk a_X5_freeFor_39 ?_
      simp only [b_X5_freeFor_39, w_bipush, ci_m3, w_ireti, kd_0, kd_1, kd_2, kd_3, kd_4, kd_5, kd_6, kd_7, kd_10, kd_11, kd_12, kd_13, kd_14, kd_15, kd_16, kd_19, kd_28, kd_29, kd_30, kd_31, kd_32, kd_33, kd_34, kd_35, kd_36, kd_37, kd_38, kd_39, kd_40, kd_41, kd_42, kd_43, kd_44, kd_45, ln_2, ln_3, ln_4, ln_5, ln_6, ln_7, ln_11, ln_12, ln_13, ln_14, ln_15, ln_16, ln_29, ln_30, ln_32, ln_33, ln_34, ln_35, ln_36, ln_37, ln_38, ln_40, ln_41, ln_42, ln_43, ln_45, Option.toList_some, Option.toList_none, List.cons_append, List.nil_append, true_and, and_true, if_true, if_false, true_or, or_true, Nat.reduceAdd, Int.reduceAdd, Bool.false_eq_true, tn_0, tn_1, tn_2, tn_3, tn_4, tn_5, tn_6, tn_7]
      exact ⟨rfl, g1, g2⟩
    · refine J_blk a_X5_freeFor_36 ?_
      simp only [b_X5_freeFor_36, w_if_ne, w_nil, kd_0, kd_1, kd_2, kd_3, kd_4, kd_5, kd_6, kd_7, kd_10, kd_11, kd_12, kd_13, kd_14, kd_15, kd_16, kd_19, kd_28, kd_29, kd_30, kd_31, kd_32, kd_33, kd_34, kd_35, kd_36, kd_37, kd_38, kd_39, kd_40, kd_41, kd_42, kd_43, kd_44, kd_45, ln_2, ln_3, ln_4, ln_5, ln_6, ln_7, ln_11, ln_12, ln_13, ln_14, ln_15, ln_16, ln_29, ln_30, ln_32, ln_33, ln_34, ln_35, ln_36, ln_37, ln_38, ln_40, ln_41, ln_42, ln_43, ln_45, Option.toList_some, Option.toList_none, List.cons_append, List.nil_append, true_and, and_true, if_true, if_false, true_or, or_true, Nat.reduceAdd, Int.reduceAdd, Bool.false_eq_true, tn_0, tn_1, tn_2, tn_3, tn_4, tn_5, tn_6, tn_7]
      refine ⟨fun _ => ?_, fun h => absurd h (by decide)⟩
      refine J_blk a_X5_freeFor_42 ?_
      simp only [b_X5_freeFor_42, w_iload_n3, w_iconst_1, w_iload_n1, w_ishl, w_iconst_m1, w_ixor, w_iand, w_istore4, nl_4n, nl_4i, nl_4a, w_bipush, ci_m3, w_istore5, nl_5n, nl_5i, nl_5a, w_iconst_0, w_istore6, nl_6n, nl_6i, nl_6a, w_nil, kd_0, kd_1, kd_2, kd_3, kd_4, kd_5, kd_6, kd_7, kd_10, kd_11, kd_12, kd_13, kd_14, kd_15, kd_16, kd_19, kd_28, kd_29, kd_30, kd_31, kd_32, kd_33, kd_34, kd_35, kd_36, kd_37, kd_38, kd_39, kd_40, kd_41, kd_42, kd_43, kd_44, kd_45, ln_2, ln_3, ln_4, ln_5, ln_6, ln_7, ln_11, ln_12, ln_13, ln_14, ln_15, ln_16, ln_29, ln_30, ln_32, ln_33, ln_34, ln_35, ln_36, ln_37, ln_38, ln_40, ln_41, ln_42, ln_43, ln_45, Option.toList_some, Option.toList_none, List.cons_append, List.nil_append, true_and, and_true, if_true, if_false, true_or, or_true, Nat.reduceAdd, Int.reduceAdd, Bool.false_eq_true, tn_0, tn_1, tn_2, tn_3, tn_4, tn_5, tn_6, tn_7]
      exact loop 0 (Nat.zero_le _) M1 _ g1 g2
  refine K_go 2 o_X5_freeFor [none, none, none, none, none] rfl (Nat.le_of_ble_eq_true rfl) ?_
  simp only [lvA_i, lvA_a, lvA_l, lvA_nil, List.cons_append, List.nil_append]
  refine J_blk a_X5_freeFor_0 ?_
  simp only [b_X5_freeFor_0, w_aload_n0, w_getf5, ne0_1, w_iload_n1, w_nil, kd_0, kd_1, kd_2, kd_3, kd_4, kd_5, kd_6, kd_7, kd_10, kd_11, kd_12, kd_13, kd_14, kd_15, kd_16, kd_19, kd_28, kd_29, kd_30, kd_31, kd_32, kd_33, kd_34, kd_35, kd_36, kd_37, kd_38, kd_39, kd_40, kd_41, kd_42, kd_43, kd_44, kd_45, ln_2, ln_3, ln_4, ln_5, ln_6, ln_7, ln_11, ln_12, ln_13, ln_14, ln_15, ln_16, ln_29, ln_30, ln_32, ln_33, ln_34, ln_35, ln_36, ln_37, ln_38, ln_40, ln_41, ln_42, ln_43, ln_45, Option.toList_some, Option.toList_none, List.cons_append, List.nil_append, true_and, and_true, if_true, if_false, true_or, or_true, Nat.reduceAdd, Int.reduceAdd, Bool.false_eq_true, tn_0, tn_1, tn_2, tn_3, tn_4, tn_5, tn_6, tn_7]
  refine J_callVr (ci := 4) (has2 hw hx (Or.inl rfl) _) k_X5_freeFor_5 o_X4_has (rfl) rfl rfl rfl (by decide) rfl (Nat.le_of_ble_eq_true rfl) ?_
  rw [if_pos ho]
  refine J_blk a_X5_freeFor_8 ?_
  simp only [b_X5_freeFor_8, w_if_eq, w_nil, kd_0, kd_1, kd_2, kd_3, kd_4, kd_5, kd_6, kd_7, kd_10, kd_11, kd_12, kd_13, kd_14, kd_15, kd_16, kd_19, kd_28, kd_29, kd_30, kd_31, kd_32, kd_33, kd_34, kd_35, kd_36, kd_37, kd_38, kd_39, kd_40, kd_41, kd_42, kd_43, kd_44, kd_45, ln_2, ln_3, ln_4, ln_5, ln_6, ln_7, ln_11, ln_12, ln_13, ln_14, ln_15, ln_16, ln_29, ln_30, ln_32, ln_33, ln_34, ln_35, ln_36, ln_37, ln_38, ln_40, ln_41, ln_42, ln_43, ln_45, Option.toList_some, Option.toList_none, List.cons_append, List.nil_append, true_and, and_true, if_true, if_false, true_or, or_true, Nat.reduceAdd, Int.reduceAdd, Bool.false_eq_true, tn_0, tn_1, tn_2, tn_3, tn_4, tn_5, tn_6, tn_7]
  refine ⟨fun c14 => ?_, fun c14 => ?_⟩
  · first
      | exact absurd c14 (by decide)
      | (refine J_blk a_X5_freeFor_21 ?_
         simp only [b_X5_freeFor_21, w_iconst_m1, w_ireti, kd_0, kd_1, kd_2, kd_3, kd_4, kd_5, kd_6, kd_7, kd_10, kd_11, kd_12, kd_13, kd_14, kd_15, kd_16, kd_19, kd_28, kd_29, kd_30, kd_31, kd_32, kd_33, kd_34, kd_35, kd_36, kd_37, kd_38, kd_39, kd_40, kd_41, kd_42, kd_43, kd_44, kd_45, ln_2, ln_3, ln_4, ln_5, ln_6, ln_7, ln_11, ln_12, ln_13, ln_14, ln_15, ln_16, ln_29, ln_30, ln_32, ln_33, ln_34, ln_35, ln_36, ln_37, ln_38, ln_40, ln_41, ln_42, ln_43, ln_45, Option.toList_some, Option.toList_none, List.cons_append, List.nil_append, true_and, and_true, if_true, if_false, true_or, or_true, Nat.reduceAdd, Int.reduceAdd, Bool.false_eq_true, tn_0, tn_1, tn_2, tn_3, tn_4, tn_5, tn_6, tn_7]
         first | exact ⟨rfl, rfl⟩ | (simp_all [Rt]))
  · first
      | exact absurd c14 (by decide)
      | (refine J_blk a_X5_freeFor_11 ?_
         simp only [b_X5_freeFor_11, w_iload_n2, w_iconst_0, w_bipush, ci_99, w_nil, kd_0, kd_1, kd_2, kd_3, kd_4, kd_5, kd_6, kd_7, kd_10, kd_11, kd_12, kd_13, kd_14, kd_15, kd_16, kd_19, kd_28, kd_29, kd_30, kd_31, kd_32, kd_33, kd_34, kd_35, kd_36, kd_37, kd_38, kd_39, kd_40, kd_41, kd_42, kd_43, kd_44, kd_45, ln_2, ln_3, ln_4, ln_5, ln_6, ln_7, ln_11, ln_12, ln_13, ln_14, ln_15, ln_16, ln_29, ln_30, ln_32, ln_33, ln_34, ln_35, ln_36, ln_37, ln_38, ln_40, ln_41, ln_42, ln_43, ln_45, Option.toList_some, Option.toList_none, List.cons_append, List.nil_append, true_and, and_true, if_true, if_false, true_or, or_true, Nat.reduceAdd, Int.reduceAdd, Bool.false_eq_true, tn_0, tn_1, tn_2, tn_3, tn_4, tn_5, tn_6, tn_7]
         refine J_callSr (within_c _ _ _ _) k_X5_freeFor_15 o_X5_within rfl (by decide) rfl (Nat.le_of_ble_eq_true rfl) ?_
         rw [if_pos (by first | exact h1 | exact h2 | exact h3 | exact h4)]
         refine J_blk a_X5_freeFor_18 ?_
         simp only [b_X5_freeFor_18, w_if_ne, w_nil, kd_0, kd_1, kd_2, kd_3, kd_4, kd_5, kd_6, kd_7, kd_10, kd_11, kd_12, kd_13, kd_14, kd_15, kd_16, kd_19, kd_28, kd_29, kd_30, kd_31, kd_32, kd_33, kd_34, kd_35, kd_36, kd_37, kd_38, kd_39, kd_40, kd_41, kd_42, kd_43, kd_44, kd_45, ln_2, ln_3, ln_4, ln_5, ln_6, ln_7, ln_11, ln_12, ln_13, ln_14, ln_15, ln_16, ln_29, ln_30, ln_32, ln_33, ln_34, ln_35, ln_36, ln_37, ln_38, ln_40, ln_41, ln_42, ln_43, ln_45, Option.toList_some, Option.toList_none, List.cons_append, List.nil_append, true_and, and_true, if_true, if_false, true_or, or_true, Nat.reduceAdd, Int.reduceAdd, Bool.false_eq_true, tn_0, tn_1, tn_2, tn_3, tn_4, tn_5, tn_6, tn_7]
         refine ⟨fun c15 => ?_, fun c15 => ?_⟩
         · first
             | exact absurd c15 (by decide)
             | (exact go)
         · first
             | exact absurd c15 (by decide)
             | (refine J_blk a_X5_freeFor_21 ?_
                simp only [b_X5_freeFor_21, w_iconst_m1, w_ireti, kd_0, kd_1, kd_2, kd_3, kd_4, kd_5, kd_6, kd_7, kd_10, kd_11, kd_12, kd_13, kd_14, kd_15, kd_16, kd_19, kd_28, kd_29, kd_30, kd_31, kd_32, kd_33, kd_34, kd_35, kd_36, kd_37, kd_38, kd_39, kd_40, kd_41, kd_42, kd_43, kd_44, kd_45, ln_2, ln_3, ln_4, ln_5, ln_6, ln_7, ln_11, ln_12, ln_13, ln_14, ln_15, ln_16, ln_29, ln_30, ln_32, ln_33, ln_34, ln_35, ln_36, ln_37, ln_38, ln_40, ln_41, ln_42, ln_43, ln_45, Option.toList_some, Option.toList_none, List.cons_append, List.nil_append, true_and, and_true, if_true, if_false, true_or, or_true, Nat.reduceAdd, Int.reduceAdd, Bool.false_eq_true, tn_0, tn_1, tn_2, tn_3, tn_4, tn_5, tn_6, tn_7]
                first | exact ⟨rfl, rfl⟩ | (simp_all [Rt])))
end TR2

