/-! the model: told, rows, odds -/
theorem lgq (x y : Int64) : (lg_cmp x y = 0) = (x = y) := by
  apply propext
  constructor
  · intro h
    by_cases h1 : x < y
    · exact absurd ((lg_cmp_lt _ _).mpr h1) (by rw [h]; decide)
    · by_cases h2 : y < x
      · exact absurd ((lg_cmp_gt _ _).mpr h2) (by rw [h]; decide)
      · exact Int64.le_antisymm (Int64.not_lt.mp h2) (Int64.not_lt.mp h1)
  · intro h
    subst h
    unfold lg_cmp
    simp
/-- a sheet that is told, from the k-th on -/
def toF (s : Nat → Int32) (n : Nat) (nb : Nat → Int32) : Nat → Nat → Bool
  | 0, _ => true
  | f + 1, k => if nb k = -1 ∨ nb k = hvS s n (k + 1) then toF s n nb f (k + 1) else false
theorem am1 (x : Int32) : x + (-1) = x - 1 := (Int32.sub_eq_add_neg x 1).symm
theorem bI01 (b : Bool) : bI b = 0 ∨ bI b = 1 := by cases b <;> simp [bI]
theorem isTold_ok (n t z : Nat) (M : Mm) (hw : WF (M.1 47) n) (ht : t < 4) (hz : z ≤ 40) (ez : M.1 54 t = nI z) : K 4 mX6_isTold [.ref 46, .int (nI t)] M (Rt (some (.int (bI (toF (M.1 47) n (fun k => M.1 55 (40 * t + k)) z 0)))) (asd M)) := by
  have h8 := hw.2.1
  have tt : (nI t).toNatClampNeg = t := nI_clamp (by omega)
  have e40 : (40 : Int32) * nI t = nI (40 * t) := pk_mul 40 t
  have n54 : ∀ g r, (Mg M g r).1 54 = M.1 54 := fun g r => Mg_ne M g r (by decide) (by decide)
  have n55 : ∀ g r, (Mg M g r).1 55 = M.1 55 := fun g r => Mg_ne M g r (by decide) (by decide)
  have last : ∀ (r : Nat → Int32) (b b' : Bool) (z3 z4 : Option Value), b = b' → (∀ j, 56 ≤ j → r j = M.1 47 j) → J 4 mX6_isTold 84 [some (.ref 46), some (.int (nI t)), some (.int (bI b)), z3, z4] [] (Mg M (cpN (M.1 47) (M.1 49) 56) r) (Rt (some (.int (bI b'))) (asd M)) := by
    intro r b b' z3 z4 hb hr
    refine J_blk a_X6_isTold_84 ?_
    simp only [b_X6_isTold_84, w_aload_n0, w_getf6, ne0_3, ne0_1, w_nil, kd_46, kd_47, kd_48, kd_49, kd_50, kd_51, kd_52, kd_53, kd_54, kd_55, kd_56, kd_57, kd_58, kd_59, ln_47, ln_48, ln_49, ln_50, ln_51, ln_52, ln_53, ln_54, ln_55, ln_56, ln_57, ln_58, ln_59, Option.toList_some, Option.toList_none, List.cons_append, List.nil_append, true_and, and_true, if_true, if_false, true_or, or_true, Nat.reduceAdd, Int.reduceAdd, Bool.false_eq_true, tn_0, tn_1, tn_2, tn_3, tn_4, tn_5, tn_6, tn_7]
    refine J_callSr (copyRow_ok 49 47 _ rfl rfl rfl rfl (by decide)) k_X6_isTold_92 o_X6_copyRow rfl (by decide) rfl (Nat.le_of_ble_eq_true rfl) ?_
    rw [back_Mg M _ r _ hr, ← asd_Mg]
    refine J_blk a_X6_isTold_95 ?_
    simp only [b_X6_isTold_95, w_iload_n2, w_iretz, kd_46, kd_47, kd_48, kd_49, kd_50, kd_51, kd_52, kd_53, kd_54, kd_55, kd_56, kd_57, kd_58, kd_59, ln_47, ln_48, ln_49, ln_50, ln_51, ln_52, ln_53, ln_54, ln_55, ln_56, ln_57, ln_58, ln_59, Option.toList_some, Option.toList_none, List.cons_append, List.nil_append, true_and, and_true, if_true, if_false, true_or, or_true, Nat.reduceAdd, Int.reduceAdd, Bool.false_eq_true, tn_0, tn_1, tn_2, tn_3, tn_4, tn_5, tn_6, tn_7]
    exact ⟨bI01 b, by rw [hb], rfl⟩
  have loop : ∀ f k, f + k = z → J 4 mX6_isTold 18 [some (.ref 46), some (.int (nI t)), some (.int 1), some (.int (hvS (M.1 47) n k)), some (.int (nI k))] [] (Mg M (cpN (M.1 47) (M.1 49) 56) (yrs (M.1 47) n k)) (Rt (some (.int (bI (toF (M.1 47) n (fun k => M.1 55 (40 * t + k)) f k)))) (asd M)) := by
    intro f
    induction f with
    | zero =>
      intro k hk
      have : k = z := by omega
      subst this
      refine J_blk a_X6_isTold_18 ?_
      simp only [b_X6_isTold_18, w_iload4, w_aload_n0, w_getf6, ne0_8, w_iload_n1, w_iald, w_icmp_ge, w_nil, kd_46, kd_47, kd_48, kd_49, kd_50, kd_51, kd_52, kd_53, kd_54, kd_55, kd_56, kd_57, kd_58, kd_59, ln_47, ln_48, ln_49, ln_50, ln_51, ln_52, ln_53, ln_54, ln_55, ln_56, ln_57, ln_58, ln_59, Option.toList_some, Option.toList_none, List.cons_append, List.nil_append, true_and, and_true, if_true, if_false, true_or, or_true, Nat.reduceAdd, Int.reduceAdd, Bool.false_eq_true, tn_0, tn_1, tn_2, tn_3, tn_4, tn_5, tn_6, tn_7, tt, n54, ez]
      exact ⟨vinN ht (by decide), fun _ => last _ true _ _ _ rfl (fun j hj => yrs_hi _ h8 hj _), fun h => absurd (Int32.le_refl _) h⟩
    | succ f ih =>
      intro k hk
      have tk : (nI (40 * t + k)).toNatClampNeg = 40 * t + k := nI_clamp (by omega)
      refine J_blk a_X6_isTold_18 ?_
      simp only [b_X6_isTold_18, w_iload4, w_aload_n0, w_getf6, ne0_8, w_iload_n1, w_iald, w_icmp_ge, w_nil, kd_46, kd_47, kd_48, kd_49, kd_50, kd_51, kd_52, kd_53, kd_54, kd_55, kd_56, kd_57, kd_58, kd_59, ln_47, ln_48, ln_49, ln_50, ln_51, ln_52, ln_53, ln_54, ln_55, ln_56, ln_57, ln_58, ln_59, Option.toList_some, Option.toList_none, List.cons_append, List.nil_append, true_and, and_true, if_true, if_false, true_or, or_true, Nat.reduceAdd, Int.reduceAdd, Bool.false_eq_true, tn_0, tn_1, tn_2, tn_3, tn_4, tn_5, tn_6, tn_7, tt, n54, ez]
      refine ⟨vinN ht (by decide), fun h => absurd h (nI_ge (by omega) (by omega)), fun _ => ?_⟩
      refine J_blk a_X6_isTold_29 ?_
      simp only [b_X6_isTold_29, w_iload_n2, w_if_eq, w_nil, kd_46, kd_47, kd_48, kd_49, kd_50, kd_51, kd_52, kd_53, kd_54, kd_55, kd_56, kd_57, kd_58, kd_59, ln_47, ln_48, ln_49, ln_50, ln_51, ln_52, ln_53, ln_54, ln_55, ln_56, ln_57, ln_58, ln_59, Option.toList_some, Option.toList_none, List.cons_append, List.nil_append, true_and, and_true, if_true, if_false, true_or, or_true, Nat.reduceAdd, Int.reduceAdd, Bool.false_eq_true, tn_0, tn_1, tn_2, tn_3, tn_4, tn_5, tn_6, tn_7]
      refine ⟨fun h => absurd h (by decide), fun _ => ?_⟩
      refine J_blk a_X6_isTold_33 ?_
      simp only [b_X6_isTold_33, w_iload_n3, w_aload_n0, w_nil, kd_46, kd_47, kd_48, kd_49, kd_50, kd_51, kd_52, kd_53, kd_54, kd_55, kd_56, kd_57, kd_58, kd_59, ln_47, ln_48, ln_49, ln_50, ln_51, ln_52, ln_53, ln_54, ln_55, ln_56, ln_57, ln_58, ln_59, Option.toList_some, Option.toList_none, List.cons_append, List.nil_append, true_and, and_true, if_true, if_false, true_or, or_true, Nat.reduceAdd, Int.reduceAdd, Bool.false_eq_true, tn_0, tn_1, tn_2, tn_3, tn_4, tn_5, tn_6, tn_7]
      refine J_callVr (ci := 6) (goesOn_ok n _ (by rw [Mg47]; exact WF_yrs hw k)) k_X6_isTold_35 o_X6_goesOn rfl rfl rfl rfl (by decide) rfl (Nat.le_of_ble_eq_true rfl) ?_
      rw [Mg47, Mg_su]
      rw [toF]
      rw [show hvS (M.1 47) n (k + 1) = hvS (M.1 47) n k + sumS (yrs (M.1 47) n k) n from rfl]
      have yes := ih (k + 1) (by omega)
      rw [show hvS (M.1 47) n (k + 1) = hvS (M.1 47) n k + sumS (yrs (M.1 47) n k) n from rfl] at yes
      have stop : J 4 mX6_isTold 76 [some (.ref 46), some (.int (nI t)), some (.int 1), some (.int (hvS (M.1 47) n k + sumS (yrs (M.1 47) n k) n)), some (.int (nI k))] [] (Mg M (cpN (M.1 47) (M.1 49) 56) (yearS (yrs (M.1 47) n k) n)) (Rt (some (.int (bI false))) (asd M)) := by
        have ls := fun z3 z4 => last (yearS (yrs (M.1 47) n k) n) false false z3 z4 rfl (fun j hj => yrs_hi (M.1 47) h8 hj (k + 1))
        refine J_blk a_X6_isTold_76 ?_
        simp only [b_X6_isTold_76, w_iconst_0, w_nil, kd_46, kd_47, kd_48, kd_49, kd_50, kd_51, kd_52, kd_53, kd_54, kd_55, kd_56, kd_57, kd_58, kd_59, ln_47, ln_48, ln_49, ln_50, ln_51, ln_52, ln_53, ln_54, ln_55, ln_56, ln_57, ln_58, ln_59, Option.toList_some, Option.toList_none, List.cons_append, List.nil_append, true_and, and_true, if_true, if_false, true_or, or_true, Nat.reduceAdd, Int.reduceAdd, Bool.false_eq_true, tn_0, tn_1, tn_2, tn_3, tn_4, tn_5, tn_6, tn_7]
        refine J_blk a_X6_isTold_77 ?_
        simp only [b_X6_isTold_77, w_istore2, nl_2n, nl_2i, nl_2a, w_iinc4, nl_4n, nl_4i, nl_4a, ci_1, w_goto, kd_46, kd_47, kd_48, kd_49, kd_50, kd_51, kd_52, kd_53, kd_54, kd_55, kd_56, kd_57, kd_58, kd_59, ln_47, ln_48, ln_49, ln_50, ln_51, ln_52, ln_53, ln_54, ln_55, ln_56, ln_57, ln_58, ln_59, Option.toList_some, Option.toList_none, List.cons_append, List.nil_append, true_and, and_true, if_true, if_false, true_or, or_true, Nat.reduceAdd, Int.reduceAdd, Bool.false_eq_true, tn_0, tn_1, tn_2, tn_3, tn_4, tn_5, tn_6, tn_7, nI_1]
        refine J_blk a_X6_isTold_18 ?_
        simp only [b_X6_isTold_18, w_iload4, w_aload_n0, w_getf6, ne0_8, w_iload_n1, w_iald, w_icmp_ge, w_nil, kd_46, kd_47, kd_48, kd_49, kd_50, kd_51, kd_52, kd_53, kd_54, kd_55, kd_56, kd_57, kd_58, kd_59, ln_47, ln_48, ln_49, ln_50, ln_51, ln_52, ln_53, ln_54, ln_55, ln_56, ln_57, ln_58, ln_59, Option.toList_some, Option.toList_none, List.cons_append, List.nil_append, true_and, and_true, if_true, if_false, true_or, or_true, Nat.reduceAdd, Int.reduceAdd, Bool.false_eq_true, tn_0, tn_1, tn_2, tn_3, tn_4, tn_5, tn_6, tn_7, tt, n54, ez]
        refine ⟨vinN ht (by decide), fun _ => ls _ _, fun _ => ?_⟩
        refine J_blk a_X6_isTold_29 ?_
        simp only [b_X6_isTold_29, w_iload_n2, w_if_eq, w_nil, kd_46, kd_47, kd_48, kd_49, kd_50, kd_51, kd_52, kd_53, kd_54, kd_55, kd_56, kd_57, kd_58, kd_59, ln_47, ln_48, ln_49, ln_50, ln_51, ln_52, ln_53, ln_54, ln_55, ln_56, ln_57, ln_58, ln_59, Option.toList_some, Option.toList_none, List.cons_append, List.nil_append, true_and, and_true, if_true, if_false, true_or, or_true, Nat.reduceAdd, Int.reduceAdd, Bool.false_eq_true, tn_0, tn_1, tn_2, tn_3, tn_4, tn_5, tn_6, tn_7]
        exact ⟨fun _ => ls _ _, fun h => absurd trivial h⟩
      refine J_blk a_X6_isTold_38 ?_
      simp only [b_X6_isTold_38, w_iadd, w_istore3, nl_3n, nl_3i, nl_3a, w_aload_n0, w_getf6, ne0_9, w_bipush, ci_40, w_iload_n1, w_imul, w_iload4, w_iald, w_iconst_m1, w_icmp_eq, w_nil, kd_46, kd_47, kd_48, kd_49, kd_50, kd_51, kd_52, kd_53, kd_54, kd_55, kd_56, kd_57, kd_58, kd_59, ln_47, ln_48, ln_49, ln_50, ln_51, ln_52, ln_53, ln_54, ln_55, ln_56, ln_57, ln_58, ln_59, Option.toList_some, Option.toList_none, List.cons_append, List.nil_append, true_and, and_true, if_true, if_false, true_or, or_true, Nat.reduceAdd, Int.reduceAdd, Bool.false_eq_true, tn_0, tn_1, tn_2, tn_3, tn_4, tn_5, tn_6, tn_7, e40, nI_add, tk, n55]
      refine ⟨vinN (by omega) (by decide), fun c => ?_, fun c => ?_⟩
      · rw [if_pos (Or.inl c)]
        refine J_blk a_X6_isTold_72 ?_
        simp only [b_X6_isTold_72, w_iconst_1, w_goto, kd_46, kd_47, kd_48, kd_49, kd_50, kd_51, kd_52, kd_53, kd_54, kd_55, kd_56, kd_57, kd_58, kd_59, ln_47, ln_48, ln_49, ln_50, ln_51, ln_52, ln_53, ln_54, ln_55, ln_56, ln_57, ln_58, ln_59, Option.toList_some, Option.toList_none, List.cons_append, List.nil_append, true_and, and_true, if_true, if_false, true_or, or_true, Nat.reduceAdd, Int.reduceAdd, Bool.false_eq_true, tn_0, tn_1, tn_2, tn_3, tn_4, tn_5, tn_6, tn_7, nI_1]
        refine J_blk a_X6_isTold_77 ?_
        simp only [b_X6_isTold_77, w_istore2, nl_2n, nl_2i, nl_2a, w_iinc4, nl_4n, nl_4i, nl_4a, ci_1, w_goto, kd_46, kd_47, kd_48, kd_49, kd_50, kd_51, kd_52, kd_53, kd_54, kd_55, kd_56, kd_57, kd_58, kd_59, ln_47, ln_48, ln_49, ln_50, ln_51, ln_52, ln_53, ln_54, ln_55, ln_56, ln_57, ln_58, ln_59, Option.toList_some, Option.toList_none, List.cons_append, List.nil_append, true_and, and_true, if_true, if_false, true_or, or_true, Nat.reduceAdd, Int.reduceAdd, Bool.false_eq_true, tn_0, tn_1, tn_2, tn_3, tn_4, tn_5, tn_6, tn_7, nI_1]
        exact yes
      · refine J_blk a_X6_isTold_56 ?_
        simp only [b_X6_isTold_56, w_aload_n0, w_getf6, ne0_9, w_bipush, ci_40, w_iload_n1, w_imul, w_iload4, w_iadd, w_iald, w_iload_n3, w_icmp_ne, w_nil, kd_46, kd_47, kd_48, kd_49, kd_50, kd_51, kd_52, kd_53, kd_54, kd_55, kd_56, kd_57, kd_58, kd_59, ln_47, ln_48, ln_49, ln_50, ln_51, ln_52, ln_53, ln_54, ln_55, ln_56, ln_57, ln_58, ln_59, Option.toList_some, Option.toList_none, List.cons_append, List.nil_append, true_and, and_true, if_true, if_false, true_or, or_true, Nat.reduceAdd, Int.reduceAdd, Bool.false_eq_true, tn_0, tn_1, tn_2, tn_3, tn_4, tn_5, tn_6, tn_7, e40, nI_add, tk, n55]
        refine ⟨vinN (by omega) (by decide), fun c2 => ?_, fun c2 => ?_⟩
        · rw [if_neg (fun h => h.elim c c2)]
          exact stop
        · rw [if_pos (Or.inr c2)]
          refine J_blk a_X6_isTold_72 ?_
          simp only [b_X6_isTold_72, w_iconst_1, w_goto, kd_46, kd_47, kd_48, kd_49, kd_50, kd_51, kd_52, kd_53, kd_54, kd_55, kd_56, kd_57, kd_58, kd_59, ln_47, ln_48, ln_49, ln_50, ln_51, ln_52, ln_53, ln_54, ln_55, ln_56, ln_57, ln_58, ln_59, Option.toList_some, Option.toList_none, List.cons_append, List.nil_append, true_and, and_true, if_true, if_false, true_or, or_true, Nat.reduceAdd, Int.reduceAdd, Bool.false_eq_true, tn_0, tn_1, tn_2, tn_3, tn_4, tn_5, tn_6, tn_7, nI_1]
          refine J_blk a_X6_isTold_77 ?_
          simp only [b_X6_isTold_77, w_istore2, nl_2n, nl_2i, nl_2a, w_iinc4, nl_4n, nl_4i, nl_4a, ci_1, w_goto, kd_46, kd_47, kd_48, kd_49, kd_50, kd_51, kd_52, kd_53, kd_54, kd_55, kd_56, kd_57, kd_58, kd_59, ln_47, ln_48, ln_49, ln_50, ln_51, ln_52, ln_53, ln_54, ln_55, ln_56, ln_57, ln_58, ln_59, Option.toList_some, Option.toList_none, List.cons_append, List.nil_append, true_and, and_true, if_true, if_false, true_or, or_true, Nat.reduceAdd, Int.reduceAdd, Bool.false_eq_true, tn_0, tn_1, tn_2, tn_3, tn_4, tn_5, tn_6, tn_7, nI_1]
          exact yes
  have l0 := loop z 0 (by omega)
  refine K_go 1 o_X6_isTold [none, none, none] rfl (Nat.le_of_ble_eq_true rfl) ?_
  simp only [lvA_i, lvA_a, lvA_l, lvA_nil, List.cons_append, List.nil_append]
  refine J_blk a_X6_isTold_0 ?_
  simp only [b_X6_isTold_0, w_aload_n0, w_getf6, ne0_1, ne0_3, w_nil, kd_46, kd_47, kd_48, kd_49, kd_50, kd_51, kd_52, kd_53, kd_54, kd_55, kd_56, kd_57, kd_58, kd_59, ln_47, ln_48, ln_49, ln_50, ln_51, ln_52, ln_53, ln_54, ln_55, ln_56, ln_57, ln_58, ln_59, Option.toList_some, Option.toList_none, List.cons_append, List.nil_append, true_and, and_true, if_true, if_false, true_or, or_true, Nat.reduceAdd, Int.reduceAdd, Bool.false_eq_true, tn_0, tn_1, tn_2, tn_3, tn_4, tn_5, tn_6, tn_7]
  refine J_callSr (copyRow_ok 47 49 M rfl rfl rfl rfl (by decide)) k_X6_isTold_8 o_X6_copyRow rfl (by decide) rfl (Nat.le_of_ble_eq_true rfl) ?_
  rw [show su M 49 (cpN (M.1 47) (M.1 49) 56) = asd M from rfl]
  refine J_blk a_X6_isTold_11 ?_
  simp only [b_X6_isTold_11, w_iconst_1, w_istore2, nl_2n, nl_2i, nl_2a, w_iconst_0, w_istore3, nl_3n, nl_3i, nl_3a, w_istore4, nl_4n, nl_4i, nl_4a, w_nil, kd_46, kd_47, kd_48, kd_49, kd_50, kd_51, kd_52, kd_53, kd_54, kd_55, kd_56, kd_57, kd_58, kd_59, ln_47, ln_48, ln_49, ln_50, ln_51, ln_52, ln_53, ln_54, ln_55, ln_56, ln_57, ln_58, ln_59, Option.toList_some, Option.toList_none, List.cons_append, List.nil_append, true_and, and_true, if_true, if_false, true_or, or_true, Nat.reduceAdd, Int.reduceAdd, Bool.false_eq_true, tn_0, tn_1, tn_2, tn_3, tn_4, tn_5, tn_6, tn_7]
  rw [asd_Mg] at l0 ⊢
  exact l0
/-- how many fit, and the least -/
def fiS (p : Nat → Bool) : Nat → Int32 × Int32
  | 0 => (0, -3)
  | d + 1 => if p (9 - d) = true then ((fiS p d).1 + 1, nI (9 - d)) else fiS p d
def fiP (s : Nat → Int32) (n o : Nat) (nb : Nat → Int32) (z : Nat) (v : Nat) : Bool := toF (upd s (8 + 6 * o + 2) (nI v)) n nb z 0
theorem mfits_n (n t o w : Nat) (M : Mm) (hw : WF (M.1 47) n) (ht : t < 4) (hj : o < n) (hw1 : w ≤ 1) (hs : M.1 53 t < 0) : K 5 mX6_fits [.ref 46, .int (nI t), .int (nI o), .int (nI w)] M (Rt (some (.int (-11))) M) := by
  have h0 := hw.1
  have h8 := hw.2.1
  have ho := ok1 hj (by omega)
  have h1 : 0 ≤ nI t ∧ nI t ≤ 3 := ok2 (m := 3) (by omega) (by decide)
  have h2 : 0 ≤ nI w ∧ nI w ≤ 1 := ok2 (m := 1) (by omega) (by decide)
  have tt : (nI t).toNatClampNeg = t := nI_clamp (by omega)
  refine K_go 3 o_X6_fits [none, none, none, none, none, none] rfl (Nat.le_of_ble_eq_true rfl) ?_
  simp only [lvA_i, lvA_a, lvA_l, lvA_nil, List.cons_append, List.nil_append]
  refine J_blk a_X6_fits_0 ?_
  simp only [b_X6_fits_0, w_iload_n1, w_nil, kd_46, kd_47, kd_48, kd_49, kd_50, kd_51, kd_52, kd_53, kd_54, kd_55, kd_56, kd_57, kd_58, kd_59, ln_47, ln_48, ln_49, ln_50, ln_51, ln_52, ln_53, ln_54, ln_55, ln_56, ln_57, ln_58, ln_59, Option.toList_some, Option.toList_none, List.cons_append, List.nil_append, true_and, and_true, if_true, if_false, true_or, or_true, Nat.reduceAdd, Int.reduceAdd, Bool.false_eq_true, tn_0, tn_1, tn_2, tn_3, tn_4, tn_5, tn_6, tn_7, tt]
  refine J_callSr (isSheet_ok _ _) k_X6_fits_1 o_X6_isSheet rfl (by decide) rfl (Nat.le_of_ble_eq_true rfl) ?_
  rw [if_pos h1]
  refine J_blk a_X6_fits_4 ?_
  simp only [b_X6_fits_4, w_if_eq, w_nil, kd_46, kd_47, kd_48, kd_49, kd_50, kd_51, kd_52, kd_53, kd_54, kd_55, kd_56, kd_57, kd_58, kd_59, ln_47, ln_48, ln_49, ln_50, ln_51, ln_52, ln_53, ln_54, ln_55, ln_56, ln_57, ln_58, ln_59, Option.toList_some, Option.toList_none, List.cons_append, List.nil_append, true_and, and_true, if_true, if_false, true_or, or_true, Nat.reduceAdd, Int.reduceAdd, Bool.false_eq_true, tn_0, tn_1, tn_2, tn_3, tn_4, tn_5, tn_6, tn_7, tt]
  refine ⟨fun c1 => ?_, fun c1 => ?_⟩
  · first
      | exact absurd c1 (by decide)
      | (refine J_blk a_X6_fits_25 ?_
         simp only [b_X6_fits_25, w_iconst_m1, w_ireti, kd_46, kd_47, kd_48, kd_49, kd_50, kd_51, kd_52, kd_53, kd_54, kd_55, kd_56, kd_57, kd_58, kd_59, ln_47, ln_48, ln_49, ln_50, ln_51, ln_52, ln_53, ln_54, ln_55, ln_56, ln_57, ln_58, ln_59, Option.toList_some, Option.toList_none, List.cons_append, List.nil_append, true_and, and_true, if_true, if_false, true_or, or_true, Nat.reduceAdd, Int.reduceAdd, Bool.false_eq_true, tn_0, tn_1, tn_2, tn_3, tn_4, tn_5, tn_6, tn_7, tt]
         exact ⟨rfl, rfl⟩)
  · first
      | exact absurd c1 (by decide)
      | (refine J_blk a_X6_fits_7 ?_
         simp only [b_X6_fits_7, w_aload_n0, w_iload_n2, w_nil, kd_46, kd_47, kd_48, kd_49, kd_50, kd_51, kd_52, kd_53, kd_54, kd_55, kd_56, kd_57, kd_58, kd_59, ln_47, ln_48, ln_49, ln_50, ln_51, ln_52, ln_53, ln_54, ln_55, ln_56, ln_57, ln_58, ln_59, Option.toList_some, Option.toList_none, List.cons_append, List.nil_append, true_and, and_true, if_true, if_false, true_or, or_true, Nat.reduceAdd, Int.reduceAdd, Bool.false_eq_true, tn_0, tn_1, tn_2, tn_3, tn_4, tn_5, tn_6, tn_7, tt]
         refine J_callVr (ci := 6) (isOne_ok _ _) k_X6_fits_9 o_X6_isOne rfl rfl rfl rfl (by decide) rfl (Nat.le_of_ble_eq_true rfl) ?_
         rw [h0, if_pos ho]
         refine J_blk a_X6_fits_12 ?_
         simp only [b_X6_fits_12, w_if_eq, w_nil, kd_46, kd_47, kd_48, kd_49, kd_50, kd_51, kd_52, kd_53, kd_54, kd_55, kd_56, kd_57, kd_58, kd_59, ln_47, ln_48, ln_49, ln_50, ln_51, ln_52, ln_53, ln_54, ln_55, ln_56, ln_57, ln_58, ln_59, Option.toList_some, Option.toList_none, List.cons_append, List.nil_append, true_and, and_true, if_true, if_false, true_or, or_true, Nat.reduceAdd, Int.reduceAdd, Bool.false_eq_true, tn_0, tn_1, tn_2, tn_3, tn_4, tn_5, tn_6, tn_7, tt]
         refine ⟨fun c2 => ?_, fun c2 => ?_⟩
         · first
             | exact absurd c2 (by decide)
             | (refine J_blk a_X6_fits_25 ?_
                simp only [b_X6_fits_25, w_iconst_m1, w_ireti, kd_46, kd_47, kd_48, kd_49, kd_50, kd_51, kd_52, kd_53, kd_54, kd_55, kd_56, kd_57, kd_58, kd_59, ln_47, ln_48, ln_49, ln_50, ln_51, ln_52, ln_53, ln_54, ln_55, ln_56, ln_57, ln_58, ln_59, Option.toList_some, Option.toList_none, List.cons_append, List.nil_append, true_and, and_true, if_true, if_false, true_or, or_true, Nat.reduceAdd, Int.reduceAdd, Bool.false_eq_true, tn_0, tn_1, tn_2, tn_3, tn_4, tn_5, tn_6, tn_7, tt]
                exact ⟨rfl, rfl⟩)
         · first
             | exact absurd c2 (by decide)
             | (refine J_blk a_X6_fits_15 ?_
                simp only [b_X6_fits_15, w_iload_n3, w_i2l, w_lconst_0, w_lconst_1, w_nil, kd_46, kd_47, kd_48, kd_49, kd_50, kd_51, kd_52, kd_53, kd_54, kd_55, kd_56, kd_57, kd_58, kd_59, ln_47, ln_48, ln_49, ln_50, ln_51, ln_52, ln_53, ln_54, ln_55, ln_56, ln_57, ln_58, ln_59, Option.toList_some, Option.toList_none, List.cons_append, List.nil_append, true_and, and_true, if_true, if_false, true_or, or_true, Nat.reduceAdd, Int.reduceAdd, Bool.false_eq_true, tn_0, tn_1, tn_2, tn_3, tn_4, tn_5, tn_6, tn_7, tt]
                refine J_callSr (isIn_ok _ _ _ _) k_X6_fits_19 o_X6_isIn rfl (by decide) rfl (Nat.le_of_ble_eq_true rfl) ?_
                (simp only [l_le_1, l_le_2, l_le_3, l_le_5, l_le_7, l_le_8, l_le_9, l_le_10, l_le_13, l_le_20, l_le_30, l_le_60, l_le_99, l_le_9999, l_ge_0, l_ge_1, l_ge_6, l_ge_m1, i64_le]; rw [if_pos (by first | exact h1 | exact h2 | exact h3 | exact h4)])
                refine J_blk a_X6_fits_22 ?_
                simp only [b_X6_fits_22, w_if_ne, w_nil, kd_46, kd_47, kd_48, kd_49, kd_50, kd_51, kd_52, kd_53, kd_54, kd_55, kd_56, kd_57, kd_58, kd_59, ln_47, ln_48, ln_49, ln_50, ln_51, ln_52, ln_53, ln_54, ln_55, ln_56, ln_57, ln_58, ln_59, Option.toList_some, Option.toList_none, List.cons_append, List.nil_append, true_and, and_true, if_true, if_false, true_or, or_true, Nat.reduceAdd, Int.reduceAdd, Bool.false_eq_true, tn_0, tn_1, tn_2, tn_3, tn_4, tn_5, tn_6, tn_7, tt]
                refine ⟨fun c3 => ?_, fun c3 => ?_⟩
                · first
                    | exact absurd c3 (by decide)
                    | (refine J_blk a_X6_fits_27 ?_
                       simp only [b_X6_fits_27, w_aload_n0, w_getf6, ne0_7, w_iload_n1, w_iald, w_if_ge, w_nil, kd_46, kd_47, kd_48, kd_49, kd_50, kd_51, kd_52, kd_53, kd_54, kd_55, kd_56, kd_57, kd_58, kd_59, ln_47, ln_48, ln_49, ln_50, ln_51, ln_52, ln_53, ln_54, ln_55, ln_56, ln_57, ln_58, ln_59, Option.toList_some, Option.toList_none, List.cons_append, List.nil_append, true_and, and_true, if_true, if_false, true_or, or_true, Nat.reduceAdd, Int.reduceAdd, Bool.false_eq_true, tn_0, tn_1, tn_2, tn_3, tn_4, tn_5, tn_6, tn_7, tt]
                       refine ⟨(vinN (by omega) (by decide)), ?_⟩
                       refine ⟨fun c4 => ?_, fun c4 => ?_⟩
                       · first
                           | exact absurd c4 (by decide)
                           | (exact absurd hs (Int32.not_lt.mpr (by assumption)))
                       · first
                           | exact absurd c4 (by decide)
                           | (refine J_blk a_X6_fits_36 ?_
                              simp only [b_X6_fits_36, w_bipush, ci_m11, w_ireti, kd_46, kd_47, kd_48, kd_49, kd_50, kd_51, kd_52, kd_53, kd_54, kd_55, kd_56, kd_57, kd_58, kd_59, ln_47, ln_48, ln_49, ln_50, ln_51, ln_52, ln_53, ln_54, ln_55, ln_56, ln_57, ln_58, ln_59, Option.toList_some, Option.toList_none, List.cons_append, List.nil_append, true_and, and_true, if_true, if_false, true_or, or_true, Nat.reduceAdd, Int.reduceAdd, Bool.false_eq_true, tn_0, tn_1, tn_2, tn_3, tn_4, tn_5, tn_6, tn_7, tt]
                              exact ⟨rfl, rfl⟩))
                · first
                    | exact absurd c3 (by decide)
                    | (refine J_blk a_X6_fits_25 ?_
                       simp only [b_X6_fits_25, w_iconst_m1, w_ireti, kd_46, kd_47, kd_48, kd_49, kd_50, kd_51, kd_52, kd_53, kd_54, kd_55, kd_56, kd_57, kd_58, kd_59, ln_47, ln_48, ln_49, ln_50, ln_51, ln_52, ln_53, ln_54, ln_55, ln_56, ln_57, ln_58, ln_59, Option.toList_some, Option.toList_none, List.cons_append, List.nil_append, true_and, and_true, if_true, if_false, true_or, or_true, Nat.reduceAdd, Int.reduceAdd, Bool.false_eq_true, tn_0, tn_1, tn_2, tn_3, tn_4, tn_5, tn_6, tn_7, tt]
                       exact ⟨rfl, rfl⟩)))
theorem mfits_t (n t o w z : Nat) (M : Mm) (hw : WF (M.1 47) n) (ht : t < 4) (hj : o < n) (hw1 : w ≤ 1) (hs : ¬ M.1 53 t < 0) (hz : z ≤ 40) (ez : M.1 54 t = nI z) : K 5 mX6_fits [.ref 46, .int (nI t), .int (nI o), .int (nI w)] M (Rs (some (.int (if w = 0 then (fiS (fiP (M.1 47) n o (fun k => M.1 55 (40 * t + k)) z) 10).1 else (fiS (fiP (M.1 47) n o (fun k => M.1 55 (40 * t + k)) z) 10).2))) M) := by
  have h0 := hw.1
  have h8 := hw.2.1
  have ho := ok1 hj (by omega)
  have h1 : 0 ≤ nI t ∧ nI t ≤ 3 := ok2 (m := 3) (by omega) (by decide)
  have h2 : 0 ≤ nI w ∧ nI w ≤ 1 := ok2 (m := 1) (by omega) (by decide)
  have tt : (nI t).toNatClampNeg = t := nI_clamp (by omega)
  have t2 : (nI (8 + 6 * o + 2)).toNatClampNeg = 8 + 6 * o + 2 := nI_clamp (by omega)
  have ew : (nI w = 0) = (w = 0) := propext (nI_eq (b := 0) (by omega) (by decide))
  have n54 : ∀ g r, (Mg M g r).1 54 = M.1 54 := fun g r => Mg_ne M g r (by decide) (by decide)
  have n55 : ∀ g r, (Mg M g r).1 55 = M.1 55 := fun g r => Mg_ne M g r (by decide) (by decide)
  generalize hp : fiP (M.1 47) n o (fun k => M.1 55 (40 * t + k)) z = p
  have loop : ∀ j, j ≤ 10 → ∀ (g : Nat → Int32) (v : Int32) (z9 : Option Value), J 5 mX6_fits 70 [some (.ref 46), some (.int (nI t)), some (.int (nI o)), some (.int (nI w)), some (.int (nI (8 + 6 * o + 2))), some (.int (M.1 47 (8 + 6 * o + 2))), some (.int (fiS p (10 - j)).1), some (.int (fiS p (10 - j)).2), some (.int (nI j - 1)), z9] [] (Mg M g (upd (M.1 47) (8 + 6 * o + 2) v)) (Rs (some (.int (if w = 0 then (fiS p 10).1 else (fiS p 10).2))) M) := by
    intro j
    induction j with
    | zero =>
      intro _ g v z9
      refine J_blk a_X6_fits_70 ?_
      simp only [b_X6_fits_70, w_iload8, w_if_lt, w_nil, kd_46, kd_47, kd_48, kd_49, kd_50, kd_51, kd_52, kd_53, kd_54, kd_55, kd_56, kd_57, kd_58, kd_59, ln_47, ln_48, ln_49, ln_50, ln_51, ln_52, ln_53, ln_54, ln_55, ln_56, ln_57, ln_58, ln_59, Option.toList_some, Option.toList_none, List.cons_append, List.nil_append, true_and, and_true, if_true, if_false, true_or, or_true, Nat.reduceAdd, Int.reduceAdd, Bool.false_eq_true, tn_0, tn_1, tn_2, tn_3, tn_4, tn_5, tn_6, tn_7]
      refine ⟨fun _ => ?_, fun h => absurd (show nI 0 - 1 < 0 by decide) h⟩
      refine J_blk a_X6_fits_126 ?_
      simp only [b_X6_fits_126, w_aload_n0, w_getf6, ne0_1, w_iload4, w_iload5, w_iast, w_iload_n3, w_if_ne, w_nil, kd_46, kd_47, kd_48, kd_49, kd_50, kd_51, kd_52, kd_53, kd_54, kd_55, kd_56, kd_57, kd_58, kd_59, ln_47, ln_48, ln_49, ln_50, ln_51, ln_52, ln_53, ln_54, ln_55, ln_56, ln_57, ln_58, ln_59, Option.toList_some, Option.toList_none, List.cons_append, List.nil_append, true_and, and_true, if_true, if_false, true_or, or_true, Nat.reduceAdd, Int.reduceAdd, Bool.false_eq_true, tn_0, tn_1, tn_2, tn_3, tn_4, tn_5, tn_6, tn_7, t2, Mg_u1, upd_upd, upd_self, ew]
      refine ⟨vinN (by omega) (by decide), fun c => ?_, fun c => ?_⟩
      · rw [if_neg c]
        refine J_blk a_X6_fits_144 ?_
        simp only [b_X6_fits_144, w_iload7, w_nil, kd_46, kd_47, kd_48, kd_49, kd_50, kd_51, kd_52, kd_53, kd_54, kd_55, kd_56, kd_57, kd_58, kd_59, ln_47, ln_48, ln_49, ln_50, ln_51, ln_52, ln_53, ln_54, ln_55, ln_56, ln_57, ln_58, ln_59, Option.toList_some, Option.toList_none, List.cons_append, List.nil_append, true_and, and_true, if_true, if_false, true_or, or_true, Nat.reduceAdd, Int.reduceAdd, Bool.false_eq_true, tn_0, tn_1, tn_2, tn_3, tn_4, tn_5, tn_6, tn_7]
        refine J_blk a_X6_fits_146 ?_
        simp only [b_X6_fits_146, w_ireti, kd_46, kd_47, kd_48, kd_49, kd_50, kd_51, kd_52, kd_53, kd_54, kd_55, kd_56, kd_57, kd_58, kd_59, ln_47, ln_48, ln_49, ln_50, ln_51, ln_52, ln_53, ln_54, ln_55, ln_56, ln_57, ln_58, ln_59, Option.toList_some, Option.toList_none, List.cons_append, List.nil_append, true_and, and_true, if_true, if_false, true_or, or_true, Nat.reduceAdd, Int.reduceAdd, Bool.false_eq_true, tn_0, tn_1, tn_2, tn_3, tn_4, tn_5, tn_6, tn_7]
        exact ⟨rfl, g, Mg_self M g⟩
      · rw [if_pos c]
        refine J_blk a_X6_fits_139 ?_
        simp only [b_X6_fits_139, w_iload6, w_goto, kd_46, kd_47, kd_48, kd_49, kd_50, kd_51, kd_52, kd_53, kd_54, kd_55, kd_56, kd_57, kd_58, kd_59, ln_47, ln_48, ln_49, ln_50, ln_51, ln_52, ln_53, ln_54, ln_55, ln_56, ln_57, ln_58, ln_59, Option.toList_some, Option.toList_none, List.cons_append, List.nil_append, true_and, and_true, if_true, if_false, true_or, or_true, Nat.reduceAdd, Int.reduceAdd, Bool.false_eq_true, tn_0, tn_1, tn_2, tn_3, tn_4, tn_5, tn_6, tn_7]
        refine J_blk a_X6_fits_146 ?_
        simp only [b_X6_fits_146, w_ireti, kd_46, kd_47, kd_48, kd_49, kd_50, kd_51, kd_52, kd_53, kd_54, kd_55, kd_56, kd_57, kd_58, kd_59, ln_47, ln_48, ln_49, ln_50, ln_51, ln_52, ln_53, ln_54, ln_55, ln_56, ln_57, ln_58, ln_59, Option.toList_some, Option.toList_none, List.cons_append, List.nil_append, true_and, and_true, if_true, if_false, true_or, or_true, Nat.reduceAdd, Int.reduceAdd, Bool.false_eq_true, tn_0, tn_1, tn_2, tn_3, tn_4, tn_5, tn_6, tn_7]
        exact ⟨rfl, g, Mg_self M g⟩
    | succ j ih =>
      intro hj10 g v z9
      have ih' := ih (by omega)
      have e10 : 10 - j = (10 - (j + 1)) + 1 := by omega
      rw [e10] at ih'
      simp only [fiS, show 9 - (10 - (j + 1)) = j by omega] at ih'
      generalize fiS p (10 - (j + 1)) = q at *
      rw [nI_pred]
      refine J_blk a_X6_fits_70 ?_
      simp only [b_X6_fits_70, w_iload8, w_if_lt, w_nil, kd_46, kd_47, kd_48, kd_49, kd_50, kd_51, kd_52, kd_53, kd_54, kd_55, kd_56, kd_57, kd_58, kd_59, ln_47, ln_48, ln_49, ln_50, ln_51, ln_52, ln_53, ln_54, ln_55, ln_56, ln_57, ln_58, ln_59, Option.toList_some, Option.toList_none, List.cons_append, List.nil_append, true_and, and_true, if_true, if_false, true_or, or_true, Nat.reduceAdd, Int.reduceAdd, Bool.false_eq_true, tn_0, tn_1, tn_2, tn_3, tn_4, tn_5, tn_6, tn_7]
      refine ⟨fun h => absurd h (nI_pos (by omega)), fun _ => ?_⟩
      refine J_blk a_X6_fits_75 ?_
      simp only [b_X6_fits_75, w_aload_n0, w_getf6, ne0_1, w_iload4, w_iload8, w_iast, w_iload_n1, w_nil, kd_46, kd_47, kd_48, kd_49, kd_50, kd_51, kd_52, kd_53, kd_54, kd_55, kd_56, kd_57, kd_58, kd_59, ln_47, ln_48, ln_49, ln_50, ln_51, ln_52, ln_53, ln_54, ln_55, ln_56, ln_57, ln_58, ln_59, Option.toList_some, Option.toList_none, List.cons_append, List.nil_append, true_and, and_true, if_true, if_false, true_or, or_true, Nat.reduceAdd, Int.reduceAdd, Bool.false_eq_true, tn_0, tn_1, tn_2, tn_3, tn_4, tn_5, tn_6, tn_7, t2, Mg_u1, upd_upd]
      refine ⟨vinN (by omega) (by decide), ?_⟩
      refine J_callVr (ci := 6) (isTold_ok n t z _ (by rw [Mg47]; exact WF_force hw (by omega)) ht hz (by rw [n54]; exact ez)) k_X6_fits_86 o_X6_isTold rfl rfl rfl rfl (by decide) rfl (Nat.le_of_ble_eq_true rfl) ?_
      rw [Mg47, n55, Mg_asd]
      rw [show toF (upd (M.1 47) (8 + 6 * o + 2) (nI j)) n (fun k => M.1 55 (40 * t + k)) z 0 = p j by rw [← hp]; rfl]
      by_cases hb : p j = true
      · simp only [if_pos hb] at ih'
        rw [hb]
        refine J_blk a_X6_fits_89 ?_
        simp only [b_X6_fits_89, w_istore9, nl_9n, nl_9i, nl_9a, w_iload6, w_iload9, w_if_eq, w_nil, kd_46, kd_47, kd_48, kd_49, kd_50, kd_51, kd_52, kd_53, kd_54, kd_55, kd_56, kd_57, kd_58, kd_59, ln_47, ln_48, ln_49, ln_50, ln_51, ln_52, ln_53, ln_54, ln_55, ln_56, ln_57, ln_58, ln_59, Option.toList_some, Option.toList_none, List.cons_append, List.nil_append, true_and, and_true, if_true, if_false, true_or, or_true, Nat.reduceAdd, Int.reduceAdd, Bool.false_eq_true, tn_0, tn_1, tn_2, tn_3, tn_4, tn_5, tn_6, tn_7]
        refine ⟨fun h => absurd h (by decide), fun _ => ?_⟩
        refine J_blk a_X6_fits_98 ?_
        simp only [b_X6_fits_98, w_iconst_1, w_goto, kd_46, kd_47, kd_48, kd_49, kd_50, kd_51, kd_52, kd_53, kd_54, kd_55, kd_56, kd_57, kd_58, kd_59, ln_47, ln_48, ln_49, ln_50, ln_51, ln_52, ln_53, ln_54, ln_55, ln_56, ln_57, ln_58, ln_59, Option.toList_some, Option.toList_none, List.cons_append, List.nil_append, true_and, and_true, if_true, if_false, true_or, or_true, Nat.reduceAdd, Int.reduceAdd, Bool.false_eq_true, tn_0, tn_1, tn_2, tn_3, tn_4, tn_5, tn_6, tn_7]
        refine J_blk a_X6_fits_103 ?_
        simp only [b_X6_fits_103, w_iadd, w_istore6, nl_6n, nl_6i, nl_6a, w_iload9, w_if_eq, w_nil, kd_46, kd_47, kd_48, kd_49, kd_50, kd_51, kd_52, kd_53, kd_54, kd_55, kd_56, kd_57, kd_58, kd_59, ln_47, ln_48, ln_49, ln_50, ln_51, ln_52, ln_53, ln_54, ln_55, ln_56, ln_57, ln_58, ln_59, Option.toList_some, Option.toList_none, List.cons_append, List.nil_append, true_and, and_true, if_true, if_false, true_or, or_true, Nat.reduceAdd, Int.reduceAdd, Bool.false_eq_true, tn_0, tn_1, tn_2, tn_3, tn_4, tn_5, tn_6, tn_7]
        refine ⟨fun h => absurd h (by decide), fun _ => ?_⟩
        refine J_blk a_X6_fits_111 ?_
        simp only [b_X6_fits_111, w_iload8, w_goto, kd_46, kd_47, kd_48, kd_49, kd_50, kd_51, kd_52, kd_53, kd_54, kd_55, kd_56, kd_57, kd_58, kd_59, ln_47, ln_48, ln_49, ln_50, ln_51, ln_52, ln_53, ln_54, ln_55, ln_56, ln_57, ln_58, ln_59, Option.toList_some, Option.toList_none, List.cons_append, List.nil_append, true_and, and_true, if_true, if_false, true_or, or_true, Nat.reduceAdd, Int.reduceAdd, Bool.false_eq_true, tn_0, tn_1, tn_2, tn_3, tn_4, tn_5, tn_6, tn_7, am1]
        refine J_blk a_X6_fits_118 ?_
        simp only [b_X6_fits_118, w_istore7, nl_7n, nl_7i, nl_7a, w_iinc8, nl_8n, nl_8i, nl_8a, ci_m1, w_goto, kd_46, kd_47, kd_48, kd_49, kd_50, kd_51, kd_52, kd_53, kd_54, kd_55, kd_56, kd_57, kd_58, kd_59, ln_47, ln_48, ln_49, ln_50, ln_51, ln_52, ln_53, ln_54, ln_55, ln_56, ln_57, ln_58, ln_59, Option.toList_some, Option.toList_none, List.cons_append, List.nil_append, true_and, and_true, if_true, if_false, true_or, or_true, Nat.reduceAdd, Int.reduceAdd, Bool.false_eq_true, tn_0, tn_1, tn_2, tn_3, tn_4, tn_5, tn_6, tn_7, am1]
        exact ih' _ _ _
      · simp only [if_neg hb] at ih'
        have hb' : p j = false := (Bool.not_eq_true _).mp hb
        rw [hb']
        refine J_blk a_X6_fits_89 ?_
        simp only [b_X6_fits_89, w_istore9, nl_9n, nl_9i, nl_9a, w_iload6, w_iload9, w_if_eq, w_nil, kd_46, kd_47, kd_48, kd_49, kd_50, kd_51, kd_52, kd_53, kd_54, kd_55, kd_56, kd_57, kd_58, kd_59, ln_47, ln_48, ln_49, ln_50, ln_51, ln_52, ln_53, ln_54, ln_55, ln_56, ln_57, ln_58, ln_59, Option.toList_some, Option.toList_none, List.cons_append, List.nil_append, true_and, and_true, if_true, if_false, true_or, or_true, Nat.reduceAdd, Int.reduceAdd, Bool.false_eq_true, tn_0, tn_1, tn_2, tn_3, tn_4, tn_5, tn_6, tn_7]
        refine ⟨fun _ => ?_, fun h => absurd rfl h⟩
        refine J_blk a_X6_fits_102 ?_
        simp only [b_X6_fits_102, w_iconst_0, w_nil, kd_46, kd_47, kd_48, kd_49, kd_50, kd_51, kd_52, kd_53, kd_54, kd_55, kd_56, kd_57, kd_58, kd_59, ln_47, ln_48, ln_49, ln_50, ln_51, ln_52, ln_53, ln_54, ln_55, ln_56, ln_57, ln_58, ln_59, Option.toList_some, Option.toList_none, List.cons_append, List.nil_append, true_and, and_true, if_true, if_false, true_or, or_true, Nat.reduceAdd, Int.reduceAdd, Bool.false_eq_true, tn_0, tn_1, tn_2, tn_3, tn_4, tn_5, tn_6, tn_7, Int32.add_zero]
        refine J_blk a_X6_fits_103 ?_
        simp only [b_X6_fits_103, w_iadd, w_istore6, nl_6n, nl_6i, nl_6a, w_iload9, w_if_eq, w_nil, kd_46, kd_47, kd_48, kd_49, kd_50, kd_51, kd_52, kd_53, kd_54, kd_55, kd_56, kd_57, kd_58, kd_59, ln_47, ln_48, ln_49, ln_50, ln_51, ln_52, ln_53, ln_54, ln_55, ln_56, ln_57, ln_58, ln_59, Option.toList_some, Option.toList_none, List.cons_append, List.nil_append, true_and, and_true, if_true, if_false, true_or, or_true, Nat.reduceAdd, Int.reduceAdd, Bool.false_eq_true, tn_0, tn_1, tn_2, tn_3, tn_4, tn_5, tn_6, tn_7, Int32.add_zero]
        refine ⟨fun _ => ?_, fun h => absurd rfl h⟩
        refine J_blk a_X6_fits_116 ?_
        simp only [b_X6_fits_116, w_iload7, w_nil, kd_46, kd_47, kd_48, kd_49, kd_50, kd_51, kd_52, kd_53, kd_54, kd_55, kd_56, kd_57, kd_58, kd_59, ln_47, ln_48, ln_49, ln_50, ln_51, ln_52, ln_53, ln_54, ln_55, ln_56, ln_57, ln_58, ln_59, Option.toList_some, Option.toList_none, List.cons_append, List.nil_append, true_and, and_true, if_true, if_false, true_or, or_true, Nat.reduceAdd, Int.reduceAdd, Bool.false_eq_true, tn_0, tn_1, tn_2, tn_3, tn_4, tn_5, tn_6, tn_7, am1]
        refine J_blk a_X6_fits_118 ?_
        simp only [b_X6_fits_118, w_istore7, nl_7n, nl_7i, nl_7a, w_iinc8, nl_8n, nl_8i, nl_8a, ci_m1, w_goto, kd_46, kd_47, kd_48, kd_49, kd_50, kd_51, kd_52, kd_53, kd_54, kd_55, kd_56, kd_57, kd_58, kd_59, ln_47, ln_48, ln_49, ln_50, ln_51, ln_52, ln_53, ln_54, ln_55, ln_56, ln_57, ln_58, ln_59, Option.toList_some, Option.toList_none, List.cons_append, List.nil_append, true_and, and_true, if_true, if_false, true_or, or_true, Nat.reduceAdd, Int.reduceAdd, Bool.false_eq_true, tn_0, tn_1, tn_2, tn_3, tn_4, tn_5, tn_6, tn_7, am1]
        exact ih' _ _ _
  have l0 := loop 10 (by omega) (M.1 49) (M.1 47 (8 + 6 * o + 2)) none
  rw [upd_self, ← Mg_ini] at l0
  refine K_go 3 o_X6_fits [none, none, none, none, none, none] rfl (Nat.le_of_ble_eq_true rfl) ?_
  simp only [lvA_i, lvA_a, lvA_l, lvA_nil, List.cons_append, List.nil_append]
  refine J_blk a_X6_fits_0 ?_
  simp only [b_X6_fits_0, w_iload_n1, w_nil, kd_46, kd_47, kd_48, kd_49, kd_50, kd_51, kd_52, kd_53, kd_54, kd_55, kd_56, kd_57, kd_58, kd_59, ln_47, ln_48, ln_49, ln_50, ln_51, ln_52, ln_53, ln_54, ln_55, ln_56, ln_57, ln_58, ln_59, Option.toList_some, Option.toList_none, List.cons_append, List.nil_append, true_and, and_true, if_true, if_false, true_or, or_true, Nat.reduceAdd, Int.reduceAdd, Bool.false_eq_true, tn_0, tn_1, tn_2, tn_3, tn_4, tn_5, tn_6, tn_7, tt, ix0, ad2, t2]
  refine J_callSr (isSheet_ok _ _) k_X6_fits_1 o_X6_isSheet rfl (by decide) rfl (Nat.le_of_ble_eq_true rfl) ?_
  rw [if_pos h1]
  refine J_blk a_X6_fits_4 ?_
  simp only [b_X6_fits_4, w_if_eq, w_nil, kd_46, kd_47, kd_48, kd_49, kd_50, kd_51, kd_52, kd_53, kd_54, kd_55, kd_56, kd_57, kd_58, kd_59, ln_47, ln_48, ln_49, ln_50, ln_51, ln_52, ln_53, ln_54, ln_55, ln_56, ln_57, ln_58, ln_59, Option.toList_some, Option.toList_none, List.cons_append, List.nil_append, true_and, and_true, if_true, if_false, true_or, or_true, Nat.reduceAdd, Int.reduceAdd, Bool.false_eq_true, tn_0, tn_1, tn_2, tn_3, tn_4, tn_5, tn_6, tn_7, tt, ix0, ad2, t2]
  refine ⟨fun c5 => ?_, fun c5 => ?_⟩
  · first
      | exact absurd c5 (by decide)
      | (refine J_blk a_X6_fits_25 ?_
         simp only [b_X6_fits_25, w_iconst_m1, w_ireti, kd_46, kd_47, kd_48, kd_49, kd_50, kd_51, kd_52, kd_53, kd_54, kd_55, kd_56, kd_57, kd_58, kd_59, ln_47, ln_48, ln_49, ln_50, ln_51, ln_52, ln_53, ln_54, ln_55, ln_56, ln_57, ln_58, ln_59, Option.toList_some, Option.toList_none, List.cons_append, List.nil_append, true_and, and_true, if_true, if_false, true_or, or_true, Nat.reduceAdd, Int.reduceAdd, Bool.false_eq_true, tn_0, tn_1, tn_2, tn_3, tn_4, tn_5, tn_6, tn_7, tt, ix0, ad2, t2]
         first | exact ⟨rfl, rfl⟩ | (simp_all [Rt]))
  · first
      | exact absurd c5 (by decide)
      | (refine J_blk a_X6_fits_7 ?_
         simp only [b_X6_fits_7, w_aload_n0, w_iload_n2, w_nil, kd_46, kd_47, kd_48, kd_49, kd_50, kd_51, kd_52, kd_53, kd_54, kd_55, kd_56, kd_57, kd_58, kd_59, ln_47, ln_48, ln_49, ln_50, ln_51, ln_52, ln_53, ln_54, ln_55, ln_56, ln_57, ln_58, ln_59, Option.toList_some, Option.toList_none, List.cons_append, List.nil_append, true_and, and_true, if_true, if_false, true_or, or_true, Nat.reduceAdd, Int.reduceAdd, Bool.false_eq_true, tn_0, tn_1, tn_2, tn_3, tn_4, tn_5, tn_6, tn_7, tt, ix0, ad2, t2]
         refine J_callVr (ci := 6) (isOne_ok _ _) k_X6_fits_9 o_X6_isOne rfl rfl rfl rfl (by decide) rfl (Nat.le_of_ble_eq_true rfl) ?_
         rw [h0, if_pos ho]
         refine J_blk a_X6_fits_12 ?_
         simp only [b_X6_fits_12, w_if_eq, w_nil, kd_46, kd_47, kd_48, kd_49, kd_50, kd_51, kd_52, kd_53, kd_54, kd_55, kd_56, kd_57, kd_58, kd_59, ln_47, ln_48, ln_49, ln_50, ln_51, ln_52, ln_53, ln_54, ln_55, ln_56, ln_57, ln_58, ln_59, Option.toList_some, Option.toList_none, List.cons_append, List.nil_append, true_and, and_true, if_true, if_false, true_or, or_true, Nat.reduceAdd, Int.reduceAdd, Bool.false_eq_true, tn_0, tn_1, tn_2, tn_3, tn_4, tn_5, tn_6, tn_7, tt, ix0, ad2, t2]
         refine ⟨fun c6 => ?_, fun c6 => ?_⟩
         · first
             | exact absurd c6 (by decide)
             | (refine J_blk a_X6_fits_25 ?_
                simp only [b_X6_fits_25, w_iconst_m1, w_ireti, kd_46, kd_47, kd_48, kd_49, kd_50, kd_51, kd_52, kd_53, kd_54, kd_55, kd_56, kd_57, kd_58, kd_59, ln_47, ln_48, ln_49, ln_50, ln_51, ln_52, ln_53, ln_54, ln_55, ln_56, ln_57, ln_58, ln_59, Option.toList_some, Option.toList_none, List.cons_append, List.nil_append, true_and, and_true, if_true, if_false, true_or, or_true, Nat.reduceAdd, Int.reduceAdd, Bool.false_eq_true, tn_0, tn_1, tn_2, tn_3, tn_4, tn_5, tn_6, tn_7, tt, ix0, ad2, t2]
                first | exact ⟨rfl, rfl⟩ | (simp_all [Rt]))
         · first
             | exact absurd c6 (by decide)
             | (refine J_blk a_X6_fits_15 ?_
                simp only [b_X6_fits_15, w_iload_n3, w_i2l, w_lconst_0, w_lconst_1, w_nil, kd_46, kd_47, kd_48, kd_49, kd_50, kd_51, kd_52, kd_53, kd_54, kd_55, kd_56, kd_57, kd_58, kd_59, ln_47, ln_48, ln_49, ln_50, ln_51, ln_52, ln_53, ln_54, ln_55, ln_56, ln_57, ln_58, ln_59, Option.toList_some, Option.toList_none, List.cons_append, List.nil_append, true_and, and_true, if_true, if_false, true_or, or_true, Nat.reduceAdd, Int.reduceAdd, Bool.false_eq_true, tn_0, tn_1, tn_2, tn_3, tn_4, tn_5, tn_6, tn_7, tt, ix0, ad2, t2]
                refine J_callSr (isIn_ok _ _ _ _) k_X6_fits_19 o_X6_isIn rfl (by decide) rfl (Nat.le_of_ble_eq_true rfl) ?_
                (simp only [l_le_1, l_le_2, l_le_3, l_le_5, l_le_7, l_le_8, l_le_9, l_le_10, l_le_13, l_le_20, l_le_30, l_le_60, l_le_99, l_le_9999, l_ge_0, l_ge_1, l_ge_6, l_ge_m1, i64_le]; rw [if_pos (by first | exact h1 | exact h2 | exact h3 | exact h4)])
                refine J_blk a_X6_fits_22 ?_
                simp only [b_X6_fits_22, w_if_ne, w_nil, kd_46, kd_47, kd_48, kd_49, kd_50, kd_51, kd_52, kd_53, kd_54, kd_55, kd_56, kd_57, kd_58, kd_59, ln_47, ln_48, ln_49, ln_50, ln_51, ln_52, ln_53, ln_54, ln_55, ln_56, ln_57, ln_58, ln_59, Option.toList_some, Option.toList_none, List.cons_append, List.nil_append, true_and, and_true, if_true, if_false, true_or, or_true, Nat.reduceAdd, Int.reduceAdd, Bool.false_eq_true, tn_0, tn_1, tn_2, tn_3, tn_4, tn_5, tn_6, tn_7, tt, ix0, ad2, t2]
                refine ⟨fun c7 => ?_, fun c7 => ?_⟩
                · first
                    | exact absurd c7 (by decide)
                    | (refine J_blk a_X6_fits_27 ?_
                       simp only [b_X6_fits_27, w_aload_n0, w_getf6, ne0_7, w_iload_n1, w_iald, w_if_ge, w_nil, kd_46, kd_47, kd_48, kd_49, kd_50, kd_51, kd_52, kd_53, kd_54, kd_55, kd_56, kd_57, kd_58, kd_59, ln_47, ln_48, ln_49, ln_50, ln_51, ln_52, ln_53, ln_54, ln_55, ln_56, ln_57, ln_58, ln_59, Option.toList_some, Option.toList_none, List.cons_append, List.nil_append, true_and, and_true, if_true, if_false, true_or, or_true, Nat.reduceAdd, Int.reduceAdd, Bool.false_eq_true, tn_0, tn_1, tn_2, tn_3, tn_4, tn_5, tn_6, tn_7, tt, ix0, ad2, t2]
                       refine ⟨(vinN (by omega) (by decide)), ?_⟩
                       refine ⟨fun c8 => ?_, fun c8 => ?_⟩
                       · first
                           | exact absurd c8 (by decide)
                           | (refine J_blk a_X6_fits_39 ?_
                              simp only [b_X6_fits_39, w_bipush, ci_8, ci_6, w_iload_n2, w_imul, w_iadd, w_iconst_2, w_istore4, nl_4n, nl_4i, nl_4a, w_aload_n0, w_getf6, ne0_1, w_iload4, w_iald, w_istore5, nl_5n, nl_5i, nl_5a, w_iconst_0, w_istore6, nl_6n, nl_6i, nl_6a, ci_m3, w_istore7, nl_7n, nl_7i, nl_7a, ci_9, w_istore8, nl_8n, nl_8i, nl_8a, w_nil, kd_46, kd_47, kd_48, kd_49, kd_50, kd_51, kd_52, kd_53, kd_54, kd_55, kd_56, kd_57, kd_58, kd_59, ln_47, ln_48, ln_49, ln_50, ln_51, ln_52, ln_53, ln_54, ln_55, ln_56, ln_57, ln_58, ln_59, Option.toList_some, Option.toList_none, List.cons_append, List.nil_append, true_and, and_true, if_true, if_false, true_or, or_true, Nat.reduceAdd, Int.reduceAdd, Bool.false_eq_true, tn_0, tn_1, tn_2, tn_3, tn_4, tn_5, tn_6, tn_7, tt, ix0, ad2, t2]
                              refine ⟨(vinN (by omega) (by decide)), ?_⟩
                              exact l0)
                       · first
                           | exact absurd c8 (by decide)
                           | (exact absurd (Int32.not_le.mp (by assumption)) hs))
                · first
                    | exact absurd c7 (by decide)
                    | (refine J_blk a_X6_fits_25 ?_
                       simp only [b_X6_fits_25, w_iconst_m1, w_ireti, kd_46, kd_47, kd_48, kd_49, kd_50, kd_51, kd_52, kd_53, kd_54, kd_55, kd_56, kd_57, kd_58, kd_59, ln_47, ln_48, ln_49, ln_50, ln_51, ln_52, ln_53, ln_54, ln_55, ln_56, ln_57, ln_58, ln_59, Option.toList_some, Option.toList_none, List.cons_append, List.nil_append, true_and, and_true, if_true, if_false, true_or, or_true, Nat.reduceAdd, Int.reduceAdd, Bool.false_eq_true, tn_0, tn_1, tn_2, tn_3, tn_4, tn_5, tn_6, tn_7, tt, ix0, ad2, t2]
                       first | exact ⟨rfl, rfl⟩ | (simp_all [Rt]))))
def bS (s : Nat → Int32) (o : Nat) : Int32 := if sd s o = true then 1 else 0
def pvR (s : Nat → Int32) (n o : Nat) (r : Nat → Int32) : Nat → (Nat → Int32)
  | 0 => r
  | k + 1 => upd (upd (upd (pvR s n o r k) (3 * k + 2) (sumS (yrs s n k) n)) (3 * k) (yrs s n (k + 1) (8 + 6 * o + 2))) (3 * k + 1) (bS (yrs s n (k + 1)) o)
theorem su_c2 (M : Mm) (g r w : Nat → Int32) : su (su (Mg M g r) 52 w) 47 r = su (Mg M g r) 52 w := by
  rw [su_comm _ _ _ (show (52 : Nat) ≠ 47 by decide), Mg_su]
def Mp (M : Mm) (g r w : Nat → Int32) : Mm := Mg (su M 52 w) g r
theorem Mp_47 (M : Mm) (g r w : Nat → Int32) : (Mp M g r w).1 47 = r := Mg47 _ _ _
theorem Mp_su (M : Mm) (g r w r' : Nat → Int32) : su (Mp M g r w) 47 r' = Mp M g r' w := Mg_su _ _ _ _
theorem Mp_52 (M : Mm) (g r w : Nat → Int32) : (Mp M g r w).1 52 = w := by unfold Mp; rw [Mg_ne _ _ _ (by decide) (by decide), su_at]
theorem Mp_u1 (M : Mm) (g r w : Nat → Int32) (j : Nat) (v : Int32) : u1 (Mp M g r w) 52 j v = Mp M g r (upd w j v) := by
  rw [u1_row, Mp_52]
  unfold Mp Mg
  rw [su_comm _ _ _ (show (47 : Nat) ≠ 52 by decide), su_comm _ _ _ (show (49 : Nat) ≠ 52 by decide), su_su]
theorem Mp_ini (M : Mm) (g r : Nat → Int32) : Mg M g r = Mp M g r (M.1 52) := by unfold Mp; rw [su_self]
theorem mprove_t (n o y : Nat) (M : Mm) (hw : WF (M.1 47) n) (hj : o < n) (hy : 1 ≤ y) (hy2 : y ≤ 10) : K 4 mX6_prove [.ref 46, .int (nI o), .int (nI y)] M (Rt (some (.int (nI y))) (u1 (asd (su M 52 (pvR (M.1 47) n o (M.1 52) y))) 46 13 (nI y))) := by
  have h0 := hw.1
  have h8 := hw.2.1
  have ho := ok1 hj (by omega)
  have h1 : 1 ≤ nI y ∧ nI y ≤ 10 := ok3 (m := 10) hy hy2 (by decide)
  have loop : ∀ k, k ≤ y → J 4 mX6_prove 35 [some (.ref 46), some (.int (nI o)), some (.int (nI y)), some (.int (nI k))] [] (Mp M (cpN (M.1 47) (M.1 49) 56) (yrs (M.1 47) n k) (pvR (M.1 47) n o (M.1 52) k)) (Rt (some (.int (nI y))) (u1 (asd (su M 52 (pvR (M.1 47) n o (M.1 52) y))) 46 13 (nI y))) := by
    refine down y ?_ ?_
    · refine J_blk a_X6_prove_35 ?_
      simp only [b_X6_prove_35, w_iload_n3, w_iload_n2, w_icmp_ge, w_nil, kd_46, kd_47, kd_48, kd_49, kd_50, kd_51, kd_52, kd_53, kd_54, kd_55, kd_56, kd_57, kd_58, kd_59, ln_47, ln_48, ln_49, ln_50, ln_51, ln_52, ln_53, ln_54, ln_55, ln_56, ln_57, ln_58, ln_59, Option.toList_some, Option.toList_none, List.cons_append, List.nil_append, true_and, and_true, if_true, if_false, true_or, or_true, Nat.reduceAdd, Int.reduceAdd, Bool.false_eq_true, tn_0, tn_1, tn_2, tn_3, tn_4, tn_5, tn_6, tn_7]
      refine ⟨fun _ => ?_, fun h => absurd (Int32.le_refl _) h⟩
      refine J_blk a_X6_prove_97 ?_
      simp only [b_X6_prove_97, w_aload_n0, w_getf6, ne0_3, ne0_1, w_nil, kd_46, kd_47, kd_48, kd_49, kd_50, kd_51, kd_52, kd_53, kd_54, kd_55, kd_56, kd_57, kd_58, kd_59, ln_47, ln_48, ln_49, ln_50, ln_51, ln_52, ln_53, ln_54, ln_55, ln_56, ln_57, ln_58, ln_59, Option.toList_some, Option.toList_none, List.cons_append, List.nil_append, true_and, and_true, if_true, if_false, true_or, or_true, Nat.reduceAdd, Int.reduceAdd, Bool.false_eq_true, tn_0, tn_1, tn_2, tn_3, tn_4, tn_5, tn_6, tn_7]
      refine J_callSr (copyRow_ok 49 47 _ rfl rfl rfl rfl (by decide)) k_X6_prove_105 o_X6_copyRow rfl (by decide) rfl (Nat.le_of_ble_eq_true rfl) ?_
      unfold Mp
      rw [back_Mg _ _ _ _ (fun j hj => yrs_hi _ h8 hj _)]
      rw [show Mg (su M 52 (pvR (M.1 47) n o (M.1 52) y)) (cpN (M.1 47) (M.1 49) 56) (M.1 47) = asd (su M 52 (pvR (M.1 47) n o (M.1 52) y)) by
        rw [asd_Mg, su_ne _ _ _ _ (show (47 : Nat) ≠ 52 by decide), su_ne _ _ _ _ (show (49 : Nat) ≠ 52 by decide)]]
      refine J_blk a_X6_prove_108 ?_
      simp only [b_X6_prove_108, w_aload_n0, w_iload_n2, w_putf6, w_ireti, kd_46, kd_47, kd_48, kd_49, kd_50, kd_51, kd_52, kd_53, kd_54, kd_55, kd_56, kd_57, kd_58, kd_59, ln_47, ln_48, ln_49, ln_50, ln_51, ln_52, ln_53, ln_54, ln_55, ln_56, ln_57, ln_58, ln_59, Option.toList_some, Option.toList_none, List.cons_append, List.nil_append, true_and, and_true, if_true, if_false, true_or, or_true, Nat.reduceAdd, Int.reduceAdd, Bool.false_eq_true, tn_0, tn_1, tn_2, tn_3, tn_4, tn_5, tn_6, tn_7]
      exact ⟨rfl, rfl⟩
    · intro k hk ih
      have e3 : (3 : Int32) * nI k = nI (3 * k) := pk_mul 3 k
      have a0 : (nI (3 * k)).toNatClampNeg = 3 * k := nI_clamp (by omega)
      have a1 : (nI (3 * k + 1)).toNatClampNeg = 3 * k + 1 := nI_clamp (by omega)
      have a2 : (nI (3 * k + 2)).toNatClampNeg = 3 * k + 2 := nI_clamp (by omega)
      refine J_blk a_X6_prove_35 ?_
      simp only [b_X6_prove_35, w_iload_n3, w_iload_n2, w_icmp_ge, w_nil, kd_46, kd_47, kd_48, kd_49, kd_50, kd_51, kd_52, kd_53, kd_54, kd_55, kd_56, kd_57, kd_58, kd_59, ln_47, ln_48, ln_49, ln_50, ln_51, ln_52, ln_53, ln_54, ln_55, ln_56, ln_57, ln_58, ln_59, Option.toList_some, Option.toList_none, List.cons_append, List.nil_append, true_and, and_true, if_true, if_false, true_or, or_true, Nat.reduceAdd, Int.reduceAdd, Bool.false_eq_true, tn_0, tn_1, tn_2, tn_3, tn_4, tn_5, tn_6, tn_7]
      refine ⟨fun h => absurd h (nI_ge hk (by omega)), fun _ => ?_⟩
      refine J_blk a_X6_prove_40 ?_
      simp only [b_X6_prove_40, w_aload_n0, w_getf6, ne0_6, w_iconst_3, w_iload_n3, w_imul, w_iconst_2, w_iadd, w_nil, kd_46, kd_47, kd_48, kd_49, kd_50, kd_51, kd_52, kd_53, kd_54, kd_55, kd_56, kd_57, kd_58, kd_59, ln_47, ln_48, ln_49, ln_50, ln_51, ln_52, ln_53, ln_54, ln_55, ln_56, ln_57, ln_58, ln_59, Option.toList_some, Option.toList_none, List.cons_append, List.nil_append, true_and, and_true, if_true, if_false, true_or, or_true, Nat.reduceAdd, Int.reduceAdd, Bool.false_eq_true, tn_0, tn_1, tn_2, tn_3, tn_4, tn_5, tn_6, tn_7]
      refine J_callVr (ci := 6) (goesOn_ok n _ (by rw [Mp_47]; exact WF_yrs hw k)) k_X6_prove_50 o_X6_goesOn rfl rfl rfl rfl (by decide) rfl (Nat.le_of_ble_eq_true rfl) ?_
      rw [Mp_47, Mp_su]
      refine J_blk a_X6_prove_53 ?_
      simp only [b_X6_prove_53, w_iast, w_aload_n0, w_getf6, ne0_6, w_iconst_3, w_iload_n3, w_imul, w_iload_n1, w_iconst_2, w_nil, kd_46, kd_47, kd_48, kd_49, kd_50, kd_51, kd_52, kd_53, kd_54, kd_55, kd_56, kd_57, kd_58, kd_59, ln_47, ln_48, ln_49, ln_50, ln_51, ln_52, ln_53, ln_54, ln_55, ln_56, ln_57, ln_58, ln_59, Option.toList_some, Option.toList_none, List.cons_append, List.nil_append, true_and, and_true, if_true, if_false, true_or, or_true, Nat.reduceAdd, Int.reduceAdd, Bool.false_eq_true, tn_0, tn_1, tn_2, tn_3, tn_4, tn_5, tn_6, tn_7, e3, ad2, a2, Mp_u1]
      refine ⟨vinN (by omega) (by decide), ?_⟩
      refine J_callVr (ci := 6) (its_ok o 2 _ (by omega)) k_X6_prove_64 o_X6_its rfl rfl rfl rfl (by decide) rfl (Nat.le_of_ble_eq_true rfl) ?_
      refine J_blk a_X6_prove_67 ?_
      simp only [b_X6_prove_67, w_iast, w_aload_n0, w_getf6, ne0_6, w_iconst_3, w_iload_n3, w_imul, w_iconst_1, w_iadd, w_iload_n1, w_nil, kd_46, kd_47, kd_48, kd_49, kd_50, kd_51, kd_52, kd_53, kd_54, kd_55, kd_56, kd_57, kd_58, kd_59, ln_47, ln_48, ln_49, ln_50, ln_51, ln_52, ln_53, ln_54, ln_55, ln_56, ln_57, ln_58, ln_59, Option.toList_some, Option.toList_none, List.cons_append, List.nil_append, true_and, and_true, if_true, if_false, true_or, or_true, Nat.reduceAdd, Int.reduceAdd, Bool.false_eq_true, tn_0, tn_1, tn_2, tn_3, tn_4, tn_5, tn_6, tn_7, a0, Mp_u1, Mp_47, e3, ad1]
      refine ⟨vinN (by omega) (by decide), ?_⟩
      refine J_callVr (ci := 6) (stands_ok o n _ (by rw [Mp_47]; exact WF_yrs hw (k + 1)) hj) k_X6_prove_79 o_X6_stands rfl rfl rfl rfl (by decide) rfl (Nat.le_of_ble_eq_true rfl) ?_
      rw [Mp_47]
      have e : ∀ v, v = bS (yrs (M.1 47) n (k + 1)) o → J 4 mX6_prove 90 [some (.ref 46), some (.int (nI o)), some (.int (nI y)), some (.int (nI k))] [.int v, .int (nI (3 * k + 1)), .ref 52] (Mp M (cpN (M.1 47) (M.1 49) 56) (yearS (yrs (M.1 47) n k) n) (upd (upd (pvR (M.1 47) n o (M.1 52) k) (3 * k + 2) (sumS (yrs (M.1 47) n k) n)) (3 * k) (yearS (yrs (M.1 47) n k) n (8 + 6 * o + 2)))) (Rt (some (.int (nI y))) (u1 (asd (su M 52 (pvR (M.1 47) n o (M.1 52) y))) 46 13 (nI y))) := by
        intro v hv
        refine J_blk a_X6_prove_90 ?_
        simp only [b_X6_prove_90, w_iast, w_iinc3, nl_3n, nl_3i, nl_3a, ci_1, w_goto, kd_46, kd_47, kd_48, kd_49, kd_50, kd_51, kd_52, kd_53, kd_54, kd_55, kd_56, kd_57, kd_58, kd_59, ln_47, ln_48, ln_49, ln_50, ln_51, ln_52, ln_53, ln_54, ln_55, ln_56, ln_57, ln_58, ln_59, Option.toList_some, Option.toList_none, List.cons_append, List.nil_append, true_and, and_true, if_true, if_false, true_or, or_true, Nat.reduceAdd, Int.reduceAdd, Bool.false_eq_true, tn_0, tn_1, tn_2, tn_3, tn_4, tn_5, tn_6, tn_7, a1, Mp_u1, nI_1]
        refine ⟨vinN (by omega) (by decide), ?_⟩
        rw [hv]
        exact ih
      by_cases hs : sd (yearS (yrs (M.1 47) n k) n) o = true
      · rw [if_pos hs]
        refine J_blk a_X6_prove_82 ?_
        simp only [b_X6_prove_82, w_if_eq, w_nil, kd_46, kd_47, kd_48, kd_49, kd_50, kd_51, kd_52, kd_53, kd_54, kd_55, kd_56, kd_57, kd_58, kd_59, ln_47, ln_48, ln_49, ln_50, ln_51, ln_52, ln_53, ln_54, ln_55, ln_56, ln_57, ln_58, ln_59, Option.toList_some, Option.toList_none, List.cons_append, List.nil_append, true_and, and_true, if_true, if_false, true_or, or_true, Nat.reduceAdd, Int.reduceAdd, Bool.false_eq_true, tn_0, tn_1, tn_2, tn_3, tn_4, tn_5, tn_6, tn_7]
        refine ⟨fun h => absurd h (by decide), fun _ => ?_⟩
        refine J_blk a_X6_prove_85 ?_
        simp only [b_X6_prove_85, w_iconst_1, w_goto, kd_46, kd_47, kd_48, kd_49, kd_50, kd_51, kd_52, kd_53, kd_54, kd_55, kd_56, kd_57, kd_58, kd_59, ln_47, ln_48, ln_49, ln_50, ln_51, ln_52, ln_53, ln_54, ln_55, ln_56, ln_57, ln_58, ln_59, Option.toList_some, Option.toList_none, List.cons_append, List.nil_append, true_and, and_true, if_true, if_false, true_or, or_true, Nat.reduceAdd, Int.reduceAdd, Bool.false_eq_true, tn_0, tn_1, tn_2, tn_3, tn_4, tn_5, tn_6, tn_7]
        exact e _ (by unfold bS; exact (if_pos hs).symm)
      · rw [if_neg hs]
        refine J_blk a_X6_prove_82 ?_
        simp only [b_X6_prove_82, w_if_eq, w_nil, kd_46, kd_47, kd_48, kd_49, kd_50, kd_51, kd_52, kd_53, kd_54, kd_55, kd_56, kd_57, kd_58, kd_59, ln_47, ln_48, ln_49, ln_50, ln_51, ln_52, ln_53, ln_54, ln_55, ln_56, ln_57, ln_58, ln_59, Option.toList_some, Option.toList_none, List.cons_append, List.nil_append, true_and, and_true, if_true, if_false, true_or, or_true, Nat.reduceAdd, Int.reduceAdd, Bool.false_eq_true, tn_0, tn_1, tn_2, tn_3, tn_4, tn_5, tn_6, tn_7]
        refine ⟨fun _ => ?_, fun h => absurd trivial h⟩
        refine J_blk a_X6_prove_89 ?_
        simp only [b_X6_prove_89, w_iconst_0, w_nil, kd_46, kd_47, kd_48, kd_49, kd_50, kd_51, kd_52, kd_53, kd_54, kd_55, kd_56, kd_57, kd_58, kd_59, ln_47, ln_48, ln_49, ln_50, ln_51, ln_52, ln_53, ln_54, ln_55, ln_56, ln_57, ln_58, ln_59, Option.toList_some, Option.toList_none, List.cons_append, List.nil_append, true_and, and_true, if_true, if_false, true_or, or_true, Nat.reduceAdd, Int.reduceAdd, Bool.false_eq_true, tn_0, tn_1, tn_2, tn_3, tn_4, tn_5, tn_6, tn_7]
        exact e _ (by unfold bS; exact (if_neg hs).symm)
  have l0 := loop 0 (by omega)
  have go : J 4 mX6_prove 22 [some (.ref 46), some (.int (nI o)), some (.int (nI y)), none] [] M (Rt (some (.int (nI y))) (u1 (asd (su M 52 (pvR (M.1 47) n o (M.1 52) y))) 46 13 (nI y))) := by
    refine J_blk a_X6_prove_22 ?_
    simp only [b_X6_prove_22, w_aload_n0, w_getf6, ne0_1, ne0_3, w_nil, kd_46, kd_47, kd_48, kd_49, kd_50, kd_51, kd_52, kd_53, kd_54, kd_55, kd_56, kd_57, kd_58, kd_59, ln_47, ln_48, ln_49, ln_50, ln_51, ln_52, ln_53, ln_54, ln_55, ln_56, ln_57, ln_58, ln_59, Option.toList_some, Option.toList_none, List.cons_append, List.nil_append, true_and, and_true, if_true, if_false, true_or, or_true, Nat.reduceAdd, Int.reduceAdd, Bool.false_eq_true, tn_0, tn_1, tn_2, tn_3, tn_4, tn_5, tn_6, tn_7]
    refine J_callSr (copyRow_ok 47 49 M rfl rfl rfl rfl (by decide)) k_X6_prove_30 o_X6_copyRow rfl (by decide) rfl (Nat.le_of_ble_eq_true rfl) ?_
    rw [show su M 49 (cpN (M.1 47) (M.1 49) 56) = asd M from rfl]
    refine J_blk a_X6_prove_33 ?_
    simp only [b_X6_prove_33, w_iconst_0, w_istore3, nl_3n, nl_3i, nl_3a, w_nil, kd_46, kd_47, kd_48, kd_49, kd_50, kd_51, kd_52, kd_53, kd_54, kd_55, kd_56, kd_57, kd_58, kd_59, ln_47, ln_48, ln_49, ln_50, ln_51, ln_52, ln_53, ln_54, ln_55, ln_56, ln_57, ln_58, ln_59, Option.toList_some, Option.toList_none, List.cons_append, List.nil_append, true_and, and_true, if_true, if_false, true_or, or_true, Nat.reduceAdd, Int.reduceAdd, Bool.false_eq_true, tn_0, tn_1, tn_2, tn_3, tn_4, tn_5, tn_6, tn_7]
    rw [asd_Mg M, Mp_ini]
    exact l0
  refine K_go 2 o_X6_prove [none] rfl (Nat.le_of_ble_eq_true rfl) ?_
  simp only [lvA_i, lvA_a, lvA_l, lvA_nil, List.cons_append, List.nil_append]
  refine J_blk a_X6_prove_0 ?_
  simp only [b_X6_prove_0, w_aload_n0, w_iload_n1, w_nil, kd_46, kd_47, kd_48, kd_49, kd_50, kd_51, kd_52, kd_53, kd_54, kd_55, kd_56, kd_57, kd_58, kd_59, ln_47, ln_48, ln_49, ln_50, ln_51, ln_52, ln_53, ln_54, ln_55, ln_56, ln_57, ln_58, ln_59, Option.toList_some, Option.toList_none, List.cons_append, List.nil_append, true_and, and_true, if_true, if_false, true_or, or_true, Nat.reduceAdd, Int.reduceAdd, Bool.false_eq_true, tn_0, tn_1, tn_2, tn_3, tn_4, tn_5, tn_6, tn_7]
  refine J_callVr (ci := 6) (isOne_ok _ _) k_X6_prove_2 o_X6_isOne rfl rfl rfl rfl (by decide) rfl (Nat.le_of_ble_eq_true rfl) ?_
  rw [h0, if_pos ho]
  refine J_blk a_X6_prove_5 ?_
  simp only [b_X6_prove_5, w_if_eq, w_nil, kd_46, kd_47, kd_48, kd_49, kd_50, kd_51, kd_52, kd_53, kd_54, kd_55, kd_56, kd_57, kd_58, kd_59, ln_47, ln_48, ln_49, ln_50, ln_51, ln_52, ln_53, ln_54, ln_55, ln_56, ln_57, ln_58, ln_59, Option.toList_some, Option.toList_none, List.cons_append, List.nil_append, true_and, and_true, if_true, if_false, true_or, or_true, Nat.reduceAdd, Int.reduceAdd, Bool.false_eq_true, tn_0, tn_1, tn_2, tn_3, tn_4, tn_5, tn_6, tn_7]
  refine ⟨fun c9 => ?_, fun c9 => ?_⟩
  · first
      | exact absurd c9 (by decide)
      | (refine J_blk a_X6_prove_20 ?_
         simp only [b_X6_prove_20, w_iconst_m1, w_ireti, kd_46, kd_47, kd_48, kd_49, kd_50, kd_51, kd_52, kd_53, kd_54, kd_55, kd_56, kd_57, kd_58, kd_59, ln_47, ln_48, ln_49, ln_50, ln_51, ln_52, ln_53, ln_54, ln_55, ln_56, ln_57, ln_58, ln_59, Option.toList_some, Option.toList_none, List.cons_append, List.nil_append, true_and, and_true, if_true, if_false, true_or, or_true, Nat.reduceAdd, Int.reduceAdd, Bool.false_eq_true, tn_0, tn_1, tn_2, tn_3, tn_4, tn_5, tn_6, tn_7]
         first | exact ⟨rfl, rfl⟩ | (simp_all [Rt]))
  · first
      | exact absurd c9 (by decide)
      | (refine J_blk a_X6_prove_8 ?_
         simp only [b_X6_prove_8, w_iload_n2, w_i2l, w_lconst_1, w_ldc2, cl_10, w_nil, kd_46, kd_47, kd_48, kd_49, kd_50, kd_51, kd_52, kd_53, kd_54, kd_55, kd_56, kd_57, kd_58, kd_59, ln_47, ln_48, ln_49, ln_50, ln_51, ln_52, ln_53, ln_54, ln_55, ln_56, ln_57, ln_58, ln_59, Option.toList_some, Option.toList_none, List.cons_append, List.nil_append, true_and, and_true, if_true, if_false, true_or, or_true, Nat.reduceAdd, Int.reduceAdd, Bool.false_eq_true, tn_0, tn_1, tn_2, tn_3, tn_4, tn_5, tn_6, tn_7]
         refine J_callSr (isIn_ok _ _ _ _) k_X6_prove_14 o_X6_isIn rfl (by decide) rfl (Nat.le_of_ble_eq_true rfl) ?_
         (simp only [l_le_1, l_le_2, l_le_3, l_le_5, l_le_7, l_le_8, l_le_9, l_le_10, l_le_13, l_le_20, l_le_30, l_le_60, l_le_99, l_le_9999, l_ge_0, l_ge_1, l_ge_6, l_ge_m1, i64_le]; rw [if_pos (by first | exact h1 | exact h2 | exact h3 | exact h4)])
         refine J_blk a_X6_prove_17 ?_
         simp only [b_X6_prove_17, w_if_ne, w_nil, kd_46, kd_47, kd_48, kd_49, kd_50, kd_51, kd_52, kd_53, kd_54, kd_55, kd_56, kd_57, kd_58, kd_59, ln_47, ln_48, ln_49, ln_50, ln_51, ln_52, ln_53, ln_54, ln_55, ln_56, ln_57, ln_58, ln_59, Option.toList_some, Option.toList_none, List.cons_append, List.nil_append, true_and, and_true, if_true, if_false, true_or, or_true, Nat.reduceAdd, Int.reduceAdd, Bool.false_eq_true, tn_0, tn_1, tn_2, tn_3, tn_4, tn_5, tn_6, tn_7]
         refine ⟨fun c10 => ?_, fun c10 => ?_⟩
         · first
             | exact absurd c10 (by decide)
             | (exact go)
         · first
             | exact absurd c10 (by decide)
             | (refine J_blk a_X6_prove_20 ?_
                simp only [b_X6_prove_20, w_iconst_m1, w_ireti, kd_46, kd_47, kd_48, kd_49, kd_50, kd_51, kd_52, kd_53, kd_54, kd_55, kd_56, kd_57, kd_58, kd_59, ln_47, ln_48, ln_49, ln_50, ln_51, ln_52, ln_53, ln_54, ln_55, ln_56, ln_57, ln_58, ln_59, Option.toList_some, Option.toList_none, List.cons_append, List.nil_append, true_and, and_true, if_true, if_false, true_or, or_true, Nat.reduceAdd, Int.reduceAdd, Bool.false_eq_true, tn_0, tn_1, tn_2, tn_3, tn_4, tn_5, tn_6, tn_7]
                first | exact ⟨rfl, rfl⟩ | (simp_all [Rt])))
theorem isRow_ok (i w : Int32) (M : Mm) : K 1 mX6_isRow [.ref 46, .int i, .int w] M (Rt (some (.int (if (0 ≤ i ∧ i ≤ M.1 46 13 - 1) ∧ (0 ≤ w ∧ w ≤ 2) then 1 else 0))) M) := by
  refine K_go 2 o_X6_isRow [] rfl (Nat.le_of_ble_eq_true rfl) ?_
  simp only [lvA_i, lvA_a, lvA_l, lvA_nil, List.cons_append, List.nil_append]
  refine J_blk a_X6_isRow_0 ?_
  simp only [b_X6_isRow_0, w_iload_n1, w_i2l, w_lconst_0, w_aload_n0, w_getf6, w_iconst_1, w_isub, w_nil, kd_46, kd_47, kd_48, kd_49, kd_50, kd_51, kd_52, kd_53, kd_54, kd_55, kd_56, kd_57, kd_58, kd_59, ln_47, ln_48, ln_49, ln_50, ln_51, ln_52, ln_53, ln_54, ln_55, ln_56, ln_57, ln_58, ln_59, Option.toList_some, Option.toList_none, List.cons_append, List.nil_append, true_and, and_true, if_true, if_false, true_or, or_true, Nat.reduceAdd, Int.reduceAdd, Bool.false_eq_true, tn_0, tn_1, tn_2, tn_3, tn_4, tn_5, tn_6, tn_7]
  refine J_callSr (isIn_ok _ _ _ _) k_X6_isRow_10 o_X6_isIn rfl (by decide) rfl (Nat.le_of_ble_eq_true rfl) ?_
  simp only [l_le_1, l_le_2, l_le_3, l_le_5, l_le_7, l_le_8, l_le_9, l_le_10, l_le_13, l_le_20, l_le_30, l_le_60, l_le_99, l_le_9999, l_ge_0, l_ge_1, l_ge_6, l_ge_m1, i64_le]
  refine J_blk a_X6_isRow_13 ?_
  simp only [b_X6_isRow_13, w_if_eq, w_nil, kd_46, kd_47, kd_48, kd_49, kd_50, kd_51, kd_52, kd_53, kd_54, kd_55, kd_56, kd_57, kd_58, kd_59, ln_47, ln_48, ln_49, ln_50, ln_51, ln_52, ln_53, ln_54, ln_55, ln_56, ln_57, ln_58, ln_59, Option.toList_some, Option.toList_none, List.cons_append, List.nil_append, true_and, and_true, if_true, if_false, true_or, or_true, Nat.reduceAdd, Int.reduceAdd, Bool.false_eq_true, tn_0, tn_1, tn_2, tn_3, tn_4, tn_5, tn_6, tn_7]
  refine ⟨fun c11 => ?_, fun c11 => ?_⟩
  · refine J_blk a_X6_isRow_32 ?_
    simp only [b_X6_isRow_32, w_iconst_0, w_nil, kd_46, kd_47, kd_48, kd_49, kd_50, kd_51, kd_52, kd_53, kd_54, kd_55, kd_56, kd_57, kd_58, kd_59, ln_47, ln_48, ln_49, ln_50, ln_51, ln_52, ln_53, ln_54, ln_55, ln_56, ln_57, ln_58, ln_59, Option.toList_some, Option.toList_none, List.cons_append, List.nil_append, true_and, and_true, if_true, if_false, true_or, or_true, Nat.reduceAdd, Int.reduceAdd, Bool.false_eq_true, tn_0, tn_1, tn_2, tn_3, tn_4, tn_5, tn_6, tn_7]
    refine J_blk a_X6_isRow_33 ?_
    simp only [b_X6_isRow_33, w_iretz, kd_46, kd_47, kd_48, kd_49, kd_50, kd_51, kd_52, kd_53, kd_54, kd_55, kd_56, kd_57, kd_58, kd_59, ln_47, ln_48, ln_49, ln_50, ln_51, ln_52, ln_53, ln_54, ln_55, ln_56, ln_57, ln_58, ln_59, Option.toList_some, Option.toList_none, List.cons_append, List.nil_append, true_and, and_true, if_true, if_false, true_or, or_true, Nat.reduceAdd, Int.reduceAdd, Bool.false_eq_true, tn_0, tn_1, tn_2, tn_3, tn_4, tn_5, tn_6, tn_7]
    try refine ⟨(by first | exact Or.inl rfl | exact Or.inr rfl), ?_⟩
    exact ⟨by grind, rfl⟩
  · refine J_blk a_X6_isRow_16 ?_
    simp only [b_X6_isRow_16, w_iload_n2, w_i2l, w_lconst_0, w_ldc2, cl_2, w_nil, kd_46, kd_47, kd_48, kd_49, kd_50, kd_51, kd_52, kd_53, kd_54, kd_55, kd_56, kd_57, kd_58, kd_59, ln_47, ln_48, ln_49, ln_50, ln_51, ln_52, ln_53, ln_54, ln_55, ln_56, ln_57, ln_58, ln_59, Option.toList_some, Option.toList_none, List.cons_append, List.nil_append, true_and, and_true, if_true, if_false, true_or, or_true, Nat.reduceAdd, Int.reduceAdd, Bool.false_eq_true, tn_0, tn_1, tn_2, tn_3, tn_4, tn_5, tn_6, tn_7]
    refine J_callSr (isIn_ok _ _ _ _) k_X6_isRow_22 o_X6_isIn rfl (by decide) rfl (Nat.le_of_ble_eq_true rfl) ?_
    simp only [l_le_1, l_le_2, l_le_3, l_le_5, l_le_7, l_le_8, l_le_9, l_le_10, l_le_13, l_le_20, l_le_30, l_le_60, l_le_99, l_le_9999, l_ge_0, l_ge_1, l_ge_6, l_ge_m1, i64_le]
    refine J_blk a_X6_isRow_25 ?_
    simp only [b_X6_isRow_25, w_if_eq, w_nil, kd_46, kd_47, kd_48, kd_49, kd_50, kd_51, kd_52, kd_53, kd_54, kd_55, kd_56, kd_57, kd_58, kd_59, ln_47, ln_48, ln_49, ln_50, ln_51, ln_52, ln_53, ln_54, ln_55, ln_56, ln_57, ln_58, ln_59, Option.toList_some, Option.toList_none, List.cons_append, List.nil_append, true_and, and_true, if_true, if_false, true_or, or_true, Nat.reduceAdd, Int.reduceAdd, Bool.false_eq_true, tn_0, tn_1, tn_2, tn_3, tn_4, tn_5, tn_6, tn_7]
    refine ⟨fun c12 => ?_, fun c12 => ?_⟩
    · refine J_blk a_X6_isRow_32 ?_
      simp only [b_X6_isRow_32, w_iconst_0, w_nil, kd_46, kd_47, kd_48, kd_49, kd_50, kd_51, kd_52, kd_53, kd_54, kd_55, kd_56, kd_57, kd_58, kd_59, ln_47, ln_48, ln_49, ln_50, ln_51, ln_52, ln_53, ln_54, ln_55, ln_56, ln_57, ln_58, ln_59, Option.toList_some, Option.toList_none, List.cons_append, List.nil_append, true_and, and_true, if_true, if_false, true_or, or_true, Nat.reduceAdd, Int.reduceAdd, Bool.false_eq_true, tn_0, tn_1, tn_2, tn_3, tn_4, tn_5, tn_6, tn_7]
      refine J_blk a_X6_isRow_33 ?_
      simp only [b_X6_isRow_33, w_iretz, kd_46, kd_47, kd_48, kd_49, kd_50, kd_51, kd_52, kd_53, kd_54, kd_55, kd_56, kd_57, kd_58, kd_59, ln_47, ln_48, ln_49, ln_50, ln_51, ln_52, ln_53, ln_54, ln_55, ln_56, ln_57, ln_58, ln_59, Option.toList_some, Option.toList_none, List.cons_append, List.nil_append, true_and, and_true, if_true, if_false, true_or, or_true, Nat.reduceAdd, Int.reduceAdd, Bool.false_eq_true, tn_0, tn_1, tn_2, tn_3, tn_4, tn_5, tn_6, tn_7]
      try refine ⟨(by first | exact Or.inl rfl | exact Or.inr rfl), ?_⟩
      exact ⟨by grind, rfl⟩
    · refine J_blk a_X6_isRow_28 ?_
      simp only [b_X6_isRow_28, w_iconst_1, w_goto, kd_46, kd_47, kd_48, kd_49, kd_50, kd_51, kd_52, kd_53, kd_54, kd_55, kd_56, kd_57, kd_58, kd_59, ln_47, ln_48, ln_49, ln_50, ln_51, ln_52, ln_53, ln_54, ln_55, ln_56, ln_57, ln_58, ln_59, Option.toList_some, Option.toList_none, List.cons_append, List.nil_append, true_and, and_true, if_true, if_false, true_or, or_true, Nat.reduceAdd, Int.reduceAdd, Bool.false_eq_true, tn_0, tn_1, tn_2, tn_3, tn_4, tn_5, tn_6, tn_7]
      refine J_blk a_X6_isRow_33 ?_
      simp only [b_X6_isRow_33, w_iretz, kd_46, kd_47, kd_48, kd_49, kd_50, kd_51, kd_52, kd_53, kd_54, kd_55, kd_56, kd_57, kd_58, kd_59, ln_47, ln_48, ln_49, ln_50, ln_51, ln_52, ln_53, ln_54, ln_55, ln_56, ln_57, ln_58, ln_59, Option.toList_some, Option.toList_none, List.cons_append, List.nil_append, true_and, and_true, if_true, if_false, true_or, or_true, Nat.reduceAdd, Int.reduceAdd, Bool.false_eq_true, tn_0, tn_1, tn_2, tn_3, tn_4, tn_5, tn_6, tn_7]
      try refine ⟨(by first | exact Or.inl rfl | exact Or.inr rfl), ?_⟩
      exact ⟨by grind, rfl⟩
theorem rix {i w : Int32} {z : Nat} (hz : z ≤ 10) (h : (0 ≤ i ∧ i ≤ nI z - 1) ∧ (0 ≤ w ∧ w ≤ 2)) : ∃ a b, a < z ∧ b < 3 ∧ i = nI a ∧ w = nI b := by
  obtain ⟨⟨h1, h2⟩, h3⟩ := h
  have hz0 : z ≠ 0 := by
    intro e
    subst e
    exact absurd (Int32.le_trans h1 h2) (by decide)
  rw [nI_sub1 hz0] at h2
  obtain ⟨a, ha, ea⟩ := inNc (n := z - 1) _ rfl ⟨h1, h2⟩ (by omega)
  obtain ⟨b, hb, eb⟩ := inNc (n := 2) 2 rfl h3 (by omega)
  exact ⟨a, b, by omega, by omega, ea, eb⟩
theorem mrow_ok (i w : Int32) (z : Nat) (M : Mm) (hz : z ≤ 10) (ez : M.1 46 13 = nI z) : K 2 mX6_row [.ref 46, .int i, .int w] M (Rt (some (.int (if (0 ≤ i ∧ i ≤ nI z - 1) ∧ (0 ≤ w ∧ w ≤ 2) then M.1 52 (3 * i.toNatClampNeg + w.toNatClampNeg) else -9))) M) := by
  refine K_go 2 o_X6_row [] rfl (Nat.le_of_ble_eq_true rfl) ?_
  simp only [lvA_i, lvA_a, lvA_l, lvA_nil, List.cons_append, List.nil_append]
  refine J_blk a_X6_row_0 ?_
  simp only [b_X6_row_0, w_aload_n0, w_iload_n1, w_iload_n2, w_nil, kd_46, kd_47, kd_48, kd_49, kd_50, kd_51, kd_52, kd_53, kd_54, kd_55, kd_56, kd_57, kd_58, kd_59, ln_47, ln_48, ln_49, ln_50, ln_51, ln_52, ln_53, ln_54, ln_55, ln_56, ln_57, ln_58, ln_59, Option.toList_some, Option.toList_none, List.cons_append, List.nil_append, true_and, and_true, if_true, if_false, true_or, or_true, Nat.reduceAdd, Int.reduceAdd, Bool.false_eq_true, tn_0, tn_1, tn_2, tn_3, tn_4, tn_5, tn_6, tn_7]
  refine J_callVr (ci := 6) (isRow_ok i w M) k_X6_row_3 o_X6_isRow rfl rfl rfl rfl (by decide) rfl (Nat.le_of_ble_eq_true rfl) ?_
  rw [ez]
  by_cases h : (0 ≤ i ∧ i ≤ nI z - 1) ∧ (0 ≤ w ∧ w ≤ 2)
  · rw [if_pos h, if_pos h]
    obtain ⟨a, b, ha, hb, rfl, rfl⟩ := rix hz h
    have e3 : (3 : Int32) * nI a + nI b = nI (3 * a + b) := by rw [show (3 : Int32) * nI a = nI (3 * a) from pk_mul 3 a, nI_add]
    have ec : (nI (3 * a + b)).toNatClampNeg = 3 * a + b := nI_clamp (by omega)
    rw [nI_clamp (show a < 2 ^ 31 by omega), nI_clamp (show b < 2 ^ 31 by omega)]
    refine J_blk a_X6_row_6 ?_
    simp only [b_X6_row_6, w_if_eq, w_nil, kd_46, kd_47, kd_48, kd_49, kd_50, kd_51, kd_52, kd_53, kd_54, kd_55, kd_56, kd_57, kd_58, kd_59, ln_47, ln_48, ln_49, ln_50, ln_51, ln_52, ln_53, ln_54, ln_55, ln_56, ln_57, ln_58, ln_59, Option.toList_some, Option.toList_none, List.cons_append, List.nil_append, true_and, and_true, if_true, if_false, true_or, or_true, Nat.reduceAdd, Int.reduceAdd, Bool.false_eq_true, tn_0, tn_1, tn_2, tn_3, tn_4, tn_5, tn_6, tn_7]
    refine ⟨fun h => absurd h (by decide), fun _ => ?_⟩
    refine J_blk a_X6_row_9 ?_
    simp only [b_X6_row_9, w_aload_n0, w_getf6, ne0_6, w_iconst_3, w_iload_n1, w_imul, w_iload_n2, w_iadd, w_iald, w_goto, kd_46, kd_47, kd_48, kd_49, kd_50, kd_51, kd_52, kd_53, kd_54, kd_55, kd_56, kd_57, kd_58, kd_59, ln_47, ln_48, ln_49, ln_50, ln_51, ln_52, ln_53, ln_54, ln_55, ln_56, ln_57, ln_58, ln_59, Option.toList_some, Option.toList_none, List.cons_append, List.nil_append, true_and, and_true, if_true, if_false, true_or, or_true, Nat.reduceAdd, Int.reduceAdd, Bool.false_eq_true, tn_0, tn_1, tn_2, tn_3, tn_4, tn_5, tn_6, tn_7, e3, ec]
    refine ⟨vinN (by omega) (by decide), ?_⟩
    refine J_blk a_X6_row_24 ?_
    simp only [b_X6_row_24, w_ireti, kd_46, kd_47, kd_48, kd_49, kd_50, kd_51, kd_52, kd_53, kd_54, kd_55, kd_56, kd_57, kd_58, kd_59, ln_47, ln_48, ln_49, ln_50, ln_51, ln_52, ln_53, ln_54, ln_55, ln_56, ln_57, ln_58, ln_59, Option.toList_some, Option.toList_none, List.cons_append, List.nil_append, true_and, and_true, if_true, if_false, true_or, or_true, Nat.reduceAdd, Int.reduceAdd, Bool.false_eq_true, tn_0, tn_1, tn_2, tn_3, tn_4, tn_5, tn_6, tn_7]
    first | exact ⟨rfl, rfl⟩ | (simp_all [Rt])
  · rw [if_neg h, if_neg h]
    refine J_blk a_X6_row_6 ?_
    simp only [b_X6_row_6, w_if_eq, w_nil, kd_46, kd_47, kd_48, kd_49, kd_50, kd_51, kd_52, kd_53, kd_54, kd_55, kd_56, kd_57, kd_58, kd_59, ln_47, ln_48, ln_49, ln_50, ln_51, ln_52, ln_53, ln_54, ln_55, ln_56, ln_57, ln_58, ln_59, Option.toList_some, Option.toList_none, List.cons_append, List.nil_append, true_and, and_true, if_true, if_false, true_or, or_true, Nat.reduceAdd, Int.reduceAdd, Bool.false_eq_true, tn_0, tn_1, tn_2, tn_3, tn_4, tn_5, tn_6, tn_7]
    refine ⟨fun _ => ?_, fun h => absurd trivial h⟩
    refine J_blk a_X6_row_22 ?_
    simp only [b_X6_row_22, w_bipush, ci_m9, w_nil, kd_46, kd_47, kd_48, kd_49, kd_50, kd_51, kd_52, kd_53, kd_54, kd_55, kd_56, kd_57, kd_58, kd_59, ln_47, ln_48, ln_49, ln_50, ln_51, ln_52, ln_53, ln_54, ln_55, ln_56, ln_57, ln_58, ln_59, Option.toList_some, Option.toList_none, List.cons_append, List.nil_append, true_and, and_true, if_true, if_false, true_or, or_true, Nat.reduceAdd, Int.reduceAdd, Bool.false_eq_true, tn_0, tn_1, tn_2, tn_3, tn_4, tn_5, tn_6, tn_7]
    refine J_blk a_X6_row_24 ?_
    simp only [b_X6_row_24, w_ireti, kd_46, kd_47, kd_48, kd_49, kd_50, kd_51, kd_52, kd_53, kd_54, kd_55, kd_56, kd_57, kd_58, kd_59, ln_47, ln_48, ln_49, ln_50, ln_51, ln_52, ln_53, ln_54, ln_55, ln_56, ln_57, ln_58, ln_59, Option.toList_some, Option.toList_none, List.cons_append, List.nil_append, true_and, and_true, if_true, if_false, true_or, or_true, Nat.reduceAdd, Int.reduceAdd, Bool.false_eq_true, tn_0, tn_1, tn_2, tn_3, tn_4, tn_5, tn_6, tn_7]
    first | exact ⟨rfl, rfl⟩ | (simp_all [Rt])
theorem malterRow_f (i w v : Int32) (z : Nat) (M : Mm) (ez : M.1 46 13 = nI z) (h : ¬ ((0 ≤ i ∧ i ≤ nI z - 1) ∧ (0 ≤ w ∧ w ≤ 2))) : K 2 mX6_alterRow [.ref 46, .int i, .int w, .int v] M (Rt (some (.int (-9))) M) := by
  refine K_go 3 o_X6_alterRow [none] rfl (Nat.le_of_ble_eq_true rfl) ?_
  simp only [lvA_i, lvA_a, lvA_l, lvA_nil, List.cons_append, List.nil_append]
  refine J_blk a_X6_alterRow_0 ?_
  simp only [b_X6_alterRow_0, w_aload_n0, w_iload_n1, w_iload_n2, w_nil, kd_46, kd_47, kd_48, kd_49, kd_50, kd_51, kd_52, kd_53, kd_54, kd_55, kd_56, kd_57, kd_58, kd_59, ln_47, ln_48, ln_49, ln_50, ln_51, ln_52, ln_53, ln_54, ln_55, ln_56, ln_57, ln_58, ln_59, Option.toList_some, Option.toList_none, List.cons_append, List.nil_append, true_and, and_true, if_true, if_false, true_or, or_true, Nat.reduceAdd, Int.reduceAdd, Bool.false_eq_true, tn_0, tn_1, tn_2, tn_3, tn_4, tn_5, tn_6, tn_7]
  refine J_callVr (ci := 6) (isRow_ok i w M) k_X6_alterRow_3 o_X6_isRow rfl rfl rfl rfl (by decide) rfl (Nat.le_of_ble_eq_true rfl) ?_
  rw [ez, if_neg h]
  refine J_blk a_X6_alterRow_6 ?_
  simp only [b_X6_alterRow_6, w_if_ne, w_nil, kd_46, kd_47, kd_48, kd_49, kd_50, kd_51, kd_52, kd_53, kd_54, kd_55, kd_56, kd_57, kd_58, kd_59, ln_47, ln_48, ln_49, ln_50, ln_51, ln_52, ln_53, ln_54, ln_55, ln_56, ln_57, ln_58, ln_59, Option.toList_some, Option.toList_none, List.cons_append, List.nil_append, true_and, and_true, if_true, if_false, true_or, or_true, Nat.reduceAdd, Int.reduceAdd, Bool.false_eq_true, tn_0, tn_1, tn_2, tn_3, tn_4, tn_5, tn_6, tn_7]
  refine ⟨fun h => absurd trivial h, fun _ => ?_⟩
  refine J_blk a_X6_alterRow_9 ?_
  simp only [b_X6_alterRow_9, w_bipush, ci_m9, w_ireti, kd_46, kd_47, kd_48, kd_49, kd_50, kd_51, kd_52, kd_53, kd_54, kd_55, kd_56, kd_57, kd_58, kd_59, ln_47, ln_48, ln_49, ln_50, ln_51, ln_52, ln_53, ln_54, ln_55, ln_56, ln_57, ln_58, ln_59, Option.toList_some, Option.toList_none, List.cons_append, List.nil_append, true_and, and_true, if_true, if_false, true_or, or_true, Nat.reduceAdd, Int.reduceAdd, Bool.false_eq_true, tn_0, tn_1, tn_2, tn_3, tn_4, tn_5, tn_6, tn_7]
  first | exact ⟨rfl, rfl⟩ | (simp_all [Rt])
theorem malterRow_t (a b z : Nat) (v : Int32) (M : Mm) (hz : z ≤ 10) (ez : M.1 46 13 = nI z) (ha : a < z) (hb : b < 3) : K 2 mX6_alterRow [.ref 46, .int (nI a), .int (nI b), .int v] M (Rt (some (.int (M.1 52 (3 * a + b)))) (su M 52 (upd (M.1 52) (3 * a + b) v))) := by
  have e3 : (3 : Int32) * nI a + nI b = nI (3 * a + b) := by rw [show (3 : Int32) * nI a = nI (3 * a) from pk_mul 3 a, nI_add]
  have ec : (nI (3 * a + b)).toNatClampNeg = 3 * a + b := nI_clamp (by omega)
  have h : (0 ≤ nI a ∧ nI a ≤ nI z - 1) ∧ (0 ≤ nI b ∧ nI b ≤ 2) := by
    refine ⟨?_, ok2 (m := 2) (by omega) (by decide)⟩
    rw [nI_sub1 (by omega)]
    exact ok2 (by omega) (by omega)
  refine K_go 3 o_X6_alterRow [none] rfl (Nat.le_of_ble_eq_true rfl) ?_
  simp only [lvA_i, lvA_a, lvA_l, lvA_nil, List.cons_append, List.nil_append]
  refine J_blk a_X6_alterRow_0 ?_
  simp only [b_X6_alterRow_0, w_aload_n0, w_iload_n1, w_iload_n2, w_nil, kd_46, kd_47, kd_48, kd_49, kd_50, kd_51, kd_52, kd_53, kd_54, kd_55, kd_56, kd_57, kd_58, kd_59, ln_47, ln_48, ln_49, ln_50, ln_51, ln_52, ln_53, ln_54, ln_55, ln_56, ln_57, ln_58, ln_59, Option.toList_some, Option.toList_none, List.cons_append, List.nil_append, true_and, and_true, if_true, if_false, true_or, or_true, Nat.reduceAdd, Int.reduceAdd, Bool.false_eq_true, tn_0, tn_1, tn_2, tn_3, tn_4, tn_5, tn_6, tn_7]
  refine J_callVr (ci := 6) (isRow_ok _ _ M) k_X6_alterRow_3 o_X6_isRow rfl rfl rfl rfl (by decide) rfl (Nat.le_of_ble_eq_true rfl) ?_
  rw [ez, if_pos h]
  refine J_blk a_X6_alterRow_6 ?_
  simp only [b_X6_alterRow_6, w_if_ne, w_nil, kd_46, kd_47, kd_48, kd_49, kd_50, kd_51, kd_52, kd_53, kd_54, kd_55, kd_56, kd_57, kd_58, kd_59, ln_47, ln_48, ln_49, ln_50, ln_51, ln_52, ln_53, ln_54, ln_55, ln_56, ln_57, ln_58, ln_59, Option.toList_some, Option.toList_none, List.cons_append, List.nil_append, true_and, and_true, if_true, if_false, true_or, or_true, Nat.reduceAdd, Int.reduceAdd, Bool.false_eq_true, tn_0, tn_1, tn_2, tn_3, tn_4, tn_5, tn_6, tn_7]
  refine ⟨fun _ => ?_, fun h => absurd h (by decide)⟩
  refine J_blk a_X6_alterRow_12 ?_
  simp only [b_X6_alterRow_12, w_aload_n0, w_getf6, ne0_6, w_iconst_3, w_iload_n1, w_imul, w_iload_n2, w_iadd, w_iald, w_istore4, nl_4n, nl_4i, nl_4a, w_iload_n3, w_iast, w_iload4, w_ireti, kd_46, kd_47, kd_48, kd_49, kd_50, kd_51, kd_52, kd_53, kd_54, kd_55, kd_56, kd_57, kd_58, kd_59, ln_47, ln_48, ln_49, ln_50, ln_51, ln_52, ln_53, ln_54, ln_55, ln_56, ln_57, ln_58, ln_59, Option.toList_some, Option.toList_none, List.cons_append, List.nil_append, true_and, and_true, if_true, if_false, true_or, or_true, Nat.reduceAdd, Int.reduceAdd, Bool.false_eq_true, tn_0, tn_1, tn_2, tn_3, tn_4, tn_5, tn_6, tn_7, e3, ec]
  exact ⟨vinN (by omega) (by decide), vinN (by omega) (by decide), rfl, by rw [u1_row]⟩
def juF (s : Nat → Int32) (n o : Nat) (r : Nat → Int32) : Nat → Nat → Int32
  | 0, _ => 0
  | f + 1, k => if r (3 * k + 2) = sumS (yrs s n k) n ∧ r (3 * k) = yrs s n (k + 1) (8 + 6 * o + 2) ∧ r (3 * k + 1) = bS (yrs s n (k + 1)) o then juF s n o r f (k + 1) else nI (k + 1)
theorem mjudge_t (n o z : Nat) (M : Mm) (hw : WF (M.1 47) n) (hj : o < n) (hz : z ≤ 10) (ez : M.1 46 13 = nI z) : K 4 mX6_judge [.ref 46, .int (nI o)] M (Rt (some (.int (juF (M.1 47) n o (M.1 52) z 0))) (asd M)) := by
  have h0 := hw.1
  have h8 := hw.2.1
  have ho := ok1 hj (by omega)
  have n46 : ∀ g r, (Mg M g r).1 46 = M.1 46 := fun g r => Mg_ne M g r (by decide) (by decide)
  have n52 : ∀ g r, (Mg M g r).1 52 = M.1 52 := fun g r => Mg_ne M g r (by decide) (by decide)
  have last : ∀ (r : Nat → Int32) (b : Bool) (k v : Int32), v = (if b = true then 0 else k) → (∀ j, 56 ≤ j → r j = M.1 47 j) → J 4 mX6_judge 109 [some (.ref 46), some (.int (nI o)), some (.int k), some (.int (bI b))] [] (Mg M (cpN (M.1 47) (M.1 49) 56) r) (Rt (some (.int v)) (asd M)) := by
    intro r b k v hv hr
    refine J_blk a_X6_judge_109 ?_
    simp only [b_X6_judge_109, w_aload_n0, w_getf6, ne0_3, ne0_1, w_nil, kd_46, kd_47, kd_48, kd_49, kd_50, kd_51, kd_52, kd_53, kd_54, kd_55, kd_56, kd_57, kd_58, kd_59, ln_47, ln_48, ln_49, ln_50, ln_51, ln_52, ln_53, ln_54, ln_55, ln_56, ln_57, ln_58, ln_59, Option.toList_some, Option.toList_none, List.cons_append, List.nil_append, true_and, and_true, if_true, if_false, true_or, or_true, Nat.reduceAdd, Int.reduceAdd, Bool.false_eq_true, tn_0, tn_1, tn_2, tn_3, tn_4, tn_5, tn_6, tn_7]
    refine J_callSr (copyRow_ok 49 47 _ rfl rfl rfl rfl (by decide)) k_X6_judge_117 o_X6_copyRow rfl (by decide) rfl (Nat.le_of_ble_eq_true rfl) ?_
    rw [back_Mg M _ r _ hr, ← asd_Mg]
    cases b
    · refine J_blk a_X6_judge_120 ?_
      simp only [b_X6_judge_120, w_iload_n3, w_if_eq, w_nil, kd_46, kd_47, kd_48, kd_49, kd_50, kd_51, kd_52, kd_53, kd_54, kd_55, kd_56, kd_57, kd_58, kd_59, ln_47, ln_48, ln_49, ln_50, ln_51, ln_52, ln_53, ln_54, ln_55, ln_56, ln_57, ln_58, ln_59, Option.toList_some, Option.toList_none, List.cons_append, List.nil_append, true_and, and_true, if_true, if_false, true_or, or_true, Nat.reduceAdd, Int.reduceAdd, Bool.false_eq_true, tn_0, tn_1, tn_2, tn_3, tn_4, tn_5, tn_6, tn_7]
      refine ⟨fun _ => ?_, fun h => absurd rfl h⟩
      refine J_blk a_X6_judge_128 ?_
      simp only [b_X6_judge_128, w_iload_n2, w_nil, kd_46, kd_47, kd_48, kd_49, kd_50, kd_51, kd_52, kd_53, kd_54, kd_55, kd_56, kd_57, kd_58, kd_59, ln_47, ln_48, ln_49, ln_50, ln_51, ln_52, ln_53, ln_54, ln_55, ln_56, ln_57, ln_58, ln_59, Option.toList_some, Option.toList_none, List.cons_append, List.nil_append, true_and, and_true, if_true, if_false, true_or, or_true, Nat.reduceAdd, Int.reduceAdd, Bool.false_eq_true, tn_0, tn_1, tn_2, tn_3, tn_4, tn_5, tn_6, tn_7]
      refine J_blk a_X6_judge_129 ?_
      simp only [b_X6_judge_129, w_ireti, kd_46, kd_47, kd_48, kd_49, kd_50, kd_51, kd_52, kd_53, kd_54, kd_55, kd_56, kd_57, kd_58, kd_59, ln_47, ln_48, ln_49, ln_50, ln_51, ln_52, ln_53, ln_54, ln_55, ln_56, ln_57, ln_58, ln_59, Option.toList_some, Option.toList_none, List.cons_append, List.nil_append, true_and, and_true, if_true, if_false, true_or, or_true, Nat.reduceAdd, Int.reduceAdd, Bool.false_eq_true, tn_0, tn_1, tn_2, tn_3, tn_4, tn_5, tn_6, tn_7]
      exact ⟨by rw [hv]; rfl, rfl⟩
    · refine J_blk a_X6_judge_120 ?_
      simp only [b_X6_judge_120, w_iload_n3, w_if_eq, w_nil, kd_46, kd_47, kd_48, kd_49, kd_50, kd_51, kd_52, kd_53, kd_54, kd_55, kd_56, kd_57, kd_58, kd_59, ln_47, ln_48, ln_49, ln_50, ln_51, ln_52, ln_53, ln_54, ln_55, ln_56, ln_57, ln_58, ln_59, Option.toList_some, Option.toList_none, List.cons_append, List.nil_append, true_and, and_true, if_true, if_false, true_or, or_true, Nat.reduceAdd, Int.reduceAdd, Bool.false_eq_true, tn_0, tn_1, tn_2, tn_3, tn_4, tn_5, tn_6, tn_7]
      refine ⟨fun h => absurd h (by decide), fun _ => ?_⟩
      refine J_blk a_X6_judge_124 ?_
      simp only [b_X6_judge_124, w_iconst_0, w_goto, kd_46, kd_47, kd_48, kd_49, kd_50, kd_51, kd_52, kd_53, kd_54, kd_55, kd_56, kd_57, kd_58, kd_59, ln_47, ln_48, ln_49, ln_50, ln_51, ln_52, ln_53, ln_54, ln_55, ln_56, ln_57, ln_58, ln_59, Option.toList_some, Option.toList_none, List.cons_append, List.nil_append, true_and, and_true, if_true, if_false, true_or, or_true, Nat.reduceAdd, Int.reduceAdd, Bool.false_eq_true, tn_0, tn_1, tn_2, tn_3, tn_4, tn_5, tn_6, tn_7]
      refine J_blk a_X6_judge_129 ?_
      simp only [b_X6_judge_129, w_ireti, kd_46, kd_47, kd_48, kd_49, kd_50, kd_51, kd_52, kd_53, kd_54, kd_55, kd_56, kd_57, kd_58, kd_59, ln_47, ln_48, ln_49, ln_50, ln_51, ln_52, ln_53, ln_54, ln_55, ln_56, ln_57, ln_58, ln_59, Option.toList_some, Option.toList_none, List.cons_append, List.nil_append, true_and, and_true, if_true, if_false, true_or, or_true, Nat.reduceAdd, Int.reduceAdd, Bool.false_eq_true, tn_0, tn_1, tn_2, tn_3, tn_4, tn_5, tn_6, tn_7]
      exact ⟨by rw [hv]; rfl, rfl⟩
  have loop : ∀ f k, f + k = z → J 4 mX6_judge 25 [some (.ref 46), some (.int (nI o)), some (.int (nI k)), some (.int 1)] [] (Mg M (cpN (M.1 47) (M.1 49) 56) (yrs (M.1 47) n k)) (Rt (some (.int (juF (M.1 47) n o (M.1 52) f k))) (asd M)) := by
    intro f
    induction f with
    | zero =>
      intro k hk
      have : k = z := by omega
      subst this
      refine J_blk a_X6_judge_25 ?_
      simp only [b_X6_judge_25, w_iload_n2, w_aload_n0, w_getf6, w_icmp_ge, w_nil, kd_46, kd_47, kd_48, kd_49, kd_50, kd_51, kd_52, kd_53, kd_54, kd_55, kd_56, kd_57, kd_58, kd_59, ln_47, ln_48, ln_49, ln_50, ln_51, ln_52, ln_53, ln_54, ln_55, ln_56, ln_57, ln_58, ln_59, Option.toList_some, Option.toList_none, List.cons_append, List.nil_append, true_and, and_true, if_true, if_false, true_or, or_true, Nat.reduceAdd, Int.reduceAdd, Bool.false_eq_true, tn_0, tn_1, tn_2, tn_3, tn_4, tn_5, tn_6, tn_7, n46, ez]
      exact ⟨fun _ => last _ true _ _ rfl (fun j hj => yrs_hi _ h8 hj _), fun h => absurd (Int32.le_refl _) h⟩
    | succ f ih =>
      intro k hk
      have e3 : (3 : Int32) * nI k = nI (3 * k) := pk_mul 3 k
      have a0 : (nI (3 * k)).toNatClampNeg = 3 * k := nI_clamp (by omega)
      have a1 : (nI (3 * k + 1)).toNatClampNeg = 3 * k + 1 := nI_clamp (by omega)
      have a2 : (nI (3 * k + 2)).toNatClampNeg = 3 * k + 2 := nI_clamp (by omega)
      rw [juF]
      have no : ∀ v, v = nI (k + 1) → J 4 mX6_judge 101 [some (.ref 46), some (.int (nI o)), some (.int (nI k)), some (.int 1)] [] (Mg M (cpN (M.1 47) (M.1 49) 56) (yearS (yrs (M.1 47) n k) n)) (Rt (some (.int v)) (asd M)) := by
        intro v hv
        have ls := last (yearS (yrs (M.1 47) n k) n) false (nI (k + 1)) v (by rw [hv]; rfl) (fun j hj => yrs_hi (M.1 47) h8 hj (k + 1))
        refine J_blk a_X6_judge_101 ?_
        simp only [b_X6_judge_101, w_iconst_0, w_nil, kd_46, kd_47, kd_48, kd_49, kd_50, kd_51, kd_52, kd_53, kd_54, kd_55, kd_56, kd_57, kd_58, kd_59, ln_47, ln_48, ln_49, ln_50, ln_51, ln_52, ln_53, ln_54, ln_55, ln_56, ln_57, ln_58, ln_59, Option.toList_some, Option.toList_none, List.cons_append, List.nil_append, true_and, and_true, if_true, if_false, true_or, or_true, Nat.reduceAdd, Int.reduceAdd, Bool.false_eq_true, tn_0, tn_1, tn_2, tn_3, tn_4, tn_5, tn_6, tn_7]
        refine J_blk a_X6_judge_102 ?_
        simp only [b_X6_judge_102, w_istore3, nl_3n, nl_3i, nl_3a, w_iinc2, nl_2n, nl_2i, nl_2a, ci_1, w_goto, kd_46, kd_47, kd_48, kd_49, kd_50, kd_51, kd_52, kd_53, kd_54, kd_55, kd_56, kd_57, kd_58, kd_59, ln_47, ln_48, ln_49, ln_50, ln_51, ln_52, ln_53, ln_54, ln_55, ln_56, ln_57, ln_58, ln_59, Option.toList_some, Option.toList_none, List.cons_append, List.nil_append, true_and, and_true, if_true, if_false, true_or, or_true, Nat.reduceAdd, Int.reduceAdd, Bool.false_eq_true, tn_0, tn_1, tn_2, tn_3, tn_4, tn_5, tn_6, tn_7, nI_1]
        refine J_blk a_X6_judge_25 ?_
        simp only [b_X6_judge_25, w_iload_n2, w_aload_n0, w_getf6, w_icmp_ge, w_nil, kd_46, kd_47, kd_48, kd_49, kd_50, kd_51, kd_52, kd_53, kd_54, kd_55, kd_56, kd_57, kd_58, kd_59, ln_47, ln_48, ln_49, ln_50, ln_51, ln_52, ln_53, ln_54, ln_55, ln_56, ln_57, ln_58, ln_59, Option.toList_some, Option.toList_none, List.cons_append, List.nil_append, true_and, and_true, if_true, if_false, true_or, or_true, Nat.reduceAdd, Int.reduceAdd, Bool.false_eq_true, tn_0, tn_1, tn_2, tn_3, tn_4, tn_5, tn_6, tn_7, n46, ez]
        refine ⟨fun _ => ls, fun _ => ?_⟩
        refine J_blk a_X6_judge_33 ?_
        simp only [b_X6_judge_33, w_iload_n3, w_if_eq, w_nil, kd_46, kd_47, kd_48, kd_49, kd_50, kd_51, kd_52, kd_53, kd_54, kd_55, kd_56, kd_57, kd_58, kd_59, ln_47, ln_48, ln_49, ln_50, ln_51, ln_52, ln_53, ln_54, ln_55, ln_56, ln_57, ln_58, ln_59, Option.toList_some, Option.toList_none, List.cons_append, List.nil_append, true_and, and_true, if_true, if_false, true_or, or_true, Nat.reduceAdd, Int.reduceAdd, Bool.false_eq_true, tn_0, tn_1, tn_2, tn_3, tn_4, tn_5, tn_6, tn_7]
        exact ⟨fun _ => ls, fun h => absurd trivial h⟩
      refine J_blk a_X6_judge_25 ?_
      simp only [b_X6_judge_25, w_iload_n2, w_aload_n0, w_getf6, w_icmp_ge, w_nil, kd_46, kd_47, kd_48, kd_49, kd_50, kd_51, kd_52, kd_53, kd_54, kd_55, kd_56, kd_57, kd_58, kd_59, ln_47, ln_48, ln_49, ln_50, ln_51, ln_52, ln_53, ln_54, ln_55, ln_56, ln_57, ln_58, ln_59, Option.toList_some, Option.toList_none, List.cons_append, List.nil_append, true_and, and_true, if_true, if_false, true_or, or_true, Nat.reduceAdd, Int.reduceAdd, Bool.false_eq_true, tn_0, tn_1, tn_2, tn_3, tn_4, tn_5, tn_6, tn_7, n46, ez]
      refine ⟨fun h => absurd h (nI_ge (by omega) (by omega)), fun _ => ?_⟩
      refine J_blk a_X6_judge_33 ?_
      simp only [b_X6_judge_33, w_iload_n3, w_if_eq, w_nil, kd_46, kd_47, kd_48, kd_49, kd_50, kd_51, kd_52, kd_53, kd_54, kd_55, kd_56, kd_57, kd_58, kd_59, ln_47, ln_48, ln_49, ln_50, ln_51, ln_52, ln_53, ln_54, ln_55, ln_56, ln_57, ln_58, ln_59, Option.toList_some, Option.toList_none, List.cons_append, List.nil_append, true_and, and_true, if_true, if_false, true_or, or_true, Nat.reduceAdd, Int.reduceAdd, Bool.false_eq_true, tn_0, tn_1, tn_2, tn_3, tn_4, tn_5, tn_6, tn_7]
      refine ⟨fun h => absurd h (by decide), fun _ => ?_⟩
      refine J_blk a_X6_judge_37 ?_
      simp only [b_X6_judge_37, w_aload_n0, w_getf6, ne0_6, w_iconst_3, w_iload_n2, w_imul, w_iconst_2, w_iadd, w_iald, w_nil, kd_46, kd_47, kd_48, kd_49, kd_50, kd_51, kd_52, kd_53, kd_54, kd_55, kd_56, kd_57, kd_58, kd_59, ln_47, ln_48, ln_49, ln_50, ln_51, ln_52, ln_53, ln_54, ln_55, ln_56, ln_57, ln_58, ln_59, Option.toList_some, Option.toList_none, List.cons_append, List.nil_append, true_and, and_true, if_true, if_false, true_or, or_true, Nat.reduceAdd, Int.reduceAdd, Bool.false_eq_true, tn_0, tn_1, tn_2, tn_3, tn_4, tn_5, tn_6, tn_7, e3, ad2, a2, n52]
      refine ⟨vinN (by omega) (by decide), ?_⟩
      refine J_callVr (ci := 6) (goesOn_ok n _ (by rw [Mg47]; exact WF_yrs hw k)) k_X6_judge_48 o_X6_goesOn rfl rfl rfl rfl (by decide) rfl (Nat.le_of_ble_eq_true rfl) ?_
      rw [Mg47, Mg_su]
      refine J_blk a_X6_judge_51 ?_
      simp only [b_X6_judge_51, w_icmp_ne, w_nil, kd_46, kd_47, kd_48, kd_49, kd_50, kd_51, kd_52, kd_53, kd_54, kd_55, kd_56, kd_57, kd_58, kd_59, ln_47, ln_48, ln_49, ln_50, ln_51, ln_52, ln_53, ln_54, ln_55, ln_56, ln_57, ln_58, ln_59, Option.toList_some, Option.toList_none, List.cons_append, List.nil_append, true_and, and_true, if_true, if_false, true_or, or_true, Nat.reduceAdd, Int.reduceAdd, Bool.false_eq_true, tn_0, tn_1, tn_2, tn_3, tn_4, tn_5, tn_6, tn_7]
      refine ⟨fun c => no _ (by rw [if_neg (fun h => c h.1)]), fun c => ?_⟩
      refine J_blk a_X6_judge_54 ?_
      simp only [b_X6_judge_54, w_aload_n0, w_getf6, ne0_6, w_iconst_3, w_iload_n2, w_imul, w_iald, w_iload_n1, w_iconst_2, w_nil, kd_46, kd_47, kd_48, kd_49, kd_50, kd_51, kd_52, kd_53, kd_54, kd_55, kd_56, kd_57, kd_58, kd_59, ln_47, ln_48, ln_49, ln_50, ln_51, ln_52, ln_53, ln_54, ln_55, ln_56, ln_57, ln_58, ln_59, Option.toList_some, Option.toList_none, List.cons_append, List.nil_append, true_and, and_true, if_true, if_false, true_or, or_true, Nat.reduceAdd, Int.reduceAdd, Bool.false_eq_true, tn_0, tn_1, tn_2, tn_3, tn_4, tn_5, tn_6, tn_7, e3, a0, n52]
      refine ⟨vinN (by omega) (by decide), ?_⟩
      refine J_callVr (ci := 6) (its_ok o 2 _ (by omega)) k_X6_judge_65 o_X6_its rfl rfl rfl rfl (by decide) rfl (Nat.le_of_ble_eq_true rfl) ?_
      refine J_blk a_X6_judge_68 ?_
      simp only [b_X6_judge_68, w_icmp_ne, w_nil, kd_46, kd_47, kd_48, kd_49, kd_50, kd_51, kd_52, kd_53, kd_54, kd_55, kd_56, kd_57, kd_58, kd_59, ln_47, ln_48, ln_49, ln_50, ln_51, ln_52, ln_53, ln_54, ln_55, ln_56, ln_57, ln_58, ln_59, Option.toList_some, Option.toList_none, List.cons_append, List.nil_append, true_and, and_true, if_true, if_false, true_or, or_true, Nat.reduceAdd, Int.reduceAdd, Bool.false_eq_true, tn_0, tn_1, tn_2, tn_3, tn_4, tn_5, tn_6, tn_7, Mg47]
      refine ⟨fun c2 => no _ (by rw [if_neg (fun h => c2 h.2.1)]), fun c2 => ?_⟩
      refine J_blk a_X6_judge_71 ?_
      simp only [b_X6_judge_71, w_aload_n0, w_getf6, ne0_6, w_iconst_3, w_iload_n2, w_imul, w_iconst_1, w_iadd, w_iald, w_iload_n1, w_nil, kd_46, kd_47, kd_48, kd_49, kd_50, kd_51, kd_52, kd_53, kd_54, kd_55, kd_56, kd_57, kd_58, kd_59, ln_47, ln_48, ln_49, ln_50, ln_51, ln_52, ln_53, ln_54, ln_55, ln_56, ln_57, ln_58, ln_59, Option.toList_some, Option.toList_none, List.cons_append, List.nil_append, true_and, and_true, if_true, if_false, true_or, or_true, Nat.reduceAdd, Int.reduceAdd, Bool.false_eq_true, tn_0, tn_1, tn_2, tn_3, tn_4, tn_5, tn_6, tn_7, e3, ad1, a1, n52]
      refine ⟨vinN (by omega) (by decide), ?_⟩
      refine J_callVr (ci := 6) (stands_ok o n _ (by rw [Mg47]; exact WF_yrs hw (k + 1)) hj) k_X6_judge_83 o_X6_stands rfl rfl rfl rfl (by decide) rfl (Nat.le_of_ble_eq_true rfl) ?_
      rw [Mg47]
      have fin : ∀ v, v = bS (yrs (M.1 47) n (k + 1)) o → J 4 mX6_judge 94 [some (.ref 46), some (.int (nI o)), some (.int (nI k)), some (.int 1)] [.int v, .int (M.1 52 (3 * k + 1))] (Mg M (cpN (M.1 47) (M.1 49) 56) (yearS (yrs (M.1 47) n k) n)) (Rt (some (.int (if M.1 52 (3 * k + 2) = sumS (yrs (M.1 47) n k) n ∧ M.1 52 (3 * k) = yrs (M.1 47) n (k + 1) (8 + 6 * o + 2) ∧ M.1 52 (3 * k + 1) = bS (yrs (M.1 47) n (k + 1)) o then juF (M.1 47) n o (M.1 52) f (k + 1) else nI (k + 1)))) (asd M)) := by
        intro v hv
        refine J_blk a_X6_judge_94 ?_
        simp only [b_X6_judge_94, w_icmp_ne, w_nil, kd_46, kd_47, kd_48, kd_49, kd_50, kd_51, kd_52, kd_53, kd_54, kd_55, kd_56, kd_57, kd_58, kd_59, ln_47, ln_48, ln_49, ln_50, ln_51, ln_52, ln_53, ln_54, ln_55, ln_56, ln_57, ln_58, ln_59, Option.toList_some, Option.toList_none, List.cons_append, List.nil_append, true_and, and_true, if_true, if_false, true_or, or_true, Nat.reduceAdd, Int.reduceAdd, Bool.false_eq_true, tn_0, tn_1, tn_2, tn_3, tn_4, tn_5, tn_6, tn_7]
        rw [hv]
        refine ⟨fun c3 => no _ (by rw [if_neg (fun h => c3 h.2.2)]), fun c3 => ?_⟩
        rw [if_pos ⟨c, c2, c3⟩]
        refine J_blk a_X6_judge_97 ?_
        simp only [b_X6_judge_97, w_iconst_1, w_goto, kd_46, kd_47, kd_48, kd_49, kd_50, kd_51, kd_52, kd_53, kd_54, kd_55, kd_56, kd_57, kd_58, kd_59, ln_47, ln_48, ln_49, ln_50, ln_51, ln_52, ln_53, ln_54, ln_55, ln_56, ln_57, ln_58, ln_59, Option.toList_some, Option.toList_none, List.cons_append, List.nil_append, true_and, and_true, if_true, if_false, true_or, or_true, Nat.reduceAdd, Int.reduceAdd, Bool.false_eq_true, tn_0, tn_1, tn_2, tn_3, tn_4, tn_5, tn_6, tn_7, nI_1]
        refine J_blk a_X6_judge_102 ?_
        simp only [b_X6_judge_102, w_istore3, nl_3n, nl_3i, nl_3a, w_iinc2, nl_2n, nl_2i, nl_2a, ci_1, w_goto, kd_46, kd_47, kd_48, kd_49, kd_50, kd_51, kd_52, kd_53, kd_54, kd_55, kd_56, kd_57, kd_58, kd_59, ln_47, ln_48, ln_49, ln_50, ln_51, ln_52, ln_53, ln_54, ln_55, ln_56, ln_57, ln_58, ln_59, Option.toList_some, Option.toList_none, List.cons_append, List.nil_append, true_and, and_true, if_true, if_false, true_or, or_true, Nat.reduceAdd, Int.reduceAdd, Bool.false_eq_true, tn_0, tn_1, tn_2, tn_3, tn_4, tn_5, tn_6, tn_7, nI_1]
        exact ih (k + 1) (by omega)
      by_cases hs : sd (yearS (yrs (M.1 47) n k) n) o = true
      · rw [if_pos hs]
        refine J_blk a_X6_judge_86 ?_
        simp only [b_X6_judge_86, w_if_eq, w_nil, kd_46, kd_47, kd_48, kd_49, kd_50, kd_51, kd_52, kd_53, kd_54, kd_55, kd_56, kd_57, kd_58, kd_59, ln_47, ln_48, ln_49, ln_50, ln_51, ln_52, ln_53, ln_54, ln_55, ln_56, ln_57, ln_58, ln_59, Option.toList_some, Option.toList_none, List.cons_append, List.nil_append, true_and, and_true, if_true, if_false, true_or, or_true, Nat.reduceAdd, Int.reduceAdd, Bool.false_eq_true, tn_0, tn_1, tn_2, tn_3, tn_4, tn_5, tn_6, tn_7]
        refine ⟨fun h => absurd h (by decide), fun _ => ?_⟩
        refine J_blk a_X6_judge_89 ?_
        simp only [b_X6_judge_89, w_iconst_1, w_goto, kd_46, kd_47, kd_48, kd_49, kd_50, kd_51, kd_52, kd_53, kd_54, kd_55, kd_56, kd_57, kd_58, kd_59, ln_47, ln_48, ln_49, ln_50, ln_51, ln_52, ln_53, ln_54, ln_55, ln_56, ln_57, ln_58, ln_59, Option.toList_some, Option.toList_none, List.cons_append, List.nil_append, true_and, and_true, if_true, if_false, true_or, or_true, Nat.reduceAdd, Int.reduceAdd, Bool.false_eq_true, tn_0, tn_1, tn_2, tn_3, tn_4, tn_5, tn_6, tn_7]
        exact fin _ (by unfold bS; exact (if_pos hs).symm)
      · rw [if_neg hs]
        refine J_blk a_X6_judge_86 ?_
        simp only [b_X6_judge_86, w_if_eq, w_nil, kd_46, kd_47, kd_48, kd_49, kd_50, kd_51, kd_52, kd_53, kd_54, kd_55, kd_56, kd_57, kd_58, kd_59, ln_47, ln_48, ln_49, ln_50, ln_51, ln_52, ln_53, ln_54, ln_55, ln_56, ln_57, ln_58, ln_59, Option.toList_some, Option.toList_none, List.cons_append, List.nil_append, true_and, and_true, if_true, if_false, true_or, or_true, Nat.reduceAdd, Int.reduceAdd, Bool.false_eq_true, tn_0, tn_1, tn_2, tn_3, tn_4, tn_5, tn_6, tn_7]
        refine ⟨fun _ => ?_, fun h => absurd trivial h⟩
        refine J_blk a_X6_judge_93 ?_
        simp only [b_X6_judge_93, w_iconst_0, w_nil, kd_46, kd_47, kd_48, kd_49, kd_50, kd_51, kd_52, kd_53, kd_54, kd_55, kd_56, kd_57, kd_58, kd_59, ln_47, ln_48, ln_49, ln_50, ln_51, ln_52, ln_53, ln_54, ln_55, ln_56, ln_57, ln_58, ln_59, Option.toList_some, Option.toList_none, List.cons_append, List.nil_append, true_and, and_true, if_true, if_false, true_or, or_true, Nat.reduceAdd, Int.reduceAdd, Bool.false_eq_true, tn_0, tn_1, tn_2, tn_3, tn_4, tn_5, tn_6, tn_7]
        exact fin _ (by unfold bS; exact (if_neg hs).symm)
  have l0 := loop z 0 (by omega)
  have go : J 4 mX6_judge 10 [some (.ref 46), some (.int (nI o)), none, none] [] M (Rt (some (.int (juF (M.1 47) n o (M.1 52) z 0))) (asd M)) := by
    refine J_blk a_X6_judge_10 ?_
    simp only [b_X6_judge_10, w_aload_n0, w_getf6, ne0_1, ne0_3, w_nil, kd_46, kd_47, kd_48, kd_49, kd_50, kd_51, kd_52, kd_53, kd_54, kd_55, kd_56, kd_57, kd_58, kd_59, ln_47, ln_48, ln_49, ln_50, ln_51, ln_52, ln_53, ln_54, ln_55, ln_56, ln_57, ln_58, ln_59, Option.toList_some, Option.toList_none, List.cons_append, List.nil_append, true_and, and_true, if_true, if_false, true_or, or_true, Nat.reduceAdd, Int.reduceAdd, Bool.false_eq_true, tn_0, tn_1, tn_2, tn_3, tn_4, tn_5, tn_6, tn_7]
    refine J_callSr (copyRow_ok 47 49 M rfl rfl rfl rfl (by decide)) k_X6_judge_18 o_X6_copyRow rfl (by decide) rfl (Nat.le_of_ble_eq_true rfl) ?_
    rw [show su M 49 (cpN (M.1 47) (M.1 49) 56) = asd M from rfl]
    refine J_blk a_X6_judge_21 ?_
    simp only [b_X6_judge_21, w_iconst_0, w_istore2, nl_2n, nl_2i, nl_2a, w_iconst_1, w_istore3, nl_3n, nl_3i, nl_3a, w_nil, kd_46, kd_47, kd_48, kd_49, kd_50, kd_51, kd_52, kd_53, kd_54, kd_55, kd_56, kd_57, kd_58, kd_59, ln_47, ln_48, ln_49, ln_50, ln_51, ln_52, ln_53, ln_54, ln_55, ln_56, ln_57, ln_58, ln_59, Option.toList_some, Option.toList_none, List.cons_append, List.nil_append, true_and, and_true, if_true, if_false, true_or, or_true, Nat.reduceAdd, Int.reduceAdd, Bool.false_eq_true, tn_0, tn_1, tn_2, tn_3, tn_4, tn_5, tn_6, tn_7]
    rw [asd_Mg] at l0 ⊢
    exact l0
  refine K_go 1 o_X6_judge [none, none] rfl (Nat.le_of_ble_eq_true rfl) ?_
  simp only [lvA_i, lvA_a, lvA_l, lvA_nil, List.cons_append, List.nil_append]
  refine J_blk a_X6_judge_0 ?_
  simp only [b_X6_judge_0, w_aload_n0, w_iload_n1, w_nil, kd_46, kd_47, kd_48, kd_49, kd_50, kd_51, kd_52, kd_53, kd_54, kd_55, kd_56, kd_57, kd_58, kd_59, ln_47, ln_48, ln_49, ln_50, ln_51, ln_52, ln_53, ln_54, ln_55, ln_56, ln_57, ln_58, ln_59, Option.toList_some, Option.toList_none, List.cons_append, List.nil_append, true_and, and_true, if_true, if_false, true_or, or_true, Nat.reduceAdd, Int.reduceAdd, Bool.false_eq_true, tn_0, tn_1, tn_2, tn_3, tn_4, tn_5, tn_6, tn_7]
  refine J_callVr (ci := 6) (isOne_ok _ _) k_X6_judge_2 o_X6_isOne rfl rfl rfl rfl (by decide) rfl (Nat.le_of_ble_eq_true rfl) ?_
  rw [h0, if_pos ho]
  refine J_blk a_X6_judge_5 ?_
  simp only [b_X6_judge_5, w_if_ne, w_nil, kd_46, kd_47, kd_48, kd_49, kd_50, kd_51, kd_52, kd_53, kd_54, kd_55, kd_56, kd_57, kd_58, kd_59, ln_47, ln_48, ln_49, ln_50, ln_51, ln_52, ln_53, ln_54, ln_55, ln_56, ln_57, ln_58, ln_59, Option.toList_some, Option.toList_none, List.cons_append, List.nil_append, true_and, and_true, if_true, if_false, true_or, or_true, Nat.reduceAdd, Int.reduceAdd, Bool.false_eq_true, tn_0, tn_1, tn_2, tn_3, tn_4, tn_5, tn_6, tn_7]
  refine ⟨fun c13 => ?_, fun c13 => ?_⟩
  · first
      | exact absurd c13 (by decide)
      | (exact go)
  · first
      | exact absurd c13 (by decide)
      | (refine J_blk a_X6_judge_8 ?_
         simp only [b_X6_judge_8, w_iconst_m1, w_ireti, kd_46, kd_47, kd_48, kd_49, kd_50, kd_51, kd_52, kd_53, kd_54, kd_55, kd_56, kd_57, kd_58, kd_59, ln_47, ln_48, ln_49, ln_50, ln_51, ln_52, ln_53, ln_54, ln_55, ln_56, ln_57, ln_58, ln_59, Option.toList_some, Option.toList_none, List.cons_append, List.nil_append, true_and, and_true, if_true, if_false, true_or, or_true, Nat.reduceAdd, Int.reduceAdd, Bool.false_eq_true, tn_0, tn_1, tn_2, tn_3, tn_4, tn_5, tn_6, tn_7]
         first | exact ⟨rfl, rfl⟩ | (simp_all [Rt]))

