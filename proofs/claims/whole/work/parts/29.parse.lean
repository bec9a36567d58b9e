/-! the model: the text -/
def alP (b : Nat) : Prop := 97 ≤ b ∧ b ≤ 122
def alB (b : Nat) : Bool := decide (97 ≤ b ∧ b ≤ 122)
def dgB (b : Nat) : Bool := decide (48 ≤ b ∧ b ≤ 57)
def skF (t : Nat → Nat) : Nat → Nat → Nat
  | 0, i => i
  | f + 1, i => if t i = 32 then skF t f (i + 1) else i
def rnF (p : Nat → Bool) (t : Nat → Nat) : Nat → Nat → Nat
  | 0, i => i
  | f + 1, i => if p (t i) = true then rnF p t f (i + 1) else i
def vF (t : Nat → Nat) (fr : Nat) : Nat → Nat
  | 0 => 0
  | k + 1 => if 999 < vF t fr k then vF t fr k else 10 * vF t fr k + t (fr + k) - 48
def skp (t : Nat → Nat) (L to : Nat) : Nat := skF t (L - to) to
def knd (t : Nat → Nat) (L fr : Nat) : Nat := if fr < L then (if alB (t fr) = true then 1 else if dgB (t fr) = true then 2 else 3) else 0
def te (t : Nat → Nat) (L fr : Nat) : Nat := if fr < L then (if alB (t fr) = true then rnF alB t (L - fr) fr else if dgB (t fr) = true then rnF dgB t (L - fr) fr else fr + 1) else fr
def vl (t : Nat → Nat) (L fr : Nat) : Nat := if knd t L fr = 2 then vF t fr (te t L fr - fr) else 0
def nx (t : Nat → Nat) (L fr : Nat) : Nat := skp t L (te t L fr)
theorem skF_le (t : Nat → Nat) : ∀ f i, skF t f i ≤ i + f ∧ i ≤ skF t f i := by
  intro f
  induction f with
  | zero => intro i; simp [skF]
  | succ f ih =>
    intro i
    rw [skF]
    split
    · have := ih (i + 1); omega
    · omega
theorem rnF_le (p : Nat → Bool) (t : Nat → Nat) : ∀ f i, rnF p t f i ≤ i + f ∧ i ≤ rnF p t f i := by
  intro f
  induction f with
  | zero => intro i; simp [rnF]
  | succ f ih =>
    intro i
    rw [rnF]
    split
    · have := ih (i + 1); omega
    · omega
theorem rnF_pos (p : Nat → Bool) (t : Nat → Nat) {f i : Nat} (hf : 0 < f) (h : p (t i) = true) : i < rnF p t f i := by
  match f, hf with
  | f + 1, _ =>
    rw [rnF, if_pos h]
    have := (rnF_le p t f (i + 1)).2
    omega
theorem skp_le (t : Nat → Nat) {L to : Nat} (h : to ≤ L) : skp t L to ≤ L ∧ to ≤ skp t L to := by
  have := skF_le t (L - to) to
  unfold skp
  omega
theorem te_le (t : Nat → Nat) {L fr : Nat} (h : fr ≤ L) : te t L fr ≤ L ∧ fr ≤ te t L fr := by
  have h1 := rnF_le alB t (L - fr) fr
  have h2 := rnF_le dgB t (L - fr) fr
  unfold te
  split
  · split
    · omega
    · split <;> omega
  · omega
theorem te_pos (t : Nat → Nat) {L fr : Nat} (h : fr < L) : fr < te t L fr := by
  unfold te
  rw [if_pos h]
  by_cases ha : alB (t fr) = true
  · rw [if_pos ha]; exact rnF_pos alB t (by omega) ha
  · rw [if_neg ha]
    by_cases hd : dgB (t fr) = true
    · rw [if_pos hd]; exact rnF_pos dgB t (by omega) hd
    · rw [if_neg hd]; omega
theorem nx_le (t : Nat → Nat) {L fr : Nat} (h : fr ≤ L) : nx t L fr ≤ L ∧ fr ≤ nx t L fr := by
  have h1 := te_le t h
  have h2 := skp_le t h1.1
  unfold nx
  omega
theorem nx_lt (t : Nat → Nat) {L fr : Nat} (h : fr < L) : fr < nx t L fr := by
  have h1 := te_pos t h
  have h0 := te_le t (Nat.le_of_lt h)
  have h2 := skp_le t h0.1
  unfold nx
  omega
theorem vF_le (t : Nat → Nat) (fr : Nat) (h : ∀ i, t i < 256) : ∀ k, vF t fr k ≤ 10300 := by
  intro k
  induction k with
  | zero => simp [vF]
  | succ k ih =>
    rw [vF]
    have := h (fr + k)
    split <;> omega
/-- the tape, and how long -/
def TP (M : Mm) (t : Nat → Nat) (L : Nat) : Prop := M.1 46 6 = nI L ∧ L ≤ 200 ∧ (∀ i, t i < 256) ∧ ∀ i, i < L → M.1 51 i = nI (t i)
def byI (t : Nat → Nat) (L i : Nat) : Int32 := if i < L then nI (t i) else -1
theorem byteAt_ok (t : Nat → Nat) (L i : Nat) (M : Mm) (h : TP M t L) (hi : i < 1000) : K 0 mX6_byteAt [.ref 46, .int (nI i)] M (Rt (some (.int (byI t L i))) M) := by
  obtain ⟨h1, h2, h3, h4⟩ := h
  have ti : (nI i).toNatClampNeg = i := nI_clamp (by omega)
  have e : (nI L ≤ nI i) = (L ≤ i) := propext (nI_leI (by omega) (by omega))
  unfold byI
  refine K_go 1 o_X6_byteAt [] rfl (Nat.le_of_ble_eq_true rfl) ?_
  simp only [lvA_i, lvA_a, lvA_l, lvA_nil, List.cons_append, List.nil_append]
  refine J_blk a_X6_byteAt_0 ?_
  simp only [b_X6_byteAt_0, w_iload_n1, w_aload_n0, w_getf6, w_icmp_ge, w_nil, kd_46, kd_47, kd_48, kd_49, kd_50, kd_51, kd_52, kd_53, kd_54, kd_55, kd_56, kd_57, kd_58, kd_59, ln_47, ln_48, ln_49, ln_50, ln_51, ln_52, ln_53, ln_54, ln_55, ln_56, ln_57, ln_58, ln_59, Option.toList_some, Option.toList_none, List.cons_append, List.nil_append, true_and, and_true, if_true, if_false, true_or, or_true, Nat.reduceAdd, Int.reduceAdd, Bool.false_eq_true, tn_0, tn_1, tn_2, tn_3, tn_4, tn_5, tn_6, tn_7, h1, e]
  refine ⟨fun c => ?_, fun c => ?_⟩
  · rw [if_neg (by omega)]
    refine J_blk a_X6_byteAt_17 ?_
    simp only [b_X6_byteAt_17, w_iconst_m1, w_nil, kd_46, kd_47, kd_48, kd_49, kd_50, kd_51, kd_52, kd_53, kd_54, kd_55, kd_56, kd_57, kd_58, kd_59, ln_47, ln_48, ln_49, ln_50, ln_51, ln_52, ln_53, ln_54, ln_55, ln_56, ln_57, ln_58, ln_59, Option.toList_some, Option.toList_none, List.cons_append, List.nil_append, true_and, and_true, if_true, if_false, true_or, or_true, Nat.reduceAdd, Int.reduceAdd, Bool.false_eq_true, tn_0, tn_1, tn_2, tn_3, tn_4, tn_5, tn_6, tn_7]
    refine J_blk a_X6_byteAt_18 ?_
    simp only [b_X6_byteAt_18, w_ireti, kd_46, kd_47, kd_48, kd_49, kd_50, kd_51, kd_52, kd_53, kd_54, kd_55, kd_56, kd_57, kd_58, kd_59, ln_47, ln_48, ln_49, ln_50, ln_51, ln_52, ln_53, ln_54, ln_55, ln_56, ln_57, ln_58, ln_59, Option.toList_some, Option.toList_none, List.cons_append, List.nil_append, true_and, and_true, if_true, if_false, true_or, or_true, Nat.reduceAdd, Int.reduceAdd, Bool.false_eq_true, tn_0, tn_1, tn_2, tn_3, tn_4, tn_5, tn_6, tn_7]
    first | exact ⟨rfl, rfl⟩ | (simp_all [Rt])
  · rw [if_pos (by omega)]
    refine J_blk a_X6_byteAt_8 ?_
    simp only [b_X6_byteAt_8, w_aload_n0, w_getf6, ne0_5, w_iload_n1, w_iald, w_goto, kd_46, kd_47, kd_48, kd_49, kd_50, kd_51, kd_52, kd_53, kd_54, kd_55, kd_56, kd_57, kd_58, kd_59, ln_47, ln_48, ln_49, ln_50, ln_51, ln_52, ln_53, ln_54, ln_55, ln_56, ln_57, ln_58, ln_59, Option.toList_some, Option.toList_none, List.cons_append, List.nil_append, true_and, and_true, if_true, if_false, true_or, or_true, Nat.reduceAdd, Int.reduceAdd, Bool.false_eq_true, tn_0, tn_1, tn_2, tn_3, tn_4, tn_5, tn_6, tn_7, ti, h4 i (by omega)]
    refine ⟨vinN (by omega) (by decide), ?_⟩
    refine J_blk a_X6_byteAt_18 ?_
    simp only [b_X6_byteAt_18, w_ireti, kd_46, kd_47, kd_48, kd_49, kd_50, kd_51, kd_52, kd_53, kd_54, kd_55, kd_56, kd_57, kd_58, kd_59, ln_47, ln_48, ln_49, ln_50, ln_51, ln_52, ln_53, ln_54, ln_55, ln_56, ln_57, ln_58, ln_59, Option.toList_some, Option.toList_none, List.cons_append, List.nil_append, true_and, and_true, if_true, if_false, true_or, or_true, Nat.reduceAdd, Int.reduceAdd, Bool.false_eq_true, tn_0, tn_1, tn_2, tn_3, tn_4, tn_5, tn_6, tn_7]
    first | exact ⟨rfl, rfl⟩ | (simp_all [Rt])
theorem isAlpha_ok (t : Nat → Nat) (L i : Nat) (M : Mm) (h : ∀ i, t i < 256) : K 0 mX6_isAlpha [.int (byI t L i)] M (Rt (some (.int (bI (decide (i < L) && alB (t i))))) M) := by
  unfold byI alB bI
  by_cases hi : i < L
  · have h1 := h i
    have e1 : (nI (t i) < 97) = (t i < 97) := propext (nI_ltI (b := 97) (by omega) (by decide))
    have e2 : (122 < nI (t i)) = (122 < t i) := propext (nI_ltI (a := 122) (by decide) (by omega))
    simp only [if_pos hi, decide_eq_true hi, Bool.true_and, decide_eq_true_eq]
    refine K_go 1 o_X6_isAlpha [] rfl (Nat.le_of_ble_eq_true rfl) ?_
    simp only [lvA_i, lvA_a, lvA_l, lvA_nil, List.cons_append, List.nil_append]
    refine J_blk a_X6_isAlpha_0 ?_
    simp only [b_X6_isAlpha_0, w_iload_n0, w_bipush, ci_97, w_icmp_lt, w_nil, kd_46, kd_47, kd_48, kd_49, kd_50, kd_51, kd_52, kd_53, kd_54, kd_55, kd_56, kd_57, kd_58, kd_59, ln_47, ln_48, ln_49, ln_50, ln_51, ln_52, ln_53, ln_54, ln_55, ln_56, ln_57, ln_58, ln_59, Option.toList_some, Option.toList_none, List.cons_append, List.nil_append, true_and, and_true, if_true, if_false, true_or, or_true, Nat.reduceAdd, Int.reduceAdd, Bool.false_eq_true, tn_0, tn_1, tn_2, tn_3, tn_4, tn_5, tn_6, tn_7, e1, e2]
    refine ⟨fun c1 => ?_, fun c1 => ?_⟩
    · refine J_blk a_X6_isAlpha_16 ?_
      simp only [b_X6_isAlpha_16, w_iconst_0, w_nil, kd_46, kd_47, kd_48, kd_49, kd_50, kd_51, kd_52, kd_53, kd_54, kd_55, kd_56, kd_57, kd_58, kd_59, ln_47, ln_48, ln_49, ln_50, ln_51, ln_52, ln_53, ln_54, ln_55, ln_56, ln_57, ln_58, ln_59, Option.toList_some, Option.toList_none, List.cons_append, List.nil_append, true_and, and_true, if_true, if_false, true_or, or_true, Nat.reduceAdd, Int.reduceAdd, Bool.false_eq_true, tn_0, tn_1, tn_2, tn_3, tn_4, tn_5, tn_6, tn_7, e1, e2]
      refine J_blk a_X6_isAlpha_17 ?_
      simp only [b_X6_isAlpha_17, w_iretz, kd_46, kd_47, kd_48, kd_49, kd_50, kd_51, kd_52, kd_53, kd_54, kd_55, kd_56, kd_57, kd_58, kd_59, ln_47, ln_48, ln_49, ln_50, ln_51, ln_52, ln_53, ln_54, ln_55, ln_56, ln_57, ln_58, ln_59, Option.toList_some, Option.toList_none, List.cons_append, List.nil_append, true_and, and_true, if_true, if_false, true_or, or_true, Nat.reduceAdd, Int.reduceAdd, Bool.false_eq_true, tn_0, tn_1, tn_2, tn_3, tn_4, tn_5, tn_6, tn_7, e1, e2]
      try refine ⟨(by first | exact Or.inl rfl | exact Or.inr rfl), ?_⟩
      exact ⟨by congr 2; split <;> grind, rfl⟩
    · refine J_blk a_X6_isAlpha_6 ?_
      simp only [b_X6_isAlpha_6, w_iload_n0, w_bipush, ci_122, w_icmp_gt, w_nil, kd_46, kd_47, kd_48, kd_49, kd_50, kd_51, kd_52, kd_53, kd_54, kd_55, kd_56, kd_57, kd_58, kd_59, ln_47, ln_48, ln_49, ln_50, ln_51, ln_52, ln_53, ln_54, ln_55, ln_56, ln_57, ln_58, ln_59, Option.toList_some, Option.toList_none, List.cons_append, List.nil_append, true_and, and_true, if_true, if_false, true_or, or_true, Nat.reduceAdd, Int.reduceAdd, Bool.false_eq_true, tn_0, tn_1, tn_2, tn_3, tn_4, tn_5, tn_6, tn_7, e1, e2]
      refine ⟨fun c2 => ?_, fun c2 => ?_⟩
      · refine J_blk a_X6_isAlpha_16 ?_
        simp only [b_X6_isAlpha_16, w_iconst_0, w_nil, kd_46, kd_47, kd_48, kd_49, kd_50, kd_51, kd_52, kd_53, kd_54, kd_55, kd_56, kd_57, kd_58, kd_59, ln_47, ln_48, ln_49, ln_50, ln_51, ln_52, ln_53, ln_54, ln_55, ln_56, ln_57, ln_58, ln_59, Option.toList_some, Option.toList_none, List.cons_append, List.nil_append, true_and, and_true, if_true, if_false, true_or, or_true, Nat.reduceAdd, Int.reduceAdd, Bool.false_eq_true, tn_0, tn_1, tn_2, tn_3, tn_4, tn_5, tn_6, tn_7, e1, e2]
        refine J_blk a_X6_isAlpha_17 ?_
        simp only [b_X6_isAlpha_17, w_iretz, kd_46, kd_47, kd_48, kd_49, kd_50, kd_51, kd_52, kd_53, kd_54, kd_55, kd_56, kd_57, kd_58, kd_59, ln_47, ln_48, ln_49, ln_50, ln_51, ln_52, ln_53, ln_54, ln_55, ln_56, ln_57, ln_58, ln_59, Option.toList_some, Option.toList_none, List.cons_append, List.nil_append, true_and, and_true, if_true, if_false, true_or, or_true, Nat.reduceAdd, Int.reduceAdd, Bool.false_eq_true, tn_0, tn_1, tn_2, tn_3, tn_4, tn_5, tn_6, tn_7, e1, e2]
        try refine ⟨(by first | exact Or.inl rfl | exact Or.inr rfl), ?_⟩
        exact ⟨by congr 2; split <;> grind, rfl⟩
      · refine J_blk a_X6_isAlpha_12 ?_
        simp only [b_X6_isAlpha_12, w_iconst_1, w_goto, kd_46, kd_47, kd_48, kd_49, kd_50, kd_51, kd_52, kd_53, kd_54, kd_55, kd_56, kd_57, kd_58, kd_59, ln_47, ln_48, ln_49, ln_50, ln_51, ln_52, ln_53, ln_54, ln_55, ln_56, ln_57, ln_58, ln_59, Option.toList_some, Option.toList_none, List.cons_append, List.nil_append, true_and, and_true, if_true, if_false, true_or, or_true, Nat.reduceAdd, Int.reduceAdd, Bool.false_eq_true, tn_0, tn_1, tn_2, tn_3, tn_4, tn_5, tn_6, tn_7, e1, e2]
        refine J_blk a_X6_isAlpha_17 ?_
        simp only [b_X6_isAlpha_17, w_iretz, kd_46, kd_47, kd_48, kd_49, kd_50, kd_51, kd_52, kd_53, kd_54, kd_55, kd_56, kd_57, kd_58, kd_59, ln_47, ln_48, ln_49, ln_50, ln_51, ln_52, ln_53, ln_54, ln_55, ln_56, ln_57, ln_58, ln_59, Option.toList_some, Option.toList_none, List.cons_append, List.nil_append, true_and, and_true, if_true, if_false, true_or, or_true, Nat.reduceAdd, Int.reduceAdd, Bool.false_eq_true, tn_0, tn_1, tn_2, tn_3, tn_4, tn_5, tn_6, tn_7, e1, e2]
        try refine ⟨(by first | exact Or.inl rfl | exact Or.inr rfl), ?_⟩
        exact ⟨by congr 2; split <;> grind, rfl⟩
  · simp only [if_neg hi, decide_eq_false hi, Bool.false_and]
    refine K_go 1 o_X6_isAlpha [] rfl (Nat.le_of_ble_eq_true rfl) ?_
    simp only [lvA_i, lvA_a, lvA_l, lvA_nil, List.cons_append, List.nil_append]
    refine J_blk a_X6_isAlpha_0 ?_
    simp only [b_X6_isAlpha_0, w_iload_n0, w_bipush, ci_97, w_icmp_lt, w_nil, kd_46, kd_47, kd_48, kd_49, kd_50, kd_51, kd_52, kd_53, kd_54, kd_55, kd_56, kd_57, kd_58, kd_59, ln_47, ln_48, ln_49, ln_50, ln_51, ln_52, ln_53, ln_54, ln_55, ln_56, ln_57, ln_58, ln_59, Option.toList_some, Option.toList_none, List.cons_append, List.nil_append, true_and, and_true, if_true, if_false, true_or, or_true, Nat.reduceAdd, Int.reduceAdd, Bool.false_eq_true, tn_0, tn_1, tn_2, tn_3, tn_4, tn_5, tn_6, tn_7]
    refine ⟨fun c3 => ?_, fun c3 => ?_⟩
    · first
        | exact absurd c3 (by decide)
        | (refine J_blk a_X6_isAlpha_16 ?_
           simp only [b_X6_isAlpha_16, w_iconst_0, w_nil, kd_46, kd_47, kd_48, kd_49, kd_50, kd_51, kd_52, kd_53, kd_54, kd_55, kd_56, kd_57, kd_58, kd_59, ln_47, ln_48, ln_49, ln_50, ln_51, ln_52, ln_53, ln_54, ln_55, ln_56, ln_57, ln_58, ln_59, Option.toList_some, Option.toList_none, List.cons_append, List.nil_append, true_and, and_true, if_true, if_false, true_or, or_true, Nat.reduceAdd, Int.reduceAdd, Bool.false_eq_true, tn_0, tn_1, tn_2, tn_3, tn_4, tn_5, tn_6, tn_7]
           refine J_blk a_X6_isAlpha_17 ?_
           simp only [b_X6_isAlpha_17, w_iretz, kd_46, kd_47, kd_48, kd_49, kd_50, kd_51, kd_52, kd_53, kd_54, kd_55, kd_56, kd_57, kd_58, kd_59, ln_47, ln_48, ln_49, ln_50, ln_51, ln_52, ln_53, ln_54, ln_55, ln_56, ln_57, ln_58, ln_59, Option.toList_some, Option.toList_none, List.cons_append, List.nil_append, true_and, and_true, if_true, if_false, true_or, or_true, Nat.reduceAdd, Int.reduceAdd, Bool.false_eq_true, tn_0, tn_1, tn_2, tn_3, tn_4, tn_5, tn_6, tn_7]
           try refine ⟨(by first | exact Or.inl rfl | exact Or.inr rfl), ?_⟩
           exact ⟨rfl, rfl⟩)
    · first
        | exact absurd c3 (by decide)
        | (refine J_blk a_X6_isAlpha_6 ?_
           simp only [b_X6_isAlpha_6, w_iload_n0, w_bipush, ci_122, w_icmp_gt, w_nil, kd_46, kd_47, kd_48, kd_49, kd_50, kd_51, kd_52, kd_53, kd_54, kd_55, kd_56, kd_57, kd_58, kd_59, ln_47, ln_48, ln_49, ln_50, ln_51, ln_52, ln_53, ln_54, ln_55, ln_56, ln_57, ln_58, ln_59, Option.toList_some, Option.toList_none, List.cons_append, List.nil_append, true_and, and_true, if_true, if_false, true_or, or_true, Nat.reduceAdd, Int.reduceAdd, Bool.false_eq_true, tn_0, tn_1, tn_2, tn_3, tn_4, tn_5, tn_6, tn_7]
           refine ⟨fun c4 => ?_, fun c4 => ?_⟩
           · first
               | exact absurd c4 (by decide)
               | (refine J_blk a_X6_isAlpha_16 ?_
                  simp only [b_X6_isAlpha_16, w_iconst_0, w_nil, kd_46, kd_47, kd_48, kd_49, kd_50, kd_51, kd_52, kd_53, kd_54, kd_55, kd_56, kd_57, kd_58, kd_59, ln_47, ln_48, ln_49, ln_50, ln_51, ln_52, ln_53, ln_54, ln_55, ln_56, ln_57, ln_58, ln_59, Option.toList_some, Option.toList_none, List.cons_append, List.nil_append, true_and, and_true, if_true, if_false, true_or, or_true, Nat.reduceAdd, Int.reduceAdd, Bool.false_eq_true, tn_0, tn_1, tn_2, tn_3, tn_4, tn_5, tn_6, tn_7]
                  refine J_blk a_X6_isAlpha_17 ?_
                  simp only [b_X6_isAlpha_17, w_iretz, kd_46, kd_47, kd_48, kd_49, kd_50, kd_51, kd_52, kd_53, kd_54, kd_55, kd_56, kd_57, kd_58, kd_59, ln_47, ln_48, ln_49, ln_50, ln_51, ln_52, ln_53, ln_54, ln_55, ln_56, ln_57, ln_58, ln_59, Option.toList_some, Option.toList_none, List.cons_append, List.nil_append, true_and, and_true, if_true, if_false, true_or, or_true, Nat.reduceAdd, Int.reduceAdd, Bool.false_eq_true, tn_0, tn_1, tn_2, tn_3, tn_4, tn_5, tn_6, tn_7]
                  try refine ⟨(by first | exact Or.inl rfl | exact Or.inr rfl), ?_⟩
                  exact ⟨rfl, rfl⟩)
           · first
               | exact absurd c4 (by decide)
               | (refine J_blk a_X6_isAlpha_12 ?_
                  simp only [b_X6_isAlpha_12, w_iconst_1, w_goto, kd_46, kd_47, kd_48, kd_49, kd_50, kd_51, kd_52, kd_53, kd_54, kd_55, kd_56, kd_57, kd_58, kd_59, ln_47, ln_48, ln_49, ln_50, ln_51, ln_52, ln_53, ln_54, ln_55, ln_56, ln_57, ln_58, ln_59, Option.toList_some, Option.toList_none, List.cons_append, List.nil_append, true_and, and_true, if_true, if_false, true_or, or_true, Nat.reduceAdd, Int.reduceAdd, Bool.false_eq_true, tn_0, tn_1, tn_2, tn_3, tn_4, tn_5, tn_6, tn_7]
                  refine J_blk a_X6_isAlpha_17 ?_
                  simp only [b_X6_isAlpha_17, w_iretz, kd_46, kd_47, kd_48, kd_49, kd_50, kd_51, kd_52, kd_53, kd_54, kd_55, kd_56, kd_57, kd_58, kd_59, ln_47, ln_48, ln_49, ln_50, ln_51, ln_52, ln_53, ln_54, ln_55, ln_56, ln_57, ln_58, ln_59, Option.toList_some, Option.toList_none, List.cons_append, List.nil_append, true_and, and_true, if_true, if_false, true_or, or_true, Nat.reduceAdd, Int.reduceAdd, Bool.false_eq_true, tn_0, tn_1, tn_2, tn_3, tn_4, tn_5, tn_6, tn_7]
                  try refine ⟨(by first | exact Or.inl rfl | exact Or.inr rfl), ?_⟩
                  exact ⟨rfl, rfl⟩))
theorem isDigit_ok (t : Nat → Nat) (L i : Nat) (M : Mm) (h : ∀ i, t i < 256) : K 0 mX6_isDigit [.int (byI t L i)] M (Rt (some (.int (bI (decide (i < L) && dgB (t i))))) M) := by
  unfold byI dgB bI
  by_cases hi : i < L
  · have h1 := h i
    have e1 : (nI (t i) < 48) = (t i < 48) := propext (nI_ltI (b := 48) (by omega) (by decide))
    have e2 : (57 < nI (t i)) = (57 < t i) := propext (nI_ltI (a := 57) (by decide) (by omega))
    simp only [if_pos hi, decide_eq_true hi, Bool.true_and, decide_eq_true_eq]
    refine K_go 1 o_X6_isDigit [] rfl (Nat.le_of_ble_eq_true rfl) ?_
    simp only [lvA_i, lvA_a, lvA_l, lvA_nil, List.cons_append, List.nil_append]
    refine J_blk a_X6_isDigit_0 ?_
    simp only [b_X6_isDigit_0, w_iload_n0, w_bipush, ci_48, w_icmp_lt, w_nil, kd_46, kd_47, kd_48, kd_49, kd_50, kd_51, kd_52, kd_53, kd_54, kd_55, kd_56, kd_57, kd_58, kd_59, ln_47, ln_48, ln_49, ln_50, ln_51, ln_52, ln_53, ln_54, ln_55, ln_56, ln_57, ln_58, ln_59, Option.toList_some, Option.toList_none, List.cons_append, List.nil_append, true_and, and_true, if_true, if_false, true_or, or_true, Nat.reduceAdd, Int.reduceAdd, Bool.false_eq_true, tn_0, tn_1, tn_2, tn_3, tn_4, tn_5, tn_6, tn_7, e1, e2]
    refine ⟨fun c5 => ?_, fun c5 => ?_⟩
    · refine J_blk a_X6_isDigit_16 ?_
      simp only [b_X6_isDigit_16, w_iconst_0, w_nil, kd_46, kd_47, kd_48, kd_49, kd_50, kd_51, kd_52, kd_53, kd_54, kd_55, kd_56, kd_57, kd_58, kd_59, ln_47, ln_48, ln_49, ln_50, ln_51, ln_52, ln_53, ln_54, ln_55, ln_56, ln_57, ln_58, ln_59, Option.toList_some, Option.toList_none, List.cons_append, List.nil_append, true_and, and_true, if_true, if_false, true_or, or_true, Nat.reduceAdd, Int.reduceAdd, Bool.false_eq_true, tn_0, tn_1, tn_2, tn_3, tn_4, tn_5, tn_6, tn_7, e1, e2]
      refine J_blk a_X6_isDigit_17 ?_
      simp only [b_X6_isDigit_17, w_iretz, kd_46, kd_47, kd_48, kd_49, kd_50, kd_51, kd_52, kd_53, kd_54, kd_55, kd_56, kd_57, kd_58, kd_59, ln_47, ln_48, ln_49, ln_50, ln_51, ln_52, ln_53, ln_54, ln_55, ln_56, ln_57, ln_58, ln_59, Option.toList_some, Option.toList_none, List.cons_append, List.nil_append, true_and, and_true, if_true, if_false, true_or, or_true, Nat.reduceAdd, Int.reduceAdd, Bool.false_eq_true, tn_0, tn_1, tn_2, tn_3, tn_4, tn_5, tn_6, tn_7, e1, e2]
      try refine ⟨(by first | exact Or.inl rfl | exact Or.inr rfl), ?_⟩
      exact ⟨by congr 2; split <;> grind, rfl⟩
    · refine J_blk a_X6_isDigit_6 ?_
      simp only [b_X6_isDigit_6, w_iload_n0, w_bipush, ci_57, w_icmp_gt, w_nil, kd_46, kd_47, kd_48, kd_49, kd_50, kd_51, kd_52, kd_53, kd_54, kd_55, kd_56, kd_57, kd_58, kd_59, ln_47, ln_48, ln_49, ln_50, ln_51, ln_52, ln_53, ln_54, ln_55, ln_56, ln_57, ln_58, ln_59, Option.toList_some, Option.toList_none, List.cons_append, List.nil_append, true_and, and_true, if_true, if_false, true_or, or_true, Nat.reduceAdd, Int.reduceAdd, Bool.false_eq_true, tn_0, tn_1, tn_2, tn_3, tn_4, tn_5, tn_6, tn_7, e1, e2]
      refine ⟨fun c6 => ?_, fun c6 => ?_⟩
      · refine J_blk a_X6_isDigit_16 ?_
        simp only [b_X6_isDigit_16, w_iconst_0, w_nil, kd_46, kd_47, kd_48, kd_49, kd_50, kd_51, kd_52, kd_53, kd_54, kd_55, kd_56, kd_57, kd_58, kd_59, ln_47, ln_48, ln_49, ln_50, ln_51, ln_52, ln_53, ln_54, ln_55, ln_56, ln_57, ln_58, ln_59, Option.toList_some, Option.toList_none, List.cons_append, List.nil_append, true_and, and_true, if_true, if_false, true_or, or_true, Nat.reduceAdd, Int.reduceAdd, Bool.false_eq_true, tn_0, tn_1, tn_2, tn_3, tn_4, tn_5, tn_6, tn_7, e1, e2]
        refine J_blk a_X6_isDigit_17 ?_
        simp only [b_X6_isDigit_17, w_iretz, kd_46, kd_47, kd_48, kd_49, kd_50, kd_51, kd_52, kd_53, kd_54, kd_55, kd_56, kd_57, kd_58, kd_59, ln_47, ln_48, ln_49, ln_50, ln_51, ln_52, ln_53, ln_54, ln_55, ln_56, ln_57, ln_58, ln_59, Option.toList_some, Option.toList_none, List.cons_append, List.nil_append, true_and, and_true, if_true, if_false, true_or, or_true, Nat.reduceAdd, Int.reduceAdd, Bool.false_eq_true, tn_0, tn_1, tn_2, tn_3, tn_4, tn_5, tn_6, tn_7, e1, e2]
        try refine ⟨(by first | exact Or.inl rfl | exact Or.inr rfl), ?_⟩
        exact ⟨by congr 2; split <;> grind, rfl⟩
      · refine J_blk a_X6_isDigit_12 ?_
        simp only [b_X6_isDigit_12, w_iconst_1, w_goto, kd_46, kd_47, kd_48, kd_49, kd_50, kd_51, kd_52, kd_53, kd_54, kd_55, kd_56, kd_57, kd_58, kd_59, ln_47, ln_48, ln_49, ln_50, ln_51, ln_52, ln_53, ln_54, ln_55, ln_56, ln_57, ln_58, ln_59, Option.toList_some, Option.toList_none, List.cons_append, List.nil_append, true_and, and_true, if_true, if_false, true_or, or_true, Nat.reduceAdd, Int.reduceAdd, Bool.false_eq_true, tn_0, tn_1, tn_2, tn_3, tn_4, tn_5, tn_6, tn_7, e1, e2]
        refine J_blk a_X6_isDigit_17 ?_
        simp only [b_X6_isDigit_17, w_iretz, kd_46, kd_47, kd_48, kd_49, kd_50, kd_51, kd_52, kd_53, kd_54, kd_55, kd_56, kd_57, kd_58, kd_59, ln_47, ln_48, ln_49, ln_50, ln_51, ln_52, ln_53, ln_54, ln_55, ln_56, ln_57, ln_58, ln_59, Option.toList_some, Option.toList_none, List.cons_append, List.nil_append, true_and, and_true, if_true, if_false, true_or, or_true, Nat.reduceAdd, Int.reduceAdd, Bool.false_eq_true, tn_0, tn_1, tn_2, tn_3, tn_4, tn_5, tn_6, tn_7, e1, e2]
        try refine ⟨(by first | exact Or.inl rfl | exact Or.inr rfl), ?_⟩
        exact ⟨by congr 2; split <;> grind, rfl⟩
  · simp only [if_neg hi, decide_eq_false hi, Bool.false_and]
    refine K_go 1 o_X6_isDigit [] rfl (Nat.le_of_ble_eq_true rfl) ?_
    simp only [lvA_i, lvA_a, lvA_l, lvA_nil, List.cons_append, List.nil_append]
    refine J_blk a_X6_isDigit_0 ?_
    simp only [b_X6_isDigit_0, w_iload_n0, w_bipush, ci_48, w_icmp_lt, w_nil, kd_46, kd_47, kd_48, kd_49, kd_50, kd_51, kd_52, kd_53, kd_54, kd_55, kd_56, kd_57, kd_58, kd_59, ln_47, ln_48, ln_49, ln_50, ln_51, ln_52, ln_53, ln_54, ln_55, ln_56, ln_57, ln_58, ln_59, Option.toList_some, Option.toList_none, List.cons_append, List.nil_append, true_and, and_true, if_true, if_false, true_or, or_true, Nat.reduceAdd, Int.reduceAdd, Bool.false_eq_true, tn_0, tn_1, tn_2, tn_3, tn_4, tn_5, tn_6, tn_7]
    refine ⟨fun c7 => ?_, fun c7 => ?_⟩
    · first
        | exact absurd c7 (by decide)
        | (refine J_blk a_X6_isDigit_16 ?_
           simp only [b_X6_isDigit_16, w_iconst_0, w_nil, kd_46, kd_47, kd_48, kd_49, kd_50, kd_51, kd_52, kd_53, kd_54, kd_55, kd_56, kd_57, kd_58, kd_59, ln_47, ln_48, ln_49, ln_50, ln_51, ln_52, ln_53, ln_54, ln_55, ln_56, ln_57, ln_58, ln_59, Option.toList_some, Option.toList_none, List.cons_append, List.nil_append, true_and, and_true, if_true, if_false, true_or, or_true, Nat.reduceAdd, Int.reduceAdd, Bool.false_eq_true, tn_0, tn_1, tn_2, tn_3, tn_4, tn_5, tn_6, tn_7]
           refine J_blk a_X6_isDigit_17 ?_
           simp only [b_X6_isDigit_17, w_iretz, kd_46, kd_47, kd_48, kd_49, kd_50, kd_51, kd_52, kd_53, kd_54, kd_55, kd_56, kd_57, kd_58, kd_59, ln_47, ln_48, ln_49, ln_50, ln_51, ln_52, ln_53, ln_54, ln_55, ln_56, ln_57, ln_58, ln_59, Option.toList_some, Option.toList_none, List.cons_append, List.nil_append, true_and, and_true, if_true, if_false, true_or, or_true, Nat.reduceAdd, Int.reduceAdd, Bool.false_eq_true, tn_0, tn_1, tn_2, tn_3, tn_4, tn_5, tn_6, tn_7]
           try refine ⟨(by first | exact Or.inl rfl | exact Or.inr rfl), ?_⟩
           exact ⟨rfl, rfl⟩)
    · first
        | exact absurd c7 (by decide)
        | (refine J_blk a_X6_isDigit_6 ?_
           simp only [b_X6_isDigit_6, w_iload_n0, w_bipush, ci_57, w_icmp_gt, w_nil, kd_46, kd_47, kd_48, kd_49, kd_50, kd_51, kd_52, kd_53, kd_54, kd_55, kd_56, kd_57, kd_58, kd_59, ln_47, ln_48, ln_49, ln_50, ln_51, ln_52, ln_53, ln_54, ln_55, ln_56, ln_57, ln_58, ln_59, Option.toList_some, Option.toList_none, List.cons_append, List.nil_append, true_and, and_true, if_true, if_false, true_or, or_true, Nat.reduceAdd, Int.reduceAdd, Bool.false_eq_true, tn_0, tn_1, tn_2, tn_3, tn_4, tn_5, tn_6, tn_7]
           refine ⟨fun c8 => ?_, fun c8 => ?_⟩
           · first
               | exact absurd c8 (by decide)
               | (refine J_blk a_X6_isDigit_16 ?_
                  simp only [b_X6_isDigit_16, w_iconst_0, w_nil, kd_46, kd_47, kd_48, kd_49, kd_50, kd_51, kd_52, kd_53, kd_54, kd_55, kd_56, kd_57, kd_58, kd_59, ln_47, ln_48, ln_49, ln_50, ln_51, ln_52, ln_53, ln_54, ln_55, ln_56, ln_57, ln_58, ln_59, Option.toList_some, Option.toList_none, List.cons_append, List.nil_append, true_and, and_true, if_true, if_false, true_or, or_true, Nat.reduceAdd, Int.reduceAdd, Bool.false_eq_true, tn_0, tn_1, tn_2, tn_3, tn_4, tn_5, tn_6, tn_7]
                  refine J_blk a_X6_isDigit_17 ?_
                  simp only [b_X6_isDigit_17, w_iretz, kd_46, kd_47, kd_48, kd_49, kd_50, kd_51, kd_52, kd_53, kd_54, kd_55, kd_56, kd_57, kd_58, kd_59, ln_47, ln_48, ln_49, ln_50, ln_51, ln_52, ln_53, ln_54, ln_55, ln_56, ln_57, ln_58, ln_59, Option.toList_some, Option.toList_none, List.cons_append, List.nil_append, true_and, and_true, if_true, if_false, true_or, or_true, Nat.reduceAdd, Int.reduceAdd, Bool.false_eq_true, tn_0, tn_1, tn_2, tn_3, tn_4, tn_5, tn_6, tn_7]
                  try refine ⟨(by first | exact Or.inl rfl | exact Or.inr rfl), ?_⟩
                  exact ⟨rfl, rfl⟩)
           · first
               | exact absurd c8 (by decide)
               | (refine J_blk a_X6_isDigit_12 ?_
                  simp only [b_X6_isDigit_12, w_iconst_1, w_goto, kd_46, kd_47, kd_48, kd_49, kd_50, kd_51, kd_52, kd_53, kd_54, kd_55, kd_56, kd_57, kd_58, kd_59, ln_47, ln_48, ln_49, ln_50, ln_51, ln_52, ln_53, ln_54, ln_55, ln_56, ln_57, ln_58, ln_59, Option.toList_some, Option.toList_none, List.cons_append, List.nil_append, true_and, and_true, if_true, if_false, true_or, or_true, Nat.reduceAdd, Int.reduceAdd, Bool.false_eq_true, tn_0, tn_1, tn_2, tn_3, tn_4, tn_5, tn_6, tn_7]
                  refine J_blk a_X6_isDigit_17 ?_
                  simp only [b_X6_isDigit_17, w_iretz, kd_46, kd_47, kd_48, kd_49, kd_50, kd_51, kd_52, kd_53, kd_54, kd_55, kd_56, kd_57, kd_58, kd_59, ln_47, ln_48, ln_49, ln_50, ln_51, ln_52, ln_53, ln_54, ln_55, ln_56, ln_57, ln_58, ln_59, Option.toList_some, Option.toList_none, List.cons_append, List.nil_append, true_and, and_true, if_true, if_false, true_or, or_true, Nat.reduceAdd, Int.reduceAdd, Bool.false_eq_true, tn_0, tn_1, tn_2, tn_3, tn_4, tn_5, tn_6, tn_7]
                  try refine ⟨(by first | exact Or.inl rfl | exact Or.inr rfl), ?_⟩
                  exact ⟨rfl, rfl⟩))
def tkF (t : Nat → Nat) (L : Nat) (f : Nat → Int32) (fr : Nat) : Nat → Int32 := fun j => if j = 7 then nI (knd t L fr) else if j = 8 then nI fr else if j = 9 then nI (te t L fr) else if j = 10 then nI (vl t L fr) else f j
/-- all four are right -/
theorem tk_of {t : Nat → Nat} {L : Nat} {f F : Nat → Int32} {fr : Nat} (h7 : F 7 = nI (knd t L fr)) (h8 : F 8 = nI fr) (h9 : F 9 = nI (te t L fr)) (h10 : F 10 = nI (vl t L fr)) (ho : ∀ j, j ≠ 7 → j ≠ 8 → j ≠ 9 → j ≠ 10 → F j = f j) : F = tkF t L f fr := by
  funext j
  unfold tkF
  by_cases j7 : j = 7
  · subst j7; rw [if_pos rfl]; exact h7
  · rw [if_neg j7]
    by_cases j8 : j = 8
    · subst j8; rw [if_pos rfl]; exact h8
    · rw [if_neg j8]
      by_cases j9 : j = 9
      · subst j9; rw [if_pos rfl]; exact h9
      · rw [if_neg j9]
        by_cases j10 : j = 10
        · subst j10; rw [if_pos rfl]; exact h10
        · rw [if_neg j10]; exact ho j j7 j8 j9 j10
theorem TP_su {M : Mm} {t : Nat → Nat} {L : Nat} {F : Nat → Int32} (h : TP M t L) (h6 : F 6 = M.1 46 6) : TP (su M 46 F) t L := by
  refine ⟨by rw [su_at, h6]; exact h.1, h.2.1, h.2.2.1, fun i hi => ?_⟩
  rw [su_ne _ _ _ _ (by decide)]
  exact h.2.2.2 i hi
theorem nextToken_ok (t : Nat → Nat) (L to : Nat) (M : Mm) (h : TP M t L) (hto : to ≤ L) (e9 : M.1 46 9 = nI to) : K 1 mX6_nextToken [.ref 46] M (Rt none (su M 46 (tkF t L (M.1 46) (skp t L to)))) := by
  have hL := h.2.1
  have hb := h.2.2.1
  generalize hR : (Rt none (su M 46 (tkF t L (M.1 46) (skp t L to))) : Option Value → Mm → Prop) = R
  generalize hfr : skp t L to = fr at hR
  have hfl : fr ≤ L := by rw [← hfr]; exact (skp_le t hto).1
  -- the last row: an other one is one long
  have last : ∀ (F : Nat → Int32) (z : Int32), F 7 = nI (knd t L fr) → F 8 = nI fr → F 9 + (if knd t L fr = 3 then 1 else 0) = nI (te t L fr) → F 10 = nI (vl t L fr) → (∀ j, j ≠ 7 → j ≠ 8 → j ≠ 9 → j ≠ 10 → F j = M.1 46 j) → J 1 mX6_nextToken 201 [some (.ref 46), some (.int z)] [] (su M 46 F) R := by
    intro F z h7 h8 h9 h10 ho
    have e7 : (nI (knd t L fr) ≤ 2) = (knd t L fr ≤ 2) := propext (nI_leI (b := 2) (by unfold knd; split <;> (try split) <;> (try split) <;> omega) (by decide))
    have hk : knd t L fr ≤ 3 := by unfold knd; split <;> (try split) <;> (try split) <;> omega
    have done : ∀ v, v = nI (te t L fr) → J 1 mX6_nextToken 219 [some (.ref 46), some (.int z)] [.int (v - F 9), .int (F 9), .ref 46] (su M 46 F) R := by
      intro v hv
      have e : F 9 + (v - F 9) = v := by rw [Int32.add_comm, Int32.sub_add_cancel]
      refine J_blk a_X6_nextToken_219 ?_
      simp only [b_X6_nextToken_219, w_iadd, w_putf6, w_vret, kd_46, kd_47, kd_48, kd_49, kd_50, kd_51, kd_52, kd_53, kd_54, kd_55, kd_56, kd_57, kd_58, kd_59, ln_47, ln_48, ln_49, ln_50, ln_51, ln_52, ln_53, ln_54, ln_55, ln_56, ln_57, ln_58, ln_59, Option.toList_some, Option.toList_none, List.cons_append, List.nil_append, true_and, and_true, if_true, if_false, true_or, or_true, Nat.reduceAdd, Int.reduceAdd, Bool.false_eq_true, tn_0, tn_1, tn_2, tn_3, tn_4, tn_5, tn_6, tn_7, u1_su, e]
      rw [← hR]
      refine ⟨rfl, ?_⟩
      congr 1
      exact tk_of (by simpa [upd] using h7) (by simpa [upd] using h8) (by simpa [upd] using hv) (by simpa [upd] using h10) (fun j a b c d => by simp [upd, c]; exact ho j a b c d)
    refine J_blk a_X6_nextToken_201 ?_
    simp only [b_X6_nextToken_201, w_aload_n0, w_dup_i, w_dup_a, w_getf6, w_iconst_2, w_icmp_le, w_nil, kd_46, kd_47, kd_48, kd_49, kd_50, kd_51, kd_52, kd_53, kd_54, kd_55, kd_56, kd_57, kd_58, kd_59, ln_47, ln_48, ln_49, ln_50, ln_51, ln_52, ln_53, ln_54, ln_55, ln_56, ln_57, ln_58, ln_59, Option.toList_some, Option.toList_none, List.cons_append, List.nil_append, true_and, and_true, if_true, if_false, true_or, or_true, Nat.reduceAdd, Int.reduceAdd, Bool.false_eq_true, tn_0, tn_1, tn_2, tn_3, tn_4, tn_5, tn_6, tn_7, su_at, h7, e7]
    refine ⟨fun c => ?_, fun c => ?_⟩
    · rw [if_neg (by omega)] at h9
      have d := done (F 9) (by rw [← h9]; simp)
      rw [Int32.sub_self] at d
      refine J_blk a_X6_nextToken_218 ?_
      simp only [b_X6_nextToken_218, w_iconst_0, w_nil, kd_46, kd_47, kd_48, kd_49, kd_50, kd_51, kd_52, kd_53, kd_54, kd_55, kd_56, kd_57, kd_58, kd_59, ln_47, ln_48, ln_49, ln_50, ln_51, ln_52, ln_53, ln_54, ln_55, ln_56, ln_57, ln_58, ln_59, Option.toList_some, Option.toList_none, List.cons_append, List.nil_append, true_and, and_true, if_true, if_false, true_or, or_true, Nat.reduceAdd, Int.reduceAdd, Bool.false_eq_true, tn_0, tn_1, tn_2, tn_3, tn_4, tn_5, tn_6, tn_7]
      exact d
    · rw [if_pos (by omega)] at h9
      have d := done (F 9 + 1) h9
      rw [Int32.add_comm, Int32.add_sub_cancel] at d
      refine J_blk a_X6_nextToken_214 ?_
      simp only [b_X6_nextToken_214, w_iconst_1, w_goto, kd_46, kd_47, kd_48, kd_49, kd_50, kd_51, kd_52, kd_53, kd_54, kd_55, kd_56, kd_57, kd_58, kd_59, ln_47, ln_48, ln_49, ln_50, ln_51, ln_52, ln_53, ln_54, ln_55, ln_56, ln_57, ln_58, ln_59, Option.toList_some, Option.toList_none, List.cons_append, List.nil_append, true_and, and_true, if_true, if_false, true_or, or_true, Nat.reduceAdd, Int.reduceAdd, Bool.false_eq_true, tn_0, tn_1, tn_2, tn_3, tn_4, tn_5, tn_6, tn_7]
      exact d
  -- digits
  have digits : ∀ (f i : Nat) (F : Nat → Int32) (z : Int32), f + i = L → fr ≤ i → knd t L fr = 2 → te t L fr = rnF dgB t f i → F 7 = nI (knd t L fr) → F 8 = nI fr → F 9 = nI i → F 10 = nI (vF t fr (i - fr)) → (∀ j, j ≠ 7 → j ≠ 8 → j ≠ 9 → j ≠ 10 → F j = M.1 46 j) → J 1 mX6_nextToken 126 [some (.ref 46), some (.int z)] [] (su M 46 F) R := by
    intro f
    induction f with
    | zero =>
      intro i F z hi hfi hk hte h7 h8 h9 h10 ho
      have hTP : TP (su M 46 F) t L := TP_su h (ho 6 (by decide) (by decide) (by decide) (by decide))
      have lst := last F z h7 h8 (by rw [h9, hk, hte]; simp [rnF]) (by rw [h10]; unfold vl; rw [if_pos hk, hte]; rfl) ho
      refine J_blk a_X6_nextToken_126 ?_
      simp only [b_X6_nextToken_126, w_aload_n0, w_getf6, w_iconst_2, w_icmp_ne, w_nil, kd_46, kd_47, kd_48, kd_49, kd_50, kd_51, kd_52, kd_53, kd_54, kd_55, kd_56, kd_57, kd_58, kd_59, ln_47, ln_48, ln_49, ln_50, ln_51, ln_52, ln_53, ln_54, ln_55, ln_56, ln_57, ln_58, ln_59, Option.toList_some, Option.toList_none, List.cons_append, List.nil_append, true_and, and_true, if_true, if_false, true_or, or_true, Nat.reduceAdd, Int.reduceAdd, Bool.false_eq_true, tn_0, tn_1, tn_2, tn_3, tn_4, tn_5, tn_6, tn_7, su_at, h7, hk]
      refine ⟨fun c => absurd rfl c, fun _ => ?_⟩
      refine J_blk a_X6_nextToken_134 ?_
      simp only [b_X6_nextToken_134, w_aload_n0, w_getf6, w_nil, kd_46, kd_47, kd_48, kd_49, kd_50, kd_51, kd_52, kd_53, kd_54, kd_55, kd_56, kd_57, kd_58, kd_59, ln_47, ln_48, ln_49, ln_50, ln_51, ln_52, ln_53, ln_54, ln_55, ln_56, ln_57, ln_58, ln_59, Option.toList_some, Option.toList_none, List.cons_append, List.nil_append, true_and, and_true, if_true, if_false, true_or, or_true, Nat.reduceAdd, Int.reduceAdd, Bool.false_eq_true, tn_0, tn_1, tn_2, tn_3, tn_4, tn_5, tn_6, tn_7, su_at, h9]
      refine J_callVr (ci := 6) (byteAt_ok t L i _ hTP (by omega)) k_X6_nextToken_139 o_X6_byteAt rfl rfl rfl rfl (by decide) rfl (Nat.le_of_ble_eq_true rfl) ?_
      refine J_callSr (isDigit_ok t L i _ hb) k_X6_nextToken_142 o_X6_isDigit rfl (by decide) rfl (Nat.le_of_ble_eq_true rfl) ?_
      rw [decide_eq_false (by omega), Bool.false_and]
      refine J_blk a_X6_nextToken_145 ?_
      simp only [b_X6_nextToken_145, w_if_eq, w_nil, kd_46, kd_47, kd_48, kd_49, kd_50, kd_51, kd_52, kd_53, kd_54, kd_55, kd_56, kd_57, kd_58, kd_59, ln_47, ln_48, ln_49, ln_50, ln_51, ln_52, ln_53, ln_54, ln_55, ln_56, ln_57, ln_58, ln_59, Option.toList_some, Option.toList_none, List.cons_append, List.nil_append, true_and, and_true, if_true, if_false, true_or, or_true, Nat.reduceAdd, Int.reduceAdd, Bool.false_eq_true, tn_0, tn_1, tn_2, tn_3, tn_4, tn_5, tn_6, tn_7]
      exact ⟨fun _ => lst, fun c => absurd rfl c⟩
    | succ f ih =>
      intro i F z hi hfi hk hte h7 h8 h9 h10 ho
      have hTP : TP (su M 46 F) t L := TP_su h (ho 6 (by decide) (by decide) (by decide) (by decide))
      refine J_blk a_X6_nextToken_126 ?_
      simp only [b_X6_nextToken_126, w_aload_n0, w_getf6, w_iconst_2, w_icmp_ne, w_nil, kd_46, kd_47, kd_48, kd_49, kd_50, kd_51, kd_52, kd_53, kd_54, kd_55, kd_56, kd_57, kd_58, kd_59, ln_47, ln_48, ln_49, ln_50, ln_51, ln_52, ln_53, ln_54, ln_55, ln_56, ln_57, ln_58, ln_59, Option.toList_some, Option.toList_none, List.cons_append, List.nil_append, true_and, and_true, if_true, if_false, true_or, or_true, Nat.reduceAdd, Int.reduceAdd, Bool.false_eq_true, tn_0, tn_1, tn_2, tn_3, tn_4, tn_5, tn_6, tn_7, su_at, h7, hk]
      refine ⟨fun c => absurd rfl c, fun _ => ?_⟩
      refine J_blk a_X6_nextToken_134 ?_
      simp only [b_X6_nextToken_134, w_aload_n0, w_getf6, w_nil, kd_46, kd_47, kd_48, kd_49, kd_50, kd_51, kd_52, kd_53, kd_54, kd_55, kd_56, kd_57, kd_58, kd_59, ln_47, ln_48, ln_49, ln_50, ln_51, ln_52, ln_53, ln_54, ln_55, ln_56, ln_57, ln_58, ln_59, Option.toList_some, Option.toList_none, List.cons_append, List.nil_append, true_and, and_true, if_true, if_false, true_or, or_true, Nat.reduceAdd, Int.reduceAdd, Bool.false_eq_true, tn_0, tn_1, tn_2, tn_3, tn_4, tn_5, tn_6, tn_7, su_at, h9]
      refine J_callVr (ci := 6) (byteAt_ok t L i _ hTP (by omega)) k_X6_nextToken_139 o_X6_byteAt rfl rfl rfl rfl (by decide) rfl (Nat.le_of_ble_eq_true rfl) ?_
      refine J_callSr (isDigit_ok t L i _ hb) k_X6_nextToken_142 o_X6_isDigit rfl (by decide) rfl (Nat.le_of_ble_eq_true rfl) ?_
      rw [decide_eq_true (by omega), Bool.true_and]
      by_cases hd : dgB (t i) = true
      · rw [hd]
        rw [rnF, if_pos hd] at hte
        have hd48 : 48 ≤ t i := (of_decide_eq_true hd).1
        have step : ∀ v, v = nI (vF t fr (i + 1 - fr)) → J 1 mX6_nextToken 185 [some (.ref 46), some (.int z)] [.int v, .ref 46] (su M 46 F) R := by
          intro v hv
          refine J_blk a_X6_nextToken_185 ?_
          simp only [b_X6_nextToken_185, w_putf6, w_aload_n0, w_dup_i, w_dup_a, w_getf6, w_iconst_1, w_iadd, w_goto, kd_46, kd_47, kd_48, kd_49, kd_50, kd_51, kd_52, kd_53, kd_54, kd_55, kd_56, kd_57, kd_58, kd_59, ln_47, ln_48, ln_49, ln_50, ln_51, ln_52, ln_53, ln_54, ln_55, ln_56, ln_57, ln_58, ln_59, Option.toList_some, Option.toList_none, List.cons_append, List.nil_append, true_and, and_true, if_true, if_false, true_or, or_true, Nat.reduceAdd, Int.reduceAdd, Bool.false_eq_true, tn_0, tn_1, tn_2, tn_3, tn_4, tn_5, tn_6, tn_7, u1_su, su_at, show upd F 10 v 9 = F 9 by simp [upd], h9, nI_1]
          refine ih (i + 1) _ z (by omega) (by omega) hk hte (by simpa [upd] using h7) (by simpa [upd] using h8) (by simp [upd]) (by simpa [upd] using hv) (fun j a b c d => by simp [upd, c, d]; exact ho j a b c d)
        have hv := vF_le t fr hb (i - fr)
        have e999 : (nI (vF t fr (i - fr)) ≤ 999) = (vF t fr (i - fr) ≤ 999) := propext (nI_leI (b := 999) (by omega) (by decide))
        have ev : vF t fr (i + 1 - fr) = if 999 < vF t fr (i - fr) then vF t fr (i - fr) else 10 * vF t fr (i - fr) + t i - 48 := by
          rw [show i + 1 - fr = (i - fr) + 1 by omega, vF, show fr + (i - fr) = i by omega]
        refine J_blk a_X6_nextToken_145 ?_
        simp only [b_X6_nextToken_145, w_if_eq, w_nil, kd_46, kd_47, kd_48, kd_49, kd_50, kd_51, kd_52, kd_53, kd_54, kd_55, kd_56, kd_57, kd_58, kd_59, ln_47, ln_48, ln_49, ln_50, ln_51, ln_52, ln_53, ln_54, ln_55, ln_56, ln_57, ln_58, ln_59, Option.toList_some, Option.toList_none, List.cons_append, List.nil_append, true_and, and_true, if_true, if_false, true_or, or_true, Nat.reduceAdd, Int.reduceAdd, Bool.false_eq_true, tn_0, tn_1, tn_2, tn_3, tn_4, tn_5, tn_6, tn_7]
        refine ⟨fun c => absurd c (by decide), fun _ => ?_⟩
        refine J_blk a_X6_nextToken_148 ?_
        simp only [b_X6_nextToken_148, w_aload_n0, w_getf6, w_sipush, ci_999, w_icmp_le, w_nil, kd_46, kd_47, kd_48, kd_49, kd_50, kd_51, kd_52, kd_53, kd_54, kd_55, kd_56, kd_57, kd_58, kd_59, ln_47, ln_48, ln_49, ln_50, ln_51, ln_52, ln_53, ln_54, ln_55, ln_56, ln_57, ln_58, ln_59, Option.toList_some, Option.toList_none, List.cons_append, List.nil_append, true_and, and_true, if_true, if_false, true_or, or_true, Nat.reduceAdd, Int.reduceAdd, Bool.false_eq_true, tn_0, tn_1, tn_2, tn_3, tn_4, tn_5, tn_6, tn_7, su_at, h10, e999]
        refine ⟨fun c => ?_, fun c => ?_⟩
        · rw [if_neg (by omega)] at ev
          refine J_blk a_X6_nextToken_166 ?_
          simp only [b_X6_nextToken_166, w_bipush, ci_10, w_aload_n0, w_getf6, w_imul, w_nil, kd_46, kd_47, kd_48, kd_49, kd_50, kd_51, kd_52, kd_53, kd_54, kd_55, kd_56, kd_57, kd_58, kd_59, ln_47, ln_48, ln_49, ln_50, ln_51, ln_52, ln_53, ln_54, ln_55, ln_56, ln_57, ln_58, ln_59, Option.toList_some, Option.toList_none, List.cons_append, List.nil_append, true_and, and_true, if_true, if_false, true_or, or_true, Nat.reduceAdd, Int.reduceAdd, Bool.false_eq_true, tn_0, tn_1, tn_2, tn_3, tn_4, tn_5, tn_6, tn_7, su_at, h9, h10]
          refine J_callVr (ci := 6) (byteAt_ok t L i _ hTP (by omega)) k_X6_nextToken_178 o_X6_byteAt rfl rfl rfl rfl (by decide) rfl (Nat.le_of_ble_eq_true rfl) ?_
          have eb : byI t L i = nI (t i) := by unfold byI; rw [if_pos (by omega)]
          have e10 : (10 : Int32) * nI (vF t fr (i - fr)) + nI (t i) - 48 = nI (10 * vF t fr (i - fr) + t i - 48) := by
            rw [show (10 : Int32) * nI (vF t fr (i - fr)) = nI (10 * vF t fr (i - fr)) from pk_mul 10 _, nI_add]
            exact pk_sub (b := 48) (by omega)
          refine J_blk a_X6_nextToken_181 ?_
          simp only [b_X6_nextToken_181, w_iadd, w_bipush, ci_48, w_isub, w_nil, kd_46, kd_47, kd_48, kd_49, kd_50, kd_51, kd_52, kd_53, kd_54, kd_55, kd_56, kd_57, kd_58, kd_59, ln_47, ln_48, ln_49, ln_50, ln_51, ln_52, ln_53, ln_54, ln_55, ln_56, ln_57, ln_58, ln_59, Option.toList_some, Option.toList_none, List.cons_append, List.nil_append, true_and, and_true, if_true, if_false, true_or, or_true, Nat.reduceAdd, Int.reduceAdd, Bool.false_eq_true, tn_0, tn_1, tn_2, tn_3, tn_4, tn_5, tn_6, tn_7, eb, e10]
          exact step _ (by rw [ev])
        · rw [if_pos (by omega)] at ev
          refine J_blk a_X6_nextToken_159 ?_
          simp only [b_X6_nextToken_159, w_aload_n0, w_getf6, w_goto, kd_46, kd_47, kd_48, kd_49, kd_50, kd_51, kd_52, kd_53, kd_54, kd_55, kd_56, kd_57, kd_58, kd_59, ln_47, ln_48, ln_49, ln_50, ln_51, ln_52, ln_53, ln_54, ln_55, ln_56, ln_57, ln_58, ln_59, Option.toList_some, Option.toList_none, List.cons_append, List.nil_append, true_and, and_true, if_true, if_false, true_or, or_true, Nat.reduceAdd, Int.reduceAdd, Bool.false_eq_true, tn_0, tn_1, tn_2, tn_3, tn_4, tn_5, tn_6, tn_7, su_at, h10]
          exact step _ (by rw [ev])
      · have hd' : dgB (t i) = false := (Bool.not_eq_true _).mp hd
        rw [hd']
        rw [rnF, if_neg hd] at hte
        have lst := last F z h7 h8 (by rw [h9, hk, hte]; simp) (by rw [h10]; unfold vl; rw [if_pos hk, hte]) ho
        refine J_blk a_X6_nextToken_145 ?_
        simp only [b_X6_nextToken_145, w_if_eq, w_nil, kd_46, kd_47, kd_48, kd_49, kd_50, kd_51, kd_52, kd_53, kd_54, kd_55, kd_56, kd_57, kd_58, kd_59, ln_47, ln_48, ln_49, ln_50, ln_51, ln_52, ln_53, ln_54, ln_55, ln_56, ln_57, ln_58, ln_59, Option.toList_some, Option.toList_none, List.cons_append, List.nil_append, true_and, and_true, if_true, if_false, true_or, or_true, Nat.reduceAdd, Int.reduceAdd, Bool.false_eq_true, tn_0, tn_1, tn_2, tn_3, tn_4, tn_5, tn_6, tn_7]
        exact ⟨fun _ => lst, fun c => absurd rfl c⟩
  -- behind the letters
  have behind : ∀ (F : Nat → Int32) (z : Int32), knd t L fr ≠ 2 → F 7 = nI (knd t L fr) → F 8 = nI fr → F 9 + (if knd t L fr = 3 then 1 else 0) = nI (te t L fr) → F 10 = 0 → (∀ j, j ≠ 7 → j ≠ 8 → j ≠ 9 → j ≠ 10 → F j = M.1 46 j) → J 1 mX6_nextToken 126 [some (.ref 46), some (.int z)] [] (su M 46 F) R := by
    intro F z hk h7 h8 h9 h10 ho
    have hk3 : knd t L fr ≤ 3 := by unfold knd; split <;> (try split) <;> (try split) <;> omega
    have e2 : (nI (knd t L fr) = 2) = (knd t L fr = 2) := propext (nI_eq (b := 2) (by omega) (by decide))
    refine J_blk a_X6_nextToken_126 ?_
    simp only [b_X6_nextToken_126, w_aload_n0, w_getf6, w_iconst_2, w_icmp_ne, w_nil, kd_46, kd_47, kd_48, kd_49, kd_50, kd_51, kd_52, kd_53, kd_54, kd_55, kd_56, kd_57, kd_58, kd_59, ln_47, ln_48, ln_49, ln_50, ln_51, ln_52, ln_53, ln_54, ln_55, ln_56, ln_57, ln_58, ln_59, Option.toList_some, Option.toList_none, List.cons_append, List.nil_append, true_and, and_true, if_true, if_false, true_or, or_true, Nat.reduceAdd, Int.reduceAdd, Bool.false_eq_true, tn_0, tn_1, tn_2, tn_3, tn_4, tn_5, tn_6, tn_7, su_at, h7, e2]
    exact ⟨fun _ => last F z h7 h8 h9 (by rw [h10]; unfold vl; rw [if_neg hk]; rfl) ho, fun c => absurd c hk⟩
  have letters : ∀ (f i : Nat) (F : Nat → Int32) (z : Int32), f + i = L → fr ≤ i → knd t L fr = 1 → te t L fr = rnF alB t f i → F 7 = nI (knd t L fr) → F 8 = nI fr → F 9 = nI i → F 10 = 0 → (∀ j, j ≠ 7 → j ≠ 8 → j ≠ 9 → j ≠ 10 → F j = M.1 46 j) → J 1 mX6_nextToken 91 [some (.ref 46), some (.int z)] [] (su M 46 F) R := by
    intro f
    induction f with
    | zero =>
      intro i F z hi hfi hk hte h7 h8 h9 h10 ho
      have hTP : TP (su M 46 F) t L := TP_su h (ho 6 (by decide) (by decide) (by decide) (by decide))
      have lst := behind F z (by omega) h7 h8 (by rw [h9, hk, hte]; simp [rnF]) h10 ho
      refine J_blk a_X6_nextToken_91 ?_
      simp only [b_X6_nextToken_91, w_aload_n0, w_getf6, w_iconst_1, w_icmp_ne, w_nil, kd_46, kd_47, kd_48, kd_49, kd_50, kd_51, kd_52, kd_53, kd_54, kd_55, kd_56, kd_57, kd_58, kd_59, ln_47, ln_48, ln_49, ln_50, ln_51, ln_52, ln_53, ln_54, ln_55, ln_56, ln_57, ln_58, ln_59, Option.toList_some, Option.toList_none, List.cons_append, List.nil_append, true_and, and_true, if_true, if_false, true_or, or_true, Nat.reduceAdd, Int.reduceAdd, Bool.false_eq_true, tn_0, tn_1, tn_2, tn_3, tn_4, tn_5, tn_6, tn_7, su_at, h7, hk]
      refine ⟨fun c => absurd rfl c, fun _ => ?_⟩
      refine J_blk a_X6_nextToken_99 ?_
      simp only [b_X6_nextToken_99, w_aload_n0, w_getf6, w_nil, kd_46, kd_47, kd_48, kd_49, kd_50, kd_51, kd_52, kd_53, kd_54, kd_55, kd_56, kd_57, kd_58, kd_59, ln_47, ln_48, ln_49, ln_50, ln_51, ln_52, ln_53, ln_54, ln_55, ln_56, ln_57, ln_58, ln_59, Option.toList_some, Option.toList_none, List.cons_append, List.nil_append, true_and, and_true, if_true, if_false, true_or, or_true, Nat.reduceAdd, Int.reduceAdd, Bool.false_eq_true, tn_0, tn_1, tn_2, tn_3, tn_4, tn_5, tn_6, tn_7, su_at, h9]
      refine J_callVr (ci := 6) (byteAt_ok t L i _ hTP (by omega)) k_X6_nextToken_104 o_X6_byteAt rfl rfl rfl rfl (by decide) rfl (Nat.le_of_ble_eq_true rfl) ?_
      refine J_callSr (isAlpha_ok t L i _ hb) k_X6_nextToken_107 o_X6_isAlpha rfl (by decide) rfl (Nat.le_of_ble_eq_true rfl) ?_
      rw [decide_eq_false (by omega), Bool.false_and]
      refine J_blk a_X6_nextToken_110 ?_
      simp only [b_X6_nextToken_110, w_if_eq, w_nil, kd_46, kd_47, kd_48, kd_49, kd_50, kd_51, kd_52, kd_53, kd_54, kd_55, kd_56, kd_57, kd_58, kd_59, ln_47, ln_48, ln_49, ln_50, ln_51, ln_52, ln_53, ln_54, ln_55, ln_56, ln_57, ln_58, ln_59, Option.toList_some, Option.toList_none, List.cons_append, List.nil_append, true_and, and_true, if_true, if_false, true_or, or_true, Nat.reduceAdd, Int.reduceAdd, Bool.false_eq_true, tn_0, tn_1, tn_2, tn_3, tn_4, tn_5, tn_6, tn_7]
      exact ⟨fun _ => lst, fun c => absurd rfl c⟩
    | succ f ih =>
      intro i F z hi hfi hk hte h7 h8 h9 h10 ho
      have hTP : TP (su M 46 F) t L := TP_su h (ho 6 (by decide) (by decide) (by decide) (by decide))
      refine J_blk a_X6_nextToken_91 ?_
      simp only [b_X6_nextToken_91, w_aload_n0, w_getf6, w_iconst_1, w_icmp_ne, w_nil, kd_46, kd_47, kd_48, kd_49, kd_50, kd_51, kd_52, kd_53, kd_54, kd_55, kd_56, kd_57, kd_58, kd_59, ln_47, ln_48, ln_49, ln_50, ln_51, ln_52, ln_53, ln_54, ln_55, ln_56, ln_57, ln_58, ln_59, Option.toList_some, Option.toList_none, List.cons_append, List.nil_append, true_and, and_true, if_true, if_false, true_or, or_true, Nat.reduceAdd, Int.reduceAdd, Bool.false_eq_true, tn_0, tn_1, tn_2, tn_3, tn_4, tn_5, tn_6, tn_7, su_at, h7, hk]
      refine ⟨fun c => absurd rfl c, fun _ => ?_⟩
      refine J_blk a_X6_nextToken_99 ?_
      simp only [b_X6_nextToken_99, w_aload_n0, w_getf6, w_nil, kd_46, kd_47, kd_48, kd_49, kd_50, kd_51, kd_52, kd_53, kd_54, kd_55, kd_56, kd_57, kd_58, kd_59, ln_47, ln_48, ln_49, ln_50, ln_51, ln_52, ln_53, ln_54, ln_55, ln_56, ln_57, ln_58, ln_59, Option.toList_some, Option.toList_none, List.cons_append, List.nil_append, true_and, and_true, if_true, if_false, true_or, or_true, Nat.reduceAdd, Int.reduceAdd, Bool.false_eq_true, tn_0, tn_1, tn_2, tn_3, tn_4, tn_5, tn_6, tn_7, su_at, h9]
      refine J_callVr (ci := 6) (byteAt_ok t L i _ hTP (by omega)) k_X6_nextToken_104 o_X6_byteAt rfl rfl rfl rfl (by decide) rfl (Nat.le_of_ble_eq_true rfl) ?_
      refine J_callSr (isAlpha_ok t L i _ hb) k_X6_nextToken_107 o_X6_isAlpha rfl (by decide) rfl (Nat.le_of_ble_eq_true rfl) ?_
      rw [decide_eq_true (by omega), Bool.true_and]
      by_cases hd : alB (t i) = true
      · rw [hd]
        rw [rnF, if_pos hd] at hte
        refine J_blk a_X6_nextToken_110 ?_
        simp only [b_X6_nextToken_110, w_if_eq, w_nil, kd_46, kd_47, kd_48, kd_49, kd_50, kd_51, kd_52, kd_53, kd_54, kd_55, kd_56, kd_57, kd_58, kd_59, ln_47, ln_48, ln_49, ln_50, ln_51, ln_52, ln_53, ln_54, ln_55, ln_56, ln_57, ln_58, ln_59, Option.toList_some, Option.toList_none, List.cons_append, List.nil_append, true_and, and_true, if_true, if_false, true_or, or_true, Nat.reduceAdd, Int.reduceAdd, Bool.false_eq_true, tn_0, tn_1, tn_2, tn_3, tn_4, tn_5, tn_6, tn_7]
        refine ⟨fun c => absurd c (by decide), fun _ => ?_⟩
        refine J_blk a_X6_nextToken_113 ?_
        simp only [b_X6_nextToken_113, w_aload_n0, w_dup_i, w_dup_a, w_getf6, w_iconst_1, w_iadd, w_putf6, w_goto, kd_46, kd_47, kd_48, kd_49, kd_50, kd_51, kd_52, kd_53, kd_54, kd_55, kd_56, kd_57, kd_58, kd_59, ln_47, ln_48, ln_49, ln_50, ln_51, ln_52, ln_53, ln_54, ln_55, ln_56, ln_57, ln_58, ln_59, Option.toList_some, Option.toList_none, List.cons_append, List.nil_append, true_and, and_true, if_true, if_false, true_or, or_true, Nat.reduceAdd, Int.reduceAdd, Bool.false_eq_true, tn_0, tn_1, tn_2, tn_3, tn_4, tn_5, tn_6, tn_7, su_at, h9, u1_su, nI_1]
        exact ih (i + 1) _ z (by omega) (by omega) hk hte (by simpa [upd] using h7) (by simpa [upd] using h8) (by simp [upd]) (by simpa [upd] using h10) (fun j a b c d => by simp [upd, c]; exact ho j a b c d)
      · have hd' : alB (t i) = false := (Bool.not_eq_true _).mp hd
        rw [hd']
        rw [rnF, if_neg hd] at hte
        have lst := behind F z (by omega) h7 h8 (by rw [h9, hk, hte]; simp) h10 ho
        refine J_blk a_X6_nextToken_110 ?_
        simp only [b_X6_nextToken_110, w_if_eq, w_nil, kd_46, kd_47, kd_48, kd_49, kd_50, kd_51, kd_52, kd_53, kd_54, kd_55, kd_56, kd_57, kd_58, kd_59, ln_47, ln_48, ln_49, ln_50, ln_51, ln_52, ln_53, ln_54, ln_55, ln_56, ln_57, ln_58, ln_59, Option.toList_some, Option.toList_none, List.cons_append, List.nil_append, true_and, and_true, if_true, if_false, true_or, or_true, Nat.reduceAdd, Int.reduceAdd, Bool.false_eq_true, tn_0, tn_1, tn_2, tn_3, tn_4, tn_5, tn_6, tn_7]
        exact ⟨fun _ => lst, fun c => absurd rfl c⟩
  -- what it is
  have what : ∀ (F : Nat → Int32), F 8 = nI fr → (∀ j, j ≠ 7 → j ≠ 8 → j ≠ 9 → j ≠ 10 → F j = M.1 46 j) → J 1 mX6_nextToken 34 [some (.ref 46), none] [] (su M 46 F) R := by
    intro F h8 ho
    have e8 : upd F 9 (nI fr) 8 = nI fr := by simp [upd, h8]
    have hTP : TP (su M 46 (upd F 9 (nI fr))) t L := TP_su h (by simp [upd]; exact ho 6 (by decide) (by decide) (by decide) (by decide))
    have go : ∀ k, k = knd t L fr → J 1 mX6_nextToken 83 [some (.ref 46), some (.int (byI t L fr))] [.int (nI k), .ref 46] (su M 46 (upd F 9 (nI fr))) R := by
      intro k hk
      refine J_blk a_X6_nextToken_83 ?_
      simp only [b_X6_nextToken_83, w_putf6, w_aload_n0, w_iconst_0, w_nil, kd_46, kd_47, kd_48, kd_49, kd_50, kd_51, kd_52, kd_53, kd_54, kd_55, kd_56, kd_57, kd_58, kd_59, ln_47, ln_48, ln_49, ln_50, ln_51, ln_52, ln_53, ln_54, ln_55, ln_56, ln_57, ln_58, ln_59, Option.toList_some, Option.toList_none, List.cons_append, List.nil_append, true_and, and_true, if_true, if_false, true_or, or_true, Nat.reduceAdd, Int.reduceAdd, Bool.false_eq_true, tn_0, tn_1, tn_2, tn_3, tn_4, tn_5, tn_6, tn_7, u1_su]
      have hk3 : knd t L fr ≤ 3 := by unfold knd; split <;> (try split) <;> (try split) <;> omega
      have g7 : upd (upd (upd F 9 (nI fr)) 7 (nI k)) 10 0 7 = nI (knd t L fr) := by simp [upd, hk]
      have g8 : upd (upd (upd F 9 (nI fr)) 7 (nI k)) 10 0 8 = nI fr := by simp [upd, h8]
      have g9 : upd (upd (upd F 9 (nI fr)) 7 (nI k)) 10 0 9 = nI fr := by simp [upd]
      have g10 : upd (upd (upd F 9 (nI fr)) 7 (nI k)) 10 0 10 = 0 := by simp [upd]
      have go' : ∀ j, j ≠ 7 → j ≠ 8 → j ≠ 9 → j ≠ 10 → upd (upd (upd F 9 (nI fr)) 7 (nI k)) 10 0 j = M.1 46 j := fun j a b c d => by simp [upd, a, c, d]; exact ho j a b c d
      generalize upd (upd (upd F 9 (nI fr)) 7 (nI k)) 10 0 = G at *
      by_cases k1 : knd t L fr = 1
      · have hlt : fr < L := by
          unfold knd at k1; split at k1
          · assumption
          · omega
        have ha : alB (t fr) = true := by
          unfold knd at k1; rw [if_pos hlt] at k1; split at k1
          · assumption
          · split at k1 <;> omega
        exact letters (L - fr) fr G _ (by omega) (Nat.le_refl _) k1 (by unfold te; rw [if_pos hlt, if_pos ha]) g7 g8 g9 g10 go'
      · have e1 : (nI (knd t L fr) = 1) = (knd t L fr = 1) := propext (nI_eq (b := 1) (by omega) (by decide))
        refine J_blk a_X6_nextToken_91 ?_
        simp only [b_X6_nextToken_91, w_aload_n0, w_getf6, w_iconst_1, w_icmp_ne, w_nil, kd_46, kd_47, kd_48, kd_49, kd_50, kd_51, kd_52, kd_53, kd_54, kd_55, kd_56, kd_57, kd_58, kd_59, ln_47, ln_48, ln_49, ln_50, ln_51, ln_52, ln_53, ln_54, ln_55, ln_56, ln_57, ln_58, ln_59, Option.toList_some, Option.toList_none, List.cons_append, List.nil_append, true_and, and_true, if_true, if_false, true_or, or_true, Nat.reduceAdd, Int.reduceAdd, Bool.false_eq_true, tn_0, tn_1, tn_2, tn_3, tn_4, tn_5, tn_6, tn_7, su_at, g7, e1]
        refine ⟨fun _ => ?_, fun c => absurd c k1⟩
        by_cases k2 : knd t L fr = 2
        · have hlt : fr < L := by
            unfold knd at k2; split at k2
            · assumption
            · omega
          have hd : ¬ alB (t fr) = true ∧ dgB (t fr) = true := by
            unfold knd at k2; rw [if_pos hlt] at k2; split at k2
            · omega
            · next q => split at k2
                        · exact ⟨q, by assumption⟩
                        · omega
          exact digits (L - fr) fr G _ (by omega) (Nat.le_refl _) k2 (by unfold te; rw [if_pos hlt, if_neg hd.1, if_pos hd.2]) g7 g8 g9 (by rw [g10, Nat.sub_self]; rfl) go'
        · refine behind G _ k2 g7 g8 ?_ g10 go'
          rw [g9]
          unfold te
          unfold knd at k1 k2 ⊢
          by_cases hlt : fr < L
          · simp only [if_pos hlt] at k1 k2 ⊢
            by_cases ha : alB (t fr) = true
            · simp [ha] at k1
            · by_cases hd : dgB (t fr) = true
              · simp [ha, hd] at k2
              · simp [ha, hd, nI_1]
          · simp [hlt]
    refine J_blk a_X6_nextToken_34 ?_
    simp only [b_X6_nextToken_34, w_aload_n0, w_getf6, w_putf6, w_nil, kd_46, kd_47, kd_48, kd_49, kd_50, kd_51, kd_52, kd_53, kd_54, kd_55, kd_56, kd_57, kd_58, kd_59, ln_47, ln_48, ln_49, ln_50, ln_51, ln_52, ln_53, ln_54, ln_55, ln_56, ln_57, ln_58, ln_59, Option.toList_some, Option.toList_none, List.cons_append, List.nil_append, true_and, and_true, if_true, if_false, true_or, or_true, Nat.reduceAdd, Int.reduceAdd, Bool.false_eq_true, tn_0, tn_1, tn_2, tn_3, tn_4, tn_5, tn_6, tn_7, su_at, h8, u1_su, e8]
    refine J_callVr (ci := 6) (byteAt_ok t L fr _ hTP (by omega)) k_X6_nextToken_47 o_X6_byteAt rfl rfl rfl rfl (by decide) rfl (Nat.le_of_ble_eq_true rfl) ?_
    refine J_blk a_X6_nextToken_50 ?_
    simp only [b_X6_nextToken_50, w_istore1, nl_1n, nl_1i, nl_1a, w_aload_n0, w_iload_n1, w_if_ge, w_nil, kd_46, kd_47, kd_48, kd_49, kd_50, kd_51, kd_52, kd_53, kd_54, kd_55, kd_56, kd_57, kd_58, kd_59, ln_47, ln_48, ln_49, ln_50, ln_51, ln_52, ln_53, ln_54, ln_55, ln_56, ln_57, ln_58, ln_59, Option.toList_some, Option.toList_none, List.cons_append, List.nil_append, true_and, and_true, if_true, if_false, true_or, or_true, Nat.reduceAdd, Int.reduceAdd, Bool.false_eq_true, tn_0, tn_1, tn_2, tn_3, tn_4, tn_5, tn_6, tn_7]
    by_cases hlt : fr < L
    · have hp : 0 ≤ byI t L fr := by unfold byI; rw [if_pos hlt]; exact nI_pos' (by have := hb fr; omega)
      refine ⟨fun _ => ?_, fun c => absurd hp c⟩
      refine J_blk a_X6_nextToken_60 ?_
      simp only [b_X6_nextToken_60, w_iload_n1, w_nil, kd_46, kd_47, kd_48, kd_49, kd_50, kd_51, kd_52, kd_53, kd_54, kd_55, kd_56, kd_57, kd_58, kd_59, ln_47, ln_48, ln_49, ln_50, ln_51, ln_52, ln_53, ln_54, ln_55, ln_56, ln_57, ln_58, ln_59, Option.toList_some, Option.toList_none, List.cons_append, List.nil_append, true_and, and_true, if_true, if_false, true_or, or_true, Nat.reduceAdd, Int.reduceAdd, Bool.false_eq_true, tn_0, tn_1, tn_2, tn_3, tn_4, tn_5, tn_6, tn_7]
      refine J_callSr (isAlpha_ok t L fr _ hb) k_X6_nextToken_61 o_X6_isAlpha rfl (by decide) rfl (Nat.le_of_ble_eq_true rfl) ?_
      rw [decide_eq_true hlt, Bool.true_and]
      by_cases ha : alB (t fr) = true
      · rw [ha]
        refine J_blk a_X6_nextToken_64 ?_
        simp only [b_X6_nextToken_64, w_if_eq, w_nil, kd_46, kd_47, kd_48, kd_49, kd_50, kd_51, kd_52, kd_53, kd_54, kd_55, kd_56, kd_57, kd_58, kd_59, ln_47, ln_48, ln_49, ln_50, ln_51, ln_52, ln_53, ln_54, ln_55, ln_56, ln_57, ln_58, ln_59, Option.toList_some, Option.toList_none, List.cons_append, List.nil_append, true_and, and_true, if_true, if_false, true_or, or_true, Nat.reduceAdd, Int.reduceAdd, Bool.false_eq_true, tn_0, tn_1, tn_2, tn_3, tn_4, tn_5, tn_6, tn_7]
        refine ⟨fun c => absurd c (by decide), fun _ => ?_⟩
        refine J_blk a_X6_nextToken_67 ?_
        simp only [b_X6_nextToken_67, w_iconst_1, w_goto, kd_46, kd_47, kd_48, kd_49, kd_50, kd_51, kd_52, kd_53, kd_54, kd_55, kd_56, kd_57, kd_58, kd_59, ln_47, ln_48, ln_49, ln_50, ln_51, ln_52, ln_53, ln_54, ln_55, ln_56, ln_57, ln_58, ln_59, Option.toList_some, Option.toList_none, List.cons_append, List.nil_append, true_and, and_true, if_true, if_false, true_or, or_true, Nat.reduceAdd, Int.reduceAdd, Bool.false_eq_true, tn_0, tn_1, tn_2, tn_3, tn_4, tn_5, tn_6, tn_7]
        exact go 1 (by unfold knd; rw [if_pos hlt, if_pos ha])
      · rw [(Bool.not_eq_true _).mp ha]
        refine J_blk a_X6_nextToken_64 ?_
        simp only [b_X6_nextToken_64, w_if_eq, w_nil, kd_46, kd_47, kd_48, kd_49, kd_50, kd_51, kd_52, kd_53, kd_54, kd_55, kd_56, kd_57, kd_58, kd_59, ln_47, ln_48, ln_49, ln_50, ln_51, ln_52, ln_53, ln_54, ln_55, ln_56, ln_57, ln_58, ln_59, Option.toList_some, Option.toList_none, List.cons_append, List.nil_append, true_and, and_true, if_true, if_false, true_or, or_true, Nat.reduceAdd, Int.reduceAdd, Bool.false_eq_true, tn_0, tn_1, tn_2, tn_3, tn_4, tn_5, tn_6, tn_7]
        refine ⟨fun _ => ?_, fun c => absurd rfl c⟩
        refine J_blk a_X6_nextToken_71 ?_
        simp only [b_X6_nextToken_71, w_iload_n1, w_nil, kd_46, kd_47, kd_48, kd_49, kd_50, kd_51, kd_52, kd_53, kd_54, kd_55, kd_56, kd_57, kd_58, kd_59, ln_47, ln_48, ln_49, ln_50, ln_51, ln_52, ln_53, ln_54, ln_55, ln_56, ln_57, ln_58, ln_59, Option.toList_some, Option.toList_none, List.cons_append, List.nil_append, true_and, and_true, if_true, if_false, true_or, or_true, Nat.reduceAdd, Int.reduceAdd, Bool.false_eq_true, tn_0, tn_1, tn_2, tn_3, tn_4, tn_5, tn_6, tn_7]
        refine J_callSr (isDigit_ok t L fr _ hb) k_X6_nextToken_72 o_X6_isDigit rfl (by decide) rfl (Nat.le_of_ble_eq_true rfl) ?_
        rw [decide_eq_true hlt, Bool.true_and]
        by_cases hd : dgB (t fr) = true
        · rw [hd]
          refine J_blk a_X6_nextToken_75 ?_
          simp only [b_X6_nextToken_75, w_if_eq, w_nil, kd_46, kd_47, kd_48, kd_49, kd_50, kd_51, kd_52, kd_53, kd_54, kd_55, kd_56, kd_57, kd_58, kd_59, ln_47, ln_48, ln_49, ln_50, ln_51, ln_52, ln_53, ln_54, ln_55, ln_56, ln_57, ln_58, ln_59, Option.toList_some, Option.toList_none, List.cons_append, List.nil_append, true_and, and_true, if_true, if_false, true_or, or_true, Nat.reduceAdd, Int.reduceAdd, Bool.false_eq_true, tn_0, tn_1, tn_2, tn_3, tn_4, tn_5, tn_6, tn_7]
          refine ⟨fun c => absurd c (by decide), fun _ => ?_⟩
          refine J_blk a_X6_nextToken_78 ?_
          simp only [b_X6_nextToken_78, w_iconst_2, w_goto, kd_46, kd_47, kd_48, kd_49, kd_50, kd_51, kd_52, kd_53, kd_54, kd_55, kd_56, kd_57, kd_58, kd_59, ln_47, ln_48, ln_49, ln_50, ln_51, ln_52, ln_53, ln_54, ln_55, ln_56, ln_57, ln_58, ln_59, Option.toList_some, Option.toList_none, List.cons_append, List.nil_append, true_and, and_true, if_true, if_false, true_or, or_true, Nat.reduceAdd, Int.reduceAdd, Bool.false_eq_true, tn_0, tn_1, tn_2, tn_3, tn_4, tn_5, tn_6, tn_7]
          exact go 2 (by unfold knd; rw [if_pos hlt, if_neg ha, if_pos hd])
        · rw [(Bool.not_eq_true _).mp hd]
          refine J_blk a_X6_nextToken_75 ?_
          simp only [b_X6_nextToken_75, w_if_eq, w_nil, kd_46, kd_47, kd_48, kd_49, kd_50, kd_51, kd_52, kd_53, kd_54, kd_55, kd_56, kd_57, kd_58, kd_59, ln_47, ln_48, ln_49, ln_50, ln_51, ln_52, ln_53, ln_54, ln_55, ln_56, ln_57, ln_58, ln_59, Option.toList_some, Option.toList_none, List.cons_append, List.nil_append, true_and, and_true, if_true, if_false, true_or, or_true, Nat.reduceAdd, Int.reduceAdd, Bool.false_eq_true, tn_0, tn_1, tn_2, tn_3, tn_4, tn_5, tn_6, tn_7]
          refine ⟨fun _ => ?_, fun c => absurd rfl c⟩
          refine J_blk a_X6_nextToken_82 ?_
          simp only [b_X6_nextToken_82, w_iconst_3, w_nil, kd_46, kd_47, kd_48, kd_49, kd_50, kd_51, kd_52, kd_53, kd_54, kd_55, kd_56, kd_57, kd_58, kd_59, ln_47, ln_48, ln_49, ln_50, ln_51, ln_52, ln_53, ln_54, ln_55, ln_56, ln_57, ln_58, ln_59, Option.toList_some, Option.toList_none, List.cons_append, List.nil_append, true_and, and_true, if_true, if_false, true_or, or_true, Nat.reduceAdd, Int.reduceAdd, Bool.false_eq_true, tn_0, tn_1, tn_2, tn_3, tn_4, tn_5, tn_6, tn_7]
          exact go 3 (by unfold knd; rw [if_pos hlt, if_neg ha, if_neg hd])
    · have hp : ¬ 0 ≤ byI t L fr := by unfold byI; rw [if_neg hlt]; decide
      refine ⟨fun c => absurd c hp, fun _ => ?_⟩
      refine J_blk a_X6_nextToken_56 ?_
      simp only [b_X6_nextToken_56, w_iconst_0, w_goto, kd_46, kd_47, kd_48, kd_49, kd_50, kd_51, kd_52, kd_53, kd_54, kd_55, kd_56, kd_57, kd_58, kd_59, ln_47, ln_48, ln_49, ln_50, ln_51, ln_52, ln_53, ln_54, ln_55, ln_56, ln_57, ln_58, ln_59, Option.toList_some, Option.toList_none, List.cons_append, List.nil_append, true_and, and_true, if_true, if_false, true_or, or_true, Nat.reduceAdd, Int.reduceAdd, Bool.false_eq_true, tn_0, tn_1, tn_2, tn_3, tn_4, tn_5, tn_6, tn_7]
      exact go 0 (by unfold knd; rw [if_neg hlt])
  have skip : ∀ (f i : Nat) (F : Nat → Int32), f + i = L → fr = skF t f i → F 8 = nI i → (∀ j, j ≠ 7 → j ≠ 8 → j ≠ 9 → j ≠ 10 → F j = M.1 46 j) → J 1 mX6_nextToken 8 [some (.ref 46), none] [] (su M 46 F) R := by
    intro f
    induction f with
    | zero =>
      intro i F hi hs h8 ho
      have hTP : TP (su M 46 F) t L := TP_su h (ho 6 (by decide) (by decide) (by decide) (by decide))
      refine J_blk a_X6_nextToken_8 ?_
      simp only [b_X6_nextToken_8, w_aload_n0, w_getf6, w_nil, kd_46, kd_47, kd_48, kd_49, kd_50, kd_51, kd_52, kd_53, kd_54, kd_55, kd_56, kd_57, kd_58, kd_59, ln_47, ln_48, ln_49, ln_50, ln_51, ln_52, ln_53, ln_54, ln_55, ln_56, ln_57, ln_58, ln_59, Option.toList_some, Option.toList_none, List.cons_append, List.nil_append, true_and, and_true, if_true, if_false, true_or, or_true, Nat.reduceAdd, Int.reduceAdd, Bool.false_eq_true, tn_0, tn_1, tn_2, tn_3, tn_4, tn_5, tn_6, tn_7, su_at, h8]
      refine J_callVr (ci := 6) (byteAt_ok t L i _ hTP (by omega)) k_X6_nextToken_13 o_X6_byteAt rfl rfl rfl rfl (by decide) rfl (Nat.le_of_ble_eq_true rfl) ?_
      refine J_blk a_X6_nextToken_16 ?_
      simp only [b_X6_nextToken_16, w_bipush, ci_32, w_icmp_ne, w_nil, kd_46, kd_47, kd_48, kd_49, kd_50, kd_51, kd_52, kd_53, kd_54, kd_55, kd_56, kd_57, kd_58, kd_59, ln_47, ln_48, ln_49, ln_50, ln_51, ln_52, ln_53, ln_54, ln_55, ln_56, ln_57, ln_58, ln_59, Option.toList_some, Option.toList_none, List.cons_append, List.nil_append, true_and, and_true, if_true, if_false, true_or, or_true, Nat.reduceAdd, Int.reduceAdd, Bool.false_eq_true, tn_0, tn_1, tn_2, tn_3, tn_4, tn_5, tn_6, tn_7]
      refine ⟨fun _ => what F (by rw [h8, hs]; rfl) ho, fun c => absurd c (by unfold byI; rw [if_neg (by omega)]; decide)⟩
    | succ f ih =>
      intro i F hi hs h8 ho
      have hTP : TP (su M 46 F) t L := TP_su h (ho 6 (by decide) (by decide) (by decide) (by decide))
      have hbi := hb i
      have e32 : (byI t L i = 32) = (t i = 32) := by unfold byI; rw [if_pos (by omega)]; exact propext (nI_eq (b := 32) (by omega) (by decide))
      rw [skF] at hs
      refine J_blk a_X6_nextToken_8 ?_
      simp only [b_X6_nextToken_8, w_aload_n0, w_getf6, w_nil, kd_46, kd_47, kd_48, kd_49, kd_50, kd_51, kd_52, kd_53, kd_54, kd_55, kd_56, kd_57, kd_58, kd_59, ln_47, ln_48, ln_49, ln_50, ln_51, ln_52, ln_53, ln_54, ln_55, ln_56, ln_57, ln_58, ln_59, Option.toList_some, Option.toList_none, List.cons_append, List.nil_append, true_and, and_true, if_true, if_false, true_or, or_true, Nat.reduceAdd, Int.reduceAdd, Bool.false_eq_true, tn_0, tn_1, tn_2, tn_3, tn_4, tn_5, tn_6, tn_7, su_at, h8]
      refine J_callVr (ci := 6) (byteAt_ok t L i _ hTP (by omega)) k_X6_nextToken_13 o_X6_byteAt rfl rfl rfl rfl (by decide) rfl (Nat.le_of_ble_eq_true rfl) ?_
      refine J_blk a_X6_nextToken_16 ?_
      simp only [b_X6_nextToken_16, w_bipush, ci_32, w_icmp_ne, w_nil, kd_46, kd_47, kd_48, kd_49, kd_50, kd_51, kd_52, kd_53, kd_54, kd_55, kd_56, kd_57, kd_58, kd_59, ln_47, ln_48, ln_49, ln_50, ln_51, ln_52, ln_53, ln_54, ln_55, ln_56, ln_57, ln_58, ln_59, Option.toList_some, Option.toList_none, List.cons_append, List.nil_append, true_and, and_true, if_true, if_false, true_or, or_true, Nat.reduceAdd, Int.reduceAdd, Bool.false_eq_true, tn_0, tn_1, tn_2, tn_3, tn_4, tn_5, tn_6, tn_7, e32]
      refine ⟨fun c => ?_, fun c => ?_⟩
      · rw [if_neg c] at hs
        exact what F (by rw [h8, hs]) ho
      · rw [if_pos c] at hs
        refine J_blk a_X6_nextToken_21 ?_
        simp only [b_X6_nextToken_21, w_aload_n0, w_dup_i, w_dup_a, w_getf6, w_iconst_1, w_iadd, w_putf6, w_goto, kd_46, kd_47, kd_48, kd_49, kd_50, kd_51, kd_52, kd_53, kd_54, kd_55, kd_56, kd_57, kd_58, kd_59, ln_47, ln_48, ln_49, ln_50, ln_51, ln_52, ln_53, ln_54, ln_55, ln_56, ln_57, ln_58, ln_59, Option.toList_some, Option.toList_none, List.cons_append, List.nil_append, true_and, and_true, if_true, if_false, true_or, or_true, Nat.reduceAdd, Int.reduceAdd, Bool.false_eq_true, tn_0, tn_1, tn_2, tn_3, tn_4, tn_5, tn_6, tn_7, su_at, h8, u1_su, nI_1]
        exact ih (i + 1) _ (by omega) hs (by simp [upd]) (fun j a b c d => by simp [upd, b]; exact ho j a b c d)
  have s0 := skip (L - to) to (upd (M.1 46) 8 (nI to)) (by omega) hfr.symm (by simp [upd]) (fun j a b c d => by simp [upd, b])
  refine K_go 0 o_X6_nextToken [none] rfl (Nat.le_of_ble_eq_true rfl) ?_
  simp only [lvA_i, lvA_a, lvA_l, lvA_nil, List.cons_append, List.nil_append]
  refine J_blk a_X6_nextToken_0 ?_
  simp only [b_X6_nextToken_0, w_aload_n0, w_getf6, w_putf6, w_nil, kd_46, kd_47, kd_48, kd_49, kd_50, kd_51, kd_52, kd_53, kd_54, kd_55, kd_56, kd_57, kd_58, kd_59, ln_47, ln_48, ln_49, ln_50, ln_51, ln_52, ln_53, ln_54, ln_55, ln_56, ln_57, ln_58, ln_59, Option.toList_some, Option.toList_none, List.cons_append, List.nil_append, true_and, and_true, if_true, if_false, true_or, or_true, Nat.reduceAdd, Int.reduceAdd, Bool.false_eq_true, tn_0, tn_1, tn_2, tn_3, tn_4, tn_5, tn_6, tn_7, e9, u1_row]
  exact s0

