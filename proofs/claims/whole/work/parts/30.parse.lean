/-! the model: the grammar -/
def pF (t : Nat → Nat) (L : Nat) (f : Nat → Int32) (fr : Nat) (w : Bool) : Nat → Int32 := fun j => if j = 11 then bI w else tkF t L f fr j
abbrev Ps : Type := Nat × Bool × (Nat → Int32)
def PMs (t : Nat → Nat) (L : Nat) (M : Mm) (st : Ps) : Mm := su (su M 46 (pF t L (M.1 46) st.1 st.2.1)) 47 st.2.2
section PS
variable {t : Nat → Nat} {L : Nat} {M : Mm} {st : Ps}
theorem PM_47 : (PMs t L M st).1 47 = st.2.2 := su_at _ _ _
theorem PM_46 : (PMs t L M st).1 46 = pF t L (M.1 46) st.1 st.2.1 := by unfold PMs; rw [su_ne _ _ _ _ (by decide), su_at]
theorem PM_o {c : Nat} (h : c ≠ 46) (h2 : c ≠ 47) : (PMs t L M st).1 c = M.1 c := by unfold PMs; rw [su_ne _ _ _ _ h2, su_ne _ _ _ _ h]
theorem PM_7 : (PMs t L M st).1 46 7 = nI (knd t L st.1) := by rw [PM_46]; simp [pF, tkF]
theorem PM_8 : (PMs t L M st).1 46 8 = nI st.1 := by rw [PM_46]; simp [pF, tkF]
theorem PM_9 : (PMs t L M st).1 46 9 = nI (te t L st.1) := by rw [PM_46]; simp [pF, tkF]
theorem PM_10 : (PMs t L M st).1 46 10 = nI (vl t L st.1) := by rw [PM_46]; simp [pF, tkF]
theorem PM_11 : (PMs t L M st).1 46 11 = bI st.2.1 := by rw [PM_46]; simp [pF]
theorem PM_u47 (j : Nat) (v : Int32) : u1 (PMs t L M st) 47 j v = PMs t L M (st.1, st.2.1, upd st.2.2 j v) := by unfold PMs; rw [u1_su]
theorem PM_u11 (b : Bool) : u1 (PMs t L M st) 46 11 (bI b) = PMs t L M (st.1, b, st.2.2) := by
  unfold PMs
  apply mmx
  · intro a j
    simp only [u1, su, pF]
    by_cases h : a = 46
    · subst h
      by_cases hj : j = 11 <;> simp [hj]
    · simp [h]
  · rfl
theorem PM_TP (h : TP M t L) : TP (PMs t L M st) t L := by
  refine ⟨by rw [PM_46]; simp [pF, tkF]; exact h.1, h.2.1, h.2.2.1, fun i hi => ?_⟩
  rw [PM_o (by decide) (by decide)]
  exact h.2.2.2 i hi
theorem PM_nx : su (PMs t L M st) 46 (tkF t L ((PMs t L M st).1 46) (skp t L (te t L st.1))) = PMs t L M (nx t L st.1, st.2) := by
  rw [PM_46]
  unfold PMs
  rw [su_comm _ _ _ (show (47 : Nat) ≠ 46 by decide), su_su]
  congr 2
  funext j
  simp only [tkF, pF, nx]
  by_cases h : j = 11
  · subst h; simp
  · by_cases h7 : j = 7
    · subst h7; simp
    · by_cases h8 : j = 8
      · subst h8; simp
      · by_cases h9 : j = 9
        · subst h9; simp
        · by_cases h10 : j = 10
          · subst h10; simp
          · simp [h, h7, h8, h9, h10]
theorem ntok (h : TP M t L) (hfr : st.1 ≤ L) : K 1 mX6_nextToken [.ref 46] (PMs t L M st) (Rt none (PMs t L M (nx t L st.1, st.2))) := by
  have := nextToken_ok t L (te t L st.1) (PMs t L M st) (PM_TP h) (te_le t hfr).1 PM_9
  rw [PM_nx] at this
  exact this
end PS
def ndS (t : Nat → Nat) (L : Nat) (b : Bool) (st : Ps) : Ps := if st.2.1 = false ∧ b = true then (nx t L st.1, false, st.2.2) else (st.1, true, st.2.2)
theorem needs_ok (t : Nat → Nat) (L : Nat) (M : Mm) (st : Ps) (b : Bool) (h : TP M t L) (hfr : st.1 ≤ L) : K 2 mX6_needs [.ref 46, .int (bI b)] (PMs t L M st) (Rt none (PMs t L M (ndS t L b st))) := by
  unfold ndS
  have f1 : ∀ w b : Bool, (w || !b) = true → ¬ (w = false ∧ b = true) := by decide
  have f0 : ∀ w b : Bool, (w || !b) = false → (w = false ∧ b = true) := by decide
  obtain ⟨fr, w, s⟩ := st
  have tail : ∀ w' : Bool, w' = (w || !b) → J 2 mX6_needs 17 [some (.ref 46), some (.int (bI b))] [.int (bI w'), .ref 46] (PMs t L M (fr, w, s)) (Rt none (PMs t L M (if w = false ∧ b = true then (nx t L fr, false, s) else (fr, true, s)))) := by
    intro w' hw'
    refine J_blk a_X6_needs_17 ?_
    simp only [b_X6_needs_17, w_putb6, w_aload_n0, w_getf6, w_if_ne, w_nil, kd_46, kd_47, kd_48, kd_49, kd_50, kd_51, kd_52, kd_53, kd_54, kd_55, kd_56, kd_57, kd_58, kd_59, ln_47, ln_48, ln_49, ln_50, ln_51, ln_52, ln_53, ln_54, ln_55, ln_56, ln_57, ln_58, ln_59, Option.toList_some, Option.toList_none, List.cons_append, List.nil_append, true_and, and_true, if_true, if_false, true_or, or_true, Nat.reduceAdd, Int.reduceAdd, Bool.false_eq_true, tn_0, tn_1, tn_2, tn_3, tn_4, tn_5, tn_6, tn_7, PM_u11, PM_11]
    refine ⟨bI01 w', fun c => ?_, fun c => ?_⟩
    · have : w' = true := by cases w' <;> simp [bI] at c ⊢
      rw [if_neg (f1 w b (by rw [← hw', this])), this]
      refine J_blk a_X6_needs_31 ?_
      simp only [b_X6_needs_31, w_vret, kd_46, kd_47, kd_48, kd_49, kd_50, kd_51, kd_52, kd_53, kd_54, kd_55, kd_56, kd_57, kd_58, kd_59, ln_47, ln_48, ln_49, ln_50, ln_51, ln_52, ln_53, ln_54, ln_55, ln_56, ln_57, ln_58, ln_59, Option.toList_some, Option.toList_none, List.cons_append, List.nil_append, true_and, and_true, if_true, if_false, true_or, or_true, Nat.reduceAdd, Int.reduceAdd, Bool.false_eq_true, tn_0, tn_1, tn_2, tn_3, tn_4, tn_5, tn_6, tn_7]
      first | exact ⟨rfl, rfl⟩ | (simp_all [Rt])
    · have : w' = false := by cases w' <;> simp [bI] at c ⊢
      rw [if_pos (f0 w b (by rw [← hw', this])), this]
      refine J_blk a_X6_needs_27 ?_
      simp only [b_X6_needs_27, w_aload_n0, w_nil, kd_46, kd_47, kd_48, kd_49, kd_50, kd_51, kd_52, kd_53, kd_54, kd_55, kd_56, kd_57, kd_58, kd_59, ln_47, ln_48, ln_49, ln_50, ln_51, ln_52, ln_53, ln_54, ln_55, ln_56, ln_57, ln_58, ln_59, Option.toList_some, Option.toList_none, List.cons_append, List.nil_append, true_and, and_true, if_true, if_false, true_or, or_true, Nat.reduceAdd, Int.reduceAdd, Bool.false_eq_true, tn_0, tn_1, tn_2, tn_3, tn_4, tn_5, tn_6, tn_7]
      refine J_callVr (ci := 6) (ntok h hfr) k_X6_needs_28 o_X6_nextToken rfl rfl rfl rfl (by decide) rfl (Nat.le_of_ble_eq_true rfl) ?_
      refine J_blk a_X6_needs_31 ?_
      simp only [b_X6_needs_31, w_vret, kd_46, kd_47, kd_48, kd_49, kd_50, kd_51, kd_52, kd_53, kd_54, kd_55, kd_56, kd_57, kd_58, kd_59, ln_47, ln_48, ln_49, ln_50, ln_51, ln_52, ln_53, ln_54, ln_55, ln_56, ln_57, ln_58, ln_59, Option.toList_some, Option.toList_none, List.cons_append, List.nil_append, true_and, and_true, if_true, if_false, true_or, or_true, Nat.reduceAdd, Int.reduceAdd, Bool.false_eq_true, tn_0, tn_1, tn_2, tn_3, tn_4, tn_5, tn_6, tn_7]
      first | exact ⟨rfl, rfl⟩ | (simp_all [Rt])
  have t1 := tail true
  have t0 := tail false
  refine K_go 1 o_X6_needs [] rfl (Nat.le_of_ble_eq_true rfl) ?_
  simp only [lvA_i, lvA_a, lvA_l, lvA_nil, List.cons_append, List.nil_append]
  cases w
  · cases b
    · refine J_blk a_X6_needs_0 ?_
      simp only [b_X6_needs_0, w_aload_n0, w_getf6, w_if_ne, w_nil, kd_46, kd_47, kd_48, kd_49, kd_50, kd_51, kd_52, kd_53, kd_54, kd_55, kd_56, kd_57, kd_58, kd_59, ln_47, ln_48, ln_49, ln_50, ln_51, ln_52, ln_53, ln_54, ln_55, ln_56, ln_57, ln_58, ln_59, Option.toList_some, Option.toList_none, List.cons_append, List.nil_append, true_and, and_true, if_true, if_false, true_or, or_true, Nat.reduceAdd, Int.reduceAdd, Bool.false_eq_true, tn_0, tn_1, tn_2, tn_3, tn_4, tn_5, tn_6, tn_7, PM_11]
      refine ⟨fun c1 => ?_, fun c1 => ?_⟩
      · first
          | exact absurd c1 (by decide)
          | (refine J_blk a_X6_needs_12 ?_
             simp only [b_X6_needs_12, w_iconst_1, w_goto, kd_46, kd_47, kd_48, kd_49, kd_50, kd_51, kd_52, kd_53, kd_54, kd_55, kd_56, kd_57, kd_58, kd_59, ln_47, ln_48, ln_49, ln_50, ln_51, ln_52, ln_53, ln_54, ln_55, ln_56, ln_57, ln_58, ln_59, Option.toList_some, Option.toList_none, List.cons_append, List.nil_append, true_and, and_true, if_true, if_false, true_or, or_true, Nat.reduceAdd, Int.reduceAdd, Bool.false_eq_true, tn_0, tn_1, tn_2, tn_3, tn_4, tn_5, tn_6, tn_7, PM_11]
             exact t1 rfl)
      · first
          | exact absurd c1 (by decide)
          | (refine J_blk a_X6_needs_8 ?_
             simp only [b_X6_needs_8, w_iload_n1, w_if_ne, w_nil, kd_46, kd_47, kd_48, kd_49, kd_50, kd_51, kd_52, kd_53, kd_54, kd_55, kd_56, kd_57, kd_58, kd_59, ln_47, ln_48, ln_49, ln_50, ln_51, ln_52, ln_53, ln_54, ln_55, ln_56, ln_57, ln_58, ln_59, Option.toList_some, Option.toList_none, List.cons_append, List.nil_append, true_and, and_true, if_true, if_false, true_or, or_true, Nat.reduceAdd, Int.reduceAdd, Bool.false_eq_true, tn_0, tn_1, tn_2, tn_3, tn_4, tn_5, tn_6, tn_7, PM_11]
             refine ⟨fun c2 => ?_, fun c2 => ?_⟩
             · first
                 | exact absurd c2 (by decide)
                 | (refine J_blk a_X6_needs_16 ?_
                    simp only [b_X6_needs_16, w_iconst_0, w_nil, kd_46, kd_47, kd_48, kd_49, kd_50, kd_51, kd_52, kd_53, kd_54, kd_55, kd_56, kd_57, kd_58, kd_59, ln_47, ln_48, ln_49, ln_50, ln_51, ln_52, ln_53, ln_54, ln_55, ln_56, ln_57, ln_58, ln_59, Option.toList_some, Option.toList_none, List.cons_append, List.nil_append, true_and, and_true, if_true, if_false, true_or, or_true, Nat.reduceAdd, Int.reduceAdd, Bool.false_eq_true, tn_0, tn_1, tn_2, tn_3, tn_4, tn_5, tn_6, tn_7, PM_11]
                    exact t1 rfl)
             · first
                 | exact absurd c2 (by decide)
                 | (refine J_blk a_X6_needs_12 ?_
                    simp only [b_X6_needs_12, w_iconst_1, w_goto, kd_46, kd_47, kd_48, kd_49, kd_50, kd_51, kd_52, kd_53, kd_54, kd_55, kd_56, kd_57, kd_58, kd_59, ln_47, ln_48, ln_49, ln_50, ln_51, ln_52, ln_53, ln_54, ln_55, ln_56, ln_57, ln_58, ln_59, Option.toList_some, Option.toList_none, List.cons_append, List.nil_append, true_and, and_true, if_true, if_false, true_or, or_true, Nat.reduceAdd, Int.reduceAdd, Bool.false_eq_true, tn_0, tn_1, tn_2, tn_3, tn_4, tn_5, tn_6, tn_7, PM_11]
                    exact t1 rfl))
    · refine J_blk a_X6_needs_0 ?_
      simp only [b_X6_needs_0, w_aload_n0, w_getf6, w_if_ne, w_nil, kd_46, kd_47, kd_48, kd_49, kd_50, kd_51, kd_52, kd_53, kd_54, kd_55, kd_56, kd_57, kd_58, kd_59, ln_47, ln_48, ln_49, ln_50, ln_51, ln_52, ln_53, ln_54, ln_55, ln_56, ln_57, ln_58, ln_59, Option.toList_some, Option.toList_none, List.cons_append, List.nil_append, true_and, and_true, if_true, if_false, true_or, or_true, Nat.reduceAdd, Int.reduceAdd, Bool.false_eq_true, tn_0, tn_1, tn_2, tn_3, tn_4, tn_5, tn_6, tn_7, PM_11]
      refine ⟨fun c3 => ?_, fun c3 => ?_⟩
      · first
          | exact absurd c3 (by decide)
          | (refine J_blk a_X6_needs_12 ?_
             simp only [b_X6_needs_12, w_iconst_1, w_goto, kd_46, kd_47, kd_48, kd_49, kd_50, kd_51, kd_52, kd_53, kd_54, kd_55, kd_56, kd_57, kd_58, kd_59, ln_47, ln_48, ln_49, ln_50, ln_51, ln_52, ln_53, ln_54, ln_55, ln_56, ln_57, ln_58, ln_59, Option.toList_some, Option.toList_none, List.cons_append, List.nil_append, true_and, and_true, if_true, if_false, true_or, or_true, Nat.reduceAdd, Int.reduceAdd, Bool.false_eq_true, tn_0, tn_1, tn_2, tn_3, tn_4, tn_5, tn_6, tn_7, PM_11]
             exact t0 rfl)
      · first
          | exact absurd c3 (by decide)
          | (refine J_blk a_X6_needs_8 ?_
             simp only [b_X6_needs_8, w_iload_n1, w_if_ne, w_nil, kd_46, kd_47, kd_48, kd_49, kd_50, kd_51, kd_52, kd_53, kd_54, kd_55, kd_56, kd_57, kd_58, kd_59, ln_47, ln_48, ln_49, ln_50, ln_51, ln_52, ln_53, ln_54, ln_55, ln_56, ln_57, ln_58, ln_59, Option.toList_some, Option.toList_none, List.cons_append, List.nil_append, true_and, and_true, if_true, if_false, true_or, or_true, Nat.reduceAdd, Int.reduceAdd, Bool.false_eq_true, tn_0, tn_1, tn_2, tn_3, tn_4, tn_5, tn_6, tn_7, PM_11]
             refine ⟨fun c4 => ?_, fun c4 => ?_⟩
             · first
                 | exact absurd c4 (by decide)
                 | (refine J_blk a_X6_needs_16 ?_
                    simp only [b_X6_needs_16, w_iconst_0, w_nil, kd_46, kd_47, kd_48, kd_49, kd_50, kd_51, kd_52, kd_53, kd_54, kd_55, kd_56, kd_57, kd_58, kd_59, ln_47, ln_48, ln_49, ln_50, ln_51, ln_52, ln_53, ln_54, ln_55, ln_56, ln_57, ln_58, ln_59, Option.toList_some, Option.toList_none, List.cons_append, List.nil_append, true_and, and_true, if_true, if_false, true_or, or_true, Nat.reduceAdd, Int.reduceAdd, Bool.false_eq_true, tn_0, tn_1, tn_2, tn_3, tn_4, tn_5, tn_6, tn_7, PM_11]
                    exact t0 rfl)
             · first
                 | exact absurd c4 (by decide)
                 | (refine J_blk a_X6_needs_12 ?_
                    simp only [b_X6_needs_12, w_iconst_1, w_goto, kd_46, kd_47, kd_48, kd_49, kd_50, kd_51, kd_52, kd_53, kd_54, kd_55, kd_56, kd_57, kd_58, kd_59, ln_47, ln_48, ln_49, ln_50, ln_51, ln_52, ln_53, ln_54, ln_55, ln_56, ln_57, ln_58, ln_59, Option.toList_some, Option.toList_none, List.cons_append, List.nil_append, true_and, and_true, if_true, if_false, true_or, or_true, Nat.reduceAdd, Int.reduceAdd, Bool.false_eq_true, tn_0, tn_1, tn_2, tn_3, tn_4, tn_5, tn_6, tn_7, PM_11]
                    exact t0 rfl))
  · refine J_blk a_X6_needs_0 ?_
    simp only [b_X6_needs_0, w_aload_n0, w_getf6, w_if_ne, w_nil, kd_46, kd_47, kd_48, kd_49, kd_50, kd_51, kd_52, kd_53, kd_54, kd_55, kd_56, kd_57, kd_58, kd_59, ln_47, ln_48, ln_49, ln_50, ln_51, ln_52, ln_53, ln_54, ln_55, ln_56, ln_57, ln_58, ln_59, Option.toList_some, Option.toList_none, List.cons_append, List.nil_append, true_and, and_true, if_true, if_false, true_or, or_true, Nat.reduceAdd, Int.reduceAdd, Bool.false_eq_true, tn_0, tn_1, tn_2, tn_3, tn_4, tn_5, tn_6, tn_7, PM_11]
    refine ⟨fun c5 => ?_, fun c5 => ?_⟩
    · first
        | exact absurd c5 (by decide)
        | (refine J_blk a_X6_needs_12 ?_
           simp only [b_X6_needs_12, w_iconst_1, w_goto, kd_46, kd_47, kd_48, kd_49, kd_50, kd_51, kd_52, kd_53, kd_54, kd_55, kd_56, kd_57, kd_58, kd_59, ln_47, ln_48, ln_49, ln_50, ln_51, ln_52, ln_53, ln_54, ln_55, ln_56, ln_57, ln_58, ln_59, Option.toList_some, Option.toList_none, List.cons_append, List.nil_append, true_and, and_true, if_true, if_false, true_or, or_true, Nat.reduceAdd, Int.reduceAdd, Bool.false_eq_true, tn_0, tn_1, tn_2, tn_3, tn_4, tn_5, tn_6, tn_7, PM_11]
           exact t1 rfl)
    · first
        | exact absurd c5 (by decide)
        | (refine J_blk a_X6_needs_8 ?_
           simp only [b_X6_needs_8, w_iload_n1, w_if_ne, w_nil, kd_46, kd_47, kd_48, kd_49, kd_50, kd_51, kd_52, kd_53, kd_54, kd_55, kd_56, kd_57, kd_58, kd_59, ln_47, ln_48, ln_49, ln_50, ln_51, ln_52, ln_53, ln_54, ln_55, ln_56, ln_57, ln_58, ln_59, Option.toList_some, Option.toList_none, List.cons_append, List.nil_append, true_and, and_true, if_true, if_false, true_or, or_true, Nat.reduceAdd, Int.reduceAdd, Bool.false_eq_true, tn_0, tn_1, tn_2, tn_3, tn_4, tn_5, tn_6, tn_7, PM_11]
           refine ⟨fun c6 => ?_, fun c6 => ?_⟩
           · first
               | exact absurd c6 (by decide)
               | (refine J_blk a_X6_needs_16 ?_
                  simp only [b_X6_needs_16, w_iconst_0, w_nil, kd_46, kd_47, kd_48, kd_49, kd_50, kd_51, kd_52, kd_53, kd_54, kd_55, kd_56, kd_57, kd_58, kd_59, ln_47, ln_48, ln_49, ln_50, ln_51, ln_52, ln_53, ln_54, ln_55, ln_56, ln_57, ln_58, ln_59, Option.toList_some, Option.toList_none, List.cons_append, List.nil_append, true_and, and_true, if_true, if_false, true_or, or_true, Nat.reduceAdd, Int.reduceAdd, Bool.false_eq_true, tn_0, tn_1, tn_2, tn_3, tn_4, tn_5, tn_6, tn_7, PM_11]
                  exact t1 rfl)
           · first
               | exact absurd c6 (by decide)
               | (refine J_blk a_X6_needs_12 ?_
                  simp only [b_X6_needs_12, w_iconst_1, w_goto, kd_46, kd_47, kd_48, kd_49, kd_50, kd_51, kd_52, kd_53, kd_54, kd_55, kd_56, kd_57, kd_58, kd_59, ln_47, ln_48, ln_49, ln_50, ln_51, ln_52, ln_53, ln_54, ln_55, ln_56, ln_57, ln_58, ln_59, Option.toList_some, Option.toList_none, List.cons_append, List.nil_append, true_and, and_true, if_true, if_false, true_or, or_true, Nat.reduceAdd, Int.reduceAdd, Bool.false_eq_true, tn_0, tn_1, tn_2, tn_3, tn_4, tn_5, tn_6, tn_7, PM_11]
                  exact t1 rfl))
/-- a token that is a word -/
def wdB (t : Nat → Nat) (L fr : Nat) (l : List Nat) : Bool := decide (te t L fr = fr + l.length) && (List.range l.length).all (fun i => t (fr + i) == l.getD i 0)
theorem by_eq {t : Nat → Nat} {L i a : Nat} (hb : ∀ i, t i < 256) (ha : a < 256) : (byI t L i = nI a) = (i < L ∧ t i = a) := by
  have := hb i
  unfold byI
  by_cases h : i < L
  · rw [if_pos h]
    simp only [h, true_and]
    exact propext (nI_eq (by omega) (by omega))
  · rw [if_neg h]
    apply propext
    constructor
    · intro e
      exact absurd (show (0 : Int32) ≤ -1 by rw [e]; exact nI_pos' (by omega)) (by decide)
    · exact fun e => absurd e.1 h
abbrev nmP (t : Nat → Nat) (L fr k : Nat) (a b c d : Int32) : Prop := knd t L fr = 1 ∧ te t L fr - fr = k ∧ byI t L fr = a ∧ byI t L (fr + 1) = b ∧ byI t L (fr + 2) = c ∧ byI t L (te t L fr - 1) = d
def nmB (t : Nat → Nat) (L fr k : Nat) (a b c d : Int32) : Bool := decide (nmP t L fr k a b c d)
theorem isName_ok (t : Nat → Nat) (L : Nat) (M : Mm) (st : Ps) (k : Nat) (a b c d : Int32) (h : TP M t L) (hfr : st.1 ≤ L) (hk : k ≤ 8) : K 1 mX6_isName [.ref 46, .int (nI k), .int a, .int b, .int c, .int d] (PMs t L M st) (Rt (some (.int (bI (nmB t L st.1 k a b c d)))) (PMs t L M st)) := by
  have hL := h.2.1
  have ht := te_le t hfr
  have hk3 : knd t L st.1 ≤ 3 := by unfold knd; split <;> (try split) <;> (try split) <;> omega
  have e1 : (nI (knd t L st.1) = 1) = (knd t L st.1 = 1) := propext (nI_eq (b := 1) (by omega) (by decide))
  have es : nI (te t L st.1) - nI st.1 = nI (te t L st.1 - st.1) := pk_sub ht.2
  have ek : (nI (te t L st.1 - st.1) = nI k) = (te t L st.1 - st.1 = k) := propext (nI_eq (by omega) (by omega))
  have fin1 : nmP t L st.1 k a b c d → bI (nmB t L st.1 k a b c d) = 1 := fun hp => by unfold nmB; rw [decide_eq_true hp]; rfl
  have fin0 : ¬ nmP t L st.1 k a b c d → bI (nmB t L st.1 k a b c d) = 0 := fun hp => by unfold nmB; rw [decide_eq_false hp]; rfl
  unfold nmP at fin1 fin0
  generalize bI (nmB t L st.1 k a b c d) = v at *
  have b0 := fun i hi => byteAt_ok t L i (PMs t L M st) (PM_TP h) hi
  by_cases hk1 : knd t L st.1 = 1
  · have hlt : st.1 < L := by
      unfold knd at hk1
      split at hk1
      · assumption
      · omega
    have hp := te_pos t hlt
    have em : nI (te t L st.1) - 1 = nI (te t L st.1 - 1) := nI_sub1 (by omega)
    refine K_go 5 o_X6_isName [] rfl (Nat.le_of_ble_eq_true rfl) ?_
    simp only [lvA_i, lvA_a, lvA_l, lvA_nil, List.cons_append, List.nil_append]
    refine J_blk a_X6_isName_0 ?_
    simp only [b_X6_isName_0, w_aload_n0, w_getf6, w_iconst_1, w_icmp_ne, w_nil, kd_46, kd_47, kd_48, kd_49, kd_50, kd_51, kd_52, kd_53, kd_54, kd_55, kd_56, kd_57, kd_58, kd_59, ln_47, ln_48, ln_49, ln_50, ln_51, ln_52, ln_53, ln_54, ln_55, ln_56, ln_57, ln_58, ln_59, Option.toList_some, Option.toList_none, List.cons_append, List.nil_append, true_and, and_true, if_true, if_false, true_or, or_true, Nat.reduceAdd, Int.reduceAdd, Bool.false_eq_true, tn_0, tn_1, tn_2, tn_3, tn_4, tn_5, tn_6, tn_7, PM_7, PM_8, PM_9, e1, es, ek, ad1, ad2, em]
    refine ⟨fun c7 => ?_, fun c7 => ?_⟩
    · refine J_blk a_X6_isName_81 ?_
      simp only [b_X6_isName_81, w_iconst_0, w_nil, kd_46, kd_47, kd_48, kd_49, kd_50, kd_51, kd_52, kd_53, kd_54, kd_55, kd_56, kd_57, kd_58, kd_59, ln_47, ln_48, ln_49, ln_50, ln_51, ln_52, ln_53, ln_54, ln_55, ln_56, ln_57, ln_58, ln_59, Option.toList_some, Option.toList_none, List.cons_append, List.nil_append, true_and, and_true, if_true, if_false, true_or, or_true, Nat.reduceAdd, Int.reduceAdd, Bool.false_eq_true, tn_0, tn_1, tn_2, tn_3, tn_4, tn_5, tn_6, tn_7, PM_7, PM_8, PM_9, e1, es, ek, ad1, ad2, em]
      refine J_blk a_X6_isName_82 ?_
      simp only [b_X6_isName_82, w_iretz, kd_46, kd_47, kd_48, kd_49, kd_50, kd_51, kd_52, kd_53, kd_54, kd_55, kd_56, kd_57, kd_58, kd_59, ln_47, ln_48, ln_49, ln_50, ln_51, ln_52, ln_53, ln_54, ln_55, ln_56, ln_57, ln_58, ln_59, Option.toList_some, Option.toList_none, List.cons_append, List.nil_append, true_and, and_true, if_true, if_false, true_or, or_true, Nat.reduceAdd, Int.reduceAdd, Bool.false_eq_true, tn_0, tn_1, tn_2, tn_3, tn_4, tn_5, tn_6, tn_7, PM_7, PM_8, PM_9, e1, es, ek, ad1, ad2, em]
      try refine ⟨(by first | exact Or.inl rfl | exact Or.inr rfl), ?_⟩
      exact ⟨by first | exact absurd hk1 (by assumption) | rw [fin1 (by grind)] | rw [fin0 (by grind)], rfl⟩
    · refine J_blk a_X6_isName_8 ?_
      simp only [b_X6_isName_8, w_aload_n0, w_getf6, w_isub, w_iload_n1, w_icmp_ne, w_nil, kd_46, kd_47, kd_48, kd_49, kd_50, kd_51, kd_52, kd_53, kd_54, kd_55, kd_56, kd_57, kd_58, kd_59, ln_47, ln_48, ln_49, ln_50, ln_51, ln_52, ln_53, ln_54, ln_55, ln_56, ln_57, ln_58, ln_59, Option.toList_some, Option.toList_none, List.cons_append, List.nil_append, true_and, and_true, if_true, if_false, true_or, or_true, Nat.reduceAdd, Int.reduceAdd, Bool.false_eq_true, tn_0, tn_1, tn_2, tn_3, tn_4, tn_5, tn_6, tn_7, PM_7, PM_8, PM_9, e1, es, ek, ad1, ad2, em]
      refine ⟨fun c8 => ?_, fun c8 => ?_⟩
      · refine J_blk a_X6_isName_81 ?_
        simp only [b_X6_isName_81, w_iconst_0, w_nil, kd_46, kd_47, kd_48, kd_49, kd_50, kd_51, kd_52, kd_53, kd_54, kd_55, kd_56, kd_57, kd_58, kd_59, ln_47, ln_48, ln_49, ln_50, ln_51, ln_52, ln_53, ln_54, ln_55, ln_56, ln_57, ln_58, ln_59, Option.toList_some, Option.toList_none, List.cons_append, List.nil_append, true_and, and_true, if_true, if_false, true_or, or_true, Nat.reduceAdd, Int.reduceAdd, Bool.false_eq_true, tn_0, tn_1, tn_2, tn_3, tn_4, tn_5, tn_6, tn_7, PM_7, PM_8, PM_9, e1, es, ek, ad1, ad2, em]
        refine J_blk a_X6_isName_82 ?_
        simp only [b_X6_isName_82, w_iretz, kd_46, kd_47, kd_48, kd_49, kd_50, kd_51, kd_52, kd_53, kd_54, kd_55, kd_56, kd_57, kd_58, kd_59, ln_47, ln_48, ln_49, ln_50, ln_51, ln_52, ln_53, ln_54, ln_55, ln_56, ln_57, ln_58, ln_59, Option.toList_some, Option.toList_none, List.cons_append, List.nil_append, true_and, and_true, if_true, if_false, true_or, or_true, Nat.reduceAdd, Int.reduceAdd, Bool.false_eq_true, tn_0, tn_1, tn_2, tn_3, tn_4, tn_5, tn_6, tn_7, PM_7, PM_8, PM_9, e1, es, ek, ad1, ad2, em]
        try refine ⟨(by first | exact Or.inl rfl | exact Or.inr rfl), ?_⟩
        exact ⟨by first | exact absurd hk1 (by assumption) | rw [fin1 (by grind)] | rw [fin0 (by grind)], rfl⟩
      · refine J_blk a_X6_isName_21 ?_
        simp only [b_X6_isName_21, w_aload_n0, w_getf6, w_nil, kd_46, kd_47, kd_48, kd_49, kd_50, kd_51, kd_52, kd_53, kd_54, kd_55, kd_56, kd_57, kd_58, kd_59, ln_47, ln_48, ln_49, ln_50, ln_51, ln_52, ln_53, ln_54, ln_55, ln_56, ln_57, ln_58, ln_59, Option.toList_some, Option.toList_none, List.cons_append, List.nil_append, true_and, and_true, if_true, if_false, true_or, or_true, Nat.reduceAdd, Int.reduceAdd, Bool.false_eq_true, tn_0, tn_1, tn_2, tn_3, tn_4, tn_5, tn_6, tn_7, PM_7, PM_8, PM_9, e1, es, ek, ad1, ad2, em]
        refine J_callVr (ci := 6) (b0 _ (by omega)) k_X6_isName_26 o_X6_byteAt rfl rfl rfl rfl (by decide) rfl (Nat.le_of_ble_eq_true rfl) ?_
        refine J_blk a_X6_isName_29 ?_
        simp only [b_X6_isName_29, w_iload_n2, w_icmp_ne, w_nil, kd_46, kd_47, kd_48, kd_49, kd_50, kd_51, kd_52, kd_53, kd_54, kd_55, kd_56, kd_57, kd_58, kd_59, ln_47, ln_48, ln_49, ln_50, ln_51, ln_52, ln_53, ln_54, ln_55, ln_56, ln_57, ln_58, ln_59, Option.toList_some, Option.toList_none, List.cons_append, List.nil_append, true_and, and_true, if_true, if_false, true_or, or_true, Nat.reduceAdd, Int.reduceAdd, Bool.false_eq_true, tn_0, tn_1, tn_2, tn_3, tn_4, tn_5, tn_6, tn_7, PM_7, PM_8, PM_9, e1, es, ek, ad1, ad2, em]
        refine ⟨fun c9 => ?_, fun c9 => ?_⟩
        · refine J_blk a_X6_isName_81 ?_
          simp only [b_X6_isName_81, w_iconst_0, w_nil, kd_46, kd_47, kd_48, kd_49, kd_50, kd_51, kd_52, kd_53, kd_54, kd_55, kd_56, kd_57, kd_58, kd_59, ln_47, ln_48, ln_49, ln_50, ln_51, ln_52, ln_53, ln_54, ln_55, ln_56, ln_57, ln_58, ln_59, Option.toList_some, Option.toList_none, List.cons_append, List.nil_append, true_and, and_true, if_true, if_false, true_or, or_true, Nat.reduceAdd, Int.reduceAdd, Bool.false_eq_true, tn_0, tn_1, tn_2, tn_3, tn_4, tn_5, tn_6, tn_7, PM_7, PM_8, PM_9, e1, es, ek, ad1, ad2, em]
          refine J_blk a_X6_isName_82 ?_
          simp only [b_X6_isName_82, w_iretz, kd_46, kd_47, kd_48, kd_49, kd_50, kd_51, kd_52, kd_53, kd_54, kd_55, kd_56, kd_57, kd_58, kd_59, ln_47, ln_48, ln_49, ln_50, ln_51, ln_52, ln_53, ln_54, ln_55, ln_56, ln_57, ln_58, ln_59, Option.toList_some, Option.toList_none, List.cons_append, List.nil_append, true_and, and_true, if_true, if_false, true_or, or_true, Nat.reduceAdd, Int.reduceAdd, Bool.false_eq_true, tn_0, tn_1, tn_2, tn_3, tn_4, tn_5, tn_6, tn_7, PM_7, PM_8, PM_9, e1, es, ek, ad1, ad2, em]
          try refine ⟨(by first | exact Or.inl rfl | exact Or.inr rfl), ?_⟩
          exact ⟨by first | exact absurd hk1 (by assumption) | rw [fin1 (by grind)] | rw [fin0 (by grind)], rfl⟩
        · refine J_blk a_X6_isName_33 ?_
          simp only [b_X6_isName_33, w_aload_n0, w_getf6, w_iconst_1, w_iadd, w_nil, kd_46, kd_47, kd_48, kd_49, kd_50, kd_51, kd_52, kd_53, kd_54, kd_55, kd_56, kd_57, kd_58, kd_59, ln_47, ln_48, ln_49, ln_50, ln_51, ln_52, ln_53, ln_54, ln_55, ln_56, ln_57, ln_58, ln_59, Option.toList_some, Option.toList_none, List.cons_append, List.nil_append, true_and, and_true, if_true, if_false, true_or, or_true, Nat.reduceAdd, Int.reduceAdd, Bool.false_eq_true, tn_0, tn_1, tn_2, tn_3, tn_4, tn_5, tn_6, tn_7, PM_7, PM_8, PM_9, e1, es, ek, ad1, ad2, em]
          refine J_callVr (ci := 6) (b0 _ (by omega)) k_X6_isName_40 o_X6_byteAt rfl rfl rfl rfl (by decide) rfl (Nat.le_of_ble_eq_true rfl) ?_
          refine J_blk a_X6_isName_43 ?_
          simp only [b_X6_isName_43, w_iload_n3, w_icmp_ne, w_nil, kd_46, kd_47, kd_48, kd_49, kd_50, kd_51, kd_52, kd_53, kd_54, kd_55, kd_56, kd_57, kd_58, kd_59, ln_47, ln_48, ln_49, ln_50, ln_51, ln_52, ln_53, ln_54, ln_55, ln_56, ln_57, ln_58, ln_59, Option.toList_some, Option.toList_none, List.cons_append, List.nil_append, true_and, and_true, if_true, if_false, true_or, or_true, Nat.reduceAdd, Int.reduceAdd, Bool.false_eq_true, tn_0, tn_1, tn_2, tn_3, tn_4, tn_5, tn_6, tn_7, PM_7, PM_8, PM_9, e1, es, ek, ad1, ad2, em]
          refine ⟨fun c10 => ?_, fun c10 => ?_⟩
          · refine J_blk a_X6_isName_81 ?_
            simp only [b_X6_isName_81, w_iconst_0, w_nil, kd_46, kd_47, kd_48, kd_49, kd_50, kd_51, kd_52, kd_53, kd_54, kd_55, kd_56, kd_57, kd_58, kd_59, ln_47, ln_48, ln_49, ln_50, ln_51, ln_52, ln_53, ln_54, ln_55, ln_56, ln_57, ln_58, ln_59, Option.toList_some, Option.toList_none, List.cons_append, List.nil_append, true_and, and_true, if_true, if_false, true_or, or_true, Nat.reduceAdd, Int.reduceAdd, Bool.false_eq_true, tn_0, tn_1, tn_2, tn_3, tn_4, tn_5, tn_6, tn_7, PM_7, PM_8, PM_9, e1, es, ek, ad1, ad2, em]
            refine J_blk a_X6_isName_82 ?_
            simp only [b_X6_isName_82, w_iretz, kd_46, kd_47, kd_48, kd_49, kd_50, kd_51, kd_52, kd_53, kd_54, kd_55, kd_56, kd_57, kd_58, kd_59, ln_47, ln_48, ln_49, ln_50, ln_51, ln_52, ln_53, ln_54, ln_55, ln_56, ln_57, ln_58, ln_59, Option.toList_some, Option.toList_none, List.cons_append, List.nil_append, true_and, and_true, if_true, if_false, true_or, or_true, Nat.reduceAdd, Int.reduceAdd, Bool.false_eq_true, tn_0, tn_1, tn_2, tn_3, tn_4, tn_5, tn_6, tn_7, PM_7, PM_8, PM_9, e1, es, ek, ad1, ad2, em]
            try refine ⟨(by first | exact Or.inl rfl | exact Or.inr rfl), ?_⟩
            exact ⟨by first | exact absurd hk1 (by assumption) | rw [fin1 (by grind)] | rw [fin0 (by grind)], rfl⟩
          · refine J_blk a_X6_isName_47 ?_
            simp only [b_X6_isName_47, w_aload_n0, w_getf6, w_iconst_2, w_iadd, w_nil, kd_46, kd_47, kd_48, kd_49, kd_50, kd_51, kd_52, kd_53, kd_54, kd_55, kd_56, kd_57, kd_58, kd_59, ln_47, ln_48, ln_49, ln_50, ln_51, ln_52, ln_53, ln_54, ln_55, ln_56, ln_57, ln_58, ln_59, Option.toList_some, Option.toList_none, List.cons_append, List.nil_append, true_and, and_true, if_true, if_false, true_or, or_true, Nat.reduceAdd, Int.reduceAdd, Bool.false_eq_true, tn_0, tn_1, tn_2, tn_3, tn_4, tn_5, tn_6, tn_7, PM_7, PM_8, PM_9, e1, es, ek, ad1, ad2, em]
            refine J_callVr (ci := 6) (b0 _ (by omega)) k_X6_isName_54 o_X6_byteAt rfl rfl rfl rfl (by decide) rfl (Nat.le_of_ble_eq_true rfl) ?_
            refine J_blk a_X6_isName_57 ?_
            simp only [b_X6_isName_57, w_iload4, w_icmp_ne, w_nil, kd_46, kd_47, kd_48, kd_49, kd_50, kd_51, kd_52, kd_53, kd_54, kd_55, kd_56, kd_57, kd_58, kd_59, ln_47, ln_48, ln_49, ln_50, ln_51, ln_52, ln_53, ln_54, ln_55, ln_56, ln_57, ln_58, ln_59, Option.toList_some, Option.toList_none, List.cons_append, List.nil_append, true_and, and_true, if_true, if_false, true_or, or_true, Nat.reduceAdd, Int.reduceAdd, Bool.false_eq_true, tn_0, tn_1, tn_2, tn_3, tn_4, tn_5, tn_6, tn_7, PM_7, PM_8, PM_9, e1, es, ek, ad1, ad2, em]
            refine ⟨fun c11 => ?_, fun c11 => ?_⟩
            · refine J_blk a_X6_isName_81 ?_
              simp only [b_X6_isName_81, w_iconst_0, w_nil, kd_46, kd_47, kd_48, kd_49, kd_50, kd_51, kd_52, kd_53, kd_54, kd_55, kd_56, kd_57, kd_58, kd_59, ln_47, ln_48, ln_49, ln_50, ln_51, ln_52, ln_53, ln_54, ln_55, ln_56, ln_57, ln_58, ln_59, Option.toList_some, Option.toList_none, List.cons_append, List.nil_append, true_and, and_true, if_true, if_false, true_or, or_true, Nat.reduceAdd, Int.reduceAdd, Bool.false_eq_true, tn_0, tn_1, tn_2, tn_3, tn_4, tn_5, tn_6, tn_7, PM_7, PM_8, PM_9, e1, es, ek, ad1, ad2, em]
              refine J_blk a_X6_isName_82 ?_
              simp only [b_X6_isName_82, w_iretz, kd_46, kd_47, kd_48, kd_49, kd_50, kd_51, kd_52, kd_53, kd_54, kd_55, kd_56, kd_57, kd_58, kd_59, ln_47, ln_48, ln_49, ln_50, ln_51, ln_52, ln_53, ln_54, ln_55, ln_56, ln_57, ln_58, ln_59, Option.toList_some, Option.toList_none, List.cons_append, List.nil_append, true_and, and_true, if_true, if_false, true_or, or_true, Nat.reduceAdd, Int.reduceAdd, Bool.false_eq_true, tn_0, tn_1, tn_2, tn_3, tn_4, tn_5, tn_6, tn_7, PM_7, PM_8, PM_9, e1, es, ek, ad1, ad2, em]
              try refine ⟨(by first | exact Or.inl rfl | exact Or.inr rfl), ?_⟩
              exact ⟨by first | exact absurd hk1 (by assumption) | rw [fin1 (by grind)] | rw [fin0 (by grind)], rfl⟩
            · refine J_blk a_X6_isName_62 ?_
              simp only [b_X6_isName_62, w_aload_n0, w_getf6, w_iconst_1, w_isub, w_nil, kd_46, kd_47, kd_48, kd_49, kd_50, kd_51, kd_52, kd_53, kd_54, kd_55, kd_56, kd_57, kd_58, kd_59, ln_47, ln_48, ln_49, ln_50, ln_51, ln_52, ln_53, ln_54, ln_55, ln_56, ln_57, ln_58, ln_59, Option.toList_some, Option.toList_none, List.cons_append, List.nil_append, true_and, and_true, if_true, if_false, true_or, or_true, Nat.reduceAdd, Int.reduceAdd, Bool.false_eq_true, tn_0, tn_1, tn_2, tn_3, tn_4, tn_5, tn_6, tn_7, PM_7, PM_8, PM_9, e1, es, ek, ad1, ad2, em]
              refine J_callVr (ci := 6) (b0 _ (by omega)) k_X6_isName_69 o_X6_byteAt rfl rfl rfl rfl (by decide) rfl (Nat.le_of_ble_eq_true rfl) ?_
              refine J_blk a_X6_isName_72 ?_
              simp only [b_X6_isName_72, w_iload5, w_icmp_ne, w_nil, kd_46, kd_47, kd_48, kd_49, kd_50, kd_51, kd_52, kd_53, kd_54, kd_55, kd_56, kd_57, kd_58, kd_59, ln_47, ln_48, ln_49, ln_50, ln_51, ln_52, ln_53, ln_54, ln_55, ln_56, ln_57, ln_58, ln_59, Option.toList_some, Option.toList_none, List.cons_append, List.nil_append, true_and, and_true, if_true, if_false, true_or, or_true, Nat.reduceAdd, Int.reduceAdd, Bool.false_eq_true, tn_0, tn_1, tn_2, tn_3, tn_4, tn_5, tn_6, tn_7, PM_7, PM_8, PM_9, e1, es, ek, ad1, ad2, em]
              refine ⟨fun c12 => ?_, fun c12 => ?_⟩
              · refine J_blk a_X6_isName_81 ?_
                simp only [b_X6_isName_81, w_iconst_0, w_nil, kd_46, kd_47, kd_48, kd_49, kd_50, kd_51, kd_52, kd_53, kd_54, kd_55, kd_56, kd_57, kd_58, kd_59, ln_47, ln_48, ln_49, ln_50, ln_51, ln_52, ln_53, ln_54, ln_55, ln_56, ln_57, ln_58, ln_59, Option.toList_some, Option.toList_none, List.cons_append, List.nil_append, true_and, and_true, if_true, if_false, true_or, or_true, Nat.reduceAdd, Int.reduceAdd, Bool.false_eq_true, tn_0, tn_1, tn_2, tn_3, tn_4, tn_5, tn_6, tn_7, PM_7, PM_8, PM_9, e1, es, ek, ad1, ad2, em]
                refine J_blk a_X6_isName_82 ?_
                simp only [b_X6_isName_82, w_iretz, kd_46, kd_47, kd_48, kd_49, kd_50, kd_51, kd_52, kd_53, kd_54, kd_55, kd_56, kd_57, kd_58, kd_59, ln_47, ln_48, ln_49, ln_50, ln_51, ln_52, ln_53, ln_54, ln_55, ln_56, ln_57, ln_58, ln_59, Option.toList_some, Option.toList_none, List.cons_append, List.nil_append, true_and, and_true, if_true, if_false, true_or, or_true, Nat.reduceAdd, Int.reduceAdd, Bool.false_eq_true, tn_0, tn_1, tn_2, tn_3, tn_4, tn_5, tn_6, tn_7, PM_7, PM_8, PM_9, e1, es, ek, ad1, ad2, em]
                try refine ⟨(by first | exact Or.inl rfl | exact Or.inr rfl), ?_⟩
                exact ⟨by first | exact absurd hk1 (by assumption) | rw [fin1 (by grind)] | rw [fin0 (by grind)], rfl⟩
              · refine J_blk a_X6_isName_77 ?_
                simp only [b_X6_isName_77, w_iconst_1, w_goto, kd_46, kd_47, kd_48, kd_49, kd_50, kd_51, kd_52, kd_53, kd_54, kd_55, kd_56, kd_57, kd_58, kd_59, ln_47, ln_48, ln_49, ln_50, ln_51, ln_52, ln_53, ln_54, ln_55, ln_56, ln_57, ln_58, ln_59, Option.toList_some, Option.toList_none, List.cons_append, List.nil_append, true_and, and_true, if_true, if_false, true_or, or_true, Nat.reduceAdd, Int.reduceAdd, Bool.false_eq_true, tn_0, tn_1, tn_2, tn_3, tn_4, tn_5, tn_6, tn_7, PM_7, PM_8, PM_9, e1, es, ek, ad1, ad2, em]
                refine J_blk a_X6_isName_82 ?_
                simp only [b_X6_isName_82, w_iretz, kd_46, kd_47, kd_48, kd_49, kd_50, kd_51, kd_52, kd_53, kd_54, kd_55, kd_56, kd_57, kd_58, kd_59, ln_47, ln_48, ln_49, ln_50, ln_51, ln_52, ln_53, ln_54, ln_55, ln_56, ln_57, ln_58, ln_59, Option.toList_some, Option.toList_none, List.cons_append, List.nil_append, true_and, and_true, if_true, if_false, true_or, or_true, Nat.reduceAdd, Int.reduceAdd, Bool.false_eq_true, tn_0, tn_1, tn_2, tn_3, tn_4, tn_5, tn_6, tn_7, PM_7, PM_8, PM_9, e1, es, ek, ad1, ad2, em]
                try refine ⟨(by first | exact Or.inl rfl | exact Or.inr rfl), ?_⟩
                exact ⟨by first | exact absurd hk1 (by assumption) | rw [fin1 (by grind)] | rw [fin0 (by grind)], rfl⟩
  · refine K_go 5 o_X6_isName [] rfl (Nat.le_of_ble_eq_true rfl) ?_
    simp only [lvA_i, lvA_a, lvA_l, lvA_nil, List.cons_append, List.nil_append]
    refine J_blk a_X6_isName_0 ?_
    simp only [b_X6_isName_0, w_aload_n0, w_getf6, w_iconst_1, w_icmp_ne, w_nil, kd_46, kd_47, kd_48, kd_49, kd_50, kd_51, kd_52, kd_53, kd_54, kd_55, kd_56, kd_57, kd_58, kd_59, ln_47, ln_48, ln_49, ln_50, ln_51, ln_52, ln_53, ln_54, ln_55, ln_56, ln_57, ln_58, ln_59, Option.toList_some, Option.toList_none, List.cons_append, List.nil_append, true_and, and_true, if_true, if_false, true_or, or_true, Nat.reduceAdd, Int.reduceAdd, Bool.false_eq_true, tn_0, tn_1, tn_2, tn_3, tn_4, tn_5, tn_6, tn_7, PM_7, e1]
    refine ⟨fun c13 => ?_, fun c13 => ?_⟩
    · refine J_blk a_X6_isName_81 ?_
      simp only [b_X6_isName_81, w_iconst_0, w_nil, kd_46, kd_47, kd_48, kd_49, kd_50, kd_51, kd_52, kd_53, kd_54, kd_55, kd_56, kd_57, kd_58, kd_59, ln_47, ln_48, ln_49, ln_50, ln_51, ln_52, ln_53, ln_54, ln_55, ln_56, ln_57, ln_58, ln_59, Option.toList_some, Option.toList_none, List.cons_append, List.nil_append, true_and, and_true, if_true, if_false, true_or, or_true, Nat.reduceAdd, Int.reduceAdd, Bool.false_eq_true, tn_0, tn_1, tn_2, tn_3, tn_4, tn_5, tn_6, tn_7, PM_7, e1]
      refine J_blk a_X6_isName_82 ?_
      simp only [b_X6_isName_82, w_iretz, kd_46, kd_47, kd_48, kd_49, kd_50, kd_51, kd_52, kd_53, kd_54, kd_55, kd_56, kd_57, kd_58, kd_59, ln_47, ln_48, ln_49, ln_50, ln_51, ln_52, ln_53, ln_54, ln_55, ln_56, ln_57, ln_58, ln_59, Option.toList_some, Option.toList_none, List.cons_append, List.nil_append, true_and, and_true, if_true, if_false, true_or, or_true, Nat.reduceAdd, Int.reduceAdd, Bool.false_eq_true, tn_0, tn_1, tn_2, tn_3, tn_4, tn_5, tn_6, tn_7, PM_7, e1]
      try refine ⟨(by first | exact Or.inl rfl | exact Or.inr rfl), ?_⟩
      exact ⟨by rw [fin0 (fun q => hk1 q.1)], rfl⟩
    · exact absurd (by assumption) hk1
theorem wd_iff (t : Nat → Nat) (L fr : Nat) (l : List Nat) : wdB t L fr l = true ↔ te t L fr = fr + l.length ∧ ∀ i, i < l.length → t (fr + i) = l.getD i 0 := by
  unfold wdB
  rw [Bool.and_eq_true, decide_eq_true_eq, List.all_eq_true]
  constructor
  · intro h
    refine ⟨h.1, fun i hi => ?_⟩
    have := h.2 i (List.mem_range.mpr hi)
    exact beq_iff_eq.mp this
  · intro h
    refine ⟨h.1, fun i hi => ?_⟩
    exact beq_iff_eq.mpr (h.2 i (List.mem_range.mp hi))
theorem kn1 {t : Nat → Nat} {L fr : Nat} (h : fr < L) (ha : 97 ≤ t fr ∧ t fr ≤ 122) : knd t L fr = 1 := by
  unfold knd alB
  rw [if_pos h, if_pos (decide_eq_true ha)]
theorem te_lt {t : Nat → Nat} {L fr : Nat} (h : fr < te t L fr) : fr < L := by
  unfold te at h
  split at h
  · assumption
  · omega
theorem kn1' {t : Nat → Nat} {L fr : Nat} (h : knd t L fr = 1) : fr < L := by
  unfold knd at h
  split at h
  · assumption
  · omega
theorem nm_wd3 {t : Nat → Nat} {L fr : Nat} (hb : ∀ i, t i < 256) (hfr : fr ≤ L) (a b c : Nat) (ha : 97 ≤ a ∧ a ≤ 122) (hbb : b < 256) (hc : c < 256) : nmB t L fr 3 (nI a) (nI b) (nI c) (nI c) = wdB t L fr [a, b, c] := by
  have ht := te_le t hfr
  unfold nmB nmP
  rw [Bool.eq_iff_iff, decide_eq_true_eq, wd_iff, by_eq hb (by omega), by_eq hb hbb, by_eq hb hc, by_eq hb hc]
  show _ ↔ te t L fr = fr + 3 ∧ ∀ i, i < 3 → t (fr + i) = [a, b, c].getD i 0
  constructor
  · rintro ⟨h1, h2, h3, h4, h5, h6⟩
    refine ⟨by omega, fun i hi => ?_⟩
    match i, hi with
    | 0, _ => exact h3.2
    | 1, _ => exact h4.2
    | 2, _ => exact h5.2
  · rintro ⟨h1, h2⟩
    have g0 := h2 0 (by omega)
    have g1 := h2 1 (by omega)
    have g2 := h2 2 (by omega)
    have hlt := te_lt (t := t) (L := L) (fr := fr) (by omega)
    refine ⟨kn1 hlt (by rw [show t fr = a from g0]; exact ha), by omega, ⟨hlt, g0⟩, ⟨by omega, g1⟩, ⟨by omega, g2⟩, ⟨by omega, ?_⟩⟩
    rw [show te t L fr - 1 = fr + 2 by omega]
    exact g2
theorem nm_wd4 {t : Nat → Nat} {L fr : Nat} (hb : ∀ i, t i < 256) (hfr : fr ≤ L) (a b c d : Nat) (ha : 97 ≤ a ∧ a ≤ 122) (hbb : b < 256) (hc : c < 256) (hd : d < 256) : nmB t L fr 4 (nI a) (nI b) (nI c) (nI d) = wdB t L fr [a, b, c, d] := by
  have ht := te_le t hfr
  unfold nmB nmP
  rw [Bool.eq_iff_iff, decide_eq_true_eq, wd_iff, by_eq hb (by omega), by_eq hb hbb, by_eq hb hc, by_eq hb hd]
  show _ ↔ te t L fr = fr + 4 ∧ ∀ i, i < 4 → t (fr + i) = [a, b, c, d].getD i 0
  constructor
  · rintro ⟨h1, h2, h3, h4, h5, h6⟩
    rw [show te t L fr - 1 = fr + 3 by omega] at h6
    refine ⟨by omega, fun i hi => ?_⟩
    match i, hi with
    | 0, _ => exact h3.2
    | 1, _ => exact h4.2
    | 2, _ => exact h5.2
    | 3, _ => exact h6.2
  · rintro ⟨h1, h2⟩
    have g0 := h2 0 (by omega)
    have g1 := h2 1 (by omega)
    have g2 := h2 2 (by omega)
    have g3 := h2 3 (by omega)
    have hlt := te_lt (t := t) (L := L) (fr := fr) (by omega)
    refine ⟨kn1 hlt (by rw [show t fr = a from g0]; exact ha), by omega, ⟨hlt, g0⟩, ⟨by omega, g1⟩, ⟨by omega, g2⟩, ⟨by omega, ?_⟩⟩
    rw [show te t L fr - 1 = fr + 3 by omega]
    exact g3
theorem nm_wd5 {t : Nat → Nat} {L fr : Nat} (hb : ∀ i, t i < 256) (hfr : fr ≤ L) (a b c d e : Nat) (ha : 97 ≤ a ∧ a ≤ 122) (hbb : b < 256) (hc : c < 256) (hd : d < 256) (he : e < 256) : (nmB t L fr 5 (nI a) (nI b) (nI c) (nI e) && decide (byI t L (fr + 3) = nI d)) = wdB t L fr [a, b, c, d, e] := by
  have ht := te_le t hfr
  unfold nmB nmP
  rw [Bool.eq_iff_iff, Bool.and_eq_true, decide_eq_true_eq, decide_eq_true_eq, wd_iff, by_eq hb (by omega), by_eq hb hbb, by_eq hb hc, by_eq hb hd, by_eq hb he]
  show _ ↔ te t L fr = fr + 5 ∧ ∀ i, i < 5 → t (fr + i) = [a, b, c, d, e].getD i 0
  constructor
  · rintro ⟨⟨h1, h2, h3, h4, h5, h6⟩, h7⟩
    rw [show te t L fr - 1 = fr + 4 by omega] at h6
    refine ⟨by omega, fun i hi => ?_⟩
    match i, hi with
    | 0, _ => exact h3.2
    | 1, _ => exact h4.2
    | 2, _ => exact h5.2
    | 3, _ => exact h7.2
    | 4, _ => exact h6.2
  · rintro ⟨h1, h2⟩
    have g0 := h2 0 (by omega)
    have g1 := h2 1 (by omega)
    have g2 := h2 2 (by omega)
    have g3 := h2 3 (by omega)
    have g4 := h2 4 (by omega)
    have hlt := te_lt (t := t) (L := L) (fr := fr) (by omega)
    refine ⟨⟨kn1 hlt (by rw [show t fr = a from g0]; exact ha), by omega, ⟨hlt, g0⟩, ⟨by omega, g1⟩, ⟨by omega, g2⟩, ⟨by omega, ?_⟩⟩, ⟨by omega, g3⟩⟩
    rw [show te t L fr - 1 = fr + 4 by omega]
    exact g4
theorem nm_wd6 {t : Nat → Nat} {L fr : Nat} (hb : ∀ i, t i < 256) (hfr : fr ≤ L) (a b c d e f : Nat) (ha : 97 ≤ a ∧ a ≤ 122) (hbb : b < 256) (hc : c < 256) (hd : d < 256) (he : e < 256) (hf : f < 256) : (nmB t L fr 6 (nI a) (nI b) (nI c) (nI f) && decide (byI t L (fr + 2) = nI c ∧ byI t L (fr + 2 + 1) = nI d ∧ byI t L (fr + 2 + 2) = nI e)) = wdB t L fr [a, b, c, d, e, f] := by
  have ht := te_le t hfr
  unfold nmB nmP
  rw [Bool.eq_iff_iff, Bool.and_eq_true, decide_eq_true_eq, decide_eq_true_eq, wd_iff, by_eq hb (by omega), by_eq hb hbb, by_eq hb hc, by_eq hb hd, by_eq hb he, by_eq hb hf]
  show _ ↔ te t L fr = fr + 6 ∧ ∀ i, i < 6 → t (fr + i) = [a, b, c, d, e, f].getD i 0
  constructor
  · rintro ⟨⟨h1, h2, h3, h4, h5, h6⟩, h7, h8, h9⟩
    rw [show te t L fr - 1 = fr + 5 by omega] at h6
    refine ⟨by omega, fun i hi => ?_⟩
    match i, hi with
    | 0, _ => exact h3.2
    | 1, _ => exact h4.2
    | 2, _ => exact h5.2
    | 3, _ => exact h8.2
    | 4, _ => exact h9.2
    | 5, _ => exact h6.2
  · rintro ⟨h1, h2⟩
    have g0 := h2 0 (by omega)
    have g1 := h2 1 (by omega)
    have g2 := h2 2 (by omega)
    have g3 := h2 3 (by omega)
    have g4 := h2 4 (by omega)
    have g5 := h2 5 (by omega)
    have hlt := te_lt (t := t) (L := L) (fr := fr) (by omega)
    refine ⟨⟨kn1 hlt (by rw [show t fr = a from g0]; exact ha), by omega, ⟨hlt, g0⟩, ⟨by omega, g1⟩, ⟨by omega, g2⟩, ⟨by omega, ?_⟩⟩, ⟨by omega, g2⟩, ⟨by omega, g3⟩, ⟨by omega, g4⟩⟩
    rw [show te t L fr - 1 = fr + 5 by omega]
    exact g5
theorem isSame_ok (t : Nat → Nat) (L : Nat) (M : Mm) (st : Ps) (a b c : Int32) (h : TP M t L) (hfr : st.1 ≤ L) : K 1 mX6_isSame [.ref 46, .int 2, .int a, .int b, .int c] (PMs t L M st) (Rt (some (.int (bI (decide (byI t L (st.1 + 2) = a ∧ byI t L (st.1 + 2 + 1) = b ∧ byI t L (st.1 + 2 + 2) = c))))) (PMs t L M st)) := by
  have hL := h.2.1
  have b0 := fun i hi => byteAt_ok t L i (PMs t L M st) (PM_TP h) hi
  have fin1 : (byI t L (st.1 + 2) = a ∧ byI t L (st.1 + 2 + 1) = b ∧ byI t L (st.1 + 2 + 2) = c) → bI (decide (byI t L (st.1 + 2) = a ∧ byI t L (st.1 + 2 + 1) = b ∧ byI t L (st.1 + 2 + 2) = c)) = 1 := fun hp => by rw [decide_eq_true hp]; rfl
  have fin0 : ¬ (byI t L (st.1 + 2) = a ∧ byI t L (st.1 + 2 + 1) = b ∧ byI t L (st.1 + 2 + 2) = c) → bI (decide (byI t L (st.1 + 2) = a ∧ byI t L (st.1 + 2 + 1) = b ∧ byI t L (st.1 + 2 + 2) = c)) = 0 := fun hp => by rw [decide_eq_false hp]; rfl
  generalize bI (decide (byI t L (st.1 + 2) = a ∧ byI t L (st.1 + 2 + 1) = b ∧ byI t L (st.1 + 2 + 2) = c)) = v at *
  refine K_go 4 o_X6_isSame [] rfl (Nat.le_of_ble_eq_true rfl) ?_
  simp only [lvA_i, lvA_a, lvA_l, lvA_nil, List.cons_append, List.nil_append]
  refine J_blk a_X6_isSame_0 ?_
  simp only [b_X6_isSame_0, w_aload_n0, w_getf6, w_iload_n1, w_iadd, w_nil, kd_46, kd_47, kd_48, kd_49, kd_50, kd_51, kd_52, kd_53, kd_54, kd_55, kd_56, kd_57, kd_58, kd_59, ln_47, ln_48, ln_49, ln_50, ln_51, ln_52, ln_53, ln_54, ln_55, ln_56, ln_57, ln_58, ln_59, Option.toList_some, Option.toList_none, List.cons_append, List.nil_append, true_and, and_true, if_true, if_false, true_or, or_true, Nat.reduceAdd, Int.reduceAdd, Bool.false_eq_true, tn_0, tn_1, tn_2, tn_3, tn_4, tn_5, tn_6, tn_7, PM_8, ad1, ad2]
  refine J_callVr (ci := 6) (b0 _ (by omega)) k_X6_isSame_7 o_X6_byteAt rfl rfl rfl rfl (by decide) rfl (Nat.le_of_ble_eq_true rfl) ?_
  refine J_blk a_X6_isSame_10 ?_
  simp only [b_X6_isSame_10, w_iload_n2, w_icmp_ne, w_nil, kd_46, kd_47, kd_48, kd_49, kd_50, kd_51, kd_52, kd_53, kd_54, kd_55, kd_56, kd_57, kd_58, kd_59, ln_47, ln_48, ln_49, ln_50, ln_51, ln_52, ln_53, ln_54, ln_55, ln_56, ln_57, ln_58, ln_59, Option.toList_some, Option.toList_none, List.cons_append, List.nil_append, true_and, and_true, if_true, if_false, true_or, or_true, Nat.reduceAdd, Int.reduceAdd, Bool.false_eq_true, tn_0, tn_1, tn_2, tn_3, tn_4, tn_5, tn_6, tn_7, PM_8, ad1, ad2]
  refine ⟨fun c14 => ?_, fun c14 => ?_⟩
  · refine J_blk a_X6_isSame_51 ?_
    simp only [b_X6_isSame_51, w_iconst_0, w_nil, kd_46, kd_47, kd_48, kd_49, kd_50, kd_51, kd_52, kd_53, kd_54, kd_55, kd_56, kd_57, kd_58, kd_59, ln_47, ln_48, ln_49, ln_50, ln_51, ln_52, ln_53, ln_54, ln_55, ln_56, ln_57, ln_58, ln_59, Option.toList_some, Option.toList_none, List.cons_append, List.nil_append, true_and, and_true, if_true, if_false, true_or, or_true, Nat.reduceAdd, Int.reduceAdd, Bool.false_eq_true, tn_0, tn_1, tn_2, tn_3, tn_4, tn_5, tn_6, tn_7, PM_8, ad1, ad2]
    refine J_blk a_X6_isSame_52 ?_
    simp only [b_X6_isSame_52, w_iretz, kd_46, kd_47, kd_48, kd_49, kd_50, kd_51, kd_52, kd_53, kd_54, kd_55, kd_56, kd_57, kd_58, kd_59, ln_47, ln_48, ln_49, ln_50, ln_51, ln_52, ln_53, ln_54, ln_55, ln_56, ln_57, ln_58, ln_59, Option.toList_some, Option.toList_none, List.cons_append, List.nil_append, true_and, and_true, if_true, if_false, true_or, or_true, Nat.reduceAdd, Int.reduceAdd, Bool.false_eq_true, tn_0, tn_1, tn_2, tn_3, tn_4, tn_5, tn_6, tn_7, PM_8, ad1, ad2]
    try refine ⟨(by first | exact Or.inl rfl | exact Or.inr rfl), ?_⟩
    exact ⟨by first | rw [fin1 (by grind)] | rw [fin0 (by grind)], rfl⟩
  · refine J_blk a_X6_isSame_14 ?_
    simp only [b_X6_isSame_14, w_aload_n0, w_getf6, w_iload_n1, w_iadd, w_iconst_1, w_nil, kd_46, kd_47, kd_48, kd_49, kd_50, kd_51, kd_52, kd_53, kd_54, kd_55, kd_56, kd_57, kd_58, kd_59, ln_47, ln_48, ln_49, ln_50, ln_51, ln_52, ln_53, ln_54, ln_55, ln_56, ln_57, ln_58, ln_59, Option.toList_some, Option.toList_none, List.cons_append, List.nil_append, true_and, and_true, if_true, if_false, true_or, or_true, Nat.reduceAdd, Int.reduceAdd, Bool.false_eq_true, tn_0, tn_1, tn_2, tn_3, tn_4, tn_5, tn_6, tn_7, PM_8, ad1, ad2]
    refine J_callVr (ci := 6) (b0 _ (by omega)) k_X6_isSame_23 o_X6_byteAt rfl rfl rfl rfl (by decide) rfl (Nat.le_of_ble_eq_true rfl) ?_
    refine J_blk a_X6_isSame_26 ?_
    simp only [b_X6_isSame_26, w_iload_n3, w_icmp_ne, w_nil, kd_46, kd_47, kd_48, kd_49, kd_50, kd_51, kd_52, kd_53, kd_54, kd_55, kd_56, kd_57, kd_58, kd_59, ln_47, ln_48, ln_49, ln_50, ln_51, ln_52, ln_53, ln_54, ln_55, ln_56, ln_57, ln_58, ln_59, Option.toList_some, Option.toList_none, List.cons_append, List.nil_append, true_and, and_true, if_true, if_false, true_or, or_true, Nat.reduceAdd, Int.reduceAdd, Bool.false_eq_true, tn_0, tn_1, tn_2, tn_3, tn_4, tn_5, tn_6, tn_7, PM_8, ad1, ad2]
    refine ⟨fun c15 => ?_, fun c15 => ?_⟩
    · refine J_blk a_X6_isSame_51 ?_
      simp only [b_X6_isSame_51, w_iconst_0, w_nil, kd_46, kd_47, kd_48, kd_49, kd_50, kd_51, kd_52, kd_53, kd_54, kd_55, kd_56, kd_57, kd_58, kd_59, ln_47, ln_48, ln_49, ln_50, ln_51, ln_52, ln_53, ln_54, ln_55, ln_56, ln_57, ln_58, ln_59, Option.toList_some, Option.toList_none, List.cons_append, List.nil_append, true_and, and_true, if_true, if_false, true_or, or_true, Nat.reduceAdd, Int.reduceAdd, Bool.false_eq_true, tn_0, tn_1, tn_2, tn_3, tn_4, tn_5, tn_6, tn_7, PM_8, ad1, ad2]
      refine J_blk a_X6_isSame_52 ?_
      simp only [b_X6_isSame_52, w_iretz, kd_46, kd_47, kd_48, kd_49, kd_50, kd_51, kd_52, kd_53, kd_54, kd_55, kd_56, kd_57, kd_58, kd_59, ln_47, ln_48, ln_49, ln_50, ln_51, ln_52, ln_53, ln_54, ln_55, ln_56, ln_57, ln_58, ln_59, Option.toList_some, Option.toList_none, List.cons_append, List.nil_append, true_and, and_true, if_true, if_false, true_or, or_true, Nat.reduceAdd, Int.reduceAdd, Bool.false_eq_true, tn_0, tn_1, tn_2, tn_3, tn_4, tn_5, tn_6, tn_7, PM_8, ad1, ad2]
      try refine ⟨(by first | exact Or.inl rfl | exact Or.inr rfl), ?_⟩
      exact ⟨by first | rw [fin1 (by grind)] | rw [fin0 (by grind)], rfl⟩
    · refine J_blk a_X6_isSame_30 ?_
      simp only [b_X6_isSame_30, w_aload_n0, w_getf6, w_iload_n1, w_iadd, w_iconst_2, w_nil, kd_46, kd_47, kd_48, kd_49, kd_50, kd_51, kd_52, kd_53, kd_54, kd_55, kd_56, kd_57, kd_58, kd_59, ln_47, ln_48, ln_49, ln_50, ln_51, ln_52, ln_53, ln_54, ln_55, ln_56, ln_57, ln_58, ln_59, Option.toList_some, Option.toList_none, List.cons_append, List.nil_append, true_and, and_true, if_true, if_false, true_or, or_true, Nat.reduceAdd, Int.reduceAdd, Bool.false_eq_true, tn_0, tn_1, tn_2, tn_3, tn_4, tn_5, tn_6, tn_7, PM_8, ad1, ad2]
      refine J_callVr (ci := 6) (b0 _ (by omega)) k_X6_isSame_39 o_X6_byteAt rfl rfl rfl rfl (by decide) rfl (Nat.le_of_ble_eq_true rfl) ?_
      refine J_blk a_X6_isSame_42 ?_
      simp only [b_X6_isSame_42, w_iload4, w_icmp_ne, w_nil, kd_46, kd_47, kd_48, kd_49, kd_50, kd_51, kd_52, kd_53, kd_54, kd_55, kd_56, kd_57, kd_58, kd_59, ln_47, ln_48, ln_49, ln_50, ln_51, ln_52, ln_53, ln_54, ln_55, ln_56, ln_57, ln_58, ln_59, Option.toList_some, Option.toList_none, List.cons_append, List.nil_append, true_and, and_true, if_true, if_false, true_or, or_true, Nat.reduceAdd, Int.reduceAdd, Bool.false_eq_true, tn_0, tn_1, tn_2, tn_3, tn_4, tn_5, tn_6, tn_7, PM_8, ad1, ad2]
      refine ⟨fun c16 => ?_, fun c16 => ?_⟩
      · refine J_blk a_X6_isSame_51 ?_
        simp only [b_X6_isSame_51, w_iconst_0, w_nil, kd_46, kd_47, kd_48, kd_49, kd_50, kd_51, kd_52, kd_53, kd_54, kd_55, kd_56, kd_57, kd_58, kd_59, ln_47, ln_48, ln_49, ln_50, ln_51, ln_52, ln_53, ln_54, ln_55, ln_56, ln_57, ln_58, ln_59, Option.toList_some, Option.toList_none, List.cons_append, List.nil_append, true_and, and_true, if_true, if_false, true_or, or_true, Nat.reduceAdd, Int.reduceAdd, Bool.false_eq_true, tn_0, tn_1, tn_2, tn_3, tn_4, tn_5, tn_6, tn_7, PM_8, ad1, ad2]
        refine J_blk a_X6_isSame_52 ?_
        simp only [b_X6_isSame_52, w_iretz, kd_46, kd_47, kd_48, kd_49, kd_50, kd_51, kd_52, kd_53, kd_54, kd_55, kd_56, kd_57, kd_58, kd_59, ln_47, ln_48, ln_49, ln_50, ln_51, ln_52, ln_53, ln_54, ln_55, ln_56, ln_57, ln_58, ln_59, Option.toList_some, Option.toList_none, List.cons_append, List.nil_append, true_and, and_true, if_true, if_false, true_or, or_true, Nat.reduceAdd, Int.reduceAdd, Bool.false_eq_true, tn_0, tn_1, tn_2, tn_3, tn_4, tn_5, tn_6, tn_7, PM_8, ad1, ad2]
        try refine ⟨(by first | exact Or.inl rfl | exact Or.inr rfl), ?_⟩
        exact ⟨by first | rw [fin1 (by grind)] | rw [fin0 (by grind)], rfl⟩
      · refine J_blk a_X6_isSame_47 ?_
        simp only [b_X6_isSame_47, w_iconst_1, w_goto, kd_46, kd_47, kd_48, kd_49, kd_50, kd_51, kd_52, kd_53, kd_54, kd_55, kd_56, kd_57, kd_58, kd_59, ln_47, ln_48, ln_49, ln_50, ln_51, ln_52, ln_53, ln_54, ln_55, ln_56, ln_57, ln_58, ln_59, Option.toList_some, Option.toList_none, List.cons_append, List.nil_append, true_and, and_true, if_true, if_false, true_or, or_true, Nat.reduceAdd, Int.reduceAdd, Bool.false_eq_true, tn_0, tn_1, tn_2, tn_3, tn_4, tn_5, tn_6, tn_7, PM_8, ad1, ad2]
        refine J_blk a_X6_isSame_52 ?_
        simp only [b_X6_isSame_52, w_iretz, kd_46, kd_47, kd_48, kd_49, kd_50, kd_51, kd_52, kd_53, kd_54, kd_55, kd_56, kd_57, kd_58, kd_59, ln_47, ln_48, ln_49, ln_50, ln_51, ln_52, ln_53, ln_54, ln_55, ln_56, ln_57, ln_58, ln_59, Option.toList_some, Option.toList_none, List.cons_append, List.nil_append, true_and, and_true, if_true, if_false, true_or, or_true, Nat.reduceAdd, Int.reduceAdd, Bool.false_eq_true, tn_0, tn_1, tn_2, tn_3, tn_4, tn_5, tn_6, tn_7, PM_8, ad1, ad2]
        try refine ⟨(by first | exact Or.inl rfl | exact Or.inr rfl), ?_⟩
        exact ⟨by first | rw [fin1 (by grind)] | rw [fin0 (by grind)], rfl⟩
theorem isFour_ok (t : Nat → Nat) (L : Nat) (M : Mm) (st : Ps) (a b c d : Int32) (h : TP M t L) (hfr : st.1 ≤ L) : K 2 mX6_isFour [.ref 46, .int a, .int b, .int c, .int d] (PMs t L M st) (Rt (some (.int (bI (nmB t L st.1 4 a b c d)))) (PMs t L M st)) := by
  refine K_go 4 o_X6_isFour [] rfl (Nat.le_of_ble_eq_true rfl) ?_
  simp only [lvA_i, lvA_a, lvA_l, lvA_nil, List.cons_append, List.nil_append]
  refine J_blk a_X6_isFour_0 ?_
  simp only [b_X6_isFour_0, w_aload_n0, w_iconst_4, w_iload_n1, w_iload_n2, w_iload_n3, w_iload4, w_nil, kd_46, kd_47, kd_48, kd_49, kd_50, kd_51, kd_52, kd_53, kd_54, kd_55, kd_56, kd_57, kd_58, kd_59, ln_47, ln_48, ln_49, ln_50, ln_51, ln_52, ln_53, ln_54, ln_55, ln_56, ln_57, ln_58, ln_59, Option.toList_some, Option.toList_none, List.cons_append, List.nil_append, true_and, and_true, if_true, if_false, true_or, or_true, Nat.reduceAdd, Int.reduceAdd, Bool.false_eq_true, tn_0, tn_1, tn_2, tn_3, tn_4, tn_5, tn_6, tn_7]
  refine J_callVr (ci := 6) (isName_ok t L M st 4 _ _ _ _ h hfr (by omega)) k_X6_isFour_7 o_X6_isName rfl rfl rfl rfl (by decide) rfl (Nat.le_of_ble_eq_true rfl) ?_
  refine J_blk a_X6_isFour_10 ?_
  simp only [b_X6_isFour_10, w_iretz, kd_46, kd_47, kd_48, kd_49, kd_50, kd_51, kd_52, kd_53, kd_54, kd_55, kd_56, kd_57, kd_58, kd_59, ln_47, ln_48, ln_49, ln_50, ln_51, ln_52, ln_53, ln_54, ln_55, ln_56, ln_57, ln_58, ln_59, Option.toList_some, Option.toList_none, List.cons_append, List.nil_append, true_and, and_true, if_true, if_false, true_or, or_true, Nat.reduceAdd, Int.reduceAdd, Bool.false_eq_true, tn_0, tn_1, tn_2, tn_3, tn_4, tn_5, tn_6, tn_7]
  try refine ⟨(by first | exact Or.inl rfl | exact Or.inr rfl), ?_⟩
  exact ⟨bI01 _, rfl, rfl⟩
theorem isFive_ok (t : Nat → Nat) (L : Nat) (M : Mm) (st : Ps) (a b c d e : Int32) (h : TP M t L) (hfr : st.1 ≤ L) : K 2 mX6_isFive [.ref 46, .int a, .int b, .int c, .int d, .int e] (PMs t L M st) (Rt (some (.int (bI (nmB t L st.1 5 a b c e && decide (byI t L (st.1 + 3) = d))))) (PMs t L M st)) := by
  have hL := h.2.1
  have b0 := fun i hi => byteAt_ok t L i (PMs t L M st) (PM_TP h) hi
  refine K_go 5 o_X6_isFive [] rfl (Nat.le_of_ble_eq_true rfl) ?_
  simp only [lvA_i, lvA_a, lvA_l, lvA_nil, List.cons_append, List.nil_append]
  refine J_blk a_X6_isFive_0 ?_
  simp only [b_X6_isFive_0, w_aload_n0, w_iconst_5, w_iload_n1, w_iload_n2, w_iload_n3, w_iload5, w_nil, kd_46, kd_47, kd_48, kd_49, kd_50, kd_51, kd_52, kd_53, kd_54, kd_55, kd_56, kd_57, kd_58, kd_59, ln_47, ln_48, ln_49, ln_50, ln_51, ln_52, ln_53, ln_54, ln_55, ln_56, ln_57, ln_58, ln_59, Option.toList_some, Option.toList_none, List.cons_append, List.nil_append, true_and, and_true, if_true, if_false, true_or, or_true, Nat.reduceAdd, Int.reduceAdd, Bool.false_eq_true, tn_0, tn_1, tn_2, tn_3, tn_4, tn_5, tn_6, tn_7]
  refine J_callVr (ci := 6) (isName_ok t L M st 5 _ _ _ _ h hfr (by omega)) k_X6_isFive_7 o_X6_isName rfl rfl rfl rfl (by decide) rfl (Nat.le_of_ble_eq_true rfl) ?_
  cases nmB t L st.1 5 a b c e
  · rw [Bool.false_and]
    refine J_blk a_X6_isFive_10 ?_
    simp only [b_X6_isFive_10, w_if_eq, w_nil, kd_46, kd_47, kd_48, kd_49, kd_50, kd_51, kd_52, kd_53, kd_54, kd_55, kd_56, kd_57, kd_58, kd_59, ln_47, ln_48, ln_49, ln_50, ln_51, ln_52, ln_53, ln_54, ln_55, ln_56, ln_57, ln_58, ln_59, Option.toList_some, Option.toList_none, List.cons_append, List.nil_append, true_and, and_true, if_true, if_false, true_or, or_true, Nat.reduceAdd, Int.reduceAdd, Bool.false_eq_true, tn_0, tn_1, tn_2, tn_3, tn_4, tn_5, tn_6, tn_7, PM_8, ad3]
    refine ⟨fun c17 => ?_, fun c17 => ?_⟩
    · first
        | exact absurd c17 (by decide)
        | (refine J_blk a_X6_isFive_32 ?_
           simp only [b_X6_isFive_32, w_iconst_0, w_nil, kd_46, kd_47, kd_48, kd_49, kd_50, kd_51, kd_52, kd_53, kd_54, kd_55, kd_56, kd_57, kd_58, kd_59, ln_47, ln_48, ln_49, ln_50, ln_51, ln_52, ln_53, ln_54, ln_55, ln_56, ln_57, ln_58, ln_59, Option.toList_some, Option.toList_none, List.cons_append, List.nil_append, true_and, and_true, if_true, if_false, true_or, or_true, Nat.reduceAdd, Int.reduceAdd, Bool.false_eq_true, tn_0, tn_1, tn_2, tn_3, tn_4, tn_5, tn_6, tn_7, PM_8, ad3]
           refine J_blk a_X6_isFive_33 ?_
           simp only [b_X6_isFive_33, w_iretz, kd_46, kd_47, kd_48, kd_49, kd_50, kd_51, kd_52, kd_53, kd_54, kd_55, kd_56, kd_57, kd_58, kd_59, ln_47, ln_48, ln_49, ln_50, ln_51, ln_52, ln_53, ln_54, ln_55, ln_56, ln_57, ln_58, ln_59, Option.toList_some, Option.toList_none, List.cons_append, List.nil_append, true_and, and_true, if_true, if_false, true_or, or_true, Nat.reduceAdd, Int.reduceAdd, Bool.false_eq_true, tn_0, tn_1, tn_2, tn_3, tn_4, tn_5, tn_6, tn_7, PM_8, ad3]
           try refine ⟨(by first | exact Or.inl rfl | exact Or.inr rfl), ?_⟩
           first | exact ⟨rfl, rfl⟩ | (simp_all [Rt]))
    · first
        | exact absurd c17 (by decide)
        | (exact absurd rfl (by assumption))
  · rw [Bool.true_and]
    by_cases hd : byI t L (st.1 + 3) = d
    · rw [decide_eq_true hd]
      refine J_blk a_X6_isFive_10 ?_
      simp only [b_X6_isFive_10, w_if_eq, w_nil, kd_46, kd_47, kd_48, kd_49, kd_50, kd_51, kd_52, kd_53, kd_54, kd_55, kd_56, kd_57, kd_58, kd_59, ln_47, ln_48, ln_49, ln_50, ln_51, ln_52, ln_53, ln_54, ln_55, ln_56, ln_57, ln_58, ln_59, Option.toList_some, Option.toList_none, List.cons_append, List.nil_append, true_and, and_true, if_true, if_false, true_or, or_true, Nat.reduceAdd, Int.reduceAdd, Bool.false_eq_true, tn_0, tn_1, tn_2, tn_3, tn_4, tn_5, tn_6, tn_7, PM_8, ad3]
      refine ⟨fun c18 => ?_, fun c18 => ?_⟩
      · first
          | exact absurd c18 (by decide)
          | (exact absurd hd (by assumption))
      · first
          | exact absurd c18 (by decide)
          | (refine J_blk a_X6_isFive_13 ?_
             simp only [b_X6_isFive_13, w_aload_n0, w_getf6, w_iconst_3, w_iadd, w_nil, kd_46, kd_47, kd_48, kd_49, kd_50, kd_51, kd_52, kd_53, kd_54, kd_55, kd_56, kd_57, kd_58, kd_59, ln_47, ln_48, ln_49, ln_50, ln_51, ln_52, ln_53, ln_54, ln_55, ln_56, ln_57, ln_58, ln_59, Option.toList_some, Option.toList_none, List.cons_append, List.nil_append, true_and, and_true, if_true, if_false, true_or, or_true, Nat.reduceAdd, Int.reduceAdd, Bool.false_eq_true, tn_0, tn_1, tn_2, tn_3, tn_4, tn_5, tn_6, tn_7, PM_8, ad3]
             refine J_callVr (ci := 6) (b0 _ (by omega)) k_X6_isFive_20 o_X6_byteAt rfl rfl rfl rfl (by decide) rfl (Nat.le_of_ble_eq_true rfl) ?_
             refine J_blk a_X6_isFive_23 ?_
             simp only [b_X6_isFive_23, w_iload4, w_icmp_ne, w_nil, kd_46, kd_47, kd_48, kd_49, kd_50, kd_51, kd_52, kd_53, kd_54, kd_55, kd_56, kd_57, kd_58, kd_59, ln_47, ln_48, ln_49, ln_50, ln_51, ln_52, ln_53, ln_54, ln_55, ln_56, ln_57, ln_58, ln_59, Option.toList_some, Option.toList_none, List.cons_append, List.nil_append, true_and, and_true, if_true, if_false, true_or, or_true, Nat.reduceAdd, Int.reduceAdd, Bool.false_eq_true, tn_0, tn_1, tn_2, tn_3, tn_4, tn_5, tn_6, tn_7, PM_8, ad3]
             refine ⟨fun c19 => ?_, fun c19 => ?_⟩
             · first
                 | exact absurd c19 (by decide)
                 | (exact absurd hd (by assumption))
             · first
                 | exact absurd c19 (by decide)
                 | (refine J_blk a_X6_isFive_28 ?_
                    simp only [b_X6_isFive_28, w_iconst_1, w_goto, kd_46, kd_47, kd_48, kd_49, kd_50, kd_51, kd_52, kd_53, kd_54, kd_55, kd_56, kd_57, kd_58, kd_59, ln_47, ln_48, ln_49, ln_50, ln_51, ln_52, ln_53, ln_54, ln_55, ln_56, ln_57, ln_58, ln_59, Option.toList_some, Option.toList_none, List.cons_append, List.nil_append, true_and, and_true, if_true, if_false, true_or, or_true, Nat.reduceAdd, Int.reduceAdd, Bool.false_eq_true, tn_0, tn_1, tn_2, tn_3, tn_4, tn_5, tn_6, tn_7, PM_8, ad3]
                    refine J_blk a_X6_isFive_33 ?_
                    simp only [b_X6_isFive_33, w_iretz, kd_46, kd_47, kd_48, kd_49, kd_50, kd_51, kd_52, kd_53, kd_54, kd_55, kd_56, kd_57, kd_58, kd_59, ln_47, ln_48, ln_49, ln_50, ln_51, ln_52, ln_53, ln_54, ln_55, ln_56, ln_57, ln_58, ln_59, Option.toList_some, Option.toList_none, List.cons_append, List.nil_append, true_and, and_true, if_true, if_false, true_or, or_true, Nat.reduceAdd, Int.reduceAdd, Bool.false_eq_true, tn_0, tn_1, tn_2, tn_3, tn_4, tn_5, tn_6, tn_7, PM_8, ad3]
                    try refine ⟨(by first | exact Or.inl rfl | exact Or.inr rfl), ?_⟩
                    exact ⟨rfl, rfl⟩))
    · rw [decide_eq_false hd]
      refine J_blk a_X6_isFive_10 ?_
      simp only [b_X6_isFive_10, w_if_eq, w_nil, kd_46, kd_47, kd_48, kd_49, kd_50, kd_51, kd_52, kd_53, kd_54, kd_55, kd_56, kd_57, kd_58, kd_59, ln_47, ln_48, ln_49, ln_50, ln_51, ln_52, ln_53, ln_54, ln_55, ln_56, ln_57, ln_58, ln_59, Option.toList_some, Option.toList_none, List.cons_append, List.nil_append, true_and, and_true, if_true, if_false, true_or, or_true, Nat.reduceAdd, Int.reduceAdd, Bool.false_eq_true, tn_0, tn_1, tn_2, tn_3, tn_4, tn_5, tn_6, tn_7, PM_8, ad3]
      refine ⟨fun c20 => ?_, fun c20 => ?_⟩
      · first
          | exact absurd c20 (by decide)
          | (refine J_blk a_X6_isFive_32 ?_
             simp only [b_X6_isFive_32, w_iconst_0, w_nil, kd_46, kd_47, kd_48, kd_49, kd_50, kd_51, kd_52, kd_53, kd_54, kd_55, kd_56, kd_57, kd_58, kd_59, ln_47, ln_48, ln_49, ln_50, ln_51, ln_52, ln_53, ln_54, ln_55, ln_56, ln_57, ln_58, ln_59, Option.toList_some, Option.toList_none, List.cons_append, List.nil_append, true_and, and_true, if_true, if_false, true_or, or_true, Nat.reduceAdd, Int.reduceAdd, Bool.false_eq_true, tn_0, tn_1, tn_2, tn_3, tn_4, tn_5, tn_6, tn_7, PM_8, ad3]
             refine J_blk a_X6_isFive_33 ?_
             simp only [b_X6_isFive_33, w_iretz, kd_46, kd_47, kd_48, kd_49, kd_50, kd_51, kd_52, kd_53, kd_54, kd_55, kd_56, kd_57, kd_58, kd_59, ln_47, ln_48, ln_49, ln_50, ln_51, ln_52, ln_53, ln_54, ln_55, ln_56, ln_57, ln_58, ln_59, Option.toList_some, Option.toList_none, List.cons_append, List.nil_append, true_and, and_true, if_true, if_false, true_or, or_true, Nat.reduceAdd, Int.reduceAdd, Bool.false_eq_true, tn_0, tn_1, tn_2, tn_3, tn_4, tn_5, tn_6, tn_7, PM_8, ad3]
             try refine ⟨(by first | exact Or.inl rfl | exact Or.inr rfl), ?_⟩
             exact ⟨rfl, rfl⟩)
      · first
          | exact absurd c20 (by decide)
          | (refine J_blk a_X6_isFive_13 ?_
             simp only [b_X6_isFive_13, w_aload_n0, w_getf6, w_iconst_3, w_iadd, w_nil, kd_46, kd_47, kd_48, kd_49, kd_50, kd_51, kd_52, kd_53, kd_54, kd_55, kd_56, kd_57, kd_58, kd_59, ln_47, ln_48, ln_49, ln_50, ln_51, ln_52, ln_53, ln_54, ln_55, ln_56, ln_57, ln_58, ln_59, Option.toList_some, Option.toList_none, List.cons_append, List.nil_append, true_and, and_true, if_true, if_false, true_or, or_true, Nat.reduceAdd, Int.reduceAdd, Bool.false_eq_true, tn_0, tn_1, tn_2, tn_3, tn_4, tn_5, tn_6, tn_7, PM_8, ad3]
             refine J_callVr (ci := 6) (b0 _ (by omega)) k_X6_isFive_20 o_X6_byteAt rfl rfl rfl rfl (by decide) rfl (Nat.le_of_ble_eq_true rfl) ?_
             refine J_blk a_X6_isFive_23 ?_
             simp only [b_X6_isFive_23, w_iload4, w_icmp_ne, w_nil, kd_46, kd_47, kd_48, kd_49, kd_50, kd_51, kd_52, kd_53, kd_54, kd_55, kd_56, kd_57, kd_58, kd_59, ln_47, ln_48, ln_49, ln_50, ln_51, ln_52, ln_53, ln_54, ln_55, ln_56, ln_57, ln_58, ln_59, Option.toList_some, Option.toList_none, List.cons_append, List.nil_append, true_and, and_true, if_true, if_false, true_or, or_true, Nat.reduceAdd, Int.reduceAdd, Bool.false_eq_true, tn_0, tn_1, tn_2, tn_3, tn_4, tn_5, tn_6, tn_7, PM_8, ad3]
             refine ⟨fun c21 => ?_, fun c21 => ?_⟩
             · first
                 | exact absurd c21 (by decide)
                 | (refine J_blk a_X6_isFive_32 ?_
                    simp only [b_X6_isFive_32, w_iconst_0, w_nil, kd_46, kd_47, kd_48, kd_49, kd_50, kd_51, kd_52, kd_53, kd_54, kd_55, kd_56, kd_57, kd_58, kd_59, ln_47, ln_48, ln_49, ln_50, ln_51, ln_52, ln_53, ln_54, ln_55, ln_56, ln_57, ln_58, ln_59, Option.toList_some, Option.toList_none, List.cons_append, List.nil_append, true_and, and_true, if_true, if_false, true_or, or_true, Nat.reduceAdd, Int.reduceAdd, Bool.false_eq_true, tn_0, tn_1, tn_2, tn_3, tn_4, tn_5, tn_6, tn_7, PM_8, ad3]
                    refine J_blk a_X6_isFive_33 ?_
                    simp only [b_X6_isFive_33, w_iretz, kd_46, kd_47, kd_48, kd_49, kd_50, kd_51, kd_52, kd_53, kd_54, kd_55, kd_56, kd_57, kd_58, kd_59, ln_47, ln_48, ln_49, ln_50, ln_51, ln_52, ln_53, ln_54, ln_55, ln_56, ln_57, ln_58, ln_59, Option.toList_some, Option.toList_none, List.cons_append, List.nil_append, true_and, and_true, if_true, if_false, true_or, or_true, Nat.reduceAdd, Int.reduceAdd, Bool.false_eq_true, tn_0, tn_1, tn_2, tn_3, tn_4, tn_5, tn_6, tn_7, PM_8, ad3]
                    try refine ⟨(by first | exact Or.inl rfl | exact Or.inr rfl), ?_⟩
                    exact ⟨rfl, rfl⟩)
             · first
                 | exact absurd c21 (by decide)
                 | (exact absurd (by assumption) hd))

