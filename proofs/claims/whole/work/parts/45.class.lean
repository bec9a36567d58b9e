/-! the class: who plays -/
def swT (x : Int32) (d : Nat) : Int → List Nat → Nat
  | _, [] => d
  | v, t :: ts => if x = Int32.ofInt v then t else swT x d (v + 1) ts
theorem sw_T {n : Nat} {mi : MI} {P : Option Value → Mm → Prop} {lv : LVs} {st : List Value} {M : Mm} {x : Int32} {d : Nat} : ∀ (ts : List Nat) (v : Int), J n mi (swT x d v ts) lv st M P → swc n mi P lv st M x v ts d := by
  intro ts
  induction ts with
  | nil => intro v h; exact h
  | cons t ts ih =>
    intro v h
    unfold swT at h
    refine ⟨fun e => ?_, fun e => ?_⟩
    · rw [if_pos e] at h; exact h
    · rw [if_neg e] at h; exact ih _ h
def ncM (M : Mm) (b : Int32) : Mm := if M.1 44 1 < 30 then u1 (u1 M 45 (M.1 44 1).toNatClampNeg b) 44 1 (M.1 44 1 + 1) else M
def CC (M : Mm) : Prop := ∃ c, c ≤ 30 ∧ M.1 44 1 = nI c
theorem note_c (b : Int32) (M : Mm) (hc : CC M) : K 0 mX0_note [.ref 44, .int b] M (Rt none (ncM M b)) := by
  obtain ⟨c, hc, e⟩ := hc
  unfold ncM
  refine K_go 1 o_X0_note [] rfl (Nat.le_of_ble_eq_true rfl) ?_
  simp only [lvA_i, lvA_a, lvA_l, lvA_nil, List.cons_append, List.nil_append]
  refine J_blk a_X0_note_0 ?_
  simp only [b_X0_note_0, w_aload_n0, w_getf0, w_bipush, ci_30, w_icmp_ge, w_nil, kd_44, kd_45, ln_45, Option.toList_some, Option.toList_none, List.cons_append, List.nil_append, true_and, and_true, if_true, if_false, true_or, or_true, Nat.reduceAdd, Int.reduceAdd, Bool.false_eq_true, tn_0, tn_1, tn_2, tn_3, tn_4, tn_5, tn_6, tn_7, e]
  refine ⟨fun h => ?_, fun h => ?_⟩
  · rw [if_neg (Int32.not_lt.mpr h)]
    refine J_blk a_X0_note_29 ?_
    simp only [b_X0_note_29, w_vret, kd_44, kd_45, ln_45, Option.toList_some, Option.toList_none, List.cons_append, List.nil_append, true_and, and_true, if_true, if_false, true_or, or_true, Nat.reduceAdd, Int.reduceAdd, Bool.false_eq_true, tn_0, tn_1, tn_2, tn_3, tn_4, tn_5, tn_6, tn_7]
    first | exact ⟨rfl, rfl⟩ | (simp_all [Rt])
  · rw [if_pos (Int32.not_le.mp h)]
    have hc2 : c < 30 := by
      rcases Nat.lt_or_ge c 30 with g | g
      · exact g
      · exact absurd (nI_le (a := 30) g (by omega)) h
    refine J_blk a_X0_note_9 ?_
    simp only [b_X0_note_9, w_aload_n0, w_getf0, ne0_1, w_iload_n1, w_iast, w_dup_i, w_dup_a, w_iconst_1, w_iadd, w_putf0, w_nil, kd_44, kd_45, ln_45, Option.toList_some, Option.toList_none, List.cons_append, List.nil_append, true_and, and_true, if_true, if_false, true_or, or_true, Nat.reduceAdd, Int.reduceAdd, Bool.false_eq_true, tn_0, tn_1, tn_2, tn_3, tn_4, tn_5, tn_6, tn_7, e]
    refine ⟨vinN hc2 (by decide), ?_⟩
    rw [u1_o _ _ _ _ (show (44 : Nat) ≠ 45 by decide), e]
    refine J_blk a_X0_note_29 ?_
    simp only [b_X0_note_29, w_vret, kd_44, kd_45, ln_45, Option.toList_some, Option.toList_none, List.cons_append, List.nil_append, true_and, and_true, if_true, if_false, true_or, or_true, Nat.reduceAdd, Int.reduceAdd, Bool.false_eq_true, tn_0, tn_1, tn_2, tn_3, tn_4, tn_5, tn_6, tn_7]
    first | exact ⟨rfl, rfl⟩ | (simp_all [Rt])
theorem CC_nc {M : Mm} (b : Int32) (h : CC M) : CC (ncM M b) := by
  obtain ⟨c, hc, e⟩ := h
  unfold ncM
  by_cases g : M.1 44 1 < 30
  · rw [if_pos g]
    refine ⟨c + 1, ?_, ?_⟩
    · rw [e] at g
      rcases Nat.lt_or_ge c 30 with k | k
      · omega
      · exact absurd g (nI_nlt (b := 30) k (by omega))
    · simp [u1, e, nI_1]
  · rw [if_neg g]
    exact ⟨c, hc, e⟩
theorem nc_f (M : Mm) (b : Int32) {k : Nat} (h : k ≠ 1) : (ncM M b).1 44 k = M.1 44 k := by
  unfold ncM
  split
  · simp [u1, h]
  · rfl
theorem nc_o (M : Mm) (b : Int32) {c : Nat} (h : c ≠ 44) (h2 : c ≠ 45) : (ncM M b).1 c = M.1 c := by
  unfold ncM
  split
  · rw [u1_o _ _ _ _ h, u1_o _ _ _ _ h2]
  · rfl
theorem nc_2 (M : Mm) (b : Int32) : (ncM M b).2 = M.2 := by
  unfold ncM
  split <;> rfl
def ncL (M : Mm) (l : List Int32) : Mm := l.foldl ncM M
theorem ncL_o (M : Mm) (l : List Int32) {c : Nat} (h : c ≠ 44) (h2 : c ≠ 45) : (ncL M l).1 c = M.1 c := by
  induction l generalizing M with
  | nil => rfl
  | cons b l ih => exact (ih (ncM M b)).trans (nc_o M b h h2)
theorem ncL_2 (M : Mm) (l : List Int32) : (ncL M l).2 = M.2 := by
  induction l generalizing M with
  | nil => rfl
  | cons b l ih => exact (ih (ncM M b)).trans (nc_2 M b)
theorem ncL_f (M : Mm) (l : List Int32) {k : Nat} (h : k ≠ 1) : (ncL M l).1 44 k = M.1 44 k := by
  induction l generalizing M with
  | nil => rfl
  | cons b l ih => exact (ih (ncM M b)).trans (nc_f M b h)
theorem ncL_app (M : Mm) (l m : List Int32) : ncL (ncL M l) m = ncL M (l ++ m) := by
  unfold ncL; rw [List.foldl_append]
theorem ncL_1 (M : Mm) (b : Int32) : ncM M b = ncL M [b] := rfl
theorem CC_L {M : Mm} (l : List Int32) (h : CC M) : CC (ncL M l) := by
  induction l generalizing M with
  | nil => exact h
  | cons b l ih => exact ih (CC_nc b h)
/-- who plays, not stopped -/
def PS (M : Mm) (k n a : Int32) : Prop := CC M ∧ M.1 44 2 = 0 ∧ M.1 44 3 = k ∧ M.1 44 4 = n ∧ M.1 44 5 = a
theorem PS_L {M : Mm} {k n a : Int32} (l : List Int32) (h : PS M k n a) : PS (ncL M l) k n a :=
  ⟨CC_L l h.1, by rw [ncL_f _ _ (by decide)]; exact h.2.1, by rw [ncL_f _ _ (by decide)]; exact h.2.2.1, by rw [ncL_f _ _ (by decide)]; exact h.2.2.2.1, by rw [ncL_f _ _ (by decide)]; exact h.2.2.2.2⟩
def runTs : List Nat := [248, 257, 271, 277, 437, 437, 437, 437, 437, 437, 289, 437, 437, 437, 437, 437, 437, 437, 437, 437, 301, 313, 437, 437, 437, 437, 437, 437, 437, 437, 335, 347, 437, 437, 437, 437, 437, 437, 437, 437, 369, 387, 437, 437, 437, 437, 437, 437, 437, 437, 402, 415]
theorem run_in {P : Option Value → Mm → Prop} {M : Mm} {k n a : Int32} (body x : Int32) (d t r : Nat) (h : PS M k n a) (hd : d ≤ 40) (hr : 0 < r) (ht : swT body 437 10 runTs = t) (go : J r mX0_run t [some (.ref 44), some (.int body), some (.int x), some (.int (nI d)), some (.int (nI (d + 1)))] [] (ncL M [body]) P) : K r mX0_run [.ref 44, .int body, .int x, .int (nI d)] M P := by
  have e2 := h.2.1
  refine K_go 3 o_X0_run [none] rfl (Nat.le_of_ble_eq_true rfl) ?_
  simp only [lvA_i, lvA_a, lvA_l, lvA_nil, List.cons_append, List.nil_append]
  refine J_blk a_X0_run_0 ?_
  simp only [b_X0_run_0, w_aload_n0, w_getf0, w_if_ne, w_nil, kd_44, kd_45, ln_45, Option.toList_some, Option.toList_none, List.cons_append, List.nil_append, true_and, and_true, if_true, if_false, true_or, or_true, Nat.reduceAdd, Int.reduceAdd, Bool.false_eq_true, tn_0, tn_1, tn_2, tn_3, tn_4, tn_5, tn_6, tn_7, e2]
  refine ⟨fun h => absurd trivial h, fun _ => ?_⟩
  refine J_blk a_X0_run_7 ?_
  simp only [b_X0_run_7, w_iload_n3, w_bipush, ci_40, w_icmp_le, w_nil, kd_44, kd_45, ln_45, Option.toList_some, Option.toList_none, List.cons_append, List.nil_append, true_and, and_true, if_true, if_false, true_or, or_true, Nat.reduceAdd, Int.reduceAdd, Bool.false_eq_true, tn_0, tn_1, tn_2, tn_3, tn_4, tn_5, tn_6, tn_7]
  refine ⟨fun _ => ?_, fun c => absurd (nI_le (b := 40) hd (by decide)) c⟩
  refine J_blk a_X0_run_15 ?_
  simp only [b_X0_run_15, w_aload_n0, w_iload_n1, w_nil, kd_44, kd_45, ln_45, Option.toList_some, Option.toList_none, List.cons_append, List.nil_append, true_and, and_true, if_true, if_false, true_or, or_true, Nat.reduceAdd, Int.reduceAdd, Bool.false_eq_true, tn_0, tn_1, tn_2, tn_3, tn_4, tn_5, tn_6, tn_7]
  refine J_callVr (ci := 0) (note_c body M h.1) k_X0_run_17 o_X0_note rfl rfl rfl rfl hr rfl (Nat.le_of_ble_eq_true rfl) ?_
  refine J_blk a_X0_run_20 ?_
  simp only [b_X0_run_20, w_iload_n3, w_iconst_1, w_iadd, w_istore4, nl_4n, nl_4i, nl_4a, w_iload_n1, w_tsw, ci_10, ci_11, ci_12, ci_13, ci_14, ci_15, ci_16, ci_17, ci_18, ci_19, ci_20, ci_21, ci_22, ci_23, ci_24, ci_25, ci_26, ci_27, ci_28, ci_29, ci_30, ci_31, ci_32, ci_33, ci_34, ci_35, ci_36, ci_37, ci_38, ci_39, ci_40, ci_41, ci_42, ci_43, ci_44, ci_45, ci_46, ci_47, ci_48, ci_49, ci_50, ci_51, ci_52, ci_53, ci_54, ci_55, ci_56, ci_57, ci_58, ci_59, ci_60, ci_61, kd_44, kd_45, ln_45, Option.toList_some, Option.toList_none, List.cons_append, List.nil_append, true_and, and_true, if_true, if_false, true_or, or_true, Nat.reduceAdd, Int.reduceAdd, Bool.false_eq_true, tn_0, tn_1, tn_2, tn_3, tn_4, tn_5, tn_6, tn_7, nI_1]
  refine sw_T _ _ ?_
  rw [show swT body 437 10 [248, 257, 271, 277, 437, 437, 437, 437, 437, 437, 289, 437, 437, 437, 437, 437, 437, 437, 437, 437, 301, 313, 437, 437, 437, 437, 437, 437, 437, 437, 335, 347, 437, 437, 437, 437, 437, 437, 437, 437, 369, 387, 437, 437, 437, 437, 437, 437, 437, 437, 402, 415] = t from ht]
  exact go
theorem run_stop {M : Mm} (body x dd : Int32) (h : ¬ M.1 44 2 = 0) : K 0 mX0_run [.ref 44, .int body, .int x, .int dd] M (Rt (some (.int 0)) M) := by
  refine K_go 3 o_X0_run [none] rfl (Nat.le_of_ble_eq_true rfl) ?_
  simp only [lvA_i, lvA_a, lvA_l, lvA_nil, List.cons_append, List.nil_append]
  refine J_blk a_X0_run_0 ?_
  simp only [b_X0_run_0, w_aload_n0, w_getf0, w_if_ne, w_nil, kd_44, kd_45, ln_45, Option.toList_some, Option.toList_none, List.cons_append, List.nil_append, true_and, and_true, if_true, if_false, true_or, or_true, Nat.reduceAdd, Int.reduceAdd, Bool.false_eq_true, tn_0, tn_1, tn_2, tn_3, tn_4, tn_5, tn_6, tn_7]
  refine ⟨fun _ => ?_, fun c => absurd c h⟩
  refine J_blk a_X0_run_13 ?_
  simp only [b_X0_run_13, w_iconst_0, w_ireti, kd_44, kd_45, ln_45, Option.toList_some, Option.toList_none, List.cons_append, List.nil_append, true_and, and_true, if_true, if_false, true_or, or_true, Nat.reduceAdd, Int.reduceAdd, Bool.false_eq_true, tn_0, tn_1, tn_2, tn_3, tn_4, tn_5, tn_6, tn_7]
  first | exact ⟨rfl, rfl⟩ | (simp_all [Rt])
theorem own_c {M M' : Mm} {k j r r' : Nat} {act body x dd v : Int32} (hr : r < r') (e3 : M.1 44 3 = nI k) (mk : nI k * 4 + act = nI j) (hj : j < 24) (hb : sv 63 j = body) (go : K r mX0_run [.ref 44, .int body, .int x, .int dd] M (Rt (some (.int v)) M')) : K r' mX0_playOwn [.ref 44, .int act, .int x, .int dd] M (Rt (some (.int v)) M') := by
  have tj : (nI j).toNatClampNeg = j := nI_clamp (by omega)
  refine K_go 3 o_X0_playOwn [none] rfl (Nat.le_of_ble_eq_true rfl) ?_
  simp only [lvA_i, lvA_a, lvA_l, lvA_nil, List.cons_append, List.nil_append]
  refine J_blk a_X0_playOwn_0 ?_
  simp only [b_X0_playOwn_0, w_aload_n0, w_getf0, w_iconst_4, w_imul, w_iload_n1, w_iadd, w_istore4, nl_4n, nl_4i, nl_4a, w_iload4, w_iconst_0, w_gets3, w_alenS, w_iconst_1, w_isub, w_nil, kd_44, kd_45, ln_45, Option.toList_some, Option.toList_none, List.cons_append, List.nil_append, true_and, and_true, if_true, if_false, true_or, or_true, Nat.reduceAdd, Int.reduceAdd, Bool.false_eq_true, tn_0, tn_1, tn_2, tn_3, tn_4, tn_5, tn_6, tn_7, e3, mk]
  refine ⟨3, by decide, rfl, ?_⟩
  refine J_callSr (within_c _ _ _ _) k_X0_playOwn_19 o_X5_within rfl (Nat.lt_of_le_of_lt (Nat.zero_le r) hr) rfl (Nat.le_of_ble_eq_true rfl) ?_
  rw [if_pos (show 0 ≤ nI j ∧ nI j ≤ Int32.ofNat (ln 63) - 1 from ok2 (m := 23) (by omega) (by decide))]
  refine J_blk a_X0_playOwn_22 ?_
  simp only [b_X0_playOwn_22, w_if_eq, w_nil, kd_44, kd_45, ln_45, Option.toList_some, Option.toList_none, List.cons_append, List.nil_append, true_and, and_true, if_true, if_false, true_or, or_true, Nat.reduceAdd, Int.reduceAdd, Bool.false_eq_true, tn_0, tn_1, tn_2, tn_3, tn_4, tn_5, tn_6, tn_7]
  refine ⟨fun h => absurd h (by decide), fun _ => ?_⟩
  refine J_blk a_X0_playOwn_25 ?_
  simp only [b_X0_playOwn_25, w_aload_n0, w_gets3, w_iload4, w_ialdS, w_iload_n2, w_iload_n3, w_nil, kd_44, kd_45, ln_45, Option.toList_some, Option.toList_none, List.cons_append, List.nil_append, true_and, and_true, if_true, if_false, true_or, or_true, Nat.reduceAdd, Int.reduceAdd, Bool.false_eq_true, tn_0, tn_1, tn_2, tn_3, tn_4, tn_5, tn_6, tn_7, tj]
  refine ⟨3, by decide, rfl, vinN (show j < ln 63 from hj) (by decide), ?_⟩
  rw [hb]
  refine J_callVr (ci := 0) go k_X0_playOwn_34 o_X0_run rfl rfl rfl rfl hr rfl (Nat.le_of_ble_eq_true rfl) ?_
  refine J_blk a_X0_playOwn_37 ?_
  simp only [b_X0_playOwn_37, w_goto, kd_44, kd_45, ln_45, Option.toList_some, Option.toList_none, List.cons_append, List.nil_append, true_and, and_true, if_true, if_false, true_or, or_true, Nat.reduceAdd, Int.reduceAdd, Bool.false_eq_true, tn_0, tn_1, tn_2, tn_3, tn_4, tn_5, tn_6, tn_7]
  refine J_blk a_X0_playOwn_41 ?_
  simp only [b_X0_playOwn_41, w_ireti, kd_44, kd_45, ln_45, Option.toList_some, Option.toList_none, List.cons_append, List.nil_append, true_and, and_true, if_true, if_false, true_or, or_true, Nat.reduceAdd, Int.reduceAdd, Bool.false_eq_true, tn_0, tn_1, tn_2, tn_3, tn_4, tn_5, tn_6, tn_7]
  first | exact ⟨rfl, rfl⟩ | (simp_all [Rt])
section PL
variable {M : Mm} {k : Nat} {n a : Int32}
theorem run_10 (h : PS M (nI k) n a) (x : Int32) (d : Nat) (hd : d ≤ 40) : K 1 mX0_run [.ref 44, .int 10, .int x, .int (nI d)] M (Rt (some (.int (x * 3 + n))) (ncL M [10])) := by
  have f4 := (PS_L [10] h).2.2.2.1
  refine run_in 10 x d 248 1 h hd (by decide) (by decide +kernel) ?_
  refine J_blk a_X0_run_248 ?_
  simp only [b_X0_run_248, w_iload_n2, w_iconst_3, w_imul, w_aload_n0, w_getf0, w_iadd, w_ireti, kd_44, kd_45, ln_45, Option.toList_some, Option.toList_none, List.cons_append, List.nil_append, true_and, and_true, if_true, if_false, true_or, or_true, Nat.reduceAdd, Int.reduceAdd, Bool.false_eq_true, tn_0, tn_1, tn_2, tn_3, tn_4, tn_5, tn_6, tn_7, f4]
  exact ⟨rfl, rfl⟩
theorem run_30 (h : PS M (nI k) n a) (x : Int32) (d : Nat) (hd : d ≤ 39) : K 2 mX0_run [.ref 44, .int 30, .int x, .int (nI d)] M (Rt (some (.int (x * 3 + n - 1))) (ncL M [30, 10])) := by
  refine run_in 30 x d 301 2 h (by omega) (by decide) (by decide +kernel) ?_
  refine J_blk a_X0_run_301 ?_
  simp only [b_X0_run_301, w_aload_n0, w_bipush, ci_10, w_iload_n2, w_iload4, w_nil, kd_44, kd_45, ln_45, Option.toList_some, Option.toList_none, List.cons_append, List.nil_append, true_and, and_true, if_true, if_false, true_or, or_true, Nat.reduceAdd, Int.reduceAdd, Bool.false_eq_true, tn_0, tn_1, tn_2, tn_3, tn_4, tn_5, tn_6, tn_7]
  refine J_callVr (ci := 0) (run_10 (PS_L [30] h) x (d + 1) (by omega)) k_X0_run_307 o_X0_run (rfl) rfl rfl rfl (by decide) rfl (Nat.le_of_ble_eq_true rfl) ?_
  refine J_blk a_X0_run_310 ?_
  simp only [b_X0_run_310, w_iconst_1, w_isub, w_ireti, kd_44, kd_45, ln_45, Option.toList_some, Option.toList_none, List.cons_append, List.nil_append, true_and, and_true, if_true, if_false, true_or, or_true, Nat.reduceAdd, Int.reduceAdd, Bool.false_eq_true, tn_0, tn_1, tn_2, tn_3, tn_4, tn_5, tn_6, tn_7]
  exact ⟨rfl, ncL_app _ _ _⟩
theorem run_40 (h : PS M (nI k) n a) (x : Int32) (d : Nat) (hd : d ≤ 38) : K 3 mX0_run [.ref 44, .int 40, .int x, .int (nI d)] M (Rt (some (.int (0 - (x * 3 + n - 1)))) (ncL M [40, 30, 10])) := by
  refine run_in 40 x d 335 3 h (by omega) (by decide) (by decide +kernel) ?_
  refine J_blk a_X0_run_335 ?_
  simp only [b_X0_run_335, w_iconst_0, w_aload_n0, w_bipush, ci_30, w_iload_n2, w_iload4, w_nil, kd_44, kd_45, ln_45, Option.toList_some, Option.toList_none, List.cons_append, List.nil_append, true_and, and_true, if_true, if_false, true_or, or_true, Nat.reduceAdd, Int.reduceAdd, Bool.false_eq_true, tn_0, tn_1, tn_2, tn_3, tn_4, tn_5, tn_6, tn_7]
  refine J_callVr (ci := 0) (run_30 (PS_L [40] h) x (d + 1) (by omega)) k_X0_run_342 o_X0_run (rfl) rfl rfl rfl (by decide) rfl (Nat.le_of_ble_eq_true rfl) ?_
  refine J_blk a_X0_run_345 ?_
  simp only [b_X0_run_345, w_isub, w_ireti, kd_44, kd_45, ln_45, Option.toList_some, Option.toList_none, List.cons_append, List.nil_append, true_and, and_true, if_true, if_false, true_or, or_true, Nat.reduceAdd, Int.reduceAdd, Bool.false_eq_true, tn_0, tn_1, tn_2, tn_3, tn_4, tn_5, tn_6, tn_7]
  exact ⟨rfl, ncL_app _ _ _⟩
theorem run_51 (h : PS M (nI k) n a) (x : Int32) (d : Nat) (hd : d ≤ 39) : K 2 mX0_run [.ref 44, .int 51, .int x, .int (nI d)] M (Rt (some (.int (x * 3 + n + n))) (ncL M [51, 10])) := by
  have f4 : (ncL (ncL M [51]) [10]).1 44 4 = n := (PS_L [10] (PS_L [51] h)).2.2.2.1
  refine run_in 51 x d 387 2 h (by omega) (by decide) (by decide +kernel) ?_
  refine J_blk a_X0_run_387 ?_
  simp only [b_X0_run_387, w_aload_n0, w_bipush, ci_10, w_iload_n2, w_iload4, w_nil, kd_44, kd_45, ln_45, Option.toList_some, Option.toList_none, List.cons_append, List.nil_append, true_and, and_true, if_true, if_false, true_or, or_true, Nat.reduceAdd, Int.reduceAdd, Bool.false_eq_true, tn_0, tn_1, tn_2, tn_3, tn_4, tn_5, tn_6, tn_7]
  refine J_callVr (ci := 0) (run_10 (PS_L [51] h) x (d + 1) (by omega)) k_X0_run_393 o_X0_run (rfl) rfl rfl rfl (by decide) rfl (Nat.le_of_ble_eq_true rfl) ?_
  refine J_blk a_X0_run_396 ?_
  simp only [b_X0_run_396, w_aload_n0, w_getf0, w_iadd, w_ireti, kd_44, kd_45, ln_45, Option.toList_some, Option.toList_none, List.cons_append, List.nil_append, true_and, and_true, if_true, if_false, true_or, or_true, Nat.reduceAdd, Int.reduceAdd, Bool.false_eq_true, tn_0, tn_1, tn_2, tn_3, tn_4, tn_5, tn_6, tn_7, f4]
  exact ⟨rfl, ncL_app _ _ _⟩
theorem K_eq {r : Nat} {mi : MI} {av : List Value} {M M1 M2 : Mm} {v w : Int32} (h : K r mi av M (Rt (some (.int v)) M1)) (e : v = w) (e2 : M1 = M2) : K r mi av M (Rt (some (.int w)) M2) := by
  subst e; subst e2; exact h
theorem cases6 {Q : Nat → Prop} (h0 : Q 0) (h1 : Q 1) (h2 : Q 2) (h3 : Q 3) (h4 : Q 4) (h5 : Q 5) : ∀ k, k ≤ 5 → Q k := by
  intro k hk
  match k, hk with
  | 0, _ => exact h0
  | 1, _ => exact h1
  | 2, _ => exact h2
  | 3, _ => exact h3
  | 4, _ => exact h4
  | 5, _ => exact h5
theorem buds_c (r' : Nat) (hr : 4 ≤ r') (hk : k ≤ 5) (h : PS M (nI k) n a) (x : Int32) (d : Nat) (hd : d ≤ 38) : K r' mX0_playOwn [.ref 44, .int 0, .int x, .int (nI d)] M (Rt (some (.int (buV (nI k) n x))) (ncL M (buL (nI k)))) := by
  revert h
  refine cases6 (Q := fun k => PS M (nI k) n a → K r' mX0_playOwn [.ref 44, .int 0, .int x, .int (nI d)] M (Rt (some (.int (buV (nI k) n x))) (ncL M (buL (nI k))))) ?_ ?_ ?_ ?_ ?_ ?_ k hk
  · intro h
    exact K_eq (own_c (k := 0) (j := 0) (r := 1) (r' := r') (by omega) h.2.2.1 (by decide +kernel) (by decide) (by decide +kernel) (run_10 h x d (by omega))) (by unfold buV; rw [if_neg (by decide), if_neg (by decide), if_neg (by decide)]) (congrArg (ncL M) (by decide +kernel))
  · intro h
    exact K_eq (own_c (k := 1) (j := 4) (r := 1) (r' := r') (by omega) h.2.2.1 (by decide +kernel) (by decide) (by decide +kernel) (run_10 h x d (by omega))) (by unfold buV; rw [if_neg (by decide), if_neg (by decide), if_neg (by decide)]) (congrArg (ncL M) (by decide +kernel))
  · intro h
    exact K_eq (own_c (k := 2) (j := 8) (r := 2) (r' := r') (by omega) h.2.2.1 (by decide +kernel) (by decide) (by decide +kernel) (run_30 h x d (by omega))) (by unfold buV; rw [if_pos (by decide)]) (congrArg (ncL M) (by decide +kernel))
  · intro h
    exact K_eq (own_c (k := 3) (j := 12) (r := 2) (r' := r') (by omega) h.2.2.1 (by decide +kernel) (by decide) (by decide +kernel) (run_51 h x d (by omega))) (by unfold buV; rw [if_neg (by decide), if_neg (by decide), if_pos (by decide)]) (congrArg (ncL M) (by decide +kernel))
  · intro h
    exact K_eq (own_c (k := 4) (j := 16) (r := 3) (r' := r') (by omega) h.2.2.1 (by decide +kernel) (by decide) (by decide +kernel) (run_40 h x d (by omega))) (by unfold buV; rw [if_neg (by decide), if_pos (by decide)]) (congrArg (ncL M) (by decide +kernel))
  · intro h
    exact K_eq (own_c (k := 5) (j := 20) (r := 1) (r' := r') (by omega) h.2.2.1 (by decide +kernel) (by decide) (by decide +kernel) (run_10 h x d (by omega))) (by unfold buV; rw [if_neg (by decide), if_neg (by decide), if_neg (by decide)]) (congrArg (ncL M) (by decide +kernel))
theorem run_11 (hk : k ≤ 5) (h : PS M (nI k) n a) (x : Int32) (d : Nat) (hd : d ≤ 37) : K 5 mX0_run [.ref 44, .int 11, .int x, .int (nI d)] M (Rt (some (.int (buV (nI k) n x - a))) (ncL M (11 :: buL (nI k)))) := by
  have f5 : (ncL (ncL M [11]) (buL (nI k))).1 44 5 = a := (PS_L _ (PS_L [11] h)).2.2.2.2
  refine run_in 11 x d 257 5 h (by omega) (by decide) (by decide +kernel) ?_
  refine J_blk a_X0_run_257 ?_
  simp only [b_X0_run_257, w_aload_n0, w_iconst_0, w_iload_n2, w_iload4, w_nil, kd_44, kd_45, ln_45, Option.toList_some, Option.toList_none, List.cons_append, List.nil_append, true_and, and_true, if_true, if_false, true_or, or_true, Nat.reduceAdd, Int.reduceAdd, Bool.false_eq_true, tn_0, tn_1, tn_2, tn_3, tn_4, tn_5, tn_6, tn_7]
  refine J_callVr (ci := 0) (buds_c 4 (by decide) hk (PS_L [11] h) x (d + 1) (by omega)) k_X0_run_262 o_X0_playOwn (rfl) rfl rfl rfl (by decide) rfl (Nat.le_of_ble_eq_true rfl) ?_
  refine J_blk a_X0_run_265 ?_
  simp only [b_X0_run_265, w_aload_n0, w_getf0, w_isub, w_ireti, kd_44, kd_45, ln_45, Option.toList_some, Option.toList_none, List.cons_append, List.nil_append, true_and, and_true, if_true, if_false, true_or, or_true, Nat.reduceAdd, Int.reduceAdd, Bool.false_eq_true, tn_0, tn_1, tn_2, tn_3, tn_4, tn_5, tn_6, tn_7, f5]
  exact ⟨rfl, ncL_app _ _ _⟩
theorem run_20 (hk : k ≤ 5) (h : PS M (nI k) n a) (x : Int32) (d : Nat) (hd : d ≤ 36) : K 6 mX0_run [.ref 44, .int 20, .int x, .int (nI d)] M (Rt (some (.int ((buV (nI k) n x - a) * 2))) (ncL M (20 :: 11 :: buL (nI k)))) := by
  refine run_in 20 x d 289 6 h (by omega) (by decide) (by decide +kernel) ?_
  refine J_blk a_X0_run_289 ?_
  simp only [b_X0_run_289, w_aload_n0, w_bipush, ci_11, w_iload_n2, w_iload4, w_nil, kd_44, kd_45, ln_45, Option.toList_some, Option.toList_none, List.cons_append, List.nil_append, true_and, and_true, if_true, if_false, true_or, or_true, Nat.reduceAdd, Int.reduceAdd, Bool.false_eq_true, tn_0, tn_1, tn_2, tn_3, tn_4, tn_5, tn_6, tn_7]
  refine J_callVr (ci := 0) (run_11 hk (PS_L [20] h) x (d + 1) (by omega)) k_X0_run_295 o_X0_run (rfl) rfl rfl rfl (by decide) rfl (Nat.le_of_ble_eq_true rfl) ?_
  refine J_blk a_X0_run_298 ?_
  simp only [b_X0_run_298, w_iconst_2, w_imul, w_ireti, kd_44, kd_45, ln_45, Option.toList_some, Option.toList_none, List.cons_append, List.nil_append, true_and, and_true, if_true, if_false, true_or, or_true, Nat.reduceAdd, Int.reduceAdd, Bool.false_eq_true, tn_0, tn_1, tn_2, tn_3, tn_4, tn_5, tn_6, tn_7]
  exact ⟨rfl, ncL_app _ _ _⟩
theorem run_41 (hk : k ≤ 5) (h : PS M (nI k) n a) (x : Int32) (d : Nat) (hd : d ≤ 36) : K 6 mX0_run [.ref 44, .int 41, .int x, .int (nI d)] M (Rt (some (.int ((buV (nI k) n x - a) ^^^ buV (nI k) n a))) (ncL M (41 :: 11 :: (buL (nI k) ++ buL (nI k))))) := by
  have p2 : PS (ncL (ncL M [41]) (11 :: buL (nI k))) (nI k) n a := PS_L _ (PS_L [41] h)
  have f5 : (ncL (ncL M [41]) (11 :: buL (nI k))).1 44 5 = a := p2.2.2.2.2
  refine run_in 41 x d 347 6 h (by omega) (by decide) (by decide +kernel) ?_
  refine J_blk a_X0_run_347 ?_
  simp only [b_X0_run_347, w_aload_n0, w_bipush, ci_11, w_iload_n2, w_iload4, w_nil, kd_44, kd_45, ln_45, Option.toList_some, Option.toList_none, List.cons_append, List.nil_append, true_and, and_true, if_true, if_false, true_or, or_true, Nat.reduceAdd, Int.reduceAdd, Bool.false_eq_true, tn_0, tn_1, tn_2, tn_3, tn_4, tn_5, tn_6, tn_7]
  refine J_callVr (ci := 0) (run_11 hk (PS_L [41] h) x (d + 1) (by omega)) k_X0_run_353 o_X0_run (rfl) rfl rfl rfl (by decide) rfl (Nat.le_of_ble_eq_true rfl) ?_
  refine J_blk a_X0_run_356 ?_
  simp only [b_X0_run_356, w_aload_n0, w_iconst_0, w_getf0, w_iload4, w_nil, kd_44, kd_45, ln_45, Option.toList_some, Option.toList_none, List.cons_append, List.nil_append, true_and, and_true, if_true, if_false, true_or, or_true, Nat.reduceAdd, Int.reduceAdd, Bool.false_eq_true, tn_0, tn_1, tn_2, tn_3, tn_4, tn_5, tn_6, tn_7, f5]
  refine J_callVr (ci := 0) (buds_c 4 (by decide) hk p2 a (d + 1) (by omega)) k_X0_run_364 o_X0_playOwn (rfl) rfl rfl rfl (by decide) rfl (Nat.le_of_ble_eq_true rfl) ?_
  refine J_blk a_X0_run_367 ?_
  simp only [b_X0_run_367, w_ixor, w_ireti, kd_44, kd_45, ln_45, Option.toList_some, Option.toList_none, List.cons_append, List.nil_append, true_and, and_true, if_true, if_false, true_or, or_true, Nat.reduceAdd, Int.reduceAdd, Bool.false_eq_true, tn_0, tn_1, tn_2, tn_3, tn_4, tn_5, tn_6, tn_7]
  refine ⟨rfl, ?_⟩
  rw [ncL_app, ncL_app]
  rfl
theorem leans_c (r' : Nat) (hr : 7 ≤ r') (hk : k ≤ 5) (h : PS M (nI k) n a) (x : Int32) (d : Nat) (hd : d ≤ 36) : K r' mX0_playOwn [.ref 44, .int 1, .int x, .int (nI d)] M (Rt (some (.int (leV (nI k) n a x))) (ncL M (leL (nI k)))) := by
  revert h
  refine cases6 (Q := fun k => PS M (nI k) n a → K r' mX0_playOwn [.ref 44, .int 1, .int x, .int (nI d)] M (Rt (some (.int (leV (nI k) n a x))) (ncL M (leL (nI k))))) ?_ ?_ ?_ ?_ ?_ ?_ k hk
  · intro h
    exact K_eq (own_c (k := 0) (j := 1) (r := 5) (r' := r') (by omega) h.2.2.1 (by decide +kernel) (by decide) (by decide +kernel) (run_11 (by decide) h x d (by omega))) (by unfold leV; rw [if_neg (by decide), if_neg (by decide)]) (congrArg (ncL M) (by decide +kernel))
  · intro h
    exact K_eq (own_c (k := 1) (j := 5) (r := 6) (r' := r') (by omega) h.2.2.1 (by decide +kernel) (by decide) (by decide +kernel) (run_20 (by decide) h x d (by omega))) (by unfold leV; rw [if_pos (by decide)]) (congrArg (ncL M) (by decide +kernel))
  · intro h
    exact K_eq (own_c (k := 2) (j := 9) (r := 5) (r' := r') (by omega) h.2.2.1 (by decide +kernel) (by decide) (by decide +kernel) (run_11 (by decide) h x d (by omega))) (by unfold leV; rw [if_neg (by decide), if_neg (by decide)]) (congrArg (ncL M) (by decide +kernel))
  · intro h
    exact K_eq (own_c (k := 3) (j := 13) (r := 6) (r' := r') (by omega) h.2.2.1 (by decide +kernel) (by decide) (by decide +kernel) (run_20 (by decide) h x d (by omega))) (by unfold leV; rw [if_pos (by decide)]) (congrArg (ncL M) (by decide +kernel))
  · intro h
    exact K_eq (own_c (k := 4) (j := 17) (r := 6) (r' := r') (by omega) h.2.2.1 (by decide +kernel) (by decide) (by decide +kernel) (run_41 (by decide) h x d (by omega))) (by unfold leV; rw [if_neg (by decide), if_pos (by decide)]) (congrArg (ncL M) (by decide +kernel))
  · intro h
    exact K_eq (own_c (k := 5) (j := 21) (r := 5) (r' := r') (by omega) h.2.2.1 (by decide +kernel) (by decide) (by decide +kernel) (run_11 (by decide) h x d (by omega))) (by unfold leV; rw [if_neg (by decide), if_neg (by decide)]) (congrArg (ncL M) (by decide +kernel))
theorem run_13 (hk : k ≤ 5) (h : PS M (nI k) n a) (x : Int32) (d : Nat) (hd : d ≤ 35) : K 8 mX0_run [.ref 44, .int 13, .int x, .int (nI d)] M (Rt (some (.int (leV (nI k) n a x ^^^ 17))) (ncL M (13 :: leL (nI k)))) := by
  refine run_in 13 x d 277 8 h (by omega) (by decide) (by decide +kernel) ?_
  refine J_blk a_X0_run_277 ?_
  simp only [b_X0_run_277, w_aload_n0, w_iconst_1, w_iload_n2, w_iload4, w_nil, kd_44, kd_45, ln_45, Option.toList_some, Option.toList_none, List.cons_append, List.nil_append, true_and, and_true, if_true, if_false, true_or, or_true, Nat.reduceAdd, Int.reduceAdd, Bool.false_eq_true, tn_0, tn_1, tn_2, tn_3, tn_4, tn_5, tn_6, tn_7]
  refine J_callVr (ci := 0) (leans_c 7 (by decide) hk (PS_L [13] h) x (d + 1) (by omega)) k_X0_run_282 o_X0_playOwn (rfl) rfl rfl rfl (by decide) rfl (Nat.le_of_ble_eq_true rfl) ?_
  refine J_blk a_X0_run_285 ?_
  simp only [b_X0_run_285, w_bipush, ci_17, w_ixor, w_ireti, kd_44, kd_45, ln_45, Option.toList_some, Option.toList_none, List.cons_append, List.nil_append, true_and, and_true, if_true, if_false, true_or, or_true, Nat.reduceAdd, Int.reduceAdd, Bool.false_eq_true, tn_0, tn_1, tn_2, tn_3, tn_4, tn_5, tn_6, tn_7]
  exact ⟨rfl, ncL_app _ _ _⟩
def spM (M : Mm) (b : Bool) : Mm := if b = true then u1 M 44 2 1 else M
theorem part_c (h : PS M (nI k) n a) (x : Int32) : K 0 mX0_part [.ref 44, .int x] M (Rt (some (.int (ppV n a x))) (spM M (decide (n = a)))) := by
  obtain ⟨-, -, -, f4, f5⟩ := h
  refine K_go 1 o_X0_part [] rfl (Nat.le_of_ble_eq_true rfl) ?_
  simp only [lvA_i, lvA_a, lvA_l, lvA_nil, List.cons_append, List.nil_append]
  refine J_blk a_X0_part_0 ?_
  simp only [b_X0_part_0, w_aload_n0, w_getf0, w_icmp_ne, w_nil, kd_44, kd_45, ln_45, Option.toList_some, Option.toList_none, List.cons_append, List.nil_append, true_and, and_true, if_true, if_false, true_or, or_true, Nat.reduceAdd, Int.reduceAdd, Bool.false_eq_true, tn_0, tn_1, tn_2, tn_3, tn_4, tn_5, tn_6, tn_7, f4, f5]
  unfold ppV spM
  refine ⟨fun c => ?_, fun c => ?_⟩
  · have c' : ¬ n = a := fun e => c e.symm
    rw [if_neg c', if_neg (by simp [c'])]
    refine J_blk a_X0_part_18 ?_
    simp only [b_X0_part_18, w_iload_n1, w_aload_n0, w_getf0, w_isub, w_idiv, w_ireti, kd_44, kd_45, ln_45, Option.toList_some, Option.toList_none, List.cons_append, List.nil_append, true_and, and_true, if_true, if_false, true_or, or_true, Nat.reduceAdd, Int.reduceAdd, Bool.false_eq_true, tn_0, tn_1, tn_2, tn_3, tn_4, tn_5, tn_6, tn_7, f4, f5]
    exact ⟨fun e => c (sub0 e), rfl, rfl⟩
  · have c' : n = a := (show a = n from c).symm
    rw [if_pos c', if_pos (by simp [c'])]
    refine J_blk a_X0_part_11 ?_
    simp only [b_X0_part_11, w_aload_n0, w_iconst_1, w_putb0, w_iconst_0, w_ireti, kd_44, kd_45, ln_45, Option.toList_some, Option.toList_none, List.cons_append, List.nil_append, true_and, and_true, if_true, if_false, true_or, or_true, Nat.reduceAdd, Int.reduceAdd, Bool.false_eq_true, tn_0, tn_1, tn_2, tn_3, tn_4, tn_5, tn_6, tn_7]
    exact ⟨rfl, rfl⟩
theorem run_12 (h : PS M (nI k) n a) (x : Int32) (d : Nat) (hd : d ≤ 40) : K 1 mX0_run [.ref 44, .int 12, .int x, .int (nI d)] M (Rt (some (.int (ppV n a x))) (spM (ncL M [12]) (decide (n = a)))) := by
  refine run_in 12 x d 271 1 h hd (by decide) (by decide +kernel) ?_
  refine J_blk a_X0_run_271 ?_
  simp only [b_X0_run_271, w_aload_n0, w_iload_n2, w_nil, kd_44, kd_45, ln_45, Option.toList_some, Option.toList_none, List.cons_append, List.nil_append, true_and, and_true, if_true, if_false, true_or, or_true, Nat.reduceAdd, Int.reduceAdd, Bool.false_eq_true, tn_0, tn_1, tn_2, tn_3, tn_4, tn_5, tn_6, tn_7]
  refine J_callVr (ci := 0) (part_c (PS_L [12] h) x) k_X0_run_273 o_X0_part (rfl) rfl rfl rfl (by decide) rfl (Nat.le_of_ble_eq_true rfl) ?_
  refine J_blk a_X0_run_276 ?_
  simp only [b_X0_run_276, w_ireti, kd_44, kd_45, ln_45, Option.toList_some, Option.toList_none, List.cons_append, List.nil_append, true_and, and_true, if_true, if_false, true_or, or_true, Nat.reduceAdd, Int.reduceAdd, Bool.false_eq_true, tn_0, tn_1, tn_2, tn_3, tn_4, tn_5, tn_6, tn_7]
  first | exact ⟨rfl, rfl⟩ | (simp_all [Rt])
theorem run_50 (h : PS M (nI k) n a) (x : Int32) (d : Nat) (hd : d ≤ 39) : K 2 mX0_run [.ref 44, .int 50, .int x, .int (nI d)] M (Rt (some (.int (ppV n a (x - a) + 9))) (spM (ncL M [50, 12]) (decide (n = a)))) := by
  have f5 := (PS_L [50] h).2.2.2.2
  refine run_in 50 x d 369 2 h (by omega) (by decide) (by decide +kernel) ?_
  refine J_blk a_X0_run_369 ?_
  simp only [b_X0_run_369, w_aload_n0, w_bipush, ci_12, w_iload_n2, w_getf0, w_isub, w_iload4, w_nil, kd_44, kd_45, ln_45, Option.toList_some, Option.toList_none, List.cons_append, List.nil_append, true_and, and_true, if_true, if_false, true_or, or_true, Nat.reduceAdd, Int.reduceAdd, Bool.false_eq_true, tn_0, tn_1, tn_2, tn_3, tn_4, tn_5, tn_6, tn_7, f5]
  refine J_callVr (ci := 0) (run_12 (PS_L [50] h) (x - a) (d + 1) (by omega)) k_X0_run_380 o_X0_run (rfl) rfl rfl rfl (by decide) rfl (Nat.le_of_ble_eq_true rfl) ?_
  refine J_blk a_X0_run_383 ?_
  simp only [b_X0_run_383, w_bipush, ci_9, w_iadd, w_ireti, kd_44, kd_45, ln_45, Option.toList_some, Option.toList_none, List.cons_append, List.nil_append, true_and, and_true, if_true, if_false, true_or, or_true, Nat.reduceAdd, Int.reduceAdd, Bool.false_eq_true, tn_0, tn_1, tn_2, tn_3, tn_4, tn_5, tn_6, tn_7]
  exact ⟨rfl, by rw [ncL_app]; rfl⟩
theorem run_61 (hk : k ≤ 5) (h : PS M (nI k) n a) (x : Int32) (d : Nat) (hd : d ≤ 37) : K 6 mX0_run [.ref 44, .int 61, .int x, .int (nI d)] M (Rt (some (.int (if n = a then 0 else ppV n a x - buV (nI k) n n))) (spM (ncL M (61 :: 12 :: (if n = a then [] else buL (nI k)))) (decide (n = a)))) := by
  refine run_in 61 x d 415 6 h (by omega) (by decide) (by decide +kernel) ?_
  refine J_blk a_X0_run_415 ?_
  simp only [b_X0_run_415, w_aload_n0, w_bipush, ci_12, w_iload_n2, w_iload4, w_nil, kd_44, kd_45, ln_45, Option.toList_some, Option.toList_none, List.cons_append, List.nil_append, true_and, and_true, if_true, if_false, true_or, or_true, Nat.reduceAdd, Int.reduceAdd, Bool.false_eq_true, tn_0, tn_1, tn_2, tn_3, tn_4, tn_5, tn_6, tn_7]
  refine J_callVr (ci := 0) (run_12 (PS_L [61] h) x (d + 1) (by omega)) k_X0_run_421 o_X0_run (rfl) rfl rfl rfl (by decide) rfl (Nat.le_of_ble_eq_true rfl) ?_
  have p2 : PS (ncL (ncL M [61]) [12]) (nI k) n a := PS_L _ (PS_L [61] h)
  by_cases c : n = a
  · have f4 : (u1 (ncL (ncL M [61]) [12]) 44 2 1).1 44 4 = n := by rw [u1_x (Or.inr (by decide))]; exact p2.2.2.2.1
    have f3 : (u1 (ncL (ncL M [61]) [12]) 44 2 1).1 44 3 = nI k := by rw [u1_x (Or.inr (by decide))]; exact p2.2.2.1
    have f2 : ¬ (u1 (ncL (ncL M [61]) [12]) 44 2 1).1 44 2 = 0 := by simp [u1]
    have e1 : spM (ncL (ncL M [61]) [12]) (decide (n = a)) = u1 (ncL (ncL M [61]) [12]) 44 2 1 := by unfold spM; rw [if_pos (by simp [c])]
    have e2 : spM (ncL M (61 :: 12 :: (if n = a then [] else buL (nI k)))) (decide (n = a)) = u1 (ncL (ncL M [61]) [12]) 44 2 1 := by unfold spM; rw [if_pos (by simp [c]), if_pos c, ncL_app]; rfl
    have e3 : ppV n a x = 0 := by unfold ppV; rw [if_pos c]
    rw [e1, e2, e3, if_pos c]
    refine J_blk a_X0_run_424 ?_
    simp only [b_X0_run_424, w_aload_n0, w_iconst_0, w_getf0, w_iload4, w_nil, kd_44, kd_45, ln_45, Option.toList_some, Option.toList_none, List.cons_append, List.nil_append, true_and, and_true, if_true, if_false, true_or, or_true, Nat.reduceAdd, Int.reduceAdd, Bool.false_eq_true, tn_0, tn_1, tn_2, tn_3, tn_4, tn_5, tn_6, tn_7, f4]
    refine J_callVr (ci := 0) (own_c (k := k) (j := 4 * k) (r := 0) (r' := 1) (by decide) f3 ((by decide : ∀ k, k ≤ 5 → nI k * 4 + 0 = nI (4 * k)) k hk) (by omega) rfl (run_stop _ _ _ f2)) k_X0_run_432 o_X0_playOwn (rfl) rfl rfl rfl (by decide) rfl (Nat.le_of_ble_eq_true rfl) ?_
    refine J_blk a_X0_run_435 ?_
    simp only [b_X0_run_435, w_isub, w_ireti, kd_44, kd_45, ln_45, Option.toList_some, Option.toList_none, List.cons_append, List.nil_append, true_and, and_true, if_true, if_false, true_or, or_true, Nat.reduceAdd, Int.reduceAdd, Bool.false_eq_true, tn_0, tn_1, tn_2, tn_3, tn_4, tn_5, tn_6, tn_7]
    exact ⟨rfl, rfl⟩
  · have f4 : (ncL (ncL M [61]) [12]).1 44 4 = n := p2.2.2.2.1
    have e1 : spM (ncL (ncL M [61]) [12]) (decide (n = a)) = ncL (ncL M [61]) [12] := by unfold spM; rw [if_neg (by simp [c])]
    have e2 : spM (ncL M (61 :: 12 :: (if n = a then [] else buL (nI k)))) (decide (n = a)) = ncL (ncL (ncL M [61]) [12]) (buL (nI k)) := by unfold spM; rw [if_neg (by simp [c]), if_neg c, ncL_app, ncL_app]; rfl
    rw [e1, e2, if_neg c]
    refine J_blk a_X0_run_424 ?_
    simp only [b_X0_run_424, w_aload_n0, w_iconst_0, w_getf0, w_iload4, w_nil, kd_44, kd_45, ln_45, Option.toList_some, Option.toList_none, List.cons_append, List.nil_append, true_and, and_true, if_true, if_false, true_or, or_true, Nat.reduceAdd, Int.reduceAdd, Bool.false_eq_true, tn_0, tn_1, tn_2, tn_3, tn_4, tn_5, tn_6, tn_7, f4]
    refine J_callVr (ci := 0) (buds_c 4 (by decide) hk p2 n (d + 1) (by omega)) k_X0_run_432 o_X0_playOwn (rfl) rfl rfl rfl (by decide) rfl (Nat.le_of_ble_eq_true rfl) ?_
    refine J_blk a_X0_run_435 ?_
    simp only [b_X0_run_435, w_isub, w_ireti, kd_44, kd_45, ln_45, Option.toList_some, Option.toList_none, List.cons_append, List.nil_append, true_and, and_true, if_true, if_false, true_or, or_true, Nat.reduceAdd, Int.reduceAdd, Bool.false_eq_true, tn_0, tn_1, tn_2, tn_3, tn_4, tn_5, tn_6, tn_7]
    exact ⟨rfl, rfl⟩
theorem parts_c (r' : Nat) (hr : 7 ≤ r') (hk : k ≤ 5) (h : PS M (nI k) n a) (x : Int32) (d : Nat) (hd : d ≤ 37) : K r' mX0_playOwn [.ref 44, .int 2, .int x, .int (nI d)] M (Rt (some (.int (paV (nI k) n a x))) (spM (ncL M (paL (nI k) n a)) (decide (n = a)))) := by
  revert h
  refine cases6 (Q := fun k => PS M (nI k) n a → K r' mX0_playOwn [.ref 44, .int 2, .int x, .int (nI d)] M (Rt (some (.int (paV (nI k) n a x))) (spM (ncL M (paL (nI k) n a)) (decide (n = a))))) ?_ ?_ ?_ ?_ ?_ ?_ k hk
  · intro h
    exact K_eq (own_c (k := 0) (j := 2) (r := 1) (r' := r') (by omega) h.2.2.1 (by decide +kernel) (by decide) (by decide +kernel) (run_12 h x d (by omega))) (by unfold paV; rw [if_neg (by decide), if_neg (by decide)]) (congrArg (fun l => spM (ncL M l) (decide (n = a))) (by unfold paL; rw [if_neg (by decide), if_neg (by decide)]))
  · intro h
    exact K_eq (own_c (k := 1) (j := 6) (r := 1) (r' := r') (by omega) h.2.2.1 (by decide +kernel) (by decide) (by decide +kernel) (run_12 h x d (by omega))) (by unfold paV; rw [if_neg (by decide), if_neg (by decide)]) (congrArg (fun l => spM (ncL M l) (decide (n = a))) (by unfold paL; rw [if_neg (by decide), if_neg (by decide)]))
  · intro h
    exact K_eq (own_c (k := 2) (j := 10) (r := 1) (r' := r') (by omega) h.2.2.1 (by decide +kernel) (by decide) (by decide +kernel) (run_12 h x d (by omega))) (by unfold paV; rw [if_neg (by decide), if_neg (by decide)]) (congrArg (fun l => spM (ncL M l) (decide (n = a))) (by unfold paL; rw [if_neg (by decide), if_neg (by decide)]))
  · intro h
    exact K_eq (own_c (k := 3) (j := 14) (r := 2) (r' := r') (by omega) h.2.2.1 (by decide +kernel) (by decide) (by decide +kernel) (run_50 h x d (by omega))) (by unfold paV; rw [if_pos (by decide)]) (congrArg (fun l => spM (ncL M l) (decide (n = a))) (by unfold paL; rw [if_pos (by decide)]))
  · intro h
    exact K_eq (own_c (k := 4) (j := 18) (r := 1) (r' := r') (by omega) h.2.2.1 (by decide +kernel) (by decide) (by decide +kernel) (run_12 h x d (by omega))) (by unfold paV; rw [if_neg (by decide), if_neg (by decide)]) (congrArg (fun l => spM (ncL M l) (decide (n = a))) (by unfold paL; rw [if_neg (by decide), if_neg (by decide)]))
  · intro h
    exact K_eq (own_c (k := 5) (j := 22) (r := 6) (r' := r') (by omega) h.2.2.1 (by decide +kernel) (by decide) (by decide +kernel) (run_61 (by decide) h x d (by omega))) (by unfold paV; rw [if_neg (show ¬ (nI 5 = 3) by decide), if_pos (show nI 5 = 5 from rfl)]) (congrArg (fun l => spM (ncL M l) (decide (n = a))) (by unfold paL; rw [if_neg (show ¬ (nI 5 = 3) by decide), if_pos (show nI 5 = 5 from rfl)]))
theorem run_31 (hk : k ≤ 5) (h : PS M (nI k) n a) (x : Int32) (d : Nat) (hd : d ≤ 34) : K 9 mX0_run [.ref 44, .int 31, .int x, .int (nI d)] M (Rt (some (.int ((leV (nI k) n a x ^^^ 17) + paV (nI k) n a n))) (spM (ncL M (31 :: 13 :: (leL (nI k) ++ paL (nI k) n a))) (decide (n = a)))) := by
  have p2 : PS (ncL (ncL M [31]) (13 :: leL (nI k))) (nI k) n a := PS_L _ (PS_L [31] h)
  have f4 : (ncL (ncL M [31]) (13 :: leL (nI k))).1 44 4 = n := p2.2.2.2.1
  refine run_in 31 x d 313 9 h (by omega) (by decide) (by decide +kernel) ?_
  refine J_blk a_X0_run_313 ?_
  simp only [b_X0_run_313, w_aload_n0, w_bipush, ci_13, w_iload_n2, w_iload4, w_nil, kd_44, kd_45, ln_45, Option.toList_some, Option.toList_none, List.cons_append, List.nil_append, true_and, and_true, if_true, if_false, true_or, or_true, Nat.reduceAdd, Int.reduceAdd, Bool.false_eq_true, tn_0, tn_1, tn_2, tn_3, tn_4, tn_5, tn_6, tn_7]
  refine J_callVr (ci := 0) (run_13 hk (PS_L [31] h) x (d + 1) (by omega)) k_X0_run_319 o_X0_run (rfl) rfl rfl rfl (by decide) rfl (Nat.le_of_ble_eq_true rfl) ?_
  refine J_blk a_X0_run_322 ?_
  simp only [b_X0_run_322, w_aload_n0, w_iconst_2, w_getf0, w_iload4, w_nil, kd_44, kd_45, ln_45, Option.toList_some, Option.toList_none, List.cons_append, List.nil_append, true_and, and_true, if_true, if_false, true_or, or_true, Nat.reduceAdd, Int.reduceAdd, Bool.false_eq_true, tn_0, tn_1, tn_2, tn_3, tn_4, tn_5, tn_6, tn_7, f4]
  refine J_callVr (ci := 0) (parts_c 7 (by decide) hk p2 n (d + 1) (by omega)) k_X0_run_330 o_X0_playOwn (rfl) rfl rfl rfl (by decide) rfl (Nat.le_of_ble_eq_true rfl) ?_
  refine J_blk a_X0_run_333 ?_
  simp only [b_X0_run_333, w_iadd, w_ireti, kd_44, kd_45, ln_45, Option.toList_some, Option.toList_none, List.cons_append, List.nil_append, true_and, and_true, if_true, if_false, true_or, or_true, Nat.reduceAdd, Int.reduceAdd, Bool.false_eq_true, tn_0, tn_1, tn_2, tn_3, tn_4, tn_5, tn_6, tn_7]
  refine ⟨rfl, ?_⟩
  rw [ncL_app, ncL_app]
  rfl
theorem run_60 (hk : k ≤ 5) (h : PS M (nI k) n a) (x : Int32) (d : Nat) (hd : d ≤ 34) : K 9 mX0_run [.ref 44, .int 60, .int x, .int (nI d)] M (Rt (some (.int (70 - (leV (nI k) n a x ^^^ 17)))) (ncL M (60 :: 13 :: leL (nI k)))) := by
  refine run_in 60 x d 402 9 h (by omega) (by decide) (by decide +kernel) ?_
  refine J_blk a_X0_run_402 ?_
  simp only [b_X0_run_402, w_bipush, ci_70, w_aload_n0, ci_13, w_iload_n2, w_iload4, w_nil, kd_44, kd_45, ln_45, Option.toList_some, Option.toList_none, List.cons_append, List.nil_append, true_and, and_true, if_true, if_false, true_or, or_true, Nat.reduceAdd, Int.reduceAdd, Bool.false_eq_true, tn_0, tn_1, tn_2, tn_3, tn_4, tn_5, tn_6, tn_7]
  refine J_callVr (ci := 0) (run_13 hk (PS_L [60] h) x (d + 1) (by omega)) k_X0_run_410 o_X0_run (rfl) rfl rfl rfl (by decide) rfl (Nat.le_of_ble_eq_true rfl) ?_
  refine J_blk a_X0_run_413 ?_
  simp only [b_X0_run_413, w_isub, w_ireti, kd_44, kd_45, ln_45, Option.toList_some, Option.toList_none, List.cons_append, List.nil_append, true_and, and_true, if_true, if_false, true_or, or_true, Nat.reduceAdd, Int.reduceAdd, Bool.false_eq_true, tn_0, tn_1, tn_2, tn_3, tn_4, tn_5, tn_6, tn_7]
  exact ⟨rfl, ncL_app _ _ _⟩
theorem fa_0 (k : Nat) (h : ¬ (nI k = 2 ∨ nI k = 4)) : faP (nI k) n a = false := by
  unfold faP; exact decide_eq_false (fun q => h q.1)
theorem fa_1 (k : Nat) (h : nI k = 2 ∨ nI k = 4) : faP (nI k) n a = decide (n = a) := by
  unfold faP; simp only [h, true_and]
theorem falls_c (r' : Nat) (hr : 10 ≤ r') (hk : k ≤ 5) (h : PS M (nI k) n a) (x : Int32) (d : Nat) (hd : d ≤ 34) : K r' mX0_playOwn [.ref 44, .int 3, .int x, .int (nI d)] M (Rt (some (.int (faV (nI k) n a x))) (spM (ncL M (faL (nI k) n a)) (faP (nI k) n a))) := by
  revert h
  refine cases6 (Q := fun k => PS M (nI k) n a → K r' mX0_playOwn [.ref 44, .int 3, .int x, .int (nI d)] M (Rt (some (.int (faV (nI k) n a x))) (spM (ncL M (faL (nI k) n a)) (faP (nI k) n a)))) ?_ ?_ ?_ ?_ ?_ ?_ k hk
  · intro h
    exact K_eq (own_c (k := 0) (j := 3) (r := 8) (r' := r') (by omega) h.2.2.1 (by decide +kernel) (by decide) (by decide +kernel) (run_13 (by decide) h x d (by omega))) (by unfold faV; rw [if_neg (by decide), if_neg (by decide)]) (by rw [fa_0 0 (by decide)]; unfold faL; rw [if_neg (by decide), if_neg (by decide)]; rfl)
  · intro h
    exact K_eq (own_c (k := 1) (j := 7) (r := 8) (r' := r') (by omega) h.2.2.1 (by decide +kernel) (by decide) (by decide +kernel) (run_13 (by decide) h x d (by omega))) (by unfold faV; rw [if_neg (by decide), if_neg (by decide)]) (by rw [fa_0 1 (by decide)]; unfold faL; rw [if_neg (by decide), if_neg (by decide)]; rfl)
  · intro h
    exact K_eq (own_c (k := 2) (j := 11) (r := 9) (r' := r') (by omega) h.2.2.1 (by decide +kernel) (by decide) (by decide +kernel) (run_31 (by decide) h x d (by omega))) (by unfold faV; rw [if_pos (by decide)]) (by rw [fa_1 2 (by decide)]; unfold faL; rw [if_pos (by decide)])
  · intro h
    exact K_eq (own_c (k := 3) (j := 15) (r := 8) (r' := r') (by omega) h.2.2.1 (by decide +kernel) (by decide) (by decide +kernel) (run_13 (by decide) h x d (by omega))) (by unfold faV; rw [if_neg (by decide), if_neg (by decide)]) (by rw [fa_0 3 (by decide)]; unfold faL; rw [if_neg (by decide), if_neg (by decide)]; rfl)
  · intro h
    exact K_eq (own_c (k := 4) (j := 19) (r := 9) (r' := r') (by omega) h.2.2.1 (by decide +kernel) (by decide) (by decide +kernel) (run_31 (by decide) h x d (by omega))) (by unfold faV; rw [if_pos (by decide)]) (by rw [fa_1 4 (by decide)]; unfold faL; rw [if_pos (by decide)])
  · intro h
    exact K_eq (own_c (k := 5) (j := 23) (r := 9) (r' := r') (by omega) h.2.2.1 (by decide +kernel) (by decide) (by decide +kernel) (run_60 (by decide) h x d (by omega))) (by unfold faV; rw [if_neg (by decide), if_pos (by decide)]) (by rw [fa_0 5 (by decide)]; unfold faL; rw [if_neg (by decide), if_pos (by decide)]; rfl)
/-- any act -/
theorem own_all (hk : k ≤ 5) (h : PS M (nI k) n a) (act x : Int32) (ha : 0 ≤ act ∧ act ≤ 3) : K 10 mX0_playOwn [.ref 44, .int act, .int x, .int 0] M (Rt (some (.int (acV act (nI k) n a x))) (spM (ncL M (acL act (nI k) n a)) (acP act (nI k) n a))) := by
  obtain ⟨j, hj, rfl⟩ := inNc (n := 3) 3 rfl ha (by decide)
  rcases (show j = 0 ∨ j = 1 ∨ j = 2 ∨ j = 3 by omega) with rfl | rfl | rfl | rfl
  · exact K_eq (buds_c 10 (by decide) hk h x 0 (by omega)) (by unfold acV; rw [if_pos (by decide)]) (by unfold acL acP; rw [if_pos (by decide), if_pos (by decide)]; rfl)
  · exact K_eq (leans_c 10 (by decide) hk h x 0 (by omega)) (by unfold acV; rw [if_neg (by decide), if_pos (by decide)]) (by unfold acL acP; rw [if_neg (by decide), if_pos (by decide), if_neg (by decide), if_pos (by decide)]; rfl)
  · exact K_eq (parts_c 10 (by decide) hk h x 0 (by omega)) (by unfold acV; rw [if_neg (by decide), if_neg (by decide), if_pos (by decide)]) (by unfold acL acP; rw [if_neg (by decide), if_neg (by decide), if_pos (by decide), if_neg (by decide), if_neg (by decide), if_pos (by decide)])
  · exact K_eq (falls_c 10 (by decide) hk h x 0 (by omega)) (by unfold acV; rw [if_neg (by decide), if_neg (by decide), if_neg (by decide)]) (by unfold acL acP; rw [if_neg (by decide), if_neg (by decide), if_neg (by decide), if_neg (by decide), if_neg (by decide), if_neg (by decide)])
theorem begin_c : K 0 mX0_begin [.ref 44] M (Rt none (u1 (u1 M 44 1 0) 44 2 0)) := by
  refine K_go 0 o_X0_begin [] rfl (Nat.le_of_ble_eq_true rfl) ?_
  simp only [lvA_i, lvA_a, lvA_l, lvA_nil, List.cons_append, List.nil_append]
  refine J_blk a_X0_begin_0 ?_
  simp only [b_X0_begin_0, w_aload_n0, w_iconst_0, w_putf0, w_putb0, w_vret, kd_44, kd_45, ln_45, Option.toList_some, Option.toList_none, List.cons_append, List.nil_append, true_and, and_true, if_true, if_false, true_or, or_true, Nat.reduceAdd, Int.reduceAdd, Bool.false_eq_true, tn_0, tn_1, tn_2, tn_3, tn_4, tn_5, tn_6, tn_7]
  exact ⟨rfl, rfl⟩
def acC (M : Mm) (k n a : Int32) : Mm := u1 (u1 (u1 (u1 (u1 M 44 1 0) 44 2 0) 44 3 k) 44 4 n) 44 5 a
theorem acC_PS (M : Mm) (k n a : Int32) : PS (acC M k n a) k n a := by
  refine ⟨⟨0, by omega, ?_⟩, ?_, ?_, ?_, ?_⟩ <;> simp [acC, u1, nI_0]
theorem play_c (hk : k ≤ 5) (act x : Int32) (ha : 0 ≤ act ∧ act ≤ 3) : K 11 mX0_play [.ref 44, .int (nI k), .int n, .int a, .int act, .int x] (u1 (u1 M 44 1 0) 44 2 0) (Rt (some (.int (if acP act (nI k) n a = true then -15 else acV act (nI k) n a x))) (spM (ncL (acC M (nI k) n a) (acL act (nI k) n a)) (acP act (nI k) n a))) := by
  have hp := acC_PS M (nI k) n a
  refine K_go 5 o_X0_play [none] rfl (Nat.le_of_ble_eq_true rfl) ?_
  simp only [lvA_i, lvA_a, lvA_l, lvA_nil, List.cons_append, List.nil_append]
  refine J_blk a_X0_play_0 ?_
  simp only [b_X0_play_0, w_aload_n0, w_iload_n1, w_putf0, w_iload_n2, w_iload_n3, w_iload4, w_iload5, w_iconst_0, w_nil, kd_44, kd_45, ln_45, Option.toList_some, Option.toList_none, List.cons_append, List.nil_append, true_and, and_true, if_true, if_false, true_or, or_true, Nat.reduceAdd, Int.reduceAdd, Bool.false_eq_true, tn_0, tn_1, tn_2, tn_3, tn_4, tn_5, tn_6, tn_7]
  rw [show u1 (u1 (u1 (u1 (u1 M 44 1 0) 44 2 0) 44 3 (nI k)) 44 4 n) 44 5 a = acC M (nI k) n a from rfl]
  refine J_callVr (ci := 0) (own_all hk hp act x ha) k_X0_play_21 o_X0_playOwn (rfl) rfl rfl rfl (by decide) rfl (Nat.le_of_ble_eq_true rfl) ?_
  have f2 : (ncL (acC M (nI k) n a) (acL act (nI k) n a)).1 44 2 = 0 := (PS_L _ hp).2.1
  generalize acP act (nI k) n a = b
  cases b
  · rw [show spM (ncL (acC M (nI k) n a) (acL act (nI k) n a)) false = ncL (acC M (nI k) n a) (acL act (nI k) n a) from rfl, if_neg Bool.false_ne_true]
    refine J_blk a_X0_play_24 ?_
    simp only [b_X0_play_24, w_istore6, nl_6n, nl_6i, nl_6a, w_aload_n0, w_getf0, w_if_eq, w_nil, kd_44, kd_45, ln_45, Option.toList_some, Option.toList_none, List.cons_append, List.nil_append, true_and, and_true, if_true, if_false, true_or, or_true, Nat.reduceAdd, Int.reduceAdd, Bool.false_eq_true, tn_0, tn_1, tn_2, tn_3, tn_4, tn_5, tn_6, tn_7, f2]
    refine ⟨fun _ => ?_, fun h => absurd trivial h⟩
    refine J_blk a_X0_play_38 ?_
    simp only [b_X0_play_38, w_iload6, w_nil, kd_44, kd_45, ln_45, Option.toList_some, Option.toList_none, List.cons_append, List.nil_append, true_and, and_true, if_true, if_false, true_or, or_true, Nat.reduceAdd, Int.reduceAdd, Bool.false_eq_true, tn_0, tn_1, tn_2, tn_3, tn_4, tn_5, tn_6, tn_7]
    refine J_blk a_X0_play_40 ?_
    simp only [b_X0_play_40, w_ireti, kd_44, kd_45, ln_45, Option.toList_some, Option.toList_none, List.cons_append, List.nil_append, true_and, and_true, if_true, if_false, true_or, or_true, Nat.reduceAdd, Int.reduceAdd, Bool.false_eq_true, tn_0, tn_1, tn_2, tn_3, tn_4, tn_5, tn_6, tn_7]
    first | exact ⟨rfl, rfl⟩ | (simp_all [Rt])
  · rw [show spM (ncL (acC M (nI k) n a) (acL act (nI k) n a)) true = u1 (ncL (acC M (nI k) n a) (acL act (nI k) n a)) 44 2 1 from rfl, if_pos rfl]
    have f2' : (u1 (ncL (acC M (nI k) n a) (acL act (nI k) n a)) 44 2 1).1 44 2 = 1 := by simp [u1]
    refine J_blk a_X0_play_24 ?_
    simp only [b_X0_play_24, w_istore6, nl_6n, nl_6i, nl_6a, w_aload_n0, w_getf0, w_if_eq, w_nil, kd_44, kd_45, ln_45, Option.toList_some, Option.toList_none, List.cons_append, List.nil_append, true_and, and_true, if_true, if_false, true_or, or_true, Nat.reduceAdd, Int.reduceAdd, Bool.false_eq_true, tn_0, tn_1, tn_2, tn_3, tn_4, tn_5, tn_6, tn_7, f2']
    refine ⟨fun h => absurd h (by decide), fun _ => ?_⟩
    refine J_blk a_X0_play_33 ?_
    simp only [b_X0_play_33, w_bipush, ci_m15, w_goto, kd_44, kd_45, ln_45, Option.toList_some, Option.toList_none, List.cons_append, List.nil_append, true_and, and_true, if_true, if_false, true_or, or_true, Nat.reduceAdd, Int.reduceAdd, Bool.false_eq_true, tn_0, tn_1, tn_2, tn_3, tn_4, tn_5, tn_6, tn_7]
    refine J_blk a_X0_play_40 ?_
    simp only [b_X0_play_40, w_ireti, kd_44, kd_45, ln_45, Option.toList_some, Option.toList_none, List.cons_append, List.nil_append, true_and, and_true, if_true, if_false, true_or, or_true, Nat.reduceAdd, Int.reduceAdd, Bool.false_eq_true, tn_0, tn_1, tn_2, tn_3, tn_4, tn_5, tn_6, tn_7]
    first | exact ⟨rfl, rfl⟩ | (simp_all [Rt])
end PL
section AC
variable {n : Nat} {s : Nat → Int32} {M : Mm}
theorem hoS_44 (M : Mm) (n h : Nat) (j : Nat) (v : Int32) : hoS (u1 M 44 j v) n h = hoS M n h := by
  unfold hoS
  rw [u1_o _ _ _ _ (show (56 : Nat) ≠ 44 by decide), u1_o _ _ _ _ (show (57 : Nat) ≠ 44 by decide)]
theorem RSh_44 {M : Mm} {h : Nat} (j : Nat) (v : Int32) (q : RSh M h) : RSh (u1 M 44 j v) h := by
  unfold RSh
  rw [u1_o _ _ _ _ (show (40 : Nat) ≠ 44 by decide), u1_o _ _ _ _ (show (41 : Nat) ≠ 44 by decide), u1_o _ _ _ _ (show (42 : Nat) ≠ 44 by decide), u1_o _ _ _ _ (show (43 : Nat) ≠ 44 by decide), u1_o _ _ _ _ (show (56 : Nat) ≠ 44 by decide), u1_o _ _ _ _ (show (57 : Nat) ≠ 44 by decide), u1_o _ _ _ _ (show (58 : Nat) ≠ 44 by decide)]
  exact q
theorem RX_44 {M : Mm} {b n : Nat} {s : Nat → Int32} (hb : b + 6 < 44) (j : Nat) (v : Int32) (hx : RX M b s n) : RX (u1 M 44 j v) b s n := RX_of hx (fun i hi => u1_o _ _ _ _ (by omega))
theorem cact_f (h act x : Int32) (hb : ¬ ((0 ≤ h ∧ h ≤ 3) ∧ (0 ≤ act ∧ act ≤ 3))) : K 2 mX5_act [.ref 0, .int h, .int act, .int x] M (Rt (some (.int 0)) (u1 (u1 M 44 1 0) 44 2 0)) := by
  refine K_go 3 o_X5_act [none, none] rfl (Nat.le_of_ble_eq_true rfl) ?_
  simp only [lvA_i, lvA_a, lvA_l, lvA_nil, List.cons_append, List.nil_append]
  refine J_blk a_X5_act_0 ?_
  simp only [b_X5_act_0, w_aload_n0, w_getf5, ne0_44, w_nil, kd_0, kd_1, kd_2, kd_3, kd_4, kd_5, kd_6, kd_7, kd_10, kd_11, kd_12, kd_13, kd_14, kd_15, kd_16, kd_19, kd_28, kd_29, kd_30, kd_31, kd_32, kd_33, kd_34, kd_35, kd_36, kd_37, kd_38, kd_39, kd_40, kd_41, kd_42, kd_43, kd_44, kd_45, ln_2, ln_3, ln_4, ln_5, ln_6, ln_7, ln_11, ln_12, ln_13, ln_14, ln_15, ln_16, ln_29, ln_30, ln_32, ln_33, ln_34, ln_35, ln_36, ln_37, ln_38, ln_40, ln_41, ln_42, ln_43, ln_45, Option.toList_some, Option.toList_none, List.cons_append, List.nil_append, true_and, and_true, if_true, if_false, true_or, or_true, Nat.reduceAdd, Int.reduceAdd, Bool.false_eq_true, tn_0, tn_1, tn_2, tn_3, tn_4, tn_5, tn_6, tn_7]
  refine J_callVr (ci := 0) (begin_c) k_X5_act_4 o_X0_begin (rfl) rfl rfl rfl (by decide) rfl (Nat.le_of_ble_eq_true rfl) ?_
  refine J_blk a_X5_act_7 ?_
  simp only [b_X5_act_7, w_aload_n0, w_getf5, ne0_39, w_iload_n1, w_nil, kd_0, kd_1, kd_2, kd_3, kd_4, kd_5, kd_6, kd_7, kd_10, kd_11, kd_12, kd_13, kd_14, kd_15, kd_16, kd_19, kd_28, kd_29, kd_30, kd_31, kd_32, kd_33, kd_34, kd_35, kd_36, kd_37, kd_38, kd_39, kd_40, kd_41, kd_42, kd_43, kd_44, kd_45, ln_2, ln_3, ln_4, ln_5, ln_6, ln_7, ln_11, ln_12, ln_13, ln_14, ln_15, ln_16, ln_29, ln_30, ln_32, ln_33, ln_34, ln_35, ln_36, ln_37, ln_38, ln_40, ln_41, ln_42, ln_43, ln_45, Option.toList_some, Option.toList_none, List.cons_append, List.nil_append, true_and, and_true, if_true, if_false, true_or, or_true, Nat.reduceAdd, Int.reduceAdd, Bool.false_eq_true, tn_0, tn_1, tn_2, tn_3, tn_4, tn_5, tn_6, tn_7]
  refine J_callVr (ci := 2) (vhas_c _ _) k_X5_act_12 o_X2_has (rfl) rfl rfl rfl (by decide) rfl (Nat.le_of_ble_eq_true rfl) ?_
  refine J_blk a_X5_act_15 ?_
  simp only [b_X5_act_15, w_if_eq, w_nil, kd_0, kd_1, kd_2, kd_3, kd_4, kd_5, kd_6, kd_7, kd_10, kd_11, kd_12, kd_13, kd_14, kd_15, kd_16, kd_19, kd_28, kd_29, kd_30, kd_31, kd_32, kd_33, kd_34, kd_35, kd_36, kd_37, kd_38, kd_39, kd_40, kd_41, kd_42, kd_43, kd_44, kd_45, ln_2, ln_3, ln_4, ln_5, ln_6, ln_7, ln_11, ln_12, ln_13, ln_14, ln_15, ln_16, ln_29, ln_30, ln_32, ln_33, ln_34, ln_35, ln_36, ln_37, ln_38, ln_40, ln_41, ln_42, ln_43, ln_45, Option.toList_some, Option.toList_none, List.cons_append, List.nil_append, true_and, and_true, if_true, if_false, true_or, or_true, Nat.reduceAdd, Int.reduceAdd, Bool.false_eq_true, tn_0, tn_1, tn_2, tn_3, tn_4, tn_5, tn_6, tn_7]
  refine ⟨fun c1 => ?_, fun c1 => ?_⟩
  · first
      | exact absurd c1 (by decide)
      | (refine J_blk a_X5_act_31 ?_
         simp only [b_X5_act_31, w_iconst_0, w_nil, kd_0, kd_1, kd_2, kd_3, kd_4, kd_5, kd_6, kd_7, kd_10, kd_11, kd_12, kd_13, kd_14, kd_15, kd_16, kd_19, kd_28, kd_29, kd_30, kd_31, kd_32, kd_33, kd_34, kd_35, kd_36, kd_37, kd_38, kd_39, kd_40, kd_41, kd_42, kd_43, kd_44, kd_45, ln_2, ln_3, ln_4, ln_5, ln_6, ln_7, ln_11, ln_12, ln_13, ln_14, ln_15, ln_16, ln_29, ln_30, ln_32, ln_33, ln_34, ln_35, ln_36, ln_37, ln_38, ln_40, ln_41, ln_42, ln_43, ln_45, Option.toList_some, Option.toList_none, List.cons_append, List.nil_append, true_and, and_true, if_true, if_false, true_or, or_true, Nat.reduceAdd, Int.reduceAdd, Bool.false_eq_true, tn_0, tn_1, tn_2, tn_3, tn_4, tn_5, tn_6, tn_7]
         refine J_blk a_X5_act_32 ?_
         simp only [b_X5_act_32, w_istore4, nl_4n, nl_4i, nl_4a, w_iload4, w_if_eq, w_nil, kd_0, kd_1, kd_2, kd_3, kd_4, kd_5, kd_6, kd_7, kd_10, kd_11, kd_12, kd_13, kd_14, kd_15, kd_16, kd_19, kd_28, kd_29, kd_30, kd_31, kd_32, kd_33, kd_34, kd_35, kd_36, kd_37, kd_38, kd_39, kd_40, kd_41, kd_42, kd_43, kd_44, kd_45, ln_2, ln_3, ln_4, ln_5, ln_6, ln_7, ln_11, ln_12, ln_13, ln_14, ln_15, ln_16, ln_29, ln_30, ln_32, ln_33, ln_34, ln_35, ln_36, ln_37, ln_38, ln_40, ln_41, ln_42, ln_43, ln_45, Option.toList_some, Option.toList_none, List.cons_append, List.nil_append, true_and, and_true, if_true, if_false, true_or, or_true, Nat.reduceAdd, Int.reduceAdd, Bool.false_eq_true, tn_0, tn_1, tn_2, tn_3, tn_4, tn_5, tn_6, tn_7]
         refine ⟨fun c2 => ?_, fun c2 => ?_⟩
         · first
             | exact absurd c2 (by decide)
             | (refine J_blk a_X5_act_55 ?_
                simp only [b_X5_act_55, w_iconst_0, w_ireti, kd_0, kd_1, kd_2, kd_3, kd_4, kd_5, kd_6, kd_7, kd_10, kd_11, kd_12, kd_13, kd_14, kd_15, kd_16, kd_19, kd_28, kd_29, kd_30, kd_31, kd_32, kd_33, kd_34, kd_35, kd_36, kd_37, kd_38, kd_39, kd_40, kd_41, kd_42, kd_43, kd_44, kd_45, ln_2, ln_3, ln_4, ln_5, ln_6, ln_7, ln_11, ln_12, ln_13, ln_14, ln_15, ln_16, ln_29, ln_30, ln_32, ln_33, ln_34, ln_35, ln_36, ln_37, ln_38, ln_40, ln_41, ln_42, ln_43, ln_45, Option.toList_some, Option.toList_none, List.cons_append, List.nil_append, true_and, and_true, if_true, if_false, true_or, or_true, Nat.reduceAdd, Int.reduceAdd, Bool.false_eq_true, tn_0, tn_1, tn_2, tn_3, tn_4, tn_5, tn_6, tn_7]
                exact ⟨rfl, rfl⟩)
         · first
             | exact absurd c2 (by decide)
             | (exact absurd (by grind) hb))
  · first
      | exact absurd c1 (by decide)
      | (refine J_blk a_X5_act_18 ?_
         simp only [b_X5_act_18, w_iload_n2, w_iconst_0, w_iconst_3, w_nil, kd_0, kd_1, kd_2, kd_3, kd_4, kd_5, kd_6, kd_7, kd_10, kd_11, kd_12, kd_13, kd_14, kd_15, kd_16, kd_19, kd_28, kd_29, kd_30, kd_31, kd_32, kd_33, kd_34, kd_35, kd_36, kd_37, kd_38, kd_39, kd_40, kd_41, kd_42, kd_43, kd_44, kd_45, ln_2, ln_3, ln_4, ln_5, ln_6, ln_7, ln_11, ln_12, ln_13, ln_14, ln_15, ln_16, ln_29, ln_30, ln_32, ln_33, ln_34, ln_35, ln_36, ln_37, ln_38, ln_40, ln_41, ln_42, ln_43, ln_45, Option.toList_some, Option.toList_none, List.cons_append, List.nil_append, true_and, and_true, if_true, if_false, true_or, or_true, Nat.reduceAdd, Int.reduceAdd, Bool.false_eq_true, tn_0, tn_1, tn_2, tn_3, tn_4, tn_5, tn_6, tn_7]
         refine J_callSr (within_c _ _ _ _) k_X5_act_21 o_X5_within rfl (by decide) rfl (Nat.le_of_ble_eq_true rfl) ?_
         refine J_blk a_X5_act_24 ?_
         simp only [b_X5_act_24, w_if_eq, w_nil, kd_0, kd_1, kd_2, kd_3, kd_4, kd_5, kd_6, kd_7, kd_10, kd_11, kd_12, kd_13, kd_14, kd_15, kd_16, kd_19, kd_28, kd_29, kd_30, kd_31, kd_32, kd_33, kd_34, kd_35, kd_36, kd_37, kd_38, kd_39, kd_40, kd_41, kd_42, kd_43, kd_44, kd_45, ln_2, ln_3, ln_4, ln_5, ln_6, ln_7, ln_11, ln_12, ln_13, ln_14, ln_15, ln_16, ln_29, ln_30, ln_32, ln_33, ln_34, ln_35, ln_36, ln_37, ln_38, ln_40, ln_41, ln_42, ln_43, ln_45, Option.toList_some, Option.toList_none, List.cons_append, List.nil_append, true_and, and_true, if_true, if_false, true_or, or_true, Nat.reduceAdd, Int.reduceAdd, Bool.false_eq_true, tn_0, tn_1, tn_2, tn_3, tn_4, tn_5, tn_6, tn_7]
         refine ⟨fun c3 => ?_, fun c3 => ?_⟩
         · first
             | exact absurd c3 (by decide)
             | (refine J_blk a_X5_act_31 ?_
                simp only [b_X5_act_31, w_iconst_0, w_nil, kd_0, kd_1, kd_2, kd_3, kd_4, kd_5, kd_6, kd_7, kd_10, kd_11, kd_12, kd_13, kd_14, kd_15, kd_16, kd_19, kd_28, kd_29, kd_30, kd_31, kd_32, kd_33, kd_34, kd_35, kd_36, kd_37, kd_38, kd_39, kd_40, kd_41, kd_42, kd_43, kd_44, kd_45, ln_2, ln_3, ln_4, ln_5, ln_6, ln_7, ln_11, ln_12, ln_13, ln_14, ln_15, ln_16, ln_29, ln_30, ln_32, ln_33, ln_34, ln_35, ln_36, ln_37, ln_38, ln_40, ln_41, ln_42, ln_43, ln_45, Option.toList_some, Option.toList_none, List.cons_append, List.nil_append, true_and, and_true, if_true, if_false, true_or, or_true, Nat.reduceAdd, Int.reduceAdd, Bool.false_eq_true, tn_0, tn_1, tn_2, tn_3, tn_4, tn_5, tn_6, tn_7]
                refine J_blk a_X5_act_32 ?_
                simp only [b_X5_act_32, w_istore4, nl_4n, nl_4i, nl_4a, w_iload4, w_if_eq, w_nil, kd_0, kd_1, kd_2, kd_3, kd_4, kd_5, kd_6, kd_7, kd_10, kd_11, kd_12, kd_13, kd_14, kd_15, kd_16, kd_19, kd_28, kd_29, kd_30, kd_31, kd_32, kd_33, kd_34, kd_35, kd_36, kd_37, kd_38, kd_39, kd_40, kd_41, kd_42, kd_43, kd_44, kd_45, ln_2, ln_3, ln_4, ln_5, ln_6, ln_7, ln_11, ln_12, ln_13, ln_14, ln_15, ln_16, ln_29, ln_30, ln_32, ln_33, ln_34, ln_35, ln_36, ln_37, ln_38, ln_40, ln_41, ln_42, ln_43, ln_45, Option.toList_some, Option.toList_none, List.cons_append, List.nil_append, true_and, and_true, if_true, if_false, true_or, or_true, Nat.reduceAdd, Int.reduceAdd, Bool.false_eq_true, tn_0, tn_1, tn_2, tn_3, tn_4, tn_5, tn_6, tn_7]
                refine ⟨fun c4 => ?_, fun c4 => ?_⟩
                · first
                    | exact absurd c4 (by decide)
                    | (refine J_blk a_X5_act_55 ?_
                       simp only [b_X5_act_55, w_iconst_0, w_ireti, kd_0, kd_1, kd_2, kd_3, kd_4, kd_5, kd_6, kd_7, kd_10, kd_11, kd_12, kd_13, kd_14, kd_15, kd_16, kd_19, kd_28, kd_29, kd_30, kd_31, kd_32, kd_33, kd_34, kd_35, kd_36, kd_37, kd_38, kd_39, kd_40, kd_41, kd_42, kd_43, kd_44, kd_45, ln_2, ln_3, ln_4, ln_5, ln_6, ln_7, ln_11, ln_12, ln_13, ln_14, ln_15, ln_16, ln_29, ln_30, ln_32, ln_33, ln_34, ln_35, ln_36, ln_37, ln_38, ln_40, ln_41, ln_42, ln_43, ln_45, Option.toList_some, Option.toList_none, List.cons_append, List.nil_append, true_and, and_true, if_true, if_false, true_or, or_true, Nat.reduceAdd, Int.reduceAdd, Bool.false_eq_true, tn_0, tn_1, tn_2, tn_3, tn_4, tn_5, tn_6, tn_7]
                       exact ⟨rfl, rfl⟩)
                · first
                    | exact absurd c4 (by decide)
                    | (exact absurd (by grind) hb))
         · first
             | exact absurd c3 (by decide)
             | (refine J_blk a_X5_act_27 ?_
                simp only [b_X5_act_27, w_iconst_1, w_goto, kd_0, kd_1, kd_2, kd_3, kd_4, kd_5, kd_6, kd_7, kd_10, kd_11, kd_12, kd_13, kd_14, kd_15, kd_16, kd_19, kd_28, kd_29, kd_30, kd_31, kd_32, kd_33, kd_34, kd_35, kd_36, kd_37, kd_38, kd_39, kd_40, kd_41, kd_42, kd_43, kd_44, kd_45, ln_2, ln_3, ln_4, ln_5, ln_6, ln_7, ln_11, ln_12, ln_13, ln_14, ln_15, ln_16, ln_29, ln_30, ln_32, ln_33, ln_34, ln_35, ln_36, ln_37, ln_38, ln_40, ln_41, ln_42, ln_43, ln_45, Option.toList_some, Option.toList_none, List.cons_append, List.nil_append, true_and, and_true, if_true, if_false, true_or, or_true, Nat.reduceAdd, Int.reduceAdd, Bool.false_eq_true, tn_0, tn_1, tn_2, tn_3, tn_4, tn_5, tn_6, tn_7]
                refine J_blk a_X5_act_32 ?_
                simp only [b_X5_act_32, w_istore4, nl_4n, nl_4i, nl_4a, w_iload4, w_if_eq, w_nil, kd_0, kd_1, kd_2, kd_3, kd_4, kd_5, kd_6, kd_7, kd_10, kd_11, kd_12, kd_13, kd_14, kd_15, kd_16, kd_19, kd_28, kd_29, kd_30, kd_31, kd_32, kd_33, kd_34, kd_35, kd_36, kd_37, kd_38, kd_39, kd_40, kd_41, kd_42, kd_43, kd_44, kd_45, ln_2, ln_3, ln_4, ln_5, ln_6, ln_7, ln_11, ln_12, ln_13, ln_14, ln_15, ln_16, ln_29, ln_30, ln_32, ln_33, ln_34, ln_35, ln_36, ln_37, ln_38, ln_40, ln_41, ln_42, ln_43, ln_45, Option.toList_some, Option.toList_none, List.cons_append, List.nil_append, true_and, and_true, if_true, if_false, true_or, or_true, Nat.reduceAdd, Int.reduceAdd, Bool.false_eq_true, tn_0, tn_1, tn_2, tn_3, tn_4, tn_5, tn_6, tn_7]
                refine ⟨fun c5 => ?_, fun c5 => ?_⟩
                · first
                    | exact absurd c5 (by decide)
                    | (refine J_blk a_X5_act_55 ?_
                       simp only [b_X5_act_55, w_iconst_0, w_ireti, kd_0, kd_1, kd_2, kd_3, kd_4, kd_5, kd_6, kd_7, kd_10, kd_11, kd_12, kd_13, kd_14, kd_15, kd_16, kd_19, kd_28, kd_29, kd_30, kd_31, kd_32, kd_33, kd_34, kd_35, kd_36, kd_37, kd_38, kd_39, kd_40, kd_41, kd_42, kd_43, kd_44, kd_45, ln_2, ln_3, ln_4, ln_5, ln_6, ln_7, ln_11, ln_12, ln_13, ln_14, ln_15, ln_16, ln_29, ln_30, ln_32, ln_33, ln_34, ln_35, ln_36, ln_37, ln_38, ln_40, ln_41, ln_42, ln_43, ln_45, Option.toList_some, Option.toList_none, List.cons_append, List.nil_append, true_and, and_true, if_true, if_false, true_or, or_true, Nat.reduceAdd, Int.reduceAdd, Bool.false_eq_true, tn_0, tn_1, tn_2, tn_3, tn_4, tn_5, tn_6, tn_7]
                       exact ⟨rfl, rfl⟩)
                · first
                    | exact absurd c5 (by decide)
                    | (exact absurd (by grind) hb)))
theorem act_in {r : Nat} {P : Option Value → Mm → Prop} (hw : WF s n) (hx : RX M 1 s n) (h : Nat) (act x : Int32) (hh : h < 4) (ha : 0 ≤ act ∧ act ≤ 3) (hR : RSh M h) (hr : 2 < r) (go : ∀ (M1 : Mm), M1 = u1 (u1 M 44 1 0) 44 2 0 → J r mX5_act 51 [some (.ref 0), some (.int (nI h)), some (.int act), some (.int x), some (.int 1), none] [.int (hoS M n h)] M1 P) : K r mX5_act [.ref 0, .int (nI h), .int act, .int x] M P := by
  have h1 : 0 ≤ nI h ∧ nI h ≤ 3 := ok2 (m := 3) (by omega) (by decide)
  refine K_go 3 o_X5_act [none, none] rfl (Nat.le_of_ble_eq_true rfl) ?_
  simp only [lvA_i, lvA_a, lvA_l, lvA_nil, List.cons_append, List.nil_append]
  refine J_blk a_X5_act_0 ?_
  simp only [b_X5_act_0, w_aload_n0, w_getf5, ne0_44, w_nil, kd_0, kd_1, kd_2, kd_3, kd_4, kd_5, kd_6, kd_7, kd_10, kd_11, kd_12, kd_13, kd_14, kd_15, kd_16, kd_19, kd_28, kd_29, kd_30, kd_31, kd_32, kd_33, kd_34, kd_35, kd_36, kd_37, kd_38, kd_39, kd_40, kd_41, kd_42, kd_43, kd_44, kd_45, ln_2, ln_3, ln_4, ln_5, ln_6, ln_7, ln_11, ln_12, ln_13, ln_14, ln_15, ln_16, ln_29, ln_30, ln_32, ln_33, ln_34, ln_35, ln_36, ln_37, ln_38, ln_40, ln_41, ln_42, ln_43, ln_45, Option.toList_some, Option.toList_none, List.cons_append, List.nil_append, true_and, and_true, if_true, if_false, true_or, or_true, Nat.reduceAdd, Int.reduceAdd, Bool.false_eq_true, tn_0, tn_1, tn_2, tn_3, tn_4, tn_5, tn_6, tn_7]
  refine J_callVr (ci := 0) begin_c k_X5_act_4 o_X0_begin rfl rfl rfl rfl (by omega) rfl (Nat.le_of_ble_eq_true rfl) ?_
  refine J_blk a_X5_act_7 ?_
  simp only [b_X5_act_7, w_aload_n0, w_getf5, ne0_39, w_iload_n1, w_nil, kd_0, kd_1, kd_2, kd_3, kd_4, kd_5, kd_6, kd_7, kd_10, kd_11, kd_12, kd_13, kd_14, kd_15, kd_16, kd_19, kd_28, kd_29, kd_30, kd_31, kd_32, kd_33, kd_34, kd_35, kd_36, kd_37, kd_38, kd_39, kd_40, kd_41, kd_42, kd_43, kd_44, kd_45, ln_2, ln_3, ln_4, ln_5, ln_6, ln_7, ln_11, ln_12, ln_13, ln_14, ln_15, ln_16, ln_29, ln_30, ln_32, ln_33, ln_34, ln_35, ln_36, ln_37, ln_38, ln_40, ln_41, ln_42, ln_43, ln_45, Option.toList_some, Option.toList_none, List.cons_append, List.nil_append, true_and, and_true, if_true, if_false, true_or, or_true, Nat.reduceAdd, Int.reduceAdd, Bool.false_eq_true, tn_0, tn_1, tn_2, tn_3, tn_4, tn_5, tn_6, tn_7]
  refine J_callVr (ci := 2) (vhas_c _ _) k_X5_act_12 o_X2_has rfl rfl rfl rfl (by omega) rfl (Nat.le_of_ble_eq_true rfl) ?_
  rw [if_pos h1]
  refine J_blk a_X5_act_15 ?_
  simp only [b_X5_act_15, w_if_eq, w_nil, kd_0, kd_1, kd_2, kd_3, kd_4, kd_5, kd_6, kd_7, kd_10, kd_11, kd_12, kd_13, kd_14, kd_15, kd_16, kd_19, kd_28, kd_29, kd_30, kd_31, kd_32, kd_33, kd_34, kd_35, kd_36, kd_37, kd_38, kd_39, kd_40, kd_41, kd_42, kd_43, kd_44, kd_45, ln_2, ln_3, ln_4, ln_5, ln_6, ln_7, ln_11, ln_12, ln_13, ln_14, ln_15, ln_16, ln_29, ln_30, ln_32, ln_33, ln_34, ln_35, ln_36, ln_37, ln_38, ln_40, ln_41, ln_42, ln_43, ln_45, Option.toList_some, Option.toList_none, List.cons_append, List.nil_append, true_and, and_true, if_true, if_false, true_or, or_true, Nat.reduceAdd, Int.reduceAdd, Bool.false_eq_true, tn_0, tn_1, tn_2, tn_3, tn_4, tn_5, tn_6, tn_7]
  refine ⟨fun h => absurd h (by decide), fun _ => ?_⟩
  refine J_blk a_X5_act_18 ?_
  simp only [b_X5_act_18, w_iload_n2, w_iconst_0, w_iconst_3, w_nil, kd_0, kd_1, kd_2, kd_3, kd_4, kd_5, kd_6, kd_7, kd_10, kd_11, kd_12, kd_13, kd_14, kd_15, kd_16, kd_19, kd_28, kd_29, kd_30, kd_31, kd_32, kd_33, kd_34, kd_35, kd_36, kd_37, kd_38, kd_39, kd_40, kd_41, kd_42, kd_43, kd_44, kd_45, ln_2, ln_3, ln_4, ln_5, ln_6, ln_7, ln_11, ln_12, ln_13, ln_14, ln_15, ln_16, ln_29, ln_30, ln_32, ln_33, ln_34, ln_35, ln_36, ln_37, ln_38, ln_40, ln_41, ln_42, ln_43, ln_45, Option.toList_some, Option.toList_none, List.cons_append, List.nil_append, true_and, and_true, if_true, if_false, true_or, or_true, Nat.reduceAdd, Int.reduceAdd, Bool.false_eq_true, tn_0, tn_1, tn_2, tn_3, tn_4, tn_5, tn_6, tn_7]
  refine J_callSr (within_c _ _ _ _) k_X5_act_21 o_X5_within rfl (by omega) rfl (Nat.le_of_ble_eq_true rfl) ?_
  rw [if_pos ha]
  refine J_blk a_X5_act_24 ?_
  simp only [b_X5_act_24, w_if_eq, w_nil, kd_0, kd_1, kd_2, kd_3, kd_4, kd_5, kd_6, kd_7, kd_10, kd_11, kd_12, kd_13, kd_14, kd_15, kd_16, kd_19, kd_28, kd_29, kd_30, kd_31, kd_32, kd_33, kd_34, kd_35, kd_36, kd_37, kd_38, kd_39, kd_40, kd_41, kd_42, kd_43, kd_44, kd_45, ln_2, ln_3, ln_4, ln_5, ln_6, ln_7, ln_11, ln_12, ln_13, ln_14, ln_15, ln_16, ln_29, ln_30, ln_32, ln_33, ln_34, ln_35, ln_36, ln_37, ln_38, ln_40, ln_41, ln_42, ln_43, ln_45, Option.toList_some, Option.toList_none, List.cons_append, List.nil_append, true_and, and_true, if_true, if_false, true_or, or_true, Nat.reduceAdd, Int.reduceAdd, Bool.false_eq_true, tn_0, tn_1, tn_2, tn_3, tn_4, tn_5, tn_6, tn_7]
  refine ⟨fun h => absurd h (by decide), fun _ => ?_⟩
  refine J_blk a_X5_act_27 ?_
  simp only [b_X5_act_27, w_iconst_1, w_goto, kd_0, kd_1, kd_2, kd_3, kd_4, kd_5, kd_6, kd_7, kd_10, kd_11, kd_12, kd_13, kd_14, kd_15, kd_16, kd_19, kd_28, kd_29, kd_30, kd_31, kd_32, kd_33, kd_34, kd_35, kd_36, kd_37, kd_38, kd_39, kd_40, kd_41, kd_42, kd_43, kd_44, kd_45, ln_2, ln_3, ln_4, ln_5, ln_6, ln_7, ln_11, ln_12, ln_13, ln_14, ln_15, ln_16, ln_29, ln_30, ln_32, ln_33, ln_34, ln_35, ln_36, ln_37, ln_38, ln_40, ln_41, ln_42, ln_43, ln_45, Option.toList_some, Option.toList_none, List.cons_append, List.nil_append, true_and, and_true, if_true, if_false, true_or, or_true, Nat.reduceAdd, Int.reduceAdd, Bool.false_eq_true, tn_0, tn_1, tn_2, tn_3, tn_4, tn_5, tn_6, tn_7]
  refine J_blk a_X5_act_32 ?_
  simp only [b_X5_act_32, w_istore4, nl_4n, nl_4i, nl_4a, w_iload4, w_if_eq, w_nil, kd_0, kd_1, kd_2, kd_3, kd_4, kd_5, kd_6, kd_7, kd_10, kd_11, kd_12, kd_13, kd_14, kd_15, kd_16, kd_19, kd_28, kd_29, kd_30, kd_31, kd_32, kd_33, kd_34, kd_35, kd_36, kd_37, kd_38, kd_39, kd_40, kd_41, kd_42, kd_43, kd_44, kd_45, ln_2, ln_3, ln_4, ln_5, ln_6, ln_7, ln_11, ln_12, ln_13, ln_14, ln_15, ln_16, ln_29, ln_30, ln_32, ln_33, ln_34, ln_35, ln_36, ln_37, ln_38, ln_40, ln_41, ln_42, ln_43, ln_45, Option.toList_some, Option.toList_none, List.cons_append, List.nil_append, true_and, and_true, if_true, if_false, true_or, or_true, Nat.reduceAdd, Int.reduceAdd, Bool.false_eq_true, tn_0, tn_1, tn_2, tn_3, tn_4, tn_5, tn_6, tn_7]
  refine ⟨fun h => absurd h (by decide), fun _ => ?_⟩
  refine J_blk a_X5_act_39 ?_
  simp only [b_X5_act_39, w_aload_n0, w_getf5, ne0_39, w_iload_n1, ne0_1, w_nil, kd_0, kd_1, kd_2, kd_3, kd_4, kd_5, kd_6, kd_7, kd_10, kd_11, kd_12, kd_13, kd_14, kd_15, kd_16, kd_19, kd_28, kd_29, kd_30, kd_31, kd_32, kd_33, kd_34, kd_35, kd_36, kd_37, kd_38, kd_39, kd_40, kd_41, kd_42, kd_43, kd_44, kd_45, ln_2, ln_3, ln_4, ln_5, ln_6, ln_7, ln_11, ln_12, ln_13, ln_14, ln_15, ln_16, ln_29, ln_30, ln_32, ln_33, ln_34, ln_35, ln_36, ln_37, ln_38, ln_40, ln_41, ln_42, ln_43, ln_45, Option.toList_some, Option.toList_none, List.cons_append, List.nil_append, true_and, and_true, if_true, if_false, true_or, or_true, Nat.reduceAdd, Int.reduceAdd, Bool.false_eq_true, tn_0, tn_1, tn_2, tn_3, tn_4, tn_5, tn_6, tn_7]
  refine J_callVr (ci := 2) (heldOf_c hw (RX_44 (by decide) 2 0 (RX_44 (by decide) 1 0 hx)) h hh (RSh_44 2 0 (RSh_44 1 0 hR))) k_X5_act_48 o_X2_heldOf rfl rfl rfl rfl (by omega) rfl (Nat.le_of_ble_eq_true rfl) ?_
  rw [hoS_44, hoS_44]
  exact go _ rfl
theorem cact_n (hw : WF s n) (hx : RX M 1 s n) (h : Nat) (act x : Int32) (hh : h < 4) (ha : 0 ≤ act ∧ act ≤ 3) (hR : RSh M h) (hs : ¬ hoS M n h = 1) : K 3 mX5_act [.ref 0, .int (nI h), .int act, .int x] M (Rt (some (.int 0)) (u1 (u1 M 44 1 0) 44 2 0)) := by
  refine act_in hw hx h act x hh ha hR (by decide) (fun M1 e1 => ?_)
  subst e1
  refine J_blk a_X5_act_51 ?_
  simp only [b_X5_act_51, w_iconst_1, w_icmp_eq, w_nil, kd_0, kd_1, kd_2, kd_3, kd_4, kd_5, kd_6, kd_7, kd_10, kd_11, kd_12, kd_13, kd_14, kd_15, kd_16, kd_19, kd_28, kd_29, kd_30, kd_31, kd_32, kd_33, kd_34, kd_35, kd_36, kd_37, kd_38, kd_39, kd_40, kd_41, kd_42, kd_43, kd_44, kd_45, ln_2, ln_3, ln_4, ln_5, ln_6, ln_7, ln_11, ln_12, ln_13, ln_14, ln_15, ln_16, ln_29, ln_30, ln_32, ln_33, ln_34, ln_35, ln_36, ln_37, ln_38, ln_40, ln_41, ln_42, ln_43, ln_45, Option.toList_some, Option.toList_none, List.cons_append, List.nil_append, true_and, and_true, if_true, if_false, true_or, or_true, Nat.reduceAdd, Int.reduceAdd, Bool.false_eq_true, tn_0, tn_1, tn_2, tn_3, tn_4, tn_5, tn_6, tn_7]
  refine ⟨fun c => absurd c hs, fun _ => ?_⟩
  refine J_blk a_X5_act_55 ?_
  simp only [b_X5_act_55, w_iconst_0, w_ireti, kd_0, kd_1, kd_2, kd_3, kd_4, kd_5, kd_6, kd_7, kd_10, kd_11, kd_12, kd_13, kd_14, kd_15, kd_16, kd_19, kd_28, kd_29, kd_30, kd_31, kd_32, kd_33, kd_34, kd_35, kd_36, kd_37, kd_38, kd_39, kd_40, kd_41, kd_42, kd_43, kd_44, kd_45, ln_2, ln_3, ln_4, ln_5, ln_6, ln_7, ln_11, ln_12, ln_13, ln_14, ln_15, ln_16, ln_29, ln_30, ln_32, ln_33, ln_34, ln_35, ln_36, ln_37, ln_38, ln_40, ln_41, ln_42, ln_43, ln_45, Option.toList_some, Option.toList_none, List.cons_append, List.nil_append, true_and, and_true, if_true, if_false, true_or, or_true, Nat.reduceAdd, Int.reduceAdd, Bool.false_eq_true, tn_0, tn_1, tn_2, tn_3, tn_4, tn_5, tn_6, tn_7]
  first | exact ⟨rfl, rfl⟩ | (simp_all [Rt])
theorem cact_t (hw : WF s n) (hx : RX M 1 s n) (h o : Nat) (act x : Int32) (hh : h < 4) (ha : 0 ≤ act ∧ act ≤ 3) (hR : RSh M h) (hs : hoS M n h = 1) (ho : o < n) (eo : M.1 57 h = nI o) : K 12 mX5_act [.ref 0, .int (nI h), .int act, .int x] M (Rt (some (.int (if acP act (s (8 + 6 * o)) (nI o) (s (8 + 6 * o + 2)) = true then -15 else acV act (s (8 + 6 * o)) (nI o) (s (8 + 6 * o + 2)) x))) (spM (ncL (acC M (s (8 + 6 * o)) (nI o) (s (8 + 6 * o + 2))) (acL act (s (8 + 6 * o)) (nI o) (s (8 + 6 * o + 2)))) (acP act (s (8 + 6 * o)) (nI o) (s (8 + 6 * o + 2))))) := by
  have h8 := hw.2.1
  have th : (nI h).toNatClampNeg = h := nI_clamp (by omega)
  have to : (nI o).toNatClampNeg = o := nI_clamp (by omega)
  have e41 : M.1 41 h = nI o := by
    rcases hR.2 with q | q | q
    · exfalso
      unfold hoS at hs
      rw [q] at hs
      split at hs <;> exact absurd hs (by decide)
    · rw [q.2]; exact eo
    · exfalso
      unfold hoS at hs
      rw [q.1] at hs
      split at hs <;> exact absurd hs (by decide)
  have y2 : M.1 2 = M.1 (1 + 1) := rfl
  have yk := (hx.2.2.2.2.2.2 o ho).1
  have yf := (hx.2.2.2.2.2.2 o ho).2.2.1
  obtain ⟨k, hk, ek⟩ := (hw.2.2 o ho).1
  rw [Nat.add_zero] at ek
  rw [ek] at yk
  rw [ek]
  refine act_in hw hx h act x hh ha hR (by decide) (fun M1 e1 => ?_)
  subst e1
  have g41 : (u1 (u1 M 44 1 0) 44 2 0).1 41 h = nI o := by rw [u1_o _ _ _ _ (by decide), u1_o _ _ _ _ (by decide)]; exact e41
  have gk : (u1 (u1 M 44 1 0) 44 2 0).1 3 o = nI k := by rw [u1_o _ _ _ _ (by decide), u1_o _ _ _ _ (by decide)]; exact yk
  have gf : (u1 (u1 M 44 1 0) 44 2 0).1 5 o = s (8 + 6 * o + 2) := by rw [u1_o _ _ _ _ (by decide), u1_o _ _ _ _ (by decide)]; exact yf
  refine J_blk a_X5_act_51 ?_
  simp only [b_X5_act_51, w_iconst_1, w_icmp_eq, w_nil, kd_0, kd_1, kd_2, kd_3, kd_4, kd_5, kd_6, kd_7, kd_10, kd_11, kd_12, kd_13, kd_14, kd_15, kd_16, kd_19, kd_28, kd_29, kd_30, kd_31, kd_32, kd_33, kd_34, kd_35, kd_36, kd_37, kd_38, kd_39, kd_40, kd_41, kd_42, kd_43, kd_44, kd_45, ln_2, ln_3, ln_4, ln_5, ln_6, ln_7, ln_11, ln_12, ln_13, ln_14, ln_15, ln_16, ln_29, ln_30, ln_32, ln_33, ln_34, ln_35, ln_36, ln_37, ln_38, ln_40, ln_41, ln_42, ln_43, ln_45, Option.toList_some, Option.toList_none, List.cons_append, List.nil_append, true_and, and_true, if_true, if_false, true_or, or_true, Nat.reduceAdd, Int.reduceAdd, Bool.false_eq_true, tn_0, tn_1, tn_2, tn_3, tn_4, tn_5, tn_6, tn_7, hs]
  refine ⟨fun _ => ?_, fun h => absurd trivial h⟩
  refine J_blk a_X5_act_57 ?_
  simp only [b_X5_act_57, w_aload_n0, w_getf5, ne0_39, w_getf2, ne0_2, w_iload_n1, w_iald, w_istore5, nl_5n, nl_5i, nl_5a, ne0_44, ne0_1, w_getf4, w_iload5, ne0_4, w_iload_n2, w_iload_n3, w_nil, kd_0, kd_1, kd_2, kd_3, kd_4, kd_5, kd_6, kd_7, kd_10, kd_11, kd_12, kd_13, kd_14, kd_15, kd_16, kd_19, kd_28, kd_29, kd_30, kd_31, kd_32, kd_33, kd_34, kd_35, kd_36, kd_37, kd_38, kd_39, kd_40, kd_41, kd_42, kd_43, kd_44, kd_45, ln_2, ln_3, ln_4, ln_5, ln_6, ln_7, ln_11, ln_12, ln_13, ln_14, ln_15, ln_16, ln_29, ln_30, ln_32, ln_33, ln_34, ln_35, ln_36, ln_37, ln_38, ln_40, ln_41, ln_42, ln_43, ln_45, Option.toList_some, Option.toList_none, List.cons_append, List.nil_append, true_and, and_true, if_true, if_false, true_or, or_true, Nat.reduceAdd, Int.reduceAdd, Bool.false_eq_true, tn_0, tn_1, tn_2, tn_3, tn_4, tn_5, tn_6, tn_7, th, g41, to, gk, gf]
  refine ⟨vinN hh (by decide), vinN (by omega) (by decide), vinN (by omega) (by decide), ?_⟩
  refine J_callVr (ci := 0) (play_c hk act x ha) k_X5_act_96 o_X0_play (rfl) rfl rfl rfl (by decide) rfl (Nat.le_of_ble_eq_true rfl) ?_
  refine J_blk a_X5_act_99 ?_
  simp only [b_X5_act_99, w_ireti, kd_0, kd_1, kd_2, kd_3, kd_4, kd_5, kd_6, kd_7, kd_10, kd_11, kd_12, kd_13, kd_14, kd_15, kd_16, kd_19, kd_28, kd_29, kd_30, kd_31, kd_32, kd_33, kd_34, kd_35, kd_36, kd_37, kd_38, kd_39, kd_40, kd_41, kd_42, kd_43, kd_44, kd_45, ln_2, ln_3, ln_4, ln_5, ln_6, ln_7, ln_11, ln_12, ln_13, ln_14, ln_15, ln_16, ln_29, ln_30, ln_32, ln_33, ln_34, ln_35, ln_36, ln_37, ln_38, ln_40, ln_41, ln_42, ln_43, ln_45, Option.toList_some, Option.toList_none, List.cons_append, List.nil_append, true_and, and_true, if_true, if_false, true_or, or_true, Nat.reduceAdd, Int.reduceAdd, Bool.false_eq_true, tn_0, tn_1, tn_2, tn_3, tn_4, tn_5, tn_6, tn_7]
  first | exact ⟨rfl, rfl⟩ | (simp_all [Rt])
end AC


