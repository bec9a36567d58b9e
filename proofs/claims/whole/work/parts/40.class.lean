/-! the class: what is tried -/
/-- a difference of two small ones -/
def DF (z : Int32) (A B : Nat) : Prop := ∃ a b, a ≤ A ∧ b ≤ B ∧ z = nI a - nI b
theorem DF.n {a A : Nat} (h : a ≤ A) (B : Nat) : DF (nI a) A B := ⟨a, 0, h, by omega, by rw [nI_0]; simp⟩
theorem DF.up {z : Int32} {A B C D : Nat} (h : DF z A B) (h1 : A ≤ C) (h2 : B ≤ D) : DF z C D := by
  obtain ⟨a, b, ha, hb, e⟩ := h
  exact ⟨a, b, by omega, by omega, e⟩
theorem DF.sub {z w : Int32} {A B C D : Nat} (h : DF z A B) (h2 : DF w C D) : DF (z - w) (A + D) (B + C) := by
  obtain ⟨a, b, ha, hb, e⟩ := h
  obtain ⟨c, d, hc, hd, e2⟩ := h2
  refine ⟨a + d, b + c, by omega, by omega, ?_⟩
  rw [e, e2, ← nI_add, ← nI_add]
  grind
theorem DF.add {z w : Int32} {A B C D : Nat} (h : DF z A B) (h2 : DF w C D) : DF (z + w) (A + C) (B + D) := by
  obtain ⟨a, b, ha, hb, e⟩ := h
  obtain ⟨c, d, hc, hd, e2⟩ := h2
  refine ⟨a + c, b + d, by omega, by omega, ?_⟩
  rw [e, e2, ← nI_add, ← nI_add]
  grind
theorem DF.pos {z : Int32} {A B : Nat} (h : DF z A B) (hA : A < 10000) (hB : B < 10000) (hp : 0 < z) : ∃ w, w ≤ A ∧ z = nI w := by
  obtain ⟨a, b, ha, hb, e⟩ := h
  rcases Nat.lt_or_ge a b with hlt | hge
  · rw [e] at hp
    exact absurd (pk_sneg (by omega) hlt) (Int32.not_lt.mpr (Int32.le_of_lt hp))
  · rw [pk_sub hge] at e
    exact ⟨a - b, by omega, e⟩
def LB (s : Nat → Int32) : Prop := (∃ a, a ≤ 9 ∧ s 4 = nI a) ∧ (∃ a, a ≤ 9 ∧ s 5 = nI a) ∧ (∃ a, a ≤ 9 ∧ s 6 = nI a) ∧ (∃ a, a ≤ 99 ∧ s 7 = nI a)
theorem hin_df {s : Nat → Int32} {n o : Nat} (hw : WF s n) (hl : LB s) (ho : o < n) : DF (hinS s o) 24 1 := by
  obtain ⟨f, hf, ef⟩ := (hw.2.2 o ho).2.2.1
  obtain ⟨a, ha, ea⟩ := hl.1
  have e3 : nI f / 3 = nI (f / 3) := pk_div (d := 3) (by omega) (by omega) (by omega)
  have m1 : DF (nI (f / 3) - 1) 24 1 := ⟨f / 3, 1, by omega, by omega, rfl⟩
  have z0 : DF 0 24 1 := DF.n (a := 0) (by omega) 1
  unfold hinS
  rw [ef, e3, ea, nI_add, show (2 : Int32) * nI (f / 3 + a) = nI (2 * (f / 3 + a)) from pk_mul 2 _]
  split
  · exact m1
  · split
    · exact DF.n (by omega) 1
    · split
      · split
        · exact m1
        · exact z0
      · split
        · exact DF.n (by omega) 1
        · split
          · exact z0
          · exact DF.n (by omega) 1
theorem pl_df {s : Nat → Int32} {n o : Nat} (hw : WF s n) (hl : LB s) (ho : o < n) (st : Nat → Bool) : ∀ k, k ≤ n → DF (plS s st o k) (9 + k) (24 * k) := by
  obtain ⟨f, hf, ef⟩ := (hw.2.2 o ho).2.2.1
  intro k
  induction k with
  | zero => intro _; rw [plS, ef]; exact DF.n (by omega) _
  | succ k ih =>
    intro hk
    rw [plS]
    split
    · exact ((ih (by omega)).sub (hin_df hw hl (show k < n by omega))).up (by omega) (by omega)
    · have z0 : DF 0 0 0 := DF.n (a := 0) (by omega) 0
      exact ((ih (by omega)).sub z0).up (by omega) (by omega)
theorem up_df {s : Nat → Int32} {o : Nat} (st : Nat → Bool) : ∀ k, DF (upS s st o k) k 0 := by
  intro k
  induction k with
  | zero => exact DF.n (a := 0) (by omega) 0
  | succ k ih =>
    rw [upS]
    split
    · have o1 : DF 1 1 0 := DF.n (a := 1) (by omega) 0
      exact ih.add o1
    · have z0 : DF 0 0 0 := DF.n (a := 0) (by omega) 0
      exact (ih.add z0).up (by omega) (by omega)
theorem bear_df {s : Nat → Int32} {n o : Nat} (hw : WF s n) (hl : LB s) (ho : o < n) (st : Nat → Bool) : DF (bearS s st n o) 30 300 := by
  have h8 := hw.2.1
  have p := pl_df hw hl ho st n (Nat.le_refl n)
  have u := up_df (s := s) (o := o) st n
  obtain ⟨b, hb, eb⟩ := hl.2.1
  obtain ⟨c, hc, ec⟩ := hl.2.2.1
  obtain ⟨a, ha, ea⟩ := (hw.2.2 o ho).2.2.2.1
  have e10 : nI a / 10 = nI (a / 10) := pk_div (d := 10) (by omega) (by omega) (by omega)
  have db : DF (nI b) 9 0 := DF.n hb 0
  have dc : DF (nI c) 9 0 := DF.n hc 0
  have da : DF (nI (a / 10)) 9 0 := DF.n (by omega) 0
  have z0 : DF 0 30 300 := DF.n (a := 0) (by omega) 300
  unfold bearS beS
  rw [eb, ec, ea, e10]
  split
  · exact (p.add db).up (by omega) (by omega)
  · split
    · exact (p.sub u).up (by omega) (by omega)
    · split
      · split
        · exact z0
        · exact (p.add db).up (by omega) (by omega)
      · split
        · exact ((p.sub u).sub da).up (by omega) (by omega)
        · split
          · split
            · exact (p.add dc).up (by omega) (by omega)
            · exact p.up (by omega) (by omega)
          · exact p.up (by omega) (by omega)
theorem sm_nI {s : Nat → Int32} {n : Nat} (hw : WF s n) (hl : LB s) (st : Nat → Bool) : ∀ k, k ≤ n → ∃ v, v ≤ 30 * k ∧ smS s st n k = nI v := by
  intro k
  induction k with
  | zero => intro _; exact ⟨0, by omega, rfl⟩
  | succ k ih =>
    intro hk
    obtain ⟨v, hv, e⟩ := ih (by omega)
    rw [smS, e]
    split
    · next c =>
      obtain ⟨w, hw2, e2⟩ := (bear_df hw hl (show k < n by omega) st).pos (by omega) (by omega) c.2
      exact ⟨v + w, by omega, by rw [e2, nI_add]⟩
    · exact ⟨v, by omega, by simp⟩
theorem sum_nI {s : Nat → Int32} {n : Nat} (hw : WF s n) (hl : LB s) : ∃ v, v ≤ 240 ∧ sumS s n = nI v := by
  have h8 := hw.2.1
  obtain ⟨v, hv, e⟩ := sm_nI hw hl (sd s) n (Nat.le_refl n)
  exact ⟨v, by omega, e⟩
theorem LB_year {s : Nat → Int32} {n : Nat} (hl : LB s) (st : Nat → Bool) (sum : Int32) : LB (yearR s st n sum) := by
  have e : ∀ j, 4 ≤ j → j < 8 → yearR s st n sum j = s j := fun j h1 h2 => by
    unfold yearR
    rw [if_neg (by omega), if_neg (by omega), ybS_low _ _ _ _ h2]
  unfold LB
  rw [e 4 (by omega) (by omega), e 5 (by omega) (by omega), e 6 (by omega) (by omega), e 7 (by omega) (by omega)]
  exact hl
theorem LB_yrs {s : Nat → Int32} {n : Nat} (hl : LB s) : ∀ k, LB (yrs s n k) := by
  intro k
  induction k with
  | zero => exact hl
  | succ k ih => exact LB_year ih _ _
theorem hv_nI {s : Nat → Int32} {n : Nat} (hw : WF s n) (hl : LB s) : ∀ k, ∃ v, v ≤ 240 * k ∧ hvS s n k = nI v := by
  intro k
  induction k with
  | zero => exact ⟨0, by omega, rfl⟩
  | succ k ih =>
    obtain ⟨v, hv, e⟩ := ih
    obtain ⟨w, hw2, e2⟩ := sum_nI (WF_yrs hw k) (LB_yrs hl k)
    exact ⟨v + w, by omega, by rw [hvS, e, e2, nI_add]⟩
theorem hv_0 {s : Nat → Int32} {n k : Nat} (hw : WF s n) (hl : LB s) (hk : k ≤ 100) : 0 ≤ hvS s n k := by
  obtain ⟨v, hv, e⟩ := hv_nI hw hl k
  rw [e]
  exact nI_pos' (by omega)
theorem LB_hi {s : Nat → Int32} (hl : LB s) {j : Nat} (v : Int32) (h : j < 4 ∨ 8 ≤ j) : LB (upd s j v) := by
  unfold LB
  rw [pk_un (by omega), pk_un (by omega), pk_un (by omega), pk_un (by omega)]
  exact hl
theorem LB_ct {s : Nat → Int32} {n : Nat} {set : Int32} (hl : LB s) : LB (ctR s set n) := by
  unfold LB
  rw [ctR_low _ _ _ (by omega), ctR_low _ _ _ (by omega), ctR_low _ _ _ (by omega), ctR_low _ _ _ (by omega)]
  exact hl
section TRY
variable {n : Nat} {s : Nat → Int32} {M : Mm}
theorem charvest_t (hw : WF s n) (hl : WL s n) (hx : RX M 1 s n) (y : Nat) (hy2 : y ≤ 60) : K 5 mX5_harvest [.ref 0, .int (nI y)] M (Rq (some (.int (hvS s n y))) (fun M' => RX M' 1 s n ∧ FC M M')) := by
  have h8 := hw.2.1
  have h1 : 0 ≤ nI y ∧ nI y ≤ 60 := ok2 (m := 60) hy2 (by decide)
  have go : J 5 mX5_harvest 10 [some (.ref 0), some (.int (nI y))] [] M (Rq (some (.int (hvS s n y))) (fun M' => RX M' 1 s n ∧ FC M M')) := by
    refine J_blk a_X5_harvest_10 ?_
    simp only [b_X5_harvest_10, w_aload_n0, w_nil, kd_0, kd_1, kd_2, kd_3, kd_4, kd_5, kd_6, kd_7, kd_10, kd_11, kd_12, kd_13, kd_14, kd_15, kd_16, kd_19, kd_28, kd_29, kd_30, kd_31, kd_32, kd_33, kd_34, kd_35, kd_36, kd_37, kd_38, kd_39, kd_40, kd_41, kd_42, kd_43, kd_44, kd_45, ln_2, ln_3, ln_4, ln_5, ln_6, ln_7, ln_11, ln_12, ln_13, ln_14, ln_15, ln_16, ln_29, ln_30, ln_32, ln_33, ln_34, ln_35, ln_36, ln_37, ln_38, ln_40, ln_41, ln_42, ln_43, ln_45, Option.toList_some, Option.toList_none, List.cons_append, List.nil_append, true_and, and_true, if_true, if_false, true_or, or_true, Nat.reduceAdd, Int.reduceAdd, Bool.false_eq_true, tn_0, tn_1, tn_2, tn_3, tn_4, tn_5, tn_6, tn_7]
    refine J_callV (ci := 5) (tryNow_c h8 hx) k_X5_harvest_11 o_X5_tryNow (rfl) rfl rfl rfl (by decide) rfl (Nat.le_of_ble_eq_true rfl) ?_
    rintro r M1 ⟨rfl, g1, g2⟩
    refine J_blk a_X5_harvest_14 ?_
    simp only [b_X5_harvest_14, w_iload_n1, w_nil, kd_0, kd_1, kd_2, kd_3, kd_4, kd_5, kd_6, kd_7, kd_10, kd_11, kd_12, kd_13, kd_14, kd_15, kd_16, kd_19, kd_28, kd_29, kd_30, kd_31, kd_32, kd_33, kd_34, kd_35, kd_36, kd_37, kd_38, kd_39, kd_40, kd_41, kd_42, kd_43, kd_44, kd_45, ln_2, ln_3, ln_4, ln_5, ln_6, ln_7, ln_11, ln_12, ln_13, ln_14, ln_15, ln_16, ln_29, ln_30, ln_32, ln_33, ln_34, ln_35, ln_36, ln_37, ln_38, ln_40, ln_41, ln_42, ln_43, ln_45, Option.toList_some, Option.toList_none, List.cons_append, List.nil_append, true_and, and_true, if_true, if_false, true_or, or_true, Nat.reduceAdd, Int.reduceAdd, Bool.false_eq_true, tn_0, tn_1, tn_2, tn_3, tn_4, tn_5, tn_6, tn_7]
    refine J_callV (ci := 4) (passYears_c hw hl g1 (Or.inr (Or.inl rfl)) hy2) k_X5_harvest_15 o_X4_passYears (rfl) rfl rfl rfl (by decide) rfl (Nat.le_of_ble_eq_true rfl) ?_
    rintro r M2 ⟨rfl, k1, k2⟩
    refine J_blk a_X5_harvest_18 ?_
    simp only [b_X5_harvest_18, w_goto, kd_0, kd_1, kd_2, kd_3, kd_4, kd_5, kd_6, kd_7, kd_10, kd_11, kd_12, kd_13, kd_14, kd_15, kd_16, kd_19, kd_28, kd_29, kd_30, kd_31, kd_32, kd_33, kd_34, kd_35, kd_36, kd_37, kd_38, kd_39, kd_40, kd_41, kd_42, kd_43, kd_44, kd_45, ln_2, ln_3, ln_4, ln_5, ln_6, ln_7, ln_11, ln_12, ln_13, ln_14, ln_15, ln_16, ln_29, ln_30, ln_32, ln_33, ln_34, ln_35, ln_36, ln_37, ln_38, ln_40, ln_41, ln_42, ln_43, ln_45, Option.toList_some, Option.toList_none, List.cons_append, List.nil_append, true_and, and_true, if_true, if_false, true_or, or_true, Nat.reduceAdd, Int.reduceAdd, Bool.false_eq_true, tn_0, tn_1, tn_2, tn_3, tn_4, tn_5, tn_6, tn_7]
    refine J_blk a_X5_harvest_22 ?_
    simp only [b_X5_harvest_22, w_ireti, kd_0, kd_1, kd_2, kd_3, kd_4, kd_5, kd_6, kd_7, kd_10, kd_11, kd_12, kd_13, kd_14, kd_15, kd_16, kd_19, kd_28, kd_29, kd_30, kd_31, kd_32, kd_33, kd_34, kd_35, kd_36, kd_37, kd_38, kd_39, kd_40, kd_41, kd_42, kd_43, kd_44, kd_45, ln_2, ln_3, ln_4, ln_5, ln_6, ln_7, ln_11, ln_12, ln_13, ln_14, ln_15, ln_16, ln_29, ln_30, ln_32, ln_33, ln_34, ln_35, ln_36, ln_37, ln_38, ln_40, ln_41, ln_42, ln_43, ln_45, Option.toList_some, Option.toList_none, List.cons_append, List.nil_append, true_and, and_true, if_true, if_false, true_or, or_true, Nat.reduceAdd, Int.reduceAdd, Bool.false_eq_true, tn_0, tn_1, tn_2, tn_3, tn_4, tn_5, tn_6, tn_7]
    exact ⟨rfl, RX_10 (g2.trans k2) hx, (g2.trans k2).c10⟩
  refine K_go 1 o_X5_harvest [] rfl (Nat.le_of_ble_eq_true rfl) ?_
  simp only [lvA_i, lvA_a, lvA_l, lvA_nil, List.cons_append, List.nil_append]
  refine J_blk a_X5_harvest_0 ?_
  simp only [b_X5_harvest_0, w_iload_n1, w_iconst_0, w_bipush, ci_60, w_nil, kd_0, kd_1, kd_2, kd_3, kd_4, kd_5, kd_6, kd_7, kd_10, kd_11, kd_12, kd_13, kd_14, kd_15, kd_16, kd_19, kd_28, kd_29, kd_30, kd_31, kd_32, kd_33, kd_34, kd_35, kd_36, kd_37, kd_38, kd_39, kd_40, kd_41, kd_42, kd_43, kd_44, kd_45, ln_2, ln_3, ln_4, ln_5, ln_6, ln_7, ln_11, ln_12, ln_13, ln_14, ln_15, ln_16, ln_29, ln_30, ln_32, ln_33, ln_34, ln_35, ln_36, ln_37, ln_38, ln_40, ln_41, ln_42, ln_43, ln_45, Option.toList_some, Option.toList_none, List.cons_append, List.nil_append, true_and, and_true, if_true, if_false, true_or, or_true, Nat.reduceAdd, Int.reduceAdd, Bool.false_eq_true, tn_0, tn_1, tn_2, tn_3, tn_4, tn_5, tn_6, tn_7]
  refine J_callSr (within_c _ _ _ _) k_X5_harvest_4 o_X5_within rfl (by decide) rfl (Nat.le_of_ble_eq_true rfl) ?_
  rw [if_pos (by first | exact h1 | exact h2 | exact h3 | exact h4)]
  refine J_blk a_X5_harvest_7 ?_
  simp only [b_X5_harvest_7, w_if_eq, w_nil, kd_0, kd_1, kd_2, kd_3, kd_4, kd_5, kd_6, kd_7, kd_10, kd_11, kd_12, kd_13, kd_14, kd_15, kd_16, kd_19, kd_28, kd_29, kd_30, kd_31, kd_32, kd_33, kd_34, kd_35, kd_36, kd_37, kd_38, kd_39, kd_40, kd_41, kd_42, kd_43, kd_44, kd_45, ln_2, ln_3, ln_4, ln_5, ln_6, ln_7, ln_11, ln_12, ln_13, ln_14, ln_15, ln_16, ln_29, ln_30, ln_32, ln_33, ln_34, ln_35, ln_36, ln_37, ln_38, ln_40, ln_41, ln_42, ln_43, ln_45, Option.toList_some, Option.toList_none, List.cons_append, List.nil_append, true_and, and_true, if_true, if_false, true_or, or_true, Nat.reduceAdd, Int.reduceAdd, Bool.false_eq_true, tn_0, tn_1, tn_2, tn_3, tn_4, tn_5, tn_6, tn_7]
  refine ⟨fun c1 => ?_, fun c1 => ?_⟩
  · first
      | exact absurd c1 (by decide)
      | (refine J_blk a_X5_harvest_21 ?_
         simp only [b_X5_harvest_21, w_iconst_m1, w_nil, kd_0, kd_1, kd_2, kd_3, kd_4, kd_5, kd_6, kd_7, kd_10, kd_11, kd_12, kd_13, kd_14, kd_15, kd_16, kd_19, kd_28, kd_29, kd_30, kd_31, kd_32, kd_33, kd_34, kd_35, kd_36, kd_37, kd_38, kd_39, kd_40, kd_41, kd_42, kd_43, kd_44, kd_45, ln_2, ln_3, ln_4, ln_5, ln_6, ln_7, ln_11, ln_12, ln_13, ln_14, ln_15, ln_16, ln_29, ln_30, ln_32, ln_33, ln_34, ln_35, ln_36, ln_37, ln_38, ln_40, ln_41, ln_42, ln_43, ln_45, Option.toList_some, Option.toList_none, List.cons_append, List.nil_append, true_and, and_true, if_true, if_false, true_or, or_true, Nat.reduceAdd, Int.reduceAdd, Bool.false_eq_true, tn_0, tn_1, tn_2, tn_3, tn_4, tn_5, tn_6, tn_7]
         refine J_blk a_X5_harvest_22 ?_
         simp only [b_X5_harvest_22, w_ireti, kd_0, kd_1, kd_2, kd_3, kd_4, kd_5, kd_6, kd_7, kd_10, kd_11, kd_12, kd_13, kd_14, kd_15, kd_16, kd_19, kd_28, kd_29, kd_30, kd_31, kd_32, kd_33, kd_34, kd_35, kd_36, kd_37, kd_38, kd_39, kd_40, kd_41, kd_42, kd_43, kd_44, kd_45, ln_2, ln_3, ln_4, ln_5, ln_6, ln_7, ln_11, ln_12, ln_13, ln_14, ln_15, ln_16, ln_29, ln_30, ln_32, ln_33, ln_34, ln_35, ln_36, ln_37, ln_38, ln_40, ln_41, ln_42, ln_43, ln_45, Option.toList_some, Option.toList_none, List.cons_append, List.nil_append, true_and, and_true, if_true, if_false, true_or, or_true, Nat.reduceAdd, Int.reduceAdd, Bool.false_eq_true, tn_0, tn_1, tn_2, tn_3, tn_4, tn_5, tn_6, tn_7]
         first | exact ⟨rfl, rfl⟩ | (simp_all [Rt]))
  · first
      | exact absurd c1 (by decide)
      | (exact go)
theorem cbare_c (hw : WF s n) (hl : WL s n) (hx : RX M 1 s n) : K 4 mX5_bare [.ref 0] M (Rq (some (.int (fst1 (fun k => baB (yrs s n k) n) 61 0))) (fun M' => RX M' 1 s n ∧ FC M M')) := by
  have h8 := hw.2.1
  have loop : ∀ f k, f + k = 61 → ∀ M1 : Mm, RX M1 10 (yrs s n k) n → FB 10 M M1 → J 4 mX5_bare 7 [some (.ref 0), some (.int (nI k))] [] M1 (Rq (some (.int (fst1 (fun k => baB (yrs s n k) n) f k))) (fun M' => RX M' 1 s n ∧ FC M M')) := by
    intro f
    induction f with
    | zero =>
      intro k hk M1 g1 g2
      have : k = 61 := by omega
      subst this
      refine J_blk a_X5_bare_7 ?_
      simp only [b_X5_bare_7, w_iload_n1, w_bipush, ci_60, w_icmp_gt, w_nil, kd_0, kd_1, kd_2, kd_3, kd_4, kd_5, kd_6, kd_7, kd_10, kd_11, kd_12, kd_13, kd_14, kd_15, kd_16, kd_19, kd_28, kd_29, kd_30, kd_31, kd_32, kd_33, kd_34, kd_35, kd_36, kd_37, kd_38, kd_39, kd_40, kd_41, kd_42, kd_43, kd_44, kd_45, ln_2, ln_3, ln_4, ln_5, ln_6, ln_7, ln_11, ln_12, ln_13, ln_14, ln_15, ln_16, ln_29, ln_30, ln_32, ln_33, ln_34, ln_35, ln_36, ln_37, ln_38, ln_40, ln_41, ln_42, ln_43, ln_45, Option.toList_some, Option.toList_none, List.cons_append, List.nil_append, true_and, and_true, if_true, if_false, true_or, or_true, Nat.reduceAdd, Int.reduceAdd, Bool.false_eq_true, tn_0, tn_1, tn_2, tn_3, tn_4, tn_5, tn_6, tn_7]
      refine ⟨fun _ => ?_, fun h => absurd (show (60 : Int32) < nI 61 by decide) h⟩
      refine J_blk a_X5_bare_39 ?_
      simp only [b_X5_bare_39, w_bipush, ci_m3, w_ireti, kd_0, kd_1, kd_2, kd_3, kd_4, kd_5, kd_6, kd_7, kd_10, kd_11, kd_12, kd_13, kd_14, kd_15, kd_16, kd_19, kd_28, kd_29, kd_30, kd_31, kd_32, kd_33, kd_34, kd_35, kd_36, kd_37, kd_38, kd_39, kd_40, kd_41, kd_42, kd_43, kd_44, kd_45, ln_2, ln_3, ln_4, ln_5, ln_6, ln_7, ln_11, ln_12, ln_13, ln_14, ln_15, ln_16, ln_29, ln_30, ln_32, ln_33, ln_34, ln_35, ln_36, ln_37, ln_38, ln_40, ln_41, ln_42, ln_43, ln_45, Option.toList_some, Option.toList_none, List.cons_append, List.nil_append, true_and, and_true, if_true, if_false, true_or, or_true, Nat.reduceAdd, Int.reduceAdd, Bool.false_eq_true, tn_0, tn_1, tn_2, tn_3, tn_4, tn_5, tn_6, tn_7]
      exact ⟨rfl, RX_10 g2 hx, g2.c10⟩
    | succ f ih =>
      intro k hk M1 g1 g2
      have e60 : (60 < nI k) = (60 < k) := propext (nI_ltI (a := 60) (by decide) (by omega))
      refine J_blk a_X5_bare_7 ?_
      simp only [b_X5_bare_7, w_iload_n1, w_bipush, ci_60, w_icmp_gt, w_nil, kd_0, kd_1, kd_2, kd_3, kd_4, kd_5, kd_6, kd_7, kd_10, kd_11, kd_12, kd_13, kd_14, kd_15, kd_16, kd_19, kd_28, kd_29, kd_30, kd_31, kd_32, kd_33, kd_34, kd_35, kd_36, kd_37, kd_38, kd_39, kd_40, kd_41, kd_42, kd_43, kd_44, kd_45, ln_2, ln_3, ln_4, ln_5, ln_6, ln_7, ln_11, ln_12, ln_13, ln_14, ln_15, ln_16, ln_29, ln_30, ln_32, ln_33, ln_34, ln_35, ln_36, ln_37, ln_38, ln_40, ln_41, ln_42, ln_43, ln_45, Option.toList_some, Option.toList_none, List.cons_append, List.nil_append, true_and, and_true, if_true, if_false, true_or, or_true, Nat.reduceAdd, Int.reduceAdd, Bool.false_eq_true, tn_0, tn_1, tn_2, tn_3, tn_4, tn_5, tn_6, tn_7, e60]
      refine ⟨fun h => absurd h (by omega), fun _ => ?_⟩
      refine J_blk a_X5_bare_13 ?_
      simp only [b_X5_bare_13, w_aload_n0, w_getf5, ne0_10, w_nil, kd_0, kd_1, kd_2, kd_3, kd_4, kd_5, kd_6, kd_7, kd_10, kd_11, kd_12, kd_13, kd_14, kd_15, kd_16, kd_19, kd_28, kd_29, kd_30, kd_31, kd_32, kd_33, kd_34, kd_35, kd_36, kd_37, kd_38, kd_39, kd_40, kd_41, kd_42, kd_43, kd_44, kd_45, ln_2, ln_3, ln_4, ln_5, ln_6, ln_7, ln_11, ln_12, ln_13, ln_14, ln_15, ln_16, ln_29, ln_30, ln_32, ln_33, ln_34, ln_35, ln_36, ln_37, ln_38, ln_40, ln_41, ln_42, ln_43, ln_45, Option.toList_some, Option.toList_none, List.cons_append, List.nil_append, true_and, and_true, if_true, if_false, true_or, or_true, Nat.reduceAdd, Int.reduceAdd, Bool.false_eq_true, tn_0, tn_1, tn_2, tn_3, tn_4, tn_5, tn_6, tn_7]
      refine J_callV (ci := 4) (isBare_c (WF_yrs hw k) g1 (Or.inr (Or.inl rfl))) k_X5_bare_17 o_X4_isBare (rfl) rfl rfl rfl (by decide) rfl (Nat.le_of_ble_eq_true rfl) ?_
      rintro r M2 ⟨rfl, k1, k2⟩
      rw [fst1]
      cases hb : baB (yrs s n k) n
      · rw [if_neg (by simp)]
        refine J_blk a_X5_bare_20 ?_
        simp only [b_X5_bare_20, w_if_eq, w_nil, kd_0, kd_1, kd_2, kd_3, kd_4, kd_5, kd_6, kd_7, kd_10, kd_11, kd_12, kd_13, kd_14, kd_15, kd_16, kd_19, kd_28, kd_29, kd_30, kd_31, kd_32, kd_33, kd_34, kd_35, kd_36, kd_37, kd_38, kd_39, kd_40, kd_41, kd_42, kd_43, kd_44, kd_45, ln_2, ln_3, ln_4, ln_5, ln_6, ln_7, ln_11, ln_12, ln_13, ln_14, ln_15, ln_16, ln_29, ln_30, ln_32, ln_33, ln_34, ln_35, ln_36, ln_37, ln_38, ln_40, ln_41, ln_42, ln_43, ln_45, Option.toList_some, Option.toList_none, List.cons_append, List.nil_append, true_and, and_true, if_true, if_false, true_or, or_true, Nat.reduceAdd, Int.reduceAdd, Bool.false_eq_true, tn_0, tn_1, tn_2, tn_3, tn_4, tn_5, tn_6, tn_7]
        refine ⟨fun _ => ?_, fun h => absurd rfl h⟩
        refine J_blk a_X5_bare_25 ?_
        simp only [b_X5_bare_25, w_aload_n0, w_getf5, ne0_10, w_nil, kd_0, kd_1, kd_2, kd_3, kd_4, kd_5, kd_6, kd_7, kd_10, kd_11, kd_12, kd_13, kd_14, kd_15, kd_16, kd_19, kd_28, kd_29, kd_30, kd_31, kd_32, kd_33, kd_34, kd_35, kd_36, kd_37, kd_38, kd_39, kd_40, kd_41, kd_42, kd_43, kd_44, kd_45, ln_2, ln_3, ln_4, ln_5, ln_6, ln_7, ln_11, ln_12, ln_13, ln_14, ln_15, ln_16, ln_29, ln_30, ln_32, ln_33, ln_34, ln_35, ln_36, ln_37, ln_38, ln_40, ln_41, ln_42, ln_43, ln_45, Option.toList_some, Option.toList_none, List.cons_append, List.nil_append, true_and, and_true, if_true, if_false, true_or, or_true, Nat.reduceAdd, Int.reduceAdd, Bool.false_eq_true, tn_0, tn_1, tn_2, tn_3, tn_4, tn_5, tn_6, tn_7]
        refine J_callV (ci := 4) (passYear_c (WF_yrs hw k) (WL_yrs hl k) k1 (Or.inr (Or.inl rfl))) k_X5_bare_29 o_X4_passYear (rfl) rfl rfl rfl (by decide) rfl (Nat.le_of_ble_eq_true rfl) ?_
        rintro r M3 ⟨rfl, l1, l2, l3⟩
        refine J_blk a_X5_bare_32 ?_
        simp only [b_X5_bare_32, w_pop_i, w_pop_a, w_iinc1, nl_1n, nl_1i, nl_1a, ci_1, w_goto, kd_0, kd_1, kd_2, kd_3, kd_4, kd_5, kd_6, kd_7, kd_10, kd_11, kd_12, kd_13, kd_14, kd_15, kd_16, kd_19, kd_28, kd_29, kd_30, kd_31, kd_32, kd_33, kd_34, kd_35, kd_36, kd_37, kd_38, kd_39, kd_40, kd_41, kd_42, kd_43, kd_44, kd_45, ln_2, ln_3, ln_4, ln_5, ln_6, ln_7, ln_11, ln_12, ln_13, ln_14, ln_15, ln_16, ln_29, ln_30, ln_32, ln_33, ln_34, ln_35, ln_36, ln_37, ln_38, ln_40, ln_41, ln_42, ln_43, ln_45, Option.toList_some, Option.toList_none, List.cons_append, List.nil_append, true_and, and_true, if_true, if_false, true_or, or_true, Nat.reduceAdd, Int.reduceAdd, Bool.false_eq_true, tn_0, tn_1, tn_2, tn_3, tn_4, tn_5, tn_6, tn_7, nI_1]
        exact ih (k + 1) (by omega) M3 l1 ((g2.trans k2).trans l2)
      · rw [if_pos rfl]
        refine J_blk a_X5_bare_20 ?_
        simp only [b_X5_bare_20, w_if_eq, w_nil, kd_0, kd_1, kd_2, kd_3, kd_4, kd_5, kd_6, kd_7, kd_10, kd_11, kd_12, kd_13, kd_14, kd_15, kd_16, kd_19, kd_28, kd_29, kd_30, kd_31, kd_32, kd_33, kd_34, kd_35, kd_36, kd_37, kd_38, kd_39, kd_40, kd_41, kd_42, kd_43, kd_44, kd_45, ln_2, ln_3, ln_4, ln_5, ln_6, ln_7, ln_11, ln_12, ln_13, ln_14, ln_15, ln_16, ln_29, ln_30, ln_32, ln_33, ln_34, ln_35, ln_36, ln_37, ln_38, ln_40, ln_41, ln_42, ln_43, ln_45, Option.toList_some, Option.toList_none, List.cons_append, List.nil_append, true_and, and_true, if_true, if_false, true_or, or_true, Nat.reduceAdd, Int.reduceAdd, Bool.false_eq_true, tn_0, tn_1, tn_2, tn_3, tn_4, tn_5, tn_6, tn_7]
        refine ⟨fun h => absurd h (by decide), fun _ => ?_⟩
        refine J_blk a_X5_bare_23 ?_
        simp only [b_X5_bare_23, w_iload_n1, w_ireti, kd_0, kd_1, kd_2, kd_3, kd_4, kd_5, kd_6, kd_7, kd_10, kd_11, kd_12, kd_13, kd_14, kd_15, kd_16, kd_19, kd_28, kd_29, kd_30, kd_31, kd_32, kd_33, kd_34, kd_35, kd_36, kd_37, kd_38, kd_39, kd_40, kd_41, kd_42, kd_43, kd_44, kd_45, ln_2, ln_3, ln_4, ln_5, ln_6, ln_7, ln_11, ln_12, ln_13, ln_14, ln_15, ln_16, ln_29, ln_30, ln_32, ln_33, ln_34, ln_35, ln_36, ln_37, ln_38, ln_40, ln_41, ln_42, ln_43, ln_45, Option.toList_some, Option.toList_none, List.cons_append, List.nil_append, true_and, and_true, if_true, if_false, true_or, or_true, Nat.reduceAdd, Int.reduceAdd, Bool.false_eq_true, tn_0, tn_1, tn_2, tn_3, tn_4, tn_5, tn_6, tn_7]
        exact ⟨rfl, RX_10 (g2.trans k2) hx, (g2.trans k2).c10⟩
  refine K_go 0 o_X5_bare [none] rfl (Nat.le_of_ble_eq_true rfl) ?_
  simp only [lvA_i, lvA_a, lvA_l, lvA_nil, List.cons_append, List.nil_append]
  refine J_blk a_X5_bare_0 ?_
  simp only [b_X5_bare_0, w_aload_n0, w_nil, kd_0, kd_1, kd_2, kd_3, kd_4, kd_5, kd_6, kd_7, kd_10, kd_11, kd_12, kd_13, kd_14, kd_15, kd_16, kd_19, kd_28, kd_29, kd_30, kd_31, kd_32, kd_33, kd_34, kd_35, kd_36, kd_37, kd_38, kd_39, kd_40, kd_41, kd_42, kd_43, kd_44, kd_45, ln_2, ln_3, ln_4, ln_5, ln_6, ln_7, ln_11, ln_12, ln_13, ln_14, ln_15, ln_16, ln_29, ln_30, ln_32, ln_33, ln_34, ln_35, ln_36, ln_37, ln_38, ln_40, ln_41, ln_42, ln_43, ln_45, Option.toList_some, Option.toList_none, List.cons_append, List.nil_append, true_and, and_true, if_true, if_false, true_or, or_true, Nat.reduceAdd, Int.reduceAdd, Bool.false_eq_true, tn_0, tn_1, tn_2, tn_3, tn_4, tn_5, tn_6, tn_7]
  refine J_callV (ci := 5) (tryNow_c h8 hx) k_X5_bare_1 o_X5_tryNow (rfl) rfl rfl rfl (by decide) rfl (Nat.le_of_ble_eq_true rfl) ?_
  rintro r M1 ⟨rfl, g1, g2⟩
  refine J_blk a_X5_bare_4 ?_
  simp only [b_X5_bare_4, w_pop_i, w_pop_a, w_iconst_0, w_istore1, nl_1n, nl_1i, nl_1a, w_nil, kd_0, kd_1, kd_2, kd_3, kd_4, kd_5, kd_6, kd_7, kd_10, kd_11, kd_12, kd_13, kd_14, kd_15, kd_16, kd_19, kd_28, kd_29, kd_30, kd_31, kd_32, kd_33, kd_34, kd_35, kd_36, kd_37, kd_38, kd_39, kd_40, kd_41, kd_42, kd_43, kd_44, kd_45, ln_2, ln_3, ln_4, ln_5, ln_6, ln_7, ln_11, ln_12, ln_13, ln_14, ln_15, ln_16, ln_29, ln_30, ln_32, ln_33, ln_34, ln_35, ln_36, ln_37, ln_38, ln_40, ln_41, ln_42, ln_43, ln_45, Option.toList_some, Option.toList_none, List.cons_append, List.nil_append, true_and, and_true, if_true, if_false, true_or, or_true, Nat.reduceAdd, Int.reduceAdd, Bool.false_eq_true, tn_0, tn_1, tn_2, tn_3, tn_4, tn_5, tn_6, tn_7]
  exact loop 61 0 (by omega) M1 g1 g2
theorem cripe_t (hw : WF s n) (hl : WL s n) (hx : RX M 1 s n) (o : Nat) (hj : o < n) : K 4 mX5_ripe [.ref 0, .int (nI o)] M (Rq (some (.int (fst1 (fun k => decide (9 ≤ yrs s n k (8 + 6 * o + 2))) 61 0))) (fun M' => RX M' 1 s n ∧ FC M M')) := by
  have h8 := hw.2.1
  have ho := ok1 hj (by omega)
  have to : (nI o).toNatClampNeg = o := nI_clamp (by omega)
  have loop : ∀ f k, f + k = 61 → ∀ M1 : Mm, RX M1 10 (yrs s n k) n → FB 10 M M1 → J 4 mX5_ripe 20 [some (.ref 0), some (.int (nI o)), some (.int (nI k))] [] M1 (Rq (some (.int (fst1 (fun k => decide (9 ≤ yrs s n k (8 + 6 * o + 2))) f k))) (fun M' => RX M' 1 s n ∧ FC M M')) := by
    intro f
    induction f with
    | zero =>
      intro k hk M1 g1 g2
      have : k = 61 := by omega
      subst this
      refine J_blk a_X5_ripe_20 ?_
      simp only [b_X5_ripe_20, w_iload_n2, w_bipush, ci_60, w_icmp_gt, w_nil, kd_0, kd_1, kd_2, kd_3, kd_4, kd_5, kd_6, kd_7, kd_10, kd_11, kd_12, kd_13, kd_14, kd_15, kd_16, kd_19, kd_28, kd_29, kd_30, kd_31, kd_32, kd_33, kd_34, kd_35, kd_36, kd_37, kd_38, kd_39, kd_40, kd_41, kd_42, kd_43, kd_44, kd_45, ln_2, ln_3, ln_4, ln_5, ln_6, ln_7, ln_11, ln_12, ln_13, ln_14, ln_15, ln_16, ln_29, ln_30, ln_32, ln_33, ln_34, ln_35, ln_36, ln_37, ln_38, ln_40, ln_41, ln_42, ln_43, ln_45, Option.toList_some, Option.toList_none, List.cons_append, List.nil_append, true_and, and_true, if_true, if_false, true_or, or_true, Nat.reduceAdd, Int.reduceAdd, Bool.false_eq_true, tn_0, tn_1, tn_2, tn_3, tn_4, tn_5, tn_6, tn_7]
      refine ⟨fun _ => ?_, fun h => absurd (show (60 : Int32) < nI 61 by decide) h⟩
      refine J_blk a_X5_ripe_56 ?_
      simp only [b_X5_ripe_56, w_bipush, ci_m3, w_ireti, kd_0, kd_1, kd_2, kd_3, kd_4, kd_5, kd_6, kd_7, kd_10, kd_11, kd_12, kd_13, kd_14, kd_15, kd_16, kd_19, kd_28, kd_29, kd_30, kd_31, kd_32, kd_33, kd_34, kd_35, kd_36, kd_37, kd_38, kd_39, kd_40, kd_41, kd_42, kd_43, kd_44, kd_45, ln_2, ln_3, ln_4, ln_5, ln_6, ln_7, ln_11, ln_12, ln_13, ln_14, ln_15, ln_16, ln_29, ln_30, ln_32, ln_33, ln_34, ln_35, ln_36, ln_37, ln_38, ln_40, ln_41, ln_42, ln_43, ln_45, Option.toList_some, Option.toList_none, List.cons_append, List.nil_append, true_and, and_true, if_true, if_false, true_or, or_true, Nat.reduceAdd, Int.reduceAdd, Bool.false_eq_true, tn_0, tn_1, tn_2, tn_3, tn_4, tn_5, tn_6, tn_7]
      exact ⟨rfl, RX_10 g2 hx, g2.c10⟩
    | succ f ih =>
      intro k hk M1 g1 g2
      have e60 : (60 < nI k) = (60 < k) := propext (nI_ltI (a := 60) (by decide) (by omega))
      have q4 : M1.1 14 o = yrs s n k (8 + 6 * o + 2) := (g1.2.2.2.2.2.2 o hj).2.2.1
      obtain ⟨v, hv, ev⟩ := ((WF_yrs hw k).2.2 o hj).2.2.1
      have e9 : (yrs s n k (8 + 6 * o + 2) = 9) = (v = 9) := by rw [ev]; exact propext (nI_eq (b := 9) (by omega) (by decide))
      have l9 : (9 ≤ yrs s n k (8 + 6 * o + 2)) = (9 ≤ v) := by rw [ev]; exact propext (nI_leI (a := 9) (by decide) (by omega))
      rw [fst1]
      simp only [l9, decide_eq_true_eq]
      refine J_blk a_X5_ripe_20 ?_
      simp only [b_X5_ripe_20, w_iload_n2, w_bipush, ci_60, w_icmp_gt, w_nil, kd_0, kd_1, kd_2, kd_3, kd_4, kd_5, kd_6, kd_7, kd_10, kd_11, kd_12, kd_13, kd_14, kd_15, kd_16, kd_19, kd_28, kd_29, kd_30, kd_31, kd_32, kd_33, kd_34, kd_35, kd_36, kd_37, kd_38, kd_39, kd_40, kd_41, kd_42, kd_43, kd_44, kd_45, ln_2, ln_3, ln_4, ln_5, ln_6, ln_7, ln_11, ln_12, ln_13, ln_14, ln_15, ln_16, ln_29, ln_30, ln_32, ln_33, ln_34, ln_35, ln_36, ln_37, ln_38, ln_40, ln_41, ln_42, ln_43, ln_45, Option.toList_some, Option.toList_none, List.cons_append, List.nil_append, true_and, and_true, if_true, if_false, true_or, or_true, Nat.reduceAdd, Int.reduceAdd, Bool.false_eq_true, tn_0, tn_1, tn_2, tn_3, tn_4, tn_5, tn_6, tn_7, e60]
      refine ⟨fun h => absurd h (by omega), fun _ => ?_⟩
      refine J_blk a_X5_ripe_26 ?_
      simp only [b_X5_ripe_26, w_aload_n0, w_getf5, ne0_10, w_getf4, ne0_4, w_iload_n1, w_iald, w_bipush, ci_9, w_icmp_ne, w_nil, kd_0, kd_1, kd_2, kd_3, kd_4, kd_5, kd_6, kd_7, kd_10, kd_11, kd_12, kd_13, kd_14, kd_15, kd_16, kd_19, kd_28, kd_29, kd_30, kd_31, kd_32, kd_33, kd_34, kd_35, kd_36, kd_37, kd_38, kd_39, kd_40, kd_41, kd_42, kd_43, kd_44, kd_45, ln_2, ln_3, ln_4, ln_5, ln_6, ln_7, ln_11, ln_12, ln_13, ln_14, ln_15, ln_16, ln_29, ln_30, ln_32, ln_33, ln_34, ln_35, ln_36, ln_37, ln_38, ln_40, ln_41, ln_42, ln_43, ln_45, Option.toList_some, Option.toList_none, List.cons_append, List.nil_append, true_and, and_true, if_true, if_false, true_or, or_true, Nat.reduceAdd, Int.reduceAdd, Bool.false_eq_true, tn_0, tn_1, tn_2, tn_3, tn_4, tn_5, tn_6, tn_7, to, q4, e9]
      refine ⟨vinN (by omega) (by decide), fun c => ?_, fun c => ?_⟩
      · rw [if_neg (by omega)]
        refine J_blk a_X5_ripe_42 ?_
        simp only [b_X5_ripe_42, w_aload_n0, w_getf5, ne0_10, w_nil, kd_0, kd_1, kd_2, kd_3, kd_4, kd_5, kd_6, kd_7, kd_10, kd_11, kd_12, kd_13, kd_14, kd_15, kd_16, kd_19, kd_28, kd_29, kd_30, kd_31, kd_32, kd_33, kd_34, kd_35, kd_36, kd_37, kd_38, kd_39, kd_40, kd_41, kd_42, kd_43, kd_44, kd_45, ln_2, ln_3, ln_4, ln_5, ln_6, ln_7, ln_11, ln_12, ln_13, ln_14, ln_15, ln_16, ln_29, ln_30, ln_32, ln_33, ln_34, ln_35, ln_36, ln_37, ln_38, ln_40, ln_41, ln_42, ln_43, ln_45, Option.toList_some, Option.toList_none, List.cons_append, List.nil_append, true_and, and_true, if_true, if_false, true_or, or_true, Nat.reduceAdd, Int.reduceAdd, Bool.false_eq_true, tn_0, tn_1, tn_2, tn_3, tn_4, tn_5, tn_6, tn_7]
        refine J_callV (ci := 4) (passYear_c (WF_yrs hw k) (WL_yrs hl k) g1 (Or.inr (Or.inl rfl))) k_X5_ripe_46 o_X4_passYear (rfl) rfl rfl rfl (by decide) rfl (Nat.le_of_ble_eq_true rfl) ?_
        rintro r M3 ⟨rfl, l1, l2, l3⟩
        refine J_blk a_X5_ripe_49 ?_
        simp only [b_X5_ripe_49, w_pop_i, w_pop_a, w_iinc2, nl_2n, nl_2i, nl_2a, ci_1, w_goto, kd_0, kd_1, kd_2, kd_3, kd_4, kd_5, kd_6, kd_7, kd_10, kd_11, kd_12, kd_13, kd_14, kd_15, kd_16, kd_19, kd_28, kd_29, kd_30, kd_31, kd_32, kd_33, kd_34, kd_35, kd_36, kd_37, kd_38, kd_39, kd_40, kd_41, kd_42, kd_43, kd_44, kd_45, ln_2, ln_3, ln_4, ln_5, ln_6, ln_7, ln_11, ln_12, ln_13, ln_14, ln_15, ln_16, ln_29, ln_30, ln_32, ln_33, ln_34, ln_35, ln_36, ln_37, ln_38, ln_40, ln_41, ln_42, ln_43, ln_45, Option.toList_some, Option.toList_none, List.cons_append, List.nil_append, true_and, and_true, if_true, if_false, true_or, or_true, Nat.reduceAdd, Int.reduceAdd, Bool.false_eq_true, tn_0, tn_1, tn_2, tn_3, tn_4, tn_5, tn_6, tn_7, nI_1]
        exact ih (k + 1) (by omega) M3 l1 (g2.trans l2)
      · rw [if_pos (by omega)]
        refine J_blk a_X5_ripe_40 ?_
        simp only [b_X5_ripe_40, w_iload_n2, w_ireti, kd_0, kd_1, kd_2, kd_3, kd_4, kd_5, kd_6, kd_7, kd_10, kd_11, kd_12, kd_13, kd_14, kd_15, kd_16, kd_19, kd_28, kd_29, kd_30, kd_31, kd_32, kd_33, kd_34, kd_35, kd_36, kd_37, kd_38, kd_39, kd_40, kd_41, kd_42, kd_43, kd_44, kd_45, ln_2, ln_3, ln_4, ln_5, ln_6, ln_7, ln_11, ln_12, ln_13, ln_14, ln_15, ln_16, ln_29, ln_30, ln_32, ln_33, ln_34, ln_35, ln_36, ln_37, ln_38, ln_40, ln_41, ln_42, ln_43, ln_45, Option.toList_some, Option.toList_none, List.cons_append, List.nil_append, true_and, and_true, if_true, if_false, true_or, or_true, Nat.reduceAdd, Int.reduceAdd, Bool.false_eq_true, tn_0, tn_1, tn_2, tn_3, tn_4, tn_5, tn_6, tn_7]
        exact ⟨rfl, RX_10 g2 hx, g2.c10⟩
  have go : J 4 mX5_ripe 13 [some (.ref 0), some (.int (nI o)), none] [] M (Rq (some (.int (fst1 (fun k => decide (9 ≤ yrs s n k (8 + 6 * o + 2))) 61 0))) (fun M' => RX M' 1 s n ∧ FC M M')) := by
    refine J_blk a_X5_ripe_13 ?_
    simp only [b_X5_ripe_13, w_aload_n0, w_nil, kd_0, kd_1, kd_2, kd_3, kd_4, kd_5, kd_6, kd_7, kd_10, kd_11, kd_12, kd_13, kd_14, kd_15, kd_16, kd_19, kd_28, kd_29, kd_30, kd_31, kd_32, kd_33, kd_34, kd_35, kd_36, kd_37, kd_38, kd_39, kd_40, kd_41, kd_42, kd_43, kd_44, kd_45, ln_2, ln_3, ln_4, ln_5, ln_6, ln_7, ln_11, ln_12, ln_13, ln_14, ln_15, ln_16, ln_29, ln_30, ln_32, ln_33, ln_34, ln_35, ln_36, ln_37, ln_38, ln_40, ln_41, ln_42, ln_43, ln_45, Option.toList_some, Option.toList_none, List.cons_append, List.nil_append, true_and, and_true, if_true, if_false, true_or, or_true, Nat.reduceAdd, Int.reduceAdd, Bool.false_eq_true, tn_0, tn_1, tn_2, tn_3, tn_4, tn_5, tn_6, tn_7]
    refine J_callV (ci := 5) (tryNow_c h8 hx) k_X5_ripe_14 o_X5_tryNow (rfl) rfl rfl rfl (by decide) rfl (Nat.le_of_ble_eq_true rfl) ?_
    rintro r M1 ⟨rfl, g1, g2⟩
    refine J_blk a_X5_ripe_17 ?_
    simp only [b_X5_ripe_17, w_pop_i, w_pop_a, w_iconst_0, w_istore2, nl_2n, nl_2i, nl_2a, w_nil, kd_0, kd_1, kd_2, kd_3, kd_4, kd_5, kd_6, kd_7, kd_10, kd_11, kd_12, kd_13, kd_14, kd_15, kd_16, kd_19, kd_28, kd_29, kd_30, kd_31, kd_32, kd_33, kd_34, kd_35, kd_36, kd_37, kd_38, kd_39, kd_40, kd_41, kd_42, kd_43, kd_44, kd_45, ln_2, ln_3, ln_4, ln_5, ln_6, ln_7, ln_11, ln_12, ln_13, ln_14, ln_15, ln_16, ln_29, ln_30, ln_32, ln_33, ln_34, ln_35, ln_36, ln_37, ln_38, ln_40, ln_41, ln_42, ln_43, ln_45, Option.toList_some, Option.toList_none, List.cons_append, List.nil_append, true_and, and_true, if_true, if_false, true_or, or_true, Nat.reduceAdd, Int.reduceAdd, Bool.false_eq_true, tn_0, tn_1, tn_2, tn_3, tn_4, tn_5, tn_6, tn_7]
    exact loop 61 0 (by omega) M1 g1 g2
  refine K_go 1 o_X5_ripe [none] rfl (Nat.le_of_ble_eq_true rfl) ?_
  simp only [lvA_i, lvA_a, lvA_l, lvA_nil, List.cons_append, List.nil_append]
  refine J_blk a_X5_ripe_0 ?_
  simp only [b_X5_ripe_0, w_aload_n0, w_getf5, ne0_1, w_iload_n1, w_nil, kd_0, kd_1, kd_2, kd_3, kd_4, kd_5, kd_6, kd_7, kd_10, kd_11, kd_12, kd_13, kd_14, kd_15, kd_16, kd_19, kd_28, kd_29, kd_30, kd_31, kd_32, kd_33, kd_34, kd_35, kd_36, kd_37, kd_38, kd_39, kd_40, kd_41, kd_42, kd_43, kd_44, kd_45, ln_2, ln_3, ln_4, ln_5, ln_6, ln_7, ln_11, ln_12, ln_13, ln_14, ln_15, ln_16, ln_29, ln_30, ln_32, ln_33, ln_34, ln_35, ln_36, ln_37, ln_38, ln_40, ln_41, ln_42, ln_43, ln_45, Option.toList_some, Option.toList_none, List.cons_append, List.nil_append, true_and, and_true, if_true, if_false, true_or, or_true, Nat.reduceAdd, Int.reduceAdd, Bool.false_eq_true, tn_0, tn_1, tn_2, tn_3, tn_4, tn_5, tn_6, tn_7]
  refine J_callVr (ci := 4) (has2 hw hx (Or.inl rfl) _) k_X5_ripe_5 o_X4_has (rfl) rfl rfl rfl (by decide) rfl (Nat.le_of_ble_eq_true rfl) ?_
  rw [if_pos ho]
  refine J_blk a_X5_ripe_8 ?_
  simp only [b_X5_ripe_8, w_if_ne, w_nil, kd_0, kd_1, kd_2, kd_3, kd_4, kd_5, kd_6, kd_7, kd_10, kd_11, kd_12, kd_13, kd_14, kd_15, kd_16, kd_19, kd_28, kd_29, kd_30, kd_31, kd_32, kd_33, kd_34, kd_35, kd_36, kd_37, kd_38, kd_39, kd_40, kd_41, kd_42, kd_43, kd_44, kd_45, ln_2, ln_3, ln_4, ln_5, ln_6, ln_7, ln_11, ln_12, ln_13, ln_14, ln_15, ln_16, ln_29, ln_30, ln_32, ln_33, ln_34, ln_35, ln_36, ln_37, ln_38, ln_40, ln_41, ln_42, ln_43, ln_45, Option.toList_some, Option.toList_none, List.cons_append, List.nil_append, true_and, and_true, if_true, if_false, true_or, or_true, Nat.reduceAdd, Int.reduceAdd, Bool.false_eq_true, tn_0, tn_1, tn_2, tn_3, tn_4, tn_5, tn_6, tn_7]
  refine ⟨fun c2 => ?_, fun c2 => ?_⟩
  · first
      | exact absurd c2 (by decide)
      | (exact go)
  · first
      | exact absurd c2 (by decide)
      | (refine J_blk a_X5_ripe_11 ?_
         simp only [b_X5_ripe_11, w_iconst_m1, w_ireti, kd_0, kd_1, kd_2, kd_3, kd_4, kd_5, kd_6, kd_7, kd_10, kd_11, kd_12, kd_13, kd_14, kd_15, kd_16, kd_19, kd_28, kd_29, kd_30, kd_31, kd_32, kd_33, kd_34, kd_35, kd_36, kd_37, kd_38, kd_39, kd_40, kd_41, kd_42, kd_43, kd_44, kd_45, ln_2, ln_3, ln_4, ln_5, ln_6, ln_7, ln_11, ln_12, ln_13, ln_14, ln_15, ln_16, ln_29, ln_30, ln_32, ln_33, ln_34, ln_35, ln_36, ln_37, ln_38, ln_40, ln_41, ln_42, ln_43, ln_45, Option.toList_some, Option.toList_none, List.cons_append, List.nil_append, true_and, and_true, if_true, if_false, true_or, or_true, Nat.reduceAdd, Int.reduceAdd, Bool.false_eq_true, tn_0, tn_1, tn_2, tn_3, tn_4, tn_5, tn_6, tn_7]
         first | exact ⟨rfl, rfl⟩ | (simp_all [Rt]))
theorem WL_hi {s : Nat → Int32} {n : Nat} (h : WL s n) {j : Nat} (v : Int32) (hj : ∀ o, o < n → j ≠ 8 + 6 * o + 4 ∧ j ≠ 8 + 6 * o + 5) : WL (upd s j v) n := by
  intro o ho
  obtain ⟨a, b⟩ := hj o ho
  rw [pk_un (fun e => a e.symm), pk_un (fun e => b e.symm)]
  exact h o ho
theorem hvCut_c (hw : WF s n) (hl : WL s n) (hx : RX M 1 s n) (set : Int32) (y : Nat) (hset : ∀ i, i < 32 → n ≤ i → bt set i = false) (hy2 : y ≤ 60) : K 5 mX5_harvestCutting [.ref 0, .int set, .int (nI y)] M (Rq (some (.int (hvS (ctR s set n) n y))) (fun M' => RX M' 1 s n ∧ FC M M')) := by
  have h8 := hw.2.1
  refine K_go 2 o_X5_harvestCutting [] rfl (Nat.le_of_ble_eq_true rfl) ?_
  simp only [lvA_i, lvA_a, lvA_l, lvA_nil, List.cons_append, List.nil_append]
  refine J_blk a_X5_harvestCutting_0 ?_
  simp only [b_X5_harvestCutting_0, w_aload_n0, w_nil, kd_0, kd_1, kd_2, kd_3, kd_4, kd_5, kd_6, kd_7, kd_10, kd_11, kd_12, kd_13, kd_14, kd_15, kd_16, kd_19, kd_28, kd_29, kd_30, kd_31, kd_32, kd_33, kd_34, kd_35, kd_36, kd_37, kd_38, kd_39, kd_40, kd_41, kd_42, kd_43, kd_44, kd_45, ln_2, ln_3, ln_4, ln_5, ln_6, ln_7, ln_11, ln_12, ln_13, ln_14, ln_15, ln_16, ln_29, ln_30, ln_32, ln_33, ln_34, ln_35, ln_36, ln_37, ln_38, ln_40, ln_41, ln_42, ln_43, ln_45, Option.toList_some, Option.toList_none, List.cons_append, List.nil_append, true_and, and_true, if_true, if_false, true_or, or_true, Nat.reduceAdd, Int.reduceAdd, Bool.false_eq_true, tn_0, tn_1, tn_2, tn_3, tn_4, tn_5, tn_6, tn_7]
  refine J_callV (ci := 5) (tryNow_c h8 hx) k_X5_harvestCutting_1 o_X5_tryNow (rfl) rfl rfl rfl (by decide) rfl (Nat.le_of_ble_eq_true rfl) ?_
  rintro r M1 ⟨rfl, g1, g2⟩
  have x6 : M1.1 10 6 = bsF (cuF s) n := g1.2.2.2.2.1
  refine J_blk a_X5_harvestCutting_4 ?_
  simp only [b_X5_harvestCutting_4, w_dup_i, w_dup_a, w_getf4, w_iload_n1, w_ior, w_putf4, w_aload_n0, w_getf5, ne0_10, w_iload_n2, w_nil, kd_0, kd_1, kd_2, kd_3, kd_4, kd_5, kd_6, kd_7, kd_10, kd_11, kd_12, kd_13, kd_14, kd_15, kd_16, kd_19, kd_28, kd_29, kd_30, kd_31, kd_32, kd_33, kd_34, kd_35, kd_36, kd_37, kd_38, kd_39, kd_40, kd_41, kd_42, kd_43, kd_44, kd_45, ln_2, ln_3, ln_4, ln_5, ln_6, ln_7, ln_11, ln_12, ln_13, ln_14, ln_15, ln_16, ln_29, ln_30, ln_32, ln_33, ln_34, ln_35, ln_36, ln_37, ln_38, ln_40, ln_41, ln_42, ln_43, ln_45, Option.toList_some, Option.toList_none, List.cons_append, List.nil_append, true_and, and_true, if_true, if_false, true_or, or_true, Nat.reduceAdd, Int.reduceAdd, Bool.false_eq_true, tn_0, tn_1, tn_2, tn_3, tn_4, tn_5, tn_6, tn_7, x6]
  refine J_callV (ci := 4) (passYears_c (WF_ctR hw set) (WL_ct hw hl) (RX_ct hw g1 hset) (Or.inr (Or.inl rfl)) hy2) k_X5_harvestCutting_18 o_X4_passYears (rfl) rfl rfl rfl (by decide) rfl (Nat.le_of_ble_eq_true rfl) ?_
  rintro r M2 ⟨rfl, k1, k2⟩
  have f : FB 10 M M2 := (g2.trans (FB_u1 M1 _ _ (by omega))).trans k2
  refine J_blk a_X5_harvestCutting_21 ?_
  simp only [b_X5_harvestCutting_21, w_ireti, kd_0, kd_1, kd_2, kd_3, kd_4, kd_5, kd_6, kd_7, kd_10, kd_11, kd_12, kd_13, kd_14, kd_15, kd_16, kd_19, kd_28, kd_29, kd_30, kd_31, kd_32, kd_33, kd_34, kd_35, kd_36, kd_37, kd_38, kd_39, kd_40, kd_41, kd_42, kd_43, kd_44, kd_45, ln_2, ln_3, ln_4, ln_5, ln_6, ln_7, ln_11, ln_12, ln_13, ln_14, ln_15, ln_16, ln_29, ln_30, ln_32, ln_33, ln_34, ln_35, ln_36, ln_37, ln_38, ln_40, ln_41, ln_42, ln_43, ln_45, Option.toList_some, Option.toList_none, List.cons_append, List.nil_append, true_and, and_true, if_true, if_false, true_or, or_true, Nat.reduceAdd, Int.reduceAdd, Bool.false_eq_true, tn_0, tn_1, tn_2, tn_3, tn_4, tn_5, tn_6, tn_7]
  exact ⟨rfl, RX_10 f hx, f.c10⟩
theorem shl_bt {o n : Nat} (ho : o < n) (h8 : n ≤ 8) : ∀ i, i < 32 → n ≤ i → bt ((1 : Int32) <<< (nI o &&& 31)) i = false := fun i hi hn => by
  rw [bt_shl1 (by omega) hi, decide_eq_false (by omega)]
theorem nI_bt {k n : Nat} (hk : k < 2 ^ n) (h8 : n ≤ 8) : ∀ i, i < 32 → n ≤ i → bt (nI k) i = false := by
  intro i hi hn
  have hp := p256 h8
  have e : (nI k).toBitVec.toNat = k := pk_tn (by omega)
  unfold bt
  rw [BitVec.getLsbD, e]
  exact Nat.testBit_lt_two_pow (Nat.lt_of_lt_of_le hk (Nat.pow_le_pow_right (by omega) hn))
theorem mx_0 (v : Nat → Int32) (b0 m0 : Int32) (h0 : 0 ≤ m0) : ∀ k, 0 ≤ (mxS v b0 m0 k).2 := by
  intro k
  induction k with
  | zero => exact h0
  | succ k ih =>
    rw [mxS]
    split
    · next c => exact Int32.le_trans ih (Int32.le_of_lt c)
    · exact ih
theorem ccutFor_t (hw : WF s n) (hl : WL s n) (hb : LB s) (hx : RX M 1 s n) (y : Nat) (hy : 1 ≤ y) (hy2 : y ≤ 20) : K 6 mX5_cutFor [.ref 0, .int (nI y)] M (Rq (some (.int (mxS (cfV s n y) (-3) (hvS s n y) n).1)) (fun M' => RX M' 1 s n ∧ FC M M')) := by
  have h8 := hw.2.1
  have h1 : 1 ≤ nI y ∧ nI y ≤ 20 := ok3 (m := 20) hy hy2 (by decide)
  have p0 := mx_0 (cfV s n y) (-3) (hvS s n y) (hv_0 hw hb (by omega))
  have loop : ∀ k, k ≤ n → ∀ (M1 : Mm) (z : Option Value), RX M1 1 s n → FC M M1 → J 6 mX5_cutFor 36 [some (.ref 0), some (.int (nI y)), some (.int (bsF (sd s) n)), some (.int (mxS (cfV s n y) (-3) (hvS s n y) k).2), some (.int (mxS (cfV s n y) (-3) (hvS s n y) k).1), some (.int (nI k)), z] [] M1 (Rq (some (.int (mxS (cfV s n y) (-3) (hvS s n y) n).1)) (fun M' => RX M' 1 s n ∧ FC M M')) := by
    refine down n ?_ ?_
    · intro M1 z g1 g2
      have x7 : M1.1 1 7 = nI n := g1.1
      refine J_blk a_X5_cutFor_36 ?_
      simp only [b_X5_cutFor_36, w_iload5, w_aload_n0, w_getf5, ne0_1, w_getf4, w_icmp_ge, w_nil, kd_0, kd_1, kd_2, kd_3, kd_4, kd_5, kd_6, kd_7, kd_10, kd_11, kd_12, kd_13, kd_14, kd_15, kd_16, kd_19, kd_28, kd_29, kd_30, kd_31, kd_32, kd_33, kd_34, kd_35, kd_36, kd_37, kd_38, kd_39, kd_40, kd_41, kd_42, kd_43, kd_44, kd_45, ln_2, ln_3, ln_4, ln_5, ln_6, ln_7, ln_11, ln_12, ln_13, ln_14, ln_15, ln_16, ln_29, ln_30, ln_32, ln_33, ln_34, ln_35, ln_36, ln_37, ln_38, ln_40, ln_41, ln_42, ln_43, ln_45, Option.toList_some, Option.toList_none, List.cons_append, List.nil_append, true_and, and_true, if_true, if_false, true_or, or_true, Nat.reduceAdd, Int.reduceAdd, Bool.false_eq_true, tn_0, tn_1, tn_2, tn_3, tn_4, tn_5, tn_6, tn_7, x7]
      refine ⟨fun _ => ?_, fun h => absurd (Int32.le_refl _) h⟩
      refine J_blk a_X5_cutFor_92 ?_
      simp only [b_X5_cutFor_92, w_iload4, w_ireti, kd_0, kd_1, kd_2, kd_3, kd_4, kd_5, kd_6, kd_7, kd_10, kd_11, kd_12, kd_13, kd_14, kd_15, kd_16, kd_19, kd_28, kd_29, kd_30, kd_31, kd_32, kd_33, kd_34, kd_35, kd_36, kd_37, kd_38, kd_39, kd_40, kd_41, kd_42, kd_43, kd_44, kd_45, ln_2, ln_3, ln_4, ln_5, ln_6, ln_7, ln_11, ln_12, ln_13, ln_14, ln_15, ln_16, ln_29, ln_30, ln_32, ln_33, ln_34, ln_35, ln_36, ln_37, ln_38, ln_40, ln_41, ln_42, ln_43, ln_45, Option.toList_some, Option.toList_none, List.cons_append, List.nil_append, true_and, and_true, if_true, if_false, true_or, or_true, Nat.reduceAdd, Int.reduceAdd, Bool.false_eq_true, tn_0, tn_1, tn_2, tn_3, tn_4, tn_5, tn_6, tn_7]
      exact ⟨rfl, g1, g2⟩
    · intro k hk ih M1 z g1 g2
      have x7 : M1.1 1 7 = nI n := g1.1
      have hbt : bt (bsF (sd s) n) k = sd s k := bt_sd h8 hk
      have pk := p0 k
      simp only [mxS] at ih
      have done : ∀ (M2 : Mm) (v : Int32), RX M2 1 s n → FC M M2 → ((mxS (cfV s n y) (-3) (hvS s n y) k).2 < v ↔ (mxS (cfV s n y) (-3) (hvS s n y) k).2 < cfV s n y k) → ((mxS (cfV s n y) (-3) (hvS s n y) k).2 < v → v = cfV s n y k) → J 6 mX5_cutFor 71 [some (.ref 0), some (.int (nI y)), some (.int (bsF (sd s) n)), some (.int (mxS (cfV s n y) (-3) (hvS s n y) k).2), some (.int (mxS (cfV s n y) (-3) (hvS s n y) k).1), some (.int (nI k)), z] [.int v] M2 (Rq (some (.int (mxS (cfV s n y) (-3) (hvS s n y) n).1)) (fun M' => RX M' 1 s n ∧ FC M M')) := by
        intro M2 v k1 k2 hiff hve
        generalize mxS (cfV s n y) (-3) (hvS s n y) k = q at *
        refine J_blk a_X5_cutFor_71 ?_
        simp only [b_X5_cutFor_71, w_istore6, nl_6n, nl_6i, nl_6a, w_iload6, w_iload_n3, w_icmp_le, w_nil, kd_0, kd_1, kd_2, kd_3, kd_4, kd_5, kd_6, kd_7, kd_10, kd_11, kd_12, kd_13, kd_14, kd_15, kd_16, kd_19, kd_28, kd_29, kd_30, kd_31, kd_32, kd_33, kd_34, kd_35, kd_36, kd_37, kd_38, kd_39, kd_40, kd_41, kd_42, kd_43, kd_44, kd_45, ln_2, ln_3, ln_4, ln_5, ln_6, ln_7, ln_11, ln_12, ln_13, ln_14, ln_15, ln_16, ln_29, ln_30, ln_32, ln_33, ln_34, ln_35, ln_36, ln_37, ln_38, ln_40, ln_41, ln_42, ln_43, ln_45, Option.toList_some, Option.toList_none, List.cons_append, List.nil_append, true_and, and_true, if_true, if_false, true_or, or_true, Nat.reduceAdd, Int.reduceAdd, Bool.false_eq_true, tn_0, tn_1, tn_2, tn_3, tn_4, tn_5, tn_6, tn_7]
        refine ⟨fun c => ?_, fun c => ?_⟩
        · simp only [if_neg (fun h => absurd (hiff.mpr h) (Int32.not_lt.mpr c))] at ih
          refine J_blk a_X5_cutFor_86 ?_
          simp only [b_X5_cutFor_86, w_iinc5, nl_5n, nl_5i, nl_5a, ci_1, w_goto, kd_0, kd_1, kd_2, kd_3, kd_4, kd_5, kd_6, kd_7, kd_10, kd_11, kd_12, kd_13, kd_14, kd_15, kd_16, kd_19, kd_28, kd_29, kd_30, kd_31, kd_32, kd_33, kd_34, kd_35, kd_36, kd_37, kd_38, kd_39, kd_40, kd_41, kd_42, kd_43, kd_44, kd_45, ln_2, ln_3, ln_4, ln_5, ln_6, ln_7, ln_11, ln_12, ln_13, ln_14, ln_15, ln_16, ln_29, ln_30, ln_32, ln_33, ln_34, ln_35, ln_36, ln_37, ln_38, ln_40, ln_41, ln_42, ln_43, ln_45, Option.toList_some, Option.toList_none, List.cons_append, List.nil_append, true_and, and_true, if_true, if_false, true_or, or_true, Nat.reduceAdd, Int.reduceAdd, Bool.false_eq_true, tn_0, tn_1, tn_2, tn_3, tn_4, tn_5, tn_6, tn_7, nI_1]
          exact ih M2 _ k1 k2
        · have c' := Int32.not_le.mp c
          simp only [if_pos (hiff.mp c')] at ih
          rw [← hve c'] at ih
          refine J_blk a_X5_cutFor_79 ?_
          simp only [b_X5_cutFor_79, w_iload6, w_istore3, nl_3n, nl_3i, nl_3a, w_iload5, w_istore4, nl_4n, nl_4i, nl_4a, w_nil, kd_0, kd_1, kd_2, kd_3, kd_4, kd_5, kd_6, kd_7, kd_10, kd_11, kd_12, kd_13, kd_14, kd_15, kd_16, kd_19, kd_28, kd_29, kd_30, kd_31, kd_32, kd_33, kd_34, kd_35, kd_36, kd_37, kd_38, kd_39, kd_40, kd_41, kd_42, kd_43, kd_44, kd_45, ln_2, ln_3, ln_4, ln_5, ln_6, ln_7, ln_11, ln_12, ln_13, ln_14, ln_15, ln_16, ln_29, ln_30, ln_32, ln_33, ln_34, ln_35, ln_36, ln_37, ln_38, ln_40, ln_41, ln_42, ln_43, ln_45, Option.toList_some, Option.toList_none, List.cons_append, List.nil_append, true_and, and_true, if_true, if_false, true_or, or_true, Nat.reduceAdd, Int.reduceAdd, Bool.false_eq_true, tn_0, tn_1, tn_2, tn_3, tn_4, tn_5, tn_6, tn_7, nI_1]
          refine J_blk a_X5_cutFor_86 ?_
          simp only [b_X5_cutFor_86, w_iinc5, nl_5n, nl_5i, nl_5a, ci_1, w_goto, kd_0, kd_1, kd_2, kd_3, kd_4, kd_5, kd_6, kd_7, kd_10, kd_11, kd_12, kd_13, kd_14, kd_15, kd_16, kd_19, kd_28, kd_29, kd_30, kd_31, kd_32, kd_33, kd_34, kd_35, kd_36, kd_37, kd_38, kd_39, kd_40, kd_41, kd_42, kd_43, kd_44, kd_45, ln_2, ln_3, ln_4, ln_5, ln_6, ln_7, ln_11, ln_12, ln_13, ln_14, ln_15, ln_16, ln_29, ln_30, ln_32, ln_33, ln_34, ln_35, ln_36, ln_37, ln_38, ln_40, ln_41, ln_42, ln_43, ln_45, Option.toList_some, Option.toList_none, List.cons_append, List.nil_append, true_and, and_true, if_true, if_false, true_or, or_true, Nat.reduceAdd, Int.reduceAdd, Bool.false_eq_true, tn_0, tn_1, tn_2, tn_3, tn_4, tn_5, tn_6, tn_7, nI_1]
          exact ih M2 _ k1 k2
      refine J_blk a_X5_cutFor_36 ?_
      simp only [b_X5_cutFor_36, w_iload5, w_aload_n0, w_getf5, ne0_1, w_getf4, w_icmp_ge, w_nil, kd_0, kd_1, kd_2, kd_3, kd_4, kd_5, kd_6, kd_7, kd_10, kd_11, kd_12, kd_13, kd_14, kd_15, kd_16, kd_19, kd_28, kd_29, kd_30, kd_31, kd_32, kd_33, kd_34, kd_35, kd_36, kd_37, kd_38, kd_39, kd_40, kd_41, kd_42, kd_43, kd_44, kd_45, ln_2, ln_3, ln_4, ln_5, ln_6, ln_7, ln_11, ln_12, ln_13, ln_14, ln_15, ln_16, ln_29, ln_30, ln_32, ln_33, ln_34, ln_35, ln_36, ln_37, ln_38, ln_40, ln_41, ln_42, ln_43, ln_45, Option.toList_some, Option.toList_none, List.cons_append, List.nil_append, true_and, and_true, if_true, if_false, true_or, or_true, Nat.reduceAdd, Int.reduceAdd, Bool.false_eq_true, tn_0, tn_1, tn_2, tn_3, tn_4, tn_5, tn_6, tn_7, x7]
      refine ⟨fun h => absurd h (nI_ge hk (by omega)), fun _ => ?_⟩
      refine J_blk a_X5_cutFor_48 ?_
      simp only [b_X5_cutFor_48, w_iload_n2, w_iload5, w_nil, kd_0, kd_1, kd_2, kd_3, kd_4, kd_5, kd_6, kd_7, kd_10, kd_11, kd_12, kd_13, kd_14, kd_15, kd_16, kd_19, kd_28, kd_29, kd_30, kd_31, kd_32, kd_33, kd_34, kd_35, kd_36, kd_37, kd_38, kd_39, kd_40, kd_41, kd_42, kd_43, kd_44, kd_45, ln_2, ln_3, ln_4, ln_5, ln_6, ln_7, ln_11, ln_12, ln_13, ln_14, ln_15, ln_16, ln_29, ln_30, ln_32, ln_33, ln_34, ln_35, ln_36, ln_37, ln_38, ln_40, ln_41, ln_42, ln_43, ln_45, Option.toList_some, Option.toList_none, List.cons_append, List.nil_append, true_and, and_true, if_true, if_false, true_or, or_true, Nat.reduceAdd, Int.reduceAdd, Bool.false_eq_true, tn_0, tn_1, tn_2, tn_3, tn_4, tn_5, tn_6, tn_7]
      refine J_callSr (bit_c _ (by omega) _) k_X5_cutFor_51 o_X5_bit rfl (by decide) rfl (Nat.le_of_ble_eq_true rfl) ?_
      rw [hbt]
      cases hs : sd s k
      · have ev : cfV s n y k = -1 := by unfold cfV; rw [if_neg (by rw [hs]; decide)]
        refine J_blk a_X5_cutFor_54 ?_
        simp only [b_X5_cutFor_54, w_iconst_1, w_icmp_ne, w_nil, kd_0, kd_1, kd_2, kd_3, kd_4, kd_5, kd_6, kd_7, kd_10, kd_11, kd_12, kd_13, kd_14, kd_15, kd_16, kd_19, kd_28, kd_29, kd_30, kd_31, kd_32, kd_33, kd_34, kd_35, kd_36, kd_37, kd_38, kd_39, kd_40, kd_41, kd_42, kd_43, kd_44, kd_45, ln_2, ln_3, ln_4, ln_5, ln_6, ln_7, ln_11, ln_12, ln_13, ln_14, ln_15, ln_16, ln_29, ln_30, ln_32, ln_33, ln_34, ln_35, ln_36, ln_37, ln_38, ln_40, ln_41, ln_42, ln_43, ln_45, Option.toList_some, Option.toList_none, List.cons_append, List.nil_append, true_and, and_true, if_true, if_false, true_or, or_true, Nat.reduceAdd, Int.reduceAdd, Bool.false_eq_true, tn_0, tn_1, tn_2, tn_3, tn_4, tn_5, tn_6, tn_7]
        refine ⟨fun _ => ?_, fun h => absurd h (by decide)⟩
        refine J_blk a_X5_cutFor_70 ?_
        simp only [b_X5_cutFor_70, w_iconst_0, w_nil, kd_0, kd_1, kd_2, kd_3, kd_4, kd_5, kd_6, kd_7, kd_10, kd_11, kd_12, kd_13, kd_14, kd_15, kd_16, kd_19, kd_28, kd_29, kd_30, kd_31, kd_32, kd_33, kd_34, kd_35, kd_36, kd_37, kd_38, kd_39, kd_40, kd_41, kd_42, kd_43, kd_44, kd_45, ln_2, ln_3, ln_4, ln_5, ln_6, ln_7, ln_11, ln_12, ln_13, ln_14, ln_15, ln_16, ln_29, ln_30, ln_32, ln_33, ln_34, ln_35, ln_36, ln_37, ln_38, ln_40, ln_41, ln_42, ln_43, ln_45, Option.toList_some, Option.toList_none, List.cons_append, List.nil_append, true_and, and_true, if_true, if_false, true_or, or_true, Nat.reduceAdd, Int.reduceAdd, Bool.false_eq_true, tn_0, tn_1, tn_2, tn_3, tn_4, tn_5, tn_6, tn_7]
        have n0 : ¬ (mxS (cfV s n y) (-3) (hvS s n y) k).2 < 0 := Int32.not_lt.mpr pk
        have n1 : ¬ (mxS (cfV s n y) (-3) (hvS s n y) k).2 < -1 := Int32.not_lt.mpr (Int32.le_trans (by decide) pk)
        exact done M1 0 g1 g2 (by rw [ev]; exact ⟨fun h => absurd h n0, fun h => absurd h n1⟩) (fun h => absurd h n0)
      · have ev : cfV s n y k = hvS (ctR s ((1 : Int32) <<< (nI k &&& 31)) n) n y := by unfold cfV; rw [if_pos hs]
        refine J_blk a_X5_cutFor_54 ?_
        simp only [b_X5_cutFor_54, w_iconst_1, w_icmp_ne, w_nil, kd_0, kd_1, kd_2, kd_3, kd_4, kd_5, kd_6, kd_7, kd_10, kd_11, kd_12, kd_13, kd_14, kd_15, kd_16, kd_19, kd_28, kd_29, kd_30, kd_31, kd_32, kd_33, kd_34, kd_35, kd_36, kd_37, kd_38, kd_39, kd_40, kd_41, kd_42, kd_43, kd_44, kd_45, ln_2, ln_3, ln_4, ln_5, ln_6, ln_7, ln_11, ln_12, ln_13, ln_14, ln_15, ln_16, ln_29, ln_30, ln_32, ln_33, ln_34, ln_35, ln_36, ln_37, ln_38, ln_40, ln_41, ln_42, ln_43, ln_45, Option.toList_some, Option.toList_none, List.cons_append, List.nil_append, true_and, and_true, if_true, if_false, true_or, or_true, Nat.reduceAdd, Int.reduceAdd, Bool.false_eq_true, tn_0, tn_1, tn_2, tn_3, tn_4, tn_5, tn_6, tn_7]
        refine ⟨fun h => absurd rfl h, fun _ => ?_⟩
        refine J_blk a_X5_cutFor_58 ?_
        simp only [b_X5_cutFor_58, w_aload_n0, w_iconst_1, w_iload5, w_ishl, w_iload_n1, w_nil, kd_0, kd_1, kd_2, kd_3, kd_4, kd_5, kd_6, kd_7, kd_10, kd_11, kd_12, kd_13, kd_14, kd_15, kd_16, kd_19, kd_28, kd_29, kd_30, kd_31, kd_32, kd_33, kd_34, kd_35, kd_36, kd_37, kd_38, kd_39, kd_40, kd_41, kd_42, kd_43, kd_44, kd_45, ln_2, ln_3, ln_4, ln_5, ln_6, ln_7, ln_11, ln_12, ln_13, ln_14, ln_15, ln_16, ln_29, ln_30, ln_32, ln_33, ln_34, ln_35, ln_36, ln_37, ln_38, ln_40, ln_41, ln_42, ln_43, ln_45, Option.toList_some, Option.toList_none, List.cons_append, List.nil_append, true_and, and_true, if_true, if_false, true_or, or_true, Nat.reduceAdd, Int.reduceAdd, Bool.false_eq_true, tn_0, tn_1, tn_2, tn_3, tn_4, tn_5, tn_6, tn_7]
        refine J_callV (ci := 5) (hvCut_c hw hl g1 _ y (shl_bt hk h8) (by omega)) k_X5_cutFor_64 o_X5_harvestCutting (rfl) rfl rfl rfl (by decide) rfl (Nat.le_of_ble_eq_true rfl) ?_
        rintro r M2 ⟨rfl, k1, k2⟩
        refine J_blk a_X5_cutFor_67 ?_
        simp only [b_X5_cutFor_67, w_goto, kd_0, kd_1, kd_2, kd_3, kd_4, kd_5, kd_6, kd_7, kd_10, kd_11, kd_12, kd_13, kd_14, kd_15, kd_16, kd_19, kd_28, kd_29, kd_30, kd_31, kd_32, kd_33, kd_34, kd_35, kd_36, kd_37, kd_38, kd_39, kd_40, kd_41, kd_42, kd_43, kd_44, kd_45, ln_2, ln_3, ln_4, ln_5, ln_6, ln_7, ln_11, ln_12, ln_13, ln_14, ln_15, ln_16, ln_29, ln_30, ln_32, ln_33, ln_34, ln_35, ln_36, ln_37, ln_38, ln_40, ln_41, ln_42, ln_43, ln_45, Option.toList_some, Option.toList_none, List.cons_append, List.nil_append, true_and, and_true, if_true, if_false, true_or, or_true, Nat.reduceAdd, Int.reduceAdd, Bool.false_eq_true, tn_0, tn_1, tn_2, tn_3, tn_4, tn_5, tn_6, tn_7]
        exact done M2 _ k1 (g2.trans k2) (by rw [ev]) (fun _ => ev.symm)
  have go : J 6 mX5_cutFor 12 [some (.ref 0), some (.int (nI y)), none, none, none, none, none] [] M (Rq (some (.int (mxS (cfV s n y) (-3) (hvS s n y) n).1)) (fun M' => RX M' 1 s n ∧ FC M M')) := by
    refine J_blk a_X5_cutFor_12 ?_
    simp only [b_X5_cutFor_12, w_aload_n0, w_getf5, ne0_1, w_nil, kd_0, kd_1, kd_2, kd_3, kd_4, kd_5, kd_6, kd_7, kd_10, kd_11, kd_12, kd_13, kd_14, kd_15, kd_16, kd_19, kd_28, kd_29, kd_30, kd_31, kd_32, kd_33, kd_34, kd_35, kd_36, kd_37, kd_38, kd_39, kd_40, kd_41, kd_42, kd_43, kd_44, kd_45, ln_2, ln_3, ln_4, ln_5, ln_6, ln_7, ln_11, ln_12, ln_13, ln_14, ln_15, ln_16, ln_29, ln_30, ln_32, ln_33, ln_34, ln_35, ln_36, ln_37, ln_38, ln_40, ln_41, ln_42, ln_43, ln_45, Option.toList_some, Option.toList_none, List.cons_append, List.nil_append, true_and, and_true, if_true, if_false, true_or, or_true, Nat.reduceAdd, Int.reduceAdd, Bool.false_eq_true, tn_0, tn_1, tn_2, tn_3, tn_4, tn_5, tn_6, tn_7]
    refine J_callVr (ci := 4) (survey_c hw hx (Or.inl rfl)) k_X5_cutFor_16 o_X4_survey (rfl) rfl rfl rfl (by decide) rfl (Nat.le_of_ble_eq_true rfl) ?_
    generalize hM1 : smN M 1 (hsR s (M.1 (1 + 7)) n) (ldR s (M.1 (1 + 8)) n) (bsF (sd s) n) = M1
    have g1 : RX M1 1 s n := by rw [← hM1]; exact sm_RX hx
    have g2 : FC M M1 := by rw [← hM1]; exact sm_FB.c1
    refine J_blk a_X5_cutFor_19 ?_
    simp only [b_X5_cutFor_19, w_istore2, nl_2n, nl_2i, nl_2a, w_aload_n0, w_nil, kd_0, kd_1, kd_2, kd_3, kd_4, kd_5, kd_6, kd_7, kd_10, kd_11, kd_12, kd_13, kd_14, kd_15, kd_16, kd_19, kd_28, kd_29, kd_30, kd_31, kd_32, kd_33, kd_34, kd_35, kd_36, kd_37, kd_38, kd_39, kd_40, kd_41, kd_42, kd_43, kd_44, kd_45, ln_2, ln_3, ln_4, ln_5, ln_6, ln_7, ln_11, ln_12, ln_13, ln_14, ln_15, ln_16, ln_29, ln_30, ln_32, ln_33, ln_34, ln_35, ln_36, ln_37, ln_38, ln_40, ln_41, ln_42, ln_43, ln_45, Option.toList_some, Option.toList_none, List.cons_append, List.nil_append, true_and, and_true, if_true, if_false, true_or, or_true, Nat.reduceAdd, Int.reduceAdd, Bool.false_eq_true, tn_0, tn_1, tn_2, tn_3, tn_4, tn_5, tn_6, tn_7]
    refine J_callV (ci := 5) (tryNow_c h8 g1) k_X5_cutFor_21 o_X5_tryNow (rfl) rfl rfl rfl (by decide) rfl (Nat.le_of_ble_eq_true rfl) ?_
    rintro r M2 ⟨rfl, k1, k2⟩
    refine J_blk a_X5_cutFor_24 ?_
    simp only [b_X5_cutFor_24, w_iload_n1, w_nil, kd_0, kd_1, kd_2, kd_3, kd_4, kd_5, kd_6, kd_7, kd_10, kd_11, kd_12, kd_13, kd_14, kd_15, kd_16, kd_19, kd_28, kd_29, kd_30, kd_31, kd_32, kd_33, kd_34, kd_35, kd_36, kd_37, kd_38, kd_39, kd_40, kd_41, kd_42, kd_43, kd_44, kd_45, ln_2, ln_3, ln_4, ln_5, ln_6, ln_7, ln_11, ln_12, ln_13, ln_14, ln_15, ln_16, ln_29, ln_30, ln_32, ln_33, ln_34, ln_35, ln_36, ln_37, ln_38, ln_40, ln_41, ln_42, ln_43, ln_45, Option.toList_some, Option.toList_none, List.cons_append, List.nil_append, true_and, and_true, if_true, if_false, true_or, or_true, Nat.reduceAdd, Int.reduceAdd, Bool.false_eq_true, tn_0, tn_1, tn_2, tn_3, tn_4, tn_5, tn_6, tn_7]
    refine J_callV (ci := 4) (passYears_c hw hl k1 (Or.inr (Or.inl rfl)) (by omega)) k_X5_cutFor_25 o_X4_passYears (rfl) rfl rfl rfl (by decide) rfl (Nat.le_of_ble_eq_true rfl) ?_
    rintro r M3 ⟨rfl, l1, l2⟩
    refine J_blk a_X5_cutFor_28 ?_
    simp only [b_X5_cutFor_28, w_istore3, nl_3n, nl_3i, nl_3a, w_bipush, ci_m3, w_istore4, nl_4n, nl_4i, nl_4a, w_iconst_0, w_istore5, nl_5n, nl_5i, nl_5a, w_nil, kd_0, kd_1, kd_2, kd_3, kd_4, kd_5, kd_6, kd_7, kd_10, kd_11, kd_12, kd_13, kd_14, kd_15, kd_16, kd_19, kd_28, kd_29, kd_30, kd_31, kd_32, kd_33, kd_34, kd_35, kd_36, kd_37, kd_38, kd_39, kd_40, kd_41, kd_42, kd_43, kd_44, kd_45, ln_2, ln_3, ln_4, ln_5, ln_6, ln_7, ln_11, ln_12, ln_13, ln_14, ln_15, ln_16, ln_29, ln_30, ln_32, ln_33, ln_34, ln_35, ln_36, ln_37, ln_38, ln_40, ln_41, ln_42, ln_43, ln_45, Option.toList_some, Option.toList_none, List.cons_append, List.nil_append, true_and, and_true, if_true, if_false, true_or, or_true, Nat.reduceAdd, Int.reduceAdd, Bool.false_eq_true, tn_0, tn_1, tn_2, tn_3, tn_4, tn_5, tn_6, tn_7]
    exact loop 0 (by omega) M3 _ (RX_10 (k2.trans l2) g1) (g2.trans (k2.trans l2).c10)
  refine K_go 1 o_X5_cutFor [none, none, none, none, none] rfl (Nat.le_of_ble_eq_true rfl) ?_
  simp only [lvA_i, lvA_a, lvA_l, lvA_nil, List.cons_append, List.nil_append]
  refine J_blk a_X5_cutFor_0 ?_
  simp only [b_X5_cutFor_0, w_iload_n1, w_iconst_1, w_bipush, ci_20, w_nil, kd_0, kd_1, kd_2, kd_3, kd_4, kd_5, kd_6, kd_7, kd_10, kd_11, kd_12, kd_13, kd_14, kd_15, kd_16, kd_19, kd_28, kd_29, kd_30, kd_31, kd_32, kd_33, kd_34, kd_35, kd_36, kd_37, kd_38, kd_39, kd_40, kd_41, kd_42, kd_43, kd_44, kd_45, ln_2, ln_3, ln_4, ln_5, ln_6, ln_7, ln_11, ln_12, ln_13, ln_14, ln_15, ln_16, ln_29, ln_30, ln_32, ln_33, ln_34, ln_35, ln_36, ln_37, ln_38, ln_40, ln_41, ln_42, ln_43, ln_45, Option.toList_some, Option.toList_none, List.cons_append, List.nil_append, true_and, and_true, if_true, if_false, true_or, or_true, Nat.reduceAdd, Int.reduceAdd, Bool.false_eq_true, tn_0, tn_1, tn_2, tn_3, tn_4, tn_5, tn_6, tn_7]
  refine J_callSr (within_c _ _ _ _) k_X5_cutFor_4 o_X5_within rfl (by decide) rfl (Nat.le_of_ble_eq_true rfl) ?_
  rw [if_pos (by first | exact h1 | exact h2 | exact h3 | exact h4)]
  refine J_blk a_X5_cutFor_7 ?_
  simp only [b_X5_cutFor_7, w_if_ne, w_nil, kd_0, kd_1, kd_2, kd_3, kd_4, kd_5, kd_6, kd_7, kd_10, kd_11, kd_12, kd_13, kd_14, kd_15, kd_16, kd_19, kd_28, kd_29, kd_30, kd_31, kd_32, kd_33, kd_34, kd_35, kd_36, kd_37, kd_38, kd_39, kd_40, kd_41, kd_42, kd_43, kd_44, kd_45, ln_2, ln_3, ln_4, ln_5, ln_6, ln_7, ln_11, ln_12, ln_13, ln_14, ln_15, ln_16, ln_29, ln_30, ln_32, ln_33, ln_34, ln_35, ln_36, ln_37, ln_38, ln_40, ln_41, ln_42, ln_43, ln_45, Option.toList_some, Option.toList_none, List.cons_append, List.nil_append, true_and, and_true, if_true, if_false, true_or, or_true, Nat.reduceAdd, Int.reduceAdd, Bool.false_eq_true, tn_0, tn_1, tn_2, tn_3, tn_4, tn_5, tn_6, tn_7]
  refine ⟨fun c3 => ?_, fun c3 => ?_⟩
  · first
      | exact absurd c3 (by decide)
      | (exact go)
  · first
      | exact absurd c3 (by decide)
      | (refine J_blk a_X5_cutFor_10 ?_
         simp only [b_X5_cutFor_10, w_iconst_m1, w_ireti, kd_0, kd_1, kd_2, kd_3, kd_4, kd_5, kd_6, kd_7, kd_10, kd_11, kd_12, kd_13, kd_14, kd_15, kd_16, kd_19, kd_28, kd_29, kd_30, kd_31, kd_32, kd_33, kd_34, kd_35, kd_36, kd_37, kd_38, kd_39, kd_40, kd_41, kd_42, kd_43, kd_44, kd_45, ln_2, ln_3, ln_4, ln_5, ln_6, ln_7, ln_11, ln_12, ln_13, ln_14, ln_15, ln_16, ln_29, ln_30, ln_32, ln_33, ln_34, ln_35, ln_36, ln_37, ln_38, ln_40, ln_41, ln_42, ln_43, ln_45, Option.toList_some, Option.toList_none, List.cons_append, List.nil_append, true_and, and_true, if_true, if_false, true_or, or_true, Nat.reduceAdd, Int.reduceAdd, Bool.false_eq_true, tn_0, tn_1, tn_2, tn_3, tn_4, tn_5, tn_6, tn_7]
         first | exact ⟨rfl, rfl⟩ | (simp_all [Rt]))
theorem cs_0 (hw : WF s n) (hb : LB s) (y : Nat) (hy : y ≤ 20) : ∀ k, 0 ≤ (csS s n y (k + 1)).2 := by
  intro k
  induction k with
  | zero =>
    have e : nI 0 &&& (bsF (sd s) n ^^^ -1) = 0 := by rw [nI_0]; exact Int32.zero_and
    have h0 : 0 ≤ hvS (ctR s (nI 0) n) n y := hv_0 (WF_ctR hw _) (LB_ct hb) (by omega)
    rw [csS, if_pos e, csS, if_pos (Or.inl (Int32.lt_of_lt_of_le (by decide) h0))]
    exact h0
  | succ k ih =>
    rw [csS]
    split
    · split
      · exact hv_0 (WF_ctR hw _) (LB_ct hb) (by omega)
      · exact ih
    · exact ih
theorem ccutsFor_t (hw : WF s n) (hl : WL s n) (hb : LB s) (hx : RX M 1 s n) (y : Nat) (hy : 1 ≤ y) (hy2 : y ≤ 10) : K 6 mX5_cutsFor [.ref 0, .int (nI y)] M (Rq (some (.int (nI (csS s n y (2 ^ n)).1))) (fun M' => RX M' 1 s n ∧ FC M M')) := by
  have h8 := hw.2.1
  have h1 : 1 ≤ nI y ∧ nI y ≤ 10 := ok3 (m := 10) hy hy2 (by decide)
  have hsh := shl1 n h8
  have hp := p256 h8
  have hp1 : 1 ≤ 2 ^ n := Nat.one_le_two_pow
  have loop : ∀ k, k ≤ 2 ^ n → 1 ≤ k → ∀ (M1 : Mm) (z : Option Value), RX M1 1 s n → FC M M1 → J 6 mX5_cutsFor 35 [some (.ref 0), some (.int (nI y)), some (.int (bsF (sd s) n)), some (.int (csS s n y k).2), some (.int (nI (csS s n y k).1)), some (.int (nI k)), z] [] M1 (Rq (some (.int (nI (csS s n y (2 ^ n)).1))) (fun M' => RX M' 1 s n ∧ FC M M')) := by
    refine down (2 ^ n) ?_ ?_
    · intro _ M1 z g1 g2
      have x7 : M1.1 1 7 = nI n := g1.1
      refine J_blk a_X5_cutsFor_35 ?_
      simp only [b_X5_cutsFor_35, w_iload5, w_iconst_1, w_aload_n0, w_getf5, ne0_1, w_getf4, w_ishl, w_icmp_ge, w_nil, kd_0, kd_1, kd_2, kd_3, kd_4, kd_5, kd_6, kd_7, kd_10, kd_11, kd_12, kd_13, kd_14, kd_15, kd_16, kd_19, kd_28, kd_29, kd_30, kd_31, kd_32, kd_33, kd_34, kd_35, kd_36, kd_37, kd_38, kd_39, kd_40, kd_41, kd_42, kd_43, kd_44, kd_45, ln_2, ln_3, ln_4, ln_5, ln_6, ln_7, ln_11, ln_12, ln_13, ln_14, ln_15, ln_16, ln_29, ln_30, ln_32, ln_33, ln_34, ln_35, ln_36, ln_37, ln_38, ln_40, ln_41, ln_42, ln_43, ln_45, Option.toList_some, Option.toList_none, List.cons_append, List.nil_append, true_and, and_true, if_true, if_false, true_or, or_true, Nat.reduceAdd, Int.reduceAdd, Bool.false_eq_true, tn_0, tn_1, tn_2, tn_3, tn_4, tn_5, tn_6, tn_7, x7, hsh]
      refine ⟨fun _ => ?_, fun h => absurd (Int32.le_refl _) h⟩
      refine J_blk a_X5_cutsFor_106 ?_
      simp only [b_X5_cutsFor_106, w_iload4, w_ireti, kd_0, kd_1, kd_2, kd_3, kd_4, kd_5, kd_6, kd_7, kd_10, kd_11, kd_12, kd_13, kd_14, kd_15, kd_16, kd_19, kd_28, kd_29, kd_30, kd_31, kd_32, kd_33, kd_34, kd_35, kd_36, kd_37, kd_38, kd_39, kd_40, kd_41, kd_42, kd_43, kd_44, kd_45, ln_2, ln_3, ln_4, ln_5, ln_6, ln_7, ln_11, ln_12, ln_13, ln_14, ln_15, ln_16, ln_29, ln_30, ln_32, ln_33, ln_34, ln_35, ln_36, ln_37, ln_38, ln_40, ln_41, ln_42, ln_43, ln_45, Option.toList_some, Option.toList_none, List.cons_append, List.nil_append, true_and, and_true, if_true, if_false, true_or, or_true, Nat.reduceAdd, Int.reduceAdd, Bool.false_eq_true, tn_0, tn_1, tn_2, tn_3, tn_4, tn_5, tn_6, tn_7]
      exact ⟨rfl, g1, g2⟩
    · intro k hk ih hk1 M1 z g1 g2
      have x7 : M1.1 1 7 = nI n := g1.1
      have hc := csS_lt s n y k (by omega)
      have pk : 0 ≤ (csS s n y k).2 := by
        obtain ⟨j, rfl⟩ : ∃ j, k = j + 1 := ⟨k - 1, by omega⟩
        exact cs_0 hw hb y (by omega) j
      have ih := ih (by omega)
      simp only [csS] at ih
      refine J_blk a_X5_cutsFor_35 ?_
      simp only [b_X5_cutsFor_35, w_iload5, w_iconst_1, w_aload_n0, w_getf5, ne0_1, w_getf4, w_ishl, w_icmp_ge, w_nil, kd_0, kd_1, kd_2, kd_3, kd_4, kd_5, kd_6, kd_7, kd_10, kd_11, kd_12, kd_13, kd_14, kd_15, kd_16, kd_19, kd_28, kd_29, kd_30, kd_31, kd_32, kd_33, kd_34, kd_35, kd_36, kd_37, kd_38, kd_39, kd_40, kd_41, kd_42, kd_43, kd_44, kd_45, ln_2, ln_3, ln_4, ln_5, ln_6, ln_7, ln_11, ln_12, ln_13, ln_14, ln_15, ln_16, ln_29, ln_30, ln_32, ln_33, ln_34, ln_35, ln_36, ln_37, ln_38, ln_40, ln_41, ln_42, ln_43, ln_45, Option.toList_some, Option.toList_none, List.cons_append, List.nil_append, true_and, and_true, if_true, if_false, true_or, or_true, Nat.reduceAdd, Int.reduceAdd, Bool.false_eq_true, tn_0, tn_1, tn_2, tn_3, tn_4, tn_5, tn_6, tn_7, x7, hsh]
      refine ⟨fun h => absurd h (nI_ge hk (by omega)), fun _ => ?_⟩
      refine J_blk a_X5_cutsFor_49 ?_
      simp only [b_X5_cutsFor_49, w_iload5, w_iload_n2, w_nil, kd_0, kd_1, kd_2, kd_3, kd_4, kd_5, kd_6, kd_7, kd_10, kd_11, kd_12, kd_13, kd_14, kd_15, kd_16, kd_19, kd_28, kd_29, kd_30, kd_31, kd_32, kd_33, kd_34, kd_35, kd_36, kd_37, kd_38, kd_39, kd_40, kd_41, kd_42, kd_43, kd_44, kd_45, ln_2, ln_3, ln_4, ln_5, ln_6, ln_7, ln_11, ln_12, ln_13, ln_14, ln_15, ln_16, ln_29, ln_30, ln_32, ln_33, ln_34, ln_35, ln_36, ln_37, ln_38, ln_40, ln_41, ln_42, ln_43, ln_45, Option.toList_some, Option.toList_none, List.cons_append, List.nil_append, true_and, and_true, if_true, if_false, true_or, or_true, Nat.reduceAdd, Int.reduceAdd, Bool.false_eq_true, tn_0, tn_1, tn_2, tn_3, tn_4, tn_5, tn_6, tn_7]
      refine J_callSr (isSubset_c _ _ _) k_X5_cutsFor_52 o_X5_isSubset rfl (by decide) rfl (Nat.le_of_ble_eq_true rfl) ?_
      by_cases c : nI k &&& (bsF (sd s) n ^^^ -1) = 0
      · simp only [if_pos c] at ih
        rw [if_pos c]
        refine J_blk a_X5_cutsFor_55 ?_
        simp only [b_X5_cutsFor_55, w_if_eq, w_nil, kd_0, kd_1, kd_2, kd_3, kd_4, kd_5, kd_6, kd_7, kd_10, kd_11, kd_12, kd_13, kd_14, kd_15, kd_16, kd_19, kd_28, kd_29, kd_30, kd_31, kd_32, kd_33, kd_34, kd_35, kd_36, kd_37, kd_38, kd_39, kd_40, kd_41, kd_42, kd_43, kd_44, kd_45, ln_2, ln_3, ln_4, ln_5, ln_6, ln_7, ln_11, ln_12, ln_13, ln_14, ln_15, ln_16, ln_29, ln_30, ln_32, ln_33, ln_34, ln_35, ln_36, ln_37, ln_38, ln_40, ln_41, ln_42, ln_43, ln_45, Option.toList_some, Option.toList_none, List.cons_append, List.nil_append, true_and, and_true, if_true, if_false, true_or, or_true, Nat.reduceAdd, Int.reduceAdd, Bool.false_eq_true, tn_0, tn_1, tn_2, tn_3, tn_4, tn_5, tn_6, tn_7]
        refine ⟨fun h => absurd h (by decide), fun _ => ?_⟩
        refine J_blk a_X5_cutsFor_58 ?_
        simp only [b_X5_cutsFor_58, w_aload_n0, w_iload5, w_iload_n1, w_nil, kd_0, kd_1, kd_2, kd_3, kd_4, kd_5, kd_6, kd_7, kd_10, kd_11, kd_12, kd_13, kd_14, kd_15, kd_16, kd_19, kd_28, kd_29, kd_30, kd_31, kd_32, kd_33, kd_34, kd_35, kd_36, kd_37, kd_38, kd_39, kd_40, kd_41, kd_42, kd_43, kd_44, kd_45, ln_2, ln_3, ln_4, ln_5, ln_6, ln_7, ln_11, ln_12, ln_13, ln_14, ln_15, ln_16, ln_29, ln_30, ln_32, ln_33, ln_34, ln_35, ln_36, ln_37, ln_38, ln_40, ln_41, ln_42, ln_43, ln_45, Option.toList_some, Option.toList_none, List.cons_append, List.nil_append, true_and, and_true, if_true, if_false, true_or, or_true, Nat.reduceAdd, Int.reduceAdd, Bool.false_eq_true, tn_0, tn_1, tn_2, tn_3, tn_4, tn_5, tn_6, tn_7]
        refine J_callV (ci := 5) (hvCut_c hw hl g1 _ y (nI_bt hk h8) (by omega)) k_X5_cutsFor_62 o_X5_harvestCutting (rfl) rfl rfl rfl (by decide) rfl (Nat.le_of_ble_eq_true rfl) ?_
        rintro r M2 ⟨rfl, k1, k2⟩
        generalize csS s n y k = q at *
        generalize hvS (ctR s (nI k) n) n y = v at *
        refine J_blk a_X5_cutsFor_65 ?_
        simp only [b_X5_cutsFor_65, w_goto, kd_0, kd_1, kd_2, kd_3, kd_4, kd_5, kd_6, kd_7, kd_10, kd_11, kd_12, kd_13, kd_14, kd_15, kd_16, kd_19, kd_28, kd_29, kd_30, kd_31, kd_32, kd_33, kd_34, kd_35, kd_36, kd_37, kd_38, kd_39, kd_40, kd_41, kd_42, kd_43, kd_44, kd_45, ln_2, ln_3, ln_4, ln_5, ln_6, ln_7, ln_11, ln_12, ln_13, ln_14, ln_15, ln_16, ln_29, ln_30, ln_32, ln_33, ln_34, ln_35, ln_36, ln_37, ln_38, ln_40, ln_41, ln_42, ln_43, ln_45, Option.toList_some, Option.toList_none, List.cons_append, List.nil_append, true_and, and_true, if_true, if_false, true_or, or_true, Nat.reduceAdd, Int.reduceAdd, Bool.false_eq_true, tn_0, tn_1, tn_2, tn_3, tn_4, tn_5, tn_6, tn_7]
        by_cases hbb : q.2 < v ∨ (v = q.2 ∧ pcN k < pcN q.1)
        · simp only [if_pos hbb] at ih
          have yes : J 6 mX5_cutsFor 93 [some (.ref 0), some (.int (nI y)), some (.int (bsF (sd s) n)), some (.int q.2), some (.int (nI q.1)), some (.int (nI k)), some (.int v)] [] M2 (Rq (some (.int (nI (csS s n y (2 ^ n)).1))) (fun M' => RX M' 1 s n ∧ FC M M')) := by
            refine J_blk a_X5_cutsFor_93 ?_
            simp only [b_X5_cutsFor_93, w_iload6, w_istore3, nl_3n, nl_3i, nl_3a, w_iload5, w_istore4, nl_4n, nl_4i, nl_4a, w_nil, kd_0, kd_1, kd_2, kd_3, kd_4, kd_5, kd_6, kd_7, kd_10, kd_11, kd_12, kd_13, kd_14, kd_15, kd_16, kd_19, kd_28, kd_29, kd_30, kd_31, kd_32, kd_33, kd_34, kd_35, kd_36, kd_37, kd_38, kd_39, kd_40, kd_41, kd_42, kd_43, kd_44, kd_45, ln_2, ln_3, ln_4, ln_5, ln_6, ln_7, ln_11, ln_12, ln_13, ln_14, ln_15, ln_16, ln_29, ln_30, ln_32, ln_33, ln_34, ln_35, ln_36, ln_37, ln_38, ln_40, ln_41, ln_42, ln_43, ln_45, Option.toList_some, Option.toList_none, List.cons_append, List.nil_append, true_and, and_true, if_true, if_false, true_or, or_true, Nat.reduceAdd, Int.reduceAdd, Bool.false_eq_true, tn_0, tn_1, tn_2, tn_3, tn_4, tn_5, tn_6, tn_7, nI_1]
            refine J_blk a_X5_cutsFor_100 ?_
            simp only [b_X5_cutsFor_100, w_iinc5, nl_5n, nl_5i, nl_5a, ci_1, w_goto, kd_0, kd_1, kd_2, kd_3, kd_4, kd_5, kd_6, kd_7, kd_10, kd_11, kd_12, kd_13, kd_14, kd_15, kd_16, kd_19, kd_28, kd_29, kd_30, kd_31, kd_32, kd_33, kd_34, kd_35, kd_36, kd_37, kd_38, kd_39, kd_40, kd_41, kd_42, kd_43, kd_44, kd_45, ln_2, ln_3, ln_4, ln_5, ln_6, ln_7, ln_11, ln_12, ln_13, ln_14, ln_15, ln_16, ln_29, ln_30, ln_32, ln_33, ln_34, ln_35, ln_36, ln_37, ln_38, ln_40, ln_41, ln_42, ln_43, ln_45, Option.toList_some, Option.toList_none, List.cons_append, List.nil_append, true_and, and_true, if_true, if_false, true_or, or_true, Nat.reduceAdd, Int.reduceAdd, Bool.false_eq_true, tn_0, tn_1, tn_2, tn_3, tn_4, tn_5, tn_6, tn_7, nI_1]
            exact ih M2 _ k1 (g2.trans k2)
          refine J_blk a_X5_cutsFor_69 ?_
          simp only [b_X5_cutsFor_69, w_istore6, nl_6n, nl_6i, nl_6a, w_iload6, w_iload_n3, w_icmp_gt, w_nil, kd_0, kd_1, kd_2, kd_3, kd_4, kd_5, kd_6, kd_7, kd_10, kd_11, kd_12, kd_13, kd_14, kd_15, kd_16, kd_19, kd_28, kd_29, kd_30, kd_31, kd_32, kd_33, kd_34, kd_35, kd_36, kd_37, kd_38, kd_39, kd_40, kd_41, kd_42, kd_43, kd_44, kd_45, ln_2, ln_3, ln_4, ln_5, ln_6, ln_7, ln_11, ln_12, ln_13, ln_14, ln_15, ln_16, ln_29, ln_30, ln_32, ln_33, ln_34, ln_35, ln_36, ln_37, ln_38, ln_40, ln_41, ln_42, ln_43, ln_45, Option.toList_some, Option.toList_none, List.cons_append, List.nil_append, true_and, and_true, if_true, if_false, true_or, or_true, Nat.reduceAdd, Int.reduceAdd, Bool.false_eq_true, tn_0, tn_1, tn_2, tn_3, tn_4, tn_5, tn_6, tn_7]
          refine ⟨fun c4 => ?_, fun c4 => ?_⟩
          · exact yes
          · refine J_blk a_X5_cutsFor_77 ?_
            simp only [b_X5_cutsFor_77, w_iload6, w_iload_n3, w_icmp_ne, w_nil, kd_0, kd_1, kd_2, kd_3, kd_4, kd_5, kd_6, kd_7, kd_10, kd_11, kd_12, kd_13, kd_14, kd_15, kd_16, kd_19, kd_28, kd_29, kd_30, kd_31, kd_32, kd_33, kd_34, kd_35, kd_36, kd_37, kd_38, kd_39, kd_40, kd_41, kd_42, kd_43, kd_44, kd_45, ln_2, ln_3, ln_4, ln_5, ln_6, ln_7, ln_11, ln_12, ln_13, ln_14, ln_15, ln_16, ln_29, ln_30, ln_32, ln_33, ln_34, ln_35, ln_36, ln_37, ln_38, ln_40, ln_41, ln_42, ln_43, ln_45, Option.toList_some, Option.toList_none, List.cons_append, List.nil_append, true_and, and_true, if_true, if_false, true_or, or_true, Nat.reduceAdd, Int.reduceAdd, Bool.false_eq_true, tn_0, tn_1, tn_2, tn_3, tn_4, tn_5, tn_6, tn_7]
            refine ⟨fun c5 => ?_, fun c5 => ?_⟩
            · exact absurd hbb (by grind)
            · refine J_blk a_X5_cutsFor_83 ?_
              simp only [b_X5_cutsFor_83, w_iload5, w_iload4, w_nil, kd_0, kd_1, kd_2, kd_3, kd_4, kd_5, kd_6, kd_7, kd_10, kd_11, kd_12, kd_13, kd_14, kd_15, kd_16, kd_19, kd_28, kd_29, kd_30, kd_31, kd_32, kd_33, kd_34, kd_35, kd_36, kd_37, kd_38, kd_39, kd_40, kd_41, kd_42, kd_43, kd_44, kd_45, ln_2, ln_3, ln_4, ln_5, ln_6, ln_7, ln_11, ln_12, ln_13, ln_14, ln_15, ln_16, ln_29, ln_30, ln_32, ln_33, ln_34, ln_35, ln_36, ln_37, ln_38, ln_40, ln_41, ln_42, ln_43, ln_45, Option.toList_some, Option.toList_none, List.cons_append, List.nil_append, true_and, and_true, if_true, if_false, true_or, or_true, Nat.reduceAdd, Int.reduceAdd, Bool.false_eq_true, tn_0, tn_1, tn_2, tn_3, tn_4, tn_5, tn_6, tn_7]
              refine J_callSr (isFewer_c _ _ _ (by omega) hc) k_X5_cutsFor_87 o_X5_isFewer rfl (by decide) rfl (Nat.le_of_ble_eq_true rfl) ?_
              refine J_blk a_X5_cutsFor_90 ?_
              simp only [b_X5_cutsFor_90, w_if_eq, w_nil, kd_0, kd_1, kd_2, kd_3, kd_4, kd_5, kd_6, kd_7, kd_10, kd_11, kd_12, kd_13, kd_14, kd_15, kd_16, kd_19, kd_28, kd_29, kd_30, kd_31, kd_32, kd_33, kd_34, kd_35, kd_36, kd_37, kd_38, kd_39, kd_40, kd_41, kd_42, kd_43, kd_44, kd_45, ln_2, ln_3, ln_4, ln_5, ln_6, ln_7, ln_11, ln_12, ln_13, ln_14, ln_15, ln_16, ln_29, ln_30, ln_32, ln_33, ln_34, ln_35, ln_36, ln_37, ln_38, ln_40, ln_41, ln_42, ln_43, ln_45, Option.toList_some, Option.toList_none, List.cons_append, List.nil_append, true_and, and_true, if_true, if_false, true_or, or_true, Nat.reduceAdd, Int.reduceAdd, Bool.false_eq_true, tn_0, tn_1, tn_2, tn_3, tn_4, tn_5, tn_6, tn_7]
              refine ⟨fun c6 => ?_, fun c6 => ?_⟩
              · exact absurd hbb (by grind)
              · exact yes
        · simp only [if_neg hbb] at ih
          have no : J 6 mX5_cutsFor 100 [some (.ref 0), some (.int (nI y)), some (.int (bsF (sd s) n)), some (.int q.2), some (.int (nI q.1)), some (.int (nI k)), some (.int v)] [] M2 (Rq (some (.int (nI (csS s n y (2 ^ n)).1))) (fun M' => RX M' 1 s n ∧ FC M M')) := by
            refine J_blk a_X5_cutsFor_100 ?_
            simp only [b_X5_cutsFor_100, w_iinc5, nl_5n, nl_5i, nl_5a, ci_1, w_goto, kd_0, kd_1, kd_2, kd_3, kd_4, kd_5, kd_6, kd_7, kd_10, kd_11, kd_12, kd_13, kd_14, kd_15, kd_16, kd_19, kd_28, kd_29, kd_30, kd_31, kd_32, kd_33, kd_34, kd_35, kd_36, kd_37, kd_38, kd_39, kd_40, kd_41, kd_42, kd_43, kd_44, kd_45, ln_2, ln_3, ln_4, ln_5, ln_6, ln_7, ln_11, ln_12, ln_13, ln_14, ln_15, ln_16, ln_29, ln_30, ln_32, ln_33, ln_34, ln_35, ln_36, ln_37, ln_38, ln_40, ln_41, ln_42, ln_43, ln_45, Option.toList_some, Option.toList_none, List.cons_append, List.nil_append, true_and, and_true, if_true, if_false, true_or, or_true, Nat.reduceAdd, Int.reduceAdd, Bool.false_eq_true, tn_0, tn_1, tn_2, tn_3, tn_4, tn_5, tn_6, tn_7, nI_1]
            exact ih M2 _ k1 (g2.trans k2)
          refine J_blk a_X5_cutsFor_69 ?_
          simp only [b_X5_cutsFor_69, w_istore6, nl_6n, nl_6i, nl_6a, w_iload6, w_iload_n3, w_icmp_gt, w_nil, kd_0, kd_1, kd_2, kd_3, kd_4, kd_5, kd_6, kd_7, kd_10, kd_11, kd_12, kd_13, kd_14, kd_15, kd_16, kd_19, kd_28, kd_29, kd_30, kd_31, kd_32, kd_33, kd_34, kd_35, kd_36, kd_37, kd_38, kd_39, kd_40, kd_41, kd_42, kd_43, kd_44, kd_45, ln_2, ln_3, ln_4, ln_5, ln_6, ln_7, ln_11, ln_12, ln_13, ln_14, ln_15, ln_16, ln_29, ln_30, ln_32, ln_33, ln_34, ln_35, ln_36, ln_37, ln_38, ln_40, ln_41, ln_42, ln_43, ln_45, Option.toList_some, Option.toList_none, List.cons_append, List.nil_append, true_and, and_true, if_true, if_false, true_or, or_true, Nat.reduceAdd, Int.reduceAdd, Bool.false_eq_true, tn_0, tn_1, tn_2, tn_3, tn_4, tn_5, tn_6, tn_7]
          refine ⟨fun c7 => ?_, fun c7 => ?_⟩
          · exact absurd (by grind) hbb
          · refine J_blk a_X5_cutsFor_77 ?_
            simp only [b_X5_cutsFor_77, w_iload6, w_iload_n3, w_icmp_ne, w_nil, kd_0, kd_1, kd_2, kd_3, kd_4, kd_5, kd_6, kd_7, kd_10, kd_11, kd_12, kd_13, kd_14, kd_15, kd_16, kd_19, kd_28, kd_29, kd_30, kd_31, kd_32, kd_33, kd_34, kd_35, kd_36, kd_37, kd_38, kd_39, kd_40, kd_41, kd_42, kd_43, kd_44, kd_45, ln_2, ln_3, ln_4, ln_5, ln_6, ln_7, ln_11, ln_12, ln_13, ln_14, ln_15, ln_16, ln_29, ln_30, ln_32, ln_33, ln_34, ln_35, ln_36, ln_37, ln_38, ln_40, ln_41, ln_42, ln_43, ln_45, Option.toList_some, Option.toList_none, List.cons_append, List.nil_append, true_and, and_true, if_true, if_false, true_or, or_true, Nat.reduceAdd, Int.reduceAdd, Bool.false_eq_true, tn_0, tn_1, tn_2, tn_3, tn_4, tn_5, tn_6, tn_7]
            refine ⟨fun c8 => ?_, fun c8 => ?_⟩
            · exact no
            · refine J_blk a_X5_cutsFor_83 ?_
              simp only [b_X5_cutsFor_83, w_iload5, w_iload4, w_nil, kd_0, kd_1, kd_2, kd_3, kd_4, kd_5, kd_6, kd_7, kd_10, kd_11, kd_12, kd_13, kd_14, kd_15, kd_16, kd_19, kd_28, kd_29, kd_30, kd_31, kd_32, kd_33, kd_34, kd_35, kd_36, kd_37, kd_38, kd_39, kd_40, kd_41, kd_42, kd_43, kd_44, kd_45, ln_2, ln_3, ln_4, ln_5, ln_6, ln_7, ln_11, ln_12, ln_13, ln_14, ln_15, ln_16, ln_29, ln_30, ln_32, ln_33, ln_34, ln_35, ln_36, ln_37, ln_38, ln_40, ln_41, ln_42, ln_43, ln_45, Option.toList_some, Option.toList_none, List.cons_append, List.nil_append, true_and, and_true, if_true, if_false, true_or, or_true, Nat.reduceAdd, Int.reduceAdd, Bool.false_eq_true, tn_0, tn_1, tn_2, tn_3, tn_4, tn_5, tn_6, tn_7]
              refine J_callSr (isFewer_c _ _ _ (by omega) hc) k_X5_cutsFor_87 o_X5_isFewer rfl (by decide) rfl (Nat.le_of_ble_eq_true rfl) ?_
              refine J_blk a_X5_cutsFor_90 ?_
              simp only [b_X5_cutsFor_90, w_if_eq, w_nil, kd_0, kd_1, kd_2, kd_3, kd_4, kd_5, kd_6, kd_7, kd_10, kd_11, kd_12, kd_13, kd_14, kd_15, kd_16, kd_19, kd_28, kd_29, kd_30, kd_31, kd_32, kd_33, kd_34, kd_35, kd_36, kd_37, kd_38, kd_39, kd_40, kd_41, kd_42, kd_43, kd_44, kd_45, ln_2, ln_3, ln_4, ln_5, ln_6, ln_7, ln_11, ln_12, ln_13, ln_14, ln_15, ln_16, ln_29, ln_30, ln_32, ln_33, ln_34, ln_35, ln_36, ln_37, ln_38, ln_40, ln_41, ln_42, ln_43, ln_45, Option.toList_some, Option.toList_none, List.cons_append, List.nil_append, true_and, and_true, if_true, if_false, true_or, or_true, Nat.reduceAdd, Int.reduceAdd, Bool.false_eq_true, tn_0, tn_1, tn_2, tn_3, tn_4, tn_5, tn_6, tn_7]
              refine ⟨fun c9 => ?_, fun c9 => ?_⟩
              · exact no
              · exact absurd (by grind) hbb
      · simp only [if_neg c] at ih
        rw [if_neg c]
        generalize csS s n y k = q at *
        refine J_blk a_X5_cutsFor_55 ?_
        simp only [b_X5_cutsFor_55, w_if_eq, w_nil, kd_0, kd_1, kd_2, kd_3, kd_4, kd_5, kd_6, kd_7, kd_10, kd_11, kd_12, kd_13, kd_14, kd_15, kd_16, kd_19, kd_28, kd_29, kd_30, kd_31, kd_32, kd_33, kd_34, kd_35, kd_36, kd_37, kd_38, kd_39, kd_40, kd_41, kd_42, kd_43, kd_44, kd_45, ln_2, ln_3, ln_4, ln_5, ln_6, ln_7, ln_11, ln_12, ln_13, ln_14, ln_15, ln_16, ln_29, ln_30, ln_32, ln_33, ln_34, ln_35, ln_36, ln_37, ln_38, ln_40, ln_41, ln_42, ln_43, ln_45, Option.toList_some, Option.toList_none, List.cons_append, List.nil_append, true_and, and_true, if_true, if_false, true_or, or_true, Nat.reduceAdd, Int.reduceAdd, Bool.false_eq_true, tn_0, tn_1, tn_2, tn_3, tn_4, tn_5, tn_6, tn_7]
        refine ⟨fun _ => ?_, fun h => absurd trivial h⟩
        refine J_blk a_X5_cutsFor_68 ?_
        simp only [b_X5_cutsFor_68, w_iconst_m1, w_nil, kd_0, kd_1, kd_2, kd_3, kd_4, kd_5, kd_6, kd_7, kd_10, kd_11, kd_12, kd_13, kd_14, kd_15, kd_16, kd_19, kd_28, kd_29, kd_30, kd_31, kd_32, kd_33, kd_34, kd_35, kd_36, kd_37, kd_38, kd_39, kd_40, kd_41, kd_42, kd_43, kd_44, kd_45, ln_2, ln_3, ln_4, ln_5, ln_6, ln_7, ln_11, ln_12, ln_13, ln_14, ln_15, ln_16, ln_29, ln_30, ln_32, ln_33, ln_34, ln_35, ln_36, ln_37, ln_38, ln_40, ln_41, ln_42, ln_43, ln_45, Option.toList_some, Option.toList_none, List.cons_append, List.nil_append, true_and, and_true, if_true, if_false, true_or, or_true, Nat.reduceAdd, Int.reduceAdd, Bool.false_eq_true, tn_0, tn_1, tn_2, tn_3, tn_4, tn_5, tn_6, tn_7]
        refine J_blk a_X5_cutsFor_69 ?_
        simp only [b_X5_cutsFor_69, w_istore6, nl_6n, nl_6i, nl_6a, w_iload6, w_iload_n3, w_icmp_gt, w_nil, kd_0, kd_1, kd_2, kd_3, kd_4, kd_5, kd_6, kd_7, kd_10, kd_11, kd_12, kd_13, kd_14, kd_15, kd_16, kd_19, kd_28, kd_29, kd_30, kd_31, kd_32, kd_33, kd_34, kd_35, kd_36, kd_37, kd_38, kd_39, kd_40, kd_41, kd_42, kd_43, kd_44, kd_45, ln_2, ln_3, ln_4, ln_5, ln_6, ln_7, ln_11, ln_12, ln_13, ln_14, ln_15, ln_16, ln_29, ln_30, ln_32, ln_33, ln_34, ln_35, ln_36, ln_37, ln_38, ln_40, ln_41, ln_42, ln_43, ln_45, Option.toList_some, Option.toList_none, List.cons_append, List.nil_append, true_and, and_true, if_true, if_false, true_or, or_true, Nat.reduceAdd, Int.reduceAdd, Bool.false_eq_true, tn_0, tn_1, tn_2, tn_3, tn_4, tn_5, tn_6, tn_7]
        refine ⟨fun h => absurd (Int32.le_trans pk (Int32.le_of_lt h)) (by decide), fun _ => ?_⟩
        refine J_blk a_X5_cutsFor_77 ?_
        simp only [b_X5_cutsFor_77, w_iload6, w_iload_n3, w_icmp_ne, w_nil, kd_0, kd_1, kd_2, kd_3, kd_4, kd_5, kd_6, kd_7, kd_10, kd_11, kd_12, kd_13, kd_14, kd_15, kd_16, kd_19, kd_28, kd_29, kd_30, kd_31, kd_32, kd_33, kd_34, kd_35, kd_36, kd_37, kd_38, kd_39, kd_40, kd_41, kd_42, kd_43, kd_44, kd_45, ln_2, ln_3, ln_4, ln_5, ln_6, ln_7, ln_11, ln_12, ln_13, ln_14, ln_15, ln_16, ln_29, ln_30, ln_32, ln_33, ln_34, ln_35, ln_36, ln_37, ln_38, ln_40, ln_41, ln_42, ln_43, ln_45, Option.toList_some, Option.toList_none, List.cons_append, List.nil_append, true_and, and_true, if_true, if_false, true_or, or_true, Nat.reduceAdd, Int.reduceAdd, Bool.false_eq_true, tn_0, tn_1, tn_2, tn_3, tn_4, tn_5, tn_6, tn_7]
        refine ⟨fun _ => ?_, fun h => absurd pk (by rw [← h]; decide)⟩
        refine J_blk a_X5_cutsFor_100 ?_
        simp only [b_X5_cutsFor_100, w_iinc5, nl_5n, nl_5i, nl_5a, ci_1, w_goto, kd_0, kd_1, kd_2, kd_3, kd_4, kd_5, kd_6, kd_7, kd_10, kd_11, kd_12, kd_13, kd_14, kd_15, kd_16, kd_19, kd_28, kd_29, kd_30, kd_31, kd_32, kd_33, kd_34, kd_35, kd_36, kd_37, kd_38, kd_39, kd_40, kd_41, kd_42, kd_43, kd_44, kd_45, ln_2, ln_3, ln_4, ln_5, ln_6, ln_7, ln_11, ln_12, ln_13, ln_14, ln_15, ln_16, ln_29, ln_30, ln_32, ln_33, ln_34, ln_35, ln_36, ln_37, ln_38, ln_40, ln_41, ln_42, ln_43, ln_45, Option.toList_some, Option.toList_none, List.cons_append, List.nil_append, true_and, and_true, if_true, if_false, true_or, or_true, Nat.reduceAdd, Int.reduceAdd, Bool.false_eq_true, tn_0, tn_1, tn_2, tn_3, tn_4, tn_5, tn_6, tn_7, nI_1]
        exact ih M1 _ g1 g2
  have go : J 6 mX5_cutsFor 12 [some (.ref 0), some (.int (nI y)), none, none, none, none, none] [] M (Rq (some (.int (nI (csS s n y (2 ^ n)).1))) (fun M' => RX M' 1 s n ∧ FC M M')) := by
    refine J_blk a_X5_cutsFor_12 ?_
    simp only [b_X5_cutsFor_12, w_aload_n0, w_getf5, ne0_1, w_nil, kd_0, kd_1, kd_2, kd_3, kd_4, kd_5, kd_6, kd_7, kd_10, kd_11, kd_12, kd_13, kd_14, kd_15, kd_16, kd_19, kd_28, kd_29, kd_30, kd_31, kd_32, kd_33, kd_34, kd_35, kd_36, kd_37, kd_38, kd_39, kd_40, kd_41, kd_42, kd_43, kd_44, kd_45, ln_2, ln_3, ln_4, ln_5, ln_6, ln_7, ln_11, ln_12, ln_13, ln_14, ln_15, ln_16, ln_29, ln_30, ln_32, ln_33, ln_34, ln_35, ln_36, ln_37, ln_38, ln_40, ln_41, ln_42, ln_43, ln_45, Option.toList_some, Option.toList_none, List.cons_append, List.nil_append, true_and, and_true, if_true, if_false, true_or, or_true, Nat.reduceAdd, Int.reduceAdd, Bool.false_eq_true, tn_0, tn_1, tn_2, tn_3, tn_4, tn_5, tn_6, tn_7]
    refine J_callVr (ci := 4) (survey_c hw hx (Or.inl rfl)) k_X5_cutsFor_16 o_X4_survey (rfl) rfl rfl rfl (by decide) rfl (Nat.le_of_ble_eq_true rfl) ?_
    generalize hM1 : smN M 1 (hsR s (M.1 (1 + 7)) n) (ldR s (M.1 (1 + 8)) n) (bsF (sd s) n) = M1
    have g1 : RX M1 1 s n := by rw [← hM1]; exact sm_RX hx
    have g2 : FC M M1 := by rw [← hM1]; exact sm_FB.c1
    refine J_blk a_X5_cutsFor_19 ?_
    simp only [b_X5_cutsFor_19, w_istore2, nl_2n, nl_2i, nl_2a, w_aload_n0, w_nil, kd_0, kd_1, kd_2, kd_3, kd_4, kd_5, kd_6, kd_7, kd_10, kd_11, kd_12, kd_13, kd_14, kd_15, kd_16, kd_19, kd_28, kd_29, kd_30, kd_31, kd_32, kd_33, kd_34, kd_35, kd_36, kd_37, kd_38, kd_39, kd_40, kd_41, kd_42, kd_43, kd_44, kd_45, ln_2, ln_3, ln_4, ln_5, ln_6, ln_7, ln_11, ln_12, ln_13, ln_14, ln_15, ln_16, ln_29, ln_30, ln_32, ln_33, ln_34, ln_35, ln_36, ln_37, ln_38, ln_40, ln_41, ln_42, ln_43, ln_45, Option.toList_some, Option.toList_none, List.cons_append, List.nil_append, true_and, and_true, if_true, if_false, true_or, or_true, Nat.reduceAdd, Int.reduceAdd, Bool.false_eq_true, tn_0, tn_1, tn_2, tn_3, tn_4, tn_5, tn_6, tn_7]
    refine J_callV (ci := 5) (tryNow_c h8 g1) k_X5_cutsFor_21 o_X5_tryNow (rfl) rfl rfl rfl (by decide) rfl (Nat.le_of_ble_eq_true rfl) ?_
    rintro r M2 ⟨rfl, k1, k2⟩
    refine J_blk a_X5_cutsFor_24 ?_
    simp only [b_X5_cutsFor_24, w_iload_n1, w_nil, kd_0, kd_1, kd_2, kd_3, kd_4, kd_5, kd_6, kd_7, kd_10, kd_11, kd_12, kd_13, kd_14, kd_15, kd_16, kd_19, kd_28, kd_29, kd_30, kd_31, kd_32, kd_33, kd_34, kd_35, kd_36, kd_37, kd_38, kd_39, kd_40, kd_41, kd_42, kd_43, kd_44, kd_45, ln_2, ln_3, ln_4, ln_5, ln_6, ln_7, ln_11, ln_12, ln_13, ln_14, ln_15, ln_16, ln_29, ln_30, ln_32, ln_33, ln_34, ln_35, ln_36, ln_37, ln_38, ln_40, ln_41, ln_42, ln_43, ln_45, Option.toList_some, Option.toList_none, List.cons_append, List.nil_append, true_and, and_true, if_true, if_false, true_or, or_true, Nat.reduceAdd, Int.reduceAdd, Bool.false_eq_true, tn_0, tn_1, tn_2, tn_3, tn_4, tn_5, tn_6, tn_7]
    refine J_callV (ci := 4) (passYears_c hw hl k1 (Or.inr (Or.inl rfl)) (by omega)) k_X5_cutsFor_25 o_X4_passYears (rfl) rfl rfl rfl (by decide) rfl (Nat.le_of_ble_eq_true rfl) ?_
    rintro r M3 ⟨rfl, l1, l2⟩
    have l := loop 1 hp1 (Nat.le_refl 1) M3 none (RX_10 (k2.trans l2) g1) (g2.trans (k2.trans l2).c10)
    have e : nI 0 &&& (bsF (sd s) n ^^^ -1) = 0 := by rw [nI_0]; exact Int32.zero_and
    have e0 : ctR s (nI 0) n = s := ctR_zero s n
    have e1 : csS s n y 1 = (0, hvS s n y) := by
      rw [csS, if_pos e, csS, e0, if_pos (Or.inl (Int32.lt_of_lt_of_le (by decide) (hv_0 hw hb (by omega))))]
    rw [e1] at l
    refine J_blk a_X5_cutsFor_28 ?_
    simp only [b_X5_cutsFor_28, w_istore3, nl_3n, nl_3i, nl_3a, w_iconst_0, w_istore4, nl_4n, nl_4i, nl_4a, w_iconst_1, w_istore5, nl_5n, nl_5i, nl_5a, w_nil, kd_0, kd_1, kd_2, kd_3, kd_4, kd_5, kd_6, kd_7, kd_10, kd_11, kd_12, kd_13, kd_14, kd_15, kd_16, kd_19, kd_28, kd_29, kd_30, kd_31, kd_32, kd_33, kd_34, kd_35, kd_36, kd_37, kd_38, kd_39, kd_40, kd_41, kd_42, kd_43, kd_44, kd_45, ln_2, ln_3, ln_4, ln_5, ln_6, ln_7, ln_11, ln_12, ln_13, ln_14, ln_15, ln_16, ln_29, ln_30, ln_32, ln_33, ln_34, ln_35, ln_36, ln_37, ln_38, ln_40, ln_41, ln_42, ln_43, ln_45, Option.toList_some, Option.toList_none, List.cons_append, List.nil_append, true_and, and_true, if_true, if_false, true_or, or_true, Nat.reduceAdd, Int.reduceAdd, Bool.false_eq_true, tn_0, tn_1, tn_2, tn_3, tn_4, tn_5, tn_6, tn_7]
    exact l
  refine K_go 1 o_X5_cutsFor [none, none, none, none, none] rfl (Nat.le_of_ble_eq_true rfl) ?_
  simp only [lvA_i, lvA_a, lvA_l, lvA_nil, List.cons_append, List.nil_append]
  refine J_blk a_X5_cutsFor_0 ?_
  simp only [b_X5_cutsFor_0, w_iload_n1, w_iconst_1, w_bipush, ci_10, w_nil, kd_0, kd_1, kd_2, kd_3, kd_4, kd_5, kd_6, kd_7, kd_10, kd_11, kd_12, kd_13, kd_14, kd_15, kd_16, kd_19, kd_28, kd_29, kd_30, kd_31, kd_32, kd_33, kd_34, kd_35, kd_36, kd_37, kd_38, kd_39, kd_40, kd_41, kd_42, kd_43, kd_44, kd_45, ln_2, ln_3, ln_4, ln_5, ln_6, ln_7, ln_11, ln_12, ln_13, ln_14, ln_15, ln_16, ln_29, ln_30, ln_32, ln_33, ln_34, ln_35, ln_36, ln_37, ln_38, ln_40, ln_41, ln_42, ln_43, ln_45, Option.toList_some, Option.toList_none, List.cons_append, List.nil_append, true_and, and_true, if_true, if_false, true_or, or_true, Nat.reduceAdd, Int.reduceAdd, Bool.false_eq_true, tn_0, tn_1, tn_2, tn_3, tn_4, tn_5, tn_6, tn_7]
  refine J_callSr (within_c _ _ _ _) k_X5_cutsFor_4 o_X5_within rfl (by decide) rfl (Nat.le_of_ble_eq_true rfl) ?_
  rw [if_pos (by first | exact h1 | exact h2 | exact h3 | exact h4)]
  refine J_blk a_X5_cutsFor_7 ?_
  simp only [b_X5_cutsFor_7, w_if_ne, w_nil, kd_0, kd_1, kd_2, kd_3, kd_4, kd_5, kd_6, kd_7, kd_10, kd_11, kd_12, kd_13, kd_14, kd_15, kd_16, kd_19, kd_28, kd_29, kd_30, kd_31, kd_32, kd_33, kd_34, kd_35, kd_36, kd_37, kd_38, kd_39, kd_40, kd_41, kd_42, kd_43, kd_44, kd_45, ln_2, ln_3, ln_4, ln_5, ln_6, ln_7, ln_11, ln_12, ln_13, ln_14, ln_15, ln_16, ln_29, ln_30, ln_32, ln_33, ln_34, ln_35, ln_36, ln_37, ln_38, ln_40, ln_41, ln_42, ln_43, ln_45, Option.toList_some, Option.toList_none, List.cons_append, List.nil_append, true_and, and_true, if_true, if_false, true_or, or_true, Nat.reduceAdd, Int.reduceAdd, Bool.false_eq_true, tn_0, tn_1, tn_2, tn_3, tn_4, tn_5, tn_6, tn_7]
  refine ⟨fun c10 => ?_, fun c10 => ?_⟩
  · first
      | exact absurd c10 (by decide)
      | (exact go)
  · first
      | exact absurd c10 (by decide)
      | (refine J_blk a_X5_cutsFor_10 ?_
         simp only [b_X5_cutsFor_10, w_iconst_m1, w_ireti, kd_0, kd_1, kd_2, kd_3, kd_4, kd_5, kd_6, kd_7, kd_10, kd_11, kd_12, kd_13, kd_14, kd_15, kd_16, kd_19, kd_28, kd_29, kd_30, kd_31, kd_32, kd_33, kd_34, kd_35, kd_36, kd_37, kd_38, kd_39, kd_40, kd_41, kd_42, kd_43, kd_44, kd_45, ln_2, ln_3, ln_4, ln_5, ln_6, ln_7, ln_11, ln_12, ln_13, ln_14, ln_15, ln_16, ln_29, ln_30, ln_32, ln_33, ln_34, ln_35, ln_36, ln_37, ln_38, ln_40, ln_41, ln_42, ln_43, ln_45, Option.toList_some, Option.toList_none, List.cons_append, List.nil_append, true_and, and_true, if_true, if_false, true_or, or_true, Nat.reduceAdd, Int.reduceAdd, Bool.false_eq_true, tn_0, tn_1, tn_2, tn_3, tn_4, tn_5, tn_6, tn_7]
         first | exact ⟨rfl, rfl⟩ | (simp_all [Rt]))
end TRY

