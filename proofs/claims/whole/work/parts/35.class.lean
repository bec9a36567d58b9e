/-! the class: a Tree stands for a row -/
def cuF (s : Nat → Int32) (o : Nat) : Bool := decide (s (8 + 6 * o + 4) = 1)
def RX (M : Mm) (b : Nat) (s : Nat → Int32) (n : Nat) : Prop := M.1 b 7 = nI n ∧ M.1 b 8 = s 1 ∧ M.1 b 9 = s 3 ∧ M.1 b 10 = s 2 ∧ M.1 b 6 = bsF (cuF s) n ∧ (∀ j, j < 4 → M.1 (b + 1) j = s (4 + j)) ∧ ∀ o, o < n → M.1 (b + 2) o = s (8 + 6 * o) ∧ M.1 (b + 3) o = s (8 + 6 * o + 1) ∧ M.1 (b + 4) o = s (8 + 6 * o + 2) ∧ M.1 (b + 5) o = s (8 + 6 * o + 3) ∧ M.1 (b + 6) o = s (8 + 6 * o + 5)
/-- what isn't cut lies nowhere -/
def WL (s : Nat → Int32) (n : Nat) : Prop := ∀ o, o < n → ¬ s (8 + 6 * o + 4) = 1 → s (8 + 6 * o + 5) = 0
def FB (b : Nat) (M M' : Mm) : Prop := (∀ c, (c < b ∨ b + 8 < c) → M'.1 c = M.1 c) ∧ M'.2 = M.2
theorem FB.refl (b : Nat) (M : Mm) : FB b M M := ⟨fun _ _ => rfl, rfl⟩
theorem FB.trans {b : Nat} {M M' M'' : Mm} (h : FB b M M') (h2 : FB b M' M'') : FB b M M'' := ⟨fun c hc => (h2.1 c hc).trans (h.1 c hc), h2.2.trans h.2⟩
theorem FB_u1 {b c : Nat} (M : Mm) (j : Nat) (v : Int32) (h : b ≤ c ∧ c ≤ b + 8) : FB b M (u1 M c j v) := ⟨fun a ha => u1_o _ _ _ _ (by omega), rfl⟩
theorem FB_su {b c : Nat} (M : Mm) (f : Nat → Int32) (h : b ≤ c ∧ c ≤ b + 8) : FB b M (su M c f) := ⟨fun a ha => su_ne _ _ _ _ (by omega), rfl⟩
section RD
variable {b n : Nat} {s : Nat → Int32} {M : Mm}
theorem has_c (hx : RX M b s n) (hT : TB b) (o : Int32) : K 1 mX4_has [.ref b, .int o] M (Rt (some (.int (if 0 ≤ o ∧ o ≤ nI n - 1 then 1 else 0))) M) := by
  have h7 := hx.1
  refine K_go 1 o_X4_has [] rfl (Nat.le_of_ble_eq_true rfl) ?_
  simp only [lvA_i, lvA_a, lvA_l, lvA_nil, List.cons_append, List.nil_append]
  refine J_blk a_X4_has_0 ?_
  simp only [b_X4_has_0, w_iload_n1, w_iconst_0, w_aload_n0, w_getf4, w_iconst_1, w_isub, w_nil, kb0 hT, kb1 hT, kb2 hT, kb3 hT, kb4 hT, kb5 hT, kb6 hT, kb7 hT, kb8 hT, lb1 hT, lb2 hT, lb3 hT, lb4 hT, lb5 hT, lb6 hT, lb7 hT, lb8 hT, Option.toList_some, Option.toList_none, List.cons_append, List.nil_append, true_and, and_true, if_true, if_false, true_or, or_true, Nat.reduceAdd, Int.reduceAdd, Bool.false_eq_true, tn_0, tn_1, tn_2, tn_3, tn_4, tn_5, tn_6, tn_7, h7]
  refine J_callSr (within_c _ _ _ _) k_X4_has_8 o_X5_within rfl (by decide) rfl (Nat.le_of_ble_eq_true rfl) ?_
  refine J_blk a_X4_has_11 ?_
  simp only [b_X4_has_11, w_iretz, kb0 hT, kb1 hT, kb2 hT, kb3 hT, kb4 hT, kb5 hT, kb6 hT, kb7 hT, kb8 hT, lb1 hT, lb2 hT, lb3 hT, lb4 hT, lb5 hT, lb6 hT, lb7 hT, lb8 hT, Option.toList_some, Option.toList_none, List.cons_append, List.nil_append, true_and, and_true, if_true, if_false, true_or, or_true, Nat.reduceAdd, Int.reduceAdd, Bool.false_eq_true, tn_0, tn_1, tn_2, tn_3, tn_4, tn_5, tn_6, tn_7, h7]
  try refine ⟨(by first | exact Or.inl rfl | exact Or.inr rfl), ?_⟩
  exact ⟨z01 _, rfl, rfl⟩
theorem isCut_c (h8 : n ≤ 8) (hx : RX M b s n) (hT : TB b) {o : Nat} (ho : o < n) : K 1 mX4_isCut [.ref b, .int (nI o)] M (Rt (some (.int (bI (cuF s o)))) M) := by
  have h6 := hx.2.2.2.2.1
  have hb : bt (bsF (cuF s) n) o = cuF s o := by rw [bt_bsF _ n (by omega) o (by omega)]; simp [ho]
  refine K_go 1 o_X4_isCut [] rfl (Nat.le_of_ble_eq_true rfl) ?_
  simp only [lvA_i, lvA_a, lvA_l, lvA_nil, List.cons_append, List.nil_append]
  refine J_blk a_X4_isCut_0 ?_
  simp only [b_X4_isCut_0, w_aload_n0, w_getf4, w_iload_n1, w_nil, kb0 hT, kb1 hT, kb2 hT, kb3 hT, kb4 hT, kb5 hT, kb6 hT, kb7 hT, kb8 hT, lb1 hT, lb2 hT, lb3 hT, lb4 hT, lb5 hT, lb6 hT, lb7 hT, lb8 hT, Option.toList_some, Option.toList_none, List.cons_append, List.nil_append, true_and, and_true, if_true, if_false, true_or, or_true, Nat.reduceAdd, Int.reduceAdd, Bool.false_eq_true, tn_0, tn_1, tn_2, tn_3, tn_4, tn_5, tn_6, tn_7, h6]
  refine J_callSr (bit_c _ (by omega) _) k_X4_isCut_5 o_X5_bit rfl (by decide) rfl (Nat.le_of_ble_eq_true rfl) ?_
  rw [hb]
  cases cuF s o
  · refine J_blk a_X4_isCut_8 ?_
    simp only [b_X4_isCut_8, w_iconst_1, w_icmp_ne, w_nil, kb0 hT, kb1 hT, kb2 hT, kb3 hT, kb4 hT, kb5 hT, kb6 hT, kb7 hT, kb8 hT, lb1 hT, lb2 hT, lb3 hT, lb4 hT, lb5 hT, lb6 hT, lb7 hT, lb8 hT, Option.toList_some, Option.toList_none, List.cons_append, List.nil_append, true_and, and_true, if_true, if_false, true_or, or_true, Nat.reduceAdd, Int.reduceAdd, Bool.false_eq_true, tn_0, tn_1, tn_2, tn_3, tn_4, tn_5, tn_6, tn_7]
    refine ⟨fun c1 => ?_, fun c1 => ?_⟩
    · first
        | exact absurd c1 (by decide)
        | (refine J_blk a_X4_isCut_16 ?_
           simp only [b_X4_isCut_16, w_iconst_0, w_nil, kb0 hT, kb1 hT, kb2 hT, kb3 hT, kb4 hT, kb5 hT, kb6 hT, kb7 hT, kb8 hT, lb1 hT, lb2 hT, lb3 hT, lb4 hT, lb5 hT, lb6 hT, lb7 hT, lb8 hT, Option.toList_some, Option.toList_none, List.cons_append, List.nil_append, true_and, and_true, if_true, if_false, true_or, or_true, Nat.reduceAdd, Int.reduceAdd, Bool.false_eq_true, tn_0, tn_1, tn_2, tn_3, tn_4, tn_5, tn_6, tn_7]
           refine J_blk a_X4_isCut_17 ?_
           simp only [b_X4_isCut_17, w_iretz, kb0 hT, kb1 hT, kb2 hT, kb3 hT, kb4 hT, kb5 hT, kb6 hT, kb7 hT, kb8 hT, lb1 hT, lb2 hT, lb3 hT, lb4 hT, lb5 hT, lb6 hT, lb7 hT, lb8 hT, Option.toList_some, Option.toList_none, List.cons_append, List.nil_append, true_and, and_true, if_true, if_false, true_or, or_true, Nat.reduceAdd, Int.reduceAdd, Bool.false_eq_true, tn_0, tn_1, tn_2, tn_3, tn_4, tn_5, tn_6, tn_7]
           try refine ⟨(by first | exact Or.inl rfl | exact Or.inr rfl), ?_⟩
           exact ⟨rfl, rfl⟩)
    · first
        | exact absurd c1 (by decide)
        | (refine J_blk a_X4_isCut_12 ?_
           simp only [b_X4_isCut_12, w_iconst_1, w_goto, kb0 hT, kb1 hT, kb2 hT, kb3 hT, kb4 hT, kb5 hT, kb6 hT, kb7 hT, kb8 hT, lb1 hT, lb2 hT, lb3 hT, lb4 hT, lb5 hT, lb6 hT, lb7 hT, lb8 hT, Option.toList_some, Option.toList_none, List.cons_append, List.nil_append, true_and, and_true, if_true, if_false, true_or, or_true, Nat.reduceAdd, Int.reduceAdd, Bool.false_eq_true, tn_0, tn_1, tn_2, tn_3, tn_4, tn_5, tn_6, tn_7]
           refine J_blk a_X4_isCut_17 ?_
           simp only [b_X4_isCut_17, w_iretz, kb0 hT, kb1 hT, kb2 hT, kb3 hT, kb4 hT, kb5 hT, kb6 hT, kb7 hT, kb8 hT, lb1 hT, lb2 hT, lb3 hT, lb4 hT, lb5 hT, lb6 hT, lb7 hT, lb8 hT, Option.toList_some, Option.toList_none, List.cons_append, List.nil_append, true_and, and_true, if_true, if_false, true_or, or_true, Nat.reduceAdd, Int.reduceAdd, Bool.false_eq_true, tn_0, tn_1, tn_2, tn_3, tn_4, tn_5, tn_6, tn_7]
           try refine ⟨(by first | exact Or.inl rfl | exact Or.inr rfl), ?_⟩
           exact ⟨rfl, rfl⟩)
  · refine J_blk a_X4_isCut_8 ?_
    simp only [b_X4_isCut_8, w_iconst_1, w_icmp_ne, w_nil, kb0 hT, kb1 hT, kb2 hT, kb3 hT, kb4 hT, kb5 hT, kb6 hT, kb7 hT, kb8 hT, lb1 hT, lb2 hT, lb3 hT, lb4 hT, lb5 hT, lb6 hT, lb7 hT, lb8 hT, Option.toList_some, Option.toList_none, List.cons_append, List.nil_append, true_and, and_true, if_true, if_false, true_or, or_true, Nat.reduceAdd, Int.reduceAdd, Bool.false_eq_true, tn_0, tn_1, tn_2, tn_3, tn_4, tn_5, tn_6, tn_7]
    refine ⟨fun c2 => ?_, fun c2 => ?_⟩
    · first
        | exact absurd c2 (by decide)
        | (exact absurd rfl (by assumption))
    · first
        | exact absurd c2 (by decide)
        | (refine J_blk a_X4_isCut_12 ?_
           simp only [b_X4_isCut_12, w_iconst_1, w_goto, kb0 hT, kb1 hT, kb2 hT, kb3 hT, kb4 hT, kb5 hT, kb6 hT, kb7 hT, kb8 hT, lb1 hT, lb2 hT, lb3 hT, lb4 hT, lb5 hT, lb6 hT, lb7 hT, lb8 hT, Option.toList_some, Option.toList_none, List.cons_append, List.nil_append, true_and, and_true, if_true, if_false, true_or, or_true, Nat.reduceAdd, Int.reduceAdd, Bool.false_eq_true, tn_0, tn_1, tn_2, tn_3, tn_4, tn_5, tn_6, tn_7]
           refine J_blk a_X4_isCut_17 ?_
           simp only [b_X4_isCut_17, w_iretz, kb0 hT, kb1 hT, kb2 hT, kb3 hT, kb4 hT, kb5 hT, kb6 hT, kb7 hT, kb8 hT, lb1 hT, lb2 hT, lb3 hT, lb4 hT, lb5 hT, lb6 hT, lb7 hT, lb8 hT, Option.toList_some, Option.toList_none, List.cons_append, List.nil_append, true_and, and_true, if_true, if_false, true_or, or_true, Nat.reduceAdd, Int.reduceAdd, Bool.false_eq_true, tn_0, tn_1, tn_2, tn_3, tn_4, tn_5, tn_6, tn_7]
           try refine ⟨(by first | exact Or.inl rfl | exact Or.inr rfl), ?_⟩
           exact ⟨rfl, rfl⟩)
theorem hinders_c (hw : WF s n) (hx : RX M b s n) (hT : TB b) {o : Nat} (ho : o < n) : K 0 mX4_hinders [.ref b, .int (nI o)] M (Rt (some (.int (hinS s o))) M) := by
  have h8 := hw.2.1
  obtain ⟨x7, xy, xc, xz, x6, xl, xo⟩ := hx
  obtain ⟨y2, y3, y4, y5, y6⟩ := xo o ho
  have to : (nI o).toNatClampNeg = o := nI_clamp (by omega)
  have l0 := xl 0 (by omega)
  refine K_go 1 o_X4_hinders [none] rfl (Nat.le_of_ble_eq_true rfl) ?_
  simp only [lvA_i, lvA_a, lvA_l, lvA_nil, List.cons_append, List.nil_append]
  refine J_blk a_X4_hinders_0 ?_
  simp only [b_X4_hinders_0, w_aload_n0, w_getf4, ne0_4, w_iload_n1, w_iald, w_iconst_3, w_idiv, w_istore2, nl_2n, nl_2i, nl_2a, ne0_2, w_tsw, sw_nil, sw_cons, ci_1, ci_2, ci_3, ci_4, ci_5, kb0 hT, kb1 hT, kb2 hT, kb3 hT, kb4 hT, kb5 hT, kb6 hT, kb7 hT, kb8 hT, lb1 hT, lb2 hT, lb3 hT, lb4 hT, lb5 hT, lb6 hT, lb7 hT, lb8 hT, Option.toList_some, Option.toList_none, List.cons_append, List.nil_append, true_and, and_true, if_true, if_false, true_or, or_true, Nat.reduceAdd, Int.reduceAdd, Bool.false_eq_true, tn_0, tn_1, tn_2, tn_3, tn_4, tn_5, tn_6, tn_7, to, y2, y4]
  refine ⟨vinN (by omega) (by decide), by decide, vinN (by omega) (by decide), ?_⟩
  unfold hinS
  simp only [Nat.add_zero]
  refine ⟨fun e1 => ?_, fun e1 => ⟨fun e2 => ?_, fun e2 => ⟨fun e3 => ?_, fun e3 => ⟨fun e4 => ?_, fun e4 => ⟨fun e5 => ?_, fun e5 => ?_⟩⟩⟩⟩⟩
  · rw [if_pos e1]
    refine J_blk a_X4_hinders_48 ?_
    simp only [b_X4_hinders_48, w_iload_n2, w_iconst_1, w_isub, w_ireti, kb0 hT, kb1 hT, kb2 hT, kb3 hT, kb4 hT, kb5 hT, kb6 hT, kb7 hT, kb8 hT, lb1 hT, lb2 hT, lb3 hT, lb4 hT, lb5 hT, lb6 hT, lb7 hT, lb8 hT, Option.toList_some, Option.toList_none, List.cons_append, List.nil_append, true_and, and_true, if_true, if_false, true_or, or_true, Nat.reduceAdd, Int.reduceAdd, Bool.false_eq_true, tn_0, tn_1, tn_2, tn_3, tn_4, tn_5, tn_6, tn_7]
    first | exact ⟨rfl, rfl⟩ | (simp_all [Rt])
  · rw [if_neg e1, if_pos e2]
    refine J_blk a_X4_hinders_69 ?_
    simp only [b_X4_hinders_69, w_iload_n2, w_aload_n0, w_getf4, ne0_1, w_iconst_0, w_iald, w_iadd, w_ireti, kb0 hT, kb1 hT, kb2 hT, kb3 hT, kb4 hT, kb5 hT, kb6 hT, kb7 hT, kb8 hT, lb1 hT, lb2 hT, lb3 hT, lb4 hT, lb5 hT, lb6 hT, lb7 hT, lb8 hT, Option.toList_some, Option.toList_none, List.cons_append, List.nil_append, true_and, and_true, if_true, if_false, true_or, or_true, Nat.reduceAdd, Int.reduceAdd, Bool.false_eq_true, tn_0, tn_1, tn_2, tn_3, tn_4, tn_5, tn_6, tn_7, l0]
    exact ⟨vlit (by decide), rfl, rfl⟩
  · rw [if_neg e1, if_neg e2, if_pos e3]
    refine J_blk a_X4_hinders_52 ?_
    simp only [b_X4_hinders_52, w_aload_n0, w_getf4, w_iconst_2, w_irem, w_if_ne, w_nil, kb0 hT, kb1 hT, kb2 hT, kb3 hT, kb4 hT, kb5 hT, kb6 hT, kb7 hT, kb8 hT, lb1 hT, lb2 hT, lb3 hT, lb4 hT, lb5 hT, lb6 hT, lb7 hT, lb8 hT, Option.toList_some, Option.toList_none, List.cons_append, List.nil_append, true_and, and_true, if_true, if_false, true_or, or_true, Nat.reduceAdd, Int.reduceAdd, Bool.false_eq_true, tn_0, tn_1, tn_2, tn_3, tn_4, tn_5, tn_6, tn_7, xy]
    refine ⟨by decide, fun h => ?_, fun h => ?_⟩
    · rw [if_neg h]
      refine J_blk a_X4_hinders_67 ?_
      simp only [b_X4_hinders_67, w_iconst_0, w_nil, kb0 hT, kb1 hT, kb2 hT, kb3 hT, kb4 hT, kb5 hT, kb6 hT, kb7 hT, kb8 hT, lb1 hT, lb2 hT, lb3 hT, lb4 hT, lb5 hT, lb6 hT, lb7 hT, lb8 hT, Option.toList_some, Option.toList_none, List.cons_append, List.nil_append, true_and, and_true, if_true, if_false, true_or, or_true, Nat.reduceAdd, Int.reduceAdd, Bool.false_eq_true, tn_0, tn_1, tn_2, tn_3, tn_4, tn_5, tn_6, tn_7]
      refine J_blk a_X4_hinders_68 ?_
      simp only [b_X4_hinders_68, w_ireti, kb0 hT, kb1 hT, kb2 hT, kb3 hT, kb4 hT, kb5 hT, kb6 hT, kb7 hT, kb8 hT, lb1 hT, lb2 hT, lb3 hT, lb4 hT, lb5 hT, lb6 hT, lb7 hT, lb8 hT, Option.toList_some, Option.toList_none, List.cons_append, List.nil_append, true_and, and_true, if_true, if_false, true_or, or_true, Nat.reduceAdd, Int.reduceAdd, Bool.false_eq_true, tn_0, tn_1, tn_2, tn_3, tn_4, tn_5, tn_6, tn_7]
      first | exact ⟨rfl, rfl⟩ | (simp_all [Rt])
    · rw [if_pos h]
      refine J_blk a_X4_hinders_61 ?_
      simp only [b_X4_hinders_61, w_iload_n2, w_iconst_1, w_isub, w_goto, kb0 hT, kb1 hT, kb2 hT, kb3 hT, kb4 hT, kb5 hT, kb6 hT, kb7 hT, kb8 hT, lb1 hT, lb2 hT, lb3 hT, lb4 hT, lb5 hT, lb6 hT, lb7 hT, lb8 hT, Option.toList_some, Option.toList_none, List.cons_append, List.nil_append, true_and, and_true, if_true, if_false, true_or, or_true, Nat.reduceAdd, Int.reduceAdd, Bool.false_eq_true, tn_0, tn_1, tn_2, tn_3, tn_4, tn_5, tn_6, tn_7]
      refine J_blk a_X4_hinders_68 ?_
      simp only [b_X4_hinders_68, w_ireti, kb0 hT, kb1 hT, kb2 hT, kb3 hT, kb4 hT, kb5 hT, kb6 hT, kb7 hT, kb8 hT, lb1 hT, lb2 hT, lb3 hT, lb4 hT, lb5 hT, lb6 hT, lb7 hT, lb8 hT, Option.toList_some, Option.toList_none, List.cons_append, List.nil_append, true_and, and_true, if_true, if_false, true_or, or_true, Nat.reduceAdd, Int.reduceAdd, Bool.false_eq_true, tn_0, tn_1, tn_2, tn_3, tn_4, tn_5, tn_6, tn_7]
      first | exact ⟨rfl, rfl⟩ | (simp_all [Rt])
  · rw [if_neg e1, if_neg e2, if_neg e3, if_pos e4]
    refine J_blk a_X4_hinders_78 ?_
    simp only [b_X4_hinders_78, w_iconst_2, w_iload_n2, w_aload_n0, w_getf4, ne0_1, w_iconst_0, w_iald, w_iadd, w_imul, w_ireti, kb0 hT, kb1 hT, kb2 hT, kb3 hT, kb4 hT, kb5 hT, kb6 hT, kb7 hT, kb8 hT, lb1 hT, lb2 hT, lb3 hT, lb4 hT, lb5 hT, lb6 hT, lb7 hT, lb8 hT, Option.toList_some, Option.toList_none, List.cons_append, List.nil_append, true_and, and_true, if_true, if_false, true_or, or_true, Nat.reduceAdd, Int.reduceAdd, Bool.false_eq_true, tn_0, tn_1, tn_2, tn_3, tn_4, tn_5, tn_6, tn_7, l0]
    exact ⟨vlit (by decide), rfl, rfl⟩
  · rw [if_neg e1, if_neg e2, if_neg e3, if_neg e4, if_pos e5]
    refine J_blk a_X4_hinders_89 ?_
    simp only [b_X4_hinders_89, w_iconst_0, w_ireti, kb0 hT, kb1 hT, kb2 hT, kb3 hT, kb4 hT, kb5 hT, kb6 hT, kb7 hT, kb8 hT, lb1 hT, lb2 hT, lb3 hT, lb4 hT, lb5 hT, lb6 hT, lb7 hT, lb8 hT, Option.toList_some, Option.toList_none, List.cons_append, List.nil_append, true_and, and_true, if_true, if_false, true_or, or_true, Nat.reduceAdd, Int.reduceAdd, Bool.false_eq_true, tn_0, tn_1, tn_2, tn_3, tn_4, tn_5, tn_6, tn_7]
    first | exact ⟨rfl, rfl⟩ | (simp_all [Rt])
  · rw [if_neg e1, if_neg e2, if_neg e3, if_neg e4, if_neg e5]
    refine J_blk a_X4_hinders_91 ?_
    simp only [b_X4_hinders_91, w_iload_n2, w_ireti, kb0 hT, kb1 hT, kb2 hT, kb3 hT, kb4 hT, kb5 hT, kb6 hT, kb7 hT, kb8 hT, lb1 hT, lb2 hT, lb3 hT, lb4 hT, lb5 hT, lb6 hT, lb7 hT, lb8 hT, Option.toList_some, Option.toList_none, List.cons_append, List.nil_append, true_and, and_true, if_true, if_false, true_or, or_true, Nat.reduceAdd, Int.reduceAdd, Bool.false_eq_true, tn_0, tn_1, tn_2, tn_3, tn_4, tn_5, tn_6, tn_7]
    first | exact ⟨rfl, rfl⟩ | (simp_all [Rt])
theorem gains_c (h8 : n ≤ 8) (hx : RX M b s n) (hT : TB b) {o : Nat} (ho : o < n) : K 0 mX4_gains [.ref b, .int (nI o)] M (Rt (some (.int (gainS s o))) M) := by
  obtain ⟨x7, xy, xc, xz, x6, xl, xo⟩ := hx
  obtain ⟨y2, y3, y4, y5, y6⟩ := xo o ho
  have to : (nI o).toNatClampNeg = o := nI_clamp (by omega)
  have key : ∀ g : Int32, g = (if s (8 + 6 * o + 3) < 20 then 1 else -1) → J 0 mX4_gains 16 [some (.ref b), some (.int (nI o)), none] [.int g] M (Rt (some (.int (gainS s o))) M) := by
    intro g hg
    refine J_blk a_X4_gains_16 ?_
    simp only [b_X4_gains_16, w_istore2, nl_2n, nl_2i, nl_2a, w_aload_n0, w_getf4, ne0_2, w_iload_n1, w_iald, w_tsw, sw_nil, sw_cons, ci_1, ci_2, ci_3, ci_4, ci_5, kb0 hT, kb1 hT, kb2 hT, kb3 hT, kb4 hT, kb5 hT, kb6 hT, kb7 hT, kb8 hT, lb1 hT, lb2 hT, lb3 hT, lb4 hT, lb5 hT, lb6 hT, lb7 hT, lb8 hT, Option.toList_some, Option.toList_none, List.cons_append, List.nil_append, true_and, and_true, if_true, if_false, true_or, or_true, Nat.reduceAdd, Int.reduceAdd, Bool.false_eq_true, tn_0, tn_1, tn_2, tn_3, tn_4, tn_5, tn_6, tn_7, to, y2]
    refine ⟨vinN (by omega) (by decide), ?_⟩
    unfold gainS
    simp only [Nat.add_zero]
    rw [← hg]
    refine ⟨fun e1 => ?_, fun e1 => ⟨fun e2 => ?_, fun e2 => ⟨fun e3 => ?_, fun e3 => ⟨fun e4 => ?_, fun e4 => ⟨fun e5 => ?_, fun e5 => ?_⟩⟩⟩⟩⟩
    · rw [if_pos e1]
      refine J_blk a_X4_gains_56 ?_
      simp only [b_X4_gains_56, w_iconst_2, w_ireti, kb0 hT, kb1 hT, kb2 hT, kb3 hT, kb4 hT, kb5 hT, kb6 hT, kb7 hT, kb8 hT, lb1 hT, lb2 hT, lb3 hT, lb4 hT, lb5 hT, lb6 hT, lb7 hT, lb8 hT, Option.toList_some, Option.toList_none, List.cons_append, List.nil_append, true_and, and_true, if_true, if_false, true_or, or_true, Nat.reduceAdd, Int.reduceAdd, Bool.false_eq_true, tn_0, tn_1, tn_2, tn_3, tn_4, tn_5, tn_6, tn_7]
      first | exact ⟨rfl, rfl⟩ | (simp_all [Rt])
    · rw [if_neg e1, if_pos e2]
      refine J_blk a_X4_gains_60 ?_
      simp only [b_X4_gains_60, w_iload_n2, w_ireti, kb0 hT, kb1 hT, kb2 hT, kb3 hT, kb4 hT, kb5 hT, kb6 hT, kb7 hT, kb8 hT, lb1 hT, lb2 hT, lb3 hT, lb4 hT, lb5 hT, lb6 hT, lb7 hT, lb8 hT, Option.toList_some, Option.toList_none, List.cons_append, List.nil_append, true_and, and_true, if_true, if_false, true_or, or_true, Nat.reduceAdd, Int.reduceAdd, Bool.false_eq_true, tn_0, tn_1, tn_2, tn_3, tn_4, tn_5, tn_6, tn_7]
      first | exact ⟨rfl, rfl⟩ | (simp_all [Rt])
    · rw [if_neg e1, if_neg e2, if_pos e3]
      refine J_blk a_X4_gains_58 ?_
      simp only [b_X4_gains_58, w_iconst_3, w_ireti, kb0 hT, kb1 hT, kb2 hT, kb3 hT, kb4 hT, kb5 hT, kb6 hT, kb7 hT, kb8 hT, lb1 hT, lb2 hT, lb3 hT, lb4 hT, lb5 hT, lb6 hT, lb7 hT, lb8 hT, Option.toList_some, Option.toList_none, List.cons_append, List.nil_append, true_and, and_true, if_true, if_false, true_or, or_true, Nat.reduceAdd, Int.reduceAdd, Bool.false_eq_true, tn_0, tn_1, tn_2, tn_3, tn_4, tn_5, tn_6, tn_7]
      first | exact ⟨rfl, rfl⟩ | (simp_all [Rt])
    · rw [if_neg e1, if_neg e2, if_neg e3, if_pos e4]
      refine J_blk a_X4_gains_62 ?_
      simp only [b_X4_gains_62, w_iconst_2, w_iload_n2, w_imul, w_ireti, kb0 hT, kb1 hT, kb2 hT, kb3 hT, kb4 hT, kb5 hT, kb6 hT, kb7 hT, kb8 hT, lb1 hT, lb2 hT, lb3 hT, lb4 hT, lb5 hT, lb6 hT, lb7 hT, lb8 hT, Option.toList_some, Option.toList_none, List.cons_append, List.nil_append, true_and, and_true, if_true, if_false, true_or, or_true, Nat.reduceAdd, Int.reduceAdd, Bool.false_eq_true, tn_0, tn_1, tn_2, tn_3, tn_4, tn_5, tn_6, tn_7]
      first | exact ⟨rfl, rfl⟩ | (simp_all [Rt])
    · rw [if_neg e1, if_neg e2, if_neg e3, if_neg e4, if_pos e5]
      refine J_blk a_X4_gains_66 ?_
      simp only [b_X4_gains_66, w_iconst_0, w_ireti, kb0 hT, kb1 hT, kb2 hT, kb3 hT, kb4 hT, kb5 hT, kb6 hT, kb7 hT, kb8 hT, lb1 hT, lb2 hT, lb3 hT, lb4 hT, lb5 hT, lb6 hT, lb7 hT, lb8 hT, Option.toList_some, Option.toList_none, List.cons_append, List.nil_append, true_and, and_true, if_true, if_false, true_or, or_true, Nat.reduceAdd, Int.reduceAdd, Bool.false_eq_true, tn_0, tn_1, tn_2, tn_3, tn_4, tn_5, tn_6, tn_7]
      first | exact ⟨rfl, rfl⟩ | (simp_all [Rt])
    · rw [if_neg e1, if_neg e2, if_neg e3, if_neg e4, if_neg e5]
      refine J_blk a_X4_gains_68 ?_
      simp only [b_X4_gains_68, w_iconst_1, w_ireti, kb0 hT, kb1 hT, kb2 hT, kb3 hT, kb4 hT, kb5 hT, kb6 hT, kb7 hT, kb8 hT, lb1 hT, lb2 hT, lb3 hT, lb4 hT, lb5 hT, lb6 hT, lb7 hT, lb8 hT, Option.toList_some, Option.toList_none, List.cons_append, List.nil_append, true_and, and_true, if_true, if_false, true_or, or_true, Nat.reduceAdd, Int.reduceAdd, Bool.false_eq_true, tn_0, tn_1, tn_2, tn_3, tn_4, tn_5, tn_6, tn_7]
      first | exact ⟨rfl, rfl⟩ | (simp_all [Rt])
  refine K_go 1 o_X4_gains [none] rfl (Nat.le_of_ble_eq_true rfl) ?_
  simp only [lvA_i, lvA_a, lvA_l, lvA_nil, List.cons_append, List.nil_append]
  refine J_blk a_X4_gains_0 ?_
  simp only [b_X4_gains_0, w_aload_n0, w_getf4, ne0_5, w_iload_n1, w_iald, w_bipush, ci_20, w_icmp_ge, w_nil, kb0 hT, kb1 hT, kb2 hT, kb3 hT, kb4 hT, kb5 hT, kb6 hT, kb7 hT, kb8 hT, lb1 hT, lb2 hT, lb3 hT, lb4 hT, lb5 hT, lb6 hT, lb7 hT, lb8 hT, Option.toList_some, Option.toList_none, List.cons_append, List.nil_append, true_and, and_true, if_true, if_false, true_or, or_true, Nat.reduceAdd, Int.reduceAdd, Bool.false_eq_true, tn_0, tn_1, tn_2, tn_3, tn_4, tn_5, tn_6, tn_7, to, y5]
  refine ⟨vinN (by omega) (by decide), fun h => ?_, fun h => ?_⟩
  · refine J_blk a_X4_gains_15 ?_
    simp only [b_X4_gains_15, w_iconst_m1, w_nil, kb0 hT, kb1 hT, kb2 hT, kb3 hT, kb4 hT, kb5 hT, kb6 hT, kb7 hT, kb8 hT, lb1 hT, lb2 hT, lb3 hT, lb4 hT, lb5 hT, lb6 hT, lb7 hT, lb8 hT, Option.toList_some, Option.toList_none, List.cons_append, List.nil_append, true_and, and_true, if_true, if_false, true_or, or_true, Nat.reduceAdd, Int.reduceAdd, Bool.false_eq_true, tn_0, tn_1, tn_2, tn_3, tn_4, tn_5, tn_6, tn_7]
    exact key _ (by rw [if_neg (Int32.not_lt.mpr h)])
  · refine J_blk a_X4_gains_11 ?_
    simp only [b_X4_gains_11, w_iconst_1, w_goto, kb0 hT, kb1 hT, kb2 hT, kb3 hT, kb4 hT, kb5 hT, kb6 hT, kb7 hT, kb8 hT, lb1 hT, lb2 hT, lb3 hT, lb4 hT, lb5 hT, lb6 hT, lb7 hT, lb8 hT, Option.toList_some, Option.toList_none, List.cons_append, List.nil_append, true_and, and_true, if_true, if_false, true_or, or_true, Nat.reduceAdd, Int.reduceAdd, Bool.false_eq_true, tn_0, tn_1, tn_2, tn_3, tn_4, tn_5, tn_6, tn_7]
    exact key _ (by rw [if_pos (Int32.not_le.mp h)])
/-- what the latest survey found -/
def SV (M : Mm) (b : Nat) (s : Nat → Int32) (n : Nat) : Prop := M.1 b 11 = bsF (sd s) n ∧ (∀ o, o < n → s (8 + 6 * o + 2) - (M.1 (b + 7) (s (8 + 6 * o + 1)).toNatClampNeg - (if sd s o = true then hinS s o else 0)) = plS s (sd s) o n) ∧ ∀ o, o < n → M.1 (b + 8) (o + 1) = upS s (sd s) o n
theorem bears_c (hw : WF s n) (hx : RX M b s n) (hv : SV M b s n) (hT : TB b) {o : Nat} (ho : o < n) : K 1 mX4_bears [.ref b, .int (nI o)] M (Rt (some (.int (bearS s (sd s) n o))) M) := by
  have h8 := hw.2.1
  have hx' := hx
  obtain ⟨x7, xy, xc, xz, x6, xl, xo⟩ := hx
  obtain ⟨y2, y3, y4, y5, y6⟩ := xo o ho
  obtain ⟨v1, v2, v3⟩ := hv
  obtain ⟨q, hq, eq⟩ := (hw.2.2 o ho).2.1
  have to : (nI o).toNatClampNeg = o := nI_clamp (by omega)
  have to1 : (nI (o + 1)).toNatClampNeg = o + 1 := nI_clamp (by omega)
  have tq : (nI q).toNatClampNeg = q := nI_clamp (by omega)
  have hb : bt (bsF (sd s) n) o = sd s o := bt_sd h8 ho
  have w2 := v2 o ho
  rw [eq, tq] at w2
  have w3 := v3 o ho
  have l1 := xl 1 (by omega)
  have l2 := xl 2 (by omega)
  rw [eq] at y3
  have tail : ∀ own : Int32, own = (if sd s o = true then hinS s o else 0) → J 1 mX4_bears 21 [some (.ref b), some (.int (nI o)), none, none] [.int own] M (Rt (some (.int (bearS s (sd s) n o))) M) := by
    intro own hown
    rw [← hown] at w2
    refine J_blk a_X4_bears_21 ?_
    simp only [b_X4_bears_21, w_istore2, nl_2n, nl_2i, nl_2a, w_aload_n0, w_getf4, ne0_4, w_iload_n1, w_iald, ne0_7, ne0_3, w_iload_n2, w_isub, w_istore3, nl_3n, nl_3i, nl_3a, ne0_2, w_tsw, sw_nil, sw_cons, ci_1, ci_2, ci_3, ci_4, ci_5, kb0 hT, kb1 hT, kb2 hT, kb3 hT, kb4 hT, kb5 hT, kb6 hT, kb7 hT, kb8 hT, lb1 hT, lb2 hT, lb3 hT, lb4 hT, lb5 hT, lb6 hT, lb7 hT, lb8 hT, Option.toList_some, Option.toList_none, List.cons_append, List.nil_append, true_and, and_true, if_true, if_false, true_or, or_true, Nat.reduceAdd, Int.reduceAdd, Bool.false_eq_true, tn_0, tn_1, tn_2, tn_3, tn_4, tn_5, tn_6, tn_7, to, y2, y3, y4, tq]
    refine ⟨vinN (by omega) (by decide), vinN (by omega) (by decide), vinN (by omega) (by decide), vinN (by omega) (by decide), ?_⟩
    rw [w2]
    unfold bearS beS
    simp only [Nat.add_zero]
    generalize plS s (sd s) o n = pl at *
    generalize upS s (sd s) o n = up at *
    refine ⟨fun e1 => ?_, fun e1 => ⟨fun e2 => ?_, fun e2 => ⟨fun e3 => ?_, fun e3 => ⟨fun e4 => ?_, fun e4 => ⟨fun e5 => ?_, fun e5 => ?_⟩⟩⟩⟩⟩
    · rw [if_pos e1]
      refine J_blk a_X4_bears_84 ?_
      simp only [b_X4_bears_84, w_iload_n3, w_aload_n0, w_getf4, ne0_1, w_iconst_1, w_iald, w_iadd, w_ireti, kb0 hT, kb1 hT, kb2 hT, kb3 hT, kb4 hT, kb5 hT, kb6 hT, kb7 hT, kb8 hT, lb1 hT, lb2 hT, lb3 hT, lb4 hT, lb5 hT, lb6 hT, lb7 hT, lb8 hT, Option.toList_some, Option.toList_none, List.cons_append, List.nil_append, true_and, and_true, if_true, if_false, true_or, or_true, Nat.reduceAdd, Int.reduceAdd, Bool.false_eq_true, tn_0, tn_1, tn_2, tn_3, tn_4, tn_5, tn_6, tn_7, l1]
      exact ⟨vlit (by decide), rfl, rfl⟩
    · rw [if_neg e1, if_pos e2]
      refine J_blk a_X4_bears_116 ?_
      simp only [b_X4_bears_116, w_iload_n3, w_aload_n0, w_getf4, ne0_8, w_iload_n1, w_iconst_1, w_iadd, w_iald, w_isub, w_ireti, kb0 hT, kb1 hT, kb2 hT, kb3 hT, kb4 hT, kb5 hT, kb6 hT, kb7 hT, kb8 hT, lb1 hT, lb2 hT, lb3 hT, lb4 hT, lb5 hT, lb6 hT, lb7 hT, lb8 hT, Option.toList_some, Option.toList_none, List.cons_append, List.nil_append, true_and, and_true, if_true, if_false, true_or, or_true, Nat.reduceAdd, Int.reduceAdd, Bool.false_eq_true, tn_0, tn_1, tn_2, tn_3, tn_4, tn_5, tn_6, tn_7, nI_1, to1, w3]
      exact ⟨vinN (by omega) (by decide), rfl, rfl⟩
    · rw [if_neg e1, if_neg e2, if_pos e3]
      refine J_blk a_X4_bears_93 ?_
      simp only [b_X4_bears_93, w_aload_n0, w_getf4, ne0_5, w_iload_n1, w_iald, w_iconst_3, w_icmp_ge, w_nil, kb0 hT, kb1 hT, kb2 hT, kb3 hT, kb4 hT, kb5 hT, kb6 hT, kb7 hT, kb8 hT, lb1 hT, lb2 hT, lb3 hT, lb4 hT, lb5 hT, lb6 hT, lb7 hT, lb8 hT, Option.toList_some, Option.toList_none, List.cons_append, List.nil_append, true_and, and_true, if_true, if_false, true_or, or_true, Nat.reduceAdd, Int.reduceAdd, Bool.false_eq_true, tn_0, tn_1, tn_2, tn_3, tn_4, tn_5, tn_6, tn_7, to, y5]
      refine ⟨vinN (by omega) (by decide), fun h => ?_, fun h => ?_⟩
      · rw [if_neg (Int32.not_lt.mpr h)]
        refine J_blk a_X4_bears_107 ?_
        simp only [b_X4_bears_107, w_iload_n3, w_aload_n0, w_getf4, ne0_1, w_iconst_1, w_iald, w_iadd, w_nil, kb0 hT, kb1 hT, kb2 hT, kb3 hT, kb4 hT, kb5 hT, kb6 hT, kb7 hT, kb8 hT, lb1 hT, lb2 hT, lb3 hT, lb4 hT, lb5 hT, lb6 hT, lb7 hT, lb8 hT, Option.toList_some, Option.toList_none, List.cons_append, List.nil_append, true_and, and_true, if_true, if_false, true_or, or_true, Nat.reduceAdd, Int.reduceAdd, Bool.false_eq_true, tn_0, tn_1, tn_2, tn_3, tn_4, tn_5, tn_6, tn_7, l1]
        refine ⟨vlit (by decide), ?_⟩
        refine J_blk a_X4_bears_115 ?_
        simp only [b_X4_bears_115, w_ireti, kb0 hT, kb1 hT, kb2 hT, kb3 hT, kb4 hT, kb5 hT, kb6 hT, kb7 hT, kb8 hT, lb1 hT, lb2 hT, lb3 hT, lb4 hT, lb5 hT, lb6 hT, lb7 hT, lb8 hT, Option.toList_some, Option.toList_none, List.cons_append, List.nil_append, true_and, and_true, if_true, if_false, true_or, or_true, Nat.reduceAdd, Int.reduceAdd, Bool.false_eq_true, tn_0, tn_1, tn_2, tn_3, tn_4, tn_5, tn_6, tn_7]
        first | exact ⟨rfl, rfl⟩ | (simp_all [Rt])
      · rw [if_pos (Int32.not_le.mp h)]
        refine J_blk a_X4_bears_103 ?_
        simp only [b_X4_bears_103, w_iconst_0, w_goto, kb0 hT, kb1 hT, kb2 hT, kb3 hT, kb4 hT, kb5 hT, kb6 hT, kb7 hT, kb8 hT, lb1 hT, lb2 hT, lb3 hT, lb4 hT, lb5 hT, lb6 hT, lb7 hT, lb8 hT, Option.toList_some, Option.toList_none, List.cons_append, List.nil_append, true_and, and_true, if_true, if_false, true_or, or_true, Nat.reduceAdd, Int.reduceAdd, Bool.false_eq_true, tn_0, tn_1, tn_2, tn_3, tn_4, tn_5, tn_6, tn_7]
        refine J_blk a_X4_bears_115 ?_
        simp only [b_X4_bears_115, w_ireti, kb0 hT, kb1 hT, kb2 hT, kb3 hT, kb4 hT, kb5 hT, kb6 hT, kb7 hT, kb8 hT, lb1 hT, lb2 hT, lb3 hT, lb4 hT, lb5 hT, lb6 hT, lb7 hT, lb8 hT, Option.toList_some, Option.toList_none, List.cons_append, List.nil_append, true_and, and_true, if_true, if_false, true_or, or_true, Nat.reduceAdd, Int.reduceAdd, Bool.false_eq_true, tn_0, tn_1, tn_2, tn_3, tn_4, tn_5, tn_6, tn_7]
        first | exact ⟨rfl, rfl⟩ | (simp_all [Rt])
    · rw [if_neg e1, if_neg e2, if_neg e3, if_pos e4]
      refine J_blk a_X4_bears_127 ?_
      simp only [b_X4_bears_127, w_iload_n3, w_aload_n0, w_getf4, ne0_8, w_iload_n1, w_iconst_1, w_iadd, w_iald, w_isub, ne0_5, w_bipush, ci_10, w_idiv, w_ireti, kb0 hT, kb1 hT, kb2 hT, kb3 hT, kb4 hT, kb5 hT, kb6 hT, kb7 hT, kb8 hT, lb1 hT, lb2 hT, lb3 hT, lb4 hT, lb5 hT, lb6 hT, lb7 hT, lb8 hT, Option.toList_some, Option.toList_none, List.cons_append, List.nil_append, true_and, and_true, if_true, if_false, true_or, or_true, Nat.reduceAdd, Int.reduceAdd, Bool.false_eq_true, tn_0, tn_1, tn_2, tn_3, tn_4, tn_5, tn_6, tn_7, nI_1, to1, w3, to, y5]
      exact ⟨vinN (by omega) (by decide), vinN (by omega) (by decide), by decide, rfl, rfl⟩
    · rw [if_neg e1, if_neg e2, if_neg e3, if_neg e4, if_pos e5]
      refine J_blk a_X4_bears_148 ?_
      simp only [b_X4_bears_148, w_aload_n0, w_getf4, w_iconst_3, w_irem, w_if_ne, w_nil, kb0 hT, kb1 hT, kb2 hT, kb3 hT, kb4 hT, kb5 hT, kb6 hT, kb7 hT, kb8 hT, lb1 hT, lb2 hT, lb3 hT, lb4 hT, lb5 hT, lb6 hT, lb7 hT, lb8 hT, Option.toList_some, Option.toList_none, List.cons_append, List.nil_append, true_and, and_true, if_true, if_false, true_or, or_true, Nat.reduceAdd, Int.reduceAdd, Bool.false_eq_true, tn_0, tn_1, tn_2, tn_3, tn_4, tn_5, tn_6, tn_7, xy]
      refine ⟨by decide, fun h => ?_, fun h => ?_⟩
      · rw [if_neg h]
        refine J_blk a_X4_bears_168 ?_
        simp only [b_X4_bears_168, w_iload_n3, w_nil, kb0 hT, kb1 hT, kb2 hT, kb3 hT, kb4 hT, kb5 hT, kb6 hT, kb7 hT, kb8 hT, lb1 hT, lb2 hT, lb3 hT, lb4 hT, lb5 hT, lb6 hT, lb7 hT, lb8 hT, Option.toList_some, Option.toList_none, List.cons_append, List.nil_append, true_and, and_true, if_true, if_false, true_or, or_true, Nat.reduceAdd, Int.reduceAdd, Bool.false_eq_true, tn_0, tn_1, tn_2, tn_3, tn_4, tn_5, tn_6, tn_7]
        refine J_blk a_X4_bears_169 ?_
        simp only [b_X4_bears_169, w_ireti, kb0 hT, kb1 hT, kb2 hT, kb3 hT, kb4 hT, kb5 hT, kb6 hT, kb7 hT, kb8 hT, lb1 hT, lb2 hT, lb3 hT, lb4 hT, lb5 hT, lb6 hT, lb7 hT, lb8 hT, Option.toList_some, Option.toList_none, List.cons_append, List.nil_append, true_and, and_true, if_true, if_false, true_or, or_true, Nat.reduceAdd, Int.reduceAdd, Bool.false_eq_true, tn_0, tn_1, tn_2, tn_3, tn_4, tn_5, tn_6, tn_7]
        first | exact ⟨rfl, rfl⟩ | (simp_all [Rt])
      · rw [if_pos h]
        refine J_blk a_X4_bears_157 ?_
        simp only [b_X4_bears_157, w_iload_n3, w_aload_n0, w_getf4, ne0_1, w_iconst_2, w_iald, w_iadd, w_goto, kb0 hT, kb1 hT, kb2 hT, kb3 hT, kb4 hT, kb5 hT, kb6 hT, kb7 hT, kb8 hT, lb1 hT, lb2 hT, lb3 hT, lb4 hT, lb5 hT, lb6 hT, lb7 hT, lb8 hT, Option.toList_some, Option.toList_none, List.cons_append, List.nil_append, true_and, and_true, if_true, if_false, true_or, or_true, Nat.reduceAdd, Int.reduceAdd, Bool.false_eq_true, tn_0, tn_1, tn_2, tn_3, tn_4, tn_5, tn_6, tn_7, l2]
        refine ⟨vlit (by decide), ?_⟩
        refine J_blk a_X4_bears_169 ?_
        simp only [b_X4_bears_169, w_ireti, kb0 hT, kb1 hT, kb2 hT, kb3 hT, kb4 hT, kb5 hT, kb6 hT, kb7 hT, kb8 hT, lb1 hT, lb2 hT, lb3 hT, lb4 hT, lb5 hT, lb6 hT, lb7 hT, lb8 hT, Option.toList_some, Option.toList_none, List.cons_append, List.nil_append, true_and, and_true, if_true, if_false, true_or, or_true, Nat.reduceAdd, Int.reduceAdd, Bool.false_eq_true, tn_0, tn_1, tn_2, tn_3, tn_4, tn_5, tn_6, tn_7]
        first | exact ⟨rfl, rfl⟩ | (simp_all [Rt])
    · rw [if_neg e1, if_neg e2, if_neg e3, if_neg e4, if_neg e5]
      refine J_blk a_X4_bears_170 ?_
      simp only [b_X4_bears_170, w_iload_n3, w_ireti, kb0 hT, kb1 hT, kb2 hT, kb3 hT, kb4 hT, kb5 hT, kb6 hT, kb7 hT, kb8 hT, lb1 hT, lb2 hT, lb3 hT, lb4 hT, lb5 hT, lb6 hT, lb7 hT, lb8 hT, Option.toList_some, Option.toList_none, List.cons_append, List.nil_append, true_and, and_true, if_true, if_false, true_or, or_true, Nat.reduceAdd, Int.reduceAdd, Bool.false_eq_true, tn_0, tn_1, tn_2, tn_3, tn_4, tn_5, tn_6, tn_7]
      first | exact ⟨rfl, rfl⟩ | (simp_all [Rt])
  refine K_go 1 o_X4_bears [none, none] rfl (Nat.le_of_ble_eq_true rfl) ?_
  simp only [lvA_i, lvA_a, lvA_l, lvA_nil, List.cons_append, List.nil_append]
  refine J_blk a_X4_bears_0 ?_
  simp only [b_X4_bears_0, w_aload_n0, w_getf4, w_iload_n1, w_nil, kb0 hT, kb1 hT, kb2 hT, kb3 hT, kb4 hT, kb5 hT, kb6 hT, kb7 hT, kb8 hT, lb1 hT, lb2 hT, lb3 hT, lb4 hT, lb5 hT, lb6 hT, lb7 hT, lb8 hT, Option.toList_some, Option.toList_none, List.cons_append, List.nil_append, true_and, and_true, if_true, if_false, true_or, or_true, Nat.reduceAdd, Int.reduceAdd, Bool.false_eq_true, tn_0, tn_1, tn_2, tn_3, tn_4, tn_5, tn_6, tn_7, v1]
  refine J_callSr (bit_c _ (by omega) _) k_X4_bears_5 o_X5_bit rfl (by decide) rfl (Nat.le_of_ble_eq_true rfl) ?_
  rw [hb]
  cases hsd : sd s o
  · refine J_blk a_X4_bears_8 ?_
    simp only [b_X4_bears_8, w_iconst_1, w_icmp_ne, w_nil, kb0 hT, kb1 hT, kb2 hT, kb3 hT, kb4 hT, kb5 hT, kb6 hT, kb7 hT, kb8 hT, lb1 hT, lb2 hT, lb3 hT, lb4 hT, lb5 hT, lb6 hT, lb7 hT, lb8 hT, Option.toList_some, Option.toList_none, List.cons_append, List.nil_append, true_and, and_true, if_true, if_false, true_or, or_true, Nat.reduceAdd, Int.reduceAdd, Bool.false_eq_true, tn_0, tn_1, tn_2, tn_3, tn_4, tn_5, tn_6, tn_7]
    refine ⟨fun _ => ?_, fun h => absurd h (by decide)⟩
    refine J_blk a_X4_bears_20 ?_
    simp only [b_X4_bears_20, w_iconst_0, w_nil, kb0 hT, kb1 hT, kb2 hT, kb3 hT, kb4 hT, kb5 hT, kb6 hT, kb7 hT, kb8 hT, lb1 hT, lb2 hT, lb3 hT, lb4 hT, lb5 hT, lb6 hT, lb7 hT, lb8 hT, Option.toList_some, Option.toList_none, List.cons_append, List.nil_append, true_and, and_true, if_true, if_false, true_or, or_true, Nat.reduceAdd, Int.reduceAdd, Bool.false_eq_true, tn_0, tn_1, tn_2, tn_3, tn_4, tn_5, tn_6, tn_7]
    exact tail _ (by rw [hsd]; rfl)
  · refine J_blk a_X4_bears_8 ?_
    simp only [b_X4_bears_8, w_iconst_1, w_icmp_ne, w_nil, kb0 hT, kb1 hT, kb2 hT, kb3 hT, kb4 hT, kb5 hT, kb6 hT, kb7 hT, kb8 hT, lb1 hT, lb2 hT, lb3 hT, lb4 hT, lb5 hT, lb6 hT, lb7 hT, lb8 hT, Option.toList_some, Option.toList_none, List.cons_append, List.nil_append, true_and, and_true, if_true, if_false, true_or, or_true, Nat.reduceAdd, Int.reduceAdd, Bool.false_eq_true, tn_0, tn_1, tn_2, tn_3, tn_4, tn_5, tn_6, tn_7]
    refine ⟨fun h => absurd rfl h, fun _ => ?_⟩
    refine J_blk a_X4_bears_12 ?_
    simp only [b_X4_bears_12, w_aload_n0, w_iload_n1, w_nil, kb0 hT, kb1 hT, kb2 hT, kb3 hT, kb4 hT, kb5 hT, kb6 hT, kb7 hT, kb8 hT, lb1 hT, lb2 hT, lb3 hT, lb4 hT, lb5 hT, lb6 hT, lb7 hT, lb8 hT, Option.toList_some, Option.toList_none, List.cons_append, List.nil_append, true_and, and_true, if_true, if_false, true_or, or_true, Nat.reduceAdd, Int.reduceAdd, Bool.false_eq_true, tn_0, tn_1, tn_2, tn_3, tn_4, tn_5, tn_6, tn_7]
    refine J_callVr (ci := 4) (hinders_c hw hx' hT ho) k_X4_bears_14 o_X4_hinders (kb0 hT) rfl rfl rfl (by decide) rfl (Nat.le_of_ble_eq_true rfl) ?_
    refine J_blk a_X4_bears_17 ?_
    simp only [b_X4_bears_17, w_goto, kb0 hT, kb1 hT, kb2 hT, kb3 hT, kb4 hT, kb5 hT, kb6 hT, kb7 hT, kb8 hT, lb1 hT, lb2 hT, lb3 hT, lb4 hT, lb5 hT, lb6 hT, lb7 hT, lb8 hT, Option.toList_some, Option.toList_none, List.cons_append, List.nil_append, true_and, and_true, if_true, if_false, true_or, or_true, Nat.reduceAdd, Int.reduceAdd, Bool.false_eq_true, tn_0, tn_1, tn_2, tn_3, tn_4, tn_5, tn_6, tn_7]
    exact tail _ (by rw [hsd]; rfl)
theorem canBack_c (hw : WF s n) (hx : RX M b s n) (hT : TB b) {o : Nat} (ho : o < n) : K 2 mX4_canBeHadBack [.ref b, .int (nI o)] M (Rt (some (.int (if s (8 + 6 * o + 4) = 1 ∧ ¬ 6 ≤ s (8 + 6 * o + 5) then 1 else 0))) M) := by
  have h8 := hw.2.1
  have y6 := (hx.2.2.2.2.2.2 o ho).2.2.2.2
  have to : (nI o).toNatClampNeg = o := nI_clamp (by omega)
  refine K_go 1 o_X4_canBeHadBack [] rfl (Nat.le_of_ble_eq_true rfl) ?_
  simp only [lvA_i, lvA_a, lvA_l, lvA_nil, List.cons_append, List.nil_append]
  refine J_blk a_X4_canBeHadBack_0 ?_
  simp only [b_X4_canBeHadBack_0, w_aload_n0, w_iload_n1, w_nil, kb0 hT, kb1 hT, kb2 hT, kb3 hT, kb4 hT, kb5 hT, kb6 hT, kb7 hT, kb8 hT, lb1 hT, lb2 hT, lb3 hT, lb4 hT, lb5 hT, lb6 hT, lb7 hT, lb8 hT, Option.toList_some, Option.toList_none, List.cons_append, List.nil_append, true_and, and_true, if_true, if_false, true_or, or_true, Nat.reduceAdd, Int.reduceAdd, Bool.false_eq_true, tn_0, tn_1, tn_2, tn_3, tn_4, tn_5, tn_6, tn_7]
  refine J_callVr (ci := 4) (isCut_c h8 hx hT ho) k_X4_canBeHadBack_2 o_X4_isCut (kb0 hT) rfl rfl rfl (by decide) rfl (Nat.le_of_ble_eq_true rfl) ?_
  by_cases hc : s (8 + 6 * o + 4) = 1
  · rw [show cuF s o = true from decide_eq_true hc]
    refine J_blk a_X4_canBeHadBack_5 ?_
    simp only [b_X4_canBeHadBack_5, w_if_eq, w_nil, kb0 hT, kb1 hT, kb2 hT, kb3 hT, kb4 hT, kb5 hT, kb6 hT, kb7 hT, kb8 hT, lb1 hT, lb2 hT, lb3 hT, lb4 hT, lb5 hT, lb6 hT, lb7 hT, lb8 hT, Option.toList_some, Option.toList_none, List.cons_append, List.nil_append, true_and, and_true, if_true, if_false, true_or, or_true, Nat.reduceAdd, Int.reduceAdd, Bool.false_eq_true, tn_0, tn_1, tn_2, tn_3, tn_4, tn_5, tn_6, tn_7]
    refine ⟨fun h => absurd h (by decide), fun _ => ?_⟩
    refine J_blk a_X4_canBeHadBack_8 ?_
    simp only [b_X4_canBeHadBack_8, w_aload_n0, w_getf4, ne0_6, w_iload_n1, w_iald, w_bipush, ci_6, w_icmp_ge, w_nil, kb0 hT, kb1 hT, kb2 hT, kb3 hT, kb4 hT, kb5 hT, kb6 hT, kb7 hT, kb8 hT, lb1 hT, lb2 hT, lb3 hT, lb4 hT, lb5 hT, lb6 hT, lb7 hT, lb8 hT, Option.toList_some, Option.toList_none, List.cons_append, List.nil_append, true_and, and_true, if_true, if_false, true_or, or_true, Nat.reduceAdd, Int.reduceAdd, Bool.false_eq_true, tn_0, tn_1, tn_2, tn_3, tn_4, tn_5, tn_6, tn_7, to, y6]
    refine ⟨vinN (by omega) (by decide), fun h => ?_, fun h => ?_⟩
    · rw [if_neg (fun q => q.2 h)]
      refine J_blk a_X4_canBeHadBack_23 ?_
      simp only [b_X4_canBeHadBack_23, w_iconst_0, w_nil, kb0 hT, kb1 hT, kb2 hT, kb3 hT, kb4 hT, kb5 hT, kb6 hT, kb7 hT, kb8 hT, lb1 hT, lb2 hT, lb3 hT, lb4 hT, lb5 hT, lb6 hT, lb7 hT, lb8 hT, Option.toList_some, Option.toList_none, List.cons_append, List.nil_append, true_and, and_true, if_true, if_false, true_or, or_true, Nat.reduceAdd, Int.reduceAdd, Bool.false_eq_true, tn_0, tn_1, tn_2, tn_3, tn_4, tn_5, tn_6, tn_7]
      refine J_blk a_X4_canBeHadBack_24 ?_
      simp only [b_X4_canBeHadBack_24, w_iretz, kb0 hT, kb1 hT, kb2 hT, kb3 hT, kb4 hT, kb5 hT, kb6 hT, kb7 hT, kb8 hT, lb1 hT, lb2 hT, lb3 hT, lb4 hT, lb5 hT, lb6 hT, lb7 hT, lb8 hT, Option.toList_some, Option.toList_none, List.cons_append, List.nil_append, true_and, and_true, if_true, if_false, true_or, or_true, Nat.reduceAdd, Int.reduceAdd, Bool.false_eq_true, tn_0, tn_1, tn_2, tn_3, tn_4, tn_5, tn_6, tn_7]
      try refine ⟨(by first | exact Or.inl rfl | exact Or.inr rfl), ?_⟩
      first | exact ⟨rfl, rfl⟩ | (simp_all [Rt])
    · rw [if_pos ⟨hc, h⟩]
      refine J_blk a_X4_canBeHadBack_19 ?_
      simp only [b_X4_canBeHadBack_19, w_iconst_1, w_goto, kb0 hT, kb1 hT, kb2 hT, kb3 hT, kb4 hT, kb5 hT, kb6 hT, kb7 hT, kb8 hT, lb1 hT, lb2 hT, lb3 hT, lb4 hT, lb5 hT, lb6 hT, lb7 hT, lb8 hT, Option.toList_some, Option.toList_none, List.cons_append, List.nil_append, true_and, and_true, if_true, if_false, true_or, or_true, Nat.reduceAdd, Int.reduceAdd, Bool.false_eq_true, tn_0, tn_1, tn_2, tn_3, tn_4, tn_5, tn_6, tn_7]
      refine J_blk a_X4_canBeHadBack_24 ?_
      simp only [b_X4_canBeHadBack_24, w_iretz, kb0 hT, kb1 hT, kb2 hT, kb3 hT, kb4 hT, kb5 hT, kb6 hT, kb7 hT, kb8 hT, lb1 hT, lb2 hT, lb3 hT, lb4 hT, lb5 hT, lb6 hT, lb7 hT, lb8 hT, Option.toList_some, Option.toList_none, List.cons_append, List.nil_append, true_and, and_true, if_true, if_false, true_or, or_true, Nat.reduceAdd, Int.reduceAdd, Bool.false_eq_true, tn_0, tn_1, tn_2, tn_3, tn_4, tn_5, tn_6, tn_7]
      try refine ⟨(by first | exact Or.inl rfl | exact Or.inr rfl), ?_⟩
      first | exact ⟨rfl, rfl⟩ | (simp_all [Rt])
  · rw [show cuF s o = false from decide_eq_false hc, if_neg (fun q => hc q.1)]
    refine J_blk a_X4_canBeHadBack_5 ?_
    simp only [b_X4_canBeHadBack_5, w_if_eq, w_nil, kb0 hT, kb1 hT, kb2 hT, kb3 hT, kb4 hT, kb5 hT, kb6 hT, kb7 hT, kb8 hT, lb1 hT, lb2 hT, lb3 hT, lb4 hT, lb5 hT, lb6 hT, lb7 hT, lb8 hT, Option.toList_some, Option.toList_none, List.cons_append, List.nil_append, true_and, and_true, if_true, if_false, true_or, or_true, Nat.reduceAdd, Int.reduceAdd, Bool.false_eq_true, tn_0, tn_1, tn_2, tn_3, tn_4, tn_5, tn_6, tn_7]
    refine ⟨fun _ => ?_, fun h => absurd rfl h⟩
    refine J_blk a_X4_canBeHadBack_23 ?_
    simp only [b_X4_canBeHadBack_23, w_iconst_0, w_nil, kb0 hT, kb1 hT, kb2 hT, kb3 hT, kb4 hT, kb5 hT, kb6 hT, kb7 hT, kb8 hT, lb1 hT, lb2 hT, lb3 hT, lb4 hT, lb5 hT, lb6 hT, lb7 hT, lb8 hT, Option.toList_some, Option.toList_none, List.cons_append, List.nil_append, true_and, and_true, if_true, if_false, true_or, or_true, Nat.reduceAdd, Int.reduceAdd, Bool.false_eq_true, tn_0, tn_1, tn_2, tn_3, tn_4, tn_5, tn_6, tn_7]
    refine J_blk a_X4_canBeHadBack_24 ?_
    simp only [b_X4_canBeHadBack_24, w_iretz, kb0 hT, kb1 hT, kb2 hT, kb3 hT, kb4 hT, kb5 hT, kb6 hT, kb7 hT, kb8 hT, lb1 hT, lb2 hT, lb3 hT, lb4 hT, lb5 hT, lb6 hT, lb7 hT, lb8 hT, Option.toList_some, Option.toList_none, List.cons_append, List.nil_append, true_and, and_true, if_true, if_false, true_or, or_true, Nat.reduceAdd, Int.reduceAdd, Bool.false_eq_true, tn_0, tn_1, tn_2, tn_3, tn_4, tn_5, tn_6, tn_7]
    try refine ⟨(by first | exact Or.inl rfl | exact Or.inr rfl), ?_⟩
    first | exact ⟨rfl, rfl⟩ | (simp_all [Rt])
theorem burnt_c (hw : WF s n) (hx : RX M b s n) (hT : TB b) : K 2 mX4_burnt [.ref b] M (Rt (some (.int (bsF (brS s) n))) M) := by
  have h8 := hw.2.1
  have x7 := hx.1
  have loop : ∀ k, k ≤ n → J 2 mX4_burnt 4 [some (.ref b), some (.int (bsF (brS s) k)), some (.int (nI k))] [] M (Rt (some (.int (bsF (brS s) n))) M) := by
    refine down n ?_ ?_
    · refine J_blk a_X4_burnt_4 ?_
      simp only [b_X4_burnt_4, w_iload_n2, w_aload_n0, w_getf4, w_icmp_ge, w_nil, kb0 hT, kb1 hT, kb2 hT, kb3 hT, kb4 hT, kb5 hT, kb6 hT, kb7 hT, kb8 hT, lb1 hT, lb2 hT, lb3 hT, lb4 hT, lb5 hT, lb6 hT, lb7 hT, lb8 hT, Option.toList_some, Option.toList_none, List.cons_append, List.nil_append, true_and, and_true, if_true, if_false, true_or, or_true, Nat.reduceAdd, Int.reduceAdd, Bool.false_eq_true, tn_0, tn_1, tn_2, tn_3, tn_4, tn_5, tn_6, tn_7, x7]
      refine ⟨fun _ => ?_, fun h => absurd (Int32.le_refl _) h⟩
      refine J_blk a_X4_burnt_43 ?_
      simp only [b_X4_burnt_43, w_iload_n1, w_ireti, kb0 hT, kb1 hT, kb2 hT, kb3 hT, kb4 hT, kb5 hT, kb6 hT, kb7 hT, kb8 hT, lb1 hT, lb2 hT, lb3 hT, lb4 hT, lb5 hT, lb6 hT, lb7 hT, lb8 hT, Option.toList_some, Option.toList_none, List.cons_append, List.nil_append, true_and, and_true, if_true, if_false, true_or, or_true, Nat.reduceAdd, Int.reduceAdd, Bool.false_eq_true, tn_0, tn_1, tn_2, tn_3, tn_4, tn_5, tn_6, tn_7]
      first | exact ⟨rfl, rfl⟩ | (simp_all [Rt])
    · intro k hk ih
      have y6 := (hx.2.2.2.2.2.2 k hk).2.2.2.2
      have tk : (nI k).toNatClampNeg = k := nI_clamp (by omega)
      rw [bsF] at ih
      refine J_blk a_X4_burnt_4 ?_
      simp only [b_X4_burnt_4, w_iload_n2, w_aload_n0, w_getf4, w_icmp_ge, w_nil, kb0 hT, kb1 hT, kb2 hT, kb3 hT, kb4 hT, kb5 hT, kb6 hT, kb7 hT, kb8 hT, lb1 hT, lb2 hT, lb3 hT, lb4 hT, lb5 hT, lb6 hT, lb7 hT, lb8 hT, Option.toList_some, Option.toList_none, List.cons_append, List.nil_append, true_and, and_true, if_true, if_false, true_or, or_true, Nat.reduceAdd, Int.reduceAdd, Bool.false_eq_true, tn_0, tn_1, tn_2, tn_3, tn_4, tn_5, tn_6, tn_7, x7]
      refine ⟨fun h => absurd h (nI_ge hk (by omega)), fun _ => ?_⟩
      refine J_blk a_X4_burnt_12 ?_
      simp only [b_X4_burnt_12, w_aload_n0, w_iload_n2, w_nil, kb0 hT, kb1 hT, kb2 hT, kb3 hT, kb4 hT, kb5 hT, kb6 hT, kb7 hT, kb8 hT, lb1 hT, lb2 hT, lb3 hT, lb4 hT, lb5 hT, lb6 hT, lb7 hT, lb8 hT, Option.toList_some, Option.toList_none, List.cons_append, List.nil_append, true_and, and_true, if_true, if_false, true_or, or_true, Nat.reduceAdd, Int.reduceAdd, Bool.false_eq_true, tn_0, tn_1, tn_2, tn_3, tn_4, tn_5, tn_6, tn_7]
      refine J_callVr (ci := 4) (isCut_c h8 hx hT hk) k_X4_burnt_14 o_X4_isCut (kb0 hT) rfl rfl rfl (by decide) rfl (Nat.le_of_ble_eq_true rfl) ?_
      by_cases hc : s (8 + 6 * k + 4) = 1
      · rw [show cuF s k = true from decide_eq_true hc]
        refine J_blk a_X4_burnt_17 ?_
        simp only [b_X4_burnt_17, w_if_eq, w_nil, kb0 hT, kb1 hT, kb2 hT, kb3 hT, kb4 hT, kb5 hT, kb6 hT, kb7 hT, kb8 hT, lb1 hT, lb2 hT, lb3 hT, lb4 hT, lb5 hT, lb6 hT, lb7 hT, lb8 hT, Option.toList_some, Option.toList_none, List.cons_append, List.nil_append, true_and, and_true, if_true, if_false, true_or, or_true, Nat.reduceAdd, Int.reduceAdd, Bool.false_eq_true, tn_0, tn_1, tn_2, tn_3, tn_4, tn_5, tn_6, tn_7]
        refine ⟨fun h => absurd h (by decide), fun _ => ?_⟩
        refine J_blk a_X4_burnt_20 ?_
        simp only [b_X4_burnt_20, w_aload_n0, w_getf4, ne0_6, w_iload_n2, w_iald, w_bipush, ci_6, w_icmp_lt, w_nil, kb0 hT, kb1 hT, kb2 hT, kb3 hT, kb4 hT, kb5 hT, kb6 hT, kb7 hT, kb8 hT, lb1 hT, lb2 hT, lb3 hT, lb4 hT, lb5 hT, lb6 hT, lb7 hT, lb8 hT, Option.toList_some, Option.toList_none, List.cons_append, List.nil_append, true_and, and_true, if_true, if_false, true_or, or_true, Nat.reduceAdd, Int.reduceAdd, Bool.false_eq_true, tn_0, tn_1, tn_2, tn_3, tn_4, tn_5, tn_6, tn_7, tk, y6]
        refine ⟨vinN (by omega) (by decide), fun h => ?_, fun h => ?_⟩
        · rw [show brS s k = false from decide_eq_false (fun q => absurd q.2 (Int32.not_le.mpr h))] at ih
          refine J_blk a_X4_burnt_37 ?_
          simp only [b_X4_burnt_37, w_iinc2, nl_2n, nl_2i, nl_2a, ci_1, w_goto, kb0 hT, kb1 hT, kb2 hT, kb3 hT, kb4 hT, kb5 hT, kb6 hT, kb7 hT, kb8 hT, lb1 hT, lb2 hT, lb3 hT, lb4 hT, lb5 hT, lb6 hT, lb7 hT, lb8 hT, Option.toList_some, Option.toList_none, List.cons_append, List.nil_append, true_and, and_true, if_true, if_false, true_or, or_true, Nat.reduceAdd, Int.reduceAdd, Bool.false_eq_true, tn_0, tn_1, tn_2, tn_3, tn_4, tn_5, tn_6, tn_7, nI_1]
          exact J_cast ih (by simp) rfl rfl
        · rw [show brS s k = true from decide_eq_true ⟨hc, Int32.not_lt.mp h⟩] at ih
          refine J_blk a_X4_burnt_31 ?_
          simp only [b_X4_burnt_31, w_iload_n1, w_iconst_1, w_iload_n2, w_ishl, w_ior, w_istore1, nl_1n, nl_1i, nl_1a, w_nil, kb0 hT, kb1 hT, kb2 hT, kb3 hT, kb4 hT, kb5 hT, kb6 hT, kb7 hT, kb8 hT, lb1 hT, lb2 hT, lb3 hT, lb4 hT, lb5 hT, lb6 hT, lb7 hT, lb8 hT, Option.toList_some, Option.toList_none, List.cons_append, List.nil_append, true_and, and_true, if_true, if_false, true_or, or_true, Nat.reduceAdd, Int.reduceAdd, Bool.false_eq_true, tn_0, tn_1, tn_2, tn_3, tn_4, tn_5, tn_6, tn_7, nI_1]
          refine J_blk a_X4_burnt_37 ?_
          simp only [b_X4_burnt_37, w_iinc2, nl_2n, nl_2i, nl_2a, ci_1, w_goto, kb0 hT, kb1 hT, kb2 hT, kb3 hT, kb4 hT, kb5 hT, kb6 hT, kb7 hT, kb8 hT, lb1 hT, lb2 hT, lb3 hT, lb4 hT, lb5 hT, lb6 hT, lb7 hT, lb8 hT, Option.toList_some, Option.toList_none, List.cons_append, List.nil_append, true_and, and_true, if_true, if_false, true_or, or_true, Nat.reduceAdd, Int.reduceAdd, Bool.false_eq_true, tn_0, tn_1, tn_2, tn_3, tn_4, tn_5, tn_6, tn_7, nI_1]
          exact J_cast ih (by simp) rfl rfl
      · rw [show cuF s k = false from decide_eq_false hc]
        rw [show brS s k = false from decide_eq_false (fun q => hc q.1)] at ih
        refine J_blk a_X4_burnt_17 ?_
        simp only [b_X4_burnt_17, w_if_eq, w_nil, kb0 hT, kb1 hT, kb2 hT, kb3 hT, kb4 hT, kb5 hT, kb6 hT, kb7 hT, kb8 hT, lb1 hT, lb2 hT, lb3 hT, lb4 hT, lb5 hT, lb6 hT, lb7 hT, lb8 hT, Option.toList_some, Option.toList_none, List.cons_append, List.nil_append, true_and, and_true, if_true, if_false, true_or, or_true, Nat.reduceAdd, Int.reduceAdd, Bool.false_eq_true, tn_0, tn_1, tn_2, tn_3, tn_4, tn_5, tn_6, tn_7]
        refine ⟨fun _ => ?_, fun h => absurd rfl h⟩
        refine J_blk a_X4_burnt_37 ?_
        simp only [b_X4_burnt_37, w_iinc2, nl_2n, nl_2i, nl_2a, ci_1, w_goto, kb0 hT, kb1 hT, kb2 hT, kb3 hT, kb4 hT, kb5 hT, kb6 hT, kb7 hT, kb8 hT, lb1 hT, lb2 hT, lb3 hT, lb4 hT, lb5 hT, lb6 hT, lb7 hT, lb8 hT, Option.toList_some, Option.toList_none, List.cons_append, List.nil_append, true_and, and_true, if_true, if_false, true_or, or_true, Nat.reduceAdd, Int.reduceAdd, Bool.false_eq_true, tn_0, tn_1, tn_2, tn_3, tn_4, tn_5, tn_6, tn_7, nI_1]
        exact J_cast ih (by simp) rfl rfl
  refine K_go 0 o_X4_burnt [none, none] rfl (Nat.le_of_ble_eq_true rfl) ?_
  simp only [lvA_i, lvA_a, lvA_l, lvA_nil, List.cons_append, List.nil_append]
  refine J_blk a_X4_burnt_0 ?_
  simp only [b_X4_burnt_0, w_iconst_0, w_istore1, nl_1n, nl_1i, nl_1a, w_istore2, nl_2n, nl_2i, nl_2a, w_nil, kb0 hT, kb1 hT, kb2 hT, kb3 hT, kb4 hT, kb5 hT, kb6 hT, kb7 hT, kb8 hT, lb1 hT, lb2 hT, lb3 hT, lb4 hT, lb5 hT, lb6 hT, lb7 hT, lb8 hT, Option.toList_some, Option.toList_none, List.cons_append, List.nil_append, true_and, and_true, if_true, if_false, true_or, or_true, Nat.reduceAdd, Int.reduceAdd, Bool.false_eq_true, tn_0, tn_1, tn_2, tn_3, tn_4, tn_5, tn_6, tn_7]
  exact loop 0 (by omega)
theorem forceOfAll_c (hw : WF s n) (hx : RX M b s n) (hT : TB b) : K 2 mX4_forceOfAll [.ref b] M (Rt (some (.int (fsS s n))) M) := by
  have h8 := hw.2.1
  have x7 := hx.1
  have loop : ∀ k, k ≤ n → J 2 mX4_forceOfAll 4 [some (.ref b), some (.int (fsS s k)), some (.int (nI k))] [] M (Rt (some (.int (fsS s n))) M) := by
    refine down n ?_ ?_
    · refine J_blk a_X4_forceOfAll_4 ?_
      simp only [b_X4_forceOfAll_4, w_iload_n2, w_aload_n0, w_getf4, w_icmp_ge, w_nil, kb0 hT, kb1 hT, kb2 hT, kb3 hT, kb4 hT, kb5 hT, kb6 hT, kb7 hT, kb8 hT, lb1 hT, lb2 hT, lb3 hT, lb4 hT, lb5 hT, lb6 hT, lb7 hT, lb8 hT, Option.toList_some, Option.toList_none, List.cons_append, List.nil_append, true_and, and_true, if_true, if_false, true_or, or_true, Nat.reduceAdd, Int.reduceAdd, Bool.false_eq_true, tn_0, tn_1, tn_2, tn_3, tn_4, tn_5, tn_6, tn_7, x7]
      refine ⟨fun _ => ?_, fun h => absurd (Int32.le_refl _) h⟩
      refine J_blk a_X4_forceOfAll_27 ?_
      simp only [b_X4_forceOfAll_27, w_iload_n1, w_ireti, kb0 hT, kb1 hT, kb2 hT, kb3 hT, kb4 hT, kb5 hT, kb6 hT, kb7 hT, kb8 hT, lb1 hT, lb2 hT, lb3 hT, lb4 hT, lb5 hT, lb6 hT, lb7 hT, lb8 hT, Option.toList_some, Option.toList_none, List.cons_append, List.nil_append, true_and, and_true, if_true, if_false, true_or, or_true, Nat.reduceAdd, Int.reduceAdd, Bool.false_eq_true, tn_0, tn_1, tn_2, tn_3, tn_4, tn_5, tn_6, tn_7]
      first | exact ⟨rfl, rfl⟩ | (simp_all [Rt])
    · intro k hk ih
      have y4 := (hx.2.2.2.2.2.2 k hk).2.2.1
      have tk : (nI k).toNatClampNeg = k := nI_clamp (by omega)
      refine J_blk a_X4_forceOfAll_4 ?_
      simp only [b_X4_forceOfAll_4, w_iload_n2, w_aload_n0, w_getf4, w_icmp_ge, w_nil, kb0 hT, kb1 hT, kb2 hT, kb3 hT, kb4 hT, kb5 hT, kb6 hT, kb7 hT, kb8 hT, lb1 hT, lb2 hT, lb3 hT, lb4 hT, lb5 hT, lb6 hT, lb7 hT, lb8 hT, Option.toList_some, Option.toList_none, List.cons_append, List.nil_append, true_and, and_true, if_true, if_false, true_or, or_true, Nat.reduceAdd, Int.reduceAdd, Bool.false_eq_true, tn_0, tn_1, tn_2, tn_3, tn_4, tn_5, tn_6, tn_7, x7]
      refine ⟨fun h => absurd h (nI_ge hk (by omega)), fun _ => ?_⟩
      refine J_blk a_X4_forceOfAll_12 ?_
      simp only [b_X4_forceOfAll_12, w_iload_n1, w_aload_n0, w_getf4, ne0_4, w_iload_n2, w_iald, w_iadd, w_istore1, nl_1n, nl_1i, nl_1a, w_iinc2, nl_2n, nl_2i, nl_2a, ci_1, w_goto, kb0 hT, kb1 hT, kb2 hT, kb3 hT, kb4 hT, kb5 hT, kb6 hT, kb7 hT, kb8 hT, lb1 hT, lb2 hT, lb3 hT, lb4 hT, lb5 hT, lb6 hT, lb7 hT, lb8 hT, Option.toList_some, Option.toList_none, List.cons_append, List.nil_append, true_and, and_true, if_true, if_false, true_or, or_true, Nat.reduceAdd, Int.reduceAdd, Bool.false_eq_true, tn_0, tn_1, tn_2, tn_3, tn_4, tn_5, tn_6, tn_7, tk, y4, nI_1]
      exact ⟨vinN (by omega) (by decide), ih⟩
  refine K_go 0 o_X4_forceOfAll [none, none] rfl (Nat.le_of_ble_eq_true rfl) ?_
  simp only [lvA_i, lvA_a, lvA_l, lvA_nil, List.cons_append, List.nil_append]
  refine J_blk a_X4_forceOfAll_0 ?_
  simp only [b_X4_forceOfAll_0, w_iconst_0, w_istore1, nl_1n, nl_1i, nl_1a, w_istore2, nl_2n, nl_2i, nl_2a, w_nil, kb0 hT, kb1 hT, kb2 hT, kb3 hT, kb4 hT, kb5 hT, kb6 hT, kb7 hT, kb8 hT, lb1 hT, lb2 hT, lb3 hT, lb4 hT, lb5 hT, lb6 hT, lb7 hT, lb8 hT, Option.toList_some, Option.toList_none, List.cons_append, List.nil_append, true_and, and_true, if_true, if_false, true_or, or_true, Nat.reduceAdd, Int.reduceAdd, Bool.false_eq_true, tn_0, tn_1, tn_2, tn_3, tn_4, tn_5, tn_6, tn_7]
  exact loop 0 (by omega)
theorem depthOf_c (hw : WF s n) (hx : RX M b s n) (hT : TB b) {o : Nat} (ho : o < n) : K 1 mX4_depthOf [.ref b, .int (nI o)] M (Rt (some (.int (nI (dpS s o)))) M) := by
  have h8 := hw.2.1
  have to : (nI o).toNatClampNeg = o := nI_clamp (by omega)
  have y3 := (hx.2.2.2.2.2.2 o ho).2.1
  have l9 : ∀ (f a d i : Nat), a < f → a < n → f + i = 8 → J 1 mX4_depthOf 12 [some (.ref b), some (.int (nI o)), some (.int (nI d)), some (.int (s (8 + 6 * a + 1))), some (.int (nI i))] [] M (Rt (some (.int (nI (d + dpF s f a)))) M) := by
    intro f
    induction f with
    | zero => intro a d i h; omega
    | succ f ih =>
      intro a d i ha han hfi
      obtain ⟨q, hq, eq⟩ := (hw.2.2 a han).2.1
      rw [eq]
      by_cases h0 : q = 0
      · subst h0
        have e : dpF s (f + 1) a = 0 := by rw [dpF, if_pos (show s (8 + 6 * a + 1) = 0 from eq)]
        rw [e, Nat.add_zero]
        refine J_blk a_X4_depthOf_12 ?_
        simp only [b_X4_depthOf_12, w_iload4, w_bipush, ci_8, w_icmp_ge, w_nil, kb0 hT, kb1 hT, kb2 hT, kb3 hT, kb4 hT, kb5 hT, kb6 hT, kb7 hT, kb8 hT, lb1 hT, lb2 hT, lb3 hT, lb4 hT, lb5 hT, lb6 hT, lb7 hT, lb8 hT, Option.toList_some, Option.toList_none, List.cons_append, List.nil_append, true_and, and_true, if_true, if_false, true_or, or_true, Nat.reduceAdd, Int.reduceAdd, Bool.false_eq_true, tn_0, tn_1, tn_2, tn_3, tn_4, tn_5, tn_6, tn_7]
        refine ⟨fun _ => ?_, fun _ => ?_⟩
        · refine J_blk a_X4_depthOf_41 ?_
          simp only [b_X4_depthOf_41, w_iload_n2, w_ireti, kb0 hT, kb1 hT, kb2 hT, kb3 hT, kb4 hT, kb5 hT, kb6 hT, kb7 hT, kb8 hT, lb1 hT, lb2 hT, lb3 hT, lb4 hT, lb5 hT, lb6 hT, lb7 hT, lb8 hT, Option.toList_some, Option.toList_none, List.cons_append, List.nil_append, true_and, and_true, if_true, if_false, true_or, or_true, Nat.reduceAdd, Int.reduceAdd, Bool.false_eq_true, tn_0, tn_1, tn_2, tn_3, tn_4, tn_5, tn_6, tn_7]
          first | exact ⟨rfl, rfl⟩ | (simp_all [Rt])
        · refine J_blk a_X4_depthOf_19 ?_
          simp only [b_X4_depthOf_19, w_iload_n3, w_if_le, w_nil, kb0 hT, kb1 hT, kb2 hT, kb3 hT, kb4 hT, kb5 hT, kb6 hT, kb7 hT, kb8 hT, lb1 hT, lb2 hT, lb3 hT, lb4 hT, lb5 hT, lb6 hT, lb7 hT, lb8 hT, Option.toList_some, Option.toList_none, List.cons_append, List.nil_append, true_and, and_true, if_true, if_false, true_or, or_true, Nat.reduceAdd, Int.reduceAdd, Bool.false_eq_true, tn_0, tn_1, tn_2, tn_3, tn_4, tn_5, tn_6, tn_7]
          refine ⟨fun _ => ?_, fun h => absurd (show nI 0 ≤ 0 by decide) h⟩
          refine J_blk a_X4_depthOf_41 ?_
          simp only [b_X4_depthOf_41, w_iload_n2, w_ireti, kb0 hT, kb1 hT, kb2 hT, kb3 hT, kb4 hT, kb5 hT, kb6 hT, kb7 hT, kb8 hT, lb1 hT, lb2 hT, lb3 hT, lb4 hT, lb5 hT, lb6 hT, lb7 hT, lb8 hT, Option.toList_some, Option.toList_none, List.cons_append, List.nil_append, true_and, and_true, if_true, if_false, true_or, or_true, Nat.reduceAdd, Int.reduceAdd, Bool.false_eq_true, tn_0, tn_1, tn_2, tn_3, tn_4, tn_5, tn_6, tn_7]
          first | exact ⟨rfl, rfl⟩ | (simp_all [Rt])
      · have e : dpF s (f + 1) a = 1 + dpF s f (q - 1) := by rw [dpF, eq, if_neg (nI_ne0 (by omega) (by omega)), nI_clamp (by omega)]
        rw [e]
        have e8 : (8 ≤ nI i) = (8 ≤ i) := propext (nI_leI (a := 8) (by decide) (by omega))
        have y3 := (hx.2.2.2.2.2.2 (q - 1) (by omega)).2.1
        have tq : (nI (q - 1)).toNatClampNeg = q - 1 := nI_clamp (by omega)
        refine J_blk a_X4_depthOf_12 ?_
        simp only [b_X4_depthOf_12, w_iload4, w_bipush, ci_8, w_icmp_ge, w_nil, kb0 hT, kb1 hT, kb2 hT, kb3 hT, kb4 hT, kb5 hT, kb6 hT, kb7 hT, kb8 hT, lb1 hT, lb2 hT, lb3 hT, lb4 hT, lb5 hT, lb6 hT, lb7 hT, lb8 hT, Option.toList_some, Option.toList_none, List.cons_append, List.nil_append, true_and, and_true, if_true, if_false, true_or, or_true, Nat.reduceAdd, Int.reduceAdd, Bool.false_eq_true, tn_0, tn_1, tn_2, tn_3, tn_4, tn_5, tn_6, tn_7, e8]
        refine ⟨fun h => absurd h (by omega), fun _ => ?_⟩
        refine J_blk a_X4_depthOf_19 ?_
        simp only [b_X4_depthOf_19, w_iload_n3, w_if_le, w_nil, kb0 hT, kb1 hT, kb2 hT, kb3 hT, kb4 hT, kb5 hT, kb6 hT, kb7 hT, kb8 hT, lb1 hT, lb2 hT, lb3 hT, lb4 hT, lb5 hT, lb6 hT, lb7 hT, lb8 hT, Option.toList_some, Option.toList_none, List.cons_append, List.nil_append, true_and, and_true, if_true, if_false, true_or, or_true, Nat.reduceAdd, Int.reduceAdd, Bool.false_eq_true, tn_0, tn_1, tn_2, tn_3, tn_4, tn_5, tn_6, tn_7]
        refine ⟨fun h => absurd h (nI_nle (by omega) (by omega)), fun _ => ?_⟩
        refine J_blk a_X4_depthOf_23 ?_
        simp only [b_X4_depthOf_23, w_iinc2, nl_2n, nl_2i, nl_2a, ci_1, w_aload_n0, w_getf4, ne0_3, w_iload_n3, w_iconst_1, w_isub, w_iald, w_istore3, nl_3n, nl_3i, nl_3a, w_iinc4, nl_4n, nl_4i, nl_4a, w_goto, kb0 hT, kb1 hT, kb2 hT, kb3 hT, kb4 hT, kb5 hT, kb6 hT, kb7 hT, kb8 hT, lb1 hT, lb2 hT, lb3 hT, lb4 hT, lb5 hT, lb6 hT, lb7 hT, lb8 hT, Option.toList_some, Option.toList_none, List.cons_append, List.nil_append, true_and, and_true, if_true, if_false, true_or, or_true, Nat.reduceAdd, Int.reduceAdd, Bool.false_eq_true, tn_0, tn_1, tn_2, tn_3, tn_4, tn_5, tn_6, tn_7, nI_sub1 h0, tq, y3, nI_1]
        refine ⟨vinN (by omega) (by decide), ?_⟩
        have := ih (q - 1) (d + 1) (i + 1) (by omega) (by omega) (by omega)
        rw [show d + 1 + dpF s f (q - 1) = d + (1 + dpF s f (q - 1)) by omega] at this
        exact this
  have g := l9 8 o 0 0 (by omega) ho rfl
  rw [Nat.zero_add] at g
  refine K_go 1 o_X4_depthOf [none, none, none] rfl (Nat.le_of_ble_eq_true rfl) ?_
  simp only [lvA_i, lvA_a, lvA_l, lvA_nil, List.cons_append, List.nil_append]
  refine J_blk a_X4_depthOf_0 ?_
  simp only [b_X4_depthOf_0, w_iconst_0, w_istore2, nl_2n, nl_2i, nl_2a, w_aload_n0, w_getf4, ne0_3, w_iload_n1, w_iald, w_istore3, nl_3n, nl_3i, nl_3a, w_istore4, nl_4n, nl_4i, nl_4a, w_nil, kb0 hT, kb1 hT, kb2 hT, kb3 hT, kb4 hT, kb5 hT, kb6 hT, kb7 hT, kb8 hT, lb1 hT, lb2 hT, lb3 hT, lb4 hT, lb5 hT, lb6 hT, lb7 hT, lb8 hT, Option.toList_some, Option.toList_none, List.cons_append, List.nil_append, true_and, and_true, if_true, if_false, true_or, or_true, Nat.reduceAdd, Int.reduceAdd, Bool.false_eq_true, tn_0, tn_1, tn_2, tn_3, tn_4, tn_5, tn_6, tn_7, to, y3]
  exact ⟨vinN (by omega) (by decide), g⟩
theorem stemOf_c (hw : WF s n) (hx : RX M b s n) (hT : TB b) {o : Nat} (ho : o < n) : K 1 mX4_stemOf [.ref b, .int (nI o)] M (Rt (some (.int (bsF (stB s o) n))) M) := by
  have h8 := hw.2.1
  have x7 := hx.1
  have loop : ∀ k, k ≤ n → o < k → J 1 mX4_stemOf 8 [some (.ref b), some (.int (nI o)), some (.int (bsF (stB s o) k ||| (1 : Int32) <<< (nI o &&& 31))), some (.int (nI k))] [] M (Rt (some (.int (bsF (stB s o) n))) M) := by
    refine down n ?_ ?_
    · intro _
      refine J_blk a_X4_stemOf_8 ?_
      simp only [b_X4_stemOf_8, w_iload_n3, w_aload_n0, w_getf4, w_icmp_ge, w_nil, kb0 hT, kb1 hT, kb2 hT, kb3 hT, kb4 hT, kb5 hT, kb6 hT, kb7 hT, kb8 hT, lb1 hT, lb2 hT, lb3 hT, lb4 hT, lb5 hT, lb6 hT, lb7 hT, lb8 hT, Option.toList_some, Option.toList_none, List.cons_append, List.nil_append, true_and, and_true, if_true, if_false, true_or, or_true, Nat.reduceAdd, Int.reduceAdd, Bool.false_eq_true, tn_0, tn_1, tn_2, tn_3, tn_4, tn_5, tn_6, tn_7, x7]
      refine ⟨fun _ => ?_, fun h => absurd (Int32.le_refl _) h⟩
      refine J_blk a_X4_stemOf_53 ?_
      simp only [b_X4_stemOf_53, w_iload_n2, w_iconst_1, w_iload_n1, w_ishl, w_iconst_m1, w_ixor, w_iand, w_ireti, kb0 hT, kb1 hT, kb2 hT, kb3 hT, kb4 hT, kb5 hT, kb6 hT, kb7 hT, kb8 hT, lb1 hT, lb2 hT, lb3 hT, lb4 hT, lb5 hT, lb6 hT, lb7 hT, lb8 hT, Option.toList_some, Option.toList_none, List.cons_append, List.nil_append, true_and, and_true, if_true, if_false, true_or, or_true, Nat.reduceAdd, Int.reduceAdd, Bool.false_eq_true, tn_0, tn_1, tn_2, tn_3, tn_4, tn_5, tn_6, tn_7]
      refine ⟨?_, rfl⟩
      congr 2
      apply b_ext
      intro i hi
      have hoo : stB s o o = false := by unfold stB stF; rw [if_pos (Nat.le_refl _)]
      rw [b_and, b_or, b_xor, bt_shl1 (by omega) hi, b_m1 i hi, bt_bsF _ n (by omega) i hi]
      by_cases e : i = o
      · subst e; simp [hoo]
      · simp [e]
    · intro k hk ih hok
      obtain ⟨p, hp, ep⟩ := (hw.2.2 k hk).2.1
      have hst := stB_eq hw hk hok hp ep
      have y3 := (hx.2.2.2.2.2.2 k hk).2.1
      have tk : (nI k).toNatClampNeg = k := nI_clamp (by omega)
      rw [ep] at y3
      have ih' := ih (by omega)
      rw [bsF] at ih'
      refine J_blk a_X4_stemOf_8 ?_
      simp only [b_X4_stemOf_8, w_iload_n3, w_aload_n0, w_getf4, w_icmp_ge, w_nil, kb0 hT, kb1 hT, kb2 hT, kb3 hT, kb4 hT, kb5 hT, kb6 hT, kb7 hT, kb8 hT, lb1 hT, lb2 hT, lb3 hT, lb4 hT, lb5 hT, lb6 hT, lb7 hT, lb8 hT, Option.toList_some, Option.toList_none, List.cons_append, List.nil_append, true_and, and_true, if_true, if_false, true_or, or_true, Nat.reduceAdd, Int.reduceAdd, Bool.false_eq_true, tn_0, tn_1, tn_2, tn_3, tn_4, tn_5, tn_6, tn_7, x7]
      refine ⟨fun h => absurd h (nI_ge hk (by omega)), fun _ => ?_⟩
      refine J_blk a_X4_stemOf_16 ?_
      simp only [b_X4_stemOf_16, w_aload_n0, w_getf4, ne0_3, w_iload_n3, w_iald, w_if_le, w_nil, kb0 hT, kb1 hT, kb2 hT, kb3 hT, kb4 hT, kb5 hT, kb6 hT, kb7 hT, kb8 hT, lb1 hT, lb2 hT, lb3 hT, lb4 hT, lb5 hT, lb6 hT, lb7 hT, lb8 hT, Option.toList_some, Option.toList_none, List.cons_append, List.nil_append, true_and, and_true, if_true, if_false, true_or, or_true, Nat.reduceAdd, Int.reduceAdd, Bool.false_eq_true, tn_0, tn_1, tn_2, tn_3, tn_4, tn_5, tn_6, tn_7, tk, y3]
      refine ⟨vinN (by omega) (by decide), fun c => ?_, fun c => ?_⟩
      · have hp0 : p = 0 := by
          rcases Nat.eq_zero_or_pos p with q | q
          · exact q
          · exact absurd c (nI_nle q (by omega))
        rw [hst, if_pos hp0] at ih'
        refine J_blk a_X4_stemOf_47 ?_
        simp only [b_X4_stemOf_47, w_iinc3, nl_3n, nl_3i, nl_3a, ci_1, w_goto, kb0 hT, kb1 hT, kb2 hT, kb3 hT, kb4 hT, kb5 hT, kb6 hT, kb7 hT, kb8 hT, lb1 hT, lb2 hT, lb3 hT, lb4 hT, lb5 hT, lb6 hT, lb7 hT, lb8 hT, Option.toList_some, Option.toList_none, List.cons_append, List.nil_append, true_and, and_true, if_true, if_false, true_or, or_true, Nat.reduceAdd, Int.reduceAdd, Bool.false_eq_true, tn_0, tn_1, tn_2, tn_3, tn_4, tn_5, tn_6, tn_7, nI_1]
        exact J_cast ih' (by simp) rfl rfl
      · have hp0 : p ≠ 0 := by intro z; subst z; exact c (by decide)
        rw [if_neg hp0] at hst
        refine J_blk a_X4_stemOf_25 ?_
        simp only [b_X4_stemOf_25, w_iload_n2, w_aload_n0, w_getf4, ne0_3, w_iload_n3, w_iald, w_iconst_1, w_isub, w_nil, kb0 hT, kb1 hT, kb2 hT, kb3 hT, kb4 hT, kb5 hT, kb6 hT, kb7 hT, kb8 hT, lb1 hT, lb2 hT, lb3 hT, lb4 hT, lb5 hT, lb6 hT, lb7 hT, lb8 hT, Option.toList_some, Option.toList_none, List.cons_append, List.nil_append, true_and, and_true, if_true, if_false, true_or, or_true, Nat.reduceAdd, Int.reduceAdd, Bool.false_eq_true, tn_0, tn_1, tn_2, tn_3, tn_4, tn_5, tn_6, tn_7, tk, y3, nI_sub1 hp0]
        refine ⟨vinN (by omega) (by decide), ?_⟩
        refine J_callSr (bit_c _ (show p - 1 < 32 by omega) _) k_X4_stemOf_34 o_X5_bit rfl (by decide) rfl (Nat.le_of_ble_eq_true rfl) ?_
        have hb : bt (bsF (stB s o) k ||| (1 : Int32) <<< (nI o &&& 31)) (p - 1) = stB s o k := by
          rw [b_or, bt_bsF _ k (by omega) (p - 1) (by omega), bt_shl1 (by omega) (by omega), hst]
          by_cases e : p - 1 = o
          · simp [e]
          · simp [e, show p - 1 < k by omega]
        rw [hb]
        cases hs : stB s o k
        · rw [hs] at ih'
          refine J_blk a_X4_stemOf_37 ?_
          simp only [b_X4_stemOf_37, w_iconst_1, w_icmp_ne, w_nil, kb0 hT, kb1 hT, kb2 hT, kb3 hT, kb4 hT, kb5 hT, kb6 hT, kb7 hT, kb8 hT, lb1 hT, lb2 hT, lb3 hT, lb4 hT, lb5 hT, lb6 hT, lb7 hT, lb8 hT, Option.toList_some, Option.toList_none, List.cons_append, List.nil_append, true_and, and_true, if_true, if_false, true_or, or_true, Nat.reduceAdd, Int.reduceAdd, Bool.false_eq_true, tn_0, tn_1, tn_2, tn_3, tn_4, tn_5, tn_6, tn_7]
          refine ⟨fun _ => ?_, fun h => absurd h (by decide)⟩
          refine J_blk a_X4_stemOf_47 ?_
          simp only [b_X4_stemOf_47, w_iinc3, nl_3n, nl_3i, nl_3a, ci_1, w_goto, kb0 hT, kb1 hT, kb2 hT, kb3 hT, kb4 hT, kb5 hT, kb6 hT, kb7 hT, kb8 hT, lb1 hT, lb2 hT, lb3 hT, lb4 hT, lb5 hT, lb6 hT, lb7 hT, lb8 hT, Option.toList_some, Option.toList_none, List.cons_append, List.nil_append, true_and, and_true, if_true, if_false, true_or, or_true, Nat.reduceAdd, Int.reduceAdd, Bool.false_eq_true, tn_0, tn_1, tn_2, tn_3, tn_4, tn_5, tn_6, tn_7, nI_1]
          exact J_cast ih' (by simp) rfl rfl
        · rw [hs] at ih'
          refine J_blk a_X4_stemOf_37 ?_
          simp only [b_X4_stemOf_37, w_iconst_1, w_icmp_ne, w_nil, kb0 hT, kb1 hT, kb2 hT, kb3 hT, kb4 hT, kb5 hT, kb6 hT, kb7 hT, kb8 hT, lb1 hT, lb2 hT, lb3 hT, lb4 hT, lb5 hT, lb6 hT, lb7 hT, lb8 hT, Option.toList_some, Option.toList_none, List.cons_append, List.nil_append, true_and, and_true, if_true, if_false, true_or, or_true, Nat.reduceAdd, Int.reduceAdd, Bool.false_eq_true, tn_0, tn_1, tn_2, tn_3, tn_4, tn_5, tn_6, tn_7]
          refine ⟨fun h => absurd rfl h, fun _ => ?_⟩
          refine J_blk a_X4_stemOf_41 ?_
          simp only [b_X4_stemOf_41, w_iload_n2, w_iconst_1, w_iload_n3, w_ishl, w_ior, w_istore2, nl_2n, nl_2i, nl_2a, w_nil, kb0 hT, kb1 hT, kb2 hT, kb3 hT, kb4 hT, kb5 hT, kb6 hT, kb7 hT, kb8 hT, lb1 hT, lb2 hT, lb3 hT, lb4 hT, lb5 hT, lb6 hT, lb7 hT, lb8 hT, Option.toList_some, Option.toList_none, List.cons_append, List.nil_append, true_and, and_true, if_true, if_false, true_or, or_true, Nat.reduceAdd, Int.reduceAdd, Bool.false_eq_true, tn_0, tn_1, tn_2, tn_3, tn_4, tn_5, tn_6, tn_7, nI_1]
          refine J_blk a_X4_stemOf_47 ?_
          simp only [b_X4_stemOf_47, w_iinc3, nl_3n, nl_3i, nl_3a, ci_1, w_goto, kb0 hT, kb1 hT, kb2 hT, kb3 hT, kb4 hT, kb5 hT, kb6 hT, kb7 hT, kb8 hT, lb1 hT, lb2 hT, lb3 hT, lb4 hT, lb5 hT, lb6 hT, lb7 hT, lb8 hT, Option.toList_some, Option.toList_none, List.cons_append, List.nil_append, true_and, and_true, if_true, if_false, true_or, or_true, Nat.reduceAdd, Int.reduceAdd, Bool.false_eq_true, tn_0, tn_1, tn_2, tn_3, tn_4, tn_5, tn_6, tn_7, nI_1]
          exact J_cast ih' (by simp only [if_true]; rw [Int32.or_assoc, Int32.or_comm (1 <<< (nI k &&& 31)), ← Int32.or_assoc]) rfl rfl
  have l0 := loop (o + 1) (by omega) (by omega)
  rw [bsF_none (o + 1) (fun q hq => by unfold stB stF; rw [if_pos (by omega)])] at l0
  refine K_go 1 o_X4_stemOf [none, none] rfl (Nat.le_of_ble_eq_true rfl) ?_
  simp only [lvA_i, lvA_a, lvA_l, lvA_nil, List.cons_append, List.nil_append]
  refine J_blk a_X4_stemOf_0 ?_
  simp only [b_X4_stemOf_0, w_iconst_1, w_iload_n1, w_ishl, w_istore2, nl_2n, nl_2i, nl_2a, w_iadd, w_istore3, nl_3n, nl_3i, nl_3a, w_nil, kb0 hT, kb1 hT, kb2 hT, kb3 hT, kb4 hT, kb5 hT, kb6 hT, kb7 hT, kb8 hT, lb1 hT, lb2 hT, lb3 hT, lb4 hT, lb5 hT, lb6 hT, lb7 hT, lb8 hT, Option.toList_some, Option.toList_none, List.cons_append, List.nil_append, true_and, and_true, if_true, if_false, true_or, or_true, Nat.reduceAdd, Int.reduceAdd, Bool.false_eq_true, tn_0, tn_1, tn_2, tn_3, tn_4, tn_5, tn_6, tn_7, nI_1]
  exact J_cast l0 (by simp) rfl rfl
end RD

