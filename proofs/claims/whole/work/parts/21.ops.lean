/-! the model: what is tried -/
/-- the scratch row, the tree's row -/
def Mg (M : Mm) (g r : Nat → Int32) : Mm := su (su M 49 g) 47 r
theorem Mg47 (M : Mm) (g r : Nat → Int32) : (Mg M g r).1 47 = r := su_at _ _ _
theorem Mg49 (M : Mm) (g r : Nat → Int32) : (Mg M g r).1 49 = g := by unfold Mg; rw [su_ne _ _ _ _ (by decide), su_at]
theorem Mg_ne (M : Mm) (g r : Nat → Int32) {c : Nat} (h : c ≠ 47) (h2 : c ≠ 49) : (Mg M g r).1 c = M.1 c := by unfold Mg; rw [su_ne _ _ _ _ h, su_ne _ _ _ _ h2]
theorem Mg_su (M : Mm) (g r r' : Nat → Int32) : su (Mg M g r) 47 r' = Mg M g r' := by unfold Mg; rw [su_su]
theorem Mg_u1 (M : Mm) (g r : Nat → Int32) (j : Nat) (v : Int32) : u1 (Mg M g r) 47 j v = Mg M g (upd r j v) := by unfold Mg; rw [u1_su]
theorem Mg_asd (M : Mm) (g r : Nat → Int32) : asd (Mg M g r) = Mg M (cpN r g 56) r := by
  unfold asd
  rw [Mg47, Mg49]
  unfold Mg
  rw [su_comm _ _ _ (show (47 : Nat) ≠ 49 by decide), su_su]
theorem Mg_ini (M : Mm) : M = Mg M (M.1 49) (M.1 47) := by
  unfold Mg
  rw [su_self M 49, su_self]
theorem Mg_self (M : Mm) (g : Nat → Int32) : Mg M g (M.1 47) = su M 49 g := by
  unfold Mg
  rw [su_comm _ _ _ (show (49 : Nat) ≠ 47 by decide), su_self]
/-- this answer, and the scratch row may be anything -/
def Rs (r0 : Option Value) (M0 : Mm) : Option Value → Mm → Prop := fun r M => r = r0 ∧ ∃ g, M = su M0 49 g
def stF (s : Nat → Int32) (o : Nat) : Nat → Nat → Bool
  | 0, _ => false
  | f + 1, q => if q ≤ o then false else if s (8 + 6 * q + 1) = 0 then false else if (s (8 + 6 * q + 1)).toNatClampNeg - 1 = o then true else stF s o f ((s (8 + 6 * q + 1)).toNatClampNeg - 1)
def stB (s : Nat → Int32) (o q : Nat) : Bool := stF s o 8 q
theorem stF_fuel {s : Nat → Int32} {n : Nat} (h : WF s n) (o : Nat) : ∀ (f g q : Nat), q < n → q < f → q < g → stF s o f q = stF s o g q := by
  intro f
  induction f with
  | zero => intro g q _ h1; omega
  | succ f ih =>
    intro g q hq h1 h2
    match g, h2 with
    | g + 1, h2 =>
      unfold stF
      obtain ⟨p, hp, ep⟩ := (h.2.2 q hq).2.1
      have e : (s (8 + 6 * q + 1)).toNatClampNeg = p := by rw [ep]; exact nI_clamp (by have := h.2.1; omega)
      rw [e]
      by_cases c1 : q ≤ o
      · rw [if_pos c1, if_pos c1]
      · rw [if_neg c1, if_neg c1]
        by_cases c2 : s (8 + 6 * q + 1) = 0
        · rw [if_pos c2, if_pos c2]
        · rw [if_neg c2, if_neg c2]
          have hp0 : p ≠ 0 := by intro z; subst z; exact c2 ep
          by_cases c3 : p - 1 = o
          · rw [if_pos c3, if_pos c3]
          · rw [if_neg c3, if_neg c3]; exact ih g (p - 1) (by omega) (by omega) (by omega)
theorem stB_eq {s : Nat → Int32} {n : Nat} (h : WF s n) {o q p : Nat} (hq : q < n) (ho : o < q) (hp : p ≤ q) (ep : s (8 + 6 * q + 1) = nI p) : stB s o q = if p = 0 then false else if p - 1 = o then true else stB s o (p - 1) := by
  have h8 := h.2.1
  unfold stB
  rw [stF, if_neg (by omega), ep, nI_clamp (by omega)]
  by_cases c2 : p = 0
  · subst c2; rfl
  · rw [if_neg (nI_ne0 (by omega) (by omega)), if_neg c2]
    by_cases c3 : p - 1 = o
    · rw [if_pos c3, if_pos c3]
    · rw [if_neg c3, if_neg c3]; exact stF_fuel h o 7 8 (p - 1) (by omega) (by omega) (by omega)
theorem bsF_none {st : Nat → Bool} : ∀ k, (∀ q, q < k → st q = false) → bsF st k = 0 := by
  intro k
  induction k with
  | zero => intro _; rfl
  | succ k ih => intro h; rw [bsF, ih (fun q hq => h q (by omega)), h k (by omega)]; simp
theorem mstem_t (n o : Nat) (M : Mm) (hw : WF (M.1 47) n) (hj : o < n) : K 1 mX6_stem [.ref 46, .int (nI o)] M (Rt (some (.int (bsF (stB (M.1 47) o) n))) M) := by
  have h0 := hw.1
  have h8 := hw.2.1
  have ho := ok1 hj (by omega)
  have loop : ∀ k, k ≤ n → o < k → ∀ z : Option Value, J 1 mX6_stem 16 [some (.ref 46), some (.int (nI o)), some (.int (bsF (stB (M.1 47) o) k)), some (.int (nI k)), z] [] M (Rt (some (.int (bsF (stB (M.1 47) o) n))) M) := by
    refine down n ?_ ?_
    · intro _ z
      refine J_blk a_X6_stem_16 ?_
      simp only [b_X6_stem_16, w_iload_n3, w_aload_n0, w_getf6, ne0_1, w_iconst_0, w_iald, w_icmp_ge, w_nil, kd_46, kd_47, kd_48, kd_49, kd_50, kd_51, kd_52, kd_53, kd_54, kd_55, kd_56, kd_57, kd_58, kd_59, ln_47, ln_48, ln_49, ln_50, ln_51, ln_52, ln_53, ln_54, ln_55, ln_56, ln_57, ln_58, ln_59, Option.toList_some, Option.toList_none, List.cons_append, List.nil_append, true_and, and_true, if_true, if_false, true_or, or_true, Nat.reduceAdd, Int.reduceAdd, Bool.false_eq_true, tn_0, tn_1, tn_2, tn_3, tn_4, tn_5, tn_6, tn_7, h0]
      refine ⟨vlit (by decide), fun _ => ?_, fun h => absurd (Int32.le_refl _) h⟩
      refine J_blk a_X6_stem_73 ?_
      simp only [b_X6_stem_73, w_iload_n2, w_ireti, kd_46, kd_47, kd_48, kd_49, kd_50, kd_51, kd_52, kd_53, kd_54, kd_55, kd_56, kd_57, kd_58, kd_59, ln_47, ln_48, ln_49, ln_50, ln_51, ln_52, ln_53, ln_54, ln_55, ln_56, ln_57, ln_58, ln_59, Option.toList_some, Option.toList_none, List.cons_append, List.nil_append, true_and, and_true, if_true, if_false, true_or, or_true, Nat.reduceAdd, Int.reduceAdd, Bool.false_eq_true, tn_0, tn_1, tn_2, tn_3, tn_4, tn_5, tn_6, tn_7]
      first | exact ⟨rfl, rfl⟩ | (simp_all [Rt])
    · intro k hk ih hok z
      obtain ⟨p, hp, ep⟩ := (hw.2.2 k hk).2.1
      have hst := stB_eq hw hk hok hp ep
      refine J_blk a_X6_stem_16 ?_
      simp only [b_X6_stem_16, w_iload_n3, w_aload_n0, w_getf6, ne0_1, w_iconst_0, w_iald, w_icmp_ge, w_nil, kd_46, kd_47, kd_48, kd_49, kd_50, kd_51, kd_52, kd_53, kd_54, kd_55, kd_56, kd_57, kd_58, kd_59, ln_47, ln_48, ln_49, ln_50, ln_51, ln_52, ln_53, ln_54, ln_55, ln_56, ln_57, ln_58, ln_59, Option.toList_some, Option.toList_none, List.cons_append, List.nil_append, true_and, and_true, if_true, if_false, true_or, or_true, Nat.reduceAdd, Int.reduceAdd, Bool.false_eq_true, tn_0, tn_1, tn_2, tn_3, tn_4, tn_5, tn_6, tn_7, h0]
      refine ⟨vlit (by decide), fun h => absurd h (nI_ge hk (by omega)), fun _ => ?_⟩
      refine J_blk a_X6_stem_26 ?_
      simp only [b_X6_stem_26, w_aload_n0, w_iload_n3, w_iconst_1, w_nil, kd_46, kd_47, kd_48, kd_49, kd_50, kd_51, kd_52, kd_53, kd_54, kd_55, kd_56, kd_57, kd_58, kd_59, ln_47, ln_48, ln_49, ln_50, ln_51, ln_52, ln_53, ln_54, ln_55, ln_56, ln_57, ln_58, ln_59, Option.toList_some, Option.toList_none, List.cons_append, List.nil_append, true_and, and_true, if_true, if_false, true_or, or_true, Nat.reduceAdd, Int.reduceAdd, Bool.false_eq_true, tn_0, tn_1, tn_2, tn_3, tn_4, tn_5, tn_6, tn_7]
      refine J_callVr (ci := 6) (its_ok k 1 M (by omega)) k_X6_stem_29 o_X6_its rfl rfl rfl rfl (by decide) rfl (Nat.le_of_ble_eq_true rfl) ?_
      rw [ep]
      by_cases hp0 : p = 0
      · subst hp0
        rw [if_pos rfl] at hst
        have c1 : ¬ nI 0 - 1 = nI o := fun e => absurd (show (0 : Int32) ≤ nI 0 - 1 by rw [e]; exact nI_pos' (by omega)) (by decide)
        refine J_blk a_X6_stem_32 ?_
        simp only [b_X6_stem_32, w_iconst_1, w_isub, w_istore4, nl_4n, nl_4i, nl_4a, w_iload_n2, w_iload4, w_iload_n1, w_icmp_eq, w_nil, kd_46, kd_47, kd_48, kd_49, kd_50, kd_51, kd_52, kd_53, kd_54, kd_55, kd_56, kd_57, kd_58, kd_59, ln_47, ln_48, ln_49, ln_50, ln_51, ln_52, ln_53, ln_54, ln_55, ln_56, ln_57, ln_58, ln_59, Option.toList_some, Option.toList_none, List.cons_append, List.nil_append, true_and, and_true, if_true, if_false, true_or, or_true, Nat.reduceAdd, Int.reduceAdd, Bool.false_eq_true, tn_0, tn_1, tn_2, tn_3, tn_4, tn_5, tn_6, tn_7]
        refine ⟨fun h => absurd h c1, fun _ => ?_⟩
        refine J_blk a_X6_stem_43 ?_
        simp only [b_X6_stem_43, w_iload4, w_if_lt, w_nil, kd_46, kd_47, kd_48, kd_49, kd_50, kd_51, kd_52, kd_53, kd_54, kd_55, kd_56, kd_57, kd_58, kd_59, ln_47, ln_48, ln_49, ln_50, ln_51, ln_52, ln_53, ln_54, ln_55, ln_56, ln_57, ln_58, ln_59, Option.toList_some, Option.toList_none, List.cons_append, List.nil_append, true_and, and_true, if_true, if_false, true_or, or_true, Nat.reduceAdd, Int.reduceAdd, Bool.false_eq_true, tn_0, tn_1, tn_2, tn_3, tn_4, tn_5, tn_6, tn_7]
        refine ⟨fun _ => ?_, fun h => absurd (show nI 0 - 1 < 0 by decide) h⟩
        refine J_blk a_X6_stem_64 ?_
        simp only [b_X6_stem_64, w_iconst_0, w_nil, kd_46, kd_47, kd_48, kd_49, kd_50, kd_51, kd_52, kd_53, kd_54, kd_55, kd_56, kd_57, kd_58, kd_59, ln_47, ln_48, ln_49, ln_50, ln_51, ln_52, ln_53, ln_54, ln_55, ln_56, ln_57, ln_58, ln_59, Option.toList_some, Option.toList_none, List.cons_append, List.nil_append, true_and, and_true, if_true, if_false, true_or, or_true, Nat.reduceAdd, Int.reduceAdd, Bool.false_eq_true, tn_0, tn_1, tn_2, tn_3, tn_4, tn_5, tn_6, tn_7]
        refine J_blk a_X6_stem_65 ?_
        simp only [b_X6_stem_65, w_ior, w_istore2, nl_2n, nl_2i, nl_2a, w_iinc3, nl_3n, nl_3i, nl_3a, ci_1, w_goto, kd_46, kd_47, kd_48, kd_49, kd_50, kd_51, kd_52, kd_53, kd_54, kd_55, kd_56, kd_57, kd_58, kd_59, ln_47, ln_48, ln_49, ln_50, ln_51, ln_52, ln_53, ln_54, ln_55, ln_56, ln_57, ln_58, ln_59, Option.toList_some, Option.toList_none, List.cons_append, List.nil_append, true_and, and_true, if_true, if_false, true_or, or_true, Nat.reduceAdd, Int.reduceAdd, Bool.false_eq_true, tn_0, tn_1, tn_2, tn_3, tn_4, tn_5, tn_6, tn_7]
        exact J_cast (ih (by omega) _) (by simp only [bsF, hst, nI_1, if_false, Bool.false_eq_true]; rfl) rfl rfl
      · rw [if_neg hp0] at hst
        have e1 : (nI (p - 1) = nI o) = (p - 1 = o) := propext (nI_eq (by omega) (by omega))
        refine J_blk a_X6_stem_32 ?_
        simp only [b_X6_stem_32, w_iconst_1, w_isub, w_istore4, nl_4n, nl_4i, nl_4a, w_iload_n2, w_iload4, w_iload_n1, w_icmp_eq, w_nil, kd_46, kd_47, kd_48, kd_49, kd_50, kd_51, kd_52, kd_53, kd_54, kd_55, kd_56, kd_57, kd_58, kd_59, ln_47, ln_48, ln_49, ln_50, ln_51, ln_52, ln_53, ln_54, ln_55, ln_56, ln_57, ln_58, ln_59, Option.toList_some, Option.toList_none, List.cons_append, List.nil_append, true_and, and_true, if_true, if_false, true_or, or_true, Nat.reduceAdd, Int.reduceAdd, Bool.false_eq_true, tn_0, tn_1, tn_2, tn_3, tn_4, tn_5, tn_6, tn_7, nI_sub1 hp0, e1]
        refine ⟨fun h => ?_, fun h => ?_⟩
        · rw [if_pos h] at hst
          refine J_blk a_X6_stem_58 ?_
          simp only [b_X6_stem_58, w_iconst_1, w_iload_n3, w_ishl, w_goto, kd_46, kd_47, kd_48, kd_49, kd_50, kd_51, kd_52, kd_53, kd_54, kd_55, kd_56, kd_57, kd_58, kd_59, ln_47, ln_48, ln_49, ln_50, ln_51, ln_52, ln_53, ln_54, ln_55, ln_56, ln_57, ln_58, ln_59, Option.toList_some, Option.toList_none, List.cons_append, List.nil_append, true_and, and_true, if_true, if_false, true_or, or_true, Nat.reduceAdd, Int.reduceAdd, Bool.false_eq_true, tn_0, tn_1, tn_2, tn_3, tn_4, tn_5, tn_6, tn_7]
          refine J_blk a_X6_stem_65 ?_
          simp only [b_X6_stem_65, w_ior, w_istore2, nl_2n, nl_2i, nl_2a, w_iinc3, nl_3n, nl_3i, nl_3a, ci_1, w_goto, kd_46, kd_47, kd_48, kd_49, kd_50, kd_51, kd_52, kd_53, kd_54, kd_55, kd_56, kd_57, kd_58, kd_59, ln_47, ln_48, ln_49, ln_50, ln_51, ln_52, ln_53, ln_54, ln_55, ln_56, ln_57, ln_58, ln_59, Option.toList_some, Option.toList_none, List.cons_append, List.nil_append, true_and, and_true, if_true, if_false, true_or, or_true, Nat.reduceAdd, Int.reduceAdd, Bool.false_eq_true, tn_0, tn_1, tn_2, tn_3, tn_4, tn_5, tn_6, tn_7]
          exact J_cast (ih (by omega) _) (by simp only [bsF, hst, nI_1, if_true]; rfl) rfl rfl
        · rw [if_neg h] at hst
          refine J_blk a_X6_stem_43 ?_
          simp only [b_X6_stem_43, w_iload4, w_if_lt, w_nil, kd_46, kd_47, kd_48, kd_49, kd_50, kd_51, kd_52, kd_53, kd_54, kd_55, kd_56, kd_57, kd_58, kd_59, ln_47, ln_48, ln_49, ln_50, ln_51, ln_52, ln_53, ln_54, ln_55, ln_56, ln_57, ln_58, ln_59, Option.toList_some, Option.toList_none, List.cons_append, List.nil_append, true_and, and_true, if_true, if_false, true_or, or_true, Nat.reduceAdd, Int.reduceAdd, Bool.false_eq_true, tn_0, tn_1, tn_2, tn_3, tn_4, tn_5, tn_6, tn_7]
          refine ⟨fun h => absurd h (nI_pos (by omega)), fun _ => ?_⟩
          have hb : bt (bsF (stB (M.1 47) o) k) (p - 1) = stB (M.1 47) o (p - 1) := by
            rw [bt_bsF _ k (by omega) (p - 1) (by omega), decide_eq_true (by omega), Bool.true_and]
          refine J_blk a_X6_stem_48 ?_
          simp only [b_X6_stem_48, w_iload_n2, w_iload4, w_ishr, w_iconst_1, w_iand, w_icmp_ne, w_nil, kd_46, kd_47, kd_48, kd_49, kd_50, kd_51, kd_52, kd_53, kd_54, kd_55, kd_56, kd_57, kd_58, kd_59, ln_47, ln_48, ln_49, ln_50, ln_51, ln_52, ln_53, ln_54, ln_55, ln_56, ln_57, ln_58, ln_59, Option.toList_some, Option.toList_none, List.cons_append, List.nil_append, true_and, and_true, if_true, if_false, true_or, or_true, Nat.reduceAdd, Int.reduceAdd, Bool.false_eq_true, tn_0, tn_1, tn_2, tn_3, tn_4, tn_5, tn_6, tn_7, bit1 _ (show p - 1 < 32 by omega), hb]
          refine ⟨fun h => ?_, fun h => ?_⟩
          · have hf : stB (M.1 47) o k = false := by
              rw [hst]
              cases hh : stB (M.1 47) o (p - 1)
              · rfl
              · rw [hh] at h; exact absurd rfl h
            refine J_blk a_X6_stem_64 ?_
            simp only [b_X6_stem_64, w_iconst_0, w_nil, kd_46, kd_47, kd_48, kd_49, kd_50, kd_51, kd_52, kd_53, kd_54, kd_55, kd_56, kd_57, kd_58, kd_59, ln_47, ln_48, ln_49, ln_50, ln_51, ln_52, ln_53, ln_54, ln_55, ln_56, ln_57, ln_58, ln_59, Option.toList_some, Option.toList_none, List.cons_append, List.nil_append, true_and, and_true, if_true, if_false, true_or, or_true, Nat.reduceAdd, Int.reduceAdd, Bool.false_eq_true, tn_0, tn_1, tn_2, tn_3, tn_4, tn_5, tn_6, tn_7]
            refine J_blk a_X6_stem_65 ?_
            simp only [b_X6_stem_65, w_ior, w_istore2, nl_2n, nl_2i, nl_2a, w_iinc3, nl_3n, nl_3i, nl_3a, ci_1, w_goto, kd_46, kd_47, kd_48, kd_49, kd_50, kd_51, kd_52, kd_53, kd_54, kd_55, kd_56, kd_57, kd_58, kd_59, ln_47, ln_48, ln_49, ln_50, ln_51, ln_52, ln_53, ln_54, ln_55, ln_56, ln_57, ln_58, ln_59, Option.toList_some, Option.toList_none, List.cons_append, List.nil_append, true_and, and_true, if_true, if_false, true_or, or_true, Nat.reduceAdd, Int.reduceAdd, Bool.false_eq_true, tn_0, tn_1, tn_2, tn_3, tn_4, tn_5, tn_6, tn_7]
            exact J_cast (ih (by omega) _) (by simp only [bsF, hf, nI_1, if_false, Bool.false_eq_true]; rfl) rfl rfl
          · have hf : stB (M.1 47) o k = true := by
              rw [hst]
              cases hh : stB (M.1 47) o (p - 1)
              · rw [hh] at h; exact absurd h (by decide)
              · rfl
            refine J_blk a_X6_stem_58 ?_
            simp only [b_X6_stem_58, w_iconst_1, w_iload_n3, w_ishl, w_goto, kd_46, kd_47, kd_48, kd_49, kd_50, kd_51, kd_52, kd_53, kd_54, kd_55, kd_56, kd_57, kd_58, kd_59, ln_47, ln_48, ln_49, ln_50, ln_51, ln_52, ln_53, ln_54, ln_55, ln_56, ln_57, ln_58, ln_59, Option.toList_some, Option.toList_none, List.cons_append, List.nil_append, true_and, and_true, if_true, if_false, true_or, or_true, Nat.reduceAdd, Int.reduceAdd, Bool.false_eq_true, tn_0, tn_1, tn_2, tn_3, tn_4, tn_5, tn_6, tn_7]
            refine J_blk a_X6_stem_65 ?_
            simp only [b_X6_stem_65, w_ior, w_istore2, nl_2n, nl_2i, nl_2a, w_iinc3, nl_3n, nl_3i, nl_3a, ci_1, w_goto, kd_46, kd_47, kd_48, kd_49, kd_50, kd_51, kd_52, kd_53, kd_54, kd_55, kd_56, kd_57, kd_58, kd_59, ln_47, ln_48, ln_49, ln_50, ln_51, ln_52, ln_53, ln_54, ln_55, ln_56, ln_57, ln_58, ln_59, Option.toList_some, Option.toList_none, List.cons_append, List.nil_append, true_and, and_true, if_true, if_false, true_or, or_true, Nat.reduceAdd, Int.reduceAdd, Bool.false_eq_true, tn_0, tn_1, tn_2, tn_3, tn_4, tn_5, tn_6, tn_7]
            exact J_cast (ih (by omega) _) (by simp only [bsF, hf, nI_1, if_true]; rfl) rfl rfl
  have l0 := loop (o + 1) (by omega) (by omega) none
  rw [bsF_none (o + 1) (fun q hq => by unfold stB stF; rw [if_pos (by omega)])] at l0
  refine K_go 1 o_X6_stem [none, none, none] rfl (Nat.le_of_ble_eq_true rfl) ?_
  simp only [lvA_i, lvA_a, lvA_l, lvA_nil, List.cons_append, List.nil_append]
  refine J_blk a_X6_stem_0 ?_
  simp only [b_X6_stem_0, w_aload_n0, w_iload_n1, w_nil, kd_46, kd_47, kd_48, kd_49, kd_50, kd_51, kd_52, kd_53, kd_54, kd_55, kd_56, kd_57, kd_58, kd_59, ln_47, ln_48, ln_49, ln_50, ln_51, ln_52, ln_53, ln_54, ln_55, ln_56, ln_57, ln_58, ln_59, Option.toList_some, Option.toList_none, List.cons_append, List.nil_append, true_and, and_true, if_true, if_false, true_or, or_true, Nat.reduceAdd, Int.reduceAdd, Bool.false_eq_true, tn_0, tn_1, tn_2, tn_3, tn_4, tn_5, tn_6, tn_7, nI_1]
  refine J_callVr (ci := 6) (isOne_ok _ _) k_X6_stem_2 o_X6_isOne rfl rfl rfl rfl (by decide) rfl (Nat.le_of_ble_eq_true rfl) ?_
  rw [h0, if_pos ho]
  refine J_blk a_X6_stem_5 ?_
  simp only [b_X6_stem_5, w_if_ne, w_nil, kd_46, kd_47, kd_48, kd_49, kd_50, kd_51, kd_52, kd_53, kd_54, kd_55, kd_56, kd_57, kd_58, kd_59, ln_47, ln_48, ln_49, ln_50, ln_51, ln_52, ln_53, ln_54, ln_55, ln_56, ln_57, ln_58, ln_59, Option.toList_some, Option.toList_none, List.cons_append, List.nil_append, true_and, and_true, if_true, if_false, true_or, or_true, Nat.reduceAdd, Int.reduceAdd, Bool.false_eq_true, tn_0, tn_1, tn_2, tn_3, tn_4, tn_5, tn_6, tn_7, nI_1]
  refine ⟨fun c1 => ?_, fun c1 => ?_⟩
  · first
      | exact absurd c1 (by decide)
      | (refine J_blk a_X6_stem_10 ?_
         simp only [b_X6_stem_10, w_iconst_0, w_istore2, nl_2n, nl_2i, nl_2a, w_iload_n1, w_iconst_1, w_iadd, w_istore3, nl_3n, nl_3i, nl_3a, w_nil, kd_46, kd_47, kd_48, kd_49, kd_50, kd_51, kd_52, kd_53, kd_54, kd_55, kd_56, kd_57, kd_58, kd_59, ln_47, ln_48, ln_49, ln_50, ln_51, ln_52, ln_53, ln_54, ln_55, ln_56, ln_57, ln_58, ln_59, Option.toList_some, Option.toList_none, List.cons_append, List.nil_append, true_and, and_true, if_true, if_false, true_or, or_true, Nat.reduceAdd, Int.reduceAdd, Bool.false_eq_true, tn_0, tn_1, tn_2, tn_3, tn_4, tn_5, tn_6, tn_7, nI_1]
         exact l0)
  · first
      | exact absurd c1 (by decide)
      | (refine J_blk a_X6_stem_8 ?_
         simp only [b_X6_stem_8, w_iconst_m1, w_ireti, kd_46, kd_47, kd_48, kd_49, kd_50, kd_51, kd_52, kd_53, kd_54, kd_55, kd_56, kd_57, kd_58, kd_59, ln_47, ln_48, ln_49, ln_50, ln_51, ln_52, ln_53, ln_54, ln_55, ln_56, ln_57, ln_58, ln_59, Option.toList_some, Option.toList_none, List.cons_append, List.nil_append, true_and, and_true, if_true, if_false, true_or, or_true, Nat.reduceAdd, Int.reduceAdd, Bool.false_eq_true, tn_0, tn_1, tn_2, tn_3, tn_4, tn_5, tn_6, tn_7, nI_1]
         first | exact ⟨rfl, rfl⟩ | (simp_all [Rt]))
def baF (s : Nat → Int32) (st : Nat → Bool) (n : Nat) : Nat → Bool
  | 0 => true
  | k + 1 => baF s st n k && !(st k && decide (0 < bearS s st n k))
def baB (s : Nat → Int32) (n : Nat) : Bool := baF s (sd s) n n
theorem baF_congr {s : Nat → Int32} {st st' : Nat → Bool} {n : Nat} (h : ∀ q, q < n → st q = st' q) : ∀ k, k ≤ n → baF s st n k = baF s st' n k := by
  intro k
  induction k with
  | zero => intro _; rfl
  | succ k ih => intro hk; rw [baF, baF, ih (by omega), h k (by omega), bearS_congr h]
def bI (b : Bool) : Int32 := if b = true then 1 else 0
theorem bI_a1 (b : Bool) : bI b &&& 1 = bI b := by cases b <;> decide
theorem bI_a0 (b : Bool) : bI b &&& 0 = bI false := by cases b <;> decide
theorem isBare_ok (n : Nat) (M : Mm) (hw : WF (M.1 47) n) : K 3 mX6_isBare [.ref 46] M (Rt (some (.int (bI (baB (M.1 47) n)))) M) := by
  have h0 := hw.1
  have h8 := hw.2.1
  generalize hs : M.1 47 = s at *
  have hbt : ∀ q, q < n → bt (bsF (sd s) n) q = sd s q := fun q hq => bt_sd h8 hq
  refine K_go 0 o_X6_isBare [none, none, none] rfl (Nat.le_of_ble_eq_true rfl) ?_
  simp only [lvA_i, lvA_a, lvA_l, lvA_nil, List.cons_append, List.nil_append]
  refine J_blk a_X6_isBare_0 ?_
  simp only [b_X6_isBare_0, w_aload_n0, w_nil, kd_46, kd_47, kd_48, kd_49, kd_50, kd_51, kd_52, kd_53, kd_54, kd_55, kd_56, kd_57, kd_58, kd_59, ln_47, ln_48, ln_49, ln_50, ln_51, ln_52, ln_53, ln_54, ln_55, ln_56, ln_57, ln_58, ln_59, Option.toList_some, Option.toList_none, List.cons_append, List.nil_append, true_and, and_true, if_true, if_false, true_or, or_true, Nat.reduceAdd, Int.reduceAdd, Bool.false_eq_true, tn_0, tn_1, tn_2, tn_3, tn_4, tn_5, tn_6, tn_7]
  refine J_callVr (ci := 6) (standing_ok n M (by rw [hs]; exact hw)) k_X6_isBare_1 o_X6_standing rfl rfl rfl rfl (by decide) rfl (Nat.le_of_ble_eq_true rfl) ?_
  rw [hs]
  have e1 : baB s n = baF s (bt (bsF (sd s) n)) n n := baF_congr (fun q hq => (hbt q hq).symm) n (Nat.le_refl n)
  rw [e1]
  generalize hset : bsF (sd s) n = set at *
  refine J_blk a_X6_isBare_4 ?_
  simp only [b_X6_isBare_4, w_istore1, nl_1n, nl_1i, nl_1a, w_iconst_1, w_istore2, nl_2n, nl_2i, nl_2a, w_iconst_0, w_istore3, nl_3n, nl_3i, nl_3a, w_nil, kd_46, kd_47, kd_48, kd_49, kd_50, kd_51, kd_52, kd_53, kd_54, kd_55, kd_56, kd_57, kd_58, kd_59, ln_47, ln_48, ln_49, ln_50, ln_51, ln_52, ln_53, ln_54, ln_55, ln_56, ln_57, ln_58, ln_59, Option.toList_some, Option.toList_none, List.cons_append, List.nil_append, true_and, and_true, if_true, if_false, true_or, or_true, Nat.reduceAdd, Int.reduceAdd, Bool.false_eq_true, tn_0, tn_1, tn_2, tn_3, tn_4, tn_5, tn_6, tn_7]
  have loop : ∀ k, k ≤ n → J 3 mX6_isBare 9 [some (.ref 46), some (.int set), some (.int (bI (baF s (bt set) n k))), some (.int (nI k))] [] M (Rt (some (.int (bI (baF s (bt set) n n)))) M) := by
    refine down n ?_ ?_
    · refine J_blk a_X6_isBare_9 ?_
      simp only [b_X6_isBare_9, w_iload_n3, w_aload_n0, w_getf6, ne0_1, w_iconst_0, w_iald, w_icmp_ge, w_nil, kd_46, kd_47, kd_48, kd_49, kd_50, kd_51, kd_52, kd_53, kd_54, kd_55, kd_56, kd_57, kd_58, kd_59, ln_47, ln_48, ln_49, ln_50, ln_51, ln_52, ln_53, ln_54, ln_55, ln_56, ln_57, ln_58, ln_59, Option.toList_some, Option.toList_none, List.cons_append, List.nil_append, true_and, and_true, if_true, if_false, true_or, or_true, Nat.reduceAdd, Int.reduceAdd, Bool.false_eq_true, tn_0, tn_1, tn_2, tn_3, tn_4, tn_5, tn_6, tn_7, hs, h0]
      refine ⟨vlit (by decide), fun _ => ?_, fun h => absurd (Int32.le_refl _) h⟩
      refine J_blk a_X6_isBare_50 ?_
      simp only [b_X6_isBare_50, w_iload_n2, w_iretz, kd_46, kd_47, kd_48, kd_49, kd_50, kd_51, kd_52, kd_53, kd_54, kd_55, kd_56, kd_57, kd_58, kd_59, ln_47, ln_48, ln_49, ln_50, ln_51, ln_52, ln_53, ln_54, ln_55, ln_56, ln_57, ln_58, ln_59, Option.toList_some, Option.toList_none, List.cons_append, List.nil_append, true_and, and_true, if_true, if_false, true_or, or_true, Nat.reduceAdd, Int.reduceAdd, Bool.false_eq_true, tn_0, tn_1, tn_2, tn_3, tn_4, tn_5, tn_6, tn_7]
      exact ⟨by unfold bI; split <;> simp, rfl, rfl⟩
    · intro k hk ih
      have h32 : k < 32 := by omega
      refine J_blk a_X6_isBare_9 ?_
      simp only [b_X6_isBare_9, w_iload_n3, w_aload_n0, w_getf6, ne0_1, w_iconst_0, w_iald, w_icmp_ge, w_nil, kd_46, kd_47, kd_48, kd_49, kd_50, kd_51, kd_52, kd_53, kd_54, kd_55, kd_56, kd_57, kd_58, kd_59, ln_47, ln_48, ln_49, ln_50, ln_51, ln_52, ln_53, ln_54, ln_55, ln_56, ln_57, ln_58, ln_59, Option.toList_some, Option.toList_none, List.cons_append, List.nil_append, true_and, and_true, if_true, if_false, true_or, or_true, Nat.reduceAdd, Int.reduceAdd, Bool.false_eq_true, tn_0, tn_1, tn_2, tn_3, tn_4, tn_5, tn_6, tn_7, hs, h0]
      refine ⟨vlit (by decide), fun h => absurd h (nI_ge hk (by omega)), fun _ => ?_⟩
      refine J_blk a_X6_isBare_19 ?_
      simp only [b_X6_isBare_19, w_iload_n2, w_iload_n1, w_iload_n3, w_ishr, w_iconst_1, w_iand, w_if_eq, w_nil, kd_46, kd_47, kd_48, kd_49, kd_50, kd_51, kd_52, kd_53, kd_54, kd_55, kd_56, kd_57, kd_58, kd_59, ln_47, ln_48, ln_49, ln_50, ln_51, ln_52, ln_53, ln_54, ln_55, ln_56, ln_57, ln_58, ln_59, Option.toList_some, Option.toList_none, List.cons_append, List.nil_append, true_and, and_true, if_true, if_false, true_or, or_true, Nat.reduceAdd, Int.reduceAdd, Bool.false_eq_true, tn_0, tn_1, tn_2, tn_3, tn_4, tn_5, tn_6, tn_7, bit1 set h32]
      refine ⟨fun h => ?_, fun h => ?_⟩
      · have hf : bt set k = false := by cases hh : bt set k <;> simp [hh] at h ⊢
        refine J_blk a_X6_isBare_37 ?_
        simp only [b_X6_isBare_37, w_iconst_1, w_goto, kd_46, kd_47, kd_48, kd_49, kd_50, kd_51, kd_52, kd_53, kd_54, kd_55, kd_56, kd_57, kd_58, kd_59, ln_47, ln_48, ln_49, ln_50, ln_51, ln_52, ln_53, ln_54, ln_55, ln_56, ln_57, ln_58, ln_59, Option.toList_some, Option.toList_none, List.cons_append, List.nil_append, true_and, and_true, if_true, if_false, true_or, or_true, Nat.reduceAdd, Int.reduceAdd, Bool.false_eq_true, tn_0, tn_1, tn_2, tn_3, tn_4, tn_5, tn_6, tn_7]
        refine J_blk a_X6_isBare_42 ?_
        simp only [b_X6_isBare_42, w_iand, w_istore2, nl_2n, nl_2i, nl_2a, w_iinc3, nl_3n, nl_3i, nl_3a, ci_1, w_goto, kd_46, kd_47, kd_48, kd_49, kd_50, kd_51, kd_52, kd_53, kd_54, kd_55, kd_56, kd_57, kd_58, kd_59, ln_47, ln_48, ln_49, ln_50, ln_51, ln_52, ln_53, ln_54, ln_55, ln_56, ln_57, ln_58, ln_59, Option.toList_some, Option.toList_none, List.cons_append, List.nil_append, true_and, and_true, if_true, if_false, true_or, or_true, Nat.reduceAdd, Int.reduceAdd, Bool.false_eq_true, tn_0, tn_1, tn_2, tn_3, tn_4, tn_5, tn_6, tn_7]
        exact J_cast ih (by simp only [baF, hf, nI_1, Bool.false_and, Bool.not_false, Bool.and_true, bI_a1]) rfl rfl
      · have hf : bt set k = true := by cases hh : bt set k <;> simp [hh] at h ⊢
        refine J_blk a_X6_isBare_28 ?_
        simp only [b_X6_isBare_28, w_aload_n0, w_iload_n3, w_iload_n1, w_nil, kd_46, kd_47, kd_48, kd_49, kd_50, kd_51, kd_52, kd_53, kd_54, kd_55, kd_56, kd_57, kd_58, kd_59, ln_47, ln_48, ln_49, ln_50, ln_51, ln_52, ln_53, ln_54, ln_55, ln_56, ln_57, ln_58, ln_59, Option.toList_some, Option.toList_none, List.cons_append, List.nil_append, true_and, and_true, if_true, if_false, true_or, or_true, Nat.reduceAdd, Int.reduceAdd, Bool.false_eq_true, tn_0, tn_1, tn_2, tn_3, tn_4, tn_5, tn_6, tn_7]
        refine J_callVr (ci := 6) (bears_ok k n set M (by rw [hs]; exact hw) hk) k_X6_isBare_31 o_X6_bears rfl rfl rfl rfl (by decide) rfl (Nat.le_of_ble_eq_true rfl) ?_
        rw [hs]
        refine J_blk a_X6_isBare_34 ?_
        simp only [b_X6_isBare_34, w_if_gt, w_nil, kd_46, kd_47, kd_48, kd_49, kd_50, kd_51, kd_52, kd_53, kd_54, kd_55, kd_56, kd_57, kd_58, kd_59, ln_47, ln_48, ln_49, ln_50, ln_51, ln_52, ln_53, ln_54, ln_55, ln_56, ln_57, ln_58, ln_59, Option.toList_some, Option.toList_none, List.cons_append, List.nil_append, true_and, and_true, if_true, if_false, true_or, or_true, Nat.reduceAdd, Int.reduceAdd, Bool.false_eq_true, tn_0, tn_1, tn_2, tn_3, tn_4, tn_5, tn_6, tn_7]
        refine ⟨fun h => ?_, fun h => ?_⟩
        · refine J_blk a_X6_isBare_41 ?_
          simp only [b_X6_isBare_41, w_iconst_0, w_nil, kd_46, kd_47, kd_48, kd_49, kd_50, kd_51, kd_52, kd_53, kd_54, kd_55, kd_56, kd_57, kd_58, kd_59, ln_47, ln_48, ln_49, ln_50, ln_51, ln_52, ln_53, ln_54, ln_55, ln_56, ln_57, ln_58, ln_59, Option.toList_some, Option.toList_none, List.cons_append, List.nil_append, true_and, and_true, if_true, if_false, true_or, or_true, Nat.reduceAdd, Int.reduceAdd, Bool.false_eq_true, tn_0, tn_1, tn_2, tn_3, tn_4, tn_5, tn_6, tn_7]
          refine J_blk a_X6_isBare_42 ?_
          simp only [b_X6_isBare_42, w_iand, w_istore2, nl_2n, nl_2i, nl_2a, w_iinc3, nl_3n, nl_3i, nl_3a, ci_1, w_goto, kd_46, kd_47, kd_48, kd_49, kd_50, kd_51, kd_52, kd_53, kd_54, kd_55, kd_56, kd_57, kd_58, kd_59, ln_47, ln_48, ln_49, ln_50, ln_51, ln_52, ln_53, ln_54, ln_55, ln_56, ln_57, ln_58, ln_59, Option.toList_some, Option.toList_none, List.cons_append, List.nil_append, true_and, and_true, if_true, if_false, true_or, or_true, Nat.reduceAdd, Int.reduceAdd, Bool.false_eq_true, tn_0, tn_1, tn_2, tn_3, tn_4, tn_5, tn_6, tn_7]
          exact J_cast ih (by simp only [baF, hf, nI_1, Bool.true_and, decide_eq_true h, Bool.not_true, Bool.and_false, bI_a0]) rfl rfl
        · refine J_blk a_X6_isBare_37 ?_
          simp only [b_X6_isBare_37, w_iconst_1, w_goto, kd_46, kd_47, kd_48, kd_49, kd_50, kd_51, kd_52, kd_53, kd_54, kd_55, kd_56, kd_57, kd_58, kd_59, ln_47, ln_48, ln_49, ln_50, ln_51, ln_52, ln_53, ln_54, ln_55, ln_56, ln_57, ln_58, ln_59, Option.toList_some, Option.toList_none, List.cons_append, List.nil_append, true_and, and_true, if_true, if_false, true_or, or_true, Nat.reduceAdd, Int.reduceAdd, Bool.false_eq_true, tn_0, tn_1, tn_2, tn_3, tn_4, tn_5, tn_6, tn_7]
          refine J_blk a_X6_isBare_42 ?_
          simp only [b_X6_isBare_42, w_iand, w_istore2, nl_2n, nl_2i, nl_2a, w_iinc3, nl_3n, nl_3i, nl_3a, ci_1, w_goto, kd_46, kd_47, kd_48, kd_49, kd_50, kd_51, kd_52, kd_53, kd_54, kd_55, kd_56, kd_57, kd_58, kd_59, ln_47, ln_48, ln_49, ln_50, ln_51, ln_52, ln_53, ln_54, ln_55, ln_56, ln_57, ln_58, ln_59, Option.toList_some, Option.toList_none, List.cons_append, List.nil_append, true_and, and_true, if_true, if_false, true_or, or_true, Nat.reduceAdd, Int.reduceAdd, Bool.false_eq_true, tn_0, tn_1, tn_2, tn_3, tn_4, tn_5, tn_6, tn_7]
          exact J_cast ih (by simp only [baF, hf, nI_1, Bool.true_and, decide_eq_false h, Bool.not_false, Bool.and_true, bI_a1]) rfl rfl
  exact loop 0 (by omega)
/-- the first of so many -/
def fst1 (p : Nat → Bool) : Nat → Nat → Int32
  | 0, _ => -3
  | f + 1, k => if p k = true then nI k else fst1 p f (k + 1)
theorem back_Mg (M : Mm) (g r r' : Nat → Int32) (h : ∀ j, 56 ≤ j → r j = r' j) : su (Mg M (cpN r' g 56) r) 47 (cpN ((Mg M (cpN r' g 56) r).1 49) ((Mg M (cpN r' g 56) r).1 47) 56) = Mg M (cpN r' g 56) r' := by
  rw [Mg47, Mg49, Mg_su]
  congr 1
  funext j
  simp only [cpN]
  by_cases hj : j < 56
  · simp [hj]
  · simp [hj]; exact h j (by omega)
theorem asd_Mg (M : Mm) : asd M = Mg M (cpN (M.1 47) (M.1 49) 56) (M.1 47) := by
  conv => lhs; rw [Mg_ini M]
  rw [Mg_asd]
theorem bI1 {b : Bool} : (bI b = 0) = (b = false) := by cases b <;> simp [bI]
theorem mbare_ok (n : Nat) (M : Mm) (hw : WF (M.1 47) n) : K 4 mX6_bare [.ref 46] M (Rt (some (.int (fst1 (fun k => baB (yrs (M.1 47) n k) n) 61 0))) (asd M)) := by
  have h8 := hw.2.1
  have last : ∀ (r : Nat → Int32) (k : Nat) (v : Int32) (z : Option Value), k ≤ 61 → (∀ j, 56 ≤ j → r j = M.1 47 j) → v = (if k ≤ 60 then nI k else -3) → J 4 mX6_bare 37 [some (.ref 46), some (.int (nI k)), z] [] (Mg M (cpN (M.1 47) (M.1 49) 56) r) (Rt (some (.int v)) (asd M)) := by
    intro r k v z hk hr hv
    have e60 : (60 < nI k) = (60 < k) := propext (nI_ltI (a := 60) (by decide) (by omega))
    refine J_blk a_X6_bare_37 ?_
    simp only [b_X6_bare_37, w_aload_n0, w_getf6, ne0_3, ne0_1, w_nil, kd_46, kd_47, kd_48, kd_49, kd_50, kd_51, kd_52, kd_53, kd_54, kd_55, kd_56, kd_57, kd_58, kd_59, ln_47, ln_48, ln_49, ln_50, ln_51, ln_52, ln_53, ln_54, ln_55, ln_56, ln_57, ln_58, ln_59, Option.toList_some, Option.toList_none, List.cons_append, List.nil_append, true_and, and_true, if_true, if_false, true_or, or_true, Nat.reduceAdd, Int.reduceAdd, Bool.false_eq_true, tn_0, tn_1, tn_2, tn_3, tn_4, tn_5, tn_6, tn_7]
    refine J_callSr (copyRow_ok 49 47 _ rfl rfl rfl rfl (by decide)) k_X6_bare_45 o_X6_copyRow rfl (by decide) rfl (Nat.le_of_ble_eq_true rfl) ?_
    rw [back_Mg M _ r _ hr, ← asd_Mg]
    refine J_blk a_X6_bare_48 ?_
    simp only [b_X6_bare_48, w_iload_n1, w_bipush, ci_60, w_icmp_gt, w_nil, kd_46, kd_47, kd_48, kd_49, kd_50, kd_51, kd_52, kd_53, kd_54, kd_55, kd_56, kd_57, kd_58, kd_59, ln_47, ln_48, ln_49, ln_50, ln_51, ln_52, ln_53, ln_54, ln_55, ln_56, ln_57, ln_58, ln_59, Option.toList_some, Option.toList_none, List.cons_append, List.nil_append, true_and, and_true, if_true, if_false, true_or, or_true, Nat.reduceAdd, Int.reduceAdd, Bool.false_eq_true, tn_0, tn_1, tn_2, tn_3, tn_4, tn_5, tn_6, tn_7, e60]
    refine ⟨fun c2 => ?_, fun c2 => ?_⟩
    · refine J_blk a_X6_bare_58 ?_
      simp only [b_X6_bare_58, w_bipush, ci_m3, w_nil, kd_46, kd_47, kd_48, kd_49, kd_50, kd_51, kd_52, kd_53, kd_54, kd_55, kd_56, kd_57, kd_58, kd_59, ln_47, ln_48, ln_49, ln_50, ln_51, ln_52, ln_53, ln_54, ln_55, ln_56, ln_57, ln_58, ln_59, Option.toList_some, Option.toList_none, List.cons_append, List.nil_append, true_and, and_true, if_true, if_false, true_or, or_true, Nat.reduceAdd, Int.reduceAdd, Bool.false_eq_true, tn_0, tn_1, tn_2, tn_3, tn_4, tn_5, tn_6, tn_7, e60]
      refine J_blk a_X6_bare_60 ?_
      simp only [b_X6_bare_60, w_ireti, kd_46, kd_47, kd_48, kd_49, kd_50, kd_51, kd_52, kd_53, kd_54, kd_55, kd_56, kd_57, kd_58, kd_59, ln_47, ln_48, ln_49, ln_50, ln_51, ln_52, ln_53, ln_54, ln_55, ln_56, ln_57, ln_58, ln_59, Option.toList_some, Option.toList_none, List.cons_append, List.nil_append, true_and, and_true, if_true, if_false, true_or, or_true, Nat.reduceAdd, Int.reduceAdd, Bool.false_eq_true, tn_0, tn_1, tn_2, tn_3, tn_4, tn_5, tn_6, tn_7, e60]
      exact ⟨by rw [hv]; first | rw [if_pos (by omega)] | rw [if_neg (by omega)], rfl⟩
    · refine J_blk a_X6_bare_54 ?_
      simp only [b_X6_bare_54, w_iload_n1, w_goto, kd_46, kd_47, kd_48, kd_49, kd_50, kd_51, kd_52, kd_53, kd_54, kd_55, kd_56, kd_57, kd_58, kd_59, ln_47, ln_48, ln_49, ln_50, ln_51, ln_52, ln_53, ln_54, ln_55, ln_56, ln_57, ln_58, ln_59, Option.toList_some, Option.toList_none, List.cons_append, List.nil_append, true_and, and_true, if_true, if_false, true_or, or_true, Nat.reduceAdd, Int.reduceAdd, Bool.false_eq_true, tn_0, tn_1, tn_2, tn_3, tn_4, tn_5, tn_6, tn_7, e60]
      refine J_blk a_X6_bare_60 ?_
      simp only [b_X6_bare_60, w_ireti, kd_46, kd_47, kd_48, kd_49, kd_50, kd_51, kd_52, kd_53, kd_54, kd_55, kd_56, kd_57, kd_58, kd_59, ln_47, ln_48, ln_49, ln_50, ln_51, ln_52, ln_53, ln_54, ln_55, ln_56, ln_57, ln_58, ln_59, Option.toList_some, Option.toList_none, List.cons_append, List.nil_append, true_and, and_true, if_true, if_false, true_or, or_true, Nat.reduceAdd, Int.reduceAdd, Bool.false_eq_true, tn_0, tn_1, tn_2, tn_3, tn_4, tn_5, tn_6, tn_7, e60]
      exact ⟨by rw [hv]; first | rw [if_pos (by omega)] | rw [if_neg (by omega)], rfl⟩
  have loop : ∀ f k, f + k = 61 → ∀ z : Option Value, J 4 mX6_bare 13 [some (.ref 46), some (.int (nI k)), z] [] (Mg M (cpN (M.1 47) (M.1 49) 56) (yrs (M.1 47) n k)) (Rt (some (.int (fst1 (fun k => baB (yrs (M.1 47) n k) n) f k))) (asd M)) := by
    intro f
    induction f with
    | zero =>
      intro k hk z
      have : k = 61 := by omega
      subst this
      refine J_blk a_X6_bare_13 ?_
      simp only [b_X6_bare_13, w_iload_n1, w_bipush, ci_60, w_icmp_gt, w_nil, kd_46, kd_47, kd_48, kd_49, kd_50, kd_51, kd_52, kd_53, kd_54, kd_55, kd_56, kd_57, kd_58, kd_59, ln_47, ln_48, ln_49, ln_50, ln_51, ln_52, ln_53, ln_54, ln_55, ln_56, ln_57, ln_58, ln_59, Option.toList_some, Option.toList_none, List.cons_append, List.nil_append, true_and, and_true, if_true, if_false, true_or, or_true, Nat.reduceAdd, Int.reduceAdd, Bool.false_eq_true, tn_0, tn_1, tn_2, tn_3, tn_4, tn_5, tn_6, tn_7]
      exact ⟨fun _ => last _ 61 _ _ (by omega) (fun j hj => yrs_hi _ h8 hj _) rfl, fun h => absurd (show (60 : Int32) < nI 61 by decide) h⟩
    | succ f ih =>
      intro k hk z
      have e60 : (60 < nI k) = (60 < k) := propext (nI_ltI (a := 60) (by decide) (by omega))
      refine J_blk a_X6_bare_13 ?_
      simp only [b_X6_bare_13, w_iload_n1, w_bipush, ci_60, w_icmp_gt, w_nil, kd_46, kd_47, kd_48, kd_49, kd_50, kd_51, kd_52, kd_53, kd_54, kd_55, kd_56, kd_57, kd_58, kd_59, ln_47, ln_48, ln_49, ln_50, ln_51, ln_52, ln_53, ln_54, ln_55, ln_56, ln_57, ln_58, ln_59, Option.toList_some, Option.toList_none, List.cons_append, List.nil_append, true_and, and_true, if_true, if_false, true_or, or_true, Nat.reduceAdd, Int.reduceAdd, Bool.false_eq_true, tn_0, tn_1, tn_2, tn_3, tn_4, tn_5, tn_6, tn_7, e60]
      refine ⟨fun h => absurd h (by omega), fun _ => ?_⟩
      refine J_blk a_X6_bare_19 ?_
      simp only [b_X6_bare_19, w_aload_n0, w_nil, kd_46, kd_47, kd_48, kd_49, kd_50, kd_51, kd_52, kd_53, kd_54, kd_55, kd_56, kd_57, kd_58, kd_59, ln_47, ln_48, ln_49, ln_50, ln_51, ln_52, ln_53, ln_54, ln_55, ln_56, ln_57, ln_58, ln_59, Option.toList_some, Option.toList_none, List.cons_append, List.nil_append, true_and, and_true, if_true, if_false, true_or, or_true, Nat.reduceAdd, Int.reduceAdd, Bool.false_eq_true, tn_0, tn_1, tn_2, tn_3, tn_4, tn_5, tn_6, tn_7]
      refine J_callVr (ci := 6) (isBare_ok n _ (by rw [Mg47]; exact WF_yrs hw k)) k_X6_bare_20 o_X6_isBare rfl rfl rfl rfl (by decide) rfl (Nat.le_of_ble_eq_true rfl) ?_
      rw [Mg47]
      have e2 : fst1 (fun k => baB (yrs (M.1 47) n k) n) (f + 1) k = if baB (yrs (M.1 47) n k) n = true then nI k else fst1 (fun k => baB (yrs (M.1 47) n k) n) f (k + 1) := rfl
      rw [e2]
      by_cases hb : baB (yrs (M.1 47) n k) n = true
      · rw [if_pos hb, hb]
        refine J_blk a_X6_bare_23 ?_
        simp only [b_X6_bare_23, w_if_ne, w_nil, kd_46, kd_47, kd_48, kd_49, kd_50, kd_51, kd_52, kd_53, kd_54, kd_55, kd_56, kd_57, kd_58, kd_59, ln_47, ln_48, ln_49, ln_50, ln_51, ln_52, ln_53, ln_54, ln_55, ln_56, ln_57, ln_58, ln_59, Option.toList_some, Option.toList_none, List.cons_append, List.nil_append, true_and, and_true, if_true, if_false, true_or, or_true, Nat.reduceAdd, Int.reduceAdd, Bool.false_eq_true, tn_0, tn_1, tn_2, tn_3, tn_4, tn_5, tn_6, tn_7]
        exact ⟨fun _ => last _ k _ _ (by omega) (fun j hj => yrs_hi _ h8 hj _) (by rw [if_pos (by omega)]), fun h => absurd h (by decide)⟩
      · rw [if_neg hb]
        have hb' : baB (yrs (M.1 47) n k) n = false := by cases hh : baB (yrs (M.1 47) n k) n <;> simp_all
        rw [hb']
        refine J_blk a_X6_bare_23 ?_
        simp only [b_X6_bare_23, w_if_ne, w_nil, kd_46, kd_47, kd_48, kd_49, kd_50, kd_51, kd_52, kd_53, kd_54, kd_55, kd_56, kd_57, kd_58, kd_59, ln_47, ln_48, ln_49, ln_50, ln_51, ln_52, ln_53, ln_54, ln_55, ln_56, ln_57, ln_58, ln_59, Option.toList_some, Option.toList_none, List.cons_append, List.nil_append, true_and, and_true, if_true, if_false, true_or, or_true, Nat.reduceAdd, Int.reduceAdd, Bool.false_eq_true, tn_0, tn_1, tn_2, tn_3, tn_4, tn_5, tn_6, tn_7]
        refine ⟨fun h => absurd rfl h, fun _ => ?_⟩
        refine J_blk a_X6_bare_26 ?_
        simp only [b_X6_bare_26, w_aload_n0, w_nil, kd_46, kd_47, kd_48, kd_49, kd_50, kd_51, kd_52, kd_53, kd_54, kd_55, kd_56, kd_57, kd_58, kd_59, ln_47, ln_48, ln_49, ln_50, ln_51, ln_52, ln_53, ln_54, ln_55, ln_56, ln_57, ln_58, ln_59, Option.toList_some, Option.toList_none, List.cons_append, List.nil_append, true_and, and_true, if_true, if_false, true_or, or_true, Nat.reduceAdd, Int.reduceAdd, Bool.false_eq_true, tn_0, tn_1, tn_2, tn_3, tn_4, tn_5, tn_6, tn_7]
        refine J_callVr (ci := 6) (goesOn_ok n _ (by rw [Mg47]; exact WF_yrs hw k)) k_X6_bare_27 o_X6_goesOn rfl rfl rfl rfl (by decide) rfl (Nat.le_of_ble_eq_true rfl) ?_
        rw [Mg47, Mg_su]
        refine J_blk a_X6_bare_30 ?_
        simp only [b_X6_bare_30, w_istore2, nl_2n, nl_2i, nl_2a, w_iinc1, nl_1n, nl_1i, nl_1a, ci_1, w_goto, kd_46, kd_47, kd_48, kd_49, kd_50, kd_51, kd_52, kd_53, kd_54, kd_55, kd_56, kd_57, kd_58, kd_59, ln_47, ln_48, ln_49, ln_50, ln_51, ln_52, ln_53, ln_54, ln_55, ln_56, ln_57, ln_58, ln_59, Option.toList_some, Option.toList_none, List.cons_append, List.nil_append, true_and, and_true, if_true, if_false, true_or, or_true, Nat.reduceAdd, Int.reduceAdd, Bool.false_eq_true, tn_0, tn_1, tn_2, tn_3, tn_4, tn_5, tn_6, tn_7, nI_1]
        exact ih (k + 1) (by omega) _
  have l0 := loop 61 0 (by omega) none
  refine K_go 0 o_X6_bare [none, none] rfl (Nat.le_of_ble_eq_true rfl) ?_
  simp only [lvA_i, lvA_a, lvA_l, lvA_nil, List.cons_append, List.nil_append]
  refine J_blk a_X6_bare_0 ?_
  simp only [b_X6_bare_0, w_aload_n0, w_getf6, ne0_1, ne0_3, w_nil, kd_46, kd_47, kd_48, kd_49, kd_50, kd_51, kd_52, kd_53, kd_54, kd_55, kd_56, kd_57, kd_58, kd_59, ln_47, ln_48, ln_49, ln_50, ln_51, ln_52, ln_53, ln_54, ln_55, ln_56, ln_57, ln_58, ln_59, Option.toList_some, Option.toList_none, List.cons_append, List.nil_append, true_and, and_true, if_true, if_false, true_or, or_true, Nat.reduceAdd, Int.reduceAdd, Bool.false_eq_true, tn_0, tn_1, tn_2, tn_3, tn_4, tn_5, tn_6, tn_7]
  refine J_callSr (copyRow_ok 47 49 M rfl rfl rfl rfl (by decide)) k_X6_bare_8 o_X6_copyRow rfl (by decide) rfl (Nat.le_of_ble_eq_true rfl) ?_
  rw [show su M 49 (cpN (M.1 47) (M.1 49) 56) = asd M from rfl]
  refine J_blk a_X6_bare_11 ?_
  simp only [b_X6_bare_11, w_iconst_0, w_istore1, nl_1n, nl_1i, nl_1a, w_nil, kd_46, kd_47, kd_48, kd_49, kd_50, kd_51, kd_52, kd_53, kd_54, kd_55, kd_56, kd_57, kd_58, kd_59, ln_47, ln_48, ln_49, ln_50, ln_51, ln_52, ln_53, ln_54, ln_55, ln_56, ln_57, ln_58, ln_59, Option.toList_some, Option.toList_none, List.cons_append, List.nil_append, true_and, and_true, if_true, if_false, true_or, or_true, Nat.reduceAdd, Int.reduceAdd, Bool.false_eq_true, tn_0, tn_1, tn_2, tn_3, tn_4, tn_5, tn_6, tn_7]
  rw [asd_Mg] at l0 ⊢
  exact l0

