/-! the model: draws, trials -/
def dr (z : Int32) : Nat := z.toBitVec.toNat / 65536
theorem dr_lt (z : Int32) : dr z < 65536 := by
  have := z.toBitVec.isLt
  unfold dr
  omega
theorem drS_N (z : Int32) : drS z = nI (dr z) := by
  have h := pk_ushr z 16 16 (by decide +kernel)
  apply Int32.toBitVec_inj.mp
  apply BitVec.eq_of_toNat_eq
  rw [pk_tn (by have := dr_lt z; omega)]
  exact h
/-- behind the draws of a year -/
def frR (s : Nat → Int32) (n : Nat) : Nat → Int32 :=
  if n = 0 then s else upd (upd s 2 (zS (zS (s 2)))) (8 + 6 * (dr (zS (s 2)) % n) + 2) (if nI (dr (zS (zS (s 2))) % 100) < s 7 then s (8 + 6 * (dr (zS (s 2)) % n) + 2) / 2 else s (8 + 6 * (dr (zS (s 2)) % n) + 2))
theorem WF_z {s : Nat → Int32} {n : Nat} (hw : WF s n) (v : Int32) {j : Nat} (h : 0 < j) (h8 : j < 8) : WF (upd s j v) n := WF_upd hw v (by omega) (fun o' k ho' hk e => absurd e (by omega))
theorem WF_force {s : Nat → Int32} {n o a : Nat} (hw : WF s n) (ha : a ≤ 9) : WF (upd s (8 + 6 * o + 2) (nI a)) n := WF_upd hw _ (by omega) (fun o' k ho' hk e => by
  have : k = 2 := by omega
  subst this
  refine ⟨fun h => absurd h (by omega), fun h => absurd h (by omega), fun _ => ⟨a, ha, rfl⟩, fun h => absurd h (by omega), fun h => absurd h (by omega), fun h => absurd h (by omega)⟩)
theorem WF_kind {s : Nat → Int32} {n o a : Nat} (hw : WF s n) (ha : a ≤ 5) : WF (upd s (8 + 6 * o) (nI a)) n := WF_upd hw _ (by omega) (fun o' k ho' hk e => by
  have : k = 0 := by omega
  subst this
  refine ⟨fun _ => ⟨a, ha, rfl⟩, fun h => absurd h (by omega), fun h => absurd h (by omega), fun h => absurd h (by omega), fun h => absurd h (by omega), fun h => absurd h (by omega)⟩)
theorem WF_frR {s : Nat → Int32} {n : Nat} (hw : WF s n) : WF (frR s n) n := by
  unfold frR
  by_cases h0 : n = 0
  · rw [if_pos h0]; exact hw
  · rw [if_neg h0]
    have hh : dr (zS (s 2)) % n < n := Nat.mod_lt _ (by omega)
    obtain ⟨f, hf, ef⟩ := (hw.2.2 _ hh).2.2.1
    rw [ef, show nI f / 2 = nI (f / 2) from pk_div (d := 2) (by omega) (by omega) (by omega)]
    split
    · exact WF_force (WF_z hw _ (by omega) (by omega)) (by omega)
    · exact WF_force (WF_z hw _ (by omega) (by omega)) hf
theorem goesByDraws_ok (n : Nat) (M : Mm) (hw : WF (M.1 47) n) : K 4 mX6_goesByDraws [.ref 46] M (Rt (some (.int (sumS (frR (M.1 47) n) n))) (su M 47 (yearS (frR (M.1 47) n) n))) := by
  have h0 := hw.1
  have h8 := hw.2.1
  generalize hs : M.1 47 = s at *
  have tail : ∀ z : Option Value, J 4 mX6_goesByDraws 69 [some (.ref 46), z] [] (su M 47 (frR s n)) (Rt (some (.int (sumS (frR s n) n))) (su M 47 (yearS (frR s n) n))) := by
    intro z
    refine J_blk a_X6_goesByDraws_69 ?_
    simp only [b_X6_goesByDraws_69, w_aload_n0, w_nil, kd_46, kd_47, kd_48, kd_49, kd_50, kd_51, kd_52, kd_53, kd_54, kd_55, kd_56, kd_57, kd_58, kd_59, ln_47, ln_48, ln_49, ln_50, ln_51, ln_52, ln_53, ln_54, ln_55, ln_56, ln_57, ln_58, ln_59, Option.toList_some, Option.toList_none, List.cons_append, List.nil_append, true_and, and_true, if_true, if_false, true_or, or_true, Nat.reduceAdd, Int.reduceAdd, Bool.false_eq_true, tn_0, tn_1, tn_2, tn_3, tn_4, tn_5, tn_6, tn_7]
    refine J_callVr (ci := 6) (goesOn_ok n _ (by rw [su_at]; exact WF_frR hw)) k_X6_goesByDraws_70 o_X6_goesOn rfl rfl rfl rfl (by decide) rfl (Nat.le_of_ble_eq_true rfl) ?_
    refine J_blk a_X6_goesByDraws_73 ?_
    simp only [b_X6_goesByDraws_73, w_ireti, kd_46, kd_47, kd_48, kd_49, kd_50, kd_51, kd_52, kd_53, kd_54, kd_55, kd_56, kd_57, kd_58, kd_59, ln_47, ln_48, ln_49, ln_50, ln_51, ln_52, ln_53, ln_54, ln_55, ln_56, ln_57, ln_58, ln_59, Option.toList_some, Option.toList_none, List.cons_append, List.nil_append, true_and, and_true, if_true, if_false, true_or, or_true, Nat.reduceAdd, Int.reduceAdd, Bool.false_eq_true, tn_0, tn_1, tn_2, tn_3, tn_4, tn_5, tn_6, tn_7, su_at, su_su]
    exact ⟨rfl, rfl⟩
  refine K_go 0 o_X6_goesByDraws [none] rfl (Nat.le_of_ble_eq_true rfl) ?_
  simp only [lvA_i, lvA_a, lvA_l, lvA_nil, List.cons_append, List.nil_append]
  refine J_blk a_X6_goesByDraws_0 ?_
  simp only [b_X6_goesByDraws_0, w_aload_n0, w_getf6, ne0_1, w_iconst_0, w_iald, w_if_le, w_nil, kd_46, kd_47, kd_48, kd_49, kd_50, kd_51, kd_52, kd_53, kd_54, kd_55, kd_56, kd_57, kd_58, kd_59, ln_47, ln_48, ln_49, ln_50, ln_51, ln_52, ln_53, ln_54, ln_55, ln_56, ln_57, ln_58, ln_59, Option.toList_some, Option.toList_none, List.cons_append, List.nil_append, true_and, and_true, if_true, if_false, true_or, or_true, Nat.reduceAdd, Int.reduceAdd, Bool.false_eq_true, tn_0, tn_1, tn_2, tn_3, tn_4, tn_5, tn_6, tn_7, hs, h0]
  refine ⟨vlit (by decide), fun c => ?_, fun c => ?_⟩
  · have hn : n = 0 := by
      rcases Nat.eq_zero_or_pos n with h | h
      · exact h
      · exact absurd c (nI_nle h (by omega))
    have e : frR s n = s := by unfold frR; rw [if_pos hn]
    have t := tail none
    rw [e, ← hs, su_self] at t
    rw [e, ← hs]
    exact t
  · have hn : n ≠ 0 := by
      intro z; subst z; exact c (by decide)
    have hh : dr (zS (s 2)) % n < n := Nat.mod_lt _ (by omega)
    have fr : frR s n = _ := if_neg hn
    generalize hit : dr (zS (s 2)) % n = q at *
    have t2 : (nI (8 + 6 * q + 2)).toNatClampNeg = 8 + 6 * q + 2 := nI_clamp (by omega)
    refine J_blk a_X6_goesByDraws_9 ?_
    simp only [b_X6_goesByDraws_9, w_bipush, ci_8, ci_6, w_aload_n0, w_nil, kd_46, kd_47, kd_48, kd_49, kd_50, kd_51, kd_52, kd_53, kd_54, kd_55, kd_56, kd_57, kd_58, kd_59, ln_47, ln_48, ln_49, ln_50, ln_51, ln_52, ln_53, ln_54, ln_55, ln_56, ln_57, ln_58, ln_59, Option.toList_some, Option.toList_none, List.cons_append, List.nil_append, true_and, and_true, if_true, if_false, true_or, or_true, Nat.reduceAdd, Int.reduceAdd, Bool.false_eq_true, tn_0, tn_1, tn_2, tn_3, tn_4, tn_5, tn_6, tn_7]
    refine J_callVr (ci := 6) (drawn_ok M) k_X6_goesByDraws_14 o_X6_drawn rfl rfl rfl rfl (by decide) rfl (Nat.le_of_ble_eq_true rfl) ?_
    rw [hs, drS_N, u1_row, hs]
    have e0 : (su M 47 (upd s 2 (zS (s 2)))).1 47 0 = nI n := by rw [su_at, pk_un (by omega)]; exact h0
    have er : nI (dr (zS (s 2))) - nI (dr (zS (s 2))) / nI n * nI n = nI q := by
      rw [pk_rem (by have := dr_lt (zS (s 2)); omega) (by omega) (by omega), hit]
    refine J_blk a_X6_goesByDraws_17 ?_
    simp only [b_X6_goesByDraws_17, w_aload_n0, w_getf6, ne0_1, w_iconst_0, w_iald, w_irem, w_imul, w_iadd, w_iconst_2, w_istore1, nl_1n, nl_1i, nl_1a, w_iload_n1, w_nil, kd_46, kd_47, kd_48, kd_49, kd_50, kd_51, kd_52, kd_53, kd_54, kd_55, kd_56, kd_57, kd_58, kd_59, ln_47, ln_48, ln_49, ln_50, ln_51, ln_52, ln_53, ln_54, ln_55, ln_56, ln_57, ln_58, ln_59, Option.toList_some, Option.toList_none, List.cons_append, List.nil_append, true_and, and_true, if_true, if_false, true_or, or_true, Nat.reduceAdd, Int.reduceAdd, Bool.false_eq_true, tn_0, tn_1, tn_2, tn_3, tn_4, tn_5, tn_6, tn_7, e0, er, ix0, ad2]
    refine ⟨vlit (by decide), nI_ne0 (by omega) (by omega), ?_⟩
    refine J_callVr (ci := 6) (drawn_ok _) k_X6_goesByDraws_35 o_X6_drawn rfl rfl rfl rfl (by decide) rfl (Nat.le_of_ble_eq_true rfl) ?_
    rw [su_at, pk_us, drS_N, u1_su]
    have er2 : nI (dr (zS (zS (s 2)))) - nI (dr (zS (zS (s 2)))) / 100 * 100 = nI (dr (zS (zS (s 2))) % 100) := pk_rem (d := 100) (by have := dr_lt (zS (zS (s 2))); omega) (by omega) (by omega)
    have u2 : upd (upd s 2 (zS (s 2))) 2 (zS (zS (s 2))) = upd s 2 (zS (zS (s 2))) := by
      funext j; simp only [upd]; split <;> rfl
    rw [u2]
    have r7 : upd s 2 (zS (zS (s 2))) 7 = s 7 := pk_un (by omega)
    have rq : upd s 2 (zS (zS (s 2))) (8 + 6 * q + 2) = s (8 + 6 * q + 2) := pk_un (by omega)
    have done : ∀ v, v = (if nI (dr (zS (zS (s 2))) % 100) < s 7 then s (8 + 6 * q + 2) / 2 else s (8 + 6 * q + 2)) → J 4 mX6_goesByDraws 68 [some (.ref 46), some (.int (nI (8 + 6 * q + 2)))] [.int v, .int (nI (8 + 6 * q + 2)), .ref 47] (su M 47 (upd s 2 (zS (zS (s 2))))) (Rt (some (.int (sumS (frR s n) n))) (su M 47 (yearS (frR s n) n))) := by
      intro v hv
      refine J_blk a_X6_goesByDraws_68 ?_
      simp only [b_X6_goesByDraws_68, w_iast, w_nil, kd_46, kd_47, kd_48, kd_49, kd_50, kd_51, kd_52, kd_53, kd_54, kd_55, kd_56, kd_57, kd_58, kd_59, ln_47, ln_48, ln_49, ln_50, ln_51, ln_52, ln_53, ln_54, ln_55, ln_56, ln_57, ln_58, ln_59, Option.toList_some, Option.toList_none, List.cons_append, List.nil_append, true_and, and_true, if_true, if_false, true_or, or_true, Nat.reduceAdd, Int.reduceAdd, Bool.false_eq_true, tn_0, tn_1, tn_2, tn_3, tn_4, tn_5, tn_6, tn_7, t2, u1_su]
      refine ⟨vinN (by omega) (by decide), ?_⟩
      have t := tail (some (.int (nI (8 + 6 * q + 2))))
      rw [fr, ← hv] at t
      rw [fr, ← hv]
      exact t
    refine J_blk a_X6_goesByDraws_38 ?_
    simp only [b_X6_goesByDraws_38, w_bipush, ci_100, w_irem, w_aload_n0, w_getf6, ne0_1, ci_7, w_iald, w_icmp_ge, w_nil, kd_46, kd_47, kd_48, kd_49, kd_50, kd_51, kd_52, kd_53, kd_54, kd_55, kd_56, kd_57, kd_58, kd_59, ln_47, ln_48, ln_49, ln_50, ln_51, ln_52, ln_53, ln_54, ln_55, ln_56, ln_57, ln_58, ln_59, Option.toList_some, Option.toList_none, List.cons_append, List.nil_append, true_and, and_true, if_true, if_false, true_or, or_true, Nat.reduceAdd, Int.reduceAdd, Bool.false_eq_true, tn_0, tn_1, tn_2, tn_3, tn_4, tn_5, tn_6, tn_7, er2, su_at, r7]
    refine ⟨by decide, vlit (by decide), fun c => ?_, fun c => ?_⟩
    · refine J_blk a_X6_goesByDraws_62 ?_
      simp only [b_X6_goesByDraws_62, w_aload_n0, w_getf6, ne0_1, w_iload_n1, w_iald, w_nil, kd_46, kd_47, kd_48, kd_49, kd_50, kd_51, kd_52, kd_53, kd_54, kd_55, kd_56, kd_57, kd_58, kd_59, ln_47, ln_48, ln_49, ln_50, ln_51, ln_52, ln_53, ln_54, ln_55, ln_56, ln_57, ln_58, ln_59, Option.toList_some, Option.toList_none, List.cons_append, List.nil_append, true_and, and_true, if_true, if_false, true_or, or_true, Nat.reduceAdd, Int.reduceAdd, Bool.false_eq_true, tn_0, tn_1, tn_2, tn_3, tn_4, tn_5, tn_6, tn_7, su_at, t2, rq]
      refine ⟨(vinN (by omega) (by decide)), ?_⟩
      exact done _ (by rw [if_neg (Int32.not_lt.mpr c)])
    · refine J_blk a_X6_goesByDraws_51 ?_
      simp only [b_X6_goesByDraws_51, w_aload_n0, w_getf6, ne0_1, w_iload_n1, w_iald, w_iconst_2, w_idiv, w_goto, kd_46, kd_47, kd_48, kd_49, kd_50, kd_51, kd_52, kd_53, kd_54, kd_55, kd_56, kd_57, kd_58, kd_59, ln_47, ln_48, ln_49, ln_50, ln_51, ln_52, ln_53, ln_54, ln_55, ln_56, ln_57, ln_58, ln_59, Option.toList_some, Option.toList_none, List.cons_append, List.nil_append, true_and, and_true, if_true, if_false, true_or, or_true, Nat.reduceAdd, Int.reduceAdd, Bool.false_eq_true, tn_0, tn_1, tn_2, tn_3, tn_4, tn_5, tn_6, tn_7, su_at, t2, rq]
      refine ⟨vinN (by omega) (by decide), by decide, ?_⟩
      exact done _ (by rw [if_pos (Int32.not_le.mp c)])
theorem myear_ok (n : Nat) (M : Mm) (hw : WF (M.1 47) n) : K 5 mX6_year [.ref 46] M (Rt (some (.int (yearS (frR (M.1 47) n) n 3))) (su M 47 (yearS (frR (M.1 47) n) n))) := by
  refine K_go 0 o_X6_year [none] rfl (Nat.le_of_ble_eq_true rfl) ?_
  simp only [lvA_i, lvA_a, lvA_l, lvA_nil, List.cons_append, List.nil_append]
  refine J_blk a_X6_year_0 ?_
  simp only [b_X6_year_0, w_aload_n0, w_nil, kd_46, kd_47, kd_48, kd_49, kd_50, kd_51, kd_52, kd_53, kd_54, kd_55, kd_56, kd_57, kd_58, kd_59, ln_47, ln_48, ln_49, ln_50, ln_51, ln_52, ln_53, ln_54, ln_55, ln_56, ln_57, ln_58, ln_59, Option.toList_some, Option.toList_none, List.cons_append, List.nil_append, true_and, and_true, if_true, if_false, true_or, or_true, Nat.reduceAdd, Int.reduceAdd, Bool.false_eq_true, tn_0, tn_1, tn_2, tn_3, tn_4, tn_5, tn_6, tn_7]
  refine J_callVr (ci := 6) (goesByDraws_ok n M hw) k_X6_year_1 o_X6_goesByDraws rfl rfl rfl rfl (by decide) rfl (Nat.le_of_ble_eq_true rfl) ?_
  refine J_blk a_X6_year_4 ?_
  simp only [b_X6_year_4, w_istore1, nl_1n, nl_1i, nl_1a, w_aload_n0, w_getf6, ne0_1, w_iconst_3, w_iald, w_ireti, kd_46, kd_47, kd_48, kd_49, kd_50, kd_51, kd_52, kd_53, kd_54, kd_55, kd_56, kd_57, kd_58, kd_59, ln_47, ln_48, ln_49, ln_50, ln_51, ln_52, ln_53, ln_54, ln_55, ln_56, ln_57, ln_58, ln_59, Option.toList_some, Option.toList_none, List.cons_append, List.nil_append, true_and, and_true, if_true, if_false, true_or, or_true, Nat.reduceAdd, Int.reduceAdd, Bool.false_eq_true, tn_0, tn_1, tn_2, tn_3, tn_4, tn_5, tn_6, tn_7, su_at]
  exact ⟨vlit (by decide), rfl, rfl⟩
/-- the scratch rows may be anything -/
def ScY (M M' : Mm) : Prop := ∃ g, M' = su M 49 g
theorem ScY_asd (M : Mm) : ScY M (asd M) := ⟨_, rfl⟩
/-- z and how many, behind k winters -/
def wzS (s : Nat → Int32) (n : Nat) : Nat → Int32 × Int32
  | 0 => (s 2, 0)
  | k + 1 => (yearS (frR (upd s 2 (wzS s n k).1) n) n 2, (wzS s n k).2 + (if sumS (frR (upd s 2 (wzS s n k).1) n) n < sumS s n then 1 else 0))
theorem fr_hi (s : Nat → Int32) {n : Nat} (h8 : n ≤ 8) {j : Nat} (hj : 56 ≤ j) : frR s n j = s j := by
  unfold frR
  by_cases h0 : n = 0
  · rw [if_pos h0]
  · rw [if_neg h0]
    have hh : dr (zS (s 2)) % n < n := Nat.mod_lt _ (by omega)
    rw [pk_un (by omega), pk_un (by omega)]
theorem mwinters_t (n y : Nat) (M : Mm) (hw : WF (M.1 47) n) (hy : 1 ≤ y) (hy2 : y ≤ 30) : K 6 mX6_winters [.ref 46, .int (nI y)] M (Rt (some (.int (wzS (M.1 47) n y).2)) (asd M)) := by
  have h1 : 1 ≤ nI y ∧ nI y ≤ 30 := ok3 (m := 30) hy hy2 (by decide)
  have h8 := hw.2.1
  generalize hs : M.1 47 = s at *
  have back : ∀ (r : Nat → Int32), (∀ j, 56 ≤ j → r j = s j) → su (su (asd M) 47 r) 47 (cpN ((su (asd M) 47 r).1 49) ((su (asd M) 47 r).1 47) 56) = asd M := fun r hr => asd_back M r (by rw [hs]; exact hr)
  have loop : ∀ k, k ≤ y → ∀ (r : Nat → Int32), (∀ j, 56 ≤ j → r j = s j) → J 6 mX6_winters 43 [some (.ref 46), some (.int (nI y)), some (.int (sumS s n)), some (.int (wzS s n k).1), some (.int (wzS s n k).2), some (.int (nI k))] [] (su (asd M) 47 r) (Rt (some (.int (wzS s n y).2)) (asd M)) := by
    refine down y ?_ ?_
    · intro r hr
      refine J_blk a_X6_winters_43 ?_
      simp only [b_X6_winters_43, w_iload5, w_iload_n1, w_icmp_ge, w_nil, kd_46, kd_47, kd_48, kd_49, kd_50, kd_51, kd_52, kd_53, kd_54, kd_55, kd_56, kd_57, kd_58, kd_59, ln_47, ln_48, ln_49, ln_50, ln_51, ln_52, ln_53, ln_54, ln_55, ln_56, ln_57, ln_58, ln_59, Option.toList_some, Option.toList_none, List.cons_append, List.nil_append, true_and, and_true, if_true, if_false, true_or, or_true, Nat.reduceAdd, Int.reduceAdd, Bool.false_eq_true, tn_0, tn_1, tn_2, tn_3, tn_4, tn_5, tn_6, tn_7]
      refine ⟨fun _ => ?_, fun h => absurd (Int32.le_refl _) h⟩
      refine J_blk a_X6_winters_98 ?_
      simp only [b_X6_winters_98, w_aload_n0, w_getf6, ne0_3, ne0_1, w_nil, kd_46, kd_47, kd_48, kd_49, kd_50, kd_51, kd_52, kd_53, kd_54, kd_55, kd_56, kd_57, kd_58, kd_59, ln_47, ln_48, ln_49, ln_50, ln_51, ln_52, ln_53, ln_54, ln_55, ln_56, ln_57, ln_58, ln_59, Option.toList_some, Option.toList_none, List.cons_append, List.nil_append, true_and, and_true, if_true, if_false, true_or, or_true, Nat.reduceAdd, Int.reduceAdd, Bool.false_eq_true, tn_0, tn_1, tn_2, tn_3, tn_4, tn_5, tn_6, tn_7]
      refine J_callSr (copyRow_ok 49 47 _ rfl rfl rfl rfl (by decide)) k_X6_winters_106 o_X6_copyRow rfl (by decide) rfl (Nat.le_of_ble_eq_true rfl) ?_
      rw [back r hr]
      refine J_blk a_X6_winters_109 ?_
      simp only [b_X6_winters_109, w_iload4, w_ireti, kd_46, kd_47, kd_48, kd_49, kd_50, kd_51, kd_52, kd_53, kd_54, kd_55, kd_56, kd_57, kd_58, kd_59, ln_47, ln_48, ln_49, ln_50, ln_51, ln_52, ln_53, ln_54, ln_55, ln_56, ln_57, ln_58, ln_59, Option.toList_some, Option.toList_none, List.cons_append, List.nil_append, true_and, and_true, if_true, if_false, true_or, or_true, Nat.reduceAdd, Int.reduceAdd, Bool.false_eq_true, tn_0, tn_1, tn_2, tn_3, tn_4, tn_5, tn_6, tn_7]
      exact ⟨rfl, rfl⟩
    · intro k hk ih r hr
      refine J_blk a_X6_winters_43 ?_
      simp only [b_X6_winters_43, w_iload5, w_iload_n1, w_icmp_ge, w_nil, kd_46, kd_47, kd_48, kd_49, kd_50, kd_51, kd_52, kd_53, kd_54, kd_55, kd_56, kd_57, kd_58, kd_59, ln_47, ln_48, ln_49, ln_50, ln_51, ln_52, ln_53, ln_54, ln_55, ln_56, ln_57, ln_58, ln_59, Option.toList_some, Option.toList_none, List.cons_append, List.nil_append, true_and, and_true, if_true, if_false, true_or, or_true, Nat.reduceAdd, Int.reduceAdd, Bool.false_eq_true, tn_0, tn_1, tn_2, tn_3, tn_4, tn_5, tn_6, tn_7]
      refine ⟨fun h => absurd h (nI_ge hk (by omega)), fun _ => ?_⟩
      refine J_blk a_X6_winters_49 ?_
      simp only [b_X6_winters_49, w_aload_n0, w_getf6, ne0_3, ne0_1, w_nil, kd_46, kd_47, kd_48, kd_49, kd_50, kd_51, kd_52, kd_53, kd_54, kd_55, kd_56, kd_57, kd_58, kd_59, ln_47, ln_48, ln_49, ln_50, ln_51, ln_52, ln_53, ln_54, ln_55, ln_56, ln_57, ln_58, ln_59, Option.toList_some, Option.toList_none, List.cons_append, List.nil_append, true_and, and_true, if_true, if_false, true_or, or_true, Nat.reduceAdd, Int.reduceAdd, Bool.false_eq_true, tn_0, tn_1, tn_2, tn_3, tn_4, tn_5, tn_6, tn_7]
      refine J_callSr (copyRow_ok 49 47 _ rfl rfl rfl rfl (by decide)) k_X6_winters_57 o_X6_copyRow rfl (by decide) rfl (Nat.le_of_ble_eq_true rfl) ?_
      rw [back r hr]
      refine J_blk a_X6_winters_60 ?_
      simp only [b_X6_winters_60, w_aload_n0, w_getf6, ne0_1, w_iconst_2, w_iload_n3, w_iast, w_iload4, w_nil, kd_46, kd_47, kd_48, kd_49, kd_50, kd_51, kd_52, kd_53, kd_54, kd_55, kd_56, kd_57, kd_58, kd_59, ln_47, ln_48, ln_49, ln_50, ln_51, ln_52, ln_53, ln_54, ln_55, ln_56, ln_57, ln_58, ln_59, Option.toList_some, Option.toList_none, List.cons_append, List.nil_append, true_and, and_true, if_true, if_false, true_or, or_true, Nat.reduceAdd, Int.reduceAdd, Bool.false_eq_true, tn_0, tn_1, tn_2, tn_3, tn_4, tn_5, tn_6, tn_7, u1_row, asd47, hs]
      refine ⟨vlit (by decide), ?_⟩
      refine J_callVr (ci := 6) (goesByDraws_ok n _ (by rw [su_at]; exact WF_z hw _ (by omega) (by omega))) k_X6_winters_70 o_X6_goesByDraws rfl rfl rfl rfl (by decide) rfl (Nat.le_of_ble_eq_true rfl) ?_
      rw [su_at, su_su]
      have nx := ih (yearS (frR (upd s 2 (wzS s n k).1) n) n) (fun j hj => by rw [yearS, yr_hi _ _ h8 _ hj, fr_hi _ h8 hj, pk_un (by omega)])
      refine J_blk a_X6_winters_73 ?_
      simp only [b_X6_winters_73, w_iload_n2, w_icmp_ge, w_nil, kd_46, kd_47, kd_48, kd_49, kd_50, kd_51, kd_52, kd_53, kd_54, kd_55, kd_56, kd_57, kd_58, kd_59, ln_47, ln_48, ln_49, ln_50, ln_51, ln_52, ln_53, ln_54, ln_55, ln_56, ln_57, ln_58, ln_59, Option.toList_some, Option.toList_none, List.cons_append, List.nil_append, true_and, and_true, if_true, if_false, true_or, or_true, Nat.reduceAdd, Int.reduceAdd, Bool.false_eq_true, tn_0, tn_1, tn_2, tn_3, tn_4, tn_5, tn_6, tn_7, su_at]
      refine ⟨fun c1 => ?_, fun c1 => ?_⟩
      · refine J_blk a_X6_winters_81 ?_
        simp only [b_X6_winters_81, w_iconst_0, w_nil, kd_46, kd_47, kd_48, kd_49, kd_50, kd_51, kd_52, kd_53, kd_54, kd_55, kd_56, kd_57, kd_58, kd_59, ln_47, ln_48, ln_49, ln_50, ln_51, ln_52, ln_53, ln_54, ln_55, ln_56, ln_57, ln_58, ln_59, Option.toList_some, Option.toList_none, List.cons_append, List.nil_append, true_and, and_true, if_true, if_false, true_or, or_true, Nat.reduceAdd, Int.reduceAdd, Bool.false_eq_true, tn_0, tn_1, tn_2, tn_3, tn_4, tn_5, tn_6, tn_7, su_at]
        refine J_blk a_X6_winters_82 ?_
        simp only [b_X6_winters_82, w_iadd, w_istore4, nl_4n, nl_4i, nl_4a, w_aload_n0, w_getf6, ne0_1, w_iconst_2, w_iald, w_istore3, nl_3n, nl_3i, nl_3a, w_iinc5, nl_5n, nl_5i, nl_5a, ci_1, w_goto, kd_46, kd_47, kd_48, kd_49, kd_50, kd_51, kd_52, kd_53, kd_54, kd_55, kd_56, kd_57, kd_58, kd_59, ln_47, ln_48, ln_49, ln_50, ln_51, ln_52, ln_53, ln_54, ln_55, ln_56, ln_57, ln_58, ln_59, Option.toList_some, Option.toList_none, List.cons_append, List.nil_append, true_and, and_true, if_true, if_false, true_or, or_true, Nat.reduceAdd, Int.reduceAdd, Bool.false_eq_true, tn_0, tn_1, tn_2, tn_3, tn_4, tn_5, tn_6, tn_7, su_at]
        refine ⟨(vlit (by decide)), ?_⟩
        exact J_cast nx (by simp only [wzS, nI_1, List.cons.injEq, Option.some.injEq, Value.int.injEq, true_and, and_true]; grind) rfl rfl
      · refine J_blk a_X6_winters_77 ?_
        simp only [b_X6_winters_77, w_iconst_1, w_goto, kd_46, kd_47, kd_48, kd_49, kd_50, kd_51, kd_52, kd_53, kd_54, kd_55, kd_56, kd_57, kd_58, kd_59, ln_47, ln_48, ln_49, ln_50, ln_51, ln_52, ln_53, ln_54, ln_55, ln_56, ln_57, ln_58, ln_59, Option.toList_some, Option.toList_none, List.cons_append, List.nil_append, true_and, and_true, if_true, if_false, true_or, or_true, Nat.reduceAdd, Int.reduceAdd, Bool.false_eq_true, tn_0, tn_1, tn_2, tn_3, tn_4, tn_5, tn_6, tn_7, su_at]
        refine J_blk a_X6_winters_82 ?_
        simp only [b_X6_winters_82, w_iadd, w_istore4, nl_4n, nl_4i, nl_4a, w_aload_n0, w_getf6, ne0_1, w_iconst_2, w_iald, w_istore3, nl_3n, nl_3i, nl_3a, w_iinc5, nl_5n, nl_5i, nl_5a, ci_1, w_goto, kd_46, kd_47, kd_48, kd_49, kd_50, kd_51, kd_52, kd_53, kd_54, kd_55, kd_56, kd_57, kd_58, kd_59, ln_47, ln_48, ln_49, ln_50, ln_51, ln_52, ln_53, ln_54, ln_55, ln_56, ln_57, ln_58, ln_59, Option.toList_some, Option.toList_none, List.cons_append, List.nil_append, true_and, and_true, if_true, if_false, true_or, or_true, Nat.reduceAdd, Int.reduceAdd, Bool.false_eq_true, tn_0, tn_1, tn_2, tn_3, tn_4, tn_5, tn_6, tn_7, su_at]
        refine ⟨(vlit (by decide)), ?_⟩
        exact J_cast nx (by simp only [wzS, nI_1, List.cons.injEq, Option.some.injEq, Value.int.injEq, true_and, and_true]; grind) rfl rfl
  have l0 := loop 0 (by omega) (yearS s n) (fun j hj => by rw [yearS, yr_hi _ _ h8 _ hj])
  have go : J 6 mX6_winters 14 [some (.ref 46), some (.int (nI y)), none, none, none, none] [] M (Rt (some (.int (wzS s n y).2)) (asd M)) := by
    refine J_blk a_X6_winters_14 ?_
    simp only [b_X6_winters_14, w_aload_n0, w_getf6, ne0_1, ne0_3, w_nil, kd_46, kd_47, kd_48, kd_49, kd_50, kd_51, kd_52, kd_53, kd_54, kd_55, kd_56, kd_57, kd_58, kd_59, ln_47, ln_48, ln_49, ln_50, ln_51, ln_52, ln_53, ln_54, ln_55, ln_56, ln_57, ln_58, ln_59, Option.toList_some, Option.toList_none, List.cons_append, List.nil_append, true_and, and_true, if_true, if_false, true_or, or_true, Nat.reduceAdd, Int.reduceAdd, Bool.false_eq_true, tn_0, tn_1, tn_2, tn_3, tn_4, tn_5, tn_6, tn_7]
    refine J_callSr (copyRow_ok 47 49 M rfl rfl rfl rfl (by decide)) k_X6_winters_22 o_X6_copyRow rfl (by decide) rfl (Nat.le_of_ble_eq_true rfl) ?_
    rw [show su M 49 (cpN (M.1 47) (M.1 49) 56) = asd M from rfl]
    refine J_blk a_X6_winters_25 ?_
    simp only [b_X6_winters_25, w_aload_n0, w_nil, kd_46, kd_47, kd_48, kd_49, kd_50, kd_51, kd_52, kd_53, kd_54, kd_55, kd_56, kd_57, kd_58, kd_59, ln_47, ln_48, ln_49, ln_50, ln_51, ln_52, ln_53, ln_54, ln_55, ln_56, ln_57, ln_58, ln_59, Option.toList_some, Option.toList_none, List.cons_append, List.nil_append, true_and, and_true, if_true, if_false, true_or, or_true, Nat.reduceAdd, Int.reduceAdd, Bool.false_eq_true, tn_0, tn_1, tn_2, tn_3, tn_4, tn_5, tn_6, tn_7]
    refine J_callVr (ci := 6) (goesOn_ok n _ (by rw [asd47, hs]; exact hw)) k_X6_winters_26 o_X6_goesOn rfl rfl rfl rfl (by decide) rfl (Nat.le_of_ble_eq_true rfl) ?_
    rw [asd47, hs]
    have e2 : (su (asd M) 47 (yearS s n)).1 49 2 = s 2 := by
      rw [su_ne _ _ _ _ (by decide)]
      unfold asd
      rw [su_at, hs]
      simp [cpN]
    refine J_blk a_X6_winters_29 ?_
    simp only [b_X6_winters_29, w_istore2, nl_2n, nl_2i, nl_2a, w_aload_n0, w_getf6, ne0_3, w_iconst_2, w_iald, w_istore3, nl_3n, nl_3i, nl_3a, w_iconst_0, w_istore4, nl_4n, nl_4i, nl_4a, w_istore5, nl_5n, nl_5i, nl_5a, w_nil, kd_46, kd_47, kd_48, kd_49, kd_50, kd_51, kd_52, kd_53, kd_54, kd_55, kd_56, kd_57, kd_58, kd_59, ln_47, ln_48, ln_49, ln_50, ln_51, ln_52, ln_53, ln_54, ln_55, ln_56, ln_57, ln_58, ln_59, Option.toList_some, Option.toList_none, List.cons_append, List.nil_append, true_and, and_true, if_true, if_false, true_or, or_true, Nat.reduceAdd, Int.reduceAdd, Bool.false_eq_true, tn_0, tn_1, tn_2, tn_3, tn_4, tn_5, tn_6, tn_7, e2]
    exact ⟨vlit (by decide), l0⟩
  refine K_go 1 o_X6_winters [none, none, none, none] rfl (Nat.le_of_ble_eq_true rfl) ?_
  simp only [lvA_i, lvA_a, lvA_l, lvA_nil, List.cons_append, List.nil_append]
  refine J_blk a_X6_winters_0 ?_
  simp only [b_X6_winters_0, w_iload_n1, w_i2l, w_lconst_1, w_ldc2, cl_30, w_nil, kd_46, kd_47, kd_48, kd_49, kd_50, kd_51, kd_52, kd_53, kd_54, kd_55, kd_56, kd_57, kd_58, kd_59, ln_47, ln_48, ln_49, ln_50, ln_51, ln_52, ln_53, ln_54, ln_55, ln_56, ln_57, ln_58, ln_59, Option.toList_some, Option.toList_none, List.cons_append, List.nil_append, true_and, and_true, if_true, if_false, true_or, or_true, Nat.reduceAdd, Int.reduceAdd, Bool.false_eq_true, tn_0, tn_1, tn_2, tn_3, tn_4, tn_5, tn_6, tn_7]
  refine J_callSr (isIn_ok _ _ _ _) k_X6_winters_6 o_X6_isIn rfl (by decide) rfl (Nat.le_of_ble_eq_true rfl) ?_
  (simp only [l_le_1, l_le_2, l_le_3, l_le_5, l_le_7, l_le_8, l_le_9, l_le_10, l_le_13, l_le_20, l_le_30, l_le_60, l_le_99, l_le_9999, l_ge_0, l_ge_1, l_ge_6, l_ge_m1, i64_le]; rw [if_pos (by first | exact h1 | exact h2 | exact h3 | exact h4)])
  refine J_blk a_X6_winters_9 ?_
  simp only [b_X6_winters_9, w_if_ne, w_nil, kd_46, kd_47, kd_48, kd_49, kd_50, kd_51, kd_52, kd_53, kd_54, kd_55, kd_56, kd_57, kd_58, kd_59, ln_47, ln_48, ln_49, ln_50, ln_51, ln_52, ln_53, ln_54, ln_55, ln_56, ln_57, ln_58, ln_59, Option.toList_some, Option.toList_none, List.cons_append, List.nil_append, true_and, and_true, if_true, if_false, true_or, or_true, Nat.reduceAdd, Int.reduceAdd, Bool.false_eq_true, tn_0, tn_1, tn_2, tn_3, tn_4, tn_5, tn_6, tn_7]
  refine ⟨fun c2 => ?_, fun c2 => ?_⟩
  · first
      | exact absurd c2 (by decide)
      | (exact go)
  · first
      | exact absurd c2 (by decide)
      | (refine J_blk a_X6_winters_12 ?_
         simp only [b_X6_winters_12, w_iconst_m1, w_ireti, kd_46, kd_47, kd_48, kd_49, kd_50, kd_51, kd_52, kd_53, kd_54, kd_55, kd_56, kd_57, kd_58, kd_59, ln_47, ln_48, ln_49, ln_50, ln_51, ln_52, ln_53, ln_54, ln_55, ln_56, ln_57, ln_58, ln_59, Option.toList_some, Option.toList_none, List.cons_append, List.nil_append, true_and, and_true, if_true, if_false, true_or, or_true, Nat.reduceAdd, Int.reduceAdd, Bool.false_eq_true, tn_0, tn_1, tn_2, tn_3, tn_4, tn_5, tn_6, tn_7]
         first | exact ⟨rfl, rfl⟩ | (simp_all [Rt]))
def stA (s : Nat → Int32) (n : Nat) (w : Int32) : Int32 := if w = 0 then s 1 else if w = 1 then s 3 else if w = 2 then bsF (sd s) n else if w = 3 then bsF (fun o => decide (s (8 + 6 * o + 4) = 1)) n else if w = 4 then fsS s n else if w = 5 then bsF (brS s) n else -1
theorem mstate_ok (n : Nat) (w : Int32) (M : Mm) (hw : WF (M.1 47) n) : K 3 mX6_state [.ref 46, .int w] M (Rt (some (.int (stA (M.1 47) n w))) M) := by
  unfold stA
  refine K_go 1 o_X6_state [] rfl (Nat.le_of_ble_eq_true rfl) ?_
  simp only [lvA_i, lvA_a, lvA_l, lvA_nil, List.cons_append, List.nil_append]
  refine J_blk a_X6_state_0 ?_
  simp only [b_X6_state_0, w_iload_n1, w_tsw, sw_nil, sw_cons, ci_0, ci_1, ci_2, ci_3, ci_4, ci_5, kd_46, kd_47, kd_48, kd_49, kd_50, kd_51, kd_52, kd_53, kd_54, kd_55, kd_56, kd_57, kd_58, kd_59, ln_47, ln_48, ln_49, ln_50, ln_51, ln_52, ln_53, ln_54, ln_55, ln_56, ln_57, ln_58, ln_59, Option.toList_some, Option.toList_none, List.cons_append, List.nil_append, true_and, and_true, if_true, if_false, true_or, or_true, Nat.reduceAdd, Int.reduceAdd, Bool.false_eq_true, tn_0, tn_1, tn_2, tn_3, tn_4, tn_5, tn_6, tn_7]
  refine ⟨fun e0 => ?_, fun e0 => ⟨fun e1 => ?_, fun e1 => ⟨fun e2 => ?_, fun e2 => ⟨fun e3 => ?_, fun e3 => ⟨fun e4 => ?_, fun e4 => ⟨fun e5 => ?_, fun e5 => ?_⟩⟩⟩⟩⟩⟩
  · rw [if_pos e0]
    refine J_blk a_X6_state_40 ?_
    simp only [b_X6_state_40, w_aload_n0, w_getf6, ne0_1, w_iconst_1, w_iald, w_ireti, kd_46, kd_47, kd_48, kd_49, kd_50, kd_51, kd_52, kd_53, kd_54, kd_55, kd_56, kd_57, kd_58, kd_59, ln_47, ln_48, ln_49, ln_50, ln_51, ln_52, ln_53, ln_54, ln_55, ln_56, ln_57, ln_58, ln_59, Option.toList_some, Option.toList_none, List.cons_append, List.nil_append, true_and, and_true, if_true, if_false, true_or, or_true, Nat.reduceAdd, Int.reduceAdd, Bool.false_eq_true, tn_0, tn_1, tn_2, tn_3, tn_4, tn_5, tn_6, tn_7]
    refine ⟨(by first | assumption | exact vlit (by decide) | omega | simp_all), ?_⟩
    first | exact ⟨rfl, rfl⟩ | (simp_all [Rt])
  · rw [if_neg e0, if_pos e1]
    refine J_blk a_X6_state_47 ?_
    simp only [b_X6_state_47, w_aload_n0, w_getf6, ne0_1, w_iconst_3, w_iald, w_ireti, kd_46, kd_47, kd_48, kd_49, kd_50, kd_51, kd_52, kd_53, kd_54, kd_55, kd_56, kd_57, kd_58, kd_59, ln_47, ln_48, ln_49, ln_50, ln_51, ln_52, ln_53, ln_54, ln_55, ln_56, ln_57, ln_58, ln_59, Option.toList_some, Option.toList_none, List.cons_append, List.nil_append, true_and, and_true, if_true, if_false, true_or, or_true, Nat.reduceAdd, Int.reduceAdd, Bool.false_eq_true, tn_0, tn_1, tn_2, tn_3, tn_4, tn_5, tn_6, tn_7]
    refine ⟨(by first | assumption | exact vlit (by decide) | omega | simp_all), ?_⟩
    first | exact ⟨rfl, rfl⟩ | (simp_all [Rt])
  · rw [if_neg e0, if_neg e1, if_pos e2]
    refine J_blk a_X6_state_54 ?_
    simp only [b_X6_state_54, w_aload_n0, w_nil, kd_46, kd_47, kd_48, kd_49, kd_50, kd_51, kd_52, kd_53, kd_54, kd_55, kd_56, kd_57, kd_58, kd_59, ln_47, ln_48, ln_49, ln_50, ln_51, ln_52, ln_53, ln_54, ln_55, ln_56, ln_57, ln_58, ln_59, Option.toList_some, Option.toList_none, List.cons_append, List.nil_append, true_and, and_true, if_true, if_false, true_or, or_true, Nat.reduceAdd, Int.reduceAdd, Bool.false_eq_true, tn_0, tn_1, tn_2, tn_3, tn_4, tn_5, tn_6, tn_7]
    refine J_callVr (ci := 6) (standing_ok n _ hw) k_X6_state_55 o_X6_standing rfl rfl rfl rfl (by decide) rfl (Nat.le_of_ble_eq_true rfl) ?_
    refine J_blk a_X6_state_58 ?_
    simp only [b_X6_state_58, w_ireti, kd_46, kd_47, kd_48, kd_49, kd_50, kd_51, kd_52, kd_53, kd_54, kd_55, kd_56, kd_57, kd_58, kd_59, ln_47, ln_48, ln_49, ln_50, ln_51, ln_52, ln_53, ln_54, ln_55, ln_56, ln_57, ln_58, ln_59, Option.toList_some, Option.toList_none, List.cons_append, List.nil_append, true_and, and_true, if_true, if_false, true_or, or_true, Nat.reduceAdd, Int.reduceAdd, Bool.false_eq_true, tn_0, tn_1, tn_2, tn_3, tn_4, tn_5, tn_6, tn_7]
    first | exact ⟨rfl, rfl⟩ | (simp_all [Rt])
  · rw [if_neg e0, if_neg e1, if_neg e2, if_pos e3]
    refine J_blk a_X6_state_59 ?_
    simp only [b_X6_state_59, w_aload_n0, w_nil, kd_46, kd_47, kd_48, kd_49, kd_50, kd_51, kd_52, kd_53, kd_54, kd_55, kd_56, kd_57, kd_58, kd_59, ln_47, ln_48, ln_49, ln_50, ln_51, ln_52, ln_53, ln_54, ln_55, ln_56, ln_57, ln_58, ln_59, Option.toList_some, Option.toList_none, List.cons_append, List.nil_append, true_and, and_true, if_true, if_false, true_or, or_true, Nat.reduceAdd, Int.reduceAdd, Bool.false_eq_true, tn_0, tn_1, tn_2, tn_3, tn_4, tn_5, tn_6, tn_7]
    refine J_callVr (ci := 6) (cutOnes_ok n _ hw) k_X6_state_60 o_X6_cutOnes rfl rfl rfl rfl (by decide) rfl (Nat.le_of_ble_eq_true rfl) ?_
    refine J_blk a_X6_state_63 ?_
    simp only [b_X6_state_63, w_ireti, kd_46, kd_47, kd_48, kd_49, kd_50, kd_51, kd_52, kd_53, kd_54, kd_55, kd_56, kd_57, kd_58, kd_59, ln_47, ln_48, ln_49, ln_50, ln_51, ln_52, ln_53, ln_54, ln_55, ln_56, ln_57, ln_58, ln_59, Option.toList_some, Option.toList_none, List.cons_append, List.nil_append, true_and, and_true, if_true, if_false, true_or, or_true, Nat.reduceAdd, Int.reduceAdd, Bool.false_eq_true, tn_0, tn_1, tn_2, tn_3, tn_4, tn_5, tn_6, tn_7]
    first | exact ⟨rfl, rfl⟩ | (simp_all [Rt])
  · rw [if_neg e0, if_neg e1, if_neg e2, if_neg e3, if_pos e4]
    refine J_blk a_X6_state_64 ?_
    simp only [b_X6_state_64, w_aload_n0, w_nil, kd_46, kd_47, kd_48, kd_49, kd_50, kd_51, kd_52, kd_53, kd_54, kd_55, kd_56, kd_57, kd_58, kd_59, ln_47, ln_48, ln_49, ln_50, ln_51, ln_52, ln_53, ln_54, ln_55, ln_56, ln_57, ln_58, ln_59, Option.toList_some, Option.toList_none, List.cons_append, List.nil_append, true_and, and_true, if_true, if_false, true_or, or_true, Nat.reduceAdd, Int.reduceAdd, Bool.false_eq_true, tn_0, tn_1, tn_2, tn_3, tn_4, tn_5, tn_6, tn_7]
    refine J_callVr (ci := 6) (forceOfAll_ok n _ hw) k_X6_state_65 o_X6_forceOfAll rfl rfl rfl rfl (by decide) rfl (Nat.le_of_ble_eq_true rfl) ?_
    refine J_blk a_X6_state_68 ?_
    simp only [b_X6_state_68, w_ireti, kd_46, kd_47, kd_48, kd_49, kd_50, kd_51, kd_52, kd_53, kd_54, kd_55, kd_56, kd_57, kd_58, kd_59, ln_47, ln_48, ln_49, ln_50, ln_51, ln_52, ln_53, ln_54, ln_55, ln_56, ln_57, ln_58, ln_59, Option.toList_some, Option.toList_none, List.cons_append, List.nil_append, true_and, and_true, if_true, if_false, true_or, or_true, Nat.reduceAdd, Int.reduceAdd, Bool.false_eq_true, tn_0, tn_1, tn_2, tn_3, tn_4, tn_5, tn_6, tn_7]
    first | exact ⟨rfl, rfl⟩ | (simp_all [Rt])
  · rw [if_neg e0, if_neg e1, if_neg e2, if_neg e3, if_neg e4, if_pos e5]
    refine J_blk a_X6_state_69 ?_
    simp only [b_X6_state_69, w_aload_n0, w_nil, kd_46, kd_47, kd_48, kd_49, kd_50, kd_51, kd_52, kd_53, kd_54, kd_55, kd_56, kd_57, kd_58, kd_59, ln_47, ln_48, ln_49, ln_50, ln_51, ln_52, ln_53, ln_54, ln_55, ln_56, ln_57, ln_58, ln_59, Option.toList_some, Option.toList_none, List.cons_append, List.nil_append, true_and, and_true, if_true, if_false, true_or, or_true, Nat.reduceAdd, Int.reduceAdd, Bool.false_eq_true, tn_0, tn_1, tn_2, tn_3, tn_4, tn_5, tn_6, tn_7]
    refine J_callVr (ci := 6) (burntOnes_ok n _ hw) k_X6_state_70 o_X6_burntOnes rfl rfl rfl rfl (by decide) rfl (Nat.le_of_ble_eq_true rfl) ?_
    refine J_blk a_X6_state_73 ?_
    simp only [b_X6_state_73, w_ireti, kd_46, kd_47, kd_48, kd_49, kd_50, kd_51, kd_52, kd_53, kd_54, kd_55, kd_56, kd_57, kd_58, kd_59, ln_47, ln_48, ln_49, ln_50, ln_51, ln_52, ln_53, ln_54, ln_55, ln_56, ln_57, ln_58, ln_59, Option.toList_some, Option.toList_none, List.cons_append, List.nil_append, true_and, and_true, if_true, if_false, true_or, or_true, Nat.reduceAdd, Int.reduceAdd, Bool.false_eq_true, tn_0, tn_1, tn_2, tn_3, tn_4, tn_5, tn_6, tn_7]
    first | exact ⟨rfl, rfl⟩ | (simp_all [Rt])
  · rw [if_neg e0, if_neg e1, if_neg e2, if_neg e3, if_neg e4, if_neg e5]
    refine J_blk a_X6_state_74 ?_
    simp only [b_X6_state_74, w_iconst_m1, w_ireti, kd_46, kd_47, kd_48, kd_49, kd_50, kd_51, kd_52, kd_53, kd_54, kd_55, kd_56, kd_57, kd_58, kd_59, ln_47, ln_48, ln_49, ln_50, ln_51, ln_52, ln_53, ln_54, ln_55, ln_56, ln_57, ln_58, ln_59, Option.toList_some, Option.toList_none, List.cons_append, List.nil_append, true_and, and_true, if_true, if_false, true_or, or_true, Nat.reduceAdd, Int.reduceAdd, Bool.false_eq_true, tn_0, tn_1, tn_2, tn_3, tn_4, tn_5, tn_6, tn_7]
    first | exact ⟨rfl, rfl⟩ | (simp_all [Rt])

