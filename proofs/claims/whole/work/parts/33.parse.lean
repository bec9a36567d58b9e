/-! the model: the tree that is told -/
theorem nd_row {t : Nat → Nat} {L : Nat} {b : Bool} {st : Ps} : (ndS t L b st).2.2 = st.2.2 := by
  unfold ndS
  split <;> rfl
theorem nu_row0 {t : Nat → Nat} {L at_ : Nat} {most : Int32} {st : Ps} {j : Nat} (h : j ≠ at_) : (nuS t L at_ most st).2.2 j = st.2.2 j := by
  unfold nuS
  rw [nd_row]
  show (if st.2.1 = false ∧ nuB t L st.1 most = true then upd st.2.2 at_ (nI (vl t L st.1)) else st.2.2) j = st.2.2 j
  split
  · exact pk_un h
  · rfl
theorem ph_row0 {t : Nat → Nat} {L at_ : Nat} {b : Bool} {most : Int32} {st : Ps} {j : Nat} (h : j ≠ at_) : (phS t L b at_ most st).2.2 j = st.2.2 j := by
  unfold phS
  split
  · exact nu_row0 (st := (nx t L st.1, st.2)) h
  · rfl
theorem on_row0 {t : Nat → Nat} {L n : Nat} {st : Ps} {j : Nat} (h : j ≠ 8 + 6 * n + 1) : (onS t L n st).2.2 j = st.2.2 j := by
  unfold onS
  split
  · show upd _ _ _ j = _
    rw [pk_un h]
    exact nu_row0 (st := (nx t L st.1, st.2)) h
  · rfl
theorem cu_row0 {t : Nat → Nat} {L n : Nat} {st : Ps} {j : Nat} (h : j ≠ 8 + 6 * n + 4) : (cuS t L n st).2.2 j = st.2.2 j := by
  unfold cuS
  split
  · exact pk_un h
  · rfl
theorem cuS_w {t : Nat → Nat} {L n : Nat} {st : Ps} (h : (cuS t L n st).2.1 = false) : st.2.1 = false := by
  unfold cuS at h
  split at h <;> exact h
theorem bhS_w {t : Nat → Nat} {L n k : Nat} {st : Ps} (h : (bhS t L n k st).2.1 = false) : (bgS t L n k st).2.1 = false := onS_w (phS_w (phS_w (cuS_w h)))
theorem bhS_row0 {t : Nat → Nat} {L n k : Nat} {st : Ps} (h : (bhS t L n k st).2.1 = false) : n < 8 ∧ (bhS t L n k st).2.2 0 = nI (n + 1) := by
  have hb := bhS_w h
  refine ⟨(bgS_w hb).1, ?_⟩
  unfold bhS
  rw [cu_row0 (by omega)]
  unfold agS
  rw [ph_row0 (by omega)]
  unfold frS
  rw [ph_row0 (by omega), on_row0 (by omega)]
  unfold bgS at hb ⊢
  split at hb
  · next c =>
    rw [if_pos c]
    simp [upd]
  · next c => exact absurd hb c
theorem itS_row0 {t : Nat → Nat} {L n : Nat} {st : Ps} (hn : n ≤ 8) (h0 : st.2.2 0 = nI n) (h : (itS t L n st).2.1 = false) : ∃ m, m ≤ 8 ∧ (itS t L n st).2.2 0 = nI m := by
  rw [itS_mi] at h ⊢
  rw [nd_row]
  have hm := ndS_w h
  unfold miS at hm ⊢
  split at hm
  · next c =>
    rw [if_pos c]
    obtain ⟨a, b⟩ := bhS_row0 hm
    exact ⟨n + 1, by omega, b⟩
  · next c =>
    rw [if_neg c]
    split at hm
    · next d =>
      rw [if_pos d]
      obtain ⟨a, ha, ha2, ea⟩ := laH_rng t L st.1 d
      rw [nu_row0 (by rw [ea, nI_clamp (by omega)]; omega)]
      exact ⟨n, hn, h0⟩
    · next d =>
      rw [if_neg d, nd_row]
      exact ⟨n, hn, h0⟩
theorem itS_le {t : Nat → Nat} {L n : Nat} {st : Ps} (h : st.1 ≤ L) : (itS t L n st).1 ≤ L := by
  rw [itS_mi]
  exact ndS_le (miS_le h).1
def trF (t : Nat → Nat) (L : Nat) : Nat → Ps → Ps
  | 0, st => st
  | f + 1, st => if st.2.1 = true ∨ st.1 = L then st else trF t L f (itS t L (st.2.2 0).toNatClampNeg st)
def trS (t : Nat → Nat) (L : Nat) (s : Nat → Int32) : Ps := trF t L 201 (skp t L 0, false, begS s)
def TrP (t : Nat → Nat) (L : Nat) (M : Mm) (r : Option Value) (M' : Mm) : Prop :=
  (∀ c j, c ≠ 46 → c ≠ 47 → c ≠ 50 → M'.1 c j = M.1 c j) ∧ M'.2 = M.2 ∧ (∀ k, (k < 6 ∨ 11 < k) → k ≠ 13 → M'.1 46 k = M.1 46 k) ∧ M'.1 46 6 = 0
  ∧ ((trS t L (M.1 47)).2.1 = true → r = some (.int (-100 - nI (trS t L (M.1 47)).1)) ∧ (∀ j, j < 56 → M'.1 47 j = M.1 47 j) ∧ M'.1 46 13 = M.1 46 13)
  ∧ ((trS t L (M.1 47)).2.1 = false → r = some (.int ((trS t L (M.1 47)).2.2 0)) ∧ M'.1 47 = (trS t L (M.1 47)).2.2 ∧ M'.1 46 13 = 0)
theorem mtree_ok (t : Nat → Nat) (L : Nat) (M : Mm) (h : TP M t L) : K 7 mX6_tree [.ref 46] M (TrP t L M) := by
  have hb := h.2.2.1
  have hL := h.2.1
  generalize hM1 : su M 50 (cpN (M.1 47) (M.1 50) 56) = M1
  have hTP1 : TP M1 t L := by
    subst hM1
    refine ⟨by rw [su_ne _ _ _ _ (by decide)]; exact h.1, h.2.1, h.2.2.1, fun i hi => ?_⟩
    rw [su_ne _ _ _ _ (by decide)]
    exact h.2.2.2 i hi
  have m47 : M1.1 47 = M.1 47 := by subst hM1; exact su_ne _ _ _ _ (by decide)
  have m46 : M1.1 46 = M.1 46 := by subst hM1; exact su_ne _ _ _ _ (by decide)
  have last : ∀ st : Ps, st = trS t L (M.1 47) → st.1 ≤ L → J 7 mX6_tree 50 [some (.ref 46)] [] (PMs t L M1 st) (TrP t L M) := by
    intro st hst hle
    have e11 : (u1 (PMs t L M1 st) 46 6 0).1 46 11 = bI st.2.1 := by simp [u1]; exact PM_11
    have o46 : ∀ k, (k < 6 ∨ 11 < k) → (u1 (PMs t L M1 st) 46 6 0).1 46 k = M.1 46 k := by
      intro k hk
      have k6 : k ≠ 6 := by omega
      simp only [u1]
      simp only [k6, and_false, if_false]
      rw [PM_46, m46]
      unfold pF tkF
      rw [if_neg (by omega), if_neg (by omega), if_neg (by omega), if_neg (by omega), if_neg (by omega)]
    have oc : ∀ c j, c ≠ 46 → c ≠ 47 → c ≠ 50 → (u1 (PMs t L M1 st) 46 6 0).1 c j = M.1 c j := by
      intro c j h1 h2 h3
      rw [u1_o _ _ _ _ h1, PM_o h1 h2]
      subst hM1
      rw [su_ne _ _ _ _ h3]
    have o2 : (u1 (PMs t L M1 st) 46 6 0).2 = M.2 := by subst hM1; rfl
    have e8 : (u1 (PMs t L M1 st) 46 6 0).1 46 8 = nI st.1 := by simp [u1]; exact PM_8
    have e47 : (u1 (PMs t L M1 st) 46 6 0).1 47 = st.2.2 := by rw [u1_o _ _ _ _ (by decide), PM_47]
    have e50 : (u1 (PMs t L M1 st) 46 6 0).1 50 = cpN (M.1 47) (M.1 50) 56 := by rw [u1_o _ _ _ _ (by decide), PM_o (by decide) (by decide)]; subst hM1; exact su_at _ _ _
    have e6 : (u1 (PMs t L M1 st) 46 6 0).1 46 6 = 0 := by simp [u1]
    have e13 := o46 13 (by omega)
    have trp : TrP t L M = TrP t L M := rfl
    refine J_blk a_X6_tree_50 ?_
    simp only [b_X6_tree_50, w_aload_n0, w_iconst_0, w_putf6, w_getf6, w_if_eq, w_nil, kd_46, kd_47, kd_48, kd_49, kd_50, kd_51, kd_52, kd_53, kd_54, kd_55, kd_56, kd_57, kd_58, kd_59, ln_47, ln_48, ln_49, ln_50, ln_51, ln_52, ln_53, ln_54, ln_55, ln_56, ln_57, ln_58, ln_59, Option.toList_some, Option.toList_none, List.cons_append, List.nil_append, true_and, and_true, if_true, if_false, true_or, or_true, Nat.reduceAdd, Int.reduceAdd, Bool.false_eq_true, tn_0, tn_1, tn_2, tn_3, tn_4, tn_5, tn_6, tn_7, e11]
    generalize u1 (PMs t L M1 st) 46 6 0 = N at *
    refine ⟨fun c => ?_, fun c => ?_⟩
    · have hw : st.2.1 = false := by cases hh : st.2.1 <;> simp [hh, bI] at c ⊢
      have e47' : (u1 N 46 13 0).1 47 = st.2.2 := by rw [u1_o _ _ _ _ (by decide), e47]
      refine J_blk a_X6_tree_81 ?_
      simp only [b_X6_tree_81, w_aload_n0, w_iconst_0, w_putf6, w_getf6, ne0_1, w_iald, w_ireti, kd_46, kd_47, kd_48, kd_49, kd_50, kd_51, kd_52, kd_53, kd_54, kd_55, kd_56, kd_57, kd_58, kd_59, ln_47, ln_48, ln_49, ln_50, ln_51, ln_52, ln_53, ln_54, ln_55, ln_56, ln_57, ln_58, ln_59, Option.toList_some, Option.toList_none, List.cons_append, List.nil_append, true_and, and_true, if_true, if_false, true_or, or_true, Nat.reduceAdd, Int.reduceAdd, Bool.false_eq_true, tn_0, tn_1, tn_2, tn_3, tn_4, tn_5, tn_6, tn_7, e47']
      refine ⟨vlit (by decide), ?_⟩
      unfold TrP
      rw [← hst]
      refine ⟨fun c j h1 h2 h3 => by rw [u1_o _ _ _ _ h1]; exact oc c j h1 h2 h3, o2, fun k h1 h2 => by simp only [u1, h2, and_false, if_false]; exact o46 k h1, by simp [u1, e6], fun q => absurd q (by rw [hw]; decide), fun _ => ⟨rfl, e47', by simp [u1]⟩⟩
    · have hw : st.2.1 = true := by cases hh : st.2.1 <;> simp [hh, bI] at c ⊢
      refine J_blk a_X6_tree_62 ?_
      simp only [b_X6_tree_62, w_aload_n0, w_getf6, ne0_4, ne0_1, w_nil, kd_46, kd_47, kd_48, kd_49, kd_50, kd_51, kd_52, kd_53, kd_54, kd_55, kd_56, kd_57, kd_58, kd_59, ln_47, ln_48, ln_49, ln_50, ln_51, ln_52, ln_53, ln_54, ln_55, ln_56, ln_57, ln_58, ln_59, Option.toList_some, Option.toList_none, List.cons_append, List.nil_append, true_and, and_true, if_true, if_false, true_or, or_true, Nat.reduceAdd, Int.reduceAdd, Bool.false_eq_true, tn_0, tn_1, tn_2, tn_3, tn_4, tn_5, tn_6, tn_7]
      refine J_callSr (copyRow_ok 50 47 _ rfl rfl rfl rfl (by decide)) k_X6_tree_70 o_X6_copyRow rfl (by decide) rfl (Nat.le_of_ble_eq_true rfl) ?_
      have e8' : (su N 47 (cpN (N.1 50) (N.1 47) 56)).1 46 8 = nI st.1 := by rw [su_ne _ _ _ _ (by decide)]; exact e8
      refine J_blk a_X6_tree_73 ?_
      simp only [b_X6_tree_73, w_bipush, ci_m100, w_aload_n0, w_getf6, w_isub, w_ireti, kd_46, kd_47, kd_48, kd_49, kd_50, kd_51, kd_52, kd_53, kd_54, kd_55, kd_56, kd_57, kd_58, kd_59, ln_47, ln_48, ln_49, ln_50, ln_51, ln_52, ln_53, ln_54, ln_55, ln_56, ln_57, ln_58, ln_59, Option.toList_some, Option.toList_none, List.cons_append, List.nil_append, true_and, and_true, if_true, if_false, true_or, or_true, Nat.reduceAdd, Int.reduceAdd, Bool.false_eq_true, tn_0, tn_1, tn_2, tn_3, tn_4, tn_5, tn_6, tn_7, e8']
      unfold TrP
      rw [← hst]
      refine ⟨fun c j h1 h2 h3 => by rw [su_ne _ _ _ _ h2]; exact oc c j h1 h2 h3, o2, fun k h1 h2 => by rw [su_ne _ _ _ _ (by decide)]; exact o46 k h1, by rw [su_ne _ _ _ _ (by decide)]; exact e6, fun _ => ⟨rfl, fun j hj => by rw [su_at, e50]; simp [cpN, hj], by rw [su_ne _ _ _ _ (by decide)]; exact e13⟩, fun q => absurd q (by rw [hw]; decide)⟩
  have loop : ∀ (f : Nat) (st : Ps), st.1 ≤ L → (st.2.1 = false → ∃ n, n ≤ 8 ∧ st.2.2 0 = nI n) → (st.2.1 = true ∨ L < f + st.1) → trF t L f st = trS t L (M.1 47) → J 7 mX6_tree 29 [some (.ref 46)] [] (PMs t L M1 st) (TrP t L M) := by
    intro f
    induction f with
    | zero =>
      intro st hle _ hf htr
      have hw : st.2.1 = true := by rcases hf with q | q; exact q; omega
      refine J_blk a_X6_tree_29 ?_
      simp only [b_X6_tree_29, w_aload_n0, w_getf6, w_if_ne, w_nil, kd_46, kd_47, kd_48, kd_49, kd_50, kd_51, kd_52, kd_53, kd_54, kd_55, kd_56, kd_57, kd_58, kd_59, ln_47, ln_48, ln_49, ln_50, ln_51, ln_52, ln_53, ln_54, ln_55, ln_56, ln_57, ln_58, ln_59, Option.toList_some, Option.toList_none, List.cons_append, List.nil_append, true_and, and_true, if_true, if_false, true_or, or_true, Nat.reduceAdd, Int.reduceAdd, Bool.false_eq_true, tn_0, tn_1, tn_2, tn_3, tn_4, tn_5, tn_6, tn_7, PM_11, hw]
      exact ⟨fun _ => last st htr hle, fun c => absurd c (by decide)⟩
    | succ f ih =>
      intro st hle hn hf htr
      rw [trF] at htr
      by_cases hw : st.2.1 = true
      · rw [if_pos (Or.inl hw)] at htr
        refine J_blk a_X6_tree_29 ?_
        simp only [b_X6_tree_29, w_aload_n0, w_getf6, w_if_ne, w_nil, kd_46, kd_47, kd_48, kd_49, kd_50, kd_51, kd_52, kd_53, kd_54, kd_55, kd_56, kd_57, kd_58, kd_59, ln_47, ln_48, ln_49, ln_50, ln_51, ln_52, ln_53, ln_54, ln_55, ln_56, ln_57, ln_58, ln_59, Option.toList_some, Option.toList_none, List.cons_append, List.nil_append, true_and, and_true, if_true, if_false, true_or, or_true, Nat.reduceAdd, Int.reduceAdd, Bool.false_eq_true, tn_0, tn_1, tn_2, tn_3, tn_4, tn_5, tn_6, tn_7, PM_11, hw]
        exact ⟨fun _ => last st htr hle, fun c => absurd c (by decide)⟩
      · have hw0 : st.2.1 = false := (Bool.not_eq_true _).mp hw
        have hlt : L < f + 1 + st.1 := by rcases hf with q | q; exact absurd q hw; exact q
        obtain ⟨n, hn8, h0⟩ := hn hw0
        refine J_blk a_X6_tree_29 ?_
        simp only [b_X6_tree_29, w_aload_n0, w_getf6, w_if_ne, w_nil, kd_46, kd_47, kd_48, kd_49, kd_50, kd_51, kd_52, kd_53, kd_54, kd_55, kd_56, kd_57, kd_58, kd_59, ln_47, ln_48, ln_49, ln_50, ln_51, ln_52, ln_53, ln_54, ln_55, ln_56, ln_57, ln_58, ln_59, Option.toList_some, Option.toList_none, List.cons_append, List.nil_append, true_and, and_true, if_true, if_false, true_or, or_true, Nat.reduceAdd, Int.reduceAdd, Bool.false_eq_true, tn_0, tn_1, tn_2, tn_3, tn_4, tn_5, tn_6, tn_7, PM_11, hw0]
        refine ⟨fun c => absurd rfl c, fun _ => ?_⟩
        by_cases he : st.1 = L
        · rw [if_pos (Or.inr he)] at htr
          have ek : knd t L st.1 = 0 := by unfold knd; rw [if_neg (by omega)]
          refine J_blk a_X6_tree_36 ?_
          simp only [b_X6_tree_36, w_aload_n0, w_getf6, w_if_eq, w_nil, kd_46, kd_47, kd_48, kd_49, kd_50, kd_51, kd_52, kd_53, kd_54, kd_55, kd_56, kd_57, kd_58, kd_59, ln_47, ln_48, ln_49, ln_50, ln_51, ln_52, ln_53, ln_54, ln_55, ln_56, ln_57, ln_58, ln_59, Option.toList_some, Option.toList_none, List.cons_append, List.nil_append, true_and, and_true, if_true, if_false, true_or, or_true, Nat.reduceAdd, Int.reduceAdd, Bool.false_eq_true, tn_0, tn_1, tn_2, tn_3, tn_4, tn_5, tn_6, tn_7, PM_7, ek]
          exact ⟨fun _ => last st htr hle, fun c => absurd rfl c⟩
        · rw [if_neg (fun q => q.elim hw he), h0, nI_clamp (by omega)] at htr
          have hk : 0 < knd t L st.1 ∧ knd t L st.1 ≤ 3 := by unfold knd; rw [if_pos (by omega)]; split <;> (try split) <;> omega
          have ek : ¬ nI (knd t L st.1) = 0 := nI_ne0 hk.1 (by omega)
          refine J_blk a_X6_tree_36 ?_
          simp only [b_X6_tree_36, w_aload_n0, w_getf6, w_if_eq, w_nil, kd_46, kd_47, kd_48, kd_49, kd_50, kd_51, kd_52, kd_53, kd_54, kd_55, kd_56, kd_57, kd_58, kd_59, ln_47, ln_48, ln_49, ln_50, ln_51, ln_52, ln_53, ln_54, ln_55, ln_56, ln_57, ln_58, ln_59, Option.toList_some, Option.toList_none, List.cons_append, List.nil_append, true_and, and_true, if_true, if_false, true_or, or_true, Nat.reduceAdd, Int.reduceAdd, Bool.false_eq_true, tn_0, tn_1, tn_2, tn_3, tn_4, tn_5, tn_6, tn_7, PM_7]
          refine ⟨fun c => absurd c ek, fun _ => ?_⟩
          refine J_blk a_X6_tree_43 ?_
          simp only [b_X6_tree_43, w_aload_n0, w_nil, kd_46, kd_47, kd_48, kd_49, kd_50, kd_51, kd_52, kd_53, kd_54, kd_55, kd_56, kd_57, kd_58, kd_59, ln_47, ln_48, ln_49, ln_50, ln_51, ln_52, ln_53, ln_54, ln_55, ln_56, ln_57, ln_58, ln_59, Option.toList_some, Option.toList_none, List.cons_append, List.nil_append, true_and, and_true, if_true, if_false, true_or, or_true, Nat.reduceAdd, Int.reduceAdd, Bool.false_eq_true, tn_0, tn_1, tn_2, tn_3, tn_4, tn_5, tn_6, tn_7]
          refine J_callVr (ci := 6) (itemHere_ok t L n M1 st hTP1 hle h0 hn8) k_X6_tree_44 o_X6_itemHere rfl rfl rfl rfl (by decide) rfl (Nat.le_of_ble_eq_true rfl) ?_
          refine J_blk a_X6_tree_47 ?_
          simp only [b_X6_tree_47, w_goto, kd_46, kd_47, kd_48, kd_49, kd_50, kd_51, kd_52, kd_53, kd_54, kd_55, kd_56, kd_57, kd_58, kd_59, ln_47, ln_48, ln_49, ln_50, ln_51, ln_52, ln_53, ln_54, ln_55, ln_56, ln_57, ln_58, ln_59, Option.toList_some, Option.toList_none, List.cons_append, List.nil_append, true_and, and_true, if_true, if_false, true_or, or_true, Nat.reduceAdd, Int.reduceAdd, Bool.false_eq_true, tn_0, tn_1, tn_2, tn_3, tn_4, tn_5, tn_6, tn_7]
          refine ih _ (itS_le hle) (fun e => itS_row0 hn8 h0 e) ?_ htr
          cases hh : (itS t L n st).2.1
          · have := itS_lt (t := t) (n := n) hle hh
            exact Or.inr (by omega)
          · exact Or.inl rfl
  refine K_go 0 o_X6_tree [] rfl (Nat.le_of_ble_eq_true rfl) ?_
  simp only [lvA_i, lvA_a, lvA_l, lvA_nil, List.cons_append, List.nil_append]
  refine J_blk a_X6_tree_0 ?_
  simp only [b_X6_tree_0, w_aload_n0, w_getf6, ne0_1, ne0_4, w_nil, kd_46, kd_47, kd_48, kd_49, kd_50, kd_51, kd_52, kd_53, kd_54, kd_55, kd_56, kd_57, kd_58, kd_59, ln_47, ln_48, ln_49, ln_50, ln_51, ln_52, ln_53, ln_54, ln_55, ln_56, ln_57, ln_58, ln_59, Option.toList_some, Option.toList_none, List.cons_append, List.nil_append, true_and, and_true, if_true, if_false, true_or, or_true, Nat.reduceAdd, Int.reduceAdd, Bool.false_eq_true, tn_0, tn_1, tn_2, tn_3, tn_4, tn_5, tn_6, tn_7]
  refine J_callSr (copyRow_ok 47 50 M rfl rfl rfl rfl (by decide)) k_X6_tree_8 o_X6_copyRow rfl (by decide) rfl (Nat.le_of_ble_eq_true rfl) ?_
  rw [hM1]
  refine J_blk a_X6_tree_11 ?_
  simp only [b_X6_tree_11, w_aload_n0, w_nil, kd_46, kd_47, kd_48, kd_49, kd_50, kd_51, kd_52, kd_53, kd_54, kd_55, kd_56, kd_57, kd_58, kd_59, ln_47, ln_48, ln_49, ln_50, ln_51, ln_52, ln_53, ln_54, ln_55, ln_56, ln_57, ln_58, ln_59, Option.toList_some, Option.toList_none, List.cons_append, List.nil_append, true_and, and_true, if_true, if_false, true_or, or_true, Nat.reduceAdd, Int.reduceAdd, Bool.false_eq_true, tn_0, tn_1, tn_2, tn_3, tn_4, tn_5, tn_6, tn_7]
  refine J_callVr (ci := 6) (begins_ok M1) k_X6_tree_12 o_X6_begins rfl rfl rfl rfl (by decide) rfl (Nat.le_of_ble_eq_true rfl) ?_
  refine J_blk a_X6_tree_15 ?_
  simp only [b_X6_tree_15, w_aload_n0, w_iconst_0, w_putf6, w_putb6, w_nil, kd_46, kd_47, kd_48, kd_49, kd_50, kd_51, kd_52, kd_53, kd_54, kd_55, kd_56, kd_57, kd_58, kd_59, ln_47, ln_48, ln_49, ln_50, ln_51, ln_52, ln_53, ln_54, ln_55, ln_56, ln_57, ln_58, ln_59, Option.toList_some, Option.toList_none, List.cons_append, List.nil_append, true_and, and_true, if_true, if_false, true_or, or_true, Nat.reduceAdd, Int.reduceAdd, Bool.false_eq_true, tn_0, tn_1, tn_2, tn_3, tn_4, tn_5, tn_6, tn_7]
  have tp2 : TP (u1 (u1 (su M1 47 (begS (M1.1 47))) 46 9 0) 46 11 0) t L := by
    refine ⟨by simp [u1]; rw [su_ne _ _ _ _ (by decide)]; exact hTP1.1, hL, hb, fun i hi => ?_⟩
    rw [u1_o _ _ _ _ (by decide), u1_o _ _ _ _ (by decide), su_ne _ _ _ _ (by decide)]
    exact hTP1.2.2.2 i hi
  refine J_callVr (ci := 6) (nextToken_ok t L 0 _ tp2 (by omega) (by simp [u1]; rfl)) k_X6_tree_26 o_X6_nextToken rfl rfl rfl rfl (by decide) rfl (Nat.le_of_ble_eq_true rfl) ?_
  have e : su (u1 (u1 (su M1 47 (begS (M1.1 47))) 46 9 0) 46 11 0) 46 (tkF t L ((u1 (u1 (su M1 47 (begS (M1.1 47))) 46 9 0) 46 11 0).1 46) (skp t L 0)) = PMs t L M1 (skp t L 0, false, begS (M.1 47)) := by
    unfold PMs
    apply mmx
    · intro a j
      by_cases ha : a = 46
      · subst ha
        simp only [su, u1, pF, tkF, m47, bI]
        by_cases j11 : j = 11
        · subst j11; simp
        · by_cases j9 : j = 9
          · subst j9; simp
          · simp [j11, j9]
      · by_cases ha7 : a = 47
        · subst ha7; simp [su, u1, m47]
        · simp [su, u1, ha, ha7]
    · rfl
  rw [e]
  exact loop 201 _ (skp_le t (by omega)).1 (fun _ => ⟨0, by omega, by simp [begS]; rfl⟩) (Or.inr (by omega)) rfl

