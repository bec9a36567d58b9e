/-! the class: words, numbers, bytes that come -/
section RD
variable {M : Mm} {t : Nat → Nat} {L fr : Nat} {w : Bool}
theorem is_c (h : TS M t L fr w) {j : Nat} (hj : j < 15) : K 4 mX3_is [.ref 28, .ref (65 + j)] M (Rt (some (.int (bI (wdB t L fr (wLn j))))) M) := by
  obtain ⟨hA, hfr, x2, x3, -, -⟩ := h
  have hL := hA.2.1
  have hb := hA.2.2.1
  have h1 := te_le t hfr
  have h6 : (wLn j).length ≤ 6 := by have := wL_len j hj; omega
  have es : nI (te t L fr) - nI fr = nI (te t L fr - fr) := nI_subN h1.2
  have eq1 : (nI (te t L fr - fr) = nI (wLn j).length) = (te t L fr - fr = (wLn j).length) := propext (nI_eq (by omega) (by omega))
  have loop : te t L fr - fr = (wLn j).length → ∀ f i, i + f = te t L fr → fr ≤ i → (∀ k, fr + k < i → t (fr + k) = (wLn j).getD k 0) → J 4 mX3_is 23 [some (.ref 28), some (.ref (65 + j)), some (.int (nI i))] [] M (Rt (some (.int (bI (wdB t L fr (wLn j))))) M) := by
    intro hlen f
    induction f with
    | zero =>
      intro i hi hfi hall
      have hie : i = te t L fr := by omega
      have hw : wdB t L fr (wLn j) = true := (wd_iff _ _ _ _).mpr ⟨by omega, fun k hk => hall k (by omega)⟩
      rw [hw]
      refine J_blk a_X3_is_23 ?_
      simp only [b_X3_is_23, w_iload_n2, w_aload_n0, w_getf3, w_icmp_ge, w_nil, kd_28, kd_29, ln_29, Option.toList_some, Option.toList_none, List.cons_append, List.nil_append, true_and, and_true, if_true, if_false, true_or, or_true, Nat.reduceAdd, Int.reduceAdd, Bool.false_eq_true, tn_0, tn_1, tn_2, tn_3, tn_4, tn_5, tn_6, tn_7, x3]
      refine ⟨fun _ => ?_, fun c => absurd (nI_le (show te t L fr ≤ i by omega) (by omega)) c⟩
      refine J_blk a_X3_is_58 ?_
      simp only [b_X3_is_58, w_iconst_1, w_iretz, kd_28, kd_29, ln_29, Option.toList_some, Option.toList_none, List.cons_append, List.nil_append, true_and, and_true, if_true, if_false, true_or, or_true, Nat.reduceAdd, Int.reduceAdd, Bool.false_eq_true, tn_0, tn_1, tn_2, tn_3, tn_4, tn_5, tn_6, tn_7]
      exact ⟨rfl, rfl⟩
    | succ f ih =>
      intro i hi hfi hall
      have ti : (nI i).toNatClampNeg = i := nI_clamp (by omega)
      have xb := hA.2.2.2 i (by omega)
      have es2 : nI i - nI fr = nI (i - fr) := nI_subN hfi
      have ch := (wL_at j hj (i - fr) (by omega)).2
      have eqc : (nI (t i) = nI ((wLn j).getD (i - fr) 0)) = (t i = (wLn j).getD (i - fr) 0) := propext (nI_eq (by have := hb i; omega) (by omega))
      refine J_blk a_X3_is_23 ?_
      simp only [b_X3_is_23, w_iload_n2, w_aload_n0, w_getf3, w_icmp_ge, w_nil, kd_28, kd_29, ln_29, Option.toList_some, Option.toList_none, List.cons_append, List.nil_append, true_and, and_true, if_true, if_false, true_or, or_true, Nat.reduceAdd, Int.reduceAdd, Bool.false_eq_true, tn_0, tn_1, tn_2, tn_3, tn_4, tn_5, tn_6, tn_7, x3]
      refine ⟨fun c => absurd c (nI_ge (by omega) (by omega)), fun _ => ?_⟩
      refine J_blk a_X3_is_31 ?_
      simp only [b_X3_is_31, w_aload_n0, w_getf3, ne0_1, w_iload_n2, w_iald, w_aload_n1, w_isub, w_nil, kd_28, kd_29, ln_29, Option.toList_some, Option.toList_none, List.cons_append, List.nil_append, true_and, and_true, if_true, if_false, true_or, or_true, Nat.reduceAdd, Int.reduceAdd, Bool.false_eq_true, tn_0, tn_1, tn_2, tn_3, tn_4, tn_5, tn_6, tn_7, x2, ti, xb, es2]
      refine ⟨vinN (show i < 200 by omega) (by decide), ?_⟩
      refine J_callT hj (charAt_c hj (i - fr) (by omega)) k_X3_is_44 o_J0_charAt_5068e rfl rfl (by decide) rfl (Nat.le_of_ble_eq_true rfl) ?_
      rintro r M' ⟨rfl, rfl⟩
      refine J_blk a_X3_is_47 ?_
      simp only [b_X3_is_47, w_icmp_eq, w_nil, kd_28, kd_29, ln_29, Option.toList_some, Option.toList_none, List.cons_append, List.nil_append, true_and, and_true, if_true, if_false, true_or, or_true, Nat.reduceAdd, Int.reduceAdd, Bool.false_eq_true, tn_0, tn_1, tn_2, tn_3, tn_4, tn_5, tn_6, tn_7, eqc]
      refine ⟨fun c => ?_, fun c => ?_⟩
      · refine J_blk a_X3_is_52 ?_
        simp only [b_X3_is_52, w_iinc2, nl_2n, nl_2i, nl_2a, ci_1, w_goto, kd_28, kd_29, ln_29, Option.toList_some, Option.toList_none, List.cons_append, List.nil_append, true_and, and_true, if_true, if_false, true_or, or_true, Nat.reduceAdd, Int.reduceAdd, Bool.false_eq_true, tn_0, tn_1, tn_2, tn_3, tn_4, tn_5, tn_6, tn_7, nI_1]
        refine ih (i + 1) (by omega) (by omega) (fun k hk => ?_)
        rcases Nat.lt_or_ge (fr + k) i with q | q
        · exact hall k q
        · have hk2 : k = i - fr := by omega
          subst hk2
          rw [show fr + (i - fr) = i by omega]
          exact c
      · have hw : wdB t L fr (wLn j) = false := by
          rw [← Bool.not_eq_true]
          intro q
          have q2 := ((wd_iff _ _ _ _).mp q).2 (i - fr) (by omega)
          rw [show fr + (i - fr) = i by omega] at q2
          exact c q2
        rw [hw]
        refine J_blk a_X3_is_50 ?_
        simp only [b_X3_is_50, w_iconst_0, w_iretz, kd_28, kd_29, ln_29, Option.toList_some, Option.toList_none, List.cons_append, List.nil_append, true_and, and_true, if_true, if_false, true_or, or_true, Nat.reduceAdd, Int.reduceAdd, Bool.false_eq_true, tn_0, tn_1, tn_2, tn_3, tn_4, tn_5, tn_6, tn_7]
        exact ⟨rfl, rfl⟩
  refine K_go 1 o_X3_is [none] rfl (Nat.le_of_ble_eq_true rfl) ?_
  simp only [lvA_i, lvA_a, lvA_l, lvA_nil, List.cons_append, List.nil_append]
  refine J_blk a_X3_is_0 ?_
  simp only [b_X3_is_0, w_aload_n0, w_getf3, w_isub, w_aload_n1, w_nil, kd_28, kd_29, ln_29, Option.toList_some, Option.toList_none, List.cons_append, List.nil_append, true_and, and_true, if_true, if_false, true_or, or_true, Nat.reduceAdd, Int.reduceAdd, Bool.false_eq_true, tn_0, tn_1, tn_2, tn_3, tn_4, tn_5, tn_6, tn_7, x2, x3, es]
  refine J_callT hj (length_c hj) k_X3_is_10 o_J0_length_8abf5 rfl rfl (by decide) rfl (Nat.le_of_ble_eq_true rfl) ?_
  rintro r M' ⟨rfl, rfl⟩
  refine J_blk a_X3_is_13 ?_
  simp only [b_X3_is_13, w_icmp_eq, w_nil, kd_28, kd_29, ln_29, Option.toList_some, Option.toList_none, List.cons_append, List.nil_append, true_and, and_true, if_true, if_false, true_or, or_true, Nat.reduceAdd, Int.reduceAdd, Bool.false_eq_true, tn_0, tn_1, tn_2, tn_3, tn_4, tn_5, tn_6, tn_7, eq1]
  refine ⟨fun c => ?_, fun c => ?_⟩
  · refine J_blk a_X3_is_18 ?_
    simp only [b_X3_is_18, w_aload_n0, w_getf3, w_istore2, nl_2n, nl_2i, nl_2a, w_nil, kd_28, kd_29, ln_29, Option.toList_some, Option.toList_none, List.cons_append, List.nil_append, true_and, and_true, if_true, if_false, true_or, or_true, Nat.reduceAdd, Int.reduceAdd, Bool.false_eq_true, tn_0, tn_1, tn_2, tn_3, tn_4, tn_5, tn_6, tn_7, x2]
    exact loop c (te t L fr - fr) fr (by omega) (by omega) (fun k hk => absurd hk (by omega))
  · have hw : wdB t L fr (wLn j) = false := by
      rw [← Bool.not_eq_true]
      intro q
      have := ((wd_iff _ _ _ _).mp q).1
      omega
    rw [hw]
    refine J_blk a_X3_is_16 ?_
    simp only [b_X3_is_16, w_iconst_0, w_iretz, kd_28, kd_29, ln_29, Option.toList_some, Option.toList_none, List.cons_append, List.nil_append, true_and, and_true, if_true, if_false, true_or, or_true, Nat.reduceAdd, Int.reduceAdd, Bool.false_eq_true, tn_0, tn_1, tn_2, tn_3, tn_4, tn_5, tn_6, tn_7]
    exact ⟨rfl, rfl⟩
def pb (t : Nat → Nat) (L fr : Nat) (w : Bool) (j : Nat) : Bool := !w && wdB t L fr (wLn j)
theorem pass_c (h : TS M t L fr w) {j : Nat} (hj : j < 15) : K 5 mX3_pass [.ref 28, .ref (65 + j)] M (Rq (some (.int (bI (pb t L fr w j)))) (fun M' => TS M' t L (if pb t L fr w j = true then nx t L fr else fr) w ∧ FT M M')) := by
  have x5 := h.2.2.2.2.2
  refine K_go 1 o_X3_pass [] rfl (Nat.le_of_ble_eq_true rfl) ?_
  simp only [lvA_i, lvA_a, lvA_l, lvA_nil, List.cons_append, List.nil_append]
  refine J_blk a_X3_pass_0 ?_
  simp only [b_X3_pass_0, w_aload_n0, w_getf3, w_if_ne, w_nil, kd_28, kd_29, ln_29, Option.toList_some, Option.toList_none, List.cons_append, List.nil_append, true_and, and_true, if_true, if_false, true_or, or_true, Nat.reduceAdd, Int.reduceAdd, Bool.false_eq_true, tn_0, tn_1, tn_2, tn_3, tn_4, tn_5, tn_6, tn_7, x5]
  refine ⟨fun c => ?_, fun c => ?_⟩
  · have hw : w = true := by cases w <;> simp_all [bI]
    have e : pb t L fr w j = false := by rw [hw]; rfl
    rw [e]
    refine J_blk a_X3_pass_15 ?_
    simp only [b_X3_pass_15, w_iconst_0, w_iretz, kd_28, kd_29, ln_29, Option.toList_some, Option.toList_none, List.cons_append, List.nil_append, true_and, and_true, if_true, if_false, true_or, or_true, Nat.reduceAdd, Int.reduceAdd, Bool.false_eq_true, tn_0, tn_1, tn_2, tn_3, tn_4, tn_5, tn_6, tn_7]
    exact ⟨rfl, h, FT.refl M⟩
  · have hw : w = false := by cases w <;> simp_all [bI]
    have e : pb t L fr w j = wdB t L fr (wLn j) := by rw [hw]; rfl
    rw [e]
    refine J_blk a_X3_pass_7 ?_
    simp only [b_X3_pass_7, w_aload_n0, w_aload_n1, w_nil, kd_28, kd_29, ln_29, Option.toList_some, Option.toList_none, List.cons_append, List.nil_append, true_and, and_true, if_true, if_false, true_or, or_true, Nat.reduceAdd, Int.reduceAdd, Bool.false_eq_true, tn_0, tn_1, tn_2, tn_3, tn_4, tn_5, tn_6, tn_7]
    refine J_callVr (ci := 3) (is_c h hj) k_X3_pass_9 o_X3_is (rfl) rfl rfl rfl (by decide) rfl (Nat.le_of_ble_eq_true rfl) ?_
    by_cases q : wdB t L fr (wLn j) = true
    · rw [q]
      refine J_blk a_X3_pass_12 ?_
      simp only [b_X3_pass_12, w_if_ne, w_nil, kd_28, kd_29, ln_29, Option.toList_some, Option.toList_none, List.cons_append, List.nil_append, true_and, and_true, if_true, if_false, true_or, or_true, Nat.reduceAdd, Int.reduceAdd, Bool.false_eq_true, tn_0, tn_1, tn_2, tn_3, tn_4, tn_5, tn_6, tn_7]
      refine ⟨fun _ => ?_, fun c => absurd c (by decide)⟩
      refine J_blk a_X3_pass_17 ?_
      simp only [b_X3_pass_17, w_aload_n0, w_nil, kd_28, kd_29, ln_29, Option.toList_some, Option.toList_none, List.cons_append, List.nil_append, true_and, and_true, if_true, if_false, true_or, or_true, Nat.reduceAdd, Int.reduceAdd, Bool.false_eq_true, tn_0, tn_1, tn_2, tn_3, tn_4, tn_5, tn_6, tn_7]
      refine J_callV (ci := 3) (h.step) k_X3_pass_18 o_X3_step (rfl) rfl rfl rfl (by decide) rfl (Nat.le_of_ble_eq_true rfl) ?_
      rintro r M1 ⟨rfl, g1, g2⟩
      refine J_blk a_X3_pass_21 ?_
      simp only [b_X3_pass_21, w_iconst_1, w_iretz, kd_28, kd_29, ln_29, Option.toList_some, Option.toList_none, List.cons_append, List.nil_append, true_and, and_true, if_true, if_false, true_or, or_true, Nat.reduceAdd, Int.reduceAdd, Bool.false_eq_true, tn_0, tn_1, tn_2, tn_3, tn_4, tn_5, tn_6, tn_7]
      exact ⟨rfl, g1, g2⟩
    · rw [(Bool.not_eq_true _).mp q]
      refine J_blk a_X3_pass_12 ?_
      simp only [b_X3_pass_12, w_if_ne, w_nil, kd_28, kd_29, ln_29, Option.toList_some, Option.toList_none, List.cons_append, List.nil_append, true_and, and_true, if_true, if_false, true_or, or_true, Nat.reduceAdd, Int.reduceAdd, Bool.false_eq_true, tn_0, tn_1, tn_2, tn_3, tn_4, tn_5, tn_6, tn_7]
      refine ⟨fun c => absurd rfl c, fun _ => ?_⟩
      refine J_blk a_X3_pass_15 ?_
      simp only [b_X3_pass_15, w_iconst_0, w_iretz, kd_28, kd_29, ln_29, Option.toList_some, Option.toList_none, List.cons_append, List.nil_append, true_and, and_true, if_true, if_false, true_or, or_true, Nat.reduceAdd, Int.reduceAdd, Bool.false_eq_true, tn_0, tn_1, tn_2, tn_3, tn_4, tn_5, tn_6, tn_7]
      exact ⟨rfl, h, FT.refl M⟩
theorem TS_5 (h : TS M t L fr w) : TS (u1 M 28 5 1) t L fr true := by
  obtain ⟨hA, hfr, x2, x3, x4, -⟩ := h
  exact ⟨TA_u1 _ (by decide) hA, hfr, by rw [u1_x (Or.inr (by decide))]; exact x2, by rw [u1_x (Or.inr (by decide))]; exact x3, by rw [u1_x (Or.inr (by decide))]; exact x4, u1_at _ _ _ _⟩
theorem close_c (h : TS M t L fr w) : K 6 mX3_passClose [.ref 28] M (Rq none (fun M' => TS M' t L (if pb t L fr w 14 = true then nx t L fr else fr) (!pb t L fr w 14) ∧ FT M M')) := by
  refine K_go 0 o_X3_passClose [] rfl (Nat.le_of_ble_eq_true rfl) ?_
  simp only [lvA_i, lvA_a, lvA_l, lvA_nil, List.cons_append, List.nil_append]
  refine J_blk a_X3_passClose_0 ?_
  simp only [b_X3_passClose_0, w_aload_n0, w_ldcS, w_nil, kd_28, kd_29, ln_29, Option.toList_some, Option.toList_none, List.cons_append, List.nil_append, true_and, and_true, if_true, if_false, true_or, or_true, Nat.reduceAdd, Int.reduceAdd, Bool.false_eq_true, tn_0, tn_1, tn_2, tn_3, tn_4, tn_5, tn_6, tn_7]
  refine J_callV (ci := 3) (pass_c h (show 14 < 15 by decide)) k_X3_passClose_3 o_X3_pass (rfl) rfl rfl rfl (by decide) rfl (Nat.le_of_ble_eq_true rfl) ?_
  rintro r M1 ⟨rfl, g1, g2⟩
  by_cases q : pb t L fr w 14 = true
  · have hw : w = false := by cases w <;> simp_all [pb]
    rw [q] at g1 ⊢
    rw [hw] at g1
    refine J_blk a_X3_passClose_6 ?_
    simp only [b_X3_passClose_6, w_if_ne, w_nil, kd_28, kd_29, ln_29, Option.toList_some, Option.toList_none, List.cons_append, List.nil_append, true_and, and_true, if_true, if_false, true_or, or_true, Nat.reduceAdd, Int.reduceAdd, Bool.false_eq_true, tn_0, tn_1, tn_2, tn_3, tn_4, tn_5, tn_6, tn_7]
    refine ⟨fun _ => ?_, fun c => absurd c (by decide)⟩
    refine J_blk a_X3_passClose_14 ?_
    simp only [b_X3_passClose_14, w_vret, kd_28, kd_29, ln_29, Option.toList_some, Option.toList_none, List.cons_append, List.nil_append, true_and, and_true, if_true, if_false, true_or, or_true, Nat.reduceAdd, Int.reduceAdd, Bool.false_eq_true, tn_0, tn_1, tn_2, tn_3, tn_4, tn_5, tn_6, tn_7]
    exact ⟨rfl, g1, g2⟩
  · rw [(Bool.not_eq_true _).mp q] at g1 ⊢
    refine J_blk a_X3_passClose_6 ?_
    simp only [b_X3_passClose_6, w_if_ne, w_nil, kd_28, kd_29, ln_29, Option.toList_some, Option.toList_none, List.cons_append, List.nil_append, true_and, and_true, if_true, if_false, true_or, or_true, Nat.reduceAdd, Int.reduceAdd, Bool.false_eq_true, tn_0, tn_1, tn_2, tn_3, tn_4, tn_5, tn_6, tn_7]
    refine ⟨fun c => absurd rfl c, fun _ => ?_⟩
    refine J_blk a_X3_passClose_9 ?_
    simp only [b_X3_passClose_9, w_aload_n0, w_iconst_1, w_putb3, w_nil, kd_28, kd_29, ln_29, Option.toList_some, Option.toList_none, List.cons_append, List.nil_append, true_and, and_true, if_true, if_false, true_or, or_true, Nat.reduceAdd, Int.reduceAdd, Bool.false_eq_true, tn_0, tn_1, tn_2, tn_3, tn_4, tn_5, tn_6, tn_7]
    refine J_blk a_X3_passClose_14 ?_
    simp only [b_X3_passClose_14, w_vret, kd_28, kd_29, ln_29, Option.toList_some, Option.toList_none, List.cons_append, List.nil_append, true_and, and_true, if_true, if_false, true_or, or_true, Nat.reduceAdd, Int.reduceAdd, Bool.false_eq_true, tn_0, tn_1, tn_2, tn_3, tn_4, tn_5, tn_6, tn_7]
    exact ⟨rfl, TS_5 g1, g2.trans (FT_u1 _ _ _)⟩
theorem rn_all (p : Nat → Bool) : ∀ f i q, i ≤ q → q < rnF p t f i → p (t q) = true := by
  intro f
  induction f with
  | zero => intro i q h1 h2; rw [rnF] at h2; omega
  | succ f ih =>
    intro i q h1 h2
    rw [rnF] at h2
    split at h2
    · next c =>
      rcases Nat.lt_or_ge i q with h | h
      · exact ih (i + 1) q (by omega) h2
      · have : q = i := by omega
        rw [this]; exact c
    · omega
theorem kn_so (t : Nat → Nat) (L fr : Nat) : (srt t L fr = 1) = (knd t L fr = 2) := by
  unfold srt knd
  by_cases h : fr < L
  · rw [if_pos h, if_pos h, so_dg]
    by_cases ha : alB (t fr) = true
    · have : ¬ dgB (t fr) = true := by
        unfold alB at ha; unfold dgB
        simp only [decide_eq_true_eq] at ha ⊢
        omega
      rw [if_pos ha]
      simp [this]
    · rw [if_neg ha]
      by_cases hd : dgB (t fr) = true
      · simp [hd]
      · simp [hd]
  · rw [if_neg h, if_neg h]; simp
theorem dig (hk : knd t L fr = 2) : ∀ q, fr ≤ q → q < te t L fr → 48 ≤ t q ∧ t q ≤ 57 := by
  intro q h1 h2
  have hlt : fr < L := by
    unfold knd at hk
    split at hk
    · assumption
    · omega
  have hs : soN (t fr) = 1 := by
    have := kn_so t L fr
    unfold srt at this
    rw [if_pos hlt] at this
    rw [this]; exact hk
  have hd : dgB (t fr) = true := by rw [← so_dg]; exact hs
  have : dgB (t q) = true := by
    rcases Nat.lt_or_ge fr q with h | h
    · rw [rn_dg hlt hs] at h2
      exact rn_all dgB _ (fr + 1) q (by omega) h2
    · rw [show q = fr by omega]; exact hd
  unfold dgB at this
  simpa using this
theorem v_step (v b : Nat) (h : 48 ≤ b) : nI v * 10 + nI b - 48 = nI (10 * v + b - 48) := by
  have e1 : nI v * 10 = nI (10 * v) := by rw [Nat.mul_comm]; exact (Int32.ofNat_mul v 10).symm
  rw [e1, nI_add]
  exact nI_subN (b := 48) (by omega)
theorem vF_lt (hd : ∀ q, fr ≤ q → q < fr + 3 → q < te t L fr → 48 ≤ t q ∧ t q ≤ 57) : ∀ k, k ≤ 3 → fr + k ≤ te t L fr → vF t fr k < 10 ^ k ∧ ∀ k', k' < k → vF t fr (k' + 1) = 10 * vF t fr k' + t (fr + k') - 48 := by
  intro k
  induction k with
  | zero => intro _ _; exact ⟨by simp [vF], fun k' h => absurd h (by omega)⟩
  | succ k ih =>
    intro hk hte
    obtain ⟨a, b⟩ := ih (by omega) (by omega)
    have d := hd (fr + k) (by omega) (by omega) (by omega)
    have p2 : 10 ^ k ≤ 100 := by
      rcases (show k = 0 ∨ k = 1 ∨ k = 2 by omega) with rfl | rfl | rfl <;> decide
    have e : vF t fr (k + 1) = 10 * vF t fr k + t (fr + k) - 48 := by
      rw [vF, if_neg (by omega)]
    refine ⟨?_, fun k' h => ?_⟩
    · rw [e, Nat.pow_succ]; omega
    · rcases Nat.lt_or_ge k' k with q | q
      · exact b k' q
      · rw [show k' = k by omega]; exact e
def tkN (t : Nat → Nat) (L fr : Nat) : Int32 := if knd t L fr = 2 ∧ te t L fr - fr ≤ 3 then nI (vl t L fr) else -1
theorem token_c (h : TS M t L fr w) : K 0 mX3_tokenNumber [.ref 28] M (Rt (some (.int (tkN t L fr))) M) := by
  obtain ⟨hA, hfr, x2, x3, x4, -⟩ := h
  have hL := hA.2.1
  have hb := hA.2.2.1
  have h1 := te_le t hfr
  have es : nI (te t L fr) - nI fr = nI (te t L fr - fr) := nI_subN h1.2
  have s2 : srt t L fr ≤ 2 := by
    unfold srt
    split
    · exact soN_lt _
    · omega
  have eq1 : (nI (srt t L fr) = 1) = (srt t L fr = 1) := propext (nI_eq (b := 1) (by omega) (by decide))
  have eq3 : (nI (te t L fr - fr) ≤ 3) = (te t L fr - fr ≤ 3) := propext (nI_leI (b := 3) (by omega) (by decide))
  unfold tkN
  refine K_go 0 o_X3_tokenNumber [none, none] rfl (Nat.le_of_ble_eq_true rfl) ?_
  simp only [lvA_i, lvA_a, lvA_l, lvA_nil, List.cons_append, List.nil_append]
  refine J_blk a_X3_tokenNumber_0 ?_
  simp only [b_X3_tokenNumber_0, w_aload_n0, w_getf3, w_iconst_1, w_icmp_ne, w_nil, kd_28, kd_29, ln_29, Option.toList_some, Option.toList_none, List.cons_append, List.nil_append, true_and, and_true, if_true, if_false, true_or, or_true, Nat.reduceAdd, Int.reduceAdd, Bool.false_eq_true, tn_0, tn_1, tn_2, tn_3, tn_4, tn_5, tn_6, tn_7, x4, eq1, kn_so]
  refine ⟨fun c => ?_, fun c => ?_⟩
  · rw [if_neg (fun q => c q.1)]
    refine J_blk a_X3_tokenNumber_21 ?_
    simp only [b_X3_tokenNumber_21, w_iconst_m1, w_ireti, kd_28, kd_29, ln_29, Option.toList_some, Option.toList_none, List.cons_append, List.nil_append, true_and, and_true, if_true, if_false, true_or, or_true, Nat.reduceAdd, Int.reduceAdd, Bool.false_eq_true, tn_0, tn_1, tn_2, tn_3, tn_4, tn_5, tn_6, tn_7]
    exact ⟨rfl, rfl⟩
  · have c' : knd t L fr = 2 := c
    refine J_blk a_X3_tokenNumber_8 ?_
    simp only [b_X3_tokenNumber_8, w_aload_n0, w_getf3, w_isub, w_iconst_3, w_icmp_le, w_nil, kd_28, kd_29, ln_29, Option.toList_some, Option.toList_none, List.cons_append, List.nil_append, true_and, and_true, if_true, if_false, true_or, or_true, Nat.reduceAdd, Int.reduceAdd, Bool.false_eq_true, tn_0, tn_1, tn_2, tn_3, tn_4, tn_5, tn_6, tn_7, x2, x3, es, eq3]
    refine ⟨fun c3 => ?_, fun c3 => ?_⟩
    · rw [if_pos ⟨c', c3⟩]
      have hd := dig c'
      have ev : vl t L fr = vF t fr (te t L fr - fr) := by unfold vl; rw [if_pos c']
      obtain ⟨-, vs⟩ := vF_lt (t := t) (L := L) (fr := fr) (fun q a _ b => hd q a b) (te t L fr - fr) c3 (by omega)
      rw [ev]
      have loop : ∀ k, k ≤ te t L fr - fr → J 0 mX3_tokenNumber 30 [some (.ref 28), some (.int (nI (vF t fr k))), some (.int (nI (fr + k)))] [] M (Rt (some (.int (nI (vF t fr (te t L fr - fr))))) M) := by
        refine down _ ?_ ?_
        · refine J_blk a_X3_tokenNumber_30 ?_
          simp only [b_X3_tokenNumber_30, w_iload_n2, w_aload_n0, w_getf3, w_icmp_ge, w_nil, kd_28, kd_29, ln_29, Option.toList_some, Option.toList_none, List.cons_append, List.nil_append, true_and, and_true, if_true, if_false, true_or, or_true, Nat.reduceAdd, Int.reduceAdd, Bool.false_eq_true, tn_0, tn_1, tn_2, tn_3, tn_4, tn_5, tn_6, tn_7, x3]
          refine ⟨fun _ => ?_, fun c => absurd (nI_le (show te t L fr ≤ fr + (te t L fr - fr) by omega) (by omega)) c⟩
          refine J_blk a_X3_tokenNumber_59 ?_
          simp only [b_X3_tokenNumber_59, w_iload_n1, w_ireti, kd_28, kd_29, ln_29, Option.toList_some, Option.toList_none, List.cons_append, List.nil_append, true_and, and_true, if_true, if_false, true_or, or_true, Nat.reduceAdd, Int.reduceAdd, Bool.false_eq_true, tn_0, tn_1, tn_2, tn_3, tn_4, tn_5, tn_6, tn_7]
          exact ⟨rfl, rfl⟩
        · intro k hk ih
          have ti : (nI (fr + k)).toNatClampNeg = fr + k := nI_clamp (by omega)
          have xb := hA.2.2.2 (fr + k) (by omega)
          have st := v_step (vF t fr k) (t (fr + k)) (hd (fr + k) (by omega) (by omega)).1
          rw [← vs k hk] at st
          refine J_blk a_X3_tokenNumber_30 ?_
          simp only [b_X3_tokenNumber_30, w_iload_n2, w_aload_n0, w_getf3, w_icmp_ge, w_nil, kd_28, kd_29, ln_29, Option.toList_some, Option.toList_none, List.cons_append, List.nil_append, true_and, and_true, if_true, if_false, true_or, or_true, Nat.reduceAdd, Int.reduceAdd, Bool.false_eq_true, tn_0, tn_1, tn_2, tn_3, tn_4, tn_5, tn_6, tn_7, x3]
          refine ⟨fun c => absurd c (nI_ge (by omega) (by omega)), fun _ => ?_⟩
          refine J_blk a_X3_tokenNumber_38 ?_
          simp only [b_X3_tokenNumber_38, w_iload_n1, w_bipush, ci_10, w_imul, w_aload_n0, w_getf3, ne0_1, w_iload_n2, w_iald, w_iadd, ci_48, w_isub, w_istore1, nl_1n, nl_1i, nl_1a, w_iinc2, nl_2n, nl_2i, nl_2a, ci_1, w_goto, kd_28, kd_29, ln_29, Option.toList_some, Option.toList_none, List.cons_append, List.nil_append, true_and, and_true, if_true, if_false, true_or, or_true, Nat.reduceAdd, Int.reduceAdd, Bool.false_eq_true, tn_0, tn_1, tn_2, tn_3, tn_4, tn_5, tn_6, tn_7, ti, xb, st, nI_1]
          exact ⟨vinN (show fr + k < 200 by omega) (by decide), ih⟩
      refine J_blk a_X3_tokenNumber_23 ?_
      simp only [b_X3_tokenNumber_23, w_iconst_0, w_istore1, nl_1n, nl_1i, nl_1a, w_aload_n0, w_getf3, w_istore2, nl_2n, nl_2i, nl_2a, w_nil, kd_28, kd_29, ln_29, Option.toList_some, Option.toList_none, List.cons_append, List.nil_append, true_and, and_true, if_true, if_false, true_or, or_true, Nat.reduceAdd, Int.reduceAdd, Bool.false_eq_true, tn_0, tn_1, tn_2, tn_3, tn_4, tn_5, tn_6, tn_7, x2]
      exact loop 0 (by omega)
    · rw [if_neg (fun q => c3 q.2)]
      refine J_blk a_X3_tokenNumber_21 ?_
      simp only [b_X3_tokenNumber_21, w_iconst_m1, w_ireti, kd_28, kd_29, ln_29, Option.toList_some, Option.toList_none, List.cons_append, List.nil_append, true_and, and_true, if_true, if_false, true_or, or_true, Nat.reduceAdd, Int.reduceAdd, Bool.false_eq_true, tn_0, tn_1, tn_2, tn_3, tn_4, tn_5, tn_6, tn_7]
      exact ⟨rfl, rfl⟩
theorem vl_lt (hb : ∀ i, t i < 256) : vl t L fr ≤ 10300 := by
  unfold vl
  split
  · exact vF_le t fr hb _
  · omega
theorem number_c (h : TS M t L fr w) (most : Int32) : K 2 mX3_passNumber [.ref 28, .int most] M (Rq (some (.int (if nuB t L fr most = true then nI (vl t L fr) else -1))) (fun M' => TS M' t L (if nuB t L fr most = true then nx t L fr else fr) (if nuB t L fr most = true then w else true) ∧ FT M M')) := by
  have hv := vl_lt (L := L) (fr := fr) h.1.2.2.1
  have bad : nuB t L fr most = false → ∀ v, J 2 mX3_passNumber 14 [some (.ref 28), some (.int most), v] [] M (Rq (some (.int (if nuB t L fr most = true then nI (vl t L fr) else -1))) (fun M' => TS M' t L (if nuB t L fr most = true then nx t L fr else fr) (if nuB t L fr most = true then w else true) ∧ FT M M')) := by
    intro e v
    rw [e]
    refine J_blk a_X3_passNumber_14 ?_
    simp only [b_X3_passNumber_14, w_aload_n0, w_iconst_1, w_putb3, w_iconst_m1, w_ireti, kd_28, kd_29, ln_29, Option.toList_some, Option.toList_none, List.cons_append, List.nil_append, true_and, and_true, if_true, if_false, true_or, or_true, Nat.reduceAdd, Int.reduceAdd, Bool.false_eq_true, tn_0, tn_1, tn_2, tn_3, tn_4, tn_5, tn_6, tn_7]
    exact ⟨rfl, TS_5 h, FT_u1 _ _ _⟩
  refine K_go 1 o_X3_passNumber [none] rfl (Nat.le_of_ble_eq_true rfl) ?_
  simp only [lvA_i, lvA_a, lvA_l, lvA_nil, List.cons_append, List.nil_append]
  refine J_blk a_X3_passNumber_0 ?_
  simp only [b_X3_passNumber_0, w_aload_n0, w_nil, kd_28, kd_29, ln_29, Option.toList_some, Option.toList_none, List.cons_append, List.nil_append, true_and, and_true, if_true, if_false, true_or, or_true, Nat.reduceAdd, Int.reduceAdd, Bool.false_eq_true, tn_0, tn_1, tn_2, tn_3, tn_4, tn_5, tn_6, tn_7]
  refine J_callVr (ci := 3) (token_c h) k_X3_passNumber_1 o_X3_tokenNumber (rfl) rfl rfl rfl (by decide) rfl (Nat.le_of_ble_eq_true rfl) ?_
  unfold tkN
  by_cases c : knd t L fr = 2 ∧ te t L fr - fr ≤ 3
  · rw [if_pos c]
    refine J_blk a_X3_passNumber_4 ?_
    simp only [b_X3_passNumber_4, w_istore2, nl_2n, nl_2i, nl_2a, w_iload_n2, w_if_lt, w_nil, kd_28, kd_29, ln_29, Option.toList_some, Option.toList_none, List.cons_append, List.nil_append, true_and, and_true, if_true, if_false, true_or, or_true, Nat.reduceAdd, Int.reduceAdd, Bool.false_eq_true, tn_0, tn_1, tn_2, tn_3, tn_4, tn_5, tn_6, tn_7]
    refine ⟨fun c2 => absurd c2 (nI_pos (by omega)), fun _ => ?_⟩
    refine J_blk a_X3_passNumber_9 ?_
    simp only [b_X3_passNumber_9, w_iload_n2, w_iload_n1, w_icmp_le, w_nil, kd_28, kd_29, ln_29, Option.toList_some, Option.toList_none, List.cons_append, List.nil_append, true_and, and_true, if_true, if_false, true_or, or_true, Nat.reduceAdd, Int.reduceAdd, Bool.false_eq_true, tn_0, tn_1, tn_2, tn_3, tn_4, tn_5, tn_6, tn_7]
    refine ⟨fun c2 => ?_, fun c2 => ?_⟩
    · have e : nuB t L fr most = true := decide_eq_true ⟨c.1, c.2, c2⟩
      rw [e]
      refine J_blk a_X3_passNumber_21 ?_
      simp only [b_X3_passNumber_21, w_aload_n0, w_nil, kd_28, kd_29, ln_29, Option.toList_some, Option.toList_none, List.cons_append, List.nil_append, true_and, and_true, if_true, if_false, true_or, or_true, Nat.reduceAdd, Int.reduceAdd, Bool.false_eq_true, tn_0, tn_1, tn_2, tn_3, tn_4, tn_5, tn_6, tn_7]
      refine J_callV (ci := 3) (h.step) k_X3_passNumber_22 o_X3_step (rfl) rfl rfl rfl (by decide) rfl (Nat.le_of_ble_eq_true rfl) ?_
      rintro r M1 ⟨rfl, g1, g2⟩
      refine J_blk a_X3_passNumber_25 ?_
      simp only [b_X3_passNumber_25, w_iload_n2, w_ireti, kd_28, kd_29, ln_29, Option.toList_some, Option.toList_none, List.cons_append, List.nil_append, true_and, and_true, if_true, if_false, true_or, or_true, Nat.reduceAdd, Int.reduceAdd, Bool.false_eq_true, tn_0, tn_1, tn_2, tn_3, tn_4, tn_5, tn_6, tn_7]
      exact ⟨rfl, g1, g2⟩
    · exact bad (decide_eq_false (fun q => c2 q.2.2)) _
  · rw [if_neg c]
    refine J_blk a_X3_passNumber_4 ?_
    simp only [b_X3_passNumber_4, w_istore2, nl_2n, nl_2i, nl_2a, w_iload_n2, w_if_lt, w_nil, kd_28, kd_29, ln_29, Option.toList_some, Option.toList_none, List.cons_append, List.nil_append, true_and, and_true, if_true, if_false, true_or, or_true, Nat.reduceAdd, Int.reduceAdd, Bool.false_eq_true, tn_0, tn_1, tn_2, tn_3, tn_4, tn_5, tn_6, tn_7]
    refine ⟨fun _ => ?_, fun c2 => absurd (by decide) c2⟩
    exact bad (decide_eq_false (fun q => c ⟨q.1, q.2.1⟩)) _
/-- a number behind its name: what came, where it is, whether it is wrong -/
def pnV (t : Nat → Nat) (L : Nat) (j : Nat) (most : Int32) (fr : Nat) (w : Bool) : Int32 := if pb t L fr w j = true ∧ nuB t L (nx t L fr) most = true then nI (vl t L (nx t L fr)) else -1
def pnF (t : Nat → Nat) (L : Nat) (j : Nat) (most : Int32) (fr : Nat) (w : Bool) : Nat := if pb t L fr w j = true then (if nuB t L (nx t L fr) most = true then nx t L (nx t L fr) else nx t L fr) else fr
def pnW (t : Nat → Nat) (L : Nat) (j : Nat) (most : Int32) (fr : Nat) (w : Bool) : Bool := if pb t L fr w j = true then (if nuB t L (nx t L fr) most = true then w else true) else w
theorem behind_c (h : TS M t L fr w) {j : Nat} (hj : j < 15) (most : Int32) : K 6 mX3_passNumberBehind [.ref 28, .ref (65 + j), .int most] M (Rq (some (.int (pnV t L j most fr w))) (fun M' => TS M' t L (pnF t L j most fr w) (pnW t L j most fr w) ∧ FT M M')) := by
  unfold pnV pnF pnW
  refine K_go 2 o_X3_passNumberBehind [] rfl (Nat.le_of_ble_eq_true rfl) ?_
  simp only [lvA_i, lvA_a, lvA_l, lvA_nil, List.cons_append, List.nil_append]
  refine J_blk a_X3_passNumberBehind_0 ?_
  simp only [b_X3_passNumberBehind_0, w_aload_n0, w_aload_n1, w_nil, kd_28, kd_29, ln_29, Option.toList_some, Option.toList_none, List.cons_append, List.nil_append, true_and, and_true, if_true, if_false, true_or, or_true, Nat.reduceAdd, Int.reduceAdd, Bool.false_eq_true, tn_0, tn_1, tn_2, tn_3, tn_4, tn_5, tn_6, tn_7]
  refine J_callV (ci := 3) (pass_c h hj) k_X3_passNumberBehind_2 o_X3_pass (rfl) rfl rfl rfl (by decide) rfl (Nat.le_of_ble_eq_true rfl) ?_
  rintro r M1 ⟨rfl, g1, g2⟩
  by_cases q : pb t L fr w j = true
  · rw [q] at g1 ⊢
    simp only [if_true, true_and] at g1 ⊢
    refine J_blk a_X3_passNumberBehind_5 ?_
    simp only [b_X3_passNumberBehind_5, w_if_eq, w_nil, kd_28, kd_29, ln_29, Option.toList_some, Option.toList_none, List.cons_append, List.nil_append, true_and, and_true, if_true, if_false, true_or, or_true, Nat.reduceAdd, Int.reduceAdd, Bool.false_eq_true, tn_0, tn_1, tn_2, tn_3, tn_4, tn_5, tn_6, tn_7]
    refine ⟨fun c => absurd c (by decide), fun _ => ?_⟩
    refine J_blk a_X3_passNumberBehind_8 ?_
    simp only [b_X3_passNumberBehind_8, w_aload_n0, w_iload_n2, w_nil, kd_28, kd_29, ln_29, Option.toList_some, Option.toList_none, List.cons_append, List.nil_append, true_and, and_true, if_true, if_false, true_or, or_true, Nat.reduceAdd, Int.reduceAdd, Bool.false_eq_true, tn_0, tn_1, tn_2, tn_3, tn_4, tn_5, tn_6, tn_7]
    refine J_callV (ci := 3) (number_c g1 most) k_X3_passNumberBehind_10 o_X3_passNumber (rfl) rfl rfl rfl (by decide) rfl (Nat.le_of_ble_eq_true rfl) ?_
    rintro r M2 ⟨rfl, k1, k2⟩
    refine J_blk a_X3_passNumberBehind_13 ?_
    simp only [b_X3_passNumberBehind_13, w_goto, kd_28, kd_29, ln_29, Option.toList_some, Option.toList_none, List.cons_append, List.nil_append, true_and, and_true, if_true, if_false, true_or, or_true, Nat.reduceAdd, Int.reduceAdd, Bool.false_eq_true, tn_0, tn_1, tn_2, tn_3, tn_4, tn_5, tn_6, tn_7]
    refine J_blk a_X3_passNumberBehind_17 ?_
    simp only [b_X3_passNumberBehind_17, w_ireti, kd_28, kd_29, ln_29, Option.toList_some, Option.toList_none, List.cons_append, List.nil_append, true_and, and_true, if_true, if_false, true_or, or_true, Nat.reduceAdd, Int.reduceAdd, Bool.false_eq_true, tn_0, tn_1, tn_2, tn_3, tn_4, tn_5, tn_6, tn_7]
    exact ⟨rfl, k1, g2.trans k2⟩
  · rw [(Bool.not_eq_true _).mp q] at g1 ⊢
    simp only [Bool.false_eq_true, if_false, false_and] at g1 ⊢
    refine J_blk a_X3_passNumberBehind_5 ?_
    simp only [b_X3_passNumberBehind_5, w_if_eq, w_nil, kd_28, kd_29, ln_29, Option.toList_some, Option.toList_none, List.cons_append, List.nil_append, true_and, and_true, if_true, if_false, true_or, or_true, Nat.reduceAdd, Int.reduceAdd, Bool.false_eq_true, tn_0, tn_1, tn_2, tn_3, tn_4, tn_5, tn_6, tn_7]
    refine ⟨fun _ => ?_, fun c => absurd rfl c⟩
    refine J_blk a_X3_passNumberBehind_16 ?_
    simp only [b_X3_passNumberBehind_16, w_iconst_m1, w_nil, kd_28, kd_29, ln_29, Option.toList_some, Option.toList_none, List.cons_append, List.nil_append, true_and, and_true, if_true, if_false, true_or, or_true, Nat.reduceAdd, Int.reduceAdd, Bool.false_eq_true, tn_0, tn_1, tn_2, tn_3, tn_4, tn_5, tn_6, tn_7]
    refine J_blk a_X3_passNumberBehind_17 ?_
    simp only [b_X3_passNumberBehind_17, w_ireti, kd_28, kd_29, ln_29, Option.toList_some, Option.toList_none, List.cons_append, List.nil_append, true_and, and_true, if_true, if_false, true_or, or_true, Nat.reduceAdd, Int.reduceAdd, Bool.false_eq_true, tn_0, tn_1, tn_2, tn_3, tn_4, tn_5, tn_6, tn_7]
    exact ⟨rfl, g1, g2⟩
theorem bI_if (b : Bool) : (bI b = 0) = (b = false) := bI1
theorem kindN_c (h : TS M t L fr w) : K 5 mX3_kindNamed [.ref 28] M (Rt (some (.int (kdH t L fr))) M) := by
  have fin : ∀ v, J 5 mX3_kindNamed 79 [some (.ref 28)] [.int v] M (Rt (some (.int v)) M) := by
    intro v
    refine J_blk a_X3_kindNamed_79 ?_
    simp only [b_X3_kindNamed_79, w_ireti, kd_28, kd_29, ln_29, Option.toList_some, Option.toList_none, List.cons_append, List.nil_append, true_and, and_true, if_true, if_false, true_or, or_true, Nat.reduceAdd, Int.reduceAdd, Bool.false_eq_true, tn_0, tn_1, tn_2, tn_3, tn_4, tn_5, tn_6, tn_7]
    exact ⟨rfl, rfl⟩
  unfold kdH
  refine K_go 0 o_X3_kindNamed [] rfl (Nat.le_of_ble_eq_true rfl) ?_
  simp only [lvA_i, lvA_a, lvA_l, lvA_nil, List.cons_append, List.nil_append]
  refine J_blk a_X3_kindNamed_0 ?_
  simp only [b_X3_kindNamed_0, w_aload_n0, w_ldcS, w_nil, kd_28, kd_29, ln_29, Option.toList_some, Option.toList_none, List.cons_append, List.nil_append, true_and, and_true, if_true, if_false, true_or, or_true, Nat.reduceAdd, Int.reduceAdd, Bool.false_eq_true, tn_0, tn_1, tn_2, tn_3, tn_4, tn_5, tn_6, tn_7]
  refine J_callVr (ci := 3) (is_c h (show 0 < 15 by decide)) k_X3_kindNamed_3 o_X3_is (rfl) rfl rfl rfl (by decide) rfl (Nat.le_of_ble_eq_true rfl) ?_
  rw [show wLn 0 = [98, 114, 97, 110, 99, 104] from rfl]
  refine J_blk a_X3_kindNamed_6 ?_
  simp only [b_X3_kindNamed_6, w_if_eq, w_nil, kd_28, kd_29, ln_29, Option.toList_some, Option.toList_none, List.cons_append, List.nil_append, true_and, and_true, if_true, if_false, true_or, or_true, Nat.reduceAdd, Int.reduceAdd, Bool.false_eq_true, tn_0, tn_1, tn_2, tn_3, tn_4, tn_5, tn_6, tn_7, bI_if]
  refine ⟨fun c => ?_, fun c => ?_⟩
  · rw [if_neg (by rw [c]; decide)]
    refine J_blk a_X3_kindNamed_13 ?_
    simp only [b_X3_kindNamed_13, w_aload_n0, w_ldcS, w_nil, kd_28, kd_29, ln_29, Option.toList_some, Option.toList_none, List.cons_append, List.nil_append, true_and, and_true, if_true, if_false, true_or, or_true, Nat.reduceAdd, Int.reduceAdd, Bool.false_eq_true, tn_0, tn_1, tn_2, tn_3, tn_4, tn_5, tn_6, tn_7]
    refine J_callVr (ci := 3) (is_c h (show 1 < 15 by decide)) k_X3_kindNamed_16 o_X3_is (rfl) rfl rfl rfl (by decide) rfl (Nat.le_of_ble_eq_true rfl) ?_
    rw [show wLn 1 = [115, 112, 117, 114] from rfl]
    refine J_blk a_X3_kindNamed_19 ?_
    simp only [b_X3_kindNamed_19, w_if_eq, w_nil, kd_28, kd_29, ln_29, Option.toList_some, Option.toList_none, List.cons_append, List.nil_append, true_and, and_true, if_true, if_false, true_or, or_true, Nat.reduceAdd, Int.reduceAdd, Bool.false_eq_true, tn_0, tn_1, tn_2, tn_3, tn_4, tn_5, tn_6, tn_7, bI_if]
    refine ⟨fun c => ?_, fun c => ?_⟩
    · rw [if_neg (by rw [c]; decide)]
      refine J_blk a_X3_kindNamed_26 ?_
      simp only [b_X3_kindNamed_26, w_aload_n0, w_ldcS, w_nil, kd_28, kd_29, ln_29, Option.toList_some, Option.toList_none, List.cons_append, List.nil_append, true_and, and_true, if_true, if_false, true_or, or_true, Nat.reduceAdd, Int.reduceAdd, Bool.false_eq_true, tn_0, tn_1, tn_2, tn_3, tn_4, tn_5, tn_6, tn_7]
      refine J_callVr (ci := 3) (is_c h (show 2 < 15 by decide)) k_X3_kindNamed_29 o_X3_is (rfl) rfl rfl rfl (by decide) rfl (Nat.le_of_ble_eq_true rfl) ?_
      rw [show wLn 2 = [98, 111, 117, 103, 104] from rfl]
      refine J_blk a_X3_kindNamed_32 ?_
      simp only [b_X3_kindNamed_32, w_if_eq, w_nil, kd_28, kd_29, ln_29, Option.toList_some, Option.toList_none, List.cons_append, List.nil_append, true_and, and_true, if_true, if_false, true_or, or_true, Nat.reduceAdd, Int.reduceAdd, Bool.false_eq_true, tn_0, tn_1, tn_2, tn_3, tn_4, tn_5, tn_6, tn_7, bI_if]
      refine ⟨fun c => ?_, fun c => ?_⟩
      · rw [if_neg (by rw [c]; decide)]
        refine J_blk a_X3_kindNamed_39 ?_
        simp only [b_X3_kindNamed_39, w_aload_n0, w_ldcS, w_nil, kd_28, kd_29, ln_29, Option.toList_some, Option.toList_none, List.cons_append, List.nil_append, true_and, and_true, if_true, if_false, true_or, or_true, Nat.reduceAdd, Int.reduceAdd, Bool.false_eq_true, tn_0, tn_1, tn_2, tn_3, tn_4, tn_5, tn_6, tn_7]
        refine J_callVr (ci := 3) (is_c h (show 3 < 15 by decide)) k_X3_kindNamed_42 o_X3_is (rfl) rfl rfl rfl (by decide) rfl (Nat.le_of_ble_eq_true rfl) ?_
        rw [show wLn 3 = [98, 117, 100] from rfl]
        refine J_blk a_X3_kindNamed_45 ?_
        simp only [b_X3_kindNamed_45, w_if_eq, w_nil, kd_28, kd_29, ln_29, Option.toList_some, Option.toList_none, List.cons_append, List.nil_append, true_and, and_true, if_true, if_false, true_or, or_true, Nat.reduceAdd, Int.reduceAdd, Bool.false_eq_true, tn_0, tn_1, tn_2, tn_3, tn_4, tn_5, tn_6, tn_7, bI_if]
        refine ⟨fun c => ?_, fun c => ?_⟩
        · rw [if_neg (by rw [c]; decide)]
          refine J_blk a_X3_kindNamed_52 ?_
          simp only [b_X3_kindNamed_52, w_aload_n0, w_ldcS, w_nil, kd_28, kd_29, ln_29, Option.toList_some, Option.toList_none, List.cons_append, List.nil_append, true_and, and_true, if_true, if_false, true_or, or_true, Nat.reduceAdd, Int.reduceAdd, Bool.false_eq_true, tn_0, tn_1, tn_2, tn_3, tn_4, tn_5, tn_6, tn_7]
          refine J_callVr (ci := 3) (is_c h (show 4 < 15 by decide)) k_X3_kindNamed_55 o_X3_is (rfl) rfl rfl rfl (by decide) rfl (Nat.le_of_ble_eq_true rfl) ?_
          rw [show wLn 4 = [108, 105, 109, 98] from rfl]
          refine J_blk a_X3_kindNamed_58 ?_
          simp only [b_X3_kindNamed_58, w_if_eq, w_nil, kd_28, kd_29, ln_29, Option.toList_some, Option.toList_none, List.cons_append, List.nil_append, true_and, and_true, if_true, if_false, true_or, or_true, Nat.reduceAdd, Int.reduceAdd, Bool.false_eq_true, tn_0, tn_1, tn_2, tn_3, tn_4, tn_5, tn_6, tn_7, bI_if]
          refine ⟨fun c => ?_, fun c => ?_⟩
          · rw [if_neg (by rw [c]; decide)]
            refine J_blk a_X3_kindNamed_65 ?_
            simp only [b_X3_kindNamed_65, w_aload_n0, w_ldcS, w_nil, kd_28, kd_29, ln_29, Option.toList_some, Option.toList_none, List.cons_append, List.nil_append, true_and, and_true, if_true, if_false, true_or, or_true, Nat.reduceAdd, Int.reduceAdd, Bool.false_eq_true, tn_0, tn_1, tn_2, tn_3, tn_4, tn_5, tn_6, tn_7]
            refine J_callVr (ci := 3) (is_c h (show 5 < 15 by decide)) k_X3_kindNamed_68 o_X3_is (rfl) rfl rfl rfl (by decide) rfl (Nat.le_of_ble_eq_true rfl) ?_
            rw [show wLn 5 = [103, 114, 97, 102, 116] from rfl]
            refine J_blk a_X3_kindNamed_71 ?_
            simp only [b_X3_kindNamed_71, w_if_eq, w_nil, kd_28, kd_29, ln_29, Option.toList_some, Option.toList_none, List.cons_append, List.nil_append, true_and, and_true, if_true, if_false, true_or, or_true, Nat.reduceAdd, Int.reduceAdd, Bool.false_eq_true, tn_0, tn_1, tn_2, tn_3, tn_4, tn_5, tn_6, tn_7, bI_if]
            refine ⟨fun c => ?_, fun c => ?_⟩
            · rw [if_neg (by rw [c]; decide)]
              refine J_blk a_X3_kindNamed_78 ?_
              simp only [b_X3_kindNamed_78, w_iconst_m1, w_nil, kd_28, kd_29, ln_29, Option.toList_some, Option.toList_none, List.cons_append, List.nil_append, true_and, and_true, if_true, if_false, true_or, or_true, Nat.reduceAdd, Int.reduceAdd, Bool.false_eq_true, tn_0, tn_1, tn_2, tn_3, tn_4, tn_5, tn_6, tn_7]
              exact fin _
            · rw [if_pos ((Bool.not_eq_false _).mp c)]
              refine J_blk a_X3_kindNamed_74 ?_
              simp only [b_X3_kindNamed_74, w_iconst_5, w_goto, kd_28, kd_29, ln_29, Option.toList_some, Option.toList_none, List.cons_append, List.nil_append, true_and, and_true, if_true, if_false, true_or, or_true, Nat.reduceAdd, Int.reduceAdd, Bool.false_eq_true, tn_0, tn_1, tn_2, tn_3, tn_4, tn_5, tn_6, tn_7]
              exact fin _
          · rw [if_pos ((Bool.not_eq_false _).mp c)]
            refine J_blk a_X3_kindNamed_61 ?_
            simp only [b_X3_kindNamed_61, w_iconst_4, w_goto, kd_28, kd_29, ln_29, Option.toList_some, Option.toList_none, List.cons_append, List.nil_append, true_and, and_true, if_true, if_false, true_or, or_true, Nat.reduceAdd, Int.reduceAdd, Bool.false_eq_true, tn_0, tn_1, tn_2, tn_3, tn_4, tn_5, tn_6, tn_7]
            exact fin _
        · rw [if_pos ((Bool.not_eq_false _).mp c)]
          refine J_blk a_X3_kindNamed_48 ?_
          simp only [b_X3_kindNamed_48, w_iconst_3, w_goto, kd_28, kd_29, ln_29, Option.toList_some, Option.toList_none, List.cons_append, List.nil_append, true_and, and_true, if_true, if_false, true_or, or_true, Nat.reduceAdd, Int.reduceAdd, Bool.false_eq_true, tn_0, tn_1, tn_2, tn_3, tn_4, tn_5, tn_6, tn_7]
          exact fin _
      · rw [if_pos ((Bool.not_eq_false _).mp c)]
        refine J_blk a_X3_kindNamed_35 ?_
        simp only [b_X3_kindNamed_35, w_iconst_2, w_goto, kd_28, kd_29, ln_29, Option.toList_some, Option.toList_none, List.cons_append, List.nil_append, true_and, and_true, if_true, if_false, true_or, or_true, Nat.reduceAdd, Int.reduceAdd, Bool.false_eq_true, tn_0, tn_1, tn_2, tn_3, tn_4, tn_5, tn_6, tn_7]
        exact fin _
    · rw [if_pos ((Bool.not_eq_false _).mp c)]
      refine J_blk a_X3_kindNamed_22 ?_
      simp only [b_X3_kindNamed_22, w_iconst_1, w_goto, kd_28, kd_29, ln_29, Option.toList_some, Option.toList_none, List.cons_append, List.nil_append, true_and, and_true, if_true, if_false, true_or, or_true, Nat.reduceAdd, Int.reduceAdd, Bool.false_eq_true, tn_0, tn_1, tn_2, tn_3, tn_4, tn_5, tn_6, tn_7]
      exact fin _
  · rw [if_pos ((Bool.not_eq_false _).mp c)]
    refine J_blk a_X3_kindNamed_9 ?_
    simp only [b_X3_kindNamed_9, w_iconst_0, w_goto, kd_28, kd_29, ln_29, Option.toList_some, Option.toList_none, List.cons_append, List.nil_append, true_and, and_true, if_true, if_false, true_or, or_true, Nat.reduceAdd, Int.reduceAdd, Bool.false_eq_true, tn_0, tn_1, tn_2, tn_3, tn_4, tn_5, tn_6, tn_7]
    exact fin _
def laC (t : Nat → Nat) (L fr : Nat) : Int32 := if wdB t L fr [115, 104, 97, 100, 101] = true then 0 else if wdB t L fr [115, 117, 110] = true then 1 else if wdB t L fr [114, 97, 105, 110] = true then 2 else if wdB t L fr [102, 114, 111, 115, 116] = true then 3 else -1
theorem lawN_c (h : TS M t L fr w) : K 5 mX3_lawNamed [.ref 28] M (Rt (some (.int (laC t L fr))) M) := by
  have fin : ∀ v, J 5 mX3_lawNamed 53 [some (.ref 28)] [.int v] M (Rt (some (.int v)) M) := by
    intro v
    refine J_blk a_X3_lawNamed_53 ?_
    simp only [b_X3_lawNamed_53, w_ireti, kd_28, kd_29, ln_29, Option.toList_some, Option.toList_none, List.cons_append, List.nil_append, true_and, and_true, if_true, if_false, true_or, or_true, Nat.reduceAdd, Int.reduceAdd, Bool.false_eq_true, tn_0, tn_1, tn_2, tn_3, tn_4, tn_5, tn_6, tn_7]
    exact ⟨rfl, rfl⟩
  unfold laC
  refine K_go 0 o_X3_lawNamed [] rfl (Nat.le_of_ble_eq_true rfl) ?_
  simp only [lvA_i, lvA_a, lvA_l, lvA_nil, List.cons_append, List.nil_append]
  refine J_blk a_X3_lawNamed_0 ?_
  simp only [b_X3_lawNamed_0, w_aload_n0, w_ldcS, w_nil, kd_28, kd_29, ln_29, Option.toList_some, Option.toList_none, List.cons_append, List.nil_append, true_and, and_true, if_true, if_false, true_or, or_true, Nat.reduceAdd, Int.reduceAdd, Bool.false_eq_true, tn_0, tn_1, tn_2, tn_3, tn_4, tn_5, tn_6, tn_7]
  refine J_callVr (ci := 3) (is_c h (show 6 < 15 by decide)) k_X3_lawNamed_3 o_X3_is (rfl) rfl rfl rfl (by decide) rfl (Nat.le_of_ble_eq_true rfl) ?_
  rw [show wLn 6 = [115, 104, 97, 100, 101] from rfl]
  refine J_blk a_X3_lawNamed_6 ?_
  simp only [b_X3_lawNamed_6, w_if_eq, w_nil, kd_28, kd_29, ln_29, Option.toList_some, Option.toList_none, List.cons_append, List.nil_append, true_and, and_true, if_true, if_false, true_or, or_true, Nat.reduceAdd, Int.reduceAdd, Bool.false_eq_true, tn_0, tn_1, tn_2, tn_3, tn_4, tn_5, tn_6, tn_7, bI_if]
  refine ⟨fun c => ?_, fun c => ?_⟩
  · rw [if_neg (by rw [c]; decide)]
    refine J_blk a_X3_lawNamed_13 ?_
    simp only [b_X3_lawNamed_13, w_aload_n0, w_ldcS, w_nil, kd_28, kd_29, ln_29, Option.toList_some, Option.toList_none, List.cons_append, List.nil_append, true_and, and_true, if_true, if_false, true_or, or_true, Nat.reduceAdd, Int.reduceAdd, Bool.false_eq_true, tn_0, tn_1, tn_2, tn_3, tn_4, tn_5, tn_6, tn_7]
    refine J_callVr (ci := 3) (is_c h (show 7 < 15 by decide)) k_X3_lawNamed_16 o_X3_is (rfl) rfl rfl rfl (by decide) rfl (Nat.le_of_ble_eq_true rfl) ?_
    rw [show wLn 7 = [115, 117, 110] from rfl]
    refine J_blk a_X3_lawNamed_19 ?_
    simp only [b_X3_lawNamed_19, w_if_eq, w_nil, kd_28, kd_29, ln_29, Option.toList_some, Option.toList_none, List.cons_append, List.nil_append, true_and, and_true, if_true, if_false, true_or, or_true, Nat.reduceAdd, Int.reduceAdd, Bool.false_eq_true, tn_0, tn_1, tn_2, tn_3, tn_4, tn_5, tn_6, tn_7, bI_if]
    refine ⟨fun c => ?_, fun c => ?_⟩
    · rw [if_neg (by rw [c]; decide)]
      refine J_blk a_X3_lawNamed_26 ?_
      simp only [b_X3_lawNamed_26, w_aload_n0, w_ldcS, w_nil, kd_28, kd_29, ln_29, Option.toList_some, Option.toList_none, List.cons_append, List.nil_append, true_and, and_true, if_true, if_false, true_or, or_true, Nat.reduceAdd, Int.reduceAdd, Bool.false_eq_true, tn_0, tn_1, tn_2, tn_3, tn_4, tn_5, tn_6, tn_7]
      refine J_callVr (ci := 3) (is_c h (show 8 < 15 by decide)) k_X3_lawNamed_29 o_X3_is (rfl) rfl rfl rfl (by decide) rfl (Nat.le_of_ble_eq_true rfl) ?_
      rw [show wLn 8 = [114, 97, 105, 110] from rfl]
      refine J_blk a_X3_lawNamed_32 ?_
      simp only [b_X3_lawNamed_32, w_if_eq, w_nil, kd_28, kd_29, ln_29, Option.toList_some, Option.toList_none, List.cons_append, List.nil_append, true_and, and_true, if_true, if_false, true_or, or_true, Nat.reduceAdd, Int.reduceAdd, Bool.false_eq_true, tn_0, tn_1, tn_2, tn_3, tn_4, tn_5, tn_6, tn_7, bI_if]
      refine ⟨fun c => ?_, fun c => ?_⟩
      · rw [if_neg (by rw [c]; decide)]
        refine J_blk a_X3_lawNamed_39 ?_
        simp only [b_X3_lawNamed_39, w_aload_n0, w_ldcS, w_nil, kd_28, kd_29, ln_29, Option.toList_some, Option.toList_none, List.cons_append, List.nil_append, true_and, and_true, if_true, if_false, true_or, or_true, Nat.reduceAdd, Int.reduceAdd, Bool.false_eq_true, tn_0, tn_1, tn_2, tn_3, tn_4, tn_5, tn_6, tn_7]
        refine J_callVr (ci := 3) (is_c h (show 9 < 15 by decide)) k_X3_lawNamed_42 o_X3_is (rfl) rfl rfl rfl (by decide) rfl (Nat.le_of_ble_eq_true rfl) ?_
        rw [show wLn 9 = [102, 114, 111, 115, 116] from rfl]
        refine J_blk a_X3_lawNamed_45 ?_
        simp only [b_X3_lawNamed_45, w_if_eq, w_nil, kd_28, kd_29, ln_29, Option.toList_some, Option.toList_none, List.cons_append, List.nil_append, true_and, and_true, if_true, if_false, true_or, or_true, Nat.reduceAdd, Int.reduceAdd, Bool.false_eq_true, tn_0, tn_1, tn_2, tn_3, tn_4, tn_5, tn_6, tn_7, bI_if]
        refine ⟨fun c => ?_, fun c => ?_⟩
        · rw [if_neg (by rw [c]; decide)]
          refine J_blk a_X3_lawNamed_52 ?_
          simp only [b_X3_lawNamed_52, w_iconst_m1, w_nil, kd_28, kd_29, ln_29, Option.toList_some, Option.toList_none, List.cons_append, List.nil_append, true_and, and_true, if_true, if_false, true_or, or_true, Nat.reduceAdd, Int.reduceAdd, Bool.false_eq_true, tn_0, tn_1, tn_2, tn_3, tn_4, tn_5, tn_6, tn_7]
          exact fin _
        · rw [if_pos ((Bool.not_eq_false _).mp c)]
          refine J_blk a_X3_lawNamed_48 ?_
          simp only [b_X3_lawNamed_48, w_iconst_3, w_goto, kd_28, kd_29, ln_29, Option.toList_some, Option.toList_none, List.cons_append, List.nil_append, true_and, and_true, if_true, if_false, true_or, or_true, Nat.reduceAdd, Int.reduceAdd, Bool.false_eq_true, tn_0, tn_1, tn_2, tn_3, tn_4, tn_5, tn_6, tn_7]
          exact fin _
      · rw [if_pos ((Bool.not_eq_false _).mp c)]
        refine J_blk a_X3_lawNamed_35 ?_
        simp only [b_X3_lawNamed_35, w_iconst_2, w_goto, kd_28, kd_29, ln_29, Option.toList_some, Option.toList_none, List.cons_append, List.nil_append, true_and, and_true, if_true, if_false, true_or, or_true, Nat.reduceAdd, Int.reduceAdd, Bool.false_eq_true, tn_0, tn_1, tn_2, tn_3, tn_4, tn_5, tn_6, tn_7]
        exact fin _
    · rw [if_pos ((Bool.not_eq_false _).mp c)]
      refine J_blk a_X3_lawNamed_22 ?_
      simp only [b_X3_lawNamed_22, w_iconst_1, w_goto, kd_28, kd_29, ln_29, Option.toList_some, Option.toList_none, List.cons_append, List.nil_append, true_and, and_true, if_true, if_false, true_or, or_true, Nat.reduceAdd, Int.reduceAdd, Bool.false_eq_true, tn_0, tn_1, tn_2, tn_3, tn_4, tn_5, tn_6, tn_7]
      exact fin _
  · rw [if_pos ((Bool.not_eq_false _).mp c)]
    refine J_blk a_X3_lawNamed_9 ?_
    simp only [b_X3_lawNamed_9, w_iconst_0, w_goto, kd_28, kd_29, ln_29, Option.toList_some, Option.toList_none, List.cons_append, List.nil_append, true_and, and_true, if_true, if_false, true_or, or_true, Nat.reduceAdd, Int.reduceAdd, Bool.false_eq_true, tn_0, tn_1, tn_2, tn_3, tn_4, tn_5, tn_6, tn_7]
    exact fin _
end RD

