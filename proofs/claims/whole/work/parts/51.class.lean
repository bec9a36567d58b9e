/-! the class: tree(), feed(); what a told tree is -/
section P2
variable {t : Nat → Nat} {L : Nat}
theorem bg_row {n k : Nat} {st : Ps} {j : Nat} (h : j ≠ 8 + 6 * n) (h0 : j ≠ 0) : (bgS t L n k st).2.2 j = st.2.2 j := by
  unfold bgS
  split
  · simp only [upd]; rw [if_neg h0, if_neg h]
  · exact congrFun nd_row j
theorem it_row2 (n : Nat) (st : Ps) : (itS t L n st).2.2 2 = st.2.2 2 := by
  rw [itS_mi, nd_row]
  unfold miS
  split
  · unfold bhS frS agS
    rw [cu_row0 (by omega), ph_row0 (by omega), ph_row0 (by omega), on_row0 (by omega), bg_row (by omega) (by omega)]
  · split
    · next h =>
      obtain ⟨k, h4, h7, e⟩ := laH_rng t L st.1 h
      rw [nu_row0 (by rw [e, nI_clamp (by omega)]; omega)]
    · rw [nd_row]
theorem tr_row2 : ∀ f (st : Ps), (trF t L f st).2.2 2 = st.2.2 2 := by
  intro f
  induction f with
  | zero => intro st; rfl
  | succ f ih =>
    intro st
    rw [trF]
    split
    · rfl
    · rw [ih, it_row2]
theorem trS_2 (s : Nat → Int32) : (trS t L s).2.2 2 = s 2 := by
  unfold trS
  rw [tr_row2]
  rfl
end P2
theorem ctree_c {M : Mm} {t : Nat → Nat} {L n : Nat} {s : Nat → Int32} (hA : TA M t L) (h8 : n ≤ 8) (hx : RX M 1 s n) : K 9 mX5_tree [.ref 0] M (fun r M' => M'.1 28 1 = 0 ∧ (∀ c, c ≠ 28 → 18 < c → M'.1 c = M.1 c) ∧ M'.2 = M.2 ∧ (∀ k, k ≠ 6 → M'.1 0 k = M.1 0 k) ∧ ((trS t L s).2.1 = true → r = some (.int (-100 - nI (trS t L s).1)) ∧ RX M' 1 s n ∧ M'.1 0 6 = M.1 0 6) ∧ ((trS t L s).2.1 = false → ∃ m, RF (trS t L s).2.2 m ∧ r = some (.int (nI m)) ∧ RX M' 1 (trS t L s).2.2 m ∧ M'.1 0 6 = 0)) := by
  have e2 := trS_2 (t := t) (L := L) s
  refine K_go 0 o_X5_tree [none, none] rfl (Nat.le_of_ble_eq_true rfl) ?_
  simp only [lvA_i, lvA_a, lvA_l, lvA_nil, List.cons_append, List.nil_append]
  refine J_blk a_X5_tree_0 ?_
  simp only [b_X5_tree_0, w_aload_n0, w_getf5, ne0_28, ne0_10, w_nil, kd_0, kd_1, kd_2, kd_3, kd_4, kd_5, kd_6, kd_7, kd_10, kd_11, kd_12, kd_13, kd_14, kd_15, kd_16, kd_19, kd_28, kd_29, kd_30, kd_31, kd_32, kd_33, kd_34, kd_35, kd_36, kd_37, kd_38, kd_39, kd_40, kd_41, kd_42, kd_43, kd_44, kd_45, ln_2, ln_3, ln_4, ln_5, ln_6, ln_7, ln_11, ln_12, ln_13, ln_14, ln_15, ln_16, ln_29, ln_30, ln_32, ln_33, ln_34, ln_35, ln_36, ln_37, ln_38, ln_40, ln_41, ln_42, ln_43, ln_45, Option.toList_some, Option.toList_none, List.cons_append, List.nil_append, true_and, and_true, if_true, if_false, true_or, or_true, Nat.reduceAdd, Int.reduceAdd, Bool.false_eq_true, tn_0, tn_1, tn_2, tn_3, tn_4, tn_5, tn_6, tn_7]
  refine J_callV (ci := 3) (tellTo_c hA s) k_X5_tree_8 o_X3_tellTo (rfl) rfl rfl rfl (by decide) rfl (Nat.le_of_ble_eq_true rfl) ?_
  rintro r M1 ⟨rfl, a1, a2, a3, a4⟩
  generalize trS t L s = st at *
  obtain ⟨fr, w, row⟩ := st
  dsimp only at *
  have hx1 : RX M1 1 s n := RX_of hx (fun i hi => a4.1 _ (by omega) (by omega))
  have xz : M1.1 1 10 = s 2 := hx1.2.2.2.1
  cases w
  · refine J_blk a_X5_tree_11 ?_
    simp only [b_X5_tree_11, w_istore1, nl_1n, nl_1i, nl_1a, w_aload_n0, w_getf5, ne0_28, w_getf3, w_istore2, nl_2n, nl_2i, nl_2a, w_iconst_0, w_putf3, w_iload_n1, w_if_ne, w_nil, kd_0, kd_1, kd_2, kd_3, kd_4, kd_5, kd_6, kd_7, kd_10, kd_11, kd_12, kd_13, kd_14, kd_15, kd_16, kd_19, kd_28, kd_29, kd_30, kd_31, kd_32, kd_33, kd_34, kd_35, kd_36, kd_37, kd_38, kd_39, kd_40, kd_41, kd_42, kd_43, kd_44, kd_45, ln_2, ln_3, ln_4, ln_5, ln_6, ln_7, ln_11, ln_12, ln_13, ln_14, ln_15, ln_16, ln_29, ln_30, ln_32, ln_33, ln_34, ln_35, ln_36, ln_37, ln_38, ln_40, ln_41, ln_42, ln_43, ln_45, Option.toList_some, Option.toList_none, List.cons_append, List.nil_append, true_and, and_true, if_true, if_false, true_or, or_true, Nat.reduceAdd, Int.reduceAdd, Bool.false_eq_true, tn_0, tn_1, tn_2, tn_3, tn_4, tn_5, tn_6, tn_7, a1]
    refine ⟨fun _ => ?_, fun c => absurd c (by decide)⟩
    obtain ⟨m, f1, s1, f2, f3⟩ := a3 rfl
    have hm := f1.2.1
    have e10 : (u1 M1 28 1 0).1 1 10 = s 2 := by rw [u1_o _ _ _ _ (by decide)]; exact xz
    refine J_blk a_X5_tree_37 ?_
    simp only [b_X5_tree_37, w_aload_n0, w_getf5, ne0_10, ne0_1, w_getf4, w_putf4, w_nil, kd_0, kd_1, kd_2, kd_3, kd_4, kd_5, kd_6, kd_7, kd_10, kd_11, kd_12, kd_13, kd_14, kd_15, kd_16, kd_19, kd_28, kd_29, kd_30, kd_31, kd_32, kd_33, kd_34, kd_35, kd_36, kd_37, kd_38, kd_39, kd_40, kd_41, kd_42, kd_43, kd_44, kd_45, ln_2, ln_3, ln_4, ln_5, ln_6, ln_7, ln_11, ln_12, ln_13, ln_14, ln_15, ln_16, ln_29, ln_30, ln_32, ln_33, ln_34, ln_35, ln_36, ln_37, ln_38, ln_40, ln_41, ln_42, ln_43, ln_45, Option.toList_some, Option.toList_none, List.cons_append, List.nil_append, true_and, and_true, if_true, if_false, true_or, or_true, Nat.reduceAdd, Int.reduceAdd, Bool.false_eq_true, tn_0, tn_1, tn_2, tn_3, tn_4, tn_5, tn_6, tn_7, e10]
    have fz : RX (u1 (u1 M1 28 1 0) 10 10 (s 2)) 10 (upd s1 2 (s 2)) m := RX_f10 (RX_of f2 (fun i hi => u1_o _ _ _ _ (by omega))) _
    refine J_callV (ci := 4) (copyFrom_c hm fz (Or.inl rfl) (Or.inr (Or.inl rfl)) (by decide)) k_X5_tree_59 o_X4_copyFrom (rfl) rfl rfl rfl (by decide) rfl (Nat.le_of_ble_eq_true rfl) ?_
    rintro r M2 ⟨rfl, g1, g2⟩
    have gx : RX M2 1 row m := RX_congr (fun j hj => by
      simp only [upd]
      split
      · next q => rw [q]; exact e2.symm
      · next q => exact f3 j hj q) hm g1
    have x7 : (u1 M2 0 6 0).1 1 7 = nI m := by rw [u1_o _ _ _ _ (by decide)]; exact gx.1
    refine J_blk a_X5_tree_62 ?_
    simp only [b_X5_tree_62, w_aload_n0, w_iconst_0, w_putf5, w_getf5, ne0_1, w_getf4, w_ireti, kd_0, kd_1, kd_2, kd_3, kd_4, kd_5, kd_6, kd_7, kd_10, kd_11, kd_12, kd_13, kd_14, kd_15, kd_16, kd_19, kd_28, kd_29, kd_30, kd_31, kd_32, kd_33, kd_34, kd_35, kd_36, kd_37, kd_38, kd_39, kd_40, kd_41, kd_42, kd_43, kd_44, kd_45, ln_2, ln_3, ln_4, ln_5, ln_6, ln_7, ln_11, ln_12, ln_13, ln_14, ln_15, ln_16, ln_29, ln_30, ln_32, ln_33, ln_34, ln_35, ln_36, ln_37, ln_38, ln_40, ln_41, ln_42, ln_43, ln_45, Option.toList_some, Option.toList_none, List.cons_append, List.nil_append, true_and, and_true, if_true, if_false, true_or, or_true, Nat.reduceAdd, Int.reduceAdd, Bool.false_eq_true, tn_0, tn_1, tn_2, tn_3, tn_4, tn_5, tn_6, tn_7, x7]
    refine ⟨?_, fun c c1 c2 => ?_, ?_, fun k hk => ?_, fun q => absurd q (by decide), fun _ => ⟨m, f1, rfl, RX_of gx (fun i hi => u1_o _ _ _ _ (by omega)), u1_at _ _ _ _⟩⟩
    · rw [u1_o _ _ _ _ (by decide), g2.1 28 (by omega), u1_o _ _ _ _ (by decide), u1_at]
    · rw [u1_o _ _ _ _ (by omega), g2.1 c (by omega), u1_o _ _ _ _ (by omega), u1_o _ _ _ _ c1, a4.1 c c1 (by omega)]
    · exact g2.2.trans a4.2
    · rw [u1_x (Or.inr hk), g2.1 0 (by omega), u1_o _ _ _ _ (by decide), u1_o _ _ _ _ (by decide), a4.1 0 (by decide) (by omega)]
  · refine J_blk a_X5_tree_11 ?_
    simp only [b_X5_tree_11, w_istore1, nl_1n, nl_1i, nl_1a, w_aload_n0, w_getf5, ne0_28, w_getf3, w_istore2, nl_2n, nl_2i, nl_2a, w_iconst_0, w_putf3, w_iload_n1, w_if_ne, w_nil, kd_0, kd_1, kd_2, kd_3, kd_4, kd_5, kd_6, kd_7, kd_10, kd_11, kd_12, kd_13, kd_14, kd_15, kd_16, kd_19, kd_28, kd_29, kd_30, kd_31, kd_32, kd_33, kd_34, kd_35, kd_36, kd_37, kd_38, kd_39, kd_40, kd_41, kd_42, kd_43, kd_44, kd_45, ln_2, ln_3, ln_4, ln_5, ln_6, ln_7, ln_11, ln_12, ln_13, ln_14, ln_15, ln_16, ln_29, ln_30, ln_32, ln_33, ln_34, ln_35, ln_36, ln_37, ln_38, ln_40, ln_41, ln_42, ln_43, ln_45, Option.toList_some, Option.toList_none, List.cons_append, List.nil_append, true_and, and_true, if_true, if_false, true_or, or_true, Nat.reduceAdd, Int.reduceAdd, Bool.false_eq_true, tn_0, tn_1, tn_2, tn_3, tn_4, tn_5, tn_6, tn_7, a1]
    refine ⟨fun c => absurd rfl c, fun _ => ?_⟩
    refine J_blk a_X5_tree_32 ?_
    simp only [b_X5_tree_32, w_bipush, ci_m100, w_iload_n2, w_isub, w_ireti, kd_0, kd_1, kd_2, kd_3, kd_4, kd_5, kd_6, kd_7, kd_10, kd_11, kd_12, kd_13, kd_14, kd_15, kd_16, kd_19, kd_28, kd_29, kd_30, kd_31, kd_32, kd_33, kd_34, kd_35, kd_36, kd_37, kd_38, kd_39, kd_40, kd_41, kd_42, kd_43, kd_44, kd_45, ln_2, ln_3, ln_4, ln_5, ln_6, ln_7, ln_11, ln_12, ln_13, ln_14, ln_15, ln_16, ln_29, ln_30, ln_32, ln_33, ln_34, ln_35, ln_36, ln_37, ln_38, ln_40, ln_41, ln_42, ln_43, ln_45, Option.toList_some, Option.toList_none, List.cons_append, List.nil_append, true_and, and_true, if_true, if_false, true_or, or_true, Nat.reduceAdd, Int.reduceAdd, Bool.false_eq_true, tn_0, tn_1, tn_2, tn_3, tn_4, tn_5, tn_6, tn_7]
    refine ⟨u1_at _ _ _ _, fun c c1 c2 => ?_, a4.2, fun k hk => ?_, fun _ => ⟨RX_of hx1 (fun i hi => u1_o _ _ _ _ (by omega)), ?_⟩, fun q => absurd q (by decide)⟩
    · rw [u1_o _ _ _ _ c1, a4.1 c c1 (by omega)]
    · rw [u1_o _ _ _ _ (by decide), a4.1 0 (by decide) (by omega)]
    · rw [u1_o _ _ _ _ (by decide), a4.1 0 (by decide) (by omega)]
theorem fd_bits (v : BitVec 64) (k : Nat) (hk : k ≤ 56) : ((v >>> k).signExtend 32) &&& 255#32 = ((v.sshiftRight k) &&& 255#64).signExtend 32 := by
  rw [BitVec.signExtend_eq_setWidth_of_le _ (by decide), BitVec.signExtend_eq_setWidth_of_le _ (by decide)]
  apply BitVec.eq_of_getLsbD_eq
  intro i hi
  rw [BitVec.getLsbD_and, BitVec.getLsbD_setWidth, BitVec.getLsbD_setWidth, BitVec.getLsbD_and, BitVec.getLsbD_ushiftRight, BitVec.getLsbD_sshiftRight]
  by_cases h8 : i < 8
  · have e1 : (255#32).getLsbD i = true := (by decide : ∀ i, i < 8 → (255#32).getLsbD i = true) i h8
    have e2 : (255#64).getLsbD i = true := (by decide : ∀ i, i < 8 → (255#64).getLsbD i = true) i h8
    rw [e1, e2]
    simp [hi, show k + i < 64 by omega]
    omega
  · have e1 : (255#32).getLsbD i = false := by
      have := (by decide : ∀ i, i < 32 → 8 ≤ i → (255#32).getLsbD i = false) i hi (by omega)
      exact this
    have e2 : (255#64).getLsbD i = false := (by decide : ∀ i, i < 32 → 8 ≤ i → (255#64).getLsbD i = false) i hi (by omega)
    rw [e1, e2]
    simp
theorem fd_eq (e : Int64) (j : Nat) (hj : j < 8) : (e.toUInt64 >>> ((8 * nI j).toInt64.toUInt64 &&& Int64.toUInt64 63)).toInt64.toInt32 &&& 255 = fdB e j := by
  have key := fd_bits e.toBitVec (8 * j) (by omega)
  have a1 : (((8 * nI j).toInt64.toUInt64 &&& Int64.toUInt64 63).toBitVec % 64).toNat = 8 * j := (by decide +kernel : ∀ j, j < 8 → (((8 * nI j).toInt64.toUInt64 &&& Int64.toUInt64 63).toBitVec % 64).toNat = 8 * j) j hj
  have a2 : (((8 * nI j).toInt64 &&& 63).toBitVec.smod 64).toNat = 8 * j := (by decide +kernel : ∀ j, j < 8 → (((8 * nI j).toInt64 &&& 63).toBitVec.smod 64).toNat = 8 * j) j hj
  apply Int32.toBitVec_inj.mp
  unfold fdB
  show ((e.toBitVec >>> (((8 * nI j).toInt64.toUInt64 &&& Int64.toUInt64 63).toBitVec % 64)).signExtend 32) &&& 255#32 = ((e.toBitVec.sshiftRight' (((8 * nI j).toInt64 &&& 63).toBitVec.smod 64)) &&& 255#64).signExtend 32
  rw [BitVec.sshiftRight_eq', BitVec.ushiftRight_eq', a1, a2]
  exact key
theorem fd_nI (e : Int64) (j : Nat) (hj : j < 8) : ∃ b, b < 256 ∧ fdB e j = nI b := by
  rw [← fd_eq e j hj]
  generalize (e.toUInt64 >>> ((8 * nI j).toInt64.toUInt64 &&& Int64.toUInt64 63)).toInt64.toInt32 = x
  refine ⟨x.toBitVec.toNat % 256, Nat.mod_lt _ (by decide), ?_⟩
  apply Int32.toBitVec_inj.mp
  rw [Int32.toBitVec_and]
  apply BitVec.eq_of_toNat_eq
  rw [BitVec.toNat_and]
  show x.toBitVec.toNat &&& 255 = (BitVec.ofNat 32 (x.toBitVec.toNat % 256)).toNat
  rw [BitVec.toNat_ofNat, Nat.mod_eq_of_lt (Nat.lt_of_lt_of_le (Nat.mod_lt _ (by decide)) (by decide))]
  exact Nat.and_two_pow_sub_one_eq_mod _ 8
theorem append_c {M : Mm} (e : Int64) (k c : Nat) (h8 : k ≤ 8) (ec : M.1 28 1 = nI c) (hf : c + k ≤ 200) : K 0 mX3_append [.ref 28, .long e, .int (nI k)] M (Rt none (u1 (su M 29 (fdR (M.1 29) c e k)) 28 1 (nI (c + k)))) := by
  have loop : ∀ j, j ≤ k → J 0 mX3_append 3 [some (.ref 28), some (.long e), none, some (.int (nI k)), some (.int (nI j))] [] (u1 (su M 29 (fdR (M.1 29) c e j)) 28 1 (nI (c + j))) (Rt none (u1 (su M 29 (fdR (M.1 29) c e k)) 28 1 (nI (c + k)))) := by
    refine down k ?_ ?_
    · refine J_blk a_X3_append_3 ?_
      simp only [b_X3_append_3, w_iload4, w_iload_n3, w_icmp_ge, w_nil, kd_28, kd_29, ln_29, Option.toList_some, Option.toList_none, List.cons_append, List.nil_append, true_and, and_true, if_true, if_false, true_or, or_true, Nat.reduceAdd, Int.reduceAdd, Bool.false_eq_true, tn_0, tn_1, tn_2, tn_3, tn_4, tn_5, tn_6, tn_7]
      refine ⟨fun _ => ?_, fun h => absurd (Int32.le_refl _) h⟩
      refine J_blk a_X3_append_56 ?_
      simp only [b_X3_append_56, w_vret, kd_28, kd_29, ln_29, Option.toList_some, Option.toList_none, List.cons_append, List.nil_append, true_and, and_true, if_true, if_false, true_or, or_true, Nat.reduceAdd, Int.reduceAdd, Bool.false_eq_true, tn_0, tn_1, tn_2, tn_3, tn_4, tn_5, tn_6, tn_7]
      exact ⟨rfl, rfl⟩
    · intro j hj ih
      have e6 : (u1 (su M 29 (fdR (M.1 29) c e j)) 28 1 (nI (c + j))).1 28 1 = nI (c + j) := u1_at _ _ _ _
      have tj : (nI (c + j)).toNatClampNeg = c + j := nI_clamp (by omega)
      have em : u1 (u1 (u1 (su M 29 (fdR (M.1 29) c e j)) 28 1 (nI (c + j))) 29 (c + j) (fdB e j)) 28 1 (nI (c + j + 1)) = u1 (su M 29 (fdR (M.1 29) c e (j + 1))) 28 1 (nI (c + (j + 1))) := by
        rw [fdR, ← u1_su]
        apply mmx
        · intro a b
          simp only [u1]
          by_cases q1 : a = 28 ∧ b = 1
          · obtain ⟨rfl, rfl⟩ := q1; simp [Nat.add_assoc]
          · simp [q1]
        · rfl
      have e6' : (u1 (u1 (su M 29 (fdR (M.1 29) c e j)) 28 1 (nI (c + j))) 29 (c + j) (fdB e j)).1 28 1 = nI (c + j) := by rw [u1_o _ _ _ _ (by decide)]; exact e6
      have fe := fd_eq e j (by omega)
      refine J_blk a_X3_append_3 ?_
      simp only [b_X3_append_3, w_iload4, w_iload_n3, w_icmp_ge, w_nil, kd_28, kd_29, ln_29, Option.toList_some, Option.toList_none, List.cons_append, List.nil_append, true_and, and_true, if_true, if_false, true_or, or_true, Nat.reduceAdd, Int.reduceAdd, Bool.false_eq_true, tn_0, tn_1, tn_2, tn_3, tn_4, tn_5, tn_6, tn_7]
      refine ⟨fun h => absurd h (nI_ge hj (by omega)), fun _ => ?_⟩
      refine J_blk a_X3_append_9 ?_
      simp only [b_X3_append_9, w_aload_n0, w_getf3, w_sipush, ci_200, w_icmp_ge, w_nil, kd_28, kd_29, ln_29, Option.toList_some, Option.toList_none, List.cons_append, List.nil_append, true_and, and_true, if_true, if_false, true_or, or_true, Nat.reduceAdd, Int.reduceAdd, Bool.false_eq_true, tn_0, tn_1, tn_2, tn_3, tn_4, tn_5, tn_6, tn_7, e6]
      refine ⟨fun h => absurd h (nI_ge (b := 200) (by omega) (by decide)), fun _ => ?_⟩
      refine J_blk a_X3_append_19 ?_
      simp only [b_X3_append_19, w_aload_n0, w_getf3, ne0_1, w_lload_n1, w_bipush, ci_8, w_iload4, w_imul, w_lushr, w_l2i, w_sipush, ci_255, w_iand, w_iast, w_dup_i, w_dup_a, w_iconst_1, w_iadd, w_putf3, w_iinc4, nl_4n, nl_4i, nl_4a, ci_1, w_goto, kd_28, kd_29, ln_29, Option.toList_some, Option.toList_none, List.cons_append, List.nil_append, true_and, and_true, if_true, if_false, true_or, or_true, Nat.reduceAdd, Int.reduceAdd, Bool.false_eq_true, tn_0, tn_1, tn_2, tn_3, tn_4, tn_5, tn_6, tn_7, e6, tj, fe, e6', nI_1, em]
      exact ⟨vinN (show c + j < 200 by omega) (by decide), ih⟩
  have l0 := loop 0 (by omega)
  rw [fdR, su_self, Nat.add_zero, ← ec] at l0
  rw [show u1 M 28 1 (M.1 28 1) = M by
    apply mmx
    · intro a b
      simp only [u1]
      by_cases q1 : a = 28 ∧ b = 1
      · obtain ⟨rfl, rfl⟩ := q1; simp
      · simp [q1]
    · rfl] at l0
  refine K_go 2 o_X3_append [none] rfl (Nat.le_of_ble_eq_true rfl) ?_
  simp only [lvA_i, lvA_a, lvA_l, lvA_nil, List.cons_append, List.nil_append]
  refine J_blk a_X3_append_0 ?_
  simp only [b_X3_append_0, w_iconst_0, w_istore4, nl_4n, nl_4i, nl_4a, w_nil, kd_28, kd_29, ln_29, Option.toList_some, Option.toList_none, List.cons_append, List.nil_append, true_and, and_true, if_true, if_false, true_or, or_true, Nat.reduceAdd, Int.reduceAdd, Bool.false_eq_true, tn_0, tn_1, tn_2, tn_3, tn_4, tn_5, tn_6, tn_7]
  exact l0
theorem cfeed_f {M : Mm} (e : Int64) (k : Int32) (h : ¬ (1 ≤ k ∧ k ≤ 8)) : K 1 mX5_feed [.ref 0, .long e, .int k] M (Rt (some (.int (-1))) M) := by
  refine K_go 2 o_X5_feed [] rfl (Nat.le_of_ble_eq_true rfl) ?_
  simp only [lvA_i, lvA_a, lvA_l, lvA_nil, List.cons_append, List.nil_append]
  refine J_blk a_X5_feed_0 ?_
  simp only [b_X5_feed_0, w_iload_n3, w_iconst_1, w_bipush, ci_8, w_nil, kd_0, kd_1, kd_2, kd_3, kd_4, kd_5, kd_6, kd_7, kd_10, kd_11, kd_12, kd_13, kd_14, kd_15, kd_16, kd_19, kd_28, kd_29, kd_30, kd_31, kd_32, kd_33, kd_34, kd_35, kd_36, kd_37, kd_38, kd_39, kd_40, kd_41, kd_42, kd_43, kd_44, kd_45, ln_2, ln_3, ln_4, ln_5, ln_6, ln_7, ln_11, ln_12, ln_13, ln_14, ln_15, ln_16, ln_29, ln_30, ln_32, ln_33, ln_34, ln_35, ln_36, ln_37, ln_38, ln_40, ln_41, ln_42, ln_43, ln_45, Option.toList_some, Option.toList_none, List.cons_append, List.nil_append, true_and, and_true, if_true, if_false, true_or, or_true, Nat.reduceAdd, Int.reduceAdd, Bool.false_eq_true, tn_0, tn_1, tn_2, tn_3, tn_4, tn_5, tn_6, tn_7]
  refine J_callSr (within_c _ _ _ _) k_X5_feed_4 o_X5_within rfl (by decide) rfl (Nat.le_of_ble_eq_true rfl) ?_
  rw [if_neg h]
  refine J_blk a_X5_feed_7 ?_
  simp only [b_X5_feed_7, w_if_ne, w_nil, kd_0, kd_1, kd_2, kd_3, kd_4, kd_5, kd_6, kd_7, kd_10, kd_11, kd_12, kd_13, kd_14, kd_15, kd_16, kd_19, kd_28, kd_29, kd_30, kd_31, kd_32, kd_33, kd_34, kd_35, kd_36, kd_37, kd_38, kd_39, kd_40, kd_41, kd_42, kd_43, kd_44, kd_45, ln_2, ln_3, ln_4, ln_5, ln_6, ln_7, ln_11, ln_12, ln_13, ln_14, ln_15, ln_16, ln_29, ln_30, ln_32, ln_33, ln_34, ln_35, ln_36, ln_37, ln_38, ln_40, ln_41, ln_42, ln_43, ln_45, Option.toList_some, Option.toList_none, List.cons_append, List.nil_append, true_and, and_true, if_true, if_false, true_or, or_true, Nat.reduceAdd, Int.reduceAdd, Bool.false_eq_true, tn_0, tn_1, tn_2, tn_3, tn_4, tn_5, tn_6, tn_7]
  refine ⟨fun c => absurd trivial c, fun _ => ?_⟩
  refine J_blk a_X5_feed_10 ?_
  simp only [b_X5_feed_10, w_iconst_m1, w_ireti, kd_0, kd_1, kd_2, kd_3, kd_4, kd_5, kd_6, kd_7, kd_10, kd_11, kd_12, kd_13, kd_14, kd_15, kd_16, kd_19, kd_28, kd_29, kd_30, kd_31, kd_32, kd_33, kd_34, kd_35, kd_36, kd_37, kd_38, kd_39, kd_40, kd_41, kd_42, kd_43, kd_44, kd_45, ln_2, ln_3, ln_4, ln_5, ln_6, ln_7, ln_11, ln_12, ln_13, ln_14, ln_15, ln_16, ln_29, ln_30, ln_32, ln_33, ln_34, ln_35, ln_36, ln_37, ln_38, ln_40, ln_41, ln_42, ln_43, ln_45, Option.toList_some, Option.toList_none, List.cons_append, List.nil_append, true_and, and_true, if_true, if_false, true_or, or_true, Nat.reduceAdd, Int.reduceAdd, Bool.false_eq_true, tn_0, tn_1, tn_2, tn_3, tn_4, tn_5, tn_6, tn_7]
  first | exact ⟨rfl, rfl⟩ | (simp_all [Rt])
theorem cfeed_n {M : Mm} (e : Int64) (k c : Nat) (h1 : 1 ≤ k) (h8 : k ≤ 8) (hc : c ≤ 200) (ec : M.1 28 1 = nI c) (hf : 200 < c + k) : K 1 mX5_feed [.ref 0, .long e, .int (nI k)] M (Rt (some (.int (-2))) M) := by
  refine K_go 2 o_X5_feed [] rfl (Nat.le_of_ble_eq_true rfl) ?_
  simp only [lvA_i, lvA_a, lvA_l, lvA_nil, List.cons_append, List.nil_append]
  refine J_blk a_X5_feed_0 ?_
  simp only [b_X5_feed_0, w_iload_n3, w_iconst_1, w_bipush, ci_8, w_nil, kd_0, kd_1, kd_2, kd_3, kd_4, kd_5, kd_6, kd_7, kd_10, kd_11, kd_12, kd_13, kd_14, kd_15, kd_16, kd_19, kd_28, kd_29, kd_30, kd_31, kd_32, kd_33, kd_34, kd_35, kd_36, kd_37, kd_38, kd_39, kd_40, kd_41, kd_42, kd_43, kd_44, kd_45, ln_2, ln_3, ln_4, ln_5, ln_6, ln_7, ln_11, ln_12, ln_13, ln_14, ln_15, ln_16, ln_29, ln_30, ln_32, ln_33, ln_34, ln_35, ln_36, ln_37, ln_38, ln_40, ln_41, ln_42, ln_43, ln_45, Option.toList_some, Option.toList_none, List.cons_append, List.nil_append, true_and, and_true, if_true, if_false, true_or, or_true, Nat.reduceAdd, Int.reduceAdd, Bool.false_eq_true, tn_0, tn_1, tn_2, tn_3, tn_4, tn_5, tn_6, tn_7]
  refine J_callSr (within_c _ _ _ _) k_X5_feed_4 o_X5_within rfl (by decide) rfl (Nat.le_of_ble_eq_true rfl) ?_
  rw [if_pos (show 1 ≤ nI k ∧ nI k ≤ 8 from ok3 (m := 8) h1 h8 (by decide))]
  refine J_blk a_X5_feed_7 ?_
  simp only [b_X5_feed_7, w_if_ne, w_nil, kd_0, kd_1, kd_2, kd_3, kd_4, kd_5, kd_6, kd_7, kd_10, kd_11, kd_12, kd_13, kd_14, kd_15, kd_16, kd_19, kd_28, kd_29, kd_30, kd_31, kd_32, kd_33, kd_34, kd_35, kd_36, kd_37, kd_38, kd_39, kd_40, kd_41, kd_42, kd_43, kd_44, kd_45, ln_2, ln_3, ln_4, ln_5, ln_6, ln_7, ln_11, ln_12, ln_13, ln_14, ln_15, ln_16, ln_29, ln_30, ln_32, ln_33, ln_34, ln_35, ln_36, ln_37, ln_38, ln_40, ln_41, ln_42, ln_43, ln_45, Option.toList_some, Option.toList_none, List.cons_append, List.nil_append, true_and, and_true, if_true, if_false, true_or, or_true, Nat.reduceAdd, Int.reduceAdd, Bool.false_eq_true, tn_0, tn_1, tn_2, tn_3, tn_4, tn_5, tn_6, tn_7]
  refine ⟨fun _ => ?_, fun c => absurd c (by decide)⟩
  refine J_blk a_X5_feed_12 ?_
  simp only [b_X5_feed_12, w_aload_n0, w_getf5, ne0_28, w_getf3, w_iload_n3, w_iadd, w_sipush, ci_200, w_icmp_le, w_nil, kd_0, kd_1, kd_2, kd_3, kd_4, kd_5, kd_6, kd_7, kd_10, kd_11, kd_12, kd_13, kd_14, kd_15, kd_16, kd_19, kd_28, kd_29, kd_30, kd_31, kd_32, kd_33, kd_34, kd_35, kd_36, kd_37, kd_38, kd_39, kd_40, kd_41, kd_42, kd_43, kd_44, kd_45, ln_2, ln_3, ln_4, ln_5, ln_6, ln_7, ln_11, ln_12, ln_13, ln_14, ln_15, ln_16, ln_29, ln_30, ln_32, ln_33, ln_34, ln_35, ln_36, ln_37, ln_38, ln_40, ln_41, ln_42, ln_43, ln_45, Option.toList_some, Option.toList_none, List.cons_append, List.nil_append, true_and, and_true, if_true, if_false, true_or, or_true, Nat.reduceAdd, Int.reduceAdd, Bool.false_eq_true, tn_0, tn_1, tn_2, tn_3, tn_4, tn_5, tn_6, tn_7, ec, nI_add]
  refine ⟨fun c => absurd c (nI_ge (a := 200) hf (by omega)), fun _ => ?_⟩
  refine J_blk a_X5_feed_27 ?_
  simp only [b_X5_feed_27, w_bipush, ci_m2, w_ireti, kd_0, kd_1, kd_2, kd_3, kd_4, kd_5, kd_6, kd_7, kd_10, kd_11, kd_12, kd_13, kd_14, kd_15, kd_16, kd_19, kd_28, kd_29, kd_30, kd_31, kd_32, kd_33, kd_34, kd_35, kd_36, kd_37, kd_38, kd_39, kd_40, kd_41, kd_42, kd_43, kd_44, kd_45, ln_2, ln_3, ln_4, ln_5, ln_6, ln_7, ln_11, ln_12, ln_13, ln_14, ln_15, ln_16, ln_29, ln_30, ln_32, ln_33, ln_34, ln_35, ln_36, ln_37, ln_38, ln_40, ln_41, ln_42, ln_43, ln_45, Option.toList_some, Option.toList_none, List.cons_append, List.nil_append, true_and, and_true, if_true, if_false, true_or, or_true, Nat.reduceAdd, Int.reduceAdd, Bool.false_eq_true, tn_0, tn_1, tn_2, tn_3, tn_4, tn_5, tn_6, tn_7]
  first | exact ⟨rfl, rfl⟩ | (simp_all [Rt])
theorem cfeed_t {M : Mm} (e : Int64) (k c : Nat) (h1 : 1 ≤ k) (h8 : k ≤ 8) (ec : M.1 28 1 = nI c) (hf : c + k ≤ 200) : K 1 mX5_feed [.ref 0, .long e, .int (nI k)] M (Rt (some (.int (nI (c + k)))) (u1 (su M 29 (fdR (M.1 29) c e k)) 28 1 (nI (c + k)))) := by
  have e6 : (u1 (su M 29 (fdR (M.1 29) c e k)) 28 1 (nI (c + k))).1 28 1 = nI (c + k) := u1_at _ _ _ _
  refine K_go 2 o_X5_feed [] rfl (Nat.le_of_ble_eq_true rfl) ?_
  simp only [lvA_i, lvA_a, lvA_l, lvA_nil, List.cons_append, List.nil_append]
  refine J_blk a_X5_feed_0 ?_
  simp only [b_X5_feed_0, w_iload_n3, w_iconst_1, w_bipush, ci_8, w_nil, kd_0, kd_1, kd_2, kd_3, kd_4, kd_5, kd_6, kd_7, kd_10, kd_11, kd_12, kd_13, kd_14, kd_15, kd_16, kd_19, kd_28, kd_29, kd_30, kd_31, kd_32, kd_33, kd_34, kd_35, kd_36, kd_37, kd_38, kd_39, kd_40, kd_41, kd_42, kd_43, kd_44, kd_45, ln_2, ln_3, ln_4, ln_5, ln_6, ln_7, ln_11, ln_12, ln_13, ln_14, ln_15, ln_16, ln_29, ln_30, ln_32, ln_33, ln_34, ln_35, ln_36, ln_37, ln_38, ln_40, ln_41, ln_42, ln_43, ln_45, Option.toList_some, Option.toList_none, List.cons_append, List.nil_append, true_and, and_true, if_true, if_false, true_or, or_true, Nat.reduceAdd, Int.reduceAdd, Bool.false_eq_true, tn_0, tn_1, tn_2, tn_3, tn_4, tn_5, tn_6, tn_7]
  refine J_callSr (within_c _ _ _ _) k_X5_feed_4 o_X5_within rfl (by decide) rfl (Nat.le_of_ble_eq_true rfl) ?_
  rw [if_pos (show 1 ≤ nI k ∧ nI k ≤ 8 from ok3 (m := 8) h1 h8 (by decide))]
  refine J_blk a_X5_feed_7 ?_
  simp only [b_X5_feed_7, w_if_ne, w_nil, kd_0, kd_1, kd_2, kd_3, kd_4, kd_5, kd_6, kd_7, kd_10, kd_11, kd_12, kd_13, kd_14, kd_15, kd_16, kd_19, kd_28, kd_29, kd_30, kd_31, kd_32, kd_33, kd_34, kd_35, kd_36, kd_37, kd_38, kd_39, kd_40, kd_41, kd_42, kd_43, kd_44, kd_45, ln_2, ln_3, ln_4, ln_5, ln_6, ln_7, ln_11, ln_12, ln_13, ln_14, ln_15, ln_16, ln_29, ln_30, ln_32, ln_33, ln_34, ln_35, ln_36, ln_37, ln_38, ln_40, ln_41, ln_42, ln_43, ln_45, Option.toList_some, Option.toList_none, List.cons_append, List.nil_append, true_and, and_true, if_true, if_false, true_or, or_true, Nat.reduceAdd, Int.reduceAdd, Bool.false_eq_true, tn_0, tn_1, tn_2, tn_3, tn_4, tn_5, tn_6, tn_7]
  refine ⟨fun _ => ?_, fun c => absurd c (by decide)⟩
  refine J_blk a_X5_feed_12 ?_
  simp only [b_X5_feed_12, w_aload_n0, w_getf5, ne0_28, w_getf3, w_iload_n3, w_iadd, w_sipush, ci_200, w_icmp_le, w_nil, kd_0, kd_1, kd_2, kd_3, kd_4, kd_5, kd_6, kd_7, kd_10, kd_11, kd_12, kd_13, kd_14, kd_15, kd_16, kd_19, kd_28, kd_29, kd_30, kd_31, kd_32, kd_33, kd_34, kd_35, kd_36, kd_37, kd_38, kd_39, kd_40, kd_41, kd_42, kd_43, kd_44, kd_45, ln_2, ln_3, ln_4, ln_5, ln_6, ln_7, ln_11, ln_12, ln_13, ln_14, ln_15, ln_16, ln_29, ln_30, ln_32, ln_33, ln_34, ln_35, ln_36, ln_37, ln_38, ln_40, ln_41, ln_42, ln_43, ln_45, Option.toList_some, Option.toList_none, List.cons_append, List.nil_append, true_and, and_true, if_true, if_false, true_or, or_true, Nat.reduceAdd, Int.reduceAdd, Bool.false_eq_true, tn_0, tn_1, tn_2, tn_3, tn_4, tn_5, tn_6, tn_7, ec, nI_add]
  refine ⟨fun _ => ?_, fun c => absurd (nI_le (b := 200) hf (by decide)) c⟩
  refine J_blk a_X5_feed_30 ?_
  simp only [b_X5_feed_30, w_aload_n0, w_getf5, ne0_28, w_lload_n1, w_iload_n3, w_nil, kd_0, kd_1, kd_2, kd_3, kd_4, kd_5, kd_6, kd_7, kd_10, kd_11, kd_12, kd_13, kd_14, kd_15, kd_16, kd_19, kd_28, kd_29, kd_30, kd_31, kd_32, kd_33, kd_34, kd_35, kd_36, kd_37, kd_38, kd_39, kd_40, kd_41, kd_42, kd_43, kd_44, kd_45, ln_2, ln_3, ln_4, ln_5, ln_6, ln_7, ln_11, ln_12, ln_13, ln_14, ln_15, ln_16, ln_29, ln_30, ln_32, ln_33, ln_34, ln_35, ln_36, ln_37, ln_38, ln_40, ln_41, ln_42, ln_43, ln_45, Option.toList_some, Option.toList_none, List.cons_append, List.nil_append, true_and, and_true, if_true, if_false, true_or, or_true, Nat.reduceAdd, Int.reduceAdd, Bool.false_eq_true, tn_0, tn_1, tn_2, tn_3, tn_4, tn_5, tn_6, tn_7]
  refine J_callVr (ci := 3) (append_c e k c h8 ec hf) k_X5_feed_36 o_X3_append (rfl) rfl rfl rfl (by decide) rfl (Nat.le_of_ble_eq_true rfl) ?_
  refine J_blk a_X5_feed_39 ?_
  simp only [b_X5_feed_39, w_aload_n0, w_getf5, ne0_28, w_getf3, w_ireti, kd_0, kd_1, kd_2, kd_3, kd_4, kd_5, kd_6, kd_7, kd_10, kd_11, kd_12, kd_13, kd_14, kd_15, kd_16, kd_19, kd_28, kd_29, kd_30, kd_31, kd_32, kd_33, kd_34, kd_35, kd_36, kd_37, kd_38, kd_39, kd_40, kd_41, kd_42, kd_43, kd_44, kd_45, ln_2, ln_3, ln_4, ln_5, ln_6, ln_7, ln_11, ln_12, ln_13, ln_14, ln_15, ln_16, ln_29, ln_30, ln_32, ln_33, ln_34, ln_35, ln_36, ln_37, ln_38, ln_40, ln_41, ln_42, ln_43, ln_45, Option.toList_some, Option.toList_none, List.cons_append, List.nil_append, true_and, and_true, if_true, if_false, true_or, or_true, Nat.reduceAdd, Int.reduceAdd, Bool.false_eq_true, tn_0, tn_1, tn_2, tn_3, tn_4, tn_5, tn_6, tn_7, e6]
  exact ⟨rfl, rfl⟩

