/-! the class: the whole text -/
section PU
variable {t : Nat → Nat} {L fr : Nat}
theorem wd_inj {l1 l2 : List Nat} (h1 : wdB t L fr l1 = true) (h2 : wdB t L fr l2 = true) : l1 = l2 := by
  obtain ⟨a1, b1⟩ := (wd_iff _ _ _ _).mp h1
  obtain ⟨a2, b2⟩ := (wd_iff _ _ _ _).mp h2
  have hl : l1.length = l2.length := by omega
  refine List.ext_getElem hl (fun i g1 g2 => ?_)
  have e1 := b1 i g1
  have e2 := b2 i g2
  rw [e1] at e2
  simpa [List.getD_eq_getElem?_getD, g1, g2] using e2
theorem kd_no {l : List Nat} (h : wdB t L fr l = true) (hn : l ≠ [98, 114, 97, 110, 99, 104] ∧ l ≠ [115, 112, 117, 114] ∧ l ≠ [98, 111, 117, 103, 104] ∧ l ≠ [98, 117, 100] ∧ l ≠ [108, 105, 109, 98] ∧ l ≠ [103, 114, 97, 102, 116]) : kdH t L fr = -1 := by
  unfold kdH
  rw [if_neg (fun q => hn.1 (wd_inj h q)), if_neg (fun q => hn.2.1 (wd_inj h q)), if_neg (fun q => hn.2.2.1 (wd_inj h q)), if_neg (fun q => hn.2.2.2.1 (wd_inj h q)), if_neg (fun q => hn.2.2.2.2.1 (wd_inj h q)), if_neg (fun q => hn.2.2.2.2.2 (wd_inj h q))]
theorem la_rel (t : Nat → Nat) (L fr : Nat) : (∃ a, a < 4 ∧ laC t L fr = nI a ∧ laH t L fr = nI (4 + a)) ∨ (laC t L fr = -1 ∧ laH t L fr = -1) := by
  unfold laC laH
  by_cases h1 : wdB t L fr [115, 104, 97, 100, 101] = true
  · rw [if_pos h1, if_pos h1]; exact Or.inl ⟨0, by decide, rfl, rfl⟩
  · rw [if_neg h1, if_neg h1]
    by_cases h2 : wdB t L fr [115, 117, 110] = true
    · rw [if_pos h2, if_pos h2]; exact Or.inl ⟨1, by decide, rfl, rfl⟩
    · rw [if_neg h2, if_neg h2]
      by_cases h3 : wdB t L fr [114, 97, 105, 110] = true
      · rw [if_pos h3, if_pos h3]; exact Or.inl ⟨2, by decide, rfl, rfl⟩
      · rw [if_neg h3, if_neg h3]
        by_cases h4 : wdB t L fr [102, 114, 111, 115, 116] = true
        · rw [if_pos h4, if_pos h4]; exact Or.inl ⟨3, by decide, rfl, rfl⟩
        · rw [if_neg h4, if_neg h4]; exact Or.inr ⟨rfl, rfl⟩
theorem kd_la (h : 0 ≤ kdH t L fr) : laC t L fr = -1 := by
  have no : ∀ l, wdB t L fr l = true → (l ≠ [98, 114, 97, 110, 99, 104] ∧ l ≠ [115, 112, 117, 114] ∧ l ≠ [98, 111, 117, 103, 104] ∧ l ≠ [98, 117, 100] ∧ l ≠ [108, 105, 109, 98] ∧ l ≠ [103, 114, 97, 102, 116]) → False := by
    intro l h1 h2
    rw [kd_no h1 h2] at h
    exact absurd h (by decide)
  unfold laC
  rw [if_neg (fun q => no _ q (by decide)), if_neg (fun q => no _ q (by decide)), if_neg (fun q => no _ q (by decide)), if_neg (fun q => no _ q (by decide))]
theorem kd_neg (h : ¬ 0 ≤ kdH t L fr) : ¬ (0 ≤ kdH t L fr ∧ kdH t L fr ≤ 5) := fun q => h q.1
end PU
def TlP (t : Nat → Nat) (L : Nat) (s0 : Nat → Int32) (M : Mm) : Option Value → Mm → Prop := fun r M' => r = some (.int (bI (!(trS t L s0).2.1))) ∧ M'.1 28 2 = nI (trS t L s0).1 ∧ TA M' t L ∧ ((trS t L s0).2.1 = false → ∃ m, RF (trS t L s0).2.2 m ∧ RT M' (trS t L s0).2.2 m) ∧ FX M M'
theorem tellTo_c {M : Mm} {t : Nat → Nat} {L : Nat} (hA : TA M t L) (s0 : Nat → Int32) : K 8 mX3_tellTo [.ref 28, .ref 10] M (TlP t L s0 M) := by
  have hL := hA.2.1
  have hb := hA.2.2.1
  have fin : ∀ (st : Ps) (n : Nat) (M1 : Mm) (z2 z3 z4 : Option Value), TS M1 t L st.1 st.2.1 → (st.2.1 = false → RF st.2.2 n ∧ RT M1 st.2.2 n) → FX M M1 → st = trS t L s0 → J 8 mX3_tellTo 110 [some (.ref 28), some (.ref 10), z2, z3, z4] [] M1 (TlP t L s0 M) := by
    intro st n M1 z2 z3 z4 g1 g2 g3 g4
    have x5 := g1.2.2.2.2.2
    have out : ∀ r, r = some (.int (bI (!st.2.1))) → TlP t L s0 M r M1 := by
      intro r hr
      unfold TlP
      rw [← g4]
      exact ⟨hr, g1.2.2.1, g1.1, fun q => ⟨n, g2 q⟩, g3⟩
    generalize st.2.1 = w at *
    cases w
    · refine J_blk a_X3_tellTo_110 ?_
      simp only [b_X3_tellTo_110, w_aload_n0, w_getf3, w_if_ne, w_nil, kd_28, kd_29, ln_29, Option.toList_some, Option.toList_none, List.cons_append, List.nil_append, true_and, and_true, if_true, if_false, true_or, or_true, Nat.reduceAdd, Int.reduceAdd, Bool.false_eq_true, tn_0, tn_1, tn_2, tn_3, tn_4, tn_5, tn_6, tn_7, x5]
      refine ⟨fun c => absurd rfl c, fun _ => ?_⟩
      refine J_blk a_X3_tellTo_117 ?_
      simp only [b_X3_tellTo_117, w_iconst_1, w_goto, kd_28, kd_29, ln_29, Option.toList_some, Option.toList_none, List.cons_append, List.nil_append, true_and, and_true, if_true, if_false, true_or, or_true, Nat.reduceAdd, Int.reduceAdd, Bool.false_eq_true, tn_0, tn_1, tn_2, tn_3, tn_4, tn_5, tn_6, tn_7]
      refine J_blk a_X3_tellTo_122 ?_
      simp only [b_X3_tellTo_122, w_iretz, kd_28, kd_29, ln_29, Option.toList_some, Option.toList_none, List.cons_append, List.nil_append, true_and, and_true, if_true, if_false, true_or, or_true, Nat.reduceAdd, Int.reduceAdd, Bool.false_eq_true, tn_0, tn_1, tn_2, tn_3, tn_4, tn_5, tn_6, tn_7]
      exact out _ rfl
    · refine J_blk a_X3_tellTo_110 ?_
      simp only [b_X3_tellTo_110, w_aload_n0, w_getf3, w_if_ne, w_nil, kd_28, kd_29, ln_29, Option.toList_some, Option.toList_none, List.cons_append, List.nil_append, true_and, and_true, if_true, if_false, true_or, or_true, Nat.reduceAdd, Int.reduceAdd, Bool.false_eq_true, tn_0, tn_1, tn_2, tn_3, tn_4, tn_5, tn_6, tn_7, x5]
      refine ⟨fun _ => ?_, fun c => absurd c (by decide)⟩
      refine J_blk a_X3_tellTo_121 ?_
      simp only [b_X3_tellTo_121, w_iconst_0, w_nil, kd_28, kd_29, ln_29, Option.toList_some, Option.toList_none, List.cons_append, List.nil_append, true_and, and_true, if_true, if_false, true_or, or_true, Nat.reduceAdd, Int.reduceAdd, Bool.false_eq_true, tn_0, tn_1, tn_2, tn_3, tn_4, tn_5, tn_6, tn_7]
      refine J_blk a_X3_tellTo_122 ?_
      simp only [b_X3_tellTo_122, w_iretz, kd_28, kd_29, ln_29, Option.toList_some, Option.toList_none, List.cons_append, List.nil_append, true_and, and_true, if_true, if_false, true_or, or_true, Nat.reduceAdd, Int.reduceAdd, Bool.false_eq_true, tn_0, tn_1, tn_2, tn_3, tn_4, tn_5, tn_6, tn_7]
      exact out _ rfl
  have loop : ∀ f i, f + i = 200 → ∀ (st : Ps) (n : Nat) (M1 : Mm) (z3 z4 : Option Value), TS M1 t L st.1 st.2.1 → (st.2.1 = false → i ≤ st.1 ∧ RF st.2.2 n ∧ RT M1 st.2.2 n) → FX M M1 → trF t L (f + 1) st = trS t L s0 → J 8 mX3_tellTo 20 [some (.ref 28), some (.ref 10), some (.int (nI i)), z3, z4] [] M1 (TlP t L s0 M) := by
    intro f
    induction f with
    | zero =>
      intro i hi st n M1 z3 z4 g1 g2 g3 g4
      have : i = 200 := by omega
      subst this
      have hfr := g1.2.1
      have stop : st.2.1 = true ∨ st.1 = L := by
        by_cases q : st.2.1 = true
        · exact Or.inl q
        · have := (g2 ((Bool.not_eq_true _).mp q)).1
          exact Or.inr (by omega)
      rw [trF, if_pos stop] at g4
      refine J_blk a_X3_tellTo_20 ?_
      simp only [b_X3_tellTo_20, w_iload_n2, w_sipush, ci_200, w_icmp_ge, w_nil, kd_28, kd_29, ln_29, Option.toList_some, Option.toList_none, List.cons_append, List.nil_append, true_and, and_true, if_true, if_false, true_or, or_true, Nat.reduceAdd, Int.reduceAdd, Bool.false_eq_true, tn_0, tn_1, tn_2, tn_3, tn_4, tn_5, tn_6, tn_7]
      refine ⟨fun _ => fin st n M1 _ _ _ g1 (fun q => (g2 q).2) g3 g4, fun c => absurd (by decide) c⟩
    | succ f ih =>
      intro i hi st n M1 z3 z4 g1 g2 g3 g4
      have hfr := g1.2.1
      have x1 := g1.1.1
      have x2 := g1.2.2.1
      have x5 := g1.2.2.2.2.2
      refine J_blk a_X3_tellTo_20 ?_
      simp only [b_X3_tellTo_20, w_iload_n2, w_sipush, ci_200, w_icmp_ge, w_nil, kd_28, kd_29, ln_29, Option.toList_some, Option.toList_none, List.cons_append, List.nil_append, true_and, and_true, if_true, if_false, true_or, or_true, Nat.reduceAdd, Int.reduceAdd, Bool.false_eq_true, tn_0, tn_1, tn_2, tn_3, tn_4, tn_5, tn_6, tn_7]
      refine ⟨fun c => absurd c (nI_ge (b := 200) (by omega) (by decide)), fun _ => ?_⟩
      refine J_blk a_X3_tellTo_27 ?_
      simp only [b_X3_tellTo_27, w_aload_n0, w_getf3, w_icmp_ge, w_nil, kd_28, kd_29, ln_29, Option.toList_some, Option.toList_none, List.cons_append, List.nil_append, true_and, and_true, if_true, if_false, true_or, or_true, Nat.reduceAdd, Int.reduceAdd, Bool.false_eq_true, tn_0, tn_1, tn_2, tn_3, tn_4, tn_5, tn_6, tn_7, x1, x2]
      refine ⟨fun c => ?_, fun c => ?_⟩
      · have e : st.1 = L := by
          rcases Nat.lt_or_ge st.1 L with q | q
          · exact absurd c (nI_ge q (by omega))
          · omega
        rw [trF, if_pos (Or.inr e)] at g4
        exact fin st n M1 _ _ _ g1 (fun q => (g2 q).2) g3 g4
      · have hlt : st.1 < L := by
          rcases Nat.lt_or_ge st.1 L with q | q
          · exact q
          · exact absurd (nI_le q (by omega)) c
        by_cases hw : st.2.1 = true
        · rw [trF, if_pos (Or.inl hw)] at g4
          rw [hw] at x5
          refine J_blk a_X3_tellTo_38 ?_
          simp only [b_X3_tellTo_38, w_aload_n0, w_getf3, w_if_ne, w_nil, kd_28, kd_29, ln_29, Option.toList_some, Option.toList_none, List.cons_append, List.nil_append, true_and, and_true, if_true, if_false, true_or, or_true, Nat.reduceAdd, Int.reduceAdd, Bool.false_eq_true, tn_0, tn_1, tn_2, tn_3, tn_4, tn_5, tn_6, tn_7, x5]
          exact ⟨fun _ => fin st n M1 _ _ _ g1 (fun q => (g2 q).2) g3 g4, fun c => absurd c (by decide)⟩
        · have hw' : st.2.1 = false := (Bool.not_eq_true _).mp hw
          obtain ⟨h1, hRF, hRT⟩ := g2 hw'
          have h8 := hRF.2.1
          rw [trF, if_neg (fun q => q.elim hw (fun e => by omega)), show (st.2.2 0).toNatClampNeg = n by rw [hRF.1]; exact nI_clamp (by omega)] at g4
          obtain ⟨fr, w, row⟩ := st
          dsimp only at *
          subst hw'
          have ih' := fun n' M2 z3 z4 => ih (i + 1) (by omega) (itS t L n (fr, false, row)) n' M2 z3 z4
          have lt' := fun q => itS_lt (t := t) (L := L) (n := n) (st := (fr, false, row)) (Nat.le_of_lt hlt) q
          dsimp only at lt'
          rw [itS_mi] at g4 ih' lt'
          have nextw : ∀ (st' : Ps) (z3 z4 : Option Value), (∀ n' M2 z3 z4, TS M2 t L st'.1 st'.2.1 → (st'.2.1 = false → i + 1 ≤ st'.1 ∧ RF st'.2.2 n' ∧ RT M2 st'.2.2 n') → FX M M2 → J 8 mX3_tellTo 20 [some (.ref 28), some (.ref 10), some (.int (nI (i + 1))), z3, z4] [] M2 (TlP t L s0 M)) → st' = (fr, true, row) → J 8 mX3_tellTo 99 [some (.ref 28), some (.ref 10), some (.int (nI i)), z3, z4] [] M1 (TlP t L s0 M) := by
            intro st' z3 z4 go e
            subst e
            refine J_blk a_X3_tellTo_99 ?_
            simp only [b_X3_tellTo_99, w_aload_n0, w_iconst_1, w_putb3, w_nil, kd_28, kd_29, ln_29, Option.toList_some, Option.toList_none, List.cons_append, List.nil_append, true_and, and_true, if_true, if_false, true_or, or_true, Nat.reduceAdd, Int.reduceAdd, Bool.false_eq_true, tn_0, tn_1, tn_2, tn_3, tn_4, tn_5, tn_6, tn_7]
            refine J_blk a_X3_tellTo_104 ?_
            simp only [b_X3_tellTo_104, w_iinc2, nl_2n, nl_2i, nl_2a, ci_1, w_goto, kd_28, kd_29, ln_29, Option.toList_some, Option.toList_none, List.cons_append, List.nil_append, true_and, and_true, if_true, if_false, true_or, or_true, Nat.reduceAdd, Int.reduceAdd, Bool.false_eq_true, tn_0, tn_1, tn_2, tn_3, tn_4, tn_5, tn_6, tn_7, nI_1]
            exact go 0 _ _ _ (TS_5 g1) (fun q => absurd q.symm Bool.false_ne_true) (g3.trans (FT_u1 _ _ _).x)
          refine J_blk a_X3_tellTo_38 ?_
          simp only [b_X3_tellTo_38, w_aload_n0, w_getf3, w_if_ne, w_nil, kd_28, kd_29, ln_29, Option.toList_some, Option.toList_none, List.cons_append, List.nil_append, true_and, and_true, if_true, if_false, true_or, or_true, Nat.reduceAdd, Int.reduceAdd, Bool.false_eq_true, tn_0, tn_1, tn_2, tn_3, tn_4, tn_5, tn_6, tn_7, x5]
          refine ⟨fun c => absurd rfl c, fun _ => ?_⟩
          refine J_blk a_X3_tellTo_45 ?_
          simp only [b_X3_tellTo_45, w_aload_n0, w_nil, kd_28, kd_29, ln_29, Option.toList_some, Option.toList_none, List.cons_append, List.nil_append, true_and, and_true, if_true, if_false, true_or, or_true, Nat.reduceAdd, Int.reduceAdd, Bool.false_eq_true, tn_0, tn_1, tn_2, tn_3, tn_4, tn_5, tn_6, tn_7]
          refine J_callVr (ci := 3) (kindN_c g1) k_X3_tellTo_46 o_X3_kindNamed (rfl) rfl rfl rfl (by decide) rfl (Nat.le_of_ble_eq_true rfl) ?_
          refine J_blk a_X3_tellTo_49 ?_
          simp only [b_X3_tellTo_49, w_istore3, nl_3n, nl_3i, nl_3a, w_aload_n0, w_nil, kd_28, kd_29, ln_29, Option.toList_some, Option.toList_none, List.cons_append, List.nil_append, true_and, and_true, if_true, if_false, true_or, or_true, Nat.reduceAdd, Int.reduceAdd, Bool.false_eq_true, tn_0, tn_1, tn_2, tn_3, tn_4, tn_5, tn_6, tn_7]
          refine J_callVr (ci := 3) (lawN_c g1) k_X3_tellTo_51 o_X3_lawNamed (rfl) rfl rfl rfl (by decide) rfl (Nat.le_of_ble_eq_true rfl) ?_
          refine J_blk a_X3_tellTo_54 ?_
          simp only [b_X3_tellTo_54, w_istore4, nl_4n, nl_4i, nl_4a, w_iload_n3, w_nil, kd_28, kd_29, ln_29, Option.toList_some, Option.toList_none, List.cons_append, List.nil_append, true_and, and_true, if_true, if_false, true_or, or_true, Nat.reduceAdd, Int.reduceAdd, Bool.false_eq_true, tn_0, tn_1, tn_2, tn_3, tn_4, tn_5, tn_6, tn_7]
          refine J_callSr (isKind_c _ _) k_X3_tellTo_57 o_X5_isKind rfl (by decide) rfl (Nat.le_of_ble_eq_true rfl) ?_
          by_cases hk : 0 ≤ kdH t L fr
          · obtain ⟨k, hk5, ek⟩ := kdH_rng t L fr hk
            rw [if_pos (show 0 ≤ kdH t L fr ∧ kdH t L fr ≤ 5 from ⟨hk, by rw [ek]; exact nI_le (b := 5) hk5 (by decide)⟩)]
            have em : miS t L n (fr, false, row) = bhS t L n k (fr, false, row) := by
              unfold miS
              dsimp only
              rw [if_pos hk, ek, nI_clamp (by omega)]
            rw [em] at g4 ih' lt'
            refine J_blk a_X3_tellTo_60 ?_
            simp only [b_X3_tellTo_60, w_if_eq, w_nil, kd_28, kd_29, ln_29, Option.toList_some, Option.toList_none, List.cons_append, List.nil_append, true_and, and_true, if_true, if_false, true_or, or_true, Nat.reduceAdd, Int.reduceAdd, Bool.false_eq_true, tn_0, tn_1, tn_2, tn_3, tn_4, tn_5, tn_6, tn_7]
            refine ⟨fun c => absurd c (by decide), fun _ => ?_⟩
            have x7 : M1.1 10 7 = nI n := by obtain ⟨s, a, -⟩ := hRT; exact a.1
            refine J_blk a_X3_tellTo_63 ?_
            simp only [b_X3_tellTo_63, w_aload_n1, w_getf4, w_bipush, ci_8, w_icmp_ge, w_nil, kd_28, kd_29, ln_29, Option.toList_some, Option.toList_none, List.cons_append, List.nil_append, true_and, and_true, if_true, if_false, true_or, or_true, Nat.reduceAdd, Int.reduceAdd, Bool.false_eq_true, tn_0, tn_1, tn_2, tn_3, tn_4, tn_5, tn_6, tn_7, x7, kd_10]
            refine ⟨fun c => ?_, fun c => ?_⟩
            · have e8 : n = 8 := by
                rcases Nat.lt_or_ge n 8 with q | q
                · exact absurd c (nI_ge (b := 8) q (by decide))
                · omega
              subst e8
              have ew : bhS t L 8 k (fr, false, row) = (fr, true, row) := by
                unfold bhS
                rw [bg_full]
                unfold cuS agS frS onS phS
                simp
              rw [ew] at g4 ih' lt'
              rw [nd_eq] at g4 ih' lt'
              refine J_blk a_X3_tellTo_81 ?_
              simp only [b_X3_tellTo_81, w_iload4, w_nil, kd_28, kd_29, ln_29, Option.toList_some, Option.toList_none, List.cons_append, List.nil_append, true_and, and_true, if_true, if_false, true_or, or_true, Nat.reduceAdd, Int.reduceAdd, Bool.false_eq_true, tn_0, tn_1, tn_2, tn_3, tn_4, tn_5, tn_6, tn_7]
              refine J_callSr (isLaw_c _ _) k_X3_tellTo_83 o_X5_isLaw rfl (by decide) rfl (Nat.le_of_ble_eq_true rfl) ?_
              rw [kd_la hk, if_neg (by decide)]
              refine J_blk a_X3_tellTo_86 ?_
              simp only [b_X3_tellTo_86, w_if_eq, w_nil, kd_28, kd_29, ln_29, Option.toList_some, Option.toList_none, List.cons_append, List.nil_append, true_and, and_true, if_true, if_false, true_or, or_true, Nat.reduceAdd, Int.reduceAdd, Bool.false_eq_true, tn_0, tn_1, tn_2, tn_3, tn_4, tn_5, tn_6, tn_7]
              refine ⟨fun _ => ?_, fun c => absurd trivial c⟩
              exact nextw _ _ _ (fun n' M2 z3 z4 a b c => ih' n' M2 z3 z4 a b c g4) rfl
            · have hn8 : n < 8 := by
                rcases Nat.lt_or_ge n 8 with q | q
                · exact q
                · exact absurd (nI_le (a := 8) q (by omega)) c
              rw [ek]
              refine J_blk a_X3_tellTo_72 ?_
              simp only [b_X3_tellTo_72, w_aload_n0, w_aload_n1, w_iload_n3, w_nil, kd_28, kd_29, ln_29, Option.toList_some, Option.toList_none, List.cons_append, List.nil_append, true_and, and_true, if_true, if_false, true_or, or_true, Nat.reduceAdd, Int.reduceAdd, Bool.false_eq_true, tn_0, tn_1, tn_2, tn_3, tn_4, tn_5, tn_6, tn_7]
              refine J_callV (ci := 3) (tellBranch_c g1 hRT hRF hn8 _ rfl) k_X3_tellTo_75 o_X3_tellBranch (rfl) rfl rfl rfl (by decide) rfl (Nat.le_of_ble_eq_true rfl) ?_
              rintro r M2 ⟨rfl, q1, q2, q3⟩
              refine J_blk a_X3_tellTo_78 ?_
              simp only [b_X3_tellTo_78, w_goto, kd_28, kd_29, ln_29, Option.toList_some, Option.toList_none, List.cons_append, List.nil_append, true_and, and_true, if_true, if_false, true_or, or_true, Nat.reduceAdd, Int.reduceAdd, Bool.false_eq_true, tn_0, tn_1, tn_2, tn_3, tn_4, tn_5, tn_6, tn_7]
              refine J_blk a_X3_tellTo_104 ?_
              simp only [b_X3_tellTo_104, w_iinc2, nl_2n, nl_2i, nl_2a, ci_1, w_goto, kd_28, kd_29, ln_29, Option.toList_some, Option.toList_none, List.cons_append, List.nil_append, true_and, and_true, if_true, if_false, true_or, or_true, Nat.reduceAdd, Int.reduceAdd, Bool.false_eq_true, tn_0, tn_1, tn_2, tn_3, tn_4, tn_5, tn_6, tn_7, nI_1]
              exact ih' (n + 1) M2 _ _ q1 (fun q => ⟨by have := lt' q; omega, (q2 q).2, (q2 q).1⟩) (g3.trans q3) g4
          · rw [if_neg (kd_neg hk)]
            refine J_blk a_X3_tellTo_60 ?_
            simp only [b_X3_tellTo_60, w_if_eq, w_nil, kd_28, kd_29, ln_29, Option.toList_some, Option.toList_none, List.cons_append, List.nil_append, true_and, and_true, if_true, if_false, true_or, or_true, Nat.reduceAdd, Int.reduceAdd, Bool.false_eq_true, tn_0, tn_1, tn_2, tn_3, tn_4, tn_5, tn_6, tn_7]
            refine ⟨fun _ => ?_, fun c => absurd trivial c⟩
            refine J_blk a_X3_tellTo_81 ?_
            simp only [b_X3_tellTo_81, w_iload4, w_nil, kd_28, kd_29, ln_29, Option.toList_some, Option.toList_none, List.cons_append, List.nil_append, true_and, and_true, if_true, if_false, true_or, or_true, Nat.reduceAdd, Int.reduceAdd, Bool.false_eq_true, tn_0, tn_1, tn_2, tn_3, tn_4, tn_5, tn_6, tn_7]
            refine J_callSr (isLaw_c _ _) k_X3_tellTo_83 o_X5_isLaw rfl (by decide) rfl (Nat.le_of_ble_eq_true rfl) ?_
            rcases la_rel t L fr with ⟨a, ha, ea, eh⟩ | ⟨ea, eh⟩
            · rw [ea, if_pos (show 0 ≤ nI a ∧ nI a ≤ 3 from ok2 (m := 3) (by omega) (by decide))]
              have em : miS t L n (fr, false, row) = nuS t L (4 + a) (if a = 3 then 99 else 9) (nx t L fr, false, row) := by
                unfold miS
                dsimp only
                rw [if_neg hk, eh, if_pos (nI_pos' (by omega)), nI_clamp (by omega)]
                congr 1
                by_cases a3 : a = 3
                · subst a3; rfl
                · rw [if_neg a3, if_neg (fun q => a3 (by have := (nI_eq (b := 7) (by omega) (by decide)).mp q; omega))]
              rw [em] at g4 ih' lt'
              refine J_blk a_X3_tellTo_86 ?_
              simp only [b_X3_tellTo_86, w_if_eq, w_nil, kd_28, kd_29, ln_29, Option.toList_some, Option.toList_none, List.cons_append, List.nil_append, true_and, and_true, if_true, if_false, true_or, or_true, Nat.reduceAdd, Int.reduceAdd, Bool.false_eq_true, tn_0, tn_1, tn_2, tn_3, tn_4, tn_5, tn_6, tn_7]
              refine ⟨fun c => absurd c (by decide), fun _ => ?_⟩
              refine J_blk a_X3_tellTo_89 ?_
              simp only [b_X3_tellTo_89, w_aload_n0, w_aload_n1, w_iload4, w_nil, kd_28, kd_29, ln_29, Option.toList_some, Option.toList_none, List.cons_append, List.nil_append, true_and, and_true, if_true, if_false, true_or, or_true, Nat.reduceAdd, Int.reduceAdd, Bool.false_eq_true, tn_0, tn_1, tn_2, tn_3, tn_4, tn_5, tn_6, tn_7]
              refine J_callV (ci := 3) (tellLaw_c g1 hRT h8 ha _ rfl) k_X3_tellTo_93 o_X3_tellLaw (rfl) rfl rfl rfl (by decide) rfl (Nat.le_of_ble_eq_true rfl) ?_
              rintro r M2 ⟨rfl, q1, q2, q3⟩
              refine J_blk a_X3_tellTo_96 ?_
              simp only [b_X3_tellTo_96, w_goto, kd_28, kd_29, ln_29, Option.toList_some, Option.toList_none, List.cons_append, List.nil_append, true_and, and_true, if_true, if_false, true_or, or_true, Nat.reduceAdd, Int.reduceAdd, Bool.false_eq_true, tn_0, tn_1, tn_2, tn_3, tn_4, tn_5, tn_6, tn_7]
              refine J_blk a_X3_tellTo_104 ?_
              simp only [b_X3_tellTo_104, w_iinc2, nl_2n, nl_2i, nl_2a, ci_1, w_goto, kd_28, kd_29, ln_29, Option.toList_some, Option.toList_none, List.cons_append, List.nil_append, true_and, and_true, if_true, if_false, true_or, or_true, Nat.reduceAdd, Int.reduceAdd, Bool.false_eq_true, tn_0, tn_1, tn_2, tn_3, tn_4, tn_5, tn_6, tn_7, nI_1]
              refine ih' n M2 _ _ q1 (fun q => ⟨by have := lt' q; omega, ?_, q2 q⟩) (g3.trans q3) g4
              rw [nu_eq, nd_eq]
              dsimp only
              generalize nuB t L (nx t L fr) (if a = 3 then 99 else 9) = bb
              cases bb
              · exact hRF
              · refine ⟨?_, h8, fun j j1 j2 => ?_⟩
                · simp only [upd, if_true]; rw [if_neg (by omega)]; exact hRF.1
                · simp only [upd, if_true]; rw [if_neg (by omega)]; exact hRF.2.2 j j1 j2
            · rw [ea, if_neg (by decide)]
              have em : miS t L n (fr, false, row) = (fr, true, row) := by
                unfold miS
                dsimp only
                rw [if_neg hk, eh, if_neg (by decide), nd_f]
              rw [em] at g4 ih' lt'
              rw [nd_eq] at g4 ih' lt'
              refine J_blk a_X3_tellTo_86 ?_
              simp only [b_X3_tellTo_86, w_if_eq, w_nil, kd_28, kd_29, ln_29, Option.toList_some, Option.toList_none, List.cons_append, List.nil_append, true_and, and_true, if_true, if_false, true_or, or_true, Nat.reduceAdd, Int.reduceAdd, Bool.false_eq_true, tn_0, tn_1, tn_2, tn_3, tn_4, tn_5, tn_6, tn_7]
              refine ⟨fun _ => ?_, fun c => absurd trivial c⟩
              exact nextw _ _ _ (fun n' M2 z3 z4 a b c => ih' n' M2 z3 z4 a b c g4) rfl
  refine K_go 1 o_X3_tellTo [none, none, none] rfl (Nat.le_of_ble_eq_true rfl) ?_
  simp only [lvA_i, lvA_a, lvA_l, lvA_nil, List.cons_append, List.nil_append]
  refine J_blk a_X3_tellTo_0 ?_
  simp only [b_X3_tellTo_0, w_aload_n1, w_nil, kd_28, kd_29, ln_29, Option.toList_some, Option.toList_none, List.cons_append, List.nil_append, true_and, and_true, if_true, if_false, true_or, or_true, Nat.reduceAdd, Int.reduceAdd, Bool.false_eq_true, tn_0, tn_1, tn_2, tn_3, tn_4, tn_5, tn_6, tn_7]
  refine J_callV (ci := 4) (clear_c (Or.inr (Or.inl rfl)) s0) k_X3_tellTo_1 o_X4_clear (rfl) rfl rfl rfl (by decide) rfl (Nat.le_of_ble_eq_true rfl) ?_
  rintro r M1 ⟨rfl, ⟨s1, a1, a2⟩, a3⟩
  refine J_blk a_X3_tellTo_4 ?_
  simp only [b_X3_tellTo_4, w_aload_n0, w_iconst_0, w_putb3, w_putf3, w_nil, kd_28, kd_29, ln_29, Option.toList_some, Option.toList_none, List.cons_append, List.nil_append, true_and, and_true, if_true, if_false, true_or, or_true, Nat.reduceAdd, Int.reduceAdd, Bool.false_eq_true, tn_0, tn_1, tn_2, tn_3, tn_4, tn_5, tn_6, tn_7]
  have f12 : FT M1 (u1 (u1 M1 28 5 0) 28 3 0) := (FT_u1 _ _ _).trans (FT_u1 _ _ _)
  have tA1 : TA M1 t L := ⟨by rw [a3.1 28 (by omega)]; exact hA.1, hA.2.1, hA.2.2.1, fun i hi => by rw [a3.1 29 (by omega)]; exact hA.2.2.2 i hi⟩
  have tA2 : TA (u1 (u1 M1 28 5 0) 28 3 0) t L := TA_u1 _ (by decide) (TA_u1 _ (by decide) tA1)
  refine J_callV (ci := 3) (step_c (w := false) (to := 0) tA2 (by omega) (by rw [u1_at, nI_0]) (by rw [u1_x (Or.inr (by decide)), u1_at]; rfl)) k_X3_tellTo_15 o_X3_step (rfl) rfl rfl rfl (by decide) rfl (Nat.le_of_ble_eq_true rfl) ?_
  rintro r M3 ⟨rfl, b1, b2⟩
  refine J_blk a_X3_tellTo_18 ?_
  simp only [b_X3_tellTo_18, w_iconst_0, w_istore2, nl_2n, nl_2i, nl_2a, w_nil, kd_28, kd_29, ln_29, Option.toList_some, Option.toList_none, List.cons_append, List.nil_append, true_and, and_true, if_true, if_false, true_or, or_true, Nat.reduceAdd, Int.reduceAdd, Bool.false_eq_true, tn_0, tn_1, tn_2, tn_3, tn_4, tn_5, tn_6, tn_7]
  have f3 := f12.trans b2
  exact loop 200 0 (by omega) (skp t L 0, false, begS s0) 0 M3 _ _ b1 (fun _ => ⟨Nat.zero_le _, ⟨rfl, by omega, fun j j1 j2 => by simp only [begS]; rw [if_neg (by omega), if_neg (by omega), if_neg (by omega), if_neg (by omega), if_neg (by omega), if_pos j2]⟩, ⟨s1, RX_of a1 (fun i hi => f3.1 _ (by omega)), a2⟩⟩) (a3.x.trans f3.x) rfl

