/-! the class: a Tree is surveyed, goes on -/
/-- standing, hindrance, load -/
def smN (M : Mm) (b : Nat) (h l : Nat → Int32) (v : Int32) : Mm := u1 (su (su M (b + 7) h) (b + 8) l) b 11 v
section SM
variable {M : Mm} {b : Nat} {h l : Nat → Int32} {v : Int32}
theorem sm_11 : (smN M b h l v).1 b 11 = v := by simp [smN, u1]
theorem sm_b {k : Nat} (hk : k ≠ 11) : (smN M b h l v).1 b k = M.1 b k := by
  simp only [smN, u1, hk, and_false, if_false]
  rw [su_ne _ _ _ _ (by omega), su_ne _ _ _ _ (by omega)]
theorem sm_7 : (smN M b h l v).1 (b + 7) = h := by unfold smN; rw [u1_o _ _ _ _ (by omega), su_ne _ _ _ _ (by omega), su_at]
theorem sm_8 : (smN M b h l v).1 (b + 8) = l := by unfold smN; rw [u1_o _ _ _ _ (by omega), su_at]
theorem sm_o {c : Nat} (h0 : c ≠ b) (h7 : c ≠ b + 7) (h8 : c ≠ b + 8) : (smN M b h l v).1 c = M.1 c := by unfold smN; rw [u1_o _ _ _ _ h0, su_ne _ _ _ _ h8, su_ne _ _ _ _ h7]
theorem sm_u11 (w : Int32) : u1 (smN M b h l v) b 11 w = smN M b h l w := by
  apply mmx
  · intro a j
    simp only [smN, u1]
    by_cases e : a = b ∧ j = 11
    · simp [e]
    · simp [e]
  · rfl
theorem sm_u7 (j : Nat) (w : Int32) : u1 (smN M b h l v) (b + 7) j w = smN M b (upd h j w) l v := by
  apply mmx
  · intro a i
    by_cases e0 : a = b
    · subst e0; simp [smN, u1, su]
    · by_cases e7 : a = b + 7
      · subst e7; simp [smN, u1, su, upd]
      · simp [smN, u1, su, e0, e7]
  · rfl
theorem sm_u8 (j : Nat) (w : Int32) : u1 (smN M b h l v) (b + 8) j w = smN M b h (upd l j w) v := by
  apply mmx
  · intro a i
    by_cases e0 : a = b
    · subst e0; simp [smN, u1, su]
    · by_cases e8 : a = b + 8
      · subst e8; simp [smN, u1, su, upd]
      · simp [smN, u1, su, e0, e8]
  · rfl
theorem sm_ini : smN M b h l v = su (su (u1 M b 11 v) (b + 7) h) (b + 8) l := by
  apply mmx
  · intro a i
    by_cases e0 : a = b
    · subst e0; simp [smN, u1, su]
    · simp [smN, u1, su, e0]
  · rfl
theorem sm_RX {s : Nat → Int32} {n : Nat} (hx : RX M b s n) : RX (smN M b h l v) b s n := by
  obtain ⟨x7, xy, xc, xz, x6, xl, xo⟩ := hx
  refine ⟨by rw [sm_b (by decide)]; exact x7, by rw [sm_b (by decide)]; exact xy, by rw [sm_b (by decide)]; exact xc, by rw [sm_b (by decide)]; exact xz, by rw [sm_b (by decide)]; exact x6, fun j hj => by rw [sm_o (by omega) (by omega) (by omega)]; exact xl j hj, fun o ho => ?_⟩
  rw [sm_o (by omega) (by omega) (by omega), sm_o (by omega) (by omega) (by omega), sm_o (by omega) (by omega) (by omega), sm_o (by omega) (by omega) (by omega), sm_o (by omega) (by omega) (by omega)]
  exact xo o ho
theorem sm_FB : FB b M (smN M b h l v) := ⟨fun c hc => sm_o (by omega) (by omega) (by omega), rfl⟩
end SM
def onN (s : Nat → Int32) (o : Nat) : Nat := (s (8 + 6 * o + 1)).toNatClampNeg
def hsR (s : Nat → Int32) (r : Nat → Int32) : Nat → (Nat → Int32)
  | 0 => cpN (fun _ => 0) r 9
  | k + 1 => if sd s k = true then upd (hsR s r k) (onN s k) (hsR s r k (onN s k) + hinS s k) else hsR s r k
def ldR (s : Nat → Int32) (r : Nat → Int32) : Nat → (Nat → Int32)
  | 0 => cpN (fun _ => 0) r 9
  | k + 1 => if sd s k = true then upd (ldR s r k) (onN s k) (ldR s r k (onN s k) + 1) else ldR s r k
theorem on_rng {s : Nat → Int32} {n : Nat} (hw : WF s n) {o : Nat} (ho : o < n) : onN s o ≤ o ∧ s (8 + 6 * o + 1) = nI (onN s o) := by
  obtain ⟨q, hq, eq⟩ := (hw.2.2 o ho).2.1
  have h8 := hw.2.1
  have e : onN s o = q := by unfold onN; rw [eq]; exact nI_clamp (by omega)
  rw [e]
  exact ⟨hq, eq⟩
theorem on_eq {s : Nat → Int32} {n : Nat} (hw : WF s n) {o q : Nat} (ho : o < n) (hq : q < n) : (s (8 + 6 * q + 1) = s (8 + 6 * o + 1)) = (onN s q = onN s o) := by
  have h8 := hw.2.1
  have a := on_rng hw ho
  have b := on_rng hw hq
  rw [a.2, b.2]
  exact propext (nI_eq (by omega) (by omega))
theorem hs_pl {s : Nat → Int32} {n : Nat} (hw : WF s n) (r : Nat → Int32) {o : Nat} (ho : o < n) : ∀ k, k ≤ n → s (8 + 6 * o + 2) - (hsR s r k (onN s o) - (if o < k ∧ sd s o = true then hinS s o else 0)) = plS s (sd s) o k := by
  have h8 := hw.2.1
  have a := on_rng hw ho
  intro k
  induction k with
  | zero =>
    intro _
    rw [hsR, plS, if_neg (by omega)]
    simp [cpN, show onN s o < 9 by omega]
  | succ k ih =>
    intro hk
    have ih' := ih (by omega)
    rw [hsR, plS, ← ih']
    simp only [on_eq hw ho (show k < n by omega)]
    by_cases hs : sd s k = true
    · rw [if_pos hs]
      by_cases e : onN s k = onN s o
      · rw [e, pk_us]
        by_cases ek : k = o
        · subst ek
          rw [if_pos ⟨by omega, hs⟩, if_neg (by omega), if_neg (by simp)]
          grind
        · have e1 : (o < k + 1 ∧ sd s o = true) = (o < k ∧ sd s o = true) := by
            apply propext; constructor
            · rintro ⟨q, w⟩; exact ⟨by omega, w⟩
            · rintro ⟨q, w⟩; exact ⟨by omega, w⟩
          simp only [e1, hs, ek, ne_eq, not_false_eq_true, and_self, if_true]
          grind
      · rw [pk_un (fun q => e q.symm)]
        have ek : k ≠ o := fun q => e (by rw [q])
        have e1 : (o < k + 1 ∧ sd s o = true) = (o < k ∧ sd s o = true) := by
          apply propext; constructor
          · rintro ⟨q, w⟩; exact ⟨by omega, w⟩
          · rintro ⟨q, w⟩; exact ⟨by omega, w⟩
        simp only [e1, e, and_false, if_false]
        grind
    · rw [if_neg hs]
      have e1 : (o < k + 1 ∧ sd s o = true) = (o < k ∧ sd s o = true) := by
        apply propext; constructor
        · rintro ⟨q, w⟩
          refine ⟨?_, w⟩
          rcases Nat.lt_or_ge o k with z | z
          · exact z
          · have : o = k := by omega
            subst this
            exact absurd w hs
        · rintro ⟨q, w⟩; exact ⟨by omega, w⟩
      simp only [e1, hs, false_and, if_false]
      grind
theorem ld_up {s : Nat → Int32} {n : Nat} (hw : WF s n) (r : Nat → Int32) {o : Nat} (ho : o < n) : ∀ k, k ≤ n → ldR s r k (o + 1) = upS s (sd s) o k := by
  have h8 := hw.2.1
  intro k
  induction k with
  | zero =>
    intro _
    rw [ldR, upS]
    simp [cpN, show o + 1 < 9 by omega]
  | succ k ih =>
    intro hk
    have a := on_rng hw (show k < n by omega)
    have e1 : (s (8 + 6 * k + 1) = 1 + nI o) = (onN s k = o + 1) := by
      rw [a.2, Int32.add_comm, nI_1]
      exact propext (nI_eq (by omega) (by omega))
    rw [ldR, upS, ← ih (by omega)]
    simp only [e1]
    by_cases hs : sd s k = true
    · rw [if_pos hs]
      by_cases e : onN s k = o + 1
      · rw [e, pk_us]
        simp [hs]
      · rw [pk_un (fun q => e q.symm)]
        simp [e]
    · rw [if_neg hs]
      simp [hs]
theorem sd_on {s : Nat → Int32} {n : Nat} (hw : WF s n) {o : Nat} (ho : o < n) : sd s o = ((decide (onN s o = 0) || sd s (onN s o - 1)) && !cuF s o) := by
  have a := on_rng hw ho
  have h8 := hw.2.1
  rw [sd_eq hw ho]
  have e0 : (s (8 + 6 * o + 1) = 0) = (onN s o = 0) := by rw [a.2]; exact propext (nI_eq (b := 0) (by omega) (by decide))
  have e1 : (s (8 + 6 * o + 1)).toNatClampNeg = onN s o := rfl
  rw [e1]
  unfold cuF
  rcases (hw.2.2 o ho).2.2.2.2.1 with hc | hc
  · simp only [hc, if_true, e0]
    by_cases h : onN s o = 0
    · simp [h]
    · simp [h]
  · simp only [hc]
    simp
theorem survey_c {M : Mm} {b n : Nat} {s : Nat → Int32} (hw : WF s n) (hx : RX M b s n) (hT : TB b) : K 2 mX4_survey [.ref b] M (Rt (some (.int (bsF (sd s) n))) (smN M b (hsR s (M.1 (b + 7)) n) (ldR s (M.1 (b + 8)) n) (bsF (sd s) n))) := by
  have h8 := hw.2.1
  have loop : ∀ k, k ≤ n → ∀ z : Option Value, J 2 mX4_survey 23 [some (.ref b), some (.int (nI k)), z] [] (smN M b (hsR s (M.1 (b + 7)) k) (ldR s (M.1 (b + 8)) k) (bsF (sd s) k)) (Rt (some (.int (bsF (sd s) n))) (smN M b (hsR s (M.1 (b + 7)) n) (ldR s (M.1 (b + 8)) n) (bsF (sd s) n))) := by
    refine down n ?_ ?_
    · intro z
      have x7 := (sm_RX (h := hsR s (M.1 (b + 7)) n) (l := ldR s (M.1 (b + 8)) n) (v := bsF (sd s) n) hx).1
      refine J_blk a_X4_survey_23 ?_
      simp only [b_X4_survey_23, w_iload_n1, w_aload_n0, w_getf4, w_icmp_ge, w_nil, kb0 hT, kb1 hT, kb2 hT, kb3 hT, kb4 hT, kb5 hT, kb6 hT, kb7 hT, kb8 hT, lb1 hT, lb2 hT, lb3 hT, lb4 hT, lb5 hT, lb6 hT, lb7 hT, lb8 hT, Option.toList_some, Option.toList_none, List.cons_append, List.nil_append, true_and, and_true, if_true, if_false, true_or, or_true, Nat.reduceAdd, Int.reduceAdd, Bool.false_eq_true, tn_0, tn_1, tn_2, tn_3, tn_4, tn_5, tn_6, tn_7, x7]
      refine ⟨fun _ => ?_, fun h => absurd (Int32.le_refl _) h⟩
      refine J_blk a_X4_survey_129 ?_
      simp only [b_X4_survey_129, w_aload_n0, w_getf4, w_ireti, kb0 hT, kb1 hT, kb2 hT, kb3 hT, kb4 hT, kb5 hT, kb6 hT, kb7 hT, kb8 hT, lb1 hT, lb2 hT, lb3 hT, lb4 hT, lb5 hT, lb6 hT, lb7 hT, lb8 hT, Option.toList_some, Option.toList_none, List.cons_append, List.nil_append, true_and, and_true, if_true, if_false, true_or, or_true, Nat.reduceAdd, Int.reduceAdd, Bool.false_eq_true, tn_0, tn_1, tn_2, tn_3, tn_4, tn_5, tn_6, tn_7, sm_11]
      first | exact ⟨rfl, rfl⟩ | (simp_all [Rt])
    · intro k hk ih z
      have xx := sm_RX (h := hsR s (M.1 (b + 7)) k) (l := ldR s (M.1 (b + 8)) k) (v := bsF (sd s) k) hx
      have x7 := xx.1
      obtain ⟨ho1, ho2⟩ := on_rng hw hk
      have y3 := (xx.2.2.2.2.2.2 k hk).2.1
      rw [ho2] at y3
      have tk : (nI k).toNatClampNeg = k := nI_clamp (by omega)
      have tq : (nI (onN s k)).toNatClampNeg = onN s k := nI_clamp (by omega)
      have e0 : (nI (onN s k) = 0) = (onN s k = 0) := propext (nI_eq (b := 0) (by omega) (by decide))
      have hsd := sd_on hw hk
      rw [hsR, ldR, bsF] at ih
      have no : ∀ z, sd s k = false → J 2 mX4_survey 123 [some (.ref b), some (.int (nI k)), z] [] (smN M b (hsR s (M.1 (b + 7)) k) (ldR s (M.1 (b + 8)) k) (bsF (sd s) k)) (Rt (some (.int (bsF (sd s) n))) (smN M b (hsR s (M.1 (b + 7)) n) (ldR s (M.1 (b + 8)) n) (bsF (sd s) n))) := by
        intro z hf
        have i2 := ih z
        rw [hf] at i2
        simp only [Bool.false_eq_true, if_false, Int32.or_zero] at i2
        refine J_blk a_X4_survey_123 ?_
        simp only [b_X4_survey_123, w_iinc1, nl_1n, nl_1i, nl_1a, ci_1, w_goto, kb0 hT, kb1 hT, kb2 hT, kb3 hT, kb4 hT, kb5 hT, kb6 hT, kb7 hT, kb8 hT, lb1 hT, lb2 hT, lb3 hT, lb4 hT, lb5 hT, lb6 hT, lb7 hT, lb8 hT, Option.toList_some, Option.toList_none, List.cons_append, List.nil_append, true_and, and_true, if_true, if_false, true_or, or_true, Nat.reduceAdd, Int.reduceAdd, Bool.false_eq_true, tn_0, tn_1, tn_2, tn_3, tn_4, tn_5, tn_6, tn_7, nI_1]
        exact i2
      have up : ∀ u : Bool, u = (decide (onN s k = 0) || sd s (onN s k - 1)) → J 2 mX4_survey 64 [some (.ref b), some (.int (nI k)), z] [.int (bI u)] (smN M b (hsR s (M.1 (b + 7)) k) (ldR s (M.1 (b + 8)) k) (bsF (sd s) k)) (Rt (some (.int (bsF (sd s) n))) (smN M b (hsR s (M.1 (b + 7)) n) (ldR s (M.1 (b + 8)) n) (bsF (sd s) n))) := by
        intro u hu
        rw [← hu] at hsd
        cases u
        · refine J_blk a_X4_survey_64 ?_
          simp only [b_X4_survey_64, w_istore2, nl_2n, nl_2i, nl_2a, w_iload_n2, w_if_eq, w_nil, kb0 hT, kb1 hT, kb2 hT, kb3 hT, kb4 hT, kb5 hT, kb6 hT, kb7 hT, kb8 hT, lb1 hT, lb2 hT, lb3 hT, lb4 hT, lb5 hT, lb6 hT, lb7 hT, lb8 hT, Option.toList_some, Option.toList_none, List.cons_append, List.nil_append, true_and, and_true, if_true, if_false, true_or, or_true, Nat.reduceAdd, Int.reduceAdd, Bool.false_eq_true, tn_0, tn_1, tn_2, tn_3, tn_4, tn_5, tn_6, tn_7]
          exact ⟨fun _ => no _ (by rw [hsd]; rfl), fun h => absurd rfl h⟩
        · rw [Bool.true_and] at hsd
          refine J_blk a_X4_survey_64 ?_
          simp only [b_X4_survey_64, w_istore2, nl_2n, nl_2i, nl_2a, w_iload_n2, w_if_eq, w_nil, kb0 hT, kb1 hT, kb2 hT, kb3 hT, kb4 hT, kb5 hT, kb6 hT, kb7 hT, kb8 hT, lb1 hT, lb2 hT, lb3 hT, lb4 hT, lb5 hT, lb6 hT, lb7 hT, lb8 hT, Option.toList_some, Option.toList_none, List.cons_append, List.nil_append, true_and, and_true, if_true, if_false, true_or, or_true, Nat.reduceAdd, Int.reduceAdd, Bool.false_eq_true, tn_0, tn_1, tn_2, tn_3, tn_4, tn_5, tn_6, tn_7]
          refine ⟨fun h => absurd h (by decide), fun _ => ?_⟩
          refine J_blk a_X4_survey_69 ?_
          simp only [b_X4_survey_69, w_aload_n0, w_iload_n1, w_nil, kb0 hT, kb1 hT, kb2 hT, kb3 hT, kb4 hT, kb5 hT, kb6 hT, kb7 hT, kb8 hT, lb1 hT, lb2 hT, lb3 hT, lb4 hT, lb5 hT, lb6 hT, lb7 hT, lb8 hT, Option.toList_some, Option.toList_none, List.cons_append, List.nil_append, true_and, and_true, if_true, if_false, true_or, or_true, Nat.reduceAdd, Int.reduceAdd, Bool.false_eq_true, tn_0, tn_1, tn_2, tn_3, tn_4, tn_5, tn_6, tn_7]
          refine J_callVr (ci := 4) (isCut_c h8 xx hT hk) k_X4_survey_71 o_X4_isCut (kb0 hT) rfl rfl rfl (by decide) rfl (Nat.le_of_ble_eq_true rfl) ?_
          cases hc : cuF s k
          · have ht : sd s k = true := by rw [hsd, hc]; rfl
            have i2 := ih (some (.int (bI true)))
            rw [ht] at i2
            simp only [if_true] at i2
            have y3' : (smN M b (hsR s (M.1 (b + 7)) k) (ldR s (M.1 (b + 8)) k) (bsF (sd s) k ||| (1 : Int32) <<< (nI k &&& 31))).1 (b + 3) k = nI (onN s k) := by rw [sm_o (by omega) (by omega) (by omega), ← sm_o (M := M) (b := b) (c := b + 3) (by omega) (by omega) (by omega)]; exact y3
            refine J_blk a_X4_survey_74 ?_
            simp only [b_X4_survey_74, w_if_ne, w_nil, kb0 hT, kb1 hT, kb2 hT, kb3 hT, kb4 hT, kb5 hT, kb6 hT, kb7 hT, kb8 hT, lb1 hT, lb2 hT, lb3 hT, lb4 hT, lb5 hT, lb6 hT, lb7 hT, lb8 hT, Option.toList_some, Option.toList_none, List.cons_append, List.nil_append, true_and, and_true, if_true, if_false, true_or, or_true, Nat.reduceAdd, Int.reduceAdd, Bool.false_eq_true, tn_0, tn_1, tn_2, tn_3, tn_4, tn_5, tn_6, tn_7]
            refine ⟨fun h => absurd rfl h, fun _ => ?_⟩
            refine J_blk a_X4_survey_77 ?_
            simp only [b_X4_survey_77, w_aload_n0, w_dup_i, w_dup_a, w_getf4, w_iconst_1, w_iload_n1, w_ishl, w_ior, w_putf4, ne0_7, ne0_3, w_iald, w_dup2_ia, w_nil, kb0 hT, kb1 hT, kb2 hT, kb3 hT, kb4 hT, kb5 hT, kb6 hT, kb7 hT, kb8 hT, lb1 hT, lb2 hT, lb3 hT, lb4 hT, lb5 hT, lb6 hT, lb7 hT, lb8 hT, Option.toList_some, Option.toList_none, List.cons_append, List.nil_append, true_and, and_true, if_true, if_false, true_or, or_true, Nat.reduceAdd, Int.reduceAdd, Bool.false_eq_true, tn_0, tn_1, tn_2, tn_3, tn_4, tn_5, tn_6, tn_7, sm_11, sm_u11, tk, y3', tq, sm_7]
            refine ⟨vinN (by omega) (by decide), vinN (by omega) (by decide), ?_⟩
            refine J_callVr (ci := 4) (hinders_c hw (sm_RX hx) hT hk) k_X4_survey_103 o_X4_hinders (kb0 hT) rfl rfl rfl (by decide) rfl (Nat.le_of_ble_eq_true rfl) ?_
            have y3'' : ∀ h l v, (smN M b h l v).1 (b + 3) k = nI (onN s k) := fun h l v => by rw [sm_o (by omega) (by omega) (by omega), ← sm_o (M := M) (b := b) (c := b + 3) (by omega) (by omega) (by omega)]; exact y3
            refine J_blk a_X4_survey_106 ?_
            simp only [b_X4_survey_106, w_iadd, w_iast, w_aload_n0, w_getf4, ne0_8, ne0_3, w_iload_n1, w_iald, w_dup2_ia, w_iconst_1, w_nil, kb0 hT, kb1 hT, kb2 hT, kb3 hT, kb4 hT, kb5 hT, kb6 hT, kb7 hT, kb8 hT, lb1 hT, lb2 hT, lb3 hT, lb4 hT, lb5 hT, lb6 hT, lb7 hT, lb8 hT, Option.toList_some, Option.toList_none, List.cons_append, List.nil_append, true_and, and_true, if_true, if_false, true_or, or_true, Nat.reduceAdd, Int.reduceAdd, Bool.false_eq_true, tn_0, tn_1, tn_2, tn_3, tn_4, tn_5, tn_6, tn_7, tq, sm_u7, tk, y3'', sm_8, sm_u8]
            refine ⟨vinN (by omega) (by decide), vinN (by omega) (by decide), vinN (by omega) (by decide), vinN (by omega) (by decide), ?_⟩
            refine J_blk a_X4_survey_123 ?_
            simp only [b_X4_survey_123, w_iinc1, nl_1n, nl_1i, nl_1a, ci_1, w_goto, kb0 hT, kb1 hT, kb2 hT, kb3 hT, kb4 hT, kb5 hT, kb6 hT, kb7 hT, kb8 hT, lb1 hT, lb2 hT, lb3 hT, lb4 hT, lb5 hT, lb6 hT, lb7 hT, lb8 hT, Option.toList_some, Option.toList_none, List.cons_append, List.nil_append, true_and, and_true, if_true, if_false, true_or, or_true, Nat.reduceAdd, Int.reduceAdd, Bool.false_eq_true, tn_0, tn_1, tn_2, tn_3, tn_4, tn_5, tn_6, tn_7, nI_1]
            exact i2
          · refine J_blk a_X4_survey_74 ?_
            simp only [b_X4_survey_74, w_if_ne, w_nil, kb0 hT, kb1 hT, kb2 hT, kb3 hT, kb4 hT, kb5 hT, kb6 hT, kb7 hT, kb8 hT, lb1 hT, lb2 hT, lb3 hT, lb4 hT, lb5 hT, lb6 hT, lb7 hT, lb8 hT, Option.toList_some, Option.toList_none, List.cons_append, List.nil_append, true_and, and_true, if_true, if_false, true_or, or_true, Nat.reduceAdd, Int.reduceAdd, Bool.false_eq_true, tn_0, tn_1, tn_2, tn_3, tn_4, tn_5, tn_6, tn_7]
            exact ⟨fun _ => no _ (by rw [hsd, hc]; rfl), fun h => absurd h (by decide)⟩
      have u1 := up true
      have u0 := up false
      refine J_blk a_X4_survey_23 ?_
      simp only [b_X4_survey_23, w_iload_n1, w_aload_n0, w_getf4, w_icmp_ge, w_nil, kb0 hT, kb1 hT, kb2 hT, kb3 hT, kb4 hT, kb5 hT, kb6 hT, kb7 hT, kb8 hT, lb1 hT, lb2 hT, lb3 hT, lb4 hT, lb5 hT, lb6 hT, lb7 hT, lb8 hT, Option.toList_some, Option.toList_none, List.cons_append, List.nil_append, true_and, and_true, if_true, if_false, true_or, or_true, Nat.reduceAdd, Int.reduceAdd, Bool.false_eq_true, tn_0, tn_1, tn_2, tn_3, tn_4, tn_5, tn_6, tn_7, x7]
      refine ⟨fun h => absurd h (nI_ge hk (by omega)), fun _ => ?_⟩
      refine J_blk a_X4_survey_31 ?_
      simp only [b_X4_survey_31, w_aload_n0, w_getf4, ne0_3, w_iload_n1, w_iald, w_if_eq, w_nil, kb0 hT, kb1 hT, kb2 hT, kb3 hT, kb4 hT, kb5 hT, kb6 hT, kb7 hT, kb8 hT, lb1 hT, lb2 hT, lb3 hT, lb4 hT, lb5 hT, lb6 hT, lb7 hT, lb8 hT, Option.toList_some, Option.toList_none, List.cons_append, List.nil_append, true_and, and_true, if_true, if_false, true_or, or_true, Nat.reduceAdd, Int.reduceAdd, Bool.false_eq_true, tn_0, tn_1, tn_2, tn_3, tn_4, tn_5, tn_6, tn_7, tk, y3, e0]
      refine ⟨vinN (by omega) (by decide), fun c => ?_, fun c => ?_⟩
      · refine J_blk a_X4_survey_59 ?_
        simp only [b_X4_survey_59, w_iconst_1, w_goto, kb0 hT, kb1 hT, kb2 hT, kb3 hT, kb4 hT, kb5 hT, kb6 hT, kb7 hT, kb8 hT, lb1 hT, lb2 hT, lb3 hT, lb4 hT, lb5 hT, lb6 hT, lb7 hT, lb8 hT, Option.toList_some, Option.toList_none, List.cons_append, List.nil_append, true_and, and_true, if_true, if_false, true_or, or_true, Nat.reduceAdd, Int.reduceAdd, Bool.false_eq_true, tn_0, tn_1, tn_2, tn_3, tn_4, tn_5, tn_6, tn_7]
        exact u1 (by simp [c])
      · refine J_blk a_X4_survey_40 ?_
        simp only [b_X4_survey_40, w_aload_n0, w_getf4, ne0_3, w_iload_n1, w_iald, w_iconst_1, w_isub, w_nil, kb0 hT, kb1 hT, kb2 hT, kb3 hT, kb4 hT, kb5 hT, kb6 hT, kb7 hT, kb8 hT, lb1 hT, lb2 hT, lb3 hT, lb4 hT, lb5 hT, lb6 hT, lb7 hT, lb8 hT, Option.toList_some, Option.toList_none, List.cons_append, List.nil_append, true_and, and_true, if_true, if_false, true_or, or_true, Nat.reduceAdd, Int.reduceAdd, Bool.false_eq_true, tn_0, tn_1, tn_2, tn_3, tn_4, tn_5, tn_6, tn_7, sm_11, tk, y3, nI_sub1 c]
        refine ⟨vinN (by omega) (by decide), ?_⟩
        refine J_callSr (bit_c _ (show onN s k - 1 < 32 by omega) _) k_X4_survey_52 o_X5_bit rfl (by decide) rfl (Nat.le_of_ble_eq_true rfl) ?_
        have hb : bt (bsF (sd s) k) (onN s k - 1) = sd s (onN s k - 1) := by rw [bt_bsF _ k (by omega) _ (by omega)]; simp [show onN s k - 1 < k by omega]
        rw [hb]
        cases hq : sd s (onN s k - 1)
        · refine J_blk a_X4_survey_55 ?_
          simp only [b_X4_survey_55, w_iconst_1, w_icmp_ne, w_nil, kb0 hT, kb1 hT, kb2 hT, kb3 hT, kb4 hT, kb5 hT, kb6 hT, kb7 hT, kb8 hT, lb1 hT, lb2 hT, lb3 hT, lb4 hT, lb5 hT, lb6 hT, lb7 hT, lb8 hT, Option.toList_some, Option.toList_none, List.cons_append, List.nil_append, true_and, and_true, if_true, if_false, true_or, or_true, Nat.reduceAdd, Int.reduceAdd, Bool.false_eq_true, tn_0, tn_1, tn_2, tn_3, tn_4, tn_5, tn_6, tn_7]
          refine ⟨fun _ => ?_, fun h => absurd h (by decide)⟩
          refine J_blk a_X4_survey_63 ?_
          simp only [b_X4_survey_63, w_iconst_0, w_nil, kb0 hT, kb1 hT, kb2 hT, kb3 hT, kb4 hT, kb5 hT, kb6 hT, kb7 hT, kb8 hT, lb1 hT, lb2 hT, lb3 hT, lb4 hT, lb5 hT, lb6 hT, lb7 hT, lb8 hT, Option.toList_some, Option.toList_none, List.cons_append, List.nil_append, true_and, and_true, if_true, if_false, true_or, or_true, Nat.reduceAdd, Int.reduceAdd, Bool.false_eq_true, tn_0, tn_1, tn_2, tn_3, tn_4, tn_5, tn_6, tn_7]
          exact u0 (by simp [c, hq])
        · refine J_blk a_X4_survey_55 ?_
          simp only [b_X4_survey_55, w_iconst_1, w_icmp_ne, w_nil, kb0 hT, kb1 hT, kb2 hT, kb3 hT, kb4 hT, kb5 hT, kb6 hT, kb7 hT, kb8 hT, lb1 hT, lb2 hT, lb3 hT, lb4 hT, lb5 hT, lb6 hT, lb7 hT, lb8 hT, Option.toList_some, Option.toList_none, List.cons_append, List.nil_append, true_and, and_true, if_true, if_false, true_or, or_true, Nat.reduceAdd, Int.reduceAdd, Bool.false_eq_true, tn_0, tn_1, tn_2, tn_3, tn_4, tn_5, tn_6, tn_7]
          refine ⟨fun h => absurd rfl h, fun _ => ?_⟩
          refine J_blk a_X4_survey_59 ?_
          simp only [b_X4_survey_59, w_iconst_1, w_goto, kb0 hT, kb1 hT, kb2 hT, kb3 hT, kb4 hT, kb5 hT, kb6 hT, kb7 hT, kb8 hT, lb1 hT, lb2 hT, lb3 hT, lb4 hT, lb5 hT, lb6 hT, lb7 hT, lb8 hT, Option.toList_some, Option.toList_none, List.cons_append, List.nil_append, true_and, and_true, if_true, if_false, true_or, or_true, Nat.reduceAdd, Int.reduceAdd, Bool.false_eq_true, tn_0, tn_1, tn_2, tn_3, tn_4, tn_5, tn_6, tn_7]
          exact u1 (by simp [c, hq])
  have l0 := loop 0 (by omega) none
  refine K_go 0 o_X4_survey [none, none] rfl (Nat.le_of_ble_eq_true rfl) ?_
  simp only [lvA_i, lvA_a, lvA_l, lvA_nil, List.cons_append, List.nil_append]
  refine J_blk a_X4_survey_0 ?_
  simp only [b_X4_survey_0, w_aload_n0, w_iconst_0, w_putf4, w_getf4, ne0_7, w_nil, kb0 hT, kb1 hT, kb2 hT, kb3 hT, kb4 hT, kb5 hT, kb6 hT, kb7 hT, kb8 hT, lb1 hT, lb2 hT, lb3 hT, lb4 hT, lb5 hT, lb6 hT, lb7 hT, lb8 hT, Option.toList_some, Option.toList_none, List.cons_append, List.nil_append, true_and, and_true, if_true, if_false, true_or, or_true, Nat.reduceAdd, Int.reduceAdd, Bool.false_eq_true, tn_0, tn_1, tn_2, tn_3, tn_4, tn_5, tn_6, tn_7]
  refine J_callSr (fill_c (b + 7) 9 0 _ (kb7 hT) (lb7 hT) (by decide)) k_X4_survey_10 o_J7_fill_53178 rfl (by decide) rfl (Nat.le_of_ble_eq_true rfl) ?_
  refine J_blk a_X4_survey_13 ?_
  simp only [b_X4_survey_13, w_aload_n0, w_getf4, ne0_8, w_iconst_0, w_nil, kb0 hT, kb1 hT, kb2 hT, kb3 hT, kb4 hT, kb5 hT, kb6 hT, kb7 hT, kb8 hT, lb1 hT, lb2 hT, lb3 hT, lb4 hT, lb5 hT, lb6 hT, lb7 hT, lb8 hT, Option.toList_some, Option.toList_none, List.cons_append, List.nil_append, true_and, and_true, if_true, if_false, true_or, or_true, Nat.reduceAdd, Int.reduceAdd, Bool.false_eq_true, tn_0, tn_1, tn_2, tn_3, tn_4, tn_5, tn_6, tn_7]
  refine J_callSr (fill_c (b + 8) 9 0 _ (kb8 hT) (lb8 hT) (by decide)) k_X4_survey_18 o_J7_fill_53178 rfl (by decide) rfl (Nat.le_of_ble_eq_true rfl) ?_
  refine J_blk a_X4_survey_21 ?_
  simp only [b_X4_survey_21, w_iconst_0, w_istore1, nl_1n, nl_1i, nl_1a, w_nil, kb0 hT, kb1 hT, kb2 hT, kb3 hT, kb4 hT, kb5 hT, kb6 hT, kb7 hT, kb8 hT, lb1 hT, lb2 hT, lb3 hT, lb4 hT, lb5 hT, lb6 hT, lb7 hT, lb8 hT, Option.toList_some, Option.toList_none, List.cons_append, List.nil_append, true_and, and_true, if_true, if_false, true_or, or_true, Nat.reduceAdd, Int.reduceAdd, Bool.false_eq_true, tn_0, tn_1, tn_2, tn_3, tn_4, tn_5, tn_6, tn_7]
  rw [sm_ini] at l0
  have e7 : (u1 M b 11 0).1 (b + 7) = M.1 (b + 7) := u1_o _ _ _ _ (by omega)
  have e8 : (su (u1 M b 11 0) (b + 7) (cpN (fun _ => 0) (M.1 (b + 7)) 9)).1 (b + 8) = M.1 (b + 8) := by rw [su_ne _ _ _ _ (by omega), u1_o _ _ _ _ (by omega)]
  rw [e7, e8]
  exact l0
theorem sm_SV {M : Mm} {b n : Nat} {s : Nat → Int32} (hw : WF s n) : SV (smN M b (hsR s (M.1 (b + 7)) n) (ldR s (M.1 (b + 8)) n) (bsF (sd s) n)) b s n := by
  refine ⟨sm_11, fun o ho => ?_, fun o ho => ?_⟩
  · rw [sm_7]
    have := hs_pl hw (M.1 (b + 7)) ho n (Nat.le_refl n)
    simp only [ho, true_and] at this
    exact this
  · rw [sm_8]
    exact ld_up hw _ ho n (Nat.le_refl n)

