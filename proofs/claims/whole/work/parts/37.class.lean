/-! the class: a Tree's years, copies -/
/-- this answer, and of the memory this -/
def Rq (r0 : Option Value) (Q : Mm → Prop) : Option Value → Mm → Prop := fun r M => r = r0 ∧ Q M
theorem u1_x {M : Mm} {c j a i : Nat} {v : Int32} (h : a ≠ c ∨ i ≠ j) : (u1 M c j v).1 a i = M.1 a i := by
  simp only [u1]
  rw [if_neg (by omega)]
theorem RX_2 {M : Mm} {b n m : Nat} {s : Nat → Int32} (hx : RX M b s n) (v : Int32) : RX (u1 M (b + 2) m v) b (upd s (8 + 6 * m) v) n := by
  obtain ⟨x7, xy, xc, xz, x6, xl, xo⟩ := hx
  refine ⟨by rw [u1_o _ _ _ _ (by omega)]; exact x7, by rw [u1_o _ _ _ _ (by omega), pk_un (by omega)]; exact xy, by rw [u1_o _ _ _ _ (by omega), pk_un (by omega)]; exact xc, by rw [u1_o _ _ _ _ (by omega), pk_un (by omega)]; exact xz, ?_, fun j hj => by rw [u1_o _ _ _ _ (by omega), pk_un (by omega)]; exact xl j hj, fun o ho => ?_⟩
  · rw [u1_o _ _ _ _ (by omega), x6]
    exact bsF_congr n (fun q hq => by unfold cuF; rw [pk_un (by omega)])
  · obtain ⟨y2, y3, y4, y5, y6⟩ := xo o ho
    by_cases e : o = m
    · subst e
      refine ⟨by simp [u1, upd], by simp [u1, upd]; exact y3, by simp [u1, upd]; exact y4, by simp [u1, upd]; exact y5, by simp [u1, upd]; exact y6⟩
    · refine ⟨by rw [u1_x (Or.inr e), pk_un (by omega)]; exact y2, by rw [u1_x (Or.inr e), pk_un (by omega)]; exact y3, by rw [u1_x (Or.inr e), pk_un (by omega)]; exact y4, by rw [u1_x (Or.inr e), pk_un (by omega)]; exact y5, by rw [u1_x (Or.inr e), pk_un (by omega)]; exact y6⟩
theorem RX_3 {M : Mm} {b n m : Nat} {s : Nat → Int32} (hx : RX M b s n) (v : Int32) : RX (u1 M (b + 3) m v) b (upd s (8 + 6 * m + 1) v) n := by
  obtain ⟨x7, xy, xc, xz, x6, xl, xo⟩ := hx
  refine ⟨by rw [u1_o _ _ _ _ (by omega)]; exact x7, by rw [u1_o _ _ _ _ (by omega), pk_un (by omega)]; exact xy, by rw [u1_o _ _ _ _ (by omega), pk_un (by omega)]; exact xc, by rw [u1_o _ _ _ _ (by omega), pk_un (by omega)]; exact xz, ?_, fun j hj => by rw [u1_o _ _ _ _ (by omega), pk_un (by omega)]; exact xl j hj, fun o ho => ?_⟩
  · rw [u1_o _ _ _ _ (by omega), x6]
    exact bsF_congr n (fun q hq => by unfold cuF; rw [pk_un (by omega)])
  · obtain ⟨y2, y3, y4, y5, y6⟩ := xo o ho
    by_cases e : o = m
    · subst e
      refine ⟨by simp [u1, upd]; exact y2, by simp [u1, upd], by simp [u1, upd]; exact y4, by simp [u1, upd]; exact y5, by simp [u1, upd]; exact y6⟩
    · refine ⟨by rw [u1_x (Or.inr e), pk_un (by omega)]; exact y2, by rw [u1_x (Or.inr e), pk_un (by omega)]; exact y3, by rw [u1_x (Or.inr e), pk_un (by omega)]; exact y4, by rw [u1_x (Or.inr e), pk_un (by omega)]; exact y5, by rw [u1_x (Or.inr e), pk_un (by omega)]; exact y6⟩
theorem RX_4 {M : Mm} {b n m : Nat} {s : Nat → Int32} (hx : RX M b s n) (v : Int32) : RX (u1 M (b + 4) m v) b (upd s (8 + 6 * m + 2) v) n := by
  obtain ⟨x7, xy, xc, xz, x6, xl, xo⟩ := hx
  refine ⟨by rw [u1_o _ _ _ _ (by omega)]; exact x7, by rw [u1_o _ _ _ _ (by omega), pk_un (by omega)]; exact xy, by rw [u1_o _ _ _ _ (by omega), pk_un (by omega)]; exact xc, by rw [u1_o _ _ _ _ (by omega), pk_un (by omega)]; exact xz, ?_, fun j hj => by rw [u1_o _ _ _ _ (by omega), pk_un (by omega)]; exact xl j hj, fun o ho => ?_⟩
  · rw [u1_o _ _ _ _ (by omega), x6]
    exact bsF_congr n (fun q hq => by unfold cuF; rw [pk_un (by omega)])
  · obtain ⟨y2, y3, y4, y5, y6⟩ := xo o ho
    by_cases e : o = m
    · subst e
      refine ⟨by simp [u1, upd]; exact y2, by simp [u1, upd]; exact y3, by simp [u1, upd], by simp [u1, upd]; exact y5, by simp [u1, upd]; exact y6⟩
    · refine ⟨by rw [u1_x (Or.inr e), pk_un (by omega)]; exact y2, by rw [u1_x (Or.inr e), pk_un (by omega)]; exact y3, by rw [u1_x (Or.inr e), pk_un (by omega)]; exact y4, by rw [u1_x (Or.inr e), pk_un (by omega)]; exact y5, by rw [u1_x (Or.inr e), pk_un (by omega)]; exact y6⟩
theorem RX_5 {M : Mm} {b n m : Nat} {s : Nat → Int32} (hx : RX M b s n) (v : Int32) : RX (u1 M (b + 5) m v) b (upd s (8 + 6 * m + 3) v) n := by
  obtain ⟨x7, xy, xc, xz, x6, xl, xo⟩ := hx
  refine ⟨by rw [u1_o _ _ _ _ (by omega)]; exact x7, by rw [u1_o _ _ _ _ (by omega), pk_un (by omega)]; exact xy, by rw [u1_o _ _ _ _ (by omega), pk_un (by omega)]; exact xc, by rw [u1_o _ _ _ _ (by omega), pk_un (by omega)]; exact xz, ?_, fun j hj => by rw [u1_o _ _ _ _ (by omega), pk_un (by omega)]; exact xl j hj, fun o ho => ?_⟩
  · rw [u1_o _ _ _ _ (by omega), x6]
    exact bsF_congr n (fun q hq => by unfold cuF; rw [pk_un (by omega)])
  · obtain ⟨y2, y3, y4, y5, y6⟩ := xo o ho
    by_cases e : o = m
    · subst e
      refine ⟨by simp [u1, upd]; exact y2, by simp [u1, upd]; exact y3, by simp [u1, upd]; exact y4, by simp [u1, upd], by simp [u1, upd]; exact y6⟩
    · refine ⟨by rw [u1_x (Or.inr e), pk_un (by omega)]; exact y2, by rw [u1_x (Or.inr e), pk_un (by omega)]; exact y3, by rw [u1_x (Or.inr e), pk_un (by omega)]; exact y4, by rw [u1_x (Or.inr e), pk_un (by omega)]; exact y5, by rw [u1_x (Or.inr e), pk_un (by omega)]; exact y6⟩
theorem RX_6 {M : Mm} {b n m : Nat} {s : Nat → Int32} (hx : RX M b s n) (v : Int32) : RX (u1 M (b + 6) m v) b (upd s (8 + 6 * m + 5) v) n := by
  obtain ⟨x7, xy, xc, xz, x6, xl, xo⟩ := hx
  refine ⟨by rw [u1_o _ _ _ _ (by omega)]; exact x7, by rw [u1_o _ _ _ _ (by omega), pk_un (by omega)]; exact xy, by rw [u1_o _ _ _ _ (by omega), pk_un (by omega)]; exact xc, by rw [u1_o _ _ _ _ (by omega), pk_un (by omega)]; exact xz, ?_, fun j hj => by rw [u1_o _ _ _ _ (by omega), pk_un (by omega)]; exact xl j hj, fun o ho => ?_⟩
  · rw [u1_o _ _ _ _ (by omega), x6]
    exact bsF_congr n (fun q hq => by unfold cuF; rw [pk_un (by omega)])
  · obtain ⟨y2, y3, y4, y5, y6⟩ := xo o ho
    by_cases e : o = m
    · subst e
      refine ⟨by simp [u1, upd]; exact y2, by simp [u1, upd]; exact y3, by simp [u1, upd]; exact y4, by simp [u1, upd]; exact y5, by simp [u1, upd]⟩
    · refine ⟨by rw [u1_x (Or.inr e), pk_un (by omega)]; exact y2, by rw [u1_x (Or.inr e), pk_un (by omega)]; exact y3, by rw [u1_x (Or.inr e), pk_un (by omega)]; exact y4, by rw [u1_x (Or.inr e), pk_un (by omega)]; exact y5, by rw [u1_x (Or.inr e), pk_un (by omega)]; exact y6⟩
theorem RX_f8 {M : Mm} {b n : Nat} {s : Nat → Int32} (hx : RX M b s n) (v : Int32) : RX (u1 M b 8 v) b (upd s 1 v) n := by
  obtain ⟨x7, xy, xc, xz, x6, xl, xo⟩ := hx
  refine ⟨by simp [u1]; exact x7, by simp [u1, upd], by simp [u1, upd]; exact xc, by simp [u1, upd]; exact xz, ?_, fun j hj => by rw [u1_o _ _ _ _ (by omega), pk_un (by omega)]; exact xl j hj, fun o ho => ?_⟩
  · rw [show (u1 M b 8 v).1 b 6 = M.1 b 6 by simp [u1], x6]
    exact bsF_congr n (fun q hq => by unfold cuF; rw [pk_un (by omega)])
  · rw [u1_o _ _ _ _ (by omega), u1_o _ _ _ _ (by omega), u1_o _ _ _ _ (by omega), u1_o _ _ _ _ (by omega), u1_o _ _ _ _ (by omega), pk_un (by omega), pk_un (by omega), pk_un (by omega), pk_un (by omega), pk_un (by omega)]
    exact xo o ho
theorem RX_f9 {M : Mm} {b n : Nat} {s : Nat → Int32} (hx : RX M b s n) (v : Int32) : RX (u1 M b 9 v) b (upd s 3 v) n := by
  obtain ⟨x7, xy, xc, xz, x6, xl, xo⟩ := hx
  refine ⟨by simp [u1]; exact x7, by simp [u1, upd]; exact xy, by simp [u1, upd], by simp [u1, upd]; exact xz, ?_, fun j hj => by rw [u1_o _ _ _ _ (by omega), pk_un (by omega)]; exact xl j hj, fun o ho => ?_⟩
  · rw [show (u1 M b 9 v).1 b 6 = M.1 b 6 by simp [u1], x6]
    exact bsF_congr n (fun q hq => by unfold cuF; rw [pk_un (by omega)])
  · rw [u1_o _ _ _ _ (by omega), u1_o _ _ _ _ (by omega), u1_o _ _ _ _ (by omega), u1_o _ _ _ _ (by omega), u1_o _ _ _ _ (by omega), pk_un (by omega), pk_un (by omega), pk_un (by omega), pk_un (by omega), pk_un (by omega)]
    exact xo o ho
theorem RX_f10 {M : Mm} {b n : Nat} {s : Nat → Int32} (hx : RX M b s n) (v : Int32) : RX (u1 M b 10 v) b (upd s 2 v) n := by
  obtain ⟨x7, xy, xc, xz, x6, xl, xo⟩ := hx
  refine ⟨by simp [u1]; exact x7, by simp [u1, upd]; exact xy, by simp [u1, upd]; exact xc, by simp [u1, upd], ?_, fun j hj => by rw [u1_o _ _ _ _ (by omega), pk_un (by omega)]; exact xl j hj, fun o ho => ?_⟩
  · rw [show (u1 M b 10 v).1 b 6 = M.1 b 6 by simp [u1], x6]
    exact bsF_congr n (fun q hq => by unfold cuF; rw [pk_un (by omega)])
  · rw [u1_o _ _ _ _ (by omega), u1_o _ _ _ _ (by omega), u1_o _ _ _ _ (by omega), u1_o _ _ _ _ (by omega), u1_o _ _ _ _ (by omega), pk_un (by omega), pk_un (by omega), pk_un (by omega), pk_un (by omega), pk_un (by omega)]
    exact xo o ho
theorem min_lea (x y : Int32) : (if y < x then y else x) = lea x y := by
  unfold lea
  by_cases h : y < x
  · rw [if_pos h, if_neg (Int32.not_lt.mpr (Int32.le_of_lt h))]
  · rw [if_neg h]
    by_cases h2 : x < y
    · rw [if_pos h2]
    · rw [if_neg h2]; exact Int32.le_antisymm (Int32.not_lt.mp h) (Int32.not_lt.mp h2)
theorem growOrLie_c {M : Mm} {b n m : Nat} {s : Nat → Int32} (hw : WF s n) (hl : WL s n) (hx : RX M b (ybS s (sd s) m) n) (h11 : M.1 b 11 = bsF (sd s) n) (hT : TB b) (hm : m < n) : K 2 mX4_growOrLie [.ref b, .int (nI m)] M (Rq none (fun M' => RX M' b (ybS s (sd s) (m + 1)) n ∧ FB b M M' ∧ M'.1 b = M.1 b)) := by
  have h8 := hw.2.1
  have tm : (nI m).toNatClampNeg = m := nI_clamp (by omega)
  have hb : bt (bsF (sd s) n) m = sd s m := bt_sd h8 hm
  have own := ybS_own s (sd s) m
  have stp := ybS_step s (sd s) m
  have tail : ∀ (M2 : Mm) (r : Nat → Int32), RX M2 b r n → r (8 + 6 * m + 4) = s (8 + 6 * m + 4) → r (8 + 6 * m + 5) = s (8 + 6 * m + 5) → FB b M M2 → M2.1 b = M.1 b → (if sd s m = true then upd (upd (ybS s (sd s) m) (8 + 6 * m + 2) (wi (s (8 + 6 * m + 2) + gainS s m))) (8 + 6 * m + 3) (lea 99 (s (8 + 6 * m + 3) + 1)) else ybS s (sd s) m) = r → J 2 mX4_growOrLie 55 [some (.ref b), some (.int (nI m))] [] M2 (Rq none (fun M' => RX M' b (ybS s (sd s) (m + 1)) n ∧ FB b M M' ∧ M'.1 b = M.1 b)) := by
    intro M2 r hr r4 r5 hf hbb hrr
    rw [hrr] at stp
    have hcu : cuF r m = decide (s (8 + 6 * m + 4) = 1) := by unfold cuF; rw [r4]
    have y6 := (hr.2.2.2.2.2.2 m hm).2.2.2.2
    rw [r5] at y6
    refine J_blk a_X4_growOrLie_55 ?_
    simp only [b_X4_growOrLie_55, w_aload_n0, w_iload_n1, w_nil, kb0 hT, kb1 hT, kb2 hT, kb3 hT, kb4 hT, kb5 hT, kb6 hT, kb7 hT, kb8 hT, lb1 hT, lb2 hT, lb3 hT, lb4 hT, lb5 hT, lb6 hT, lb7 hT, lb8 hT, Option.toList_some, Option.toList_none, List.cons_append, List.nil_append, true_and, and_true, if_true, if_false, true_or, or_true, Nat.reduceAdd, Int.reduceAdd, Bool.false_eq_true, tn_0, tn_1, tn_2, tn_3, tn_4, tn_5, tn_6, tn_7]
    refine J_callVr (ci := 4) (isCut_c h8 hr hT hm) k_X4_growOrLie_57 o_X4_isCut (kb0 hT) rfl rfl rfl (by decide) rfl (Nat.le_of_ble_eq_true rfl) ?_
    rw [hcu]
    by_cases hc : s (8 + 6 * m + 4) = 1
    · rw [if_pos hc] at stp
      rw [decide_eq_true hc]
      refine J_blk a_X4_growOrLie_60 ?_
      simp only [b_X4_growOrLie_60, w_if_eq, w_nil, kb0 hT, kb1 hT, kb2 hT, kb3 hT, kb4 hT, kb5 hT, kb6 hT, kb7 hT, kb8 hT, lb1 hT, lb2 hT, lb3 hT, lb4 hT, lb5 hT, lb6 hT, lb7 hT, lb8 hT, Option.toList_some, Option.toList_none, List.cons_append, List.nil_append, true_and, and_true, if_true, if_false, true_or, or_true, Nat.reduceAdd, Int.reduceAdd, Bool.false_eq_true, tn_0, tn_1, tn_2, tn_3, tn_4, tn_5, tn_6, tn_7]
      refine ⟨fun h => absurd h (by decide), fun _ => ?_⟩
      refine J_blk a_X4_growOrLie_63 ?_
      simp only [b_X4_growOrLie_63, w_aload_n0, w_getf4, ne0_6, w_iload_n1, w_bipush, ci_9, w_iald, w_iconst_1, w_iadd, w_nil, kb0 hT, kb1 hT, kb2 hT, kb3 hT, kb4 hT, kb5 hT, kb6 hT, kb7 hT, kb8 hT, lb1 hT, lb2 hT, lb3 hT, lb4 hT, lb5 hT, lb6 hT, lb7 hT, lb8 hT, Option.toList_some, Option.toList_none, List.cons_append, List.nil_append, true_and, and_true, if_true, if_false, true_or, or_true, Nat.reduceAdd, Int.reduceAdd, Bool.false_eq_true, tn_0, tn_1, tn_2, tn_3, tn_4, tn_5, tn_6, tn_7, tm, y6]
      refine ⟨vinN (by omega) (by decide), ?_⟩
      refine J_min z_X4_growOrLie_78 (by decide) (Nat.le_of_ble_eq_true rfl) ?_
      rw [min_lea]
      refine J_blk a_X4_growOrLie_81 ?_
      simp only [b_X4_growOrLie_81, w_iast, w_nil, kb0 hT, kb1 hT, kb2 hT, kb3 hT, kb4 hT, kb5 hT, kb6 hT, kb7 hT, kb8 hT, lb1 hT, lb2 hT, lb3 hT, lb4 hT, lb5 hT, lb6 hT, lb7 hT, lb8 hT, Option.toList_some, Option.toList_none, List.cons_append, List.nil_append, true_and, and_true, if_true, if_false, true_or, or_true, Nat.reduceAdd, Int.reduceAdd, Bool.false_eq_true, tn_0, tn_1, tn_2, tn_3, tn_4, tn_5, tn_6, tn_7, tm]
      refine ⟨vinN (by omega) (by decide), ?_⟩
      refine J_blk a_X4_growOrLie_82 ?_
      simp only [b_X4_growOrLie_82, w_vret, kb0 hT, kb1 hT, kb2 hT, kb3 hT, kb4 hT, kb5 hT, kb6 hT, kb7 hT, kb8 hT, lb1 hT, lb2 hT, lb3 hT, lb4 hT, lb5 hT, lb6 hT, lb7 hT, lb8 hT, Option.toList_some, Option.toList_none, List.cons_append, List.nil_append, true_and, and_true, if_true, if_false, true_or, or_true, Nat.reduceAdd, Int.reduceAdd, Bool.false_eq_true, tn_0, tn_1, tn_2, tn_3, tn_4, tn_5, tn_6, tn_7]
      refine ⟨rfl, ?_, hf.trans (FB_u1 M2 _ _ (by omega)), by rw [u1_o _ _ _ _ (by omega)]; exact hbb⟩
      rw [← stp]
      exact RX_6 hr _
    · rw [if_neg hc] at stp
      rw [decide_eq_false hc]
      have e0 : upd r (8 + 6 * m + 5) 0 = r := by
        have := upd_self r (8 + 6 * m + 5)
        rw [r5, hl m hm hc] at this
        exact this
      rw [e0] at stp
      refine J_blk a_X4_growOrLie_60 ?_
      simp only [b_X4_growOrLie_60, w_if_eq, w_nil, kb0 hT, kb1 hT, kb2 hT, kb3 hT, kb4 hT, kb5 hT, kb6 hT, kb7 hT, kb8 hT, lb1 hT, lb2 hT, lb3 hT, lb4 hT, lb5 hT, lb6 hT, lb7 hT, lb8 hT, Option.toList_some, Option.toList_none, List.cons_append, List.nil_append, true_and, and_true, if_true, if_false, true_or, or_true, Nat.reduceAdd, Int.reduceAdd, Bool.false_eq_true, tn_0, tn_1, tn_2, tn_3, tn_4, tn_5, tn_6, tn_7]
      refine ⟨fun _ => ?_, fun h => absurd rfl h⟩
      refine J_blk a_X4_growOrLie_82 ?_
      simp only [b_X4_growOrLie_82, w_vret, kb0 hT, kb1 hT, kb2 hT, kb3 hT, kb4 hT, kb5 hT, kb6 hT, kb7 hT, kb8 hT, lb1 hT, lb2 hT, lb3 hT, lb4 hT, lb5 hT, lb6 hT, lb7 hT, lb8 hT, Option.toList_some, Option.toList_none, List.cons_append, List.nil_append, true_and, and_true, if_true, if_false, true_or, or_true, Nat.reduceAdd, Int.reduceAdd, Bool.false_eq_true, tn_0, tn_1, tn_2, tn_3, tn_4, tn_5, tn_6, tn_7]
      exact ⟨rfl, by rw [← stp]; exact hr, hf, hbb⟩
  refine K_go 1 o_X4_growOrLie [] rfl (Nat.le_of_ble_eq_true rfl) ?_
  simp only [lvA_i, lvA_a, lvA_l, lvA_nil, List.cons_append, List.nil_append]
  refine J_blk a_X4_growOrLie_0 ?_
  simp only [b_X4_growOrLie_0, w_aload_n0, w_getf4, w_iload_n1, w_nil, kb0 hT, kb1 hT, kb2 hT, kb3 hT, kb4 hT, kb5 hT, kb6 hT, kb7 hT, kb8 hT, lb1 hT, lb2 hT, lb3 hT, lb4 hT, lb5 hT, lb6 hT, lb7 hT, lb8 hT, Option.toList_some, Option.toList_none, List.cons_append, List.nil_append, true_and, and_true, if_true, if_false, true_or, or_true, Nat.reduceAdd, Int.reduceAdd, Bool.false_eq_true, tn_0, tn_1, tn_2, tn_3, tn_4, tn_5, tn_6, tn_7, h11]
  refine J_callSr (bit_c _ (by omega) _) k_X4_growOrLie_5 o_X5_bit rfl (by decide) rfl (Nat.le_of_ble_eq_true rfl) ?_
  rw [hb]
  cases hs : sd s m
  · refine J_blk a_X4_growOrLie_8 ?_
    simp only [b_X4_growOrLie_8, w_iconst_1, w_icmp_ne, w_nil, kb0 hT, kb1 hT, kb2 hT, kb3 hT, kb4 hT, kb5 hT, kb6 hT, kb7 hT, kb8 hT, lb1 hT, lb2 hT, lb3 hT, lb4 hT, lb5 hT, lb6 hT, lb7 hT, lb8 hT, Option.toList_some, Option.toList_none, List.cons_append, List.nil_append, true_and, and_true, if_true, if_false, true_or, or_true, Nat.reduceAdd, Int.reduceAdd, Bool.false_eq_true, tn_0, tn_1, tn_2, tn_3, tn_4, tn_5, tn_6, tn_7]
    refine ⟨fun _ => ?_, fun h => absurd h (by decide)⟩
    exact tail M _ hx (own 4) (own 5) (FB.refl _ _) rfl (by rw [hs]; rfl)
  · refine J_blk a_X4_growOrLie_8 ?_
    simp only [b_X4_growOrLie_8, w_iconst_1, w_icmp_ne, w_nil, kb0 hT, kb1 hT, kb2 hT, kb3 hT, kb4 hT, kb5 hT, kb6 hT, kb7 hT, kb8 hT, lb1 hT, lb2 hT, lb3 hT, lb4 hT, lb5 hT, lb6 hT, lb7 hT, lb8 hT, Option.toList_some, Option.toList_none, List.cons_append, List.nil_append, true_and, and_true, if_true, if_false, true_or, or_true, Nat.reduceAdd, Int.reduceAdd, Bool.false_eq_true, tn_0, tn_1, tn_2, tn_3, tn_4, tn_5, tn_6, tn_7]
    refine ⟨fun h => absurd rfl h, fun _ => ?_⟩
    have y4 := (hx.2.2.2.2.2.2 m hm).2.2.1
    have y5 := (hx.2.2.2.2.2.2 m hm).2.2.2.1
    rw [own 2] at y4
    rw [own 3] at y5
    refine J_blk a_X4_growOrLie_12 ?_
    simp only [b_X4_growOrLie_12, w_aload_n0, w_getf4, ne0_4, w_iload_n1, w_iald, w_nil, kb0 hT, kb1 hT, kb2 hT, kb3 hT, kb4 hT, kb5 hT, kb6 hT, kb7 hT, kb8 hT, lb1 hT, lb2 hT, lb3 hT, lb4 hT, lb5 hT, lb6 hT, lb7 hT, lb8 hT, Option.toList_some, Option.toList_none, List.cons_append, List.nil_append, true_and, and_true, if_true, if_false, true_or, or_true, Nat.reduceAdd, Int.reduceAdd, Bool.false_eq_true, tn_0, tn_1, tn_2, tn_3, tn_4, tn_5, tn_6, tn_7, tm, y4]
    refine ⟨vinN (by omega) (by decide), ?_⟩
    refine J_callVr (ci := 4) (gains_c h8 hx hT hm) k_X4_growOrLie_25 o_X4_gains (kb0 hT) rfl rfl rfl (by decide) rfl (Nat.le_of_ble_eq_true rfl) ?_
    rw [gain_own]
    refine J_blk a_X4_growOrLie_28 ?_
    simp only [b_X4_growOrLie_28, w_iadd, w_iconst_0, w_bipush, ci_9, w_nil, kb0 hT, kb1 hT, kb2 hT, kb3 hT, kb4 hT, kb5 hT, kb6 hT, kb7 hT, kb8 hT, lb1 hT, lb2 hT, lb3 hT, lb4 hT, lb5 hT, lb6 hT, lb7 hT, lb8 hT, Option.toList_some, Option.toList_none, List.cons_append, List.nil_append, true_and, and_true, if_true, if_false, true_or, or_true, Nat.reduceAdd, Int.reduceAdd, Bool.false_eq_true, tn_0, tn_1, tn_2, tn_3, tn_4, tn_5, tn_6, tn_7]
    refine J_callSr (held_c _ _) k_X4_growOrLie_32 o_X5_held rfl (by decide) rfl (Nat.le_of_ble_eq_true rfl) ?_
    have y5' : ∀ v, (u1 M (b + 4) m v).1 (b + 5) m = s (8 + 6 * m + 3) := fun v => by rw [u1_o _ _ _ _ (by omega)]; exact y5
    refine J_blk a_X4_growOrLie_35 ?_
    simp only [b_X4_growOrLie_35, w_iast, w_aload_n0, w_getf4, ne0_5, w_iload_n1, w_bipush, ci_99, w_iald, w_iconst_1, w_iadd, w_nil, kb0 hT, kb1 hT, kb2 hT, kb3 hT, kb4 hT, kb5 hT, kb6 hT, kb7 hT, kb8 hT, lb1 hT, lb2 hT, lb3 hT, lb4 hT, lb5 hT, lb6 hT, lb7 hT, lb8 hT, Option.toList_some, Option.toList_none, List.cons_append, List.nil_append, true_and, and_true, if_true, if_false, true_or, or_true, Nat.reduceAdd, Int.reduceAdd, Bool.false_eq_true, tn_0, tn_1, tn_2, tn_3, tn_4, tn_5, tn_6, tn_7, tm, y5']
    refine ⟨vinN (by omega) (by decide), vinN (by omega) (by decide), ?_⟩
    refine J_min z_X4_growOrLie_51 (by decide) (Nat.le_of_ble_eq_true rfl) ?_
    rw [min_lea]
    refine J_blk a_X4_growOrLie_54 ?_
    simp only [b_X4_growOrLie_54, w_iast, w_nil, kb0 hT, kb1 hT, kb2 hT, kb3 hT, kb4 hT, kb5 hT, kb6 hT, kb7 hT, kb8 hT, lb1 hT, lb2 hT, lb3 hT, lb4 hT, lb5 hT, lb6 hT, lb7 hT, lb8 hT, Option.toList_some, Option.toList_none, List.cons_append, List.nil_append, true_and, and_true, if_true, if_false, true_or, or_true, Nat.reduceAdd, Int.reduceAdd, Bool.false_eq_true, tn_0, tn_1, tn_2, tn_3, tn_4, tn_5, tn_6, tn_7, tm]
    refine ⟨vinN (by omega) (by decide), ?_⟩
    exact tail _ _ (RX_5 (RX_4 hx _) _) (by rw [pk_un (by omega), pk_un (by omega), own 4]) (by rw [pk_un (by omega), pk_un (by omega), own 5]) ((FB_u1 M _ _ (by omega)).trans (FB_u1 _ _ _ (by omega))) (by rw [u1_o _ _ _ _ (by omega), u1_o _ _ _ _ (by omega)]) (by rw [hs]; rfl)
theorem RX_congr {M : Mm} {b n : Nat} {s s' : Nat → Int32} (h : ∀ j, j < 56 → s j = s' j) (hn : n ≤ 8) (hx : RX M b s n) : RX M b s' n := by
  obtain ⟨x7, xy, xc, xz, x6, xl, xo⟩ := hx
  refine ⟨x7, by rw [← h 1 (by omega)]; exact xy, by rw [← h 3 (by omega)]; exact xc, by rw [← h 2 (by omega)]; exact xz, ?_, fun j hj => by rw [← h (4 + j) (by omega)]; exact xl j hj, fun o ho => ?_⟩
  · rw [x6]
    exact bsF_congr n (fun q hq => by unfold cuF; rw [h (8 + 6 * q + 4) (by omega)])
  · rw [← h (8 + 6 * o) (by omega), ← h (8 + 6 * o + 1) (by omega), ← h (8 + 6 * o + 2) (by omega), ← h (8 + 6 * o + 3) (by omega), ← h (8 + 6 * o + 5) (by omega)]
    exact xo o ho
theorem passYear_c {M : Mm} {b n : Nat} {s : Nat → Int32} (hw : WF s n) (hl : WL s n) (hx : RX M b s n) (hT : TB b) : K 3 mX4_passYear [.ref b] M (Rq (some (.int (sumS s n))) (fun M' => RX M' b (yearS s n) n ∧ FB b M M' ∧ M'.1 b 11 = bsF (sd s) n)) := by
  have h8 := hw.2.1
  generalize hM1 : smN M b (hsR s (M.1 (b + 7)) n) (ldR s (M.1 (b + 8)) n) (bsF (sd s) n) = M1
  have hx1 : RX M1 b s n := by rw [← hM1]; exact sm_RX hx
  have hv1 : SV M1 b s n := by rw [← hM1]; exact sm_SV hw
  have hf1 : FB b M M1 := by rw [← hM1]; exact sm_FB
  have last : ∀ M2 : Mm, RX M2 b (ybS s (sd s) n) n → FB b M M2 → M2.1 b = M1.1 b → ∀ z : Int32, J 3 mX4_passYear 68 [some (.ref b), some (.int (sumS s n)), some (.int z)] [] M2 (Rq (some (.int (sumS s n))) (fun M' => RX M' b (yearS s n) n ∧ FB b M M' ∧ M'.1 b 11 = bsF (sd s) n)) := by
    intro M2 h2 hf hb z
    have c9 : M2.1 b 9 = s 3 := by rw [hb]; exact hx1.2.2.1
    have c8 : ∀ v, (u1 M2 b 9 v).1 b 8 = s 1 := fun v => by simp [u1]; rw [hb]; exact hx1.2.1
    refine J_blk a_X4_passYear_68 ?_
    simp only [b_X4_passYear_68, w_aload_n0, w_ldc, ci_99999, w_getf4, w_iload_n1, w_iadd, w_nil, kb0 hT, kb1 hT, kb2 hT, kb3 hT, kb4 hT, kb5 hT, kb6 hT, kb7 hT, kb8 hT, lb1 hT, lb2 hT, lb3 hT, lb4 hT, lb5 hT, lb6 hT, lb7 hT, lb8 hT, Option.toList_some, Option.toList_none, List.cons_append, List.nil_append, true_and, and_true, if_true, if_false, true_or, or_true, Nat.reduceAdd, Int.reduceAdd, Bool.false_eq_true, tn_0, tn_1, tn_2, tn_3, tn_4, tn_5, tn_6, tn_7, c9]
    refine J_min z_X4_passYear_77 (by decide) (Nat.le_of_ble_eq_true rfl) ?_
    rw [min_lea]
    refine J_blk a_X4_passYear_80 ?_
    simp only [b_X4_passYear_80, w_putf4, w_aload_n0, w_dup_i, w_dup_a, w_getf4, w_iconst_1, w_iadd, w_iload_n1, w_ireti, kb0 hT, kb1 hT, kb2 hT, kb3 hT, kb4 hT, kb5 hT, kb6 hT, kb7 hT, kb8 hT, lb1 hT, lb2 hT, lb3 hT, lb4 hT, lb5 hT, lb6 hT, lb7 hT, lb8 hT, Option.toList_some, Option.toList_none, List.cons_append, List.nil_append, true_and, and_true, if_true, if_false, true_or, or_true, Nat.reduceAdd, Int.reduceAdd, Bool.false_eq_true, tn_0, tn_1, tn_2, tn_3, tn_4, tn_5, tn_6, tn_7, c8]
    refine ⟨rfl, ?_, (hf.trans (FB_u1 M2 _ _ (by omega))).trans (FB_u1 _ _ _ (by omega)), ?_⟩
    · have q := RX_f8 (RX_f9 h2 (lea 99999 (s 3 + sumS s n))) (s 1 + 1)
      have e : upd (upd (ybS s (sd s) n) 3 (lea 99999 (s 3 + sumS s n))) 1 (s 1 + 1) = yearS s n := by
        funext j
        unfold yearS yearR
        by_cases j1 : j = 1
        · subst j1; simp [upd]
        · by_cases j3 : j = 3
          · subst j3; simp [upd]
          · simp [upd, j1, j3]
      rw [e] at q
      exact q
    · simp [u1]
      rw [hb]
      exact hv1.1
  have loop2 : ∀ k, k ≤ n → ∀ M2 : Mm, RX M2 b (ybS s (sd s) k) n → FB b M M2 → M2.1 b = M1.1 b → J 3 mX4_passYear 49 [some (.ref b), some (.int (sumS s n)), some (.int (nI k))] [] M2 (Rq (some (.int (sumS s n))) (fun M' => RX M' b (yearS s n) n ∧ FB b M M' ∧ M'.1 b 11 = bsF (sd s) n)) := by
    refine down n ?_ ?_
    · intro M2 h2 hf hb
      have x7 := h2.1
      refine J_blk a_X4_passYear_49 ?_
      simp only [b_X4_passYear_49, w_iload_n2, w_aload_n0, w_getf4, w_icmp_ge, w_nil, kb0 hT, kb1 hT, kb2 hT, kb3 hT, kb4 hT, kb5 hT, kb6 hT, kb7 hT, kb8 hT, lb1 hT, lb2 hT, lb3 hT, lb4 hT, lb5 hT, lb6 hT, lb7 hT, lb8 hT, Option.toList_some, Option.toList_none, List.cons_append, List.nil_append, true_and, and_true, if_true, if_false, true_or, or_true, Nat.reduceAdd, Int.reduceAdd, Bool.false_eq_true, tn_0, tn_1, tn_2, tn_3, tn_4, tn_5, tn_6, tn_7, x7]
      exact ⟨fun _ => last M2 h2 hf hb _, fun h => absurd (Int32.le_refl _) h⟩
    · intro k hk ih M2 h2 hf hb
      have x7 := h2.1
      refine J_blk a_X4_passYear_49 ?_
      simp only [b_X4_passYear_49, w_iload_n2, w_aload_n0, w_getf4, w_icmp_ge, w_nil, kb0 hT, kb1 hT, kb2 hT, kb3 hT, kb4 hT, kb5 hT, kb6 hT, kb7 hT, kb8 hT, lb1 hT, lb2 hT, lb3 hT, lb4 hT, lb5 hT, lb6 hT, lb7 hT, lb8 hT, Option.toList_some, Option.toList_none, List.cons_append, List.nil_append, true_and, and_true, if_true, if_false, true_or, or_true, Nat.reduceAdd, Int.reduceAdd, Bool.false_eq_true, tn_0, tn_1, tn_2, tn_3, tn_4, tn_5, tn_6, tn_7, x7]
      refine ⟨fun h => absurd h (nI_ge hk (by omega)), fun _ => ?_⟩
      refine J_blk a_X4_passYear_57 ?_
      simp only [b_X4_passYear_57, w_aload_n0, w_iload_n2, w_nil, kb0 hT, kb1 hT, kb2 hT, kb3 hT, kb4 hT, kb5 hT, kb6 hT, kb7 hT, kb8 hT, lb1 hT, lb2 hT, lb3 hT, lb4 hT, lb5 hT, lb6 hT, lb7 hT, lb8 hT, Option.toList_some, Option.toList_none, List.cons_append, List.nil_append, true_and, and_true, if_true, if_false, true_or, or_true, Nat.reduceAdd, Int.reduceAdd, Bool.false_eq_true, tn_0, tn_1, tn_2, tn_3, tn_4, tn_5, tn_6, tn_7]
      refine J_callV (ci := 4) (growOrLie_c hw hl h2 (by rw [hb]; exact hv1.1) hT hk) k_X4_passYear_59 o_X4_growOrLie (kb0 hT) rfl rfl rfl (by decide) rfl (Nat.le_of_ble_eq_true rfl) ?_
      rintro r M3 ⟨rfl, g1, g2, g3⟩
      refine J_blk a_X4_passYear_62 ?_
      simp only [b_X4_passYear_62, w_iinc2, nl_2n, nl_2i, nl_2a, ci_1, w_goto, kb0 hT, kb1 hT, kb2 hT, kb3 hT, kb4 hT, kb5 hT, kb6 hT, kb7 hT, kb8 hT, lb1 hT, lb2 hT, lb3 hT, lb4 hT, lb5 hT, lb6 hT, lb7 hT, lb8 hT, Option.toList_some, Option.toList_none, List.cons_append, List.nil_append, true_and, and_true, if_true, if_false, true_or, or_true, Nat.reduceAdd, Int.reduceAdd, Bool.false_eq_true, tn_0, tn_1, tn_2, tn_3, tn_4, tn_5, tn_6, tn_7, nI_1]
      exact ih M3 g1 (hf.trans g2) (g3.trans hb)
  have loop1 : ∀ k, k ≤ n → J 3 mX4_passYear 9 [some (.ref b), some (.int (smS s (sd s) n k)), some (.int (nI k))] [] M1 (Rq (some (.int (sumS s n))) (fun M' => RX M' b (yearS s n) n ∧ FB b M M' ∧ M'.1 b 11 = bsF (sd s) n)) := by
    have x7 := hx1.1
    refine down n ?_ ?_
    · refine J_blk a_X4_passYear_9 ?_
      simp only [b_X4_passYear_9, w_iload_n2, w_aload_n0, w_getf4, w_icmp_ge, w_nil, kb0 hT, kb1 hT, kb2 hT, kb3 hT, kb4 hT, kb5 hT, kb6 hT, kb7 hT, kb8 hT, lb1 hT, lb2 hT, lb3 hT, lb4 hT, lb5 hT, lb6 hT, lb7 hT, lb8 hT, Option.toList_some, Option.toList_none, List.cons_append, List.nil_append, true_and, and_true, if_true, if_false, true_or, or_true, Nat.reduceAdd, Int.reduceAdd, Bool.false_eq_true, tn_0, tn_1, tn_2, tn_3, tn_4, tn_5, tn_6, tn_7, x7]
      refine ⟨fun _ => ?_, fun h => absurd (Int32.le_refl _) h⟩
      refine J_blk a_X4_passYear_47 ?_
      simp only [b_X4_passYear_47, w_iconst_0, w_istore2, nl_2n, nl_2i, nl_2a, w_nil, kb0 hT, kb1 hT, kb2 hT, kb3 hT, kb4 hT, kb5 hT, kb6 hT, kb7 hT, kb8 hT, lb1 hT, lb2 hT, lb3 hT, lb4 hT, lb5 hT, lb6 hT, lb7 hT, lb8 hT, Option.toList_some, Option.toList_none, List.cons_append, List.nil_append, true_and, and_true, if_true, if_false, true_or, or_true, Nat.reduceAdd, Int.reduceAdd, Bool.false_eq_true, tn_0, tn_1, tn_2, tn_3, tn_4, tn_5, tn_6, tn_7]
      exact loop2 0 (by omega) M1 (by rw [ybS_0]; exact hx1) hf1 rfl
    · intro k hk ih
      rw [smS] at ih
      have hb : bt (bsF (sd s) n) k = sd s k := bt_sd h8 hk
      have v1 := hv1.1
      refine J_blk a_X4_passYear_9 ?_
      simp only [b_X4_passYear_9, w_iload_n2, w_aload_n0, w_getf4, w_icmp_ge, w_nil, kb0 hT, kb1 hT, kb2 hT, kb3 hT, kb4 hT, kb5 hT, kb6 hT, kb7 hT, kb8 hT, lb1 hT, lb2 hT, lb3 hT, lb4 hT, lb5 hT, lb6 hT, lb7 hT, lb8 hT, Option.toList_some, Option.toList_none, List.cons_append, List.nil_append, true_and, and_true, if_true, if_false, true_or, or_true, Nat.reduceAdd, Int.reduceAdd, Bool.false_eq_true, tn_0, tn_1, tn_2, tn_3, tn_4, tn_5, tn_6, tn_7, x7]
      refine ⟨fun h => absurd h (nI_ge hk (by omega)), fun _ => ?_⟩
      refine J_blk a_X4_passYear_17 ?_
      simp only [b_X4_passYear_17, w_aload_n0, w_getf4, w_iload_n2, w_nil, kb0 hT, kb1 hT, kb2 hT, kb3 hT, kb4 hT, kb5 hT, kb6 hT, kb7 hT, kb8 hT, lb1 hT, lb2 hT, lb3 hT, lb4 hT, lb5 hT, lb6 hT, lb7 hT, lb8 hT, Option.toList_some, Option.toList_none, List.cons_append, List.nil_append, true_and, and_true, if_true, if_false, true_or, or_true, Nat.reduceAdd, Int.reduceAdd, Bool.false_eq_true, tn_0, tn_1, tn_2, tn_3, tn_4, tn_5, tn_6, tn_7, v1]
      refine J_callSr (bit_c _ (by omega) _) k_X4_passYear_22 o_X5_bit rfl (by decide) rfl (Nat.le_of_ble_eq_true rfl) ?_
      rw [hb]
      cases hs : sd s k
      · rw [hs] at ih
        refine J_blk a_X4_passYear_25 ?_
        simp only [b_X4_passYear_25, w_iconst_1, w_icmp_ne, w_nil, kb0 hT, kb1 hT, kb2 hT, kb3 hT, kb4 hT, kb5 hT, kb6 hT, kb7 hT, kb8 hT, lb1 hT, lb2 hT, lb3 hT, lb4 hT, lb5 hT, lb6 hT, lb7 hT, lb8 hT, Option.toList_some, Option.toList_none, List.cons_append, List.nil_append, true_and, and_true, if_true, if_false, true_or, or_true, Nat.reduceAdd, Int.reduceAdd, Bool.false_eq_true, tn_0, tn_1, tn_2, tn_3, tn_4, tn_5, tn_6, tn_7]
        refine ⟨fun _ => ?_, fun h => absurd h (by decide)⟩
        refine J_blk a_X4_passYear_41 ?_
        simp only [b_X4_passYear_41, w_iinc2, nl_2n, nl_2i, nl_2a, ci_1, w_goto, kb0 hT, kb1 hT, kb2 hT, kb3 hT, kb4 hT, kb5 hT, kb6 hT, kb7 hT, kb8 hT, lb1 hT, lb2 hT, lb3 hT, lb4 hT, lb5 hT, lb6 hT, lb7 hT, lb8 hT, Option.toList_some, Option.toList_none, List.cons_append, List.nil_append, true_and, and_true, if_true, if_false, true_or, or_true, Nat.reduceAdd, Int.reduceAdd, Bool.false_eq_true, tn_0, tn_1, tn_2, tn_3, tn_4, tn_5, tn_6, tn_7, nI_1]
        exact J_cast ih (by simp) rfl rfl
      · rw [hs] at ih
        refine J_blk a_X4_passYear_25 ?_
        simp only [b_X4_passYear_25, w_iconst_1, w_icmp_ne, w_nil, kb0 hT, kb1 hT, kb2 hT, kb3 hT, kb4 hT, kb5 hT, kb6 hT, kb7 hT, kb8 hT, lb1 hT, lb2 hT, lb3 hT, lb4 hT, lb5 hT, lb6 hT, lb7 hT, lb8 hT, Option.toList_some, Option.toList_none, List.cons_append, List.nil_append, true_and, and_true, if_true, if_false, true_or, or_true, Nat.reduceAdd, Int.reduceAdd, Bool.false_eq_true, tn_0, tn_1, tn_2, tn_3, tn_4, tn_5, tn_6, tn_7]
        refine ⟨fun h => absurd rfl h, fun _ => ?_⟩
        refine J_blk a_X4_passYear_29 ?_
        simp only [b_X4_passYear_29, w_iload_n1, w_iconst_0, w_aload_n0, w_iload_n2, w_nil, kb0 hT, kb1 hT, kb2 hT, kb3 hT, kb4 hT, kb5 hT, kb6 hT, kb7 hT, kb8 hT, lb1 hT, lb2 hT, lb3 hT, lb4 hT, lb5 hT, lb6 hT, lb7 hT, lb8 hT, Option.toList_some, Option.toList_none, List.cons_append, List.nil_append, true_and, and_true, if_true, if_false, true_or, or_true, Nat.reduceAdd, Int.reduceAdd, Bool.false_eq_true, tn_0, tn_1, tn_2, tn_3, tn_4, tn_5, tn_6, tn_7]
        refine J_callVr (ci := 4) (bears_c hw hx1 hv1 hT hk) k_X4_passYear_33 o_X4_bears (kb0 hT) rfl rfl rfl (by decide) rfl (Nat.le_of_ble_eq_true rfl) ?_
        refine J_max z_X4_passYear_36 (by decide) (Nat.le_of_ble_eq_true rfl) ?_
        refine J_blk a_X4_passYear_39 ?_
        simp only [b_X4_passYear_39, w_iadd, w_istore1, nl_1n, nl_1i, nl_1a, w_nil, kb0 hT, kb1 hT, kb2 hT, kb3 hT, kb4 hT, kb5 hT, kb6 hT, kb7 hT, kb8 hT, lb1 hT, lb2 hT, lb3 hT, lb4 hT, lb5 hT, lb6 hT, lb7 hT, lb8 hT, Option.toList_some, Option.toList_none, List.cons_append, List.nil_append, true_and, and_true, if_true, if_false, true_or, or_true, Nat.reduceAdd, Int.reduceAdd, Bool.false_eq_true, tn_0, tn_1, tn_2, tn_3, tn_4, tn_5, tn_6, tn_7]
        refine J_blk a_X4_passYear_41 ?_
        simp only [b_X4_passYear_41, w_iinc2, nl_2n, nl_2i, nl_2a, ci_1, w_goto, kb0 hT, kb1 hT, kb2 hT, kb3 hT, kb4 hT, kb5 hT, kb6 hT, kb7 hT, kb8 hT, lb1 hT, lb2 hT, lb3 hT, lb4 hT, lb5 hT, lb6 hT, lb7 hT, lb8 hT, Option.toList_some, Option.toList_none, List.cons_append, List.nil_append, true_and, and_true, if_true, if_false, true_or, or_true, Nat.reduceAdd, Int.reduceAdd, Bool.false_eq_true, tn_0, tn_1, tn_2, tn_3, tn_4, tn_5, tn_6, tn_7, nI_1]
        exact J_cast ih (by simp) rfl rfl
  refine K_go 0 o_X4_passYear [none, none] rfl (Nat.le_of_ble_eq_true rfl) ?_
  simp only [lvA_i, lvA_a, lvA_l, lvA_nil, List.cons_append, List.nil_append]
  refine J_blk a_X4_passYear_0 ?_
  simp only [b_X4_passYear_0, w_aload_n0, w_nil, kb0 hT, kb1 hT, kb2 hT, kb3 hT, kb4 hT, kb5 hT, kb6 hT, kb7 hT, kb8 hT, lb1 hT, lb2 hT, lb3 hT, lb4 hT, lb5 hT, lb6 hT, lb7 hT, lb8 hT, Option.toList_some, Option.toList_none, List.cons_append, List.nil_append, true_and, and_true, if_true, if_false, true_or, or_true, Nat.reduceAdd, Int.reduceAdd, Bool.false_eq_true, tn_0, tn_1, tn_2, tn_3, tn_4, tn_5, tn_6, tn_7]
  refine J_callVr (ci := 4) (survey_c hw hx hT) k_X4_passYear_1 o_X4_survey (kb0 hT) rfl rfl rfl (by decide) rfl (Nat.le_of_ble_eq_true rfl) ?_
  rw [hM1]
  refine J_blk a_X4_passYear_4 ?_
  simp only [b_X4_passYear_4, w_pop_i, w_pop_a, w_iconst_0, w_istore1, nl_1n, nl_1i, nl_1a, w_istore2, nl_2n, nl_2i, nl_2a, w_nil, kb0 hT, kb1 hT, kb2 hT, kb3 hT, kb4 hT, kb5 hT, kb6 hT, kb7 hT, kb8 hT, lb1 hT, lb2 hT, lb3 hT, lb4 hT, lb5 hT, lb6 hT, lb7 hT, lb8 hT, Option.toList_some, Option.toList_none, List.cons_append, List.nil_append, true_and, and_true, if_true, if_false, true_or, or_true, Nat.reduceAdd, Int.reduceAdd, Bool.false_eq_true, tn_0, tn_1, tn_2, tn_3, tn_4, tn_5, tn_6, tn_7]
  exact loop1 0 (by omega)
theorem WL_year {s : Nat → Int32} {n : Nat} (st : Nat → Bool) (sum : Int32) : WL (yearR s st n sum) n := by
  intro o ho h
  rw [yearR_at, ybS_at s st ho (show 4 < 6 by omega)] at h
  rw [yearR_at, ybS_at s st ho (show 5 < 6 by omega)]
  rw [if_neg (by omega), if_neg (by omega), if_neg (by omega)] at h
  rw [if_neg (by omega), if_neg (by omega), if_pos rfl, show 8 + 6 * o + 5 - 1 = 8 + 6 * o + 4 by omega, if_neg h]
theorem WL_yrs {s : Nat → Int32} {n : Nat} (h : WL s n) : ∀ k, WL (yrs s n k) n := by
  intro k
  cases k with
  | zero => exact h
  | succ k => exact WL_year _ _
theorem passYears_c {M : Mm} {b n y : Nat} {s : Nat → Int32} (hw : WF s n) (hl : WL s n) (hx : RX M b s n) (hT : TB b) (hy : y ≤ 60) : K 4 mX4_passYears [.ref b, .int (nI y)] M (Rq (some (.int (hvS s n y))) (fun M' => RX M' b (yrs s n y) n ∧ FB b M M')) := by
  have loop : ∀ k, k ≤ y → ∀ M2 : Mm, RX M2 b (yrs s n k) n → FB b M M2 → J 4 mX4_passYears 4 [some (.ref b), some (.int (nI y)), some (.int (hvS s n k)), some (.int (nI k))] [] M2 (Rq (some (.int (hvS s n y))) (fun M' => RX M' b (yrs s n y) n ∧ FB b M M')) := by
    refine down y ?_ ?_
    · intro M2 h2 hf
      refine J_blk a_X4_passYears_4 ?_
      simp only [b_X4_passYears_4, w_iload_n3, w_iload_n1, w_icmp_ge, w_nil, kb0 hT, kb1 hT, kb2 hT, kb3 hT, kb4 hT, kb5 hT, kb6 hT, kb7 hT, kb8 hT, lb1 hT, lb2 hT, lb3 hT, lb4 hT, lb5 hT, lb6 hT, lb7 hT, lb8 hT, Option.toList_some, Option.toList_none, List.cons_append, List.nil_append, true_and, and_true, if_true, if_false, true_or, or_true, Nat.reduceAdd, Int.reduceAdd, Bool.false_eq_true, tn_0, tn_1, tn_2, tn_3, tn_4, tn_5, tn_6, tn_7]
      refine ⟨fun _ => ?_, fun h => absurd (Int32.le_refl _) h⟩
      refine J_blk a_X4_passYears_22 ?_
      simp only [b_X4_passYears_22, w_iload_n2, w_ireti, kb0 hT, kb1 hT, kb2 hT, kb3 hT, kb4 hT, kb5 hT, kb6 hT, kb7 hT, kb8 hT, lb1 hT, lb2 hT, lb3 hT, lb4 hT, lb5 hT, lb6 hT, lb7 hT, lb8 hT, Option.toList_some, Option.toList_none, List.cons_append, List.nil_append, true_and, and_true, if_true, if_false, true_or, or_true, Nat.reduceAdd, Int.reduceAdd, Bool.false_eq_true, tn_0, tn_1, tn_2, tn_3, tn_4, tn_5, tn_6, tn_7]
      exact ⟨rfl, h2, hf⟩
    · intro k hk ih M2 h2 hf
      refine J_blk a_X4_passYears_4 ?_
      simp only [b_X4_passYears_4, w_iload_n3, w_iload_n1, w_icmp_ge, w_nil, kb0 hT, kb1 hT, kb2 hT, kb3 hT, kb4 hT, kb5 hT, kb6 hT, kb7 hT, kb8 hT, lb1 hT, lb2 hT, lb3 hT, lb4 hT, lb5 hT, lb6 hT, lb7 hT, lb8 hT, Option.toList_some, Option.toList_none, List.cons_append, List.nil_append, true_and, and_true, if_true, if_false, true_or, or_true, Nat.reduceAdd, Int.reduceAdd, Bool.false_eq_true, tn_0, tn_1, tn_2, tn_3, tn_4, tn_5, tn_6, tn_7]
      refine ⟨fun h => absurd h (nI_ge hk (by omega)), fun _ => ?_⟩
      refine J_blk a_X4_passYears_9 ?_
      simp only [b_X4_passYears_9, w_iload_n2, w_aload_n0, w_nil, kb0 hT, kb1 hT, kb2 hT, kb3 hT, kb4 hT, kb5 hT, kb6 hT, kb7 hT, kb8 hT, lb1 hT, lb2 hT, lb3 hT, lb4 hT, lb5 hT, lb6 hT, lb7 hT, lb8 hT, Option.toList_some, Option.toList_none, List.cons_append, List.nil_append, true_and, and_true, if_true, if_false, true_or, or_true, Nat.reduceAdd, Int.reduceAdd, Bool.false_eq_true, tn_0, tn_1, tn_2, tn_3, tn_4, tn_5, tn_6, tn_7]
      refine J_callV (ci := 4) (passYear_c (WF_yrs hw k) (WL_yrs hl k) h2 hT) k_X4_passYears_11 o_X4_passYear (kb0 hT) rfl rfl rfl (by decide) rfl (Nat.le_of_ble_eq_true rfl) ?_
      rintro r M3 ⟨rfl, g1, g2, g3⟩
      refine J_blk a_X4_passYears_14 ?_
      simp only [b_X4_passYears_14, w_iadd, w_istore2, nl_2n, nl_2i, nl_2a, w_iinc3, nl_3n, nl_3i, nl_3a, ci_1, w_goto, kb0 hT, kb1 hT, kb2 hT, kb3 hT, kb4 hT, kb5 hT, kb6 hT, kb7 hT, kb8 hT, lb1 hT, lb2 hT, lb3 hT, lb4 hT, lb5 hT, lb6 hT, lb7 hT, lb8 hT, Option.toList_some, Option.toList_none, List.cons_append, List.nil_append, true_and, and_true, if_true, if_false, true_or, or_true, Nat.reduceAdd, Int.reduceAdd, Bool.false_eq_true, tn_0, tn_1, tn_2, tn_3, tn_4, tn_5, tn_6, tn_7, nI_1]
      exact ih M3 g1 (hf.trans g2)
  refine K_go 1 o_X4_passYears [none, none] rfl (Nat.le_of_ble_eq_true rfl) ?_
  simp only [lvA_i, lvA_a, lvA_l, lvA_nil, List.cons_append, List.nil_append]
  refine J_blk a_X4_passYears_0 ?_
  simp only [b_X4_passYears_0, w_iconst_0, w_istore2, nl_2n, nl_2i, nl_2a, w_istore3, nl_3n, nl_3i, nl_3a, w_nil, kb0 hT, kb1 hT, kb2 hT, kb3 hT, kb4 hT, kb5 hT, kb6 hT, kb7 hT, kb8 hT, lb1 hT, lb2 hT, lb3 hT, lb4 hT, lb5 hT, lb6 hT, lb7 hT, lb8 hT, Option.toList_some, Option.toList_none, List.cons_append, List.nil_append, true_and, and_true, if_true, if_false, true_or, or_true, Nat.reduceAdd, Int.reduceAdd, Bool.false_eq_true, tn_0, tn_1, tn_2, tn_3, tn_4, tn_5, tn_6, tn_7]
  exact loop 0 (by omega) M hx (FB.refl _ _)
theorem nextDraw_c {M : Mm} {b : Nat} (hT : TB b) : K 0 mX4_nextDraw [.ref b] M (Rt (some (.int (drS (zS (M.1 b 10))))) (u1 M b 10 (zS (M.1 b 10)))) := by
  have e : ∀ v, (u1 M b 10 v).1 b 10 = v := fun v => by simp [u1]
  refine K_go 0 o_X4_nextDraw [] rfl (Nat.le_of_ble_eq_true rfl) ?_
  simp only [lvA_i, lvA_a, lvA_l, lvA_nil, List.cons_append, List.nil_append]
  refine J_blk a_X4_nextDraw_0 ?_
  simp only [b_X4_nextDraw_0, w_aload_n0, w_getf4, w_ldc, ci_1103515245, w_imul, w_sipush, ci_12345, w_iadd, w_putf4, w_bipush, ci_16, w_iushr, w_ireti, kb0 hT, kb1 hT, kb2 hT, kb3 hT, kb4 hT, kb5 hT, kb6 hT, kb7 hT, kb8 hT, lb1 hT, lb2 hT, lb3 hT, lb4 hT, lb5 hT, lb6 hT, lb7 hT, lb8 hT, Option.toList_some, Option.toList_none, List.cons_append, List.nil_append, true_and, and_true, if_true, if_false, true_or, or_true, Nat.reduceAdd, Int.reduceAdd, Bool.false_eq_true, tn_0, tn_1, tn_2, tn_3, tn_4, tn_5, tn_6, tn_7, e]
  exact ⟨rfl, rfl⟩
theorem WL_fr {s : Nat → Int32} {n : Nat} (h : WL s n) : WL (frR s n) n := by
  unfold frR
  by_cases h0 : n = 0
  · rw [if_pos h0]; exact h
  · rw [if_neg h0]
    intro o ho hc
    rw [pk_un (by omega), pk_un (by omega)] at hc ⊢
    exact h o ho hc
theorem byDraws_c {M : Mm} {b n : Nat} {s : Nat → Int32} (hw : WF s n) (hl : WL s n) (hx : RX M b s n) (hT : TB b) : K 4 mX4_passYearByDraws [.ref b] M (Rq (some (.int (sumS (frR s n) n))) (fun M' => RX M' b (yearS (frR s n) n) n ∧ FB b M M')) := by
  have h8 := hw.2.1
  have tail : ∀ (M2 : Mm) (z : Option Value), RX M2 b (frR s n) n → FB b M M2 → J 4 mX4_passYearByDraws 43 [some (.ref b), z] [] M2 (Rq (some (.int (sumS (frR s n) n))) (fun M' => RX M' b (yearS (frR s n) n) n ∧ FB b M M')) := by
    intro M2 z h2 hf
    refine J_blk a_X4_passYearByDraws_43 ?_
    simp only [b_X4_passYearByDraws_43, w_aload_n0, w_nil, kb0 hT, kb1 hT, kb2 hT, kb3 hT, kb4 hT, kb5 hT, kb6 hT, kb7 hT, kb8 hT, lb1 hT, lb2 hT, lb3 hT, lb4 hT, lb5 hT, lb6 hT, lb7 hT, lb8 hT, Option.toList_some, Option.toList_none, List.cons_append, List.nil_append, true_and, and_true, if_true, if_false, true_or, or_true, Nat.reduceAdd, Int.reduceAdd, Bool.false_eq_true, tn_0, tn_1, tn_2, tn_3, tn_4, tn_5, tn_6, tn_7]
    refine J_callV (ci := 4) (passYear_c (WF_frR hw) (WL_fr hl) h2 hT) k_X4_passYearByDraws_44 o_X4_passYear (kb0 hT) rfl rfl rfl (by decide) rfl (Nat.le_of_ble_eq_true rfl) ?_
    rintro r M3 ⟨rfl, g1, g2, g3⟩
    refine J_blk a_X4_passYearByDraws_47 ?_
    simp only [b_X4_passYearByDraws_47, w_ireti, kb0 hT, kb1 hT, kb2 hT, kb3 hT, kb4 hT, kb5 hT, kb6 hT, kb7 hT, kb8 hT, lb1 hT, lb2 hT, lb3 hT, lb4 hT, lb5 hT, lb6 hT, lb7 hT, lb8 hT, Option.toList_some, Option.toList_none, List.cons_append, List.nil_append, true_and, and_true, if_true, if_false, true_or, or_true, Nat.reduceAdd, Int.reduceAdd, Bool.false_eq_true, tn_0, tn_1, tn_2, tn_3, tn_4, tn_5, tn_6, tn_7]
    exact ⟨rfl, g1, hf.trans g2⟩
  have x7 := hx.1
  have xz := hx.2.2.2.1
  refine K_go 0 o_X4_passYearByDraws [none] rfl (Nat.le_of_ble_eq_true rfl) ?_
  simp only [lvA_i, lvA_a, lvA_l, lvA_nil, List.cons_append, List.nil_append]
  refine J_blk a_X4_passYearByDraws_0 ?_
  simp only [b_X4_passYearByDraws_0, w_aload_n0, w_getf4, w_if_le, w_nil, kb0 hT, kb1 hT, kb2 hT, kb3 hT, kb4 hT, kb5 hT, kb6 hT, kb7 hT, kb8 hT, lb1 hT, lb2 hT, lb3 hT, lb4 hT, lb5 hT, lb6 hT, lb7 hT, lb8 hT, Option.toList_some, Option.toList_none, List.cons_append, List.nil_append, true_and, and_true, if_true, if_false, true_or, or_true, Nat.reduceAdd, Int.reduceAdd, Bool.false_eq_true, tn_0, tn_1, tn_2, tn_3, tn_4, tn_5, tn_6, tn_7, x7]
  refine ⟨fun c => ?_, fun c => ?_⟩
  · have hn : n = 0 := by
      rcases Nat.eq_zero_or_pos n with h | h
      · exact h
      · exact absurd c (nI_nle h (by omega))
    exact tail M _ (by unfold frR; rw [if_pos hn]; exact hx) (FB.refl _ _)
  · have hn : n ≠ 0 := by intro z; subst z; exact c (by decide)
    have hh : dr (zS (s 2)) % n < n := Nat.mod_lt _ (by omega)
    have fr : frR s n = _ := if_neg hn
    generalize hit : dr (zS (s 2)) % n = q at *
    have tq : (nI q).toNatClampNeg = q := nI_clamp (by omega)
    refine J_blk a_X4_passYearByDraws_7 ?_
    simp only [b_X4_passYearByDraws_7, w_aload_n0, w_nil, kb0 hT, kb1 hT, kb2 hT, kb3 hT, kb4 hT, kb5 hT, kb6 hT, kb7 hT, kb8 hT, lb1 hT, lb2 hT, lb3 hT, lb4 hT, lb5 hT, lb6 hT, lb7 hT, lb8 hT, Option.toList_some, Option.toList_none, List.cons_append, List.nil_append, true_and, and_true, if_true, if_false, true_or, or_true, Nat.reduceAdd, Int.reduceAdd, Bool.false_eq_true, tn_0, tn_1, tn_2, tn_3, tn_4, tn_5, tn_6, tn_7]
    refine J_callVr (ci := 4) (nextDraw_c hT) k_X4_passYearByDraws_8 o_X4_nextDraw (kb0 hT) rfl rfl rfl (by decide) rfl (Nat.le_of_ble_eq_true rfl) ?_
    rw [xz, drS_N]
    have hx1 := RX_f10 hx (zS (s 2))
    have e7 : (u1 M b 10 (zS (s 2))).1 b 7 = nI n := hx1.1
    have er : nI (dr (zS (s 2))) - nI (dr (zS (s 2))) / nI n * nI n = nI q := by
      rw [pk_rem (by have := dr_lt (zS (s 2)); omega) (by omega) (by omega), hit]
    refine J_blk a_X4_passYearByDraws_11 ?_
    simp only [b_X4_passYearByDraws_11, w_aload_n0, w_getf4, w_irem, w_istore1, nl_1n, nl_1i, nl_1a, w_nil, kb0 hT, kb1 hT, kb2 hT, kb3 hT, kb4 hT, kb5 hT, kb6 hT, kb7 hT, kb8 hT, lb1 hT, lb2 hT, lb3 hT, lb4 hT, lb5 hT, lb6 hT, lb7 hT, lb8 hT, Option.toList_some, Option.toList_none, List.cons_append, List.nil_append, true_and, and_true, if_true, if_false, true_or, or_true, Nat.reduceAdd, Int.reduceAdd, Bool.false_eq_true, tn_0, tn_1, tn_2, tn_3, tn_4, tn_5, tn_6, tn_7, e7, er]
    refine ⟨nI_ne0 (by omega) (by omega), ?_⟩
    refine J_callVr (ci := 4) (nextDraw_c hT) k_X4_passYearByDraws_18 o_X4_nextDraw (kb0 hT) rfl rfl rfl (by decide) rfl (Nat.le_of_ble_eq_true rfl) ?_
    have e10 : (u1 M b 10 (zS (s 2))).1 b 10 = zS (s 2) := by simp [u1]
    rw [e10, drS_N]
    have hx2 := RX_f10 hx1 (zS (zS (s 2)))
    rw [upd_upd] at hx2
    generalize hM2 : u1 (u1 M b 10 (zS (s 2))) b 10 (zS (zS (s 2))) = M2 at *
    have hf2 : FB b M M2 := by rw [← hM2]; exact (FB_u1 M _ _ (by omega)).trans (FB_u1 _ _ _ (by omega))
    have er2 : nI (dr (zS (zS (s 2)))) - nI (dr (zS (zS (s 2)))) / 100 * 100 = nI (dr (zS (zS (s 2))) % 100) := pk_rem (d := 100) (by have := dr_lt (zS (zS (s 2))); omega) (by omega) (by omega)
    have l3 : M2.1 (b + 1) 3 = s 7 := by rw [hx2.2.2.2.2.2.1 3 (by omega)]; exact pk_un (by omega)
    have y4 : M2.1 (b + 4) q = s (8 + 6 * q + 2) := by rw [(hx2.2.2.2.2.2.2 q hh).2.2.1]; exact pk_un (by omega)
    refine J_blk a_X4_passYearByDraws_21 ?_
    simp only [b_X4_passYearByDraws_21, w_bipush, ci_100, w_irem, w_aload_n0, w_getf4, ne0_1, w_iconst_3, w_iald, w_icmp_ge, w_nil, kb0 hT, kb1 hT, kb2 hT, kb3 hT, kb4 hT, kb5 hT, kb6 hT, kb7 hT, kb8 hT, lb1 hT, lb2 hT, lb3 hT, lb4 hT, lb5 hT, lb6 hT, lb7 hT, lb8 hT, Option.toList_some, Option.toList_none, List.cons_append, List.nil_append, true_and, and_true, if_true, if_false, true_or, or_true, Nat.reduceAdd, Int.reduceAdd, Bool.false_eq_true, tn_0, tn_1, tn_2, tn_3, tn_4, tn_5, tn_6, tn_7, er2, l3]
    refine ⟨by decide, vlit (by decide), fun c => ?_, fun c => ?_⟩
    · rw [if_neg (Int32.not_lt.mpr c)] at fr
      refine tail M2 _ ?_ hf2
      rw [fr]
      have e : upd (upd s 2 (zS (zS (s 2)))) (8 + 6 * q + 2) (s (8 + 6 * q + 2)) = upd s 2 (zS (zS (s 2))) := by
        have g := upd_self (upd s 2 (zS (zS (s 2)))) (8 + 6 * q + 2)
        rw [pk_un (by omega)] at g
        exact g
      rw [e]
      exact hx2
    · rw [if_pos (Int32.not_le.mp c)] at fr
      refine J_blk a_X4_passYearByDraws_33 ?_
      simp only [b_X4_passYearByDraws_33, w_aload_n0, w_getf4, ne0_4, w_iload_n1, w_dup2_ia, w_iald, w_iconst_2, w_idiv, w_iast, w_nil, kb0 hT, kb1 hT, kb2 hT, kb3 hT, kb4 hT, kb5 hT, kb6 hT, kb7 hT, kb8 hT, lb1 hT, lb2 hT, lb3 hT, lb4 hT, lb5 hT, lb6 hT, lb7 hT, lb8 hT, Option.toList_some, Option.toList_none, List.cons_append, List.nil_append, true_and, and_true, if_true, if_false, true_or, or_true, Nat.reduceAdd, Int.reduceAdd, Bool.false_eq_true, tn_0, tn_1, tn_2, tn_3, tn_4, tn_5, tn_6, tn_7, tq, y4]
      refine ⟨vinN (by omega) (by decide), by decide, vinN (by omega) (by decide), ?_⟩
      refine tail _ _ ?_ (hf2.trans (FB_u1 M2 _ _ (by omega)))
      rw [fr]
      exact RX_4 hx2 _

