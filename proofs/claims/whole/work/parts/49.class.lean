/-! the class: a tree told, on -/
def RT (M : Mm) (row : Nat → Int32) (n : Nat) : Prop := ∃ s, RX M 10 s n ∧ ∀ j, j < 56 → j ≠ 2 → s j = row j
def FX (M M' : Mm) : Prop := (∀ c, c ≠ 28 → (c < 10 ∨ 18 < c) → M'.1 c = M.1 c) ∧ M'.2 = M.2
theorem FX.refl (M : Mm) : FX M M := ⟨fun _ _ _ => rfl, rfl⟩
theorem FX.trans {M M' M'' : Mm} (h : FX M M') (h2 : FX M' M'') : FX M M'' := ⟨fun c hc hd => (h2.1 c hc hd).trans (h.1 c hc hd), h2.2.trans h.2⟩
theorem FT.x {M M' : Mm} (h : FT M M') : FX M M' := ⟨fun c hc _ => h.1 c hc, h.2⟩
theorem FB.x {M M' : Mm} (h : FB 10 M M') : FX M M' := ⟨fun c _ hd => h.1 c (by omega), h.2⟩
theorem RT_T {M M' : Mm} {row : Nat → Int32} {n : Nat} (h : FT M M') (q : RT M row n) : RT M' row n := by
  obtain ⟨s, a, b⟩ := q
  exact ⟨s, RX_of a (fun i hi => h.1 _ (by omega)), b⟩
theorem TS_B {M M' : Mm} {t : Nat → Nat} {L fr : Nat} {w : Bool} (h : FB 10 M M') (q : TS M t L fr w) : TS M' t L fr w := by
  obtain ⟨⟨a1, a2, a3, a4⟩, b, c, d, e, f⟩ := q
  have h28 := h.1 28 (by omega)
  have h29 := h.1 29 (by omega)
  exact ⟨⟨by rw [h28]; exact a1, a2, a3, fun i hi => by rw [h29]; exact a4 i hi⟩, b, by rw [h28]; exact c, by rw [h28]; exact d, by rw [h28]; exact e, by rw [h28]; exact f⟩
/-! the model's steps, in the class's words -/
section EQ
variable {t : Nat → Nat} {L : Nat}
theorem nd_eq (fr : Nat) (w : Bool) (row : Nat → Int32) : ndS t L (wdB t L fr [59]) (fr, w, row) = (if pb t L fr w 14 = true then nx t L fr else fr, !pb t L fr w 14, row) := by
  unfold ndS pb
  rw [show wLn 14 = [59] from rfl]
  cases w <;> cases wdB t L fr [59] <;> rfl
theorem nd_f (st : Ps) : ndS t L false st = (st.1, true, st.2.2) := by
  unfold ndS
  rw [if_neg (fun q => absurd q.2 (by decide))]
theorem nu_eq (at_ : Nat) (most : Int32) (fr : Nat) (row : Nat → Int32) : nuS t L at_ most (fr, false, row) = (if nuB t L fr most = true then nx t L fr else fr, if nuB t L fr most = true then false else true, if nuB t L fr most = true then upd row at_ (nI (vl t L fr)) else row) := by
  unfold nuS ndS
  cases nuB t L fr most <;> rfl
theorem nu_eqt (at_ : Nat) (most : Int32) (fr : Nat) (row : Nat → Int32) : nuS t L at_ most (fr, true, row) = (fr, true, row) := by
  unfold nuS ndS
  cases nuB t L fr most <;> rfl
theorem ph_eq (j at_ : Nat) (most : Int32) (fr : Nat) (w : Bool) (row : Nat → Int32) : phS t L (wdB t L fr (wLn j)) at_ most (fr, w, row) = (pnF t L j most fr w, pnW t L j most fr w, if pb t L fr w j = true ∧ nuB t L (nx t L fr) most = true then upd row at_ (pnV t L j most fr w) else row) := by
  unfold phS pnF pnW pnV pb
  cases w
  · cases wdB t L fr (wLn j)
    · rfl
    · rw [if_pos ⟨rfl, rfl⟩, nu_eq]
      cases nuB t L (nx t L fr) most <;> rfl
  · rfl
theorem onn_eq (n : Nat) (fr : Nat) (w : Bool) (row : Nat → Int32) : (onS t L n (fr, w, row)).1 = pnF t L 10 (nI (n + 1) - 2) fr w ∧ (onS t L n (fr, w, row)).2.1 = pnW t L 10 (nI (n + 1) - 2) fr w ∧ (pnW t L 10 (nI (n + 1) - 2) fr w = false → (onS t L n (fr, w, row)).2.2 = if pb t L fr w 10 = true then upd row (8 + 6 * n + 1) (pnV t L 10 (nI (n + 1) - 2) fr w + 1) else row) := by
  unfold onS pnF pnW pnV pb
  rw [show wLn 10 = [111, 110] from rfl]
  generalize nI (n + 1) - 2 = most
  cases w
  · cases wdB t L fr [111, 110]
    · exact ⟨rfl, rfl, fun _ => rfl⟩
    · rw [if_pos ⟨rfl, rfl⟩]
      simp only [nu_eq]
      cases nuB t L (nx t L fr) most
      · exact ⟨rfl, rfl, fun h => absurd h (by decide)⟩
      · refine ⟨rfl, rfl, fun _ => ?_⟩
        funext j
        by_cases c : j = 8 + 6 * n + 1 <;> simp [upd, bI, c]
  · exact ⟨rfl, rfl, fun _ => rfl⟩
theorem cu_eq (n : Nat) (fr : Nat) (w : Bool) (row : Nat → Int32) : cuS t L n (fr, w, row) = (if pb t L fr w 13 = true then nx t L fr else fr, w, if pb t L fr w 13 = true then upd row (8 + 6 * n + 4) 1 else row) := by
  unfold cuS pb
  rw [show wLn 13 = [99, 117, 116] from rfl]
  cases w <;> cases wdB t L fr [99, 117, 116] <;> rfl
theorem bg_eq (n k : Nat) (hn : n < 8) (fr : Nat) (row : Nat → Int32) : bgS t L n k (fr, false, row) = (nx t L fr, false, upd (upd row (8 + 6 * n) (nI k)) 0 (nI (n + 1))) := by
  unfold bgS ndS
  rw [show decide (n < 8) = true from decide_eq_true hn]
  rfl
theorem bg_full (k : Nat) (fr : Nat) (row : Nat → Int32) : bgS t L 8 k (fr, false, row) = (fr, true, row) := by
  unfold bgS ndS
  rfl
theorem pn_w {j : Nat} {most : Int32} {fr : Nat} {w : Bool} (h : pnW t L j most fr w = false) : w = false ∧ (pb t L fr w j = true → nuB t L (nx t L fr) most = true) := by
  unfold pnW at h
  by_cases q : pb t L fr w j = true
  · rw [if_pos q] at h
    by_cases q2 : nuB t L (nx t L fr) most = true
    · rw [if_pos q2] at h; exact ⟨h, fun _ => q2⟩
    · rw [if_neg q2] at h; exact absurd h (by decide)
  · rw [if_neg q] at h; exact ⟨h, fun c => absurd c q⟩
theorem pn_v (hb : ∀ i, t i < 256) {j : Nat} {most : Int32} {fr : Nat} {w : Bool} (h : pnW t L j most fr w = false) : (pb t L fr w j = true → ∃ a, a < 20000 ∧ pnV t L j most fr w = nI a) ∧ (¬ pb t L fr w j = true → pnV t L j most fr w = -1) := by
  have := pn_w h
  unfold pnV
  refine ⟨fun q => ?_, fun q => ?_⟩
  · rw [if_pos ⟨q, this.2 q⟩]
    exact ⟨_, by have := vl_lt (L := L) (fr := nx t L fr) hb; omega, rfl⟩
  · rw [if_neg (fun c => q c.1)]
theorem mx_v (hb : ∀ i, t i < 256) {j : Nat} {most : Int32} {fr : Nat} {w : Bool} (h : pnW t L j most fr w = false) : (if (0 : Int32) < pnV t L j most fr w then pnV t L j most fr w else 0) = if pb t L fr w j = true then pnV t L j most fr w else 0 := by
  have q := pn_v hb h
  by_cases c : pb t L fr w j = true
  · rw [if_pos c]
    obtain ⟨a, ha, ea⟩ := q.1 c
    rw [ea]
    by_cases a0 : a = 0
    · subst a0; rfl
    · rw [if_pos (by rw [← nI_0]; exact nI_lt (by omega) (by omega))]
  · rw [if_neg c, q.2 c]; rfl
/-- rows that are still free -/
def RF (row : Nat → Int32) (n : Nat) : Prop := row 0 = nI n ∧ n ≤ 8 ∧ ∀ j, 8 + 6 * n ≤ j → j < 56 → row j = 0
end EQ
section TL
variable {M : Mm} {t : Nat → Nat} {L fr n : Nat} {row : Nat → Int32}
theorem tellLaw_c (h : TS M t L fr false) (hx : RT M row n) (h8 : n ≤ 8) {a : Nat} (ha : a < 4) (st : Ps) (hst : st = ndS t L (wdB t L (nuS t L (4 + a) (if a = 3 then 99 else 9) (nx t L fr, false, row)).1 [59]) (nuS t L (4 + a) (if a = 3 then 99 else 9) (nx t L fr, false, row))) : K 7 mX3_tellLaw [.ref 28, .ref 10, .int (nI a)] M (Rq none (fun M' => TS M' t L st.1 st.2.1 ∧ (st.2.1 = false → RT M' st.2.2 n) ∧ FX M M')) := by
  have ta : (nI a).toNatClampNeg = a := nI_clamp (by omega)
  rw [nu_eq, nd_eq] at hst
  have sv6 : sv 60 a = if a = 3 then 99 else 9 := sv60 ha
  generalize (if a = 3 then (99 : Int32) else 9) = most at *
  refine K_go 2 o_X3_tellLaw [none] rfl (Nat.le_of_ble_eq_true rfl) ?_
  simp only [lvA_i, lvA_a, lvA_l, lvA_nil, List.cons_append, List.nil_append]
  refine J_blk a_X3_tellLaw_0 ?_
  simp only [b_X3_tellLaw_0, w_aload_n0, w_nil, kd_28, kd_29, ln_29, Option.toList_some, Option.toList_none, List.cons_append, List.nil_append, true_and, and_true, if_true, if_false, true_or, or_true, Nat.reduceAdd, Int.reduceAdd, Bool.false_eq_true, tn_0, tn_1, tn_2, tn_3, tn_4, tn_5, tn_6, tn_7]
  refine J_callV (ci := 3) (h.step) k_X3_tellLaw_1 o_X3_step (rfl) rfl rfl rfl (by decide) rfl (Nat.le_of_ble_eq_true rfl) ?_
  rintro r M1 ⟨rfl, g1, g2⟩
  refine J_blk a_X3_tellLaw_4 ?_
  simp only [b_X3_tellLaw_4, w_aload_n0, w_gets0, w_iload_n2, w_ialdS, w_nil, kd_28, kd_29, ln_29, Option.toList_some, Option.toList_none, List.cons_append, List.nil_append, true_and, and_true, if_true, if_false, true_or, or_true, Nat.reduceAdd, Int.reduceAdd, Bool.false_eq_true, tn_0, tn_1, tn_2, tn_3, tn_4, tn_5, tn_6, tn_7, ta, sv6]
  refine ⟨0, by decide, rfl, vinN (show a < ln 60 from ha) (by decide), ?_⟩
  refine J_callV (ci := 3) (number_c g1 most) k_X3_tellLaw_10 o_X3_passNumber (rfl) rfl rfl rfl (by decide) rfl (Nat.le_of_ble_eq_true rfl) ?_
  rintro r M2 ⟨rfl, k1, k2⟩
  refine J_blk a_X3_tellLaw_13 ?_
  simp only [b_X3_tellLaw_13, w_istore3, nl_3n, nl_3i, nl_3a, w_aload_n0, w_nil, kd_28, kd_29, ln_29, Option.toList_some, Option.toList_none, List.cons_append, List.nil_append, true_and, and_true, if_true, if_false, true_or, or_true, Nat.reduceAdd, Int.reduceAdd, Bool.false_eq_true, tn_0, tn_1, tn_2, tn_3, tn_4, tn_5, tn_6, tn_7]
  refine J_callV (ci := 3) (close_c k1) k_X3_tellLaw_15 o_X3_passClose (rfl) rfl rfl rfl (by decide) rfl (Nat.le_of_ble_eq_true rfl) ?_
  rintro r M3 ⟨rfl, q1, q2⟩
  have f3 : FT M M3 := (g2.trans k2).trans q2
  have x5 := q1.2.2.2.2.2
  subst hst
  dsimp only
  generalize hb : nuB t L (nx t L fr) most = b at *
  cases b
  · simp only [Bool.false_eq_true, if_false] at q1 x5 ⊢
    have hp : pb t L (nx t L fr) true 14 = false := rfl
    rw [hp] at q1 x5 ⊢
    refine J_blk a_X3_tellLaw_18 ?_
    simp only [b_X3_tellLaw_18, w_aload_n0, w_getf3, w_if_ne, w_nil, kd_28, kd_29, ln_29, Option.toList_some, Option.toList_none, List.cons_append, List.nil_append, true_and, and_true, if_true, if_false, true_or, or_true, Nat.reduceAdd, Int.reduceAdd, Bool.false_eq_true, tn_0, tn_1, tn_2, tn_3, tn_4, tn_5, tn_6, tn_7, x5]
    refine ⟨fun _ => ?_, fun c => absurd c (by decide)⟩
    refine J_blk a_X3_tellLaw_32 ?_
    simp only [b_X3_tellLaw_32, w_vret, kd_28, kd_29, ln_29, Option.toList_some, Option.toList_none, List.cons_append, List.nil_append, true_and, and_true, if_true, if_false, true_or, or_true, Nat.reduceAdd, Int.reduceAdd, Bool.false_eq_true, tn_0, tn_1, tn_2, tn_3, tn_4, tn_5, tn_6, tn_7]
    exact ⟨rfl, q1, fun c => absurd c (by decide), f3.x⟩
  · simp only [if_true] at q1 x5 ⊢
    generalize hp : pb t L (nx t L (nx t L fr)) false 14 = e at *
    cases e
    · refine J_blk a_X3_tellLaw_18 ?_
      simp only [b_X3_tellLaw_18, w_aload_n0, w_getf3, w_if_ne, w_nil, kd_28, kd_29, ln_29, Option.toList_some, Option.toList_none, List.cons_append, List.nil_append, true_and, and_true, if_true, if_false, true_or, or_true, Nat.reduceAdd, Int.reduceAdd, Bool.false_eq_true, tn_0, tn_1, tn_2, tn_3, tn_4, tn_5, tn_6, tn_7, x5]
      refine ⟨fun _ => ?_, fun c => absurd c (by decide)⟩
      refine J_blk a_X3_tellLaw_32 ?_
      simp only [b_X3_tellLaw_32, w_vret, kd_28, kd_29, ln_29, Option.toList_some, Option.toList_none, List.cons_append, List.nil_append, true_and, and_true, if_true, if_false, true_or, or_true, Nat.reduceAdd, Int.reduceAdd, Bool.false_eq_true, tn_0, tn_1, tn_2, tn_3, tn_4, tn_5, tn_6, tn_7]
      exact ⟨rfl, q1, fun c => absurd c (by decide), f3.x⟩
    · refine J_blk a_X3_tellLaw_18 ?_
      simp only [b_X3_tellLaw_18, w_aload_n0, w_getf3, w_if_ne, w_nil, kd_28, kd_29, ln_29, Option.toList_some, Option.toList_none, List.cons_append, List.nil_append, true_and, and_true, if_true, if_false, true_or, or_true, Nat.reduceAdd, Int.reduceAdd, Bool.false_eq_true, tn_0, tn_1, tn_2, tn_3, tn_4, tn_5, tn_6, tn_7, x5]
      refine ⟨fun c => absurd rfl c, fun _ => ?_⟩
      obtain ⟨s, y1, y2⟩ := RT_T f3 hx
      refine J_blk a_X3_tellLaw_25 ?_
      simp only [b_X3_tellLaw_25, w_aload_n1, w_getf4, ne0_1, w_iload_n2, w_iload_n3, w_iast, w_nil, kd_28, kd_29, ln_29, Option.toList_some, Option.toList_none, List.cons_append, List.nil_append, true_and, and_true, if_true, if_false, true_or, or_true, Nat.reduceAdd, Int.reduceAdd, Bool.false_eq_true, tn_0, tn_1, tn_2, tn_3, tn_4, tn_5, tn_6, tn_7, ta, kd_10, kd_11, ln_11]
      refine ⟨vinN ha (by decide), ?_⟩
      refine J_blk a_X3_tellLaw_32 ?_
      simp only [b_X3_tellLaw_32, w_vret, kd_28, kd_29, ln_29, Option.toList_some, Option.toList_none, List.cons_append, List.nil_append, true_and, and_true, if_true, if_false, true_or, or_true, Nat.reduceAdd, Int.reduceAdd, Bool.false_eq_true, tn_0, tn_1, tn_2, tn_3, tn_4, tn_5, tn_6, tn_7]
      have fb : FB 10 M3 (u1 M3 11 a (nI (vl t L (nx t L fr)))) := FB_u1 M3 _ _ (by omega)
      refine ⟨rfl, TS_B fb q1, fun _ => ⟨upd s (4 + a) (nI (vl t L (nx t L fr))), RX_1 y1 ha _, fun j hj h2 => ?_⟩, f3.x.trans fb.x⟩
      simp only [upd]
      split
      · rfl
      · exact y2 j hj h2
theorem on_most (n : Nat) : nI (n + 1) - 2 = nI n - 1 := by
  rw [nI_succ]
  simp [Int32.sub_eq_add_neg, Int32.add_assoc]
def RW (row : Nat → Int32) (n : Nat) (a b c d : Bool) (k v1 v2 v3 : Int32) : Nat → Int32 := fun j => if d = true ∧ j = 8 + 6 * n + 4 then 1 else if c = true ∧ j = 8 + 6 * n + 3 then v3 else if b = true ∧ j = 8 + 6 * n + 2 then v2 else if a = true ∧ j = 8 + 6 * n + 1 then v1 else if j = 0 then nI (n + 1) else if j = 8 + 6 * n then k else row j
theorem RW_s {row s : Nat → Int32} {n : Nat} (hr : RF row n) (hn : n < 8) (y2 : ∀ j, j < 56 → j ≠ 2 → s j = row j) (a b c d : Bool) (k v1 v2 v3 : Int32) : ∀ j, j < 56 → j ≠ 2 → (if d = true then upd (brR s n k (if a = true then v1 else 0) (if b = true then v2 else 0) (if c = true then v3 else 0)) (8 + 6 * n + 4) 1 else brR s n k (if a = true then v1 else 0) (if b = true then v2 else 0) (if c = true then v3 else 0)) j = RW row n a b c d k v1 v2 v3 j := by
  intro j hj h2
  unfold RW
  cases a <;> cases b <;> cases c <;> cases d <;> simp only [Bool.false_eq_true, if_true, if_false, brR, upd, true_and, false_and] <;> (repeat' split) <;> first | rfl | (exfalso; omega) | exact y2 j hj h2 | exact (hr.2.2 j (by omega) hj).symm
theorem RW_F {row : Nat → Int32} {n : Nat} (hr : RF row n) (hn : n < 8) (a b c d : Bool) (k v1 v2 v3 : Int32) : RF (RW row n a b c d k v1 v2 v3) (n + 1) := by
  refine ⟨?_, by omega, fun j h1 h2 => ?_⟩
  · unfold RW
    rw [if_neg (by omega), if_neg (by omega), if_neg (by omega), if_neg (by omega), if_pos rfl]
  · unfold RW
    rw [if_neg (by omega), if_neg (by omega), if_neg (by omega), if_neg (by omega), if_neg (by omega), if_neg (by omega)]
    exact hr.2.2 j (by omega) h2
theorem tellBranch_c (h : TS M t L fr false) (hx : RT M row n) (hr : RF row n) (hn : n < 8) {k : Nat} (st : Ps) (hst : st = ndS t L (wdB t L (bhS t L n k (fr, false, row)).1 [59]) (bhS t L n k (fr, false, row))) : K 7 mX3_tellBranch [.ref 28, .ref 10, .int (nI k)] M (Rq none (fun M' => TS M' t L st.1 st.2.1 ∧ (st.2.1 = false → RT M' st.2.2 (n + 1) ∧ RF st.2.2 (n + 1)) ∧ FX M M')) := by
  have hb := h.1.2.2.1
  obtain ⟨s, y1, y2⟩ := hx
  unfold bhS at hst
  rw [bg_eq n k hn] at hst
  generalize hrow1 : upd (upd row (8 + 6 * n) (nI k)) 0 (nI (n + 1)) = row1 at hst
  obtain ⟨o1, o2, o3⟩ := onn_eq (t := t) (L := L) n (nx t L fr) false row1
  generalize hon : onS t L n (nx t L fr, false, row1) = stA at hst o1 o2 o3
  obtain ⟨frA, wA, rowA⟩ := stA
  dsimp only at o1 o2 o3
  unfold frS agS at hst
  rw [show ([102, 111, 114, 99, 101] : List Nat) = wLn 11 from rfl, show ([97, 103, 101] : List Nat) = wLn 12 from rfl] at hst
  try dsimp only at hst
  rw [ph_eq] at hst
  try dsimp only at hst
  rw [ph_eq] at hst
  rw [cu_eq, nd_eq] at hst
  refine K_go 2 o_X3_tellBranch [none, none, none, none, none] rfl (Nat.le_of_ble_eq_true rfl) ?_
  simp only [lvA_i, lvA_a, lvA_l, lvA_nil, List.cons_append, List.nil_append]
  refine J_blk a_X3_tellBranch_0 ?_
  simp only [b_X3_tellBranch_0, w_aload_n0, w_nil, kd_28, kd_29, ln_29, Option.toList_some, Option.toList_none, List.cons_append, List.nil_append, true_and, and_true, if_true, if_false, true_or, or_true, Nat.reduceAdd, Int.reduceAdd, Bool.false_eq_true, tn_0, tn_1, tn_2, tn_3, tn_4, tn_5, tn_6, tn_7]
  refine J_callV (ci := 3) (h.step) k_X3_tellBranch_1 o_X3_step (rfl) rfl rfl rfl (by decide) rfl (Nat.le_of_ble_eq_true rfl) ?_
  rintro r M1 ⟨rfl, g1, g2⟩
  have x7 : M1.1 10 7 = nI n := by rw [g2.1 10 (by decide)]; exact y1.1
  refine J_blk a_X3_tellBranch_4 ?_
  simp only [b_X3_tellBranch_4, w_aload_n0, w_ldcS, w_aload_n1, w_getf4, w_iconst_1, w_isub, w_nil, kd_28, kd_29, ln_29, Option.toList_some, Option.toList_none, List.cons_append, List.nil_append, true_and, and_true, if_true, if_false, true_or, or_true, Nat.reduceAdd, Int.reduceAdd, Bool.false_eq_true, tn_0, tn_1, tn_2, tn_3, tn_4, tn_5, tn_6, tn_7, x7, kd_10]
  refine J_callV (ci := 3) (behind_c g1 (show 10 < 15 by decide) (nI n - 1)) k_X3_tellBranch_13 o_X3_passNumberBehind (rfl) rfl rfl rfl (by decide) rfl (Nat.le_of_ble_eq_true rfl) ?_
  rintro r M2 ⟨rfl, k1, k2⟩
  rw [← on_most n] at k1 ⊢
  rw [← o1, ← o2] at k1
  generalize hvA : pnV t L 10 (nI (n + 1) - 2) (nx t L fr) false = vA at *
  refine J_blk a_X3_tellBranch_16 ?_
  simp only [b_X3_tellBranch_16, w_istore3, nl_3n, nl_3i, nl_3a, w_aload_n0, w_ldcS, w_bipush, ci_9, w_nil, kd_28, kd_29, ln_29, Option.toList_some, Option.toList_none, List.cons_append, List.nil_append, true_and, and_true, if_true, if_false, true_or, or_true, Nat.reduceAdd, Int.reduceAdd, Bool.false_eq_true, tn_0, tn_1, tn_2, tn_3, tn_4, tn_5, tn_6, tn_7]
  refine J_callV (ci := 3) (behind_c k1 (show 11 < 15 by decide) 9) k_X3_tellBranch_22 o_X3_passNumberBehind (rfl) rfl rfl rfl (by decide) rfl (Nat.le_of_ble_eq_true rfl) ?_
  rintro r M3 ⟨rfl, l1, l2⟩
  refine J_blk a_X3_tellBranch_25 ?_
  simp only [b_X3_tellBranch_25, w_istore4, nl_4n, nl_4i, nl_4a, w_aload_n0, w_ldcS, w_bipush, ci_99, w_nil, kd_28, kd_29, ln_29, Option.toList_some, Option.toList_none, List.cons_append, List.nil_append, true_and, and_true, if_true, if_false, true_or, or_true, Nat.reduceAdd, Int.reduceAdd, Bool.false_eq_true, tn_0, tn_1, tn_2, tn_3, tn_4, tn_5, tn_6, tn_7]
  refine J_callV (ci := 3) (behind_c l1 (show 12 < 15 by decide) 99) k_X3_tellBranch_32 o_X3_passNumberBehind (rfl) rfl rfl rfl (by decide) rfl (Nat.le_of_ble_eq_true rfl) ?_
  rintro r M4 ⟨rfl, m1, m2⟩
  refine J_blk a_X3_tellBranch_35 ?_
  simp only [b_X3_tellBranch_35, w_istore5, nl_5n, nl_5i, nl_5a, w_aload_n0, w_ldcS, w_nil, kd_28, kd_29, ln_29, Option.toList_some, Option.toList_none, List.cons_append, List.nil_append, true_and, and_true, if_true, if_false, true_or, or_true, Nat.reduceAdd, Int.reduceAdd, Bool.false_eq_true, tn_0, tn_1, tn_2, tn_3, tn_4, tn_5, tn_6, tn_7]
  refine J_callV (ci := 3) (pass_c m1 (show 13 < 15 by decide)) k_X3_tellBranch_40 o_X3_pass (rfl) rfl rfl rfl (by decide) rfl (Nat.le_of_ble_eq_true rfl) ?_
  rintro r M5 ⟨rfl, n1, n2⟩
  refine J_blk a_X3_tellBranch_43 ?_
  simp only [b_X3_tellBranch_43, w_istore6, nl_6n, nl_6i, nl_6a, w_aload_n0, w_nil, kd_28, kd_29, ln_29, Option.toList_some, Option.toList_none, List.cons_append, List.nil_append, true_and, and_true, if_true, if_false, true_or, or_true, Nat.reduceAdd, Int.reduceAdd, Bool.false_eq_true, tn_0, tn_1, tn_2, tn_3, tn_4, tn_5, tn_6, tn_7]
  refine J_callV (ci := 3) (close_c n1) k_X3_tellBranch_46 o_X3_passClose (rfl) rfl rfl rfl (by decide) rfl (Nat.le_of_ble_eq_true rfl) ?_
  rintro r M6 ⟨rfl, q1, q2⟩
  have f6 : FT M M6 := ((((g2.trans k2).trans l2).trans m2).trans n2).trans q2
  have x5 := q1.2.2.2.2.2
  subst hst
  dsimp only
  generalize hwB : pnW t L 11 9 frA wA = wB at *
  generalize hfB : pnF t L 11 9 frA wA = frB at *
  generalize hvB : pnV t L 11 9 frA wA = vB at *
  generalize hwC : pnW t L 12 99 frB wB = wC at *
  generalize hfC : pnF t L 12 99 frB wB = frC at *
  generalize hvC : pnV t L 12 99 frB wB = vC at *
  generalize hD : pb t L frC wC 13 = bD at *
  generalize hE : pb t L (if bD = true then nx t L frC else frC) wC 14 = bE at *
  cases bE
  · refine J_blk a_X3_tellBranch_49 ?_
    simp only [b_X3_tellBranch_49, w_aload_n0, w_getf3, w_if_eq, w_nil, kd_28, kd_29, ln_29, Option.toList_some, Option.toList_none, List.cons_append, List.nil_append, true_and, and_true, if_true, if_false, true_or, or_true, Nat.reduceAdd, Int.reduceAdd, Bool.false_eq_true, tn_0, tn_1, tn_2, tn_3, tn_4, tn_5, tn_6, tn_7, x5]
    refine ⟨fun c => absurd c (by decide), fun _ => ?_⟩
    refine J_blk a_X3_tellBranch_56 ?_
    simp only [b_X3_tellBranch_56, w_vret, kd_28, kd_29, ln_29, Option.toList_some, Option.toList_none, List.cons_append, List.nil_append, true_and, and_true, if_true, if_false, true_or, or_true, Nat.reduceAdd, Int.reduceAdd, Bool.false_eq_true, tn_0, tn_1, tn_2, tn_3, tn_4, tn_5, tn_6, tn_7]
    exact ⟨rfl, q1, fun c => absurd c (by decide), f6.x⟩
  · have eC : wC = false := by
      unfold pb at hE
      cases wC
      · rfl
      · exact absurd hE Bool.false_ne_true
    have eB : wB = false := (pn_w (hwC.trans eC)).1
    have eA : wA = false := (pn_w (hwB.trans eB)).1
    have mB := mx_v hb (hwB.trans eB)
    have mC := mx_v hb (hwC.trans eC)
    have pB := (pn_w (hwB.trans eB)).2
    have pC := (pn_w (hwC.trans eC)).2
    rw [hvB] at mB
    rw [hvC] at mC
    have vAo := pn_v hb (o2.symm.trans eA)
    rw [hvA] at vAo
    have rA := o3 (o2.symm.trans eA)
    have eRow : (if bD = true then upd (if pb t L frB wB 12 = true ∧ nuB t L (nx t L frB) 99 = true then upd (if pb t L frA wA 11 = true ∧ nuB t L (nx t L frA) 9 = true then upd rowA (8 + 6 * n + 2) vB else rowA) (8 + 6 * n + 3) vC else (if pb t L frA wA 11 = true ∧ nuB t L (nx t L frA) 9 = true then upd rowA (8 + 6 * n + 2) vB else rowA)) (8 + 6 * n + 4) 1 else (if pb t L frB wB 12 = true ∧ nuB t L (nx t L frB) 99 = true then upd (if pb t L frA wA 11 = true ∧ nuB t L (nx t L frA) 9 = true then upd rowA (8 + 6 * n + 2) vB else rowA) (8 + 6 * n + 3) vC else (if pb t L frA wA 11 = true ∧ nuB t L (nx t L frA) 9 = true then upd rowA (8 + 6 * n + 2) vB else rowA))) = RW row n (pb t L (nx t L fr) false 10) (pb t L frA wA 11) (pb t L frB wB 12) bD (nI k) (vA + 1) vB vC := by
      have e1 : (pb t L frA wA 11 = true ∧ nuB t L (nx t L frA) 9 = true) = (pb t L frA wA 11 = true) := propext ⟨fun q => q.1, fun q => ⟨q, pB q⟩⟩
      have e2 : (pb t L frB wB 12 = true ∧ nuB t L (nx t L frB) 99 = true) = (pb t L frB wB 12 = true) := propext ⟨fun q => q.1, fun q => ⟨q, pC q⟩⟩
      simp only [e1, e2]
      rw [rA, ← hrow1]
      funext j
      unfold RW
      cases pb t L (nx t L fr) false 10 <;> cases pb t L frA wA 11 <;> cases pb t L frB wB 12 <;> cases bD <;> simp only [Bool.false_eq_true, if_true, if_false, upd, true_and, false_and]
    rw [eRow]
    have y6 : RX M6 10 s n := RX_of y1 (fun i hi => f6.1 _ (by omega))
    have eA1 : vA + 1 = if pb t L (nx t L fr) false 10 = true then vA + 1 else 0 := by
      by_cases c : pb t L (nx t L fr) false 10 = true
      · rw [if_pos c]
      · rw [if_neg c, vAo.2 c]; rfl
    refine J_blk a_X3_tellBranch_49 ?_
    simp only [b_X3_tellBranch_49, w_aload_n0, w_getf3, w_if_eq, w_nil, kd_28, kd_29, ln_29, Option.toList_some, Option.toList_none, List.cons_append, List.nil_append, true_and, and_true, if_true, if_false, true_or, or_true, Nat.reduceAdd, Int.reduceAdd, Bool.false_eq_true, tn_0, tn_1, tn_2, tn_3, tn_4, tn_5, tn_6, tn_7, x5]
    refine ⟨fun _ => ?_, fun c => absurd rfl c⟩
    refine J_blk a_X3_tellBranch_57 ?_
    simp only [b_X3_tellBranch_57, w_aload_n1, w_iload_n2, w_iload_n3, w_iconst_1, w_iadd, w_iconst_0, w_iload4, w_nil, kd_28, kd_29, ln_29, Option.toList_some, Option.toList_none, List.cons_append, List.nil_append, true_and, and_true, if_true, if_false, true_or, or_true, Nat.reduceAdd, Int.reduceAdd, Bool.false_eq_true, tn_0, tn_1, tn_2, tn_3, tn_4, tn_5, tn_6, tn_7]
    refine J_max z_X3_tellBranch_65 (by decide) (Nat.le_of_ble_eq_true rfl) ?_
    refine J_blk a_X3_tellBranch_68 ?_
    simp only [b_X3_tellBranch_68, w_iconst_0, w_iload5, w_nil, kd_28, kd_29, ln_29, Option.toList_some, Option.toList_none, List.cons_append, List.nil_append, true_and, and_true, if_true, if_false, true_or, or_true, Nat.reduceAdd, Int.reduceAdd, Bool.false_eq_true, tn_0, tn_1, tn_2, tn_3, tn_4, tn_5, tn_6, tn_7]
    refine J_max z_X3_tellBranch_71 (by decide) (Nat.le_of_ble_eq_true rfl) ?_
    rw [mB, mC]
    refine J_callV (ci := 4) (add_c hn y6 (Or.inr (Or.inl rfl))) k_X3_tellBranch_74 o_X4_add rfl rfl rfl rfl (by decide) rfl (Nat.le_of_ble_eq_true rfl) ?_
    rintro r M7 ⟨rfl, z1, z2⟩
    have q7 := TS_B z2 q1
    rw [eA1] at z1
    have rs := RW_s hr hn y2 (pb t L (nx t L fr) false 10) (pb t L frA wA 11) (pb t L frB wB 12) bD (nI k) (vA + 1) vB vC
    have rf := RW_F hr hn (pb t L (nx t L fr) false 10) (pb t L frA wA 11) (pb t L frB wB 12) bD (nI k) (vA + 1) vB vC
    cases bD
    · refine J_blk a_X3_tellBranch_77 ?_
      simp only [b_X3_tellBranch_77, w_istore7, nl_7n, nl_7i, nl_7a, w_iload6, w_if_eq, w_nil, kd_28, kd_29, ln_29, Option.toList_some, Option.toList_none, List.cons_append, List.nil_append, true_and, and_true, if_true, if_false, true_or, or_true, Nat.reduceAdd, Int.reduceAdd, Bool.false_eq_true, tn_0, tn_1, tn_2, tn_3, tn_4, tn_5, tn_6, tn_7]
      refine ⟨fun _ => ?_, fun c => absurd rfl c⟩
      refine J_blk a_X3_tellBranch_97 ?_
      simp only [b_X3_tellBranch_97, w_vret, kd_28, kd_29, ln_29, Option.toList_some, Option.toList_none, List.cons_append, List.nil_append, true_and, and_true, if_true, if_false, true_or, or_true, Nat.reduceAdd, Int.reduceAdd, Bool.false_eq_true, tn_0, tn_1, tn_2, tn_3, tn_4, tn_5, tn_6, tn_7]
      exact ⟨rfl, q7, fun _ => ⟨⟨_, z1, rs⟩, rf⟩, f6.x.trans z2.x⟩
    · refine J_blk a_X3_tellBranch_77 ?_
      simp only [b_X3_tellBranch_77, w_istore7, nl_7n, nl_7i, nl_7a, w_iload6, w_if_eq, w_nil, kd_28, kd_29, ln_29, Option.toList_some, Option.toList_none, List.cons_append, List.nil_append, true_and, and_true, if_true, if_false, true_or, or_true, Nat.reduceAdd, Int.reduceAdd, Bool.false_eq_true, tn_0, tn_1, tn_2, tn_3, tn_4, tn_5, tn_6, tn_7]
      refine ⟨fun c => absurd c (by decide), fun _ => ?_⟩
      have x6 := z1.2.2.2.2.1
      refine J_blk a_X3_tellBranch_84 ?_
      simp only [b_X3_tellBranch_84, w_aload_n1, w_dup_i, w_dup_a, w_getf4, w_iconst_1, w_iload7, w_ishl, w_ior, w_putf4, w_nil, kd_28, kd_29, ln_29, Option.toList_some, Option.toList_none, List.cons_append, List.nil_append, true_and, and_true, if_true, if_false, true_or, or_true, Nat.reduceAdd, Int.reduceAdd, Bool.false_eq_true, tn_0, tn_1, tn_2, tn_3, tn_4, tn_5, tn_6, tn_7, x6, kd_10]
      refine J_blk a_X3_tellBranch_97 ?_
      simp only [b_X3_tellBranch_97, w_vret, kd_28, kd_29, ln_29, Option.toList_some, Option.toList_none, List.cons_append, List.nil_append, true_and, and_true, if_true, if_false, true_or, or_true, Nat.reduceAdd, Int.reduceAdd, Bool.false_eq_true, tn_0, tn_1, tn_2, tn_3, tn_4, tn_5, tn_6, tn_7]
      have fb : FB 10 M7 (u1 M7 10 6 (bsF (cuF (brR s n (nI k) (if pb t L (nx t L fr) false 10 = true then vA + 1 else 0) (if pb t L frA wA 11 = true then vB else 0) (if pb t L frB wB 12 = true then vC else 0))) (n + 1) ||| (1 : Int32) <<< (nI n &&& 31))) := FB_u1 M7 _ _ (by omega)
      exact ⟨rfl, TS_B fb q7, fun _ => ⟨⟨_, RX_cut z1 (by omega) (by omega), rs⟩, rf⟩, (f6.x.trans z2.x).trans fb.x⟩
end TL

