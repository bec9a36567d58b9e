/-! the law: its calls and its loop -/
theorem sw_any {n : Nat} {mi : MI} {P : Option Value → Mm → Prop} {lv : LVs} {st : List Value} {M : Mm} {x : Int32} {d : Nat} : ∀ (ts : List Nat) (v : Int), (∀ t ∈ ts, J n mi t lv st M P) → J n mi d lv st M P → swc n mi P lv st M x v ts d := by
  intro ts
  induction ts with
  | nil => intro v _ h; exact h
  | cons t ts ih =>
    intro v h1 h2
    exact ⟨fun _ => h1 t List.mem_cons_self, fun _ => ih _ (fun t' ht' => h1 t' (List.mem_cons_of_mem _ ht')) h2⟩
/-- a call; the script stays -/
theorem J_callVx {n n' np : Nat} {mi mi' : MI} {pc : Nat} {lv : LVs} {st rest : List Value} {M : Mm} {P P' : Option Value → Mm → Prop} {As : List Value} {c0 ci : Nat} {C : String} {T : u_T} {N : Nat} (hK : K n' mi' (.ref c0 :: As) M P') (hC : CV mi pc mi') (hM : MOK mi' np) (ho : kd c0 = ci) (hcl : vwCl[ci]? = some (C, T, N)) (hCn : C = mi'.1.cls) (hnp : As.length = np) (hn : n' < n) (hst : st = As.reverse ++ .ref c0 :: rest) (hw : (rest.map fun v => v.category).sum ≤ 8) (k : ∀ r M', P' r M' → M'.1 64 = M.1 64 → M'.1 95 0 = M.1 95 0 → J n mi (pc + 3) lv (r.toList ++ rest) M' P) : J n mi pc lv st M P := by
  subst hst
  obtain ⟨idx, hd, hlk, hins, hsel⟩ := hC
  intro l p e R s m args below meth c g A cells slots Q X hret H locs ls hH hl
  obtain ⟨hx, hb, hml, hown, hts, hroom, hcs, hG, hA, hAw⟩ := id X
  have hci : ci ≤ 6 := by
    have := (List.getElem?_eq_some_iff.mp hcl).1
    simp at this
    omega
  have hlt : c0 < 60 := kd_lt (by omega)
  have hcd := hM.1
  have hR : (rmN n').frames + 1 ≤ R.frames ∧ 8 + (mi'.2.2.1 + 11) + (rmN n').locals ≤ R.locals := by
    have := hM.2.2.2.1
    have h1 : (rmN n').frames = n' := rfl
    have h2 : (rmN n').locals = 60 * n' := rfl
    rw [h1, h2]
    omega
  have hrecv := va_recv hG.1 hH.1 (ci := ci) hcl (q0 := c0) (by rw [world_at g M hlt, ent_obj g M ho hci])
  have hpre : PreV s H mi'.1.cls (g.1 c0) (Pk g M H.size (.ref c0 :: As)) (As.map (cv g)) := ⟨Pk_blind g M H.size _, by rw [← hCn]; exact hrecv, Pk_at (.ref c0 :: As) X hH⟩
  have hini := hts _ (gw_ws hM.2.1)
  have hstk : (F0 m pc ls ((As.reverse ++ .ref c0 :: rest).map (cv g))).stack = (As.map (cv g)).reverse ++ .ref (g.1 c0) :: rest.map (cv g) := by simp [cv]
  have hlen : (As.map (cv g)).length = np := by simp [hnp]
  have hrun : va_Run p l e R s m args below meth c H locs cells slots 0 0 (F0 m pc ls ((As.reverse ++ .ref c0 :: rest).map (cv g))) (rest.map (cv g)) (Qk g P' H.size (Value.ref (g.1 c0) :: As.map (cv g)).toArray) (Aw g H.size) :=
    va_runV ⟨hx, hb, hml, hown, hts⟩ (hK l g H.size) ⟨callB_of np hts (gi hcd) rfl rfl rfl hini (hts _ (gw_ws hlk)) hM.2.2.1 hR, hts _ (gw_ws hins), hts _ (gw_ws hsel)⟩ hpre rfl hlen hl.1 hstk (cl_cat g hw) hd ⟨hcs.1, hcs.2⟩
  exact run_W X hH hrun (fun r M' H1 locs1 hp hH1 => k r M' hp (hH1.2.2.1.trans hH.2.2.1.symm) (hH1.2.2.2.trans hH.2.2.2.symm) l p e R s m args below meth c g A cells slots Q X hret H1 locs1 ls hH1 hl)
def PL : Option Value → Mm → Prop := fun r _ => r = some (.int 1)
theorem law_c1 {mc mm : MI} {As st : List Value} {M : Mm} {pc np : Nat} {lv : LVs} (hJ : JO mc mm As M) (hC : CV mL_law pc mc) (hM : MOK mc np) (hnp : As.length = np) (hcl : "LastPruned" = mc.1.cls) (hcl2 : RX5 = "LastPruned") (hst : st = As.reverse ++ [.ref 0]) (k : ∀ (w : Int32) (M1 : Mm) (rm : Nat), rm < 20 → M1.1 64 = M.1 64 → M1.1 95 0 = M.1 95 0 → K rm mm (.ref 46 :: As) M1 (fun r2 M2 => r2 = some (.int w) ∧ ∃ n, IV M2 n) → J 21 mL_law (pc + 3) lv [.int w] M1 PL) : J 21 mL_law pc lv st M PL := by
  obtain ⟨v, ⟨w, rfl⟩, rc, rm, h1, h2, hK⟩ := hJ
  refine J_callVx (ci := 5) hK hC hM rfl rfl (hcl2.trans hcl) hnp (by omega) hst (Nat.le_of_ble_eq_true rfl) ?_
  rintro r M1 ⟨rfl, hK2⟩ f1 f2
  exact k w M1 rm h2 f1 f2 hK2
theorem law_c1l {mc mm : MI} {As st : List Value} {M : Mm} {pc np : Nat} {lv : LVs} (hJ : JOl mc mm As M) (hC : CV mL_law pc mc) (hM : MOK mc np) (hnp : As.length = np) (hcl : "LastPruned" = mc.1.cls) (hcl2 : RX5 = "LastPruned") (hst : st = As.reverse ++ [.ref 0]) (k : ∀ (w : Int64) (M1 : Mm) (rm : Nat), rm < 20 → M1.1 64 = M.1 64 → M1.1 95 0 = M.1 95 0 → K rm mm (.ref 46 :: As) M1 (fun r2 M2 => r2 = some (.long w) ∧ ∃ n, IV M2 n) → J 21 mL_law (pc + 3) lv [.long w] M1 PL) : J 21 mL_law pc lv st M PL := by
  obtain ⟨v, ⟨w, rfl⟩, rc, rm, h1, h2, hK⟩ := hJ
  refine J_callVx (ci := 5) hK hC hM rfl rfl (hcl2.trans hcl) hnp (by omega) hst (Nat.le_of_ble_eq_true rfl) ?_
  rintro r M1 ⟨rfl, hK2⟩ f1 f2
  exact k w M1 rm h2 f1 f2 hK2
theorem law_c2 {mm : MI} {As st : List Value} {M : Mm} {pc np rm : Nat} {lv : LVs} {v : Value} (hK : K rm mm (.ref 46 :: As) M (fun r2 M2 => r2 = some v ∧ ∃ n, IV M2 n)) (hrm : rm < 20) (hC : CV mL_law pc mm) (hM : MOK mm np) (hnp : As.length = np) (hcl : "LastPrunedModel" = mm.1.cls) (hcl2 : RX6 = "LastPrunedModel") (hst : st = As.reverse ++ [.ref 46, v]) (hw : v.category ≤ 8) (k : ∀ (M2 : Mm) (n : Nat), IV M2 n → M2.1 64 = M.1 64 → M2.1 95 0 = M.1 95 0 → J 21 mL_law (pc + 3) lv [v, v] M2 PL) : J 21 mL_law pc lv st M PL := by
  refine J_callVx (ci := 6) (rest := [v]) hK hC hM rfl rfl (hcl2.trans hcl) hnp (by omega) hst (by simpa using hw) ?_
  rintro r M2 ⟨rfl, n, hI⟩ f1 f2
  exact k M2 n hI f1 f2
def LI (M : Mm) (m : Nat) (xs : Nat → Int32) (L i : Nat) : Prop := IV M m ∧ M.1 64 = xs ∧ M.1 95 0 = nI L ∧ L ≤ 2560 ∧ i + 5 ≤ L
theorem li_f {L i : Nat} (hL : L ≤ 2560) (hi : i + 5 ≤ L) : (nI L).toNatClampNeg = L ∧ (nI (i + 1)).toNatClampNeg = i + 1 ∧ (nI (i + 2)).toNatClampNeg = i + 2 ∧ (nI (i + 3)).toNatClampNeg = i + 3 ∧ (nI (i + 4)).toNatClampNeg = i + 4 ∧ vp_in (nI (i + 1)) L ∧ vp_in (nI (i + 2)) L ∧ vp_in (nI (i + 3)) L ∧ vp_in (nI (i + 4)) L :=
  ⟨nI_clamp (by omega), nI_clamp (by omega), nI_clamp (by omega), nI_clamp (by omega), nI_clamp (by omega), vinN (by omega) (by omega), vinN (by omega) (by omega), vinN (by omega) (by omega), vinN (by omega) (by omega)⟩
theorem le5 {L i : Nat} (hL : L ≤ 2560) (hi : i ≤ L + 5) (c : ¬ nI L - 5 < nI i) : i + 5 ≤ L := by
  rcases Nat.lt_or_ge L 5 with h | h
  · exfalso
    have h1 : nI L - 5 < 0 := (by decide : ∀ L, L < 5 → nI L - 5 < 0) L h
    exact c (Int32.lt_of_lt_of_le h1 (nI_pos' (by omega)))
  · have e : nI L - 5 = nI (L - 5) := nI_subN (b := 5) h
    rw [e] at c
    rcases Nat.lt_or_ge (L - 5) i with q | q
    · exact absurd (nI_lt q (by omega)) c
    · omega
section LW
variable {M : Mm} {m : Nat} {xs : Nat → Int32} {L i : Nat}
theorem lc_0 (h : LI M m xs L i) (nxt : ∀ M2 m2, LI M2 m2 xs L i → J 21 mL_law 1635 [some (.ref 64), some (.ref 0), some (.ref 46), some (.int (nI i))] [] M2 PL) : J 21 mL_law 228 [some (.ref 64), some (.ref 0), some (.ref 46), some (.int (nI i))] [] M PL := by
  obtain ⟨hI, e64, e95, hL, hi⟩ := h
  obtain ⟨tL, t1, t2, t3, t4, v1, v2, v3, v4⟩ := li_f (L := L) (i := i) hL hi
  refine J_blk a_L_law_228 ?_
  simp only [b_L_law_228, w_aload_n1, w_aload_n0, w_iload_n3, w_iconst_1, w_iadd, w_ialdX, w_i2l, w_bipush, ci_32, w_lshl, w_iconst_2, w_ldc2, cl_4294967295, w_land, w_lor, w_iconst_3, w_nil, Option.toList_some, Option.toList_none, List.cons_append, List.nil_append, true_and, and_true, if_true, if_false, true_or, or_true, Nat.reduceAdd, Int.reduceAdd, Bool.false_eq_true, tn_0, tn_1, tn_2, tn_3, tn_4, tn_5, tn_6, tn_7, e64, e95, tL, ad1, ad2, ad3, ad4, t1, t2, t3, t4]
  refine ⟨v1, v2, v3, ?_⟩
  refine law_c1 (op_feed hI _ _) k_L_law_254 o_X5_feed rfl rfl rfl rfl ?_
  intro w M1 rm hrm f64 f95 hK
  rw [e64] at f64
  rw [e95] at f95
  refine J_blk a_L_law_257 ?_
  simp only [b_L_law_257, w_aload_n2, w_aload_n0, w_iload_n3, w_iconst_1, w_iadd, w_ialdX, w_i2l, w_bipush, ci_32, w_lshl, w_iconst_2, w_ldc2, cl_4294967295, w_land, w_lor, w_iconst_3, w_nil, Option.toList_some, Option.toList_none, List.cons_append, List.nil_append, true_and, and_true, if_true, if_false, true_or, or_true, Nat.reduceAdd, Int.reduceAdd, Bool.false_eq_true, tn_0, tn_1, tn_2, tn_3, tn_4, tn_5, tn_6, tn_7, f64, f95, tL, ad1, ad2, ad3, ad4, t1, t2, t3, t4]
  refine ⟨v1, v2, v3, ?_⟩
  refine law_c2 hK hrm k_L_law_283 o_X6_feed rfl rfl rfl rfl (Nat.le_of_ble_eq_true rfl) ?_
  intro M2 m2 hI2 g64 g95
  refine J_blk a_L_law_286 ?_
  simp only [b_L_law_286, w_icmp_eq, w_nil, Option.toList_some, Option.toList_none, List.cons_append, List.nil_append, true_and, and_true, if_true, if_false, true_or, or_true, Nat.reduceAdd, Int.reduceAdd, Bool.false_eq_true, tn_0, tn_1, tn_2, tn_3, tn_4, tn_5, tn_6, tn_7]
  exact ⟨fun _ => nxt M2 m2 ⟨hI2, g64.trans f64, g95.trans f95, hL, hi⟩, fun c => absurd trivial c⟩
theorem lc_1 (h : LI M m xs L i) (nxt : ∀ M2 m2, LI M2 m2 xs L i → J 21 mL_law 1635 [some (.ref 64), some (.ref 0), some (.ref 46), some (.int (nI i))] [] M2 PL) : J 21 mL_law 291 [some (.ref 64), some (.ref 0), some (.ref 46), some (.int (nI i))] [] M PL := by
  obtain ⟨hI, e64, e95, hL, hi⟩ := h
  obtain ⟨tL, t1, t2, t3, t4, v1, v2, v3, v4⟩ := li_f (L := L) (i := i) hL hi
  refine J_blk a_L_law_291 ?_
  simp only [b_L_law_291, w_aload_n1, w_nil, Option.toList_some, Option.toList_none, List.cons_append, List.nil_append, true_and, and_true, if_true, if_false, true_or, or_true, Nat.reduceAdd, Int.reduceAdd, Bool.false_eq_true, tn_0, tn_1, tn_2, tn_3, tn_4, tn_5, tn_6, tn_7, e64, e95, tL, ad1, ad2, ad3, ad4, t1, t2, t3, t4]
  refine law_c1 (op_tree hI) k_L_law_292 o_X5_tree rfl rfl rfl rfl ?_
  intro w M1 rm hrm f64 f95 hK
  rw [e64] at f64
  rw [e95] at f95
  refine J_blk a_L_law_295 ?_
  simp only [b_L_law_295, w_aload_n2, w_nil, Option.toList_some, Option.toList_none, List.cons_append, List.nil_append, true_and, and_true, if_true, if_false, true_or, or_true, Nat.reduceAdd, Int.reduceAdd, Bool.false_eq_true, tn_0, tn_1, tn_2, tn_3, tn_4, tn_5, tn_6, tn_7, f64, f95, tL, ad1, ad2, ad3, ad4, t1, t2, t3, t4]
  refine law_c2 hK hrm k_L_law_296 o_X6_tree rfl rfl rfl rfl (Nat.le_of_ble_eq_true rfl) ?_
  intro M2 m2 hI2 g64 g95
  refine J_blk a_L_law_299 ?_
  simp only [b_L_law_299, w_icmp_eq, w_nil, Option.toList_some, Option.toList_none, List.cons_append, List.nil_append, true_and, and_true, if_true, if_false, true_or, or_true, Nat.reduceAdd, Int.reduceAdd, Bool.false_eq_true, tn_0, tn_1, tn_2, tn_3, tn_4, tn_5, tn_6, tn_7]
  exact ⟨fun _ => nxt M2 m2 ⟨hI2, g64.trans f64, g95.trans f95, hL, hi⟩, fun c => absurd trivial c⟩
theorem lc_2 (h : LI M m xs L i) (nxt : ∀ M2 m2, LI M2 m2 xs L i → J 21 mL_law 1635 [some (.ref 64), some (.ref 0), some (.ref 46), some (.int (nI i))] [] M2 PL) : J 21 mL_law 304 [some (.ref 64), some (.ref 0), some (.ref 46), some (.int (nI i))] [] M PL := by
  obtain ⟨hI, e64, e95, hL, hi⟩ := h
  obtain ⟨tL, t1, t2, t3, t4, v1, v2, v3, v4⟩ := li_f (L := L) (i := i) hL hi
  refine J_blk a_L_law_304 ?_
  simp only [b_L_law_304, w_aload_n1, w_aload_n0, w_iload_n3, w_iconst_1, w_iadd, w_ialdX, w_iconst_2, w_nil, Option.toList_some, Option.toList_none, List.cons_append, List.nil_append, true_and, and_true, if_true, if_false, true_or, or_true, Nat.reduceAdd, Int.reduceAdd, Bool.false_eq_true, tn_0, tn_1, tn_2, tn_3, tn_4, tn_5, tn_6, tn_7, e64, e95, tL, ad1, ad2, ad3, ad4, t1, t2, t3, t4]
  refine ⟨v1, v2, ?_⟩
  refine law_c1 (op_set hI _ _) k_L_law_315 o_X5_set rfl rfl rfl rfl ?_
  intro w M1 rm hrm f64 f95 hK
  rw [e64] at f64
  rw [e95] at f95
  refine J_blk a_L_law_318 ?_
  simp only [b_L_law_318, w_aload_n2, w_aload_n0, w_iload_n3, w_iconst_1, w_iadd, w_ialdX, w_iconst_2, w_nil, Option.toList_some, Option.toList_none, List.cons_append, List.nil_append, true_and, and_true, if_true, if_false, true_or, or_true, Nat.reduceAdd, Int.reduceAdd, Bool.false_eq_true, tn_0, tn_1, tn_2, tn_3, tn_4, tn_5, tn_6, tn_7, f64, f95, tL, ad1, ad2, ad3, ad4, t1, t2, t3, t4]
  refine ⟨v1, v2, ?_⟩
  refine law_c2 hK hrm k_L_law_329 o_X6_set rfl rfl rfl rfl (Nat.le_of_ble_eq_true rfl) ?_
  intro M2 m2 hI2 g64 g95
  refine J_blk a_L_law_332 ?_
  simp only [b_L_law_332, w_icmp_eq, w_nil, Option.toList_some, Option.toList_none, List.cons_append, List.nil_append, true_and, and_true, if_true, if_false, true_or, or_true, Nat.reduceAdd, Int.reduceAdd, Bool.false_eq_true, tn_0, tn_1, tn_2, tn_3, tn_4, tn_5, tn_6, tn_7]
  exact ⟨fun _ => nxt M2 m2 ⟨hI2, g64.trans f64, g95.trans f95, hL, hi⟩, fun c => absurd trivial c⟩
theorem lc_3 (h : LI M m xs L i) (nxt : ∀ M2 m2, LI M2 m2 xs L i → J 21 mL_law 1635 [some (.ref 64), some (.ref 0), some (.ref 46), some (.int (nI i))] [] M2 PL) : J 21 mL_law 337 [some (.ref 64), some (.ref 0), some (.ref 46), some (.int (nI i))] [] M PL := by
  obtain ⟨hI, e64, e95, hL, hi⟩ := h
  obtain ⟨tL, t1, t2, t3, t4, v1, v2, v3, v4⟩ := li_f (L := L) (i := i) hL hi
  refine J_blk a_L_law_337 ?_
  simp only [b_L_law_337, w_aload_n1, w_aload_n0, w_iload_n3, w_iconst_1, w_iadd, w_ialdX, w_nil, Option.toList_some, Option.toList_none, List.cons_append, List.nil_append, true_and, and_true, if_true, if_false, true_or, or_true, Nat.reduceAdd, Int.reduceAdd, Bool.false_eq_true, tn_0, tn_1, tn_2, tn_3, tn_4, tn_5, tn_6, tn_7, e64, e95, tL, ad1, ad2, ad3, ad4, t1, t2, t3, t4]
  refine ⟨v1, ?_⟩
  refine law_c1 (op_lawOf hI _) k_L_law_343 o_X5_lawOf rfl rfl rfl rfl ?_
  intro w M1 rm hrm f64 f95 hK
  rw [e64] at f64
  rw [e95] at f95
  refine J_blk a_L_law_346 ?_
  simp only [b_L_law_346, w_aload_n2, w_aload_n0, w_iload_n3, w_iconst_1, w_iadd, w_ialdX, w_nil, Option.toList_some, Option.toList_none, List.cons_append, List.nil_append, true_and, and_true, if_true, if_false, true_or, or_true, Nat.reduceAdd, Int.reduceAdd, Bool.false_eq_true, tn_0, tn_1, tn_2, tn_3, tn_4, tn_5, tn_6, tn_7, f64, f95, tL, ad1, ad2, ad3, ad4, t1, t2, t3, t4]
  refine ⟨v1, ?_⟩
  refine law_c2 hK hrm k_L_law_352 o_X6_lawOf rfl rfl rfl rfl (Nat.le_of_ble_eq_true rfl) ?_
  intro M2 m2 hI2 g64 g95
  refine J_blk a_L_law_355 ?_
  simp only [b_L_law_355, w_icmp_eq, w_nil, Option.toList_some, Option.toList_none, List.cons_append, List.nil_append, true_and, and_true, if_true, if_false, true_or, or_true, Nat.reduceAdd, Int.reduceAdd, Bool.false_eq_true, tn_0, tn_1, tn_2, tn_3, tn_4, tn_5, tn_6, tn_7]
  exact ⟨fun _ => nxt M2 m2 ⟨hI2, g64.trans f64, g95.trans f95, hL, hi⟩, fun c => absurd trivial c⟩
theorem lc_4 (h : LI M m xs L i) (nxt : ∀ M2 m2, LI M2 m2 xs L i → J 21 mL_law 1635 [some (.ref 64), some (.ref 0), some (.ref 46), some (.int (nI i))] [] M2 PL) : J 21 mL_law 360 [some (.ref 64), some (.ref 0), some (.ref 46), some (.int (nI i))] [] M PL := by
  obtain ⟨hI, e64, e95, hL, hi⟩ := h
  obtain ⟨tL, t1, t2, t3, t4, v1, v2, v3, v4⟩ := li_f (L := L) (i := i) hL hi
  refine J_blk a_L_law_360 ?_
  simp only [b_L_law_360, w_aload_n1, w_aload_n0, w_iload_n3, w_iconst_1, w_iadd, w_ialdX, w_iconst_2, w_iconst_3, w_iconst_4, w_nil, Option.toList_some, Option.toList_none, List.cons_append, List.nil_append, true_and, and_true, if_true, if_false, true_or, or_true, Nat.reduceAdd, Int.reduceAdd, Bool.false_eq_true, tn_0, tn_1, tn_2, tn_3, tn_4, tn_5, tn_6, tn_7, e64, e95, tL, ad1, ad2, ad3, ad4, t1, t2, t3, t4]
  refine ⟨v1, v2, v3, v4, ?_⟩
  refine law_c1 (op_branch hI _ _ _ _) k_L_law_381 o_X5_branch rfl rfl rfl rfl ?_
  intro w M1 rm hrm f64 f95 hK
  rw [e64] at f64
  rw [e95] at f95
  refine J_blk a_L_law_384 ?_
  simp only [b_L_law_384, w_aload_n2, w_aload_n0, w_iload_n3, w_iconst_1, w_iadd, w_ialdX, w_iconst_2, w_iconst_3, w_iconst_4, w_nil, Option.toList_some, Option.toList_none, List.cons_append, List.nil_append, true_and, and_true, if_true, if_false, true_or, or_true, Nat.reduceAdd, Int.reduceAdd, Bool.false_eq_true, tn_0, tn_1, tn_2, tn_3, tn_4, tn_5, tn_6, tn_7, f64, f95, tL, ad1, ad2, ad3, ad4, t1, t2, t3, t4]
  refine ⟨v1, v2, v3, v4, ?_⟩
  refine law_c2 hK hrm k_L_law_405 o_X6_branch rfl rfl rfl rfl (Nat.le_of_ble_eq_true rfl) ?_
  intro M2 m2 hI2 g64 g95
  refine J_blk a_L_law_408 ?_
  simp only [b_L_law_408, w_icmp_eq, w_nil, Option.toList_some, Option.toList_none, List.cons_append, List.nil_append, true_and, and_true, if_true, if_false, true_or, or_true, Nat.reduceAdd, Int.reduceAdd, Bool.false_eq_true, tn_0, tn_1, tn_2, tn_3, tn_4, tn_5, tn_6, tn_7]
  exact ⟨fun _ => nxt M2 m2 ⟨hI2, g64.trans f64, g95.trans f95, hL, hi⟩, fun c => absurd trivial c⟩
theorem lc_5 (h : LI M m xs L i) (nxt : ∀ M2 m2, LI M2 m2 xs L i → J 21 mL_law 1635 [some (.ref 64), some (.ref 0), some (.ref 46), some (.int (nI i))] [] M2 PL) : J 21 mL_law 413 [some (.ref 64), some (.ref 0), some (.ref 46), some (.int (nI i))] [] M PL := by
  obtain ⟨hI, e64, e95, hL, hi⟩ := h
  obtain ⟨tL, t1, t2, t3, t4, v1, v2, v3, v4⟩ := li_f (L := L) (i := i) hL hi
  refine J_blk a_L_law_413 ?_
  simp only [b_L_law_413, w_aload_n1, w_aload_n0, w_iload_n3, w_iconst_1, w_iadd, w_ialdX, w_iconst_2, w_nil, Option.toList_some, Option.toList_none, List.cons_append, List.nil_append, true_and, and_true, if_true, if_false, true_or, or_true, Nat.reduceAdd, Int.reduceAdd, Bool.false_eq_true, tn_0, tn_1, tn_2, tn_3, tn_4, tn_5, tn_6, tn_7, e64, e95, tL, ad1, ad2, ad3, ad4, t1, t2, t3, t4]
  refine ⟨v1, v2, ?_⟩
  refine law_c1 (op_of hI _ _) k_L_law_424 o_X5_of rfl rfl rfl rfl ?_
  intro w M1 rm hrm f64 f95 hK
  rw [e64] at f64
  rw [e95] at f95
  refine J_blk a_L_law_427 ?_
  simp only [b_L_law_427, w_aload_n2, w_aload_n0, w_iload_n3, w_iconst_1, w_iadd, w_ialdX, w_iconst_2, w_nil, Option.toList_some, Option.toList_none, List.cons_append, List.nil_append, true_and, and_true, if_true, if_false, true_or, or_true, Nat.reduceAdd, Int.reduceAdd, Bool.false_eq_true, tn_0, tn_1, tn_2, tn_3, tn_4, tn_5, tn_6, tn_7, f64, f95, tL, ad1, ad2, ad3, ad4, t1, t2, t3, t4]
  refine ⟨v1, v2, ?_⟩
  refine law_c2 hK hrm k_L_law_438 o_X6_of rfl rfl rfl rfl (Nat.le_of_ble_eq_true rfl) ?_
  intro M2 m2 hI2 g64 g95
  refine J_blk a_L_law_441 ?_
  simp only [b_L_law_441, w_icmp_eq, w_nil, Option.toList_some, Option.toList_none, List.cons_append, List.nil_append, true_and, and_true, if_true, if_false, true_or, or_true, Nat.reduceAdd, Int.reduceAdd, Bool.false_eq_true, tn_0, tn_1, tn_2, tn_3, tn_4, tn_5, tn_6, tn_7]
  exact ⟨fun _ => nxt M2 m2 ⟨hI2, g64.trans f64, g95.trans f95, hL, hi⟩, fun c => absurd trivial c⟩
theorem lc_6 (h : LI M m xs L i) (nxt : ∀ M2 m2, LI M2 m2 xs L i → J 21 mL_law 1635 [some (.ref 64), some (.ref 0), some (.ref 46), some (.int (nI i))] [] M2 PL) : J 21 mL_law 446 [some (.ref 64), some (.ref 0), some (.ref 46), some (.int (nI i))] [] M PL := by
  obtain ⟨hI, e64, e95, hL, hi⟩ := h
  obtain ⟨tL, t1, t2, t3, t4, v1, v2, v3, v4⟩ := li_f (L := L) (i := i) hL hi
  refine J_blk a_L_law_446 ?_
  simp only [b_L_law_446, w_aload_n1, w_aload_n0, w_iload_n3, w_iconst_1, w_iadd, w_ialdX, w_iconst_2, w_nil, Option.toList_some, Option.toList_none, List.cons_append, List.nil_append, true_and, and_true, if_true, if_false, true_or, or_true, Nat.reduceAdd, Int.reduceAdd, Bool.false_eq_true, tn_0, tn_1, tn_2, tn_3, tn_4, tn_5, tn_6, tn_7, e64, e95, tL, ad1, ad2, ad3, ad4, t1, t2, t3, t4]
  refine ⟨v1, v2, ?_⟩
  refine law_c1 (op_does hI _ _) k_L_law_457 o_X5_does rfl rfl rfl rfl ?_
  intro w M1 rm hrm f64 f95 hK
  rw [e64] at f64
  rw [e95] at f95
  refine J_blk a_L_law_460 ?_
  simp only [b_L_law_460, w_aload_n2, w_aload_n0, w_iload_n3, w_iconst_1, w_iadd, w_ialdX, w_iconst_2, w_nil, Option.toList_some, Option.toList_none, List.cons_append, List.nil_append, true_and, and_true, if_true, if_false, true_or, or_true, Nat.reduceAdd, Int.reduceAdd, Bool.false_eq_true, tn_0, tn_1, tn_2, tn_3, tn_4, tn_5, tn_6, tn_7, f64, f95, tL, ad1, ad2, ad3, ad4, t1, t2, t3, t4]
  refine ⟨v1, v2, ?_⟩
  refine law_c2 hK hrm k_L_law_471 o_X6_does rfl rfl rfl rfl (Nat.le_of_ble_eq_true rfl) ?_
  intro M2 m2 hI2 g64 g95
  refine J_blk a_L_law_474 ?_
  simp only [b_L_law_474, w_icmp_eq, w_nil, Option.toList_some, Option.toList_none, List.cons_append, List.nil_append, true_and, and_true, if_true, if_false, true_or, or_true, Nat.reduceAdd, Int.reduceAdd, Bool.false_eq_true, tn_0, tn_1, tn_2, tn_3, tn_4, tn_5, tn_6, tn_7]
  exact ⟨fun _ => nxt M2 m2 ⟨hI2, g64.trans f64, g95.trans f95, hL, hi⟩, fun c => absurd trivial c⟩
theorem lc_7 (h : LI M m xs L i) (nxt : ∀ M2 m2, LI M2 m2 xs L i → J 21 mL_law 1635 [some (.ref 64), some (.ref 0), some (.ref 46), some (.int (nI i))] [] M2 PL) : J 21 mL_law 479 [some (.ref 64), some (.ref 0), some (.ref 46), some (.int (nI i))] [] M PL := by
  obtain ⟨hI, e64, e95, hL, hi⟩ := h
  obtain ⟨tL, t1, t2, t3, t4, v1, v2, v3, v4⟩ := li_f (L := L) (i := i) hL hi
  refine J_blk a_L_law_479 ?_
  simp only [b_L_law_479, w_aload_n1, w_aload_n0, w_iload_n3, w_iconst_1, w_iadd, w_ialdX, w_nil, Option.toList_some, Option.toList_none, List.cons_append, List.nil_append, true_and, and_true, if_true, if_false, true_or, or_true, Nat.reduceAdd, Int.reduceAdd, Bool.false_eq_true, tn_0, tn_1, tn_2, tn_3, tn_4, tn_5, tn_6, tn_7, e64, e95, tL, ad1, ad2, ad3, ad4, t1, t2, t3, t4]
  refine ⟨v1, ?_⟩
  refine law_c1 (op_stem hI _) k_L_law_485 o_X5_stem rfl rfl rfl rfl ?_
  intro w M1 rm hrm f64 f95 hK
  rw [e64] at f64
  rw [e95] at f95
  refine J_blk a_L_law_488 ?_
  simp only [b_L_law_488, w_aload_n2, w_aload_n0, w_iload_n3, w_iconst_1, w_iadd, w_ialdX, w_nil, Option.toList_some, Option.toList_none, List.cons_append, List.nil_append, true_and, and_true, if_true, if_false, true_or, or_true, Nat.reduceAdd, Int.reduceAdd, Bool.false_eq_true, tn_0, tn_1, tn_2, tn_3, tn_4, tn_5, tn_6, tn_7, f64, f95, tL, ad1, ad2, ad3, ad4, t1, t2, t3, t4]
  refine ⟨v1, ?_⟩
  refine law_c2 hK hrm k_L_law_494 o_X6_stem rfl rfl rfl rfl (Nat.le_of_ble_eq_true rfl) ?_
  intro M2 m2 hI2 g64 g95
  refine J_blk a_L_law_497 ?_
  simp only [b_L_law_497, w_icmp_eq, w_nil, Option.toList_some, Option.toList_none, List.cons_append, List.nil_append, true_and, and_true, if_true, if_false, true_or, or_true, Nat.reduceAdd, Int.reduceAdd, Bool.false_eq_true, tn_0, tn_1, tn_2, tn_3, tn_4, tn_5, tn_6, tn_7]
  exact ⟨fun _ => nxt M2 m2 ⟨hI2, g64.trans f64, g95.trans f95, hL, hi⟩, fun c => absurd trivial c⟩
theorem lc_8 (h : LI M m xs L i) (nxt : ∀ M2 m2, LI M2 m2 xs L i → J 21 mL_law 1635 [some (.ref 64), some (.ref 0), some (.ref 46), some (.int (nI i))] [] M2 PL) : J 21 mL_law 502 [some (.ref 64), some (.ref 0), some (.ref 46), some (.int (nI i))] [] M PL := by
  obtain ⟨hI, e64, e95, hL, hi⟩ := h
  obtain ⟨tL, t1, t2, t3, t4, v1, v2, v3, v4⟩ := li_f (L := L) (i := i) hL hi
  refine J_blk a_L_law_502 ?_
  simp only [b_L_law_502, w_aload_n1, w_aload_n0, w_iload_n3, w_iconst_1, w_iadd, w_ialdX, w_iconst_2, w_iconst_3, w_nil, Option.toList_some, Option.toList_none, List.cons_append, List.nil_append, true_and, and_true, if_true, if_false, true_or, or_true, Nat.reduceAdd, Int.reduceAdd, Bool.false_eq_true, tn_0, tn_1, tn_2, tn_3, tn_4, tn_5, tn_6, tn_7, e64, e95, tL, ad1, ad2, ad3, ad4, t1, t2, t3, t4]
  refine ⟨v1, v2, v3, ?_⟩
  refine law_c1 (op_mind hI _ _ _) k_L_law_518 o_X5_mind rfl rfl rfl rfl ?_
  intro w M1 rm hrm f64 f95 hK
  rw [e64] at f64
  rw [e95] at f95
  refine J_blk a_L_law_521 ?_
  simp only [b_L_law_521, w_aload_n2, w_aload_n0, w_iload_n3, w_iconst_1, w_iadd, w_ialdX, w_iconst_2, w_iconst_3, w_nil, Option.toList_some, Option.toList_none, List.cons_append, List.nil_append, true_and, and_true, if_true, if_false, true_or, or_true, Nat.reduceAdd, Int.reduceAdd, Bool.false_eq_true, tn_0, tn_1, tn_2, tn_3, tn_4, tn_5, tn_6, tn_7, f64, f95, tL, ad1, ad2, ad3, ad4, t1, t2, t3, t4]
  refine ⟨v1, v2, v3, ?_⟩
  refine law_c2 hK hrm k_L_law_537 o_X6_mind rfl rfl rfl rfl (Nat.le_of_ble_eq_true rfl) ?_
  intro M2 m2 hI2 g64 g95
  refine J_blk a_L_law_540 ?_
  simp only [b_L_law_540, w_icmp_eq, w_nil, Option.toList_some, Option.toList_none, List.cons_append, List.nil_append, true_and, and_true, if_true, if_false, true_or, or_true, Nat.reduceAdd, Int.reduceAdd, Bool.false_eq_true, tn_0, tn_1, tn_2, tn_3, tn_4, tn_5, tn_6, tn_7]
  exact ⟨fun _ => nxt M2 m2 ⟨hI2, g64.trans f64, g95.trans f95, hL, hi⟩, fun c => absurd trivial c⟩
theorem lc_9 (h : LI M m xs L i) (nxt : ∀ M2 m2, LI M2 m2 xs L i → J 21 mL_law 1635 [some (.ref 64), some (.ref 0), some (.ref 46), some (.int (nI i))] [] M2 PL) : J 21 mL_law 545 [some (.ref 64), some (.ref 0), some (.ref 46), some (.int (nI i))] [] M PL := by
  obtain ⟨hI, e64, e95, hL, hi⟩ := h
  obtain ⟨tL, t1, t2, t3, t4, v1, v2, v3, v4⟩ := li_f (L := L) (i := i) hL hi
  refine J_blk a_L_law_545 ?_
  simp only [b_L_law_545, w_aload_n1, w_aload_n0, w_iload_n3, w_iconst_1, w_iadd, w_ialdX, w_iconst_2, w_nil, Option.toList_some, Option.toList_none, List.cons_append, List.nil_append, true_and, and_true, if_true, if_false, true_or, or_true, Nat.reduceAdd, Int.reduceAdd, Bool.false_eq_true, tn_0, tn_1, tn_2, tn_3, tn_4, tn_5, tn_6, tn_7, e64, e95, tL, ad1, ad2, ad3, ad4, t1, t2, t3, t4]
  refine ⟨v1, v2, ?_⟩
  refine law_c1 (op_age hI _ _) k_L_law_556 o_X5_age rfl rfl rfl rfl ?_
  intro w M1 rm hrm f64 f95 hK
  rw [e64] at f64
  rw [e95] at f95
  refine J_blk a_L_law_559 ?_
  simp only [b_L_law_559, w_aload_n2, w_aload_n0, w_iload_n3, w_iconst_1, w_iadd, w_ialdX, w_iconst_2, w_nil, Option.toList_some, Option.toList_none, List.cons_append, List.nil_append, true_and, and_true, if_true, if_false, true_or, or_true, Nat.reduceAdd, Int.reduceAdd, Bool.false_eq_true, tn_0, tn_1, tn_2, tn_3, tn_4, tn_5, tn_6, tn_7, f64, f95, tL, ad1, ad2, ad3, ad4, t1, t2, t3, t4]
  refine ⟨v1, v2, ?_⟩
  refine law_c2 hK hrm k_L_law_570 o_X6_age rfl rfl rfl rfl (Nat.le_of_ble_eq_true rfl) ?_
  intro M2 m2 hI2 g64 g95
  refine J_blk a_L_law_573 ?_
  simp only [b_L_law_573, w_icmp_eq, w_nil, Option.toList_some, Option.toList_none, List.cons_append, List.nil_append, true_and, and_true, if_true, if_false, true_or, or_true, Nat.reduceAdd, Int.reduceAdd, Bool.false_eq_true, tn_0, tn_1, tn_2, tn_3, tn_4, tn_5, tn_6, tn_7]
  exact ⟨fun _ => nxt M2 m2 ⟨hI2, g64.trans f64, g95.trans f95, hL, hi⟩, fun c => absurd trivial c⟩
theorem lc_10 (h : LI M m xs L i) (nxt : ∀ M2 m2, LI M2 m2 xs L i → J 21 mL_law 1635 [some (.ref 64), some (.ref 0), some (.ref 46), some (.int (nI i))] [] M2 PL) : J 21 mL_law 578 [some (.ref 64), some (.ref 0), some (.ref 46), some (.int (nI i))] [] M PL := by
  obtain ⟨hI, e64, e95, hL, hi⟩ := h
  obtain ⟨tL, t1, t2, t3, t4, v1, v2, v3, v4⟩ := li_f (L := L) (i := i) hL hi
  refine J_blk a_L_law_578 ?_
  simp only [b_L_law_578, w_aload_n1, w_aload_n0, w_iload_n3, w_iconst_1, w_iadd, w_ialdX, w_iconst_2, w_nil, Option.toList_some, Option.toList_none, List.cons_append, List.nil_append, true_and, and_true, if_true, if_false, true_or, or_true, Nat.reduceAdd, Int.reduceAdd, Bool.false_eq_true, tn_0, tn_1, tn_2, tn_3, tn_4, tn_5, tn_6, tn_7, e64, e95, tL, ad1, ad2, ad3, ad4, t1, t2, t3, t4]
  refine ⟨v1, v2, ?_⟩
  refine law_c1 (op_graft hI _ _) k_L_law_589 o_X5_graft rfl rfl rfl rfl ?_
  intro w M1 rm hrm f64 f95 hK
  rw [e64] at f64
  rw [e95] at f95
  refine J_blk a_L_law_592 ?_
  simp only [b_L_law_592, w_aload_n2, w_aload_n0, w_iload_n3, w_iconst_1, w_iadd, w_ialdX, w_iconst_2, w_nil, Option.toList_some, Option.toList_none, List.cons_append, List.nil_append, true_and, and_true, if_true, if_false, true_or, or_true, Nat.reduceAdd, Int.reduceAdd, Bool.false_eq_true, tn_0, tn_1, tn_2, tn_3, tn_4, tn_5, tn_6, tn_7, f64, f95, tL, ad1, ad2, ad3, ad4, t1, t2, t3, t4]
  refine ⟨v1, v2, ?_⟩
  refine law_c2 hK hrm k_L_law_603 o_X6_graft rfl rfl rfl rfl (Nat.le_of_ble_eq_true rfl) ?_
  intro M2 m2 hI2 g64 g95
  refine J_blk a_L_law_606 ?_
  simp only [b_L_law_606, w_icmp_eq, w_nil, Option.toList_some, Option.toList_none, List.cons_append, List.nil_append, true_and, and_true, if_true, if_false, true_or, or_true, Nat.reduceAdd, Int.reduceAdd, Bool.false_eq_true, tn_0, tn_1, tn_2, tn_3, tn_4, tn_5, tn_6, tn_7]
  exact ⟨fun _ => nxt M2 m2 ⟨hI2, g64.trans f64, g95.trans f95, hL, hi⟩, fun c => absurd trivial c⟩
theorem lc_11 (h : LI M m xs L i) (nxt : ∀ M2 m2, LI M2 m2 xs L i → J 21 mL_law 1635 [some (.ref 64), some (.ref 0), some (.ref 46), some (.int (nI i))] [] M2 PL) : J 21 mL_law 611 [some (.ref 64), some (.ref 0), some (.ref 46), some (.int (nI i))] [] M PL := by
  obtain ⟨hI, e64, e95, hL, hi⟩ := h
  obtain ⟨tL, t1, t2, t3, t4, v1, v2, v3, v4⟩ := li_f (L := L) (i := i) hL hi
  refine J_blk a_L_law_611 ?_
  simp only [b_L_law_611, w_aload_n1, w_aload_n0, w_iload_n3, w_iconst_1, w_iadd, w_ialdX, w_nil, Option.toList_some, Option.toList_none, List.cons_append, List.nil_append, true_and, and_true, if_true, if_false, true_or, or_true, Nat.reduceAdd, Int.reduceAdd, Bool.false_eq_true, tn_0, tn_1, tn_2, tn_3, tn_4, tn_5, tn_6, tn_7, e64, e95, tL, ad1, ad2, ad3, ad4, t1, t2, t3, t4]
  refine ⟨v1, ?_⟩
  refine law_c1 (op_cut hI _) k_L_law_617 o_X5_cut rfl rfl rfl rfl ?_
  intro w M1 rm hrm f64 f95 hK
  rw [e64] at f64
  rw [e95] at f95
  refine J_blk a_L_law_620 ?_
  simp only [b_L_law_620, w_aload_n2, w_aload_n0, w_iload_n3, w_iconst_1, w_iadd, w_ialdX, w_nil, Option.toList_some, Option.toList_none, List.cons_append, List.nil_append, true_and, and_true, if_true, if_false, true_or, or_true, Nat.reduceAdd, Int.reduceAdd, Bool.false_eq_true, tn_0, tn_1, tn_2, tn_3, tn_4, tn_5, tn_6, tn_7, f64, f95, tL, ad1, ad2, ad3, ad4, t1, t2, t3, t4]
  refine ⟨v1, ?_⟩
  refine law_c2 hK hrm k_L_law_626 o_X6_cut rfl rfl rfl rfl (Nat.le_of_ble_eq_true rfl) ?_
  intro M2 m2 hI2 g64 g95
  refine J_blk a_L_law_629 ?_
  simp only [b_L_law_629, w_icmp_eq, w_nil, Option.toList_some, Option.toList_none, List.cons_append, List.nil_append, true_and, and_true, if_true, if_false, true_or, or_true, Nat.reduceAdd, Int.reduceAdd, Bool.false_eq_true, tn_0, tn_1, tn_2, tn_3, tn_4, tn_5, tn_6, tn_7]
  exact ⟨fun _ => nxt M2 m2 ⟨hI2, g64.trans f64, g95.trans f95, hL, hi⟩, fun c => absurd trivial c⟩
theorem lc_12 (h : LI M m xs L i) (nxt : ∀ M2 m2, LI M2 m2 xs L i → J 21 mL_law 1635 [some (.ref 64), some (.ref 0), some (.ref 46), some (.int (nI i))] [] M2 PL) : J 21 mL_law 634 [some (.ref 64), some (.ref 0), some (.ref 46), some (.int (nI i))] [] M PL := by
  obtain ⟨hI, e64, e95, hL, hi⟩ := h
  obtain ⟨tL, t1, t2, t3, t4, v1, v2, v3, v4⟩ := li_f (L := L) (i := i) hL hi
  refine J_blk a_L_law_634 ?_
  simp only [b_L_law_634, w_aload_n1, w_aload_n0, w_iload_n3, w_iconst_1, w_iadd, w_ialdX, w_nil, Option.toList_some, Option.toList_none, List.cons_append, List.nil_append, true_and, and_true, if_true, if_false, true_or, or_true, Nat.reduceAdd, Int.reduceAdd, Bool.false_eq_true, tn_0, tn_1, tn_2, tn_3, tn_4, tn_5, tn_6, tn_7, e64, e95, tL, ad1, ad2, ad3, ad4, t1, t2, t3, t4]
  refine ⟨v1, ?_⟩
  refine law_c1 (op_back hI _) k_L_law_640 o_X5_back rfl rfl rfl rfl ?_
  intro w M1 rm hrm f64 f95 hK
  rw [e64] at f64
  rw [e95] at f95
  refine J_blk a_L_law_643 ?_
  simp only [b_L_law_643, w_aload_n2, w_aload_n0, w_iload_n3, w_iconst_1, w_iadd, w_ialdX, w_nil, Option.toList_some, Option.toList_none, List.cons_append, List.nil_append, true_and, and_true, if_true, if_false, true_or, or_true, Nat.reduceAdd, Int.reduceAdd, Bool.false_eq_true, tn_0, tn_1, tn_2, tn_3, tn_4, tn_5, tn_6, tn_7, f64, f95, tL, ad1, ad2, ad3, ad4, t1, t2, t3, t4]
  refine ⟨v1, ?_⟩
  refine law_c2 hK hrm k_L_law_649 o_X6_back rfl rfl rfl rfl (Nat.le_of_ble_eq_true rfl) ?_
  intro M2 m2 hI2 g64 g95
  refine J_blk a_L_law_652 ?_
  simp only [b_L_law_652, w_icmp_eq, w_nil, Option.toList_some, Option.toList_none, List.cons_append, List.nil_append, true_and, and_true, if_true, if_false, true_or, or_true, Nat.reduceAdd, Int.reduceAdd, Bool.false_eq_true, tn_0, tn_1, tn_2, tn_3, tn_4, tn_5, tn_6, tn_7]
  exact ⟨fun _ => nxt M2 m2 ⟨hI2, g64.trans f64, g95.trans f95, hL, hi⟩, fun c => absurd trivial c⟩
theorem lc_13 (h : LI M m xs L i) (nxt : ∀ M2 m2, LI M2 m2 xs L i → J 21 mL_law 1635 [some (.ref 64), some (.ref 0), some (.ref 46), some (.int (nI i))] [] M2 PL) : J 21 mL_law 657 [some (.ref 64), some (.ref 0), some (.ref 46), some (.int (nI i))] [] M PL := by
  obtain ⟨hI, e64, e95, hL, hi⟩ := h
  obtain ⟨tL, t1, t2, t3, t4, v1, v2, v3, v4⟩ := li_f (L := L) (i := i) hL hi
  refine J_blk a_L_law_657 ?_
  simp only [b_L_law_657, w_aload_n1, w_aload_n0, w_iload_n3, w_iconst_1, w_iadd, w_ialdX, w_nil, Option.toList_some, Option.toList_none, List.cons_append, List.nil_append, true_and, and_true, if_true, if_false, true_or, or_true, Nat.reduceAdd, Int.reduceAdd, Bool.false_eq_true, tn_0, tn_1, tn_2, tn_3, tn_4, tn_5, tn_6, tn_7, e64, e95, tL, ad1, ad2, ad3, ad4, t1, t2, t3, t4]
  refine ⟨v1, ?_⟩
  refine law_c1 (op_years hI _) k_L_law_663 o_X5_years rfl rfl rfl rfl ?_
  intro w M1 rm hrm f64 f95 hK
  rw [e64] at f64
  rw [e95] at f95
  refine J_blk a_L_law_666 ?_
  simp only [b_L_law_666, w_aload_n2, w_aload_n0, w_iload_n3, w_iconst_1, w_iadd, w_ialdX, w_nil, Option.toList_some, Option.toList_none, List.cons_append, List.nil_append, true_and, and_true, if_true, if_false, true_or, or_true, Nat.reduceAdd, Int.reduceAdd, Bool.false_eq_true, tn_0, tn_1, tn_2, tn_3, tn_4, tn_5, tn_6, tn_7, f64, f95, tL, ad1, ad2, ad3, ad4, t1, t2, t3, t4]
  refine ⟨v1, ?_⟩
  refine law_c2 hK hrm k_L_law_672 o_X6_years rfl rfl rfl rfl (Nat.le_of_ble_eq_true rfl) ?_
  intro M2 m2 hI2 g64 g95
  refine J_blk a_L_law_675 ?_
  simp only [b_L_law_675, w_icmp_eq, w_nil, Option.toList_some, Option.toList_none, List.cons_append, List.nil_append, true_and, and_true, if_true, if_false, true_or, or_true, Nat.reduceAdd, Int.reduceAdd, Bool.false_eq_true, tn_0, tn_1, tn_2, tn_3, tn_4, tn_5, tn_6, tn_7]
  exact ⟨fun _ => nxt M2 m2 ⟨hI2, g64.trans f64, g95.trans f95, hL, hi⟩, fun c => absurd trivial c⟩
theorem lc_14 (h : LI M m xs L i) (nxt : ∀ M2 m2, LI M2 m2 xs L i → J 21 mL_law 1635 [some (.ref 64), some (.ref 0), some (.ref 46), some (.int (nI i))] [] M2 PL) : J 21 mL_law 680 [some (.ref 64), some (.ref 0), some (.ref 46), some (.int (nI i))] [] M PL := by
  obtain ⟨hI, e64, e95, hL, hi⟩ := h
  obtain ⟨tL, t1, t2, t3, t4, v1, v2, v3, v4⟩ := li_f (L := L) (i := i) hL hi
  refine J_blk a_L_law_680 ?_
  simp only [b_L_law_680, w_aload_n1, w_aload_n0, w_iload_n3, w_iconst_1, w_iadd, w_ialdX, w_nil, Option.toList_some, Option.toList_none, List.cons_append, List.nil_append, true_and, and_true, if_true, if_false, true_or, or_true, Nat.reduceAdd, Int.reduceAdd, Bool.false_eq_true, tn_0, tn_1, tn_2, tn_3, tn_4, tn_5, tn_6, tn_7, e64, e95, tL, ad1, ad2, ad3, ad4, t1, t2, t3, t4]
  refine ⟨v1, ?_⟩
  refine law_c1 (op_seed hI _) k_L_law_686 o_X5_seed rfl rfl rfl rfl ?_
  intro w M1 rm hrm f64 f95 hK
  rw [e64] at f64
  rw [e95] at f95
  refine J_blk a_L_law_689 ?_
  simp only [b_L_law_689, w_aload_n2, w_aload_n0, w_iload_n3, w_iconst_1, w_iadd, w_ialdX, w_nil, Option.toList_some, Option.toList_none, List.cons_append, List.nil_append, true_and, and_true, if_true, if_false, true_or, or_true, Nat.reduceAdd, Int.reduceAdd, Bool.false_eq_true, tn_0, tn_1, tn_2, tn_3, tn_4, tn_5, tn_6, tn_7, f64, f95, tL, ad1, ad2, ad3, ad4, t1, t2, t3, t4]
  refine ⟨v1, ?_⟩
  refine law_c2 hK hrm k_L_law_695 o_X6_seed rfl rfl rfl rfl (Nat.le_of_ble_eq_true rfl) ?_
  intro M2 m2 hI2 g64 g95
  refine J_blk a_L_law_698 ?_
  simp only [b_L_law_698, w_icmp_eq, w_nil, Option.toList_some, Option.toList_none, List.cons_append, List.nil_append, true_and, and_true, if_true, if_false, true_or, or_true, Nat.reduceAdd, Int.reduceAdd, Bool.false_eq_true, tn_0, tn_1, tn_2, tn_3, tn_4, tn_5, tn_6, tn_7]
  exact ⟨fun _ => nxt M2 m2 ⟨hI2, g64.trans f64, g95.trans f95, hL, hi⟩, fun c => absurd trivial c⟩
theorem lc_15 (h : LI M m xs L i) (nxt : ∀ M2 m2, LI M2 m2 xs L i → J 21 mL_law 1635 [some (.ref 64), some (.ref 0), some (.ref 46), some (.int (nI i))] [] M2 PL) : J 21 mL_law 703 [some (.ref 64), some (.ref 0), some (.ref 46), some (.int (nI i))] [] M PL := by
  obtain ⟨hI, e64, e95, hL, hi⟩ := h
  obtain ⟨tL, t1, t2, t3, t4, v1, v2, v3, v4⟩ := li_f (L := L) (i := i) hL hi
  refine J_blk a_L_law_703 ?_
  simp only [b_L_law_703, w_aload_n1, w_nil, Option.toList_some, Option.toList_none, List.cons_append, List.nil_append, true_and, and_true, if_true, if_false, true_or, or_true, Nat.reduceAdd, Int.reduceAdd, Bool.false_eq_true, tn_0, tn_1, tn_2, tn_3, tn_4, tn_5, tn_6, tn_7, e64, e95, tL, ad1, ad2, ad3, ad4, t1, t2, t3, t4]
  refine law_c1 (op_year hI) k_L_law_704 o_X5_year rfl rfl rfl rfl ?_
  intro w M1 rm hrm f64 f95 hK
  rw [e64] at f64
  rw [e95] at f95
  refine J_blk a_L_law_707 ?_
  simp only [b_L_law_707, w_aload_n2, w_nil, Option.toList_some, Option.toList_none, List.cons_append, List.nil_append, true_and, and_true, if_true, if_false, true_or, or_true, Nat.reduceAdd, Int.reduceAdd, Bool.false_eq_true, tn_0, tn_1, tn_2, tn_3, tn_4, tn_5, tn_6, tn_7, f64, f95, tL, ad1, ad2, ad3, ad4, t1, t2, t3, t4]
  refine law_c2 hK hrm k_L_law_708 o_X6_year rfl rfl rfl rfl (Nat.le_of_ble_eq_true rfl) ?_
  intro M2 m2 hI2 g64 g95
  refine J_blk a_L_law_711 ?_
  simp only [b_L_law_711, w_icmp_eq, w_nil, Option.toList_some, Option.toList_none, List.cons_append, List.nil_append, true_and, and_true, if_true, if_false, true_or, or_true, Nat.reduceAdd, Int.reduceAdd, Bool.false_eq_true, tn_0, tn_1, tn_2, tn_3, tn_4, tn_5, tn_6, tn_7]
  exact ⟨fun _ => nxt M2 m2 ⟨hI2, g64.trans f64, g95.trans f95, hL, hi⟩, fun c => absurd trivial c⟩
theorem lc_16 (h : LI M m xs L i) (nxt : ∀ M2 m2, LI M2 m2 xs L i → J 21 mL_law 1635 [some (.ref 64), some (.ref 0), some (.ref 46), some (.int (nI i))] [] M2 PL) : J 21 mL_law 716 [some (.ref 64), some (.ref 0), some (.ref 46), some (.int (nI i))] [] M PL := by
  obtain ⟨hI, e64, e95, hL, hi⟩ := h
  obtain ⟨tL, t1, t2, t3, t4, v1, v2, v3, v4⟩ := li_f (L := L) (i := i) hL hi
  refine J_blk a_L_law_716 ?_
  simp only [b_L_law_716, w_aload_n1, w_aload_n0, w_iload_n3, w_iconst_1, w_iadd, w_ialdX, w_nil, Option.toList_some, Option.toList_none, List.cons_append, List.nil_append, true_and, and_true, if_true, if_false, true_or, or_true, Nat.reduceAdd, Int.reduceAdd, Bool.false_eq_true, tn_0, tn_1, tn_2, tn_3, tn_4, tn_5, tn_6, tn_7, e64, e95, tL, ad1, ad2, ad3, ad4, t1, t2, t3, t4]
  refine ⟨v1, ?_⟩
  refine law_c1 (op_winters hI _) k_L_law_722 o_X5_winters rfl rfl rfl rfl ?_
  intro w M1 rm hrm f64 f95 hK
  rw [e64] at f64
  rw [e95] at f95
  refine J_blk a_L_law_725 ?_
  simp only [b_L_law_725, w_aload_n2, w_aload_n0, w_iload_n3, w_iconst_1, w_iadd, w_ialdX, w_nil, Option.toList_some, Option.toList_none, List.cons_append, List.nil_append, true_and, and_true, if_true, if_false, true_or, or_true, Nat.reduceAdd, Int.reduceAdd, Bool.false_eq_true, tn_0, tn_1, tn_2, tn_3, tn_4, tn_5, tn_6, tn_7, f64, f95, tL, ad1, ad2, ad3, ad4, t1, t2, t3, t4]
  refine ⟨v1, ?_⟩
  refine law_c2 hK hrm k_L_law_731 o_X6_winters rfl rfl rfl rfl (Nat.le_of_ble_eq_true rfl) ?_
  intro M2 m2 hI2 g64 g95
  refine J_blk a_L_law_734 ?_
  simp only [b_L_law_734, w_icmp_eq, w_nil, Option.toList_some, Option.toList_none, List.cons_append, List.nil_append, true_and, and_true, if_true, if_false, true_or, or_true, Nat.reduceAdd, Int.reduceAdd, Bool.false_eq_true, tn_0, tn_1, tn_2, tn_3, tn_4, tn_5, tn_6, tn_7]
  exact ⟨fun _ => nxt M2 m2 ⟨hI2, g64.trans f64, g95.trans f95, hL, hi⟩, fun c => absurd trivial c⟩
theorem lc_17 (h : LI M m xs L i) (nxt : ∀ M2 m2, LI M2 m2 xs L i → J 21 mL_law 1635 [some (.ref 64), some (.ref 0), some (.ref 46), some (.int (nI i))] [] M2 PL) : J 21 mL_law 739 [some (.ref 64), some (.ref 0), some (.ref 46), some (.int (nI i))] [] M PL := by
  obtain ⟨hI, e64, e95, hL, hi⟩ := h
  obtain ⟨tL, t1, t2, t3, t4, v1, v2, v3, v4⟩ := li_f (L := L) (i := i) hL hi
  refine J_blk a_L_law_739 ?_
  simp only [b_L_law_739, w_aload_n1, w_aload_n0, w_iload_n3, w_iconst_1, w_iadd, w_ialdX, w_nil, Option.toList_some, Option.toList_none, List.cons_append, List.nil_append, true_and, and_true, if_true, if_false, true_or, or_true, Nat.reduceAdd, Int.reduceAdd, Bool.false_eq_true, tn_0, tn_1, tn_2, tn_3, tn_4, tn_5, tn_6, tn_7, e64, e95, tL, ad1, ad2, ad3, ad4, t1, t2, t3, t4]
  refine ⟨v1, ?_⟩
  refine law_c1 (op_state hI _) k_L_law_745 o_X5_state rfl rfl rfl rfl ?_
  intro w M1 rm hrm f64 f95 hK
  rw [e64] at f64
  rw [e95] at f95
  refine J_blk a_L_law_748 ?_
  simp only [b_L_law_748, w_aload_n2, w_aload_n0, w_iload_n3, w_iconst_1, w_iadd, w_ialdX, w_nil, Option.toList_some, Option.toList_none, List.cons_append, List.nil_append, true_and, and_true, if_true, if_false, true_or, or_true, Nat.reduceAdd, Int.reduceAdd, Bool.false_eq_true, tn_0, tn_1, tn_2, tn_3, tn_4, tn_5, tn_6, tn_7, f64, f95, tL, ad1, ad2, ad3, ad4, t1, t2, t3, t4]
  refine ⟨v1, ?_⟩
  refine law_c2 hK hrm k_L_law_754 o_X6_state rfl rfl rfl rfl (Nat.le_of_ble_eq_true rfl) ?_
  intro M2 m2 hI2 g64 g95
  refine J_blk a_L_law_757 ?_
  simp only [b_L_law_757, w_icmp_eq, w_nil, Option.toList_some, Option.toList_none, List.cons_append, List.nil_append, true_and, and_true, if_true, if_false, true_or, or_true, Nat.reduceAdd, Int.reduceAdd, Bool.false_eq_true, tn_0, tn_1, tn_2, tn_3, tn_4, tn_5, tn_6, tn_7]
  exact ⟨fun _ => nxt M2 m2 ⟨hI2, g64.trans f64, g95.trans f95, hL, hi⟩, fun c => absurd trivial c⟩
theorem lc_18 (h : LI M m xs L i) (nxt : ∀ M2 m2, LI M2 m2 xs L i → J 21 mL_law 1635 [some (.ref 64), some (.ref 0), some (.ref 46), some (.int (nI i))] [] M2 PL) : J 21 mL_law 762 [some (.ref 64), some (.ref 0), some (.ref 46), some (.int (nI i))] [] M PL := by
  obtain ⟨hI, e64, e95, hL, hi⟩ := h
  obtain ⟨tL, t1, t2, t3, t4, v1, v2, v3, v4⟩ := li_f (L := L) (i := i) hL hi
  refine J_blk a_L_law_762 ?_
  simp only [b_L_law_762, w_aload_n1, w_aload_n0, w_iload_n3, w_iconst_1, w_iadd, w_ialdX, w_nil, Option.toList_some, Option.toList_none, List.cons_append, List.nil_append, true_and, and_true, if_true, if_false, true_or, or_true, Nat.reduceAdd, Int.reduceAdd, Bool.false_eq_true, tn_0, tn_1, tn_2, tn_3, tn_4, tn_5, tn_6, tn_7, e64, e95, tL, ad1, ad2, ad3, ad4, t1, t2, t3, t4]
  refine ⟨v1, ?_⟩
  refine law_c1 (op_harvest hI _) k_L_law_768 o_X5_harvest rfl rfl rfl rfl ?_
  intro w M1 rm hrm f64 f95 hK
  rw [e64] at f64
  rw [e95] at f95
  refine J_blk a_L_law_771 ?_
  simp only [b_L_law_771, w_aload_n2, w_aload_n0, w_iload_n3, w_iconst_1, w_iadd, w_ialdX, w_nil, Option.toList_some, Option.toList_none, List.cons_append, List.nil_append, true_and, and_true, if_true, if_false, true_or, or_true, Nat.reduceAdd, Int.reduceAdd, Bool.false_eq_true, tn_0, tn_1, tn_2, tn_3, tn_4, tn_5, tn_6, tn_7, f64, f95, tL, ad1, ad2, ad3, ad4, t1, t2, t3, t4]
  refine ⟨v1, ?_⟩
  refine law_c2 hK hrm k_L_law_777 o_X6_harvest rfl rfl rfl rfl (Nat.le_of_ble_eq_true rfl) ?_
  intro M2 m2 hI2 g64 g95
  refine J_blk a_L_law_780 ?_
  simp only [b_L_law_780, w_icmp_eq, w_nil, Option.toList_some, Option.toList_none, List.cons_append, List.nil_append, true_and, and_true, if_true, if_false, true_or, or_true, Nat.reduceAdd, Int.reduceAdd, Bool.false_eq_true, tn_0, tn_1, tn_2, tn_3, tn_4, tn_5, tn_6, tn_7]
  exact ⟨fun _ => nxt M2 m2 ⟨hI2, g64.trans f64, g95.trans f95, hL, hi⟩, fun c => absurd trivial c⟩
theorem lc_19 (h : LI M m xs L i) (nxt : ∀ M2 m2, LI M2 m2 xs L i → J 21 mL_law 1635 [some (.ref 64), some (.ref 0), some (.ref 46), some (.int (nI i))] [] M2 PL) : J 21 mL_law 785 [some (.ref 64), some (.ref 0), some (.ref 46), some (.int (nI i))] [] M PL := by
  obtain ⟨hI, e64, e95, hL, hi⟩ := h
  obtain ⟨tL, t1, t2, t3, t4, v1, v2, v3, v4⟩ := li_f (L := L) (i := i) hL hi
  refine J_blk a_L_law_785 ?_
  simp only [b_L_law_785, w_aload_n1, w_nil, Option.toList_some, Option.toList_none, List.cons_append, List.nil_append, true_and, and_true, if_true, if_false, true_or, or_true, Nat.reduceAdd, Int.reduceAdd, Bool.false_eq_true, tn_0, tn_1, tn_2, tn_3, tn_4, tn_5, tn_6, tn_7, e64, e95, tL, ad1, ad2, ad3, ad4, t1, t2, t3, t4]
  refine law_c1 (op_bare hI) k_L_law_786 o_X5_bare rfl rfl rfl rfl ?_
  intro w M1 rm hrm f64 f95 hK
  rw [e64] at f64
  rw [e95] at f95
  refine J_blk a_L_law_789 ?_
  simp only [b_L_law_789, w_aload_n2, w_nil, Option.toList_some, Option.toList_none, List.cons_append, List.nil_append, true_and, and_true, if_true, if_false, true_or, or_true, Nat.reduceAdd, Int.reduceAdd, Bool.false_eq_true, tn_0, tn_1, tn_2, tn_3, tn_4, tn_5, tn_6, tn_7, f64, f95, tL, ad1, ad2, ad3, ad4, t1, t2, t3, t4]
  refine law_c2 hK hrm k_L_law_790 o_X6_bare rfl rfl rfl rfl (Nat.le_of_ble_eq_true rfl) ?_
  intro M2 m2 hI2 g64 g95
  refine J_blk a_L_law_793 ?_
  simp only [b_L_law_793, w_icmp_eq, w_nil, Option.toList_some, Option.toList_none, List.cons_append, List.nil_append, true_and, and_true, if_true, if_false, true_or, or_true, Nat.reduceAdd, Int.reduceAdd, Bool.false_eq_true, tn_0, tn_1, tn_2, tn_3, tn_4, tn_5, tn_6, tn_7]
  exact ⟨fun _ => nxt M2 m2 ⟨hI2, g64.trans f64, g95.trans f95, hL, hi⟩, fun c => absurd trivial c⟩
theorem lc_20 (h : LI M m xs L i) (nxt : ∀ M2 m2, LI M2 m2 xs L i → J 21 mL_law 1635 [some (.ref 64), some (.ref 0), some (.ref 46), some (.int (nI i))] [] M2 PL) : J 21 mL_law 798 [some (.ref 64), some (.ref 0), some (.ref 46), some (.int (nI i))] [] M PL := by
  obtain ⟨hI, e64, e95, hL, hi⟩ := h
  obtain ⟨tL, t1, t2, t3, t4, v1, v2, v3, v4⟩ := li_f (L := L) (i := i) hL hi
  refine J_blk a_L_law_798 ?_
  simp only [b_L_law_798, w_aload_n1, w_aload_n0, w_iload_n3, w_iconst_1, w_iadd, w_ialdX, w_nil, Option.toList_some, Option.toList_none, List.cons_append, List.nil_append, true_and, and_true, if_true, if_false, true_or, or_true, Nat.reduceAdd, Int.reduceAdd, Bool.false_eq_true, tn_0, tn_1, tn_2, tn_3, tn_4, tn_5, tn_6, tn_7, e64, e95, tL, ad1, ad2, ad3, ad4, t1, t2, t3, t4]
  refine ⟨v1, ?_⟩
  refine law_c1 (op_ripe hI _) k_L_law_804 o_X5_ripe rfl rfl rfl rfl ?_
  intro w M1 rm hrm f64 f95 hK
  rw [e64] at f64
  rw [e95] at f95
  refine J_blk a_L_law_807 ?_
  simp only [b_L_law_807, w_aload_n2, w_aload_n0, w_iload_n3, w_iconst_1, w_iadd, w_ialdX, w_nil, Option.toList_some, Option.toList_none, List.cons_append, List.nil_append, true_and, and_true, if_true, if_false, true_or, or_true, Nat.reduceAdd, Int.reduceAdd, Bool.false_eq_true, tn_0, tn_1, tn_2, tn_3, tn_4, tn_5, tn_6, tn_7, f64, f95, tL, ad1, ad2, ad3, ad4, t1, t2, t3, t4]
  refine ⟨v1, ?_⟩
  refine law_c2 hK hrm k_L_law_813 o_X6_ripe rfl rfl rfl rfl (Nat.le_of_ble_eq_true rfl) ?_
  intro M2 m2 hI2 g64 g95
  refine J_blk a_L_law_816 ?_
  simp only [b_L_law_816, w_icmp_eq, w_nil, Option.toList_some, Option.toList_none, List.cons_append, List.nil_append, true_and, and_true, if_true, if_false, true_or, or_true, Nat.reduceAdd, Int.reduceAdd, Bool.false_eq_true, tn_0, tn_1, tn_2, tn_3, tn_4, tn_5, tn_6, tn_7]
  exact ⟨fun _ => nxt M2 m2 ⟨hI2, g64.trans f64, g95.trans f95, hL, hi⟩, fun c => absurd trivial c⟩
theorem lc_21 (h : LI M m xs L i) (nxt : ∀ M2 m2, LI M2 m2 xs L i → J 21 mL_law 1635 [some (.ref 64), some (.ref 0), some (.ref 46), some (.int (nI i))] [] M2 PL) : J 21 mL_law 821 [some (.ref 64), some (.ref 0), some (.ref 46), some (.int (nI i))] [] M PL := by
  obtain ⟨hI, e64, e95, hL, hi⟩ := h
  obtain ⟨tL, t1, t2, t3, t4, v1, v2, v3, v4⟩ := li_f (L := L) (i := i) hL hi
  refine J_blk a_L_law_821 ?_
  simp only [b_L_law_821, w_aload_n1, w_aload_n0, w_iload_n3, w_iconst_1, w_iadd, w_ialdX, w_nil, Option.toList_some, Option.toList_none, List.cons_append, List.nil_append, true_and, and_true, if_true, if_false, true_or, or_true, Nat.reduceAdd, Int.reduceAdd, Bool.false_eq_true, tn_0, tn_1, tn_2, tn_3, tn_4, tn_5, tn_6, tn_7, e64, e95, tL, ad1, ad2, ad3, ad4, t1, t2, t3, t4]
  refine ⟨v1, ?_⟩
  refine law_c1 (op_cutFor hI _) k_L_law_827 o_X5_cutFor rfl rfl rfl rfl ?_
  intro w M1 rm hrm f64 f95 hK
  rw [e64] at f64
  rw [e95] at f95
  refine J_blk a_L_law_830 ?_
  simp only [b_L_law_830, w_aload_n2, w_aload_n0, w_iload_n3, w_iconst_1, w_iadd, w_ialdX, w_nil, Option.toList_some, Option.toList_none, List.cons_append, List.nil_append, true_and, and_true, if_true, if_false, true_or, or_true, Nat.reduceAdd, Int.reduceAdd, Bool.false_eq_true, tn_0, tn_1, tn_2, tn_3, tn_4, tn_5, tn_6, tn_7, f64, f95, tL, ad1, ad2, ad3, ad4, t1, t2, t3, t4]
  refine ⟨v1, ?_⟩
  refine law_c2 hK hrm k_L_law_836 o_X6_cutFor rfl rfl rfl rfl (Nat.le_of_ble_eq_true rfl) ?_
  intro M2 m2 hI2 g64 g95
  refine J_blk a_L_law_839 ?_
  simp only [b_L_law_839, w_icmp_eq, w_nil, Option.toList_some, Option.toList_none, List.cons_append, List.nil_append, true_and, and_true, if_true, if_false, true_or, or_true, Nat.reduceAdd, Int.reduceAdd, Bool.false_eq_true, tn_0, tn_1, tn_2, tn_3, tn_4, tn_5, tn_6, tn_7]
  exact ⟨fun _ => nxt M2 m2 ⟨hI2, g64.trans f64, g95.trans f95, hL, hi⟩, fun c => absurd trivial c⟩
theorem lc_22 (h : LI M m xs L i) (nxt : ∀ M2 m2, LI M2 m2 xs L i → J 21 mL_law 1635 [some (.ref 64), some (.ref 0), some (.ref 46), some (.int (nI i))] [] M2 PL) : J 21 mL_law 844 [some (.ref 64), some (.ref 0), some (.ref 46), some (.int (nI i))] [] M PL := by
  obtain ⟨hI, e64, e95, hL, hi⟩ := h
  obtain ⟨tL, t1, t2, t3, t4, v1, v2, v3, v4⟩ := li_f (L := L) (i := i) hL hi
  refine J_blk a_L_law_844 ?_
  simp only [b_L_law_844, w_aload_n1, w_aload_n0, w_iload_n3, w_iconst_1, w_iadd, w_ialdX, w_nil, Option.toList_some, Option.toList_none, List.cons_append, List.nil_append, true_and, and_true, if_true, if_false, true_or, or_true, Nat.reduceAdd, Int.reduceAdd, Bool.false_eq_true, tn_0, tn_1, tn_2, tn_3, tn_4, tn_5, tn_6, tn_7, e64, e95, tL, ad1, ad2, ad3, ad4, t1, t2, t3, t4]
  refine ⟨v1, ?_⟩
  refine law_c1 (op_cutsFor hI _) k_L_law_850 o_X5_cutsFor rfl rfl rfl rfl ?_
  intro w M1 rm hrm f64 f95 hK
  rw [e64] at f64
  rw [e95] at f95
  refine J_blk a_L_law_853 ?_
  simp only [b_L_law_853, w_aload_n2, w_aload_n0, w_iload_n3, w_iconst_1, w_iadd, w_ialdX, w_nil, Option.toList_some, Option.toList_none, List.cons_append, List.nil_append, true_and, and_true, if_true, if_false, true_or, or_true, Nat.reduceAdd, Int.reduceAdd, Bool.false_eq_true, tn_0, tn_1, tn_2, tn_3, tn_4, tn_5, tn_6, tn_7, f64, f95, tL, ad1, ad2, ad3, ad4, t1, t2, t3, t4]
  refine ⟨v1, ?_⟩
  refine law_c2 hK hrm k_L_law_859 o_X6_cutsFor rfl rfl rfl rfl (Nat.le_of_ble_eq_true rfl) ?_
  intro M2 m2 hI2 g64 g95
  refine J_blk a_L_law_862 ?_
  simp only [b_L_law_862, w_icmp_eq, w_nil, Option.toList_some, Option.toList_none, List.cons_append, List.nil_append, true_and, and_true, if_true, if_false, true_or, or_true, Nat.reduceAdd, Int.reduceAdd, Bool.false_eq_true, tn_0, tn_1, tn_2, tn_3, tn_4, tn_5, tn_6, tn_7]
  exact ⟨fun _ => nxt M2 m2 ⟨hI2, g64.trans f64, g95.trans f95, hL, hi⟩, fun c => absurd trivial c⟩
theorem lc_23 (h : LI M m xs L i) (nxt : ∀ M2 m2, LI M2 m2 xs L i → J 21 mL_law 1635 [some (.ref 64), some (.ref 0), some (.ref 46), some (.int (nI i))] [] M2 PL) : J 21 mL_law 867 [some (.ref 64), some (.ref 0), some (.ref 46), some (.int (nI i))] [] M PL := by
  obtain ⟨hI, e64, e95, hL, hi⟩ := h
  obtain ⟨tL, t1, t2, t3, t4, v1, v2, v3, v4⟩ := li_f (L := L) (i := i) hL hi
  refine J_blk a_L_law_867 ?_
  simp only [b_L_law_867, w_aload_n1, w_aload_n0, w_iload_n3, w_iconst_1, w_iadd, w_ialdX, w_iconst_2, w_nil, Option.toList_some, Option.toList_none, List.cons_append, List.nil_append, true_and, and_true, if_true, if_false, true_or, or_true, Nat.reduceAdd, Int.reduceAdd, Bool.false_eq_true, tn_0, tn_1, tn_2, tn_3, tn_4, tn_5, tn_6, tn_7, e64, e95, tL, ad1, ad2, ad3, ad4, t1, t2, t3, t4]
  refine ⟨v1, v2, ?_⟩
  refine law_c1 (op_kindFor hI _ _) k_L_law_878 o_X5_kindFor rfl rfl rfl rfl ?_
  intro w M1 rm hrm f64 f95 hK
  rw [e64] at f64
  rw [e95] at f95
  refine J_blk a_L_law_881 ?_
  simp only [b_L_law_881, w_aload_n2, w_aload_n0, w_iload_n3, w_iconst_1, w_iadd, w_ialdX, w_iconst_2, w_nil, Option.toList_some, Option.toList_none, List.cons_append, List.nil_append, true_and, and_true, if_true, if_false, true_or, or_true, Nat.reduceAdd, Int.reduceAdd, Bool.false_eq_true, tn_0, tn_1, tn_2, tn_3, tn_4, tn_5, tn_6, tn_7, f64, f95, tL, ad1, ad2, ad3, ad4, t1, t2, t3, t4]
  refine ⟨v1, v2, ?_⟩
  refine law_c2 hK hrm k_L_law_892 o_X6_kindFor rfl rfl rfl rfl (Nat.le_of_ble_eq_true rfl) ?_
  intro M2 m2 hI2 g64 g95
  refine J_blk a_L_law_895 ?_
  simp only [b_L_law_895, w_icmp_eq, w_nil, Option.toList_some, Option.toList_none, List.cons_append, List.nil_append, true_and, and_true, if_true, if_false, true_or, or_true, Nat.reduceAdd, Int.reduceAdd, Bool.false_eq_true, tn_0, tn_1, tn_2, tn_3, tn_4, tn_5, tn_6, tn_7]
  exact ⟨fun _ => nxt M2 m2 ⟨hI2, g64.trans f64, g95.trans f95, hL, hi⟩, fun c => absurd trivial c⟩
theorem lc_24 (h : LI M m xs L i) (nxt : ∀ M2 m2, LI M2 m2 xs L i → J 21 mL_law 1635 [some (.ref 64), some (.ref 0), some (.ref 46), some (.int (nI i))] [] M2 PL) : J 21 mL_law 900 [some (.ref 64), some (.ref 0), some (.ref 46), some (.int (nI i))] [] M PL := by
  obtain ⟨hI, e64, e95, hL, hi⟩ := h
  obtain ⟨tL, t1, t2, t3, t4, v1, v2, v3, v4⟩ := li_f (L := L) (i := i) hL hi
  refine J_blk a_L_law_900 ?_
  simp only [b_L_law_900, w_aload_n1, w_aload_n0, w_iload_n3, w_iconst_1, w_iadd, w_ialdX, w_iconst_2, w_iconst_3, w_nil, Option.toList_some, Option.toList_none, List.cons_append, List.nil_append, true_and, and_true, if_true, if_false, true_or, or_true, Nat.reduceAdd, Int.reduceAdd, Bool.false_eq_true, tn_0, tn_1, tn_2, tn_3, tn_4, tn_5, tn_6, tn_7, e64, e95, tL, ad1, ad2, ad3, ad4, t1, t2, t3, t4]
  refine ⟨v1, v2, v3, ?_⟩
  refine law_c1 (op_forceFor hI _ _ _) k_L_law_916 o_X5_forceFor rfl rfl rfl rfl ?_
  intro w M1 rm hrm f64 f95 hK
  rw [e64] at f64
  rw [e95] at f95
  refine J_blk a_L_law_919 ?_
  simp only [b_L_law_919, w_aload_n2, w_aload_n0, w_iload_n3, w_iconst_1, w_iadd, w_ialdX, w_iconst_2, w_iconst_3, w_nil, Option.toList_some, Option.toList_none, List.cons_append, List.nil_append, true_and, and_true, if_true, if_false, true_or, or_true, Nat.reduceAdd, Int.reduceAdd, Bool.false_eq_true, tn_0, tn_1, tn_2, tn_3, tn_4, tn_5, tn_6, tn_7, f64, f95, tL, ad1, ad2, ad3, ad4, t1, t2, t3, t4]
  refine ⟨v1, v2, v3, ?_⟩
  refine law_c2 hK hrm k_L_law_935 o_X6_forceFor rfl rfl rfl rfl (Nat.le_of_ble_eq_true rfl) ?_
  intro M2 m2 hI2 g64 g95
  refine J_blk a_L_law_938 ?_
  simp only [b_L_law_938, w_icmp_eq, w_nil, Option.toList_some, Option.toList_none, List.cons_append, List.nil_append, true_and, and_true, if_true, if_false, true_or, or_true, Nat.reduceAdd, Int.reduceAdd, Bool.false_eq_true, tn_0, tn_1, tn_2, tn_3, tn_4, tn_5, tn_6, tn_7]
  exact ⟨fun _ => nxt M2 m2 ⟨hI2, g64.trans f64, g95.trans f95, hL, hi⟩, fun c => absurd trivial c⟩
theorem lc_25 (h : LI M m xs L i) (nxt : ∀ M2 m2, LI M2 m2 xs L i → J 21 mL_law 1635 [some (.ref 64), some (.ref 0), some (.ref 46), some (.int (nI i))] [] M2 PL) : J 21 mL_law 943 [some (.ref 64), some (.ref 0), some (.ref 46), some (.int (nI i))] [] M PL := by
  obtain ⟨hI, e64, e95, hL, hi⟩ := h
  obtain ⟨tL, t1, t2, t3, t4, v1, v2, v3, v4⟩ := li_f (L := L) (i := i) hL hi
  refine J_blk a_L_law_943 ?_
  simp only [b_L_law_943, w_aload_n1, w_aload_n0, w_iload_n3, w_iconst_1, w_iadd, w_ialdX, w_iconst_2, w_nil, Option.toList_some, Option.toList_none, List.cons_append, List.nil_append, true_and, and_true, if_true, if_false, true_or, or_true, Nat.reduceAdd, Int.reduceAdd, Bool.false_eq_true, tn_0, tn_1, tn_2, tn_3, tn_4, tn_5, tn_6, tn_7, e64, e95, tL, ad1, ad2, ad3, ad4, t1, t2, t3, t4]
  refine ⟨v1, v2, ?_⟩
  refine law_c1 (op_regret hI _ _) k_L_law_954 o_X5_regret rfl rfl rfl rfl ?_
  intro w M1 rm hrm f64 f95 hK
  rw [e64] at f64
  rw [e95] at f95
  refine J_blk a_L_law_957 ?_
  simp only [b_L_law_957, w_aload_n2, w_aload_n0, w_iload_n3, w_iconst_1, w_iadd, w_ialdX, w_iconst_2, w_nil, Option.toList_some, Option.toList_none, List.cons_append, List.nil_append, true_and, and_true, if_true, if_false, true_or, or_true, Nat.reduceAdd, Int.reduceAdd, Bool.false_eq_true, tn_0, tn_1, tn_2, tn_3, tn_4, tn_5, tn_6, tn_7, f64, f95, tL, ad1, ad2, ad3, ad4, t1, t2, t3, t4]
  refine ⟨v1, v2, ?_⟩
  refine law_c2 hK hrm k_L_law_968 o_X6_regret rfl rfl rfl rfl (Nat.le_of_ble_eq_true rfl) ?_
  intro M2 m2 hI2 g64 g95
  refine J_blk a_L_law_971 ?_
  simp only [b_L_law_971, w_icmp_eq, w_nil, Option.toList_some, Option.toList_none, List.cons_append, List.nil_append, true_and, and_true, if_true, if_false, true_or, or_true, Nat.reduceAdd, Int.reduceAdd, Bool.false_eq_true, tn_0, tn_1, tn_2, tn_3, tn_4, tn_5, tn_6, tn_7]
  exact ⟨fun _ => nxt M2 m2 ⟨hI2, g64.trans f64, g95.trans f95, hL, hi⟩, fun c => absurd trivial c⟩
theorem lc_26 (h : LI M m xs L i) (nxt : ∀ M2 m2, LI M2 m2 xs L i → J 21 mL_law 1635 [some (.ref 64), some (.ref 0), some (.ref 46), some (.int (nI i))] [] M2 PL) : J 21 mL_law 976 [some (.ref 64), some (.ref 0), some (.ref 46), some (.int (nI i))] [] M PL := by
  obtain ⟨hI, e64, e95, hL, hi⟩ := h
  obtain ⟨tL, t1, t2, t3, t4, v1, v2, v3, v4⟩ := li_f (L := L) (i := i) hL hi
  refine J_blk a_L_law_976 ?_
  simp only [b_L_law_976, w_aload_n1, w_aload_n0, w_iload_n3, w_iconst_1, w_iadd, w_ialdX, w_iconst_2, w_nil, Option.toList_some, Option.toList_none, List.cons_append, List.nil_append, true_and, and_true, if_true, if_false, true_or, or_true, Nat.reduceAdd, Int.reduceAdd, Bool.false_eq_true, tn_0, tn_1, tn_2, tn_3, tn_4, tn_5, tn_6, tn_7, e64, e95, tL, ad1, ad2, ad3, ad4, t1, t2, t3, t4]
  refine ⟨v1, v2, ?_⟩
  refine law_c1 (op_freeFor hI _ _) k_L_law_987 o_X5_freeFor rfl rfl rfl rfl ?_
  intro w M1 rm hrm f64 f95 hK
  rw [e64] at f64
  rw [e95] at f95
  refine J_blk a_L_law_990 ?_
  simp only [b_L_law_990, w_aload_n2, w_aload_n0, w_iload_n3, w_iconst_1, w_iadd, w_ialdX, w_iconst_2, w_nil, Option.toList_some, Option.toList_none, List.cons_append, List.nil_append, true_and, and_true, if_true, if_false, true_or, or_true, Nat.reduceAdd, Int.reduceAdd, Bool.false_eq_true, tn_0, tn_1, tn_2, tn_3, tn_4, tn_5, tn_6, tn_7, f64, f95, tL, ad1, ad2, ad3, ad4, t1, t2, t3, t4]
  refine ⟨v1, v2, ?_⟩
  refine law_c2 hK hrm k_L_law_1001 o_X6_freeFor rfl rfl rfl rfl (Nat.le_of_ble_eq_true rfl) ?_
  intro M2 m2 hI2 g64 g95
  refine J_blk a_L_law_1004 ?_
  simp only [b_L_law_1004, w_icmp_eq, w_nil, Option.toList_some, Option.toList_none, List.cons_append, List.nil_append, true_and, and_true, if_true, if_false, true_or, or_true, Nat.reduceAdd, Int.reduceAdd, Bool.false_eq_true, tn_0, tn_1, tn_2, tn_3, tn_4, tn_5, tn_6, tn_7]
  exact ⟨fun _ => nxt M2 m2 ⟨hI2, g64.trans f64, g95.trans f95, hL, hi⟩, fun c => absurd trivial c⟩
theorem lc_27 (h : LI M m xs L i) (nxt : ∀ M2 m2, LI M2 m2 xs L i → J 21 mL_law 1635 [some (.ref 64), some (.ref 0), some (.ref 46), some (.int (nI i))] [] M2 PL) : J 21 mL_law 1009 [some (.ref 64), some (.ref 0), some (.ref 46), some (.int (nI i))] [] M PL := by
  obtain ⟨hI, e64, e95, hL, hi⟩ := h
  obtain ⟨tL, t1, t2, t3, t4, v1, v2, v3, v4⟩ := li_f (L := L) (i := i) hL hi
  refine J_blk a_L_law_1009 ?_
  simp only [b_L_law_1009, w_aload_n1, w_aload_n0, w_iload_n3, w_iconst_1, w_iadd, w_ialdX, w_iconst_2, w_iconst_3, w_nil, Option.toList_some, Option.toList_none, List.cons_append, List.nil_append, true_and, and_true, if_true, if_false, true_or, or_true, Nat.reduceAdd, Int.reduceAdd, Bool.false_eq_true, tn_0, tn_1, tn_2, tn_3, tn_4, tn_5, tn_6, tn_7, e64, e95, tL, ad1, ad2, ad3, ad4, t1, t2, t3, t4]
  refine ⟨v1, v2, v3, ?_⟩
  refine law_c1 (op_fits hI _ _ _) k_L_law_1025 o_X5_fits rfl rfl rfl rfl ?_
  intro w M1 rm hrm f64 f95 hK
  rw [e64] at f64
  rw [e95] at f95
  refine J_blk a_L_law_1028 ?_
  simp only [b_L_law_1028, w_aload_n2, w_aload_n0, w_iload_n3, w_iconst_1, w_iadd, w_ialdX, w_iconst_2, w_iconst_3, w_nil, Option.toList_some, Option.toList_none, List.cons_append, List.nil_append, true_and, and_true, if_true, if_false, true_or, or_true, Nat.reduceAdd, Int.reduceAdd, Bool.false_eq_true, tn_0, tn_1, tn_2, tn_3, tn_4, tn_5, tn_6, tn_7, f64, f95, tL, ad1, ad2, ad3, ad4, t1, t2, t3, t4]
  refine ⟨v1, v2, v3, ?_⟩
  refine law_c2 hK hrm k_L_law_1044 o_X6_fits rfl rfl rfl rfl (Nat.le_of_ble_eq_true rfl) ?_
  intro M2 m2 hI2 g64 g95
  refine J_blk a_L_law_1047 ?_
  simp only [b_L_law_1047, w_icmp_eq, w_nil, Option.toList_some, Option.toList_none, List.cons_append, List.nil_append, true_and, and_true, if_true, if_false, true_or, or_true, Nat.reduceAdd, Int.reduceAdd, Bool.false_eq_true, tn_0, tn_1, tn_2, tn_3, tn_4, tn_5, tn_6, tn_7]
  exact ⟨fun _ => nxt M2 m2 ⟨hI2, g64.trans f64, g95.trans f95, hL, hi⟩, fun c => absurd trivial c⟩
theorem lc_28 (h : LI M m xs L i) (nxt : ∀ M2 m2, LI M2 m2 xs L i → J 21 mL_law 1635 [some (.ref 64), some (.ref 0), some (.ref 46), some (.int (nI i))] [] M2 PL) : J 21 mL_law 1052 [some (.ref 64), some (.ref 0), some (.ref 46), some (.int (nI i))] [] M PL := by
  obtain ⟨hI, e64, e95, hL, hi⟩ := h
  obtain ⟨tL, t1, t2, t3, t4, v1, v2, v3, v4⟩ := li_f (L := L) (i := i) hL hi
  refine J_blk a_L_law_1052 ?_
  simp only [b_L_law_1052, w_aload_n1, w_aload_n0, w_iload_n3, w_iconst_1, w_iadd, w_ialdX, w_iconst_2, w_iconst_3, w_nil, Option.toList_some, Option.toList_none, List.cons_append, List.nil_append, true_and, and_true, if_true, if_false, true_or, or_true, Nat.reduceAdd, Int.reduceAdd, Bool.false_eq_true, tn_0, tn_1, tn_2, tn_3, tn_4, tn_5, tn_6, tn_7, e64, e95, tL, ad1, ad2, ad3, ad4, t1, t2, t3, t4]
  refine ⟨v1, v2, v3, ?_⟩
  refine law_c1l (op_odds hI _ _ _) k_L_law_1068 o_X5_odds rfl rfl rfl rfl ?_
  intro w M1 rm hrm f64 f95 hK
  rw [e64] at f64
  rw [e95] at f95
  refine J_blk a_L_law_1071 ?_
  simp only [b_L_law_1071, w_aload_n2, w_aload_n0, w_iload_n3, w_iconst_1, w_iadd, w_ialdX, w_iconst_2, w_iconst_3, w_nil, Option.toList_some, Option.toList_none, List.cons_append, List.nil_append, true_and, and_true, if_true, if_false, true_or, or_true, Nat.reduceAdd, Int.reduceAdd, Bool.false_eq_true, tn_0, tn_1, tn_2, tn_3, tn_4, tn_5, tn_6, tn_7, f64, f95, tL, ad1, ad2, ad3, ad4, t1, t2, t3, t4]
  refine ⟨v1, v2, v3, ?_⟩
  refine law_c2 hK hrm k_L_law_1087 o_X6_odds rfl rfl rfl rfl (Nat.le_of_ble_eq_true rfl) ?_
  intro M2 m2 hI2 g64 g95
  refine J_blk a_L_law_1090 ?_
  simp only [b_L_law_1090, w_lcmp, w_if_eq, w_nil, Option.toList_some, Option.toList_none, List.cons_append, List.nil_append, true_and, and_true, if_true, if_false, true_or, or_true, Nat.reduceAdd, Int.reduceAdd, Bool.false_eq_true, tn_0, tn_1, tn_2, tn_3, tn_4, tn_5, tn_6, tn_7, lgq]
  exact ⟨fun _ => nxt M2 m2 ⟨hI2, g64.trans f64, g95.trans f95, hL, hi⟩, fun c => absurd trivial c⟩
theorem lc_29 (h : LI M m xs L i) (nxt : ∀ M2 m2, LI M2 m2 xs L i → J 21 mL_law 1635 [some (.ref 64), some (.ref 0), some (.ref 46), some (.int (nI i))] [] M2 PL) : J 21 mL_law 1096 [some (.ref 64), some (.ref 0), some (.ref 46), some (.int (nI i))] [] M PL := by
  obtain ⟨hI, e64, e95, hL, hi⟩ := h
  obtain ⟨tL, t1, t2, t3, t4, v1, v2, v3, v4⟩ := li_f (L := L) (i := i) hL hi
  refine J_blk a_L_law_1096 ?_
  simp only [b_L_law_1096, w_aload_n1, w_aload_n0, w_iload_n3, w_iconst_1, w_iadd, w_ialdX, w_iconst_2, w_nil, Option.toList_some, Option.toList_none, List.cons_append, List.nil_append, true_and, and_true, if_true, if_false, true_or, or_true, Nat.reduceAdd, Int.reduceAdd, Bool.false_eq_true, tn_0, tn_1, tn_2, tn_3, tn_4, tn_5, tn_6, tn_7, e64, e95, tL, ad1, ad2, ad3, ad4, t1, t2, t3, t4]
  refine ⟨v1, v2, ?_⟩
  refine law_c1l (op_hope hI _ _) k_L_law_1107 o_X5_hope rfl rfl rfl rfl ?_
  intro w M1 rm hrm f64 f95 hK
  rw [e64] at f64
  rw [e95] at f95
  refine J_blk a_L_law_1110 ?_
  simp only [b_L_law_1110, w_aload_n2, w_aload_n0, w_iload_n3, w_iconst_1, w_iadd, w_ialdX, w_iconst_2, w_nil, Option.toList_some, Option.toList_none, List.cons_append, List.nil_append, true_and, and_true, if_true, if_false, true_or, or_true, Nat.reduceAdd, Int.reduceAdd, Bool.false_eq_true, tn_0, tn_1, tn_2, tn_3, tn_4, tn_5, tn_6, tn_7, f64, f95, tL, ad1, ad2, ad3, ad4, t1, t2, t3, t4]
  refine ⟨v1, v2, ?_⟩
  refine law_c2 hK hrm k_L_law_1121 o_X6_hope rfl rfl rfl rfl (Nat.le_of_ble_eq_true rfl) ?_
  intro M2 m2 hI2 g64 g95
  refine J_blk a_L_law_1124 ?_
  simp only [b_L_law_1124, w_lcmp, w_if_eq, w_nil, Option.toList_some, Option.toList_none, List.cons_append, List.nil_append, true_and, and_true, if_true, if_false, true_or, or_true, Nat.reduceAdd, Int.reduceAdd, Bool.false_eq_true, tn_0, tn_1, tn_2, tn_3, tn_4, tn_5, tn_6, tn_7, lgq]
  exact ⟨fun _ => nxt M2 m2 ⟨hI2, g64.trans f64, g95.trans f95, hL, hi⟩, fun c => absurd trivial c⟩
theorem lc_30 (h : LI M m xs L i) (nxt : ∀ M2 m2, LI M2 m2 xs L i → J 21 mL_law 1635 [some (.ref 64), some (.ref 0), some (.ref 46), some (.int (nI i))] [] M2 PL) : J 21 mL_law 1130 [some (.ref 64), some (.ref 0), some (.ref 46), some (.int (nI i))] [] M PL := by
  obtain ⟨hI, e64, e95, hL, hi⟩ := h
  obtain ⟨tL, t1, t2, t3, t4, v1, v2, v3, v4⟩ := li_f (L := L) (i := i) hL hi
  refine J_blk a_L_law_1130 ?_
  simp only [b_L_law_1130, w_aload_n1, w_aload_n0, w_iload_n3, w_iconst_1, w_iadd, w_ialdX, w_iconst_2, w_nil, Option.toList_some, Option.toList_none, List.cons_append, List.nil_append, true_and, and_true, if_true, if_false, true_or, or_true, Nat.reduceAdd, Int.reduceAdd, Bool.false_eq_true, tn_0, tn_1, tn_2, tn_3, tn_4, tn_5, tn_6, tn_7, e64, e95, tL, ad1, ad2, ad3, ad4, t1, t2, t3, t4]
  refine ⟨v1, v2, ?_⟩
  refine law_c1 (op_prove hI _ _) k_L_law_1141 o_X5_prove rfl rfl rfl rfl ?_
  intro w M1 rm hrm f64 f95 hK
  rw [e64] at f64
  rw [e95] at f95
  refine J_blk a_L_law_1144 ?_
  simp only [b_L_law_1144, w_aload_n2, w_aload_n0, w_iload_n3, w_iconst_1, w_iadd, w_ialdX, w_iconst_2, w_nil, Option.toList_some, Option.toList_none, List.cons_append, List.nil_append, true_and, and_true, if_true, if_false, true_or, or_true, Nat.reduceAdd, Int.reduceAdd, Bool.false_eq_true, tn_0, tn_1, tn_2, tn_3, tn_4, tn_5, tn_6, tn_7, f64, f95, tL, ad1, ad2, ad3, ad4, t1, t2, t3, t4]
  refine ⟨v1, v2, ?_⟩
  refine law_c2 hK hrm k_L_law_1155 o_X6_prove rfl rfl rfl rfl (Nat.le_of_ble_eq_true rfl) ?_
  intro M2 m2 hI2 g64 g95
  refine J_blk a_L_law_1158 ?_
  simp only [b_L_law_1158, w_icmp_eq, w_nil, Option.toList_some, Option.toList_none, List.cons_append, List.nil_append, true_and, and_true, if_true, if_false, true_or, or_true, Nat.reduceAdd, Int.reduceAdd, Bool.false_eq_true, tn_0, tn_1, tn_2, tn_3, tn_4, tn_5, tn_6, tn_7]
  exact ⟨fun _ => nxt M2 m2 ⟨hI2, g64.trans f64, g95.trans f95, hL, hi⟩, fun c => absurd trivial c⟩
theorem lc_31 (h : LI M m xs L i) (nxt : ∀ M2 m2, LI M2 m2 xs L i → J 21 mL_law 1635 [some (.ref 64), some (.ref 0), some (.ref 46), some (.int (nI i))] [] M2 PL) : J 21 mL_law 1163 [some (.ref 64), some (.ref 0), some (.ref 46), some (.int (nI i))] [] M PL := by
  obtain ⟨hI, e64, e95, hL, hi⟩ := h
  obtain ⟨tL, t1, t2, t3, t4, v1, v2, v3, v4⟩ := li_f (L := L) (i := i) hL hi
  refine J_blk a_L_law_1163 ?_
  simp only [b_L_law_1163, w_aload_n1, w_aload_n0, w_iload_n3, w_iconst_1, w_iadd, w_ialdX, w_iconst_2, w_nil, Option.toList_some, Option.toList_none, List.cons_append, List.nil_append, true_and, and_true, if_true, if_false, true_or, or_true, Nat.reduceAdd, Int.reduceAdd, Bool.false_eq_true, tn_0, tn_1, tn_2, tn_3, tn_4, tn_5, tn_6, tn_7, e64, e95, tL, ad1, ad2, ad3, ad4, t1, t2, t3, t4]
  refine ⟨v1, v2, ?_⟩
  refine law_c1 (op_row hI _ _) k_L_law_1174 o_X5_row rfl rfl rfl rfl ?_
  intro w M1 rm hrm f64 f95 hK
  rw [e64] at f64
  rw [e95] at f95
  refine J_blk a_L_law_1177 ?_
  simp only [b_L_law_1177, w_aload_n2, w_aload_n0, w_iload_n3, w_iconst_1, w_iadd, w_ialdX, w_iconst_2, w_nil, Option.toList_some, Option.toList_none, List.cons_append, List.nil_append, true_and, and_true, if_true, if_false, true_or, or_true, Nat.reduceAdd, Int.reduceAdd, Bool.false_eq_true, tn_0, tn_1, tn_2, tn_3, tn_4, tn_5, tn_6, tn_7, f64, f95, tL, ad1, ad2, ad3, ad4, t1, t2, t3, t4]
  refine ⟨v1, v2, ?_⟩
  refine law_c2 hK hrm k_L_law_1188 o_X6_row rfl rfl rfl rfl (Nat.le_of_ble_eq_true rfl) ?_
  intro M2 m2 hI2 g64 g95
  refine J_blk a_L_law_1191 ?_
  simp only [b_L_law_1191, w_icmp_eq, w_nil, Option.toList_some, Option.toList_none, List.cons_append, List.nil_append, true_and, and_true, if_true, if_false, true_or, or_true, Nat.reduceAdd, Int.reduceAdd, Bool.false_eq_true, tn_0, tn_1, tn_2, tn_3, tn_4, tn_5, tn_6, tn_7]
  exact ⟨fun _ => nxt M2 m2 ⟨hI2, g64.trans f64, g95.trans f95, hL, hi⟩, fun c => absurd trivial c⟩
theorem lc_32 (h : LI M m xs L i) (nxt : ∀ M2 m2, LI M2 m2 xs L i → J 21 mL_law 1635 [some (.ref 64), some (.ref 0), some (.ref 46), some (.int (nI i))] [] M2 PL) : J 21 mL_law 1196 [some (.ref 64), some (.ref 0), some (.ref 46), some (.int (nI i))] [] M PL := by
  obtain ⟨hI, e64, e95, hL, hi⟩ := h
  obtain ⟨tL, t1, t2, t3, t4, v1, v2, v3, v4⟩ := li_f (L := L) (i := i) hL hi
  refine J_blk a_L_law_1196 ?_
  simp only [b_L_law_1196, w_aload_n1, w_aload_n0, w_iload_n3, w_iconst_1, w_iadd, w_ialdX, w_iconst_2, w_iconst_3, w_nil, Option.toList_some, Option.toList_none, List.cons_append, List.nil_append, true_and, and_true, if_true, if_false, true_or, or_true, Nat.reduceAdd, Int.reduceAdd, Bool.false_eq_true, tn_0, tn_1, tn_2, tn_3, tn_4, tn_5, tn_6, tn_7, e64, e95, tL, ad1, ad2, ad3, ad4, t1, t2, t3, t4]
  refine ⟨v1, v2, v3, ?_⟩
  refine law_c1 (op_alterRow hI _ _ _) k_L_law_1212 o_X5_alterRow rfl rfl rfl rfl ?_
  intro w M1 rm hrm f64 f95 hK
  rw [e64] at f64
  rw [e95] at f95
  refine J_blk a_L_law_1215 ?_
  simp only [b_L_law_1215, w_aload_n2, w_aload_n0, w_iload_n3, w_iconst_1, w_iadd, w_ialdX, w_iconst_2, w_iconst_3, w_nil, Option.toList_some, Option.toList_none, List.cons_append, List.nil_append, true_and, and_true, if_true, if_false, true_or, or_true, Nat.reduceAdd, Int.reduceAdd, Bool.false_eq_true, tn_0, tn_1, tn_2, tn_3, tn_4, tn_5, tn_6, tn_7, f64, f95, tL, ad1, ad2, ad3, ad4, t1, t2, t3, t4]
  refine ⟨v1, v2, v3, ?_⟩
  refine law_c2 hK hrm k_L_law_1231 o_X6_alterRow rfl rfl rfl rfl (Nat.le_of_ble_eq_true rfl) ?_
  intro M2 m2 hI2 g64 g95
  refine J_blk a_L_law_1234 ?_
  simp only [b_L_law_1234, w_icmp_eq, w_nil, Option.toList_some, Option.toList_none, List.cons_append, List.nil_append, true_and, and_true, if_true, if_false, true_or, or_true, Nat.reduceAdd, Int.reduceAdd, Bool.false_eq_true, tn_0, tn_1, tn_2, tn_3, tn_4, tn_5, tn_6, tn_7]
  exact ⟨fun _ => nxt M2 m2 ⟨hI2, g64.trans f64, g95.trans f95, hL, hi⟩, fun c => absurd trivial c⟩
theorem lc_33 (h : LI M m xs L i) (nxt : ∀ M2 m2, LI M2 m2 xs L i → J 21 mL_law 1635 [some (.ref 64), some (.ref 0), some (.ref 46), some (.int (nI i))] [] M2 PL) : J 21 mL_law 1239 [some (.ref 64), some (.ref 0), some (.ref 46), some (.int (nI i))] [] M PL := by
  obtain ⟨hI, e64, e95, hL, hi⟩ := h
  obtain ⟨tL, t1, t2, t3, t4, v1, v2, v3, v4⟩ := li_f (L := L) (i := i) hL hi
  refine J_blk a_L_law_1239 ?_
  simp only [b_L_law_1239, w_aload_n1, w_aload_n0, w_iload_n3, w_iconst_1, w_iadd, w_ialdX, w_nil, Option.toList_some, Option.toList_none, List.cons_append, List.nil_append, true_and, and_true, if_true, if_false, true_or, or_true, Nat.reduceAdd, Int.reduceAdd, Bool.false_eq_true, tn_0, tn_1, tn_2, tn_3, tn_4, tn_5, tn_6, tn_7, e64, e95, tL, ad1, ad2, ad3, ad4, t1, t2, t3, t4]
  refine ⟨v1, ?_⟩
  refine law_c1 (op_judge hI _) k_L_law_1245 o_X5_judge rfl rfl rfl rfl ?_
  intro w M1 rm hrm f64 f95 hK
  rw [e64] at f64
  rw [e95] at f95
  refine J_blk a_L_law_1248 ?_
  simp only [b_L_law_1248, w_aload_n2, w_aload_n0, w_iload_n3, w_iconst_1, w_iadd, w_ialdX, w_nil, Option.toList_some, Option.toList_none, List.cons_append, List.nil_append, true_and, and_true, if_true, if_false, true_or, or_true, Nat.reduceAdd, Int.reduceAdd, Bool.false_eq_true, tn_0, tn_1, tn_2, tn_3, tn_4, tn_5, tn_6, tn_7, f64, f95, tL, ad1, ad2, ad3, ad4, t1, t2, t3, t4]
  refine ⟨v1, ?_⟩
  refine law_c2 hK hrm k_L_law_1254 o_X6_judge rfl rfl rfl rfl (Nat.le_of_ble_eq_true rfl) ?_
  intro M2 m2 hI2 g64 g95
  refine J_blk a_L_law_1257 ?_
  simp only [b_L_law_1257, w_icmp_eq, w_nil, Option.toList_some, Option.toList_none, List.cons_append, List.nil_append, true_and, and_true, if_true, if_false, true_or, or_true, Nat.reduceAdd, Int.reduceAdd, Bool.false_eq_true, tn_0, tn_1, tn_2, tn_3, tn_4, tn_5, tn_6, tn_7]
  exact ⟨fun _ => nxt M2 m2 ⟨hI2, g64.trans f64, g95.trans f95, hL, hi⟩, fun c => absurd trivial c⟩
theorem lc_34 (h : LI M m xs L i) (nxt : ∀ M2 m2, LI M2 m2 xs L i → J 21 mL_law 1635 [some (.ref 64), some (.ref 0), some (.ref 46), some (.int (nI i))] [] M2 PL) : J 21 mL_law 1262 [some (.ref 64), some (.ref 0), some (.ref 46), some (.int (nI i))] [] M PL := by
  obtain ⟨hI, e64, e95, hL, hi⟩ := h
  obtain ⟨tL, t1, t2, t3, t4, v1, v2, v3, v4⟩ := li_f (L := L) (i := i) hL hi
  refine J_blk a_L_law_1262 ?_
  simp only [b_L_law_1262, w_aload_n1, w_aload_n0, w_iload_n3, w_iconst_1, w_iadd, w_ialdX, w_iconst_2, w_iconst_3, w_iconst_4, w_nil, Option.toList_some, Option.toList_none, List.cons_append, List.nil_append, true_and, and_true, if_true, if_false, true_or, or_true, Nat.reduceAdd, Int.reduceAdd, Bool.false_eq_true, tn_0, tn_1, tn_2, tn_3, tn_4, tn_5, tn_6, tn_7, e64, e95, tL, ad1, ad2, ad3, ad4, t1, t2, t3, t4]
  refine ⟨v1, v2, v3, v4, ?_⟩
  refine law_c1 (op_minds hI _ _ _ _) k_L_law_1283 o_X5_minds rfl rfl rfl rfl ?_
  intro w M1 rm hrm f64 f95 hK
  rw [e64] at f64
  rw [e95] at f95
  refine J_blk a_L_law_1286 ?_
  simp only [b_L_law_1286, w_aload_n2, w_aload_n0, w_iload_n3, w_iconst_1, w_iadd, w_ialdX, w_iconst_2, w_iconst_3, w_iconst_4, w_nil, Option.toList_some, Option.toList_none, List.cons_append, List.nil_append, true_and, and_true, if_true, if_false, true_or, or_true, Nat.reduceAdd, Int.reduceAdd, Bool.false_eq_true, tn_0, tn_1, tn_2, tn_3, tn_4, tn_5, tn_6, tn_7, f64, f95, tL, ad1, ad2, ad3, ad4, t1, t2, t3, t4]
  refine ⟨v1, v2, v3, v4, ?_⟩
  refine law_c2 hK hrm k_L_law_1307 o_X6_minds rfl rfl rfl rfl (Nat.le_of_ble_eq_true rfl) ?_
  intro M2 m2 hI2 g64 g95
  refine J_blk a_L_law_1310 ?_
  simp only [b_L_law_1310, w_icmp_eq, w_nil, Option.toList_some, Option.toList_none, List.cons_append, List.nil_append, true_and, and_true, if_true, if_false, true_or, or_true, Nat.reduceAdd, Int.reduceAdd, Bool.false_eq_true, tn_0, tn_1, tn_2, tn_3, tn_4, tn_5, tn_6, tn_7]
  exact ⟨fun _ => nxt M2 m2 ⟨hI2, g64.trans f64, g95.trans f95, hL, hi⟩, fun c => absurd trivial c⟩
theorem lc_35 (h : LI M m xs L i) (nxt : ∀ M2 m2, LI M2 m2 xs L i → J 21 mL_law 1635 [some (.ref 64), some (.ref 0), some (.ref 46), some (.int (nI i))] [] M2 PL) : J 21 mL_law 1315 [some (.ref 64), some (.ref 0), some (.ref 46), some (.int (nI i))] [] M PL := by
  obtain ⟨hI, e64, e95, hL, hi⟩ := h
  obtain ⟨tL, t1, t2, t3, t4, v1, v2, v3, v4⟩ := li_f (L := L) (i := i) hL hi
  refine J_blk a_L_law_1315 ?_
  simp only [b_L_law_1315, w_aload_n1, w_aload_n0, w_iload_n3, w_iconst_1, w_iadd, w_ialdX, w_iconst_2, w_iconst_3, w_nil, Option.toList_some, Option.toList_none, List.cons_append, List.nil_append, true_and, and_true, if_true, if_false, true_or, or_true, Nat.reduceAdd, Int.reduceAdd, Bool.false_eq_true, tn_0, tn_1, tn_2, tn_3, tn_4, tn_5, tn_6, tn_7, e64, e95, tL, ad1, ad2, ad3, ad4, t1, t2, t3, t4]
  refine ⟨v1, v2, v3, ?_⟩
  refine law_c1 (op_sheet hI _ _ _) k_L_law_1331 o_X5_sheet rfl rfl rfl rfl ?_
  intro w M1 rm hrm f64 f95 hK
  rw [e64] at f64
  rw [e95] at f95
  refine J_blk a_L_law_1334 ?_
  simp only [b_L_law_1334, w_aload_n2, w_aload_n0, w_iload_n3, w_iconst_1, w_iadd, w_ialdX, w_iconst_2, w_iconst_3, w_nil, Option.toList_some, Option.toList_none, List.cons_append, List.nil_append, true_and, and_true, if_true, if_false, true_or, or_true, Nat.reduceAdd, Int.reduceAdd, Bool.false_eq_true, tn_0, tn_1, tn_2, tn_3, tn_4, tn_5, tn_6, tn_7, f64, f95, tL, ad1, ad2, ad3, ad4, t1, t2, t3, t4]
  refine ⟨v1, v2, v3, ?_⟩
  refine law_c2 hK hrm k_L_law_1350 o_X6_sheet rfl rfl rfl rfl (Nat.le_of_ble_eq_true rfl) ?_
  intro M2 m2 hI2 g64 g95
  refine J_blk a_L_law_1353 ?_
  simp only [b_L_law_1353, w_icmp_eq, w_nil, Option.toList_some, Option.toList_none, List.cons_append, List.nil_append, true_and, and_true, if_true, if_false, true_or, or_true, Nat.reduceAdd, Int.reduceAdd, Bool.false_eq_true, tn_0, tn_1, tn_2, tn_3, tn_4, tn_5, tn_6, tn_7]
  exact ⟨fun _ => nxt M2 m2 ⟨hI2, g64.trans f64, g95.trans f95, hL, hi⟩, fun c => absurd trivial c⟩
theorem lc_36 (h : LI M m xs L i) (nxt : ∀ M2 m2, LI M2 m2 xs L i → J 21 mL_law 1635 [some (.ref 64), some (.ref 0), some (.ref 46), some (.int (nI i))] [] M2 PL) : J 21 mL_law 1358 [some (.ref 64), some (.ref 0), some (.ref 46), some (.int (nI i))] [] M PL := by
  obtain ⟨hI, e64, e95, hL, hi⟩ := h
  obtain ⟨tL, t1, t2, t3, t4, v1, v2, v3, v4⟩ := li_f (L := L) (i := i) hL hi
  refine J_blk a_L_law_1358 ?_
  simp only [b_L_law_1358, w_aload_n1, w_aload_n0, w_iload_n3, w_iconst_1, w_iadd, w_ialdX, w_iconst_2, w_iconst_3, w_nil, Option.toList_some, Option.toList_none, List.cons_append, List.nil_append, true_and, and_true, if_true, if_false, true_or, or_true, Nat.reduceAdd, Int.reduceAdd, Bool.false_eq_true, tn_0, tn_1, tn_2, tn_3, tn_4, tn_5, tn_6, tn_7, e64, e95, tL, ad1, ad2, ad3, ad4, t1, t2, t3, t4]
  refine ⟨v1, v2, v3, ?_⟩
  refine law_c1 (op_put hI _ _ _) k_L_law_1374 o_X5_put rfl rfl rfl rfl ?_
  intro w M1 rm hrm f64 f95 hK
  rw [e64] at f64
  rw [e95] at f95
  refine J_blk a_L_law_1377 ?_
  simp only [b_L_law_1377, w_aload_n2, w_aload_n0, w_iload_n3, w_iconst_1, w_iadd, w_ialdX, w_iconst_2, w_iconst_3, w_nil, Option.toList_some, Option.toList_none, List.cons_append, List.nil_append, true_and, and_true, if_true, if_false, true_or, or_true, Nat.reduceAdd, Int.reduceAdd, Bool.false_eq_true, tn_0, tn_1, tn_2, tn_3, tn_4, tn_5, tn_6, tn_7, f64, f95, tL, ad1, ad2, ad3, ad4, t1, t2, t3, t4]
  refine ⟨v1, v2, v3, ?_⟩
  refine law_c2 hK hrm k_L_law_1393 o_X6_put rfl rfl rfl rfl (Nat.le_of_ble_eq_true rfl) ?_
  intro M2 m2 hI2 g64 g95
  refine J_blk a_L_law_1396 ?_
  simp only [b_L_law_1396, w_icmp_eq, w_nil, Option.toList_some, Option.toList_none, List.cons_append, List.nil_append, true_and, and_true, if_true, if_false, true_or, or_true, Nat.reduceAdd, Int.reduceAdd, Bool.false_eq_true, tn_0, tn_1, tn_2, tn_3, tn_4, tn_5, tn_6, tn_7]
  exact ⟨fun _ => nxt M2 m2 ⟨hI2, g64.trans f64, g95.trans f95, hL, hi⟩, fun c => absurd trivial c⟩
theorem lc_37 (h : LI M m xs L i) (nxt : ∀ M2 m2, LI M2 m2 xs L i → J 21 mL_law 1635 [some (.ref 64), some (.ref 0), some (.ref 46), some (.int (nI i))] [] M2 PL) : J 21 mL_law 1401 [some (.ref 64), some (.ref 0), some (.ref 46), some (.int (nI i))] [] M PL := by
  obtain ⟨hI, e64, e95, hL, hi⟩ := h
  obtain ⟨tL, t1, t2, t3, t4, v1, v2, v3, v4⟩ := li_f (L := L) (i := i) hL hi
  refine J_blk a_L_law_1401 ?_
  simp only [b_L_law_1401, w_aload_n1, w_aload_n0, w_iload_n3, w_iconst_1, w_iadd, w_ialdX, w_iconst_2, w_iconst_3, w_nil, Option.toList_some, Option.toList_none, List.cons_append, List.nil_append, true_and, and_true, if_true, if_false, true_or, or_true, Nat.reduceAdd, Int.reduceAdd, Bool.false_eq_true, tn_0, tn_1, tn_2, tn_3, tn_4, tn_5, tn_6, tn_7, e64, e95, tL, ad1, ad2, ad3, ad4, t1, t2, t3, t4]
  refine ⟨v1, v2, v3, ?_⟩
  refine law_c1 (op_item hI _ _ _) k_L_law_1417 o_X5_item rfl rfl rfl rfl ?_
  intro w M1 rm hrm f64 f95 hK
  rw [e64] at f64
  rw [e95] at f95
  refine J_blk a_L_law_1420 ?_
  simp only [b_L_law_1420, w_aload_n2, w_aload_n0, w_iload_n3, w_iconst_1, w_iadd, w_ialdX, w_iconst_2, w_iconst_3, w_nil, Option.toList_some, Option.toList_none, List.cons_append, List.nil_append, true_and, and_true, if_true, if_false, true_or, or_true, Nat.reduceAdd, Int.reduceAdd, Bool.false_eq_true, tn_0, tn_1, tn_2, tn_3, tn_4, tn_5, tn_6, tn_7, f64, f95, tL, ad1, ad2, ad3, ad4, t1, t2, t3, t4]
  refine ⟨v1, v2, v3, ?_⟩
  refine law_c2 hK hrm k_L_law_1436 o_X6_item rfl rfl rfl rfl (Nat.le_of_ble_eq_true rfl) ?_
  intro M2 m2 hI2 g64 g95
  refine J_blk a_L_law_1439 ?_
  simp only [b_L_law_1439, w_icmp_eq, w_nil, Option.toList_some, Option.toList_none, List.cons_append, List.nil_append, true_and, and_true, if_true, if_false, true_or, or_true, Nat.reduceAdd, Int.reduceAdd, Bool.false_eq_true, tn_0, tn_1, tn_2, tn_3, tn_4, tn_5, tn_6, tn_7]
  exact ⟨fun _ => nxt M2 m2 ⟨hI2, g64.trans f64, g95.trans f95, hL, hi⟩, fun c => absurd trivial c⟩
theorem lc_38 (h : LI M m xs L i) (nxt : ∀ M2 m2, LI M2 m2 xs L i → J 21 mL_law 1635 [some (.ref 64), some (.ref 0), some (.ref 46), some (.int (nI i))] [] M2 PL) : J 21 mL_law 1444 [some (.ref 64), some (.ref 0), some (.ref 46), some (.int (nI i))] [] M PL := by
  obtain ⟨hI, e64, e95, hL, hi⟩ := h
  obtain ⟨tL, t1, t2, t3, t4, v1, v2, v3, v4⟩ := li_f (L := L) (i := i) hL hi
  refine J_blk a_L_law_1444 ?_
  simp only [b_L_law_1444, w_aload_n1, w_aload_n0, w_iload_n3, w_iconst_1, w_iadd, w_ialdX, w_iconst_2, w_iconst_3, w_nil, Option.toList_some, Option.toList_none, List.cons_append, List.nil_append, true_and, and_true, if_true, if_false, true_or, or_true, Nat.reduceAdd, Int.reduceAdd, Bool.false_eq_true, tn_0, tn_1, tn_2, tn_3, tn_4, tn_5, tn_6, tn_7, e64, e95, tL, ad1, ad2, ad3, ad4, t1, t2, t3, t4]
  refine ⟨v1, v2, v3, ?_⟩
  refine law_c1 (op_shelf hI _ _ _) k_L_law_1460 o_X5_shelf rfl rfl rfl rfl ?_
  intro w M1 rm hrm f64 f95 hK
  rw [e64] at f64
  rw [e95] at f95
  refine J_blk a_L_law_1463 ?_
  simp only [b_L_law_1463, w_aload_n2, w_aload_n0, w_iload_n3, w_iconst_1, w_iadd, w_ialdX, w_iconst_2, w_iconst_3, w_nil, Option.toList_some, Option.toList_none, List.cons_append, List.nil_append, true_and, and_true, if_true, if_false, true_or, or_true, Nat.reduceAdd, Int.reduceAdd, Bool.false_eq_true, tn_0, tn_1, tn_2, tn_3, tn_4, tn_5, tn_6, tn_7, f64, f95, tL, ad1, ad2, ad3, ad4, t1, t2, t3, t4]
  refine ⟨v1, v2, v3, ?_⟩
  refine law_c2 hK hrm k_L_law_1479 o_X6_shelf rfl rfl rfl rfl (Nat.le_of_ble_eq_true rfl) ?_
  intro M2 m2 hI2 g64 g95
  refine J_blk a_L_law_1482 ?_
  simp only [b_L_law_1482, w_icmp_eq, w_nil, Option.toList_some, Option.toList_none, List.cons_append, List.nil_append, true_and, and_true, if_true, if_false, true_or, or_true, Nat.reduceAdd, Int.reduceAdd, Bool.false_eq_true, tn_0, tn_1, tn_2, tn_3, tn_4, tn_5, tn_6, tn_7]
  exact ⟨fun _ => nxt M2 m2 ⟨hI2, g64.trans f64, g95.trans f95, hL, hi⟩, fun c => absurd trivial c⟩
theorem lc_39 (h : LI M m xs L i) (nxt : ∀ M2 m2, LI M2 m2 xs L i → J 21 mL_law 1635 [some (.ref 64), some (.ref 0), some (.ref 46), some (.int (nI i))] [] M2 PL) : J 21 mL_law 1487 [some (.ref 64), some (.ref 0), some (.ref 46), some (.int (nI i))] [] M PL := by
  obtain ⟨hI, e64, e95, hL, hi⟩ := h
  obtain ⟨tL, t1, t2, t3, t4, v1, v2, v3, v4⟩ := li_f (L := L) (i := i) hL hi
  refine J_blk a_L_law_1487 ?_
  simp only [b_L_law_1487, w_aload_n1, w_aload_n0, w_iload_n3, w_iconst_1, w_iadd, w_ialdX, w_iconst_2, w_nil, Option.toList_some, Option.toList_none, List.cons_append, List.nil_append, true_and, and_true, if_true, if_false, true_or, or_true, Nat.reduceAdd, Int.reduceAdd, Bool.false_eq_true, tn_0, tn_1, tn_2, tn_3, tn_4, tn_5, tn_6, tn_7, e64, e95, tL, ad1, ad2, ad3, ad4, t1, t2, t3, t4]
  refine ⟨v1, v2, ?_⟩
  refine law_c1 (op_taken hI _ _) k_L_law_1498 o_X5_taken rfl rfl rfl rfl ?_
  intro w M1 rm hrm f64 f95 hK
  rw [e64] at f64
  rw [e95] at f95
  refine J_blk a_L_law_1501 ?_
  simp only [b_L_law_1501, w_aload_n2, w_aload_n0, w_iload_n3, w_iconst_1, w_iadd, w_ialdX, w_iconst_2, w_nil, Option.toList_some, Option.toList_none, List.cons_append, List.nil_append, true_and, and_true, if_true, if_false, true_or, or_true, Nat.reduceAdd, Int.reduceAdd, Bool.false_eq_true, tn_0, tn_1, tn_2, tn_3, tn_4, tn_5, tn_6, tn_7, f64, f95, tL, ad1, ad2, ad3, ad4, t1, t2, t3, t4]
  refine ⟨v1, v2, ?_⟩
  refine law_c2 hK hrm k_L_law_1512 o_X6_taken rfl rfl rfl rfl (Nat.le_of_ble_eq_true rfl) ?_
  intro M2 m2 hI2 g64 g95
  refine J_blk a_L_law_1515 ?_
  simp only [b_L_law_1515, w_icmp_eq, w_nil, Option.toList_some, Option.toList_none, List.cons_append, List.nil_append, true_and, and_true, if_true, if_false, true_or, or_true, Nat.reduceAdd, Int.reduceAdd, Bool.false_eq_true, tn_0, tn_1, tn_2, tn_3, tn_4, tn_5, tn_6, tn_7]
  exact ⟨fun _ => nxt M2 m2 ⟨hI2, g64.trans f64, g95.trans f95, hL, hi⟩, fun c => absurd trivial c⟩
theorem lc_40 (h : LI M m xs L i) (nxt : ∀ M2 m2, LI M2 m2 xs L i → J 21 mL_law 1635 [some (.ref 64), some (.ref 0), some (.ref 46), some (.int (nI i))] [] M2 PL) : J 21 mL_law 1520 [some (.ref 64), some (.ref 0), some (.ref 46), some (.int (nI i))] [] M PL := by
  obtain ⟨hI, e64, e95, hL, hi⟩ := h
  obtain ⟨tL, t1, t2, t3, t4, v1, v2, v3, v4⟩ := li_f (L := L) (i := i) hL hi
  refine J_blk a_L_law_1520 ?_
  simp only [b_L_law_1520, w_aload_n1, w_aload_n0, w_iload_n3, w_iconst_1, w_iadd, w_ialdX, w_iconst_2, w_iconst_3, w_nil, Option.toList_some, Option.toList_none, List.cons_append, List.nil_append, true_and, and_true, if_true, if_false, true_or, or_true, Nat.reduceAdd, Int.reduceAdd, Bool.false_eq_true, tn_0, tn_1, tn_2, tn_3, tn_4, tn_5, tn_6, tn_7, e64, e95, tL, ad1, ad2, ad3, ad4, t1, t2, t3, t4]
  refine ⟨v1, v2, v3, ?_⟩
  refine law_c1 (op_act hI _ _ _) k_L_law_1536 o_X5_act rfl rfl rfl rfl ?_
  intro w M1 rm hrm f64 f95 hK
  rw [e64] at f64
  rw [e95] at f95
  refine J_blk a_L_law_1539 ?_
  simp only [b_L_law_1539, w_aload_n2, w_aload_n0, w_iload_n3, w_iconst_1, w_iadd, w_ialdX, w_iconst_2, w_iconst_3, w_nil, Option.toList_some, Option.toList_none, List.cons_append, List.nil_append, true_and, and_true, if_true, if_false, true_or, or_true, Nat.reduceAdd, Int.reduceAdd, Bool.false_eq_true, tn_0, tn_1, tn_2, tn_3, tn_4, tn_5, tn_6, tn_7, f64, f95, tL, ad1, ad2, ad3, ad4, t1, t2, t3, t4]
  refine ⟨v1, v2, v3, ?_⟩
  refine law_c2 hK hrm k_L_law_1555 o_X6_act rfl rfl rfl rfl (Nat.le_of_ble_eq_true rfl) ?_
  intro M2 m2 hI2 g64 g95
  refine J_blk a_L_law_1558 ?_
  simp only [b_L_law_1558, w_icmp_eq, w_nil, Option.toList_some, Option.toList_none, List.cons_append, List.nil_append, true_and, and_true, if_true, if_false, true_or, or_true, Nat.reduceAdd, Int.reduceAdd, Bool.false_eq_true, tn_0, tn_1, tn_2, tn_3, tn_4, tn_5, tn_6, tn_7]
  exact ⟨fun _ => nxt M2 m2 ⟨hI2, g64.trans f64, g95.trans f95, hL, hi⟩, fun c => absurd trivial c⟩
theorem lc_41 (h : LI M m xs L i) (nxt : ∀ M2 m2, LI M2 m2 xs L i → J 21 mL_law 1635 [some (.ref 64), some (.ref 0), some (.ref 46), some (.int (nI i))] [] M2 PL) : J 21 mL_law 1563 [some (.ref 64), some (.ref 0), some (.ref 46), some (.int (nI i))] [] M PL := by
  obtain ⟨hI, e64, e95, hL, hi⟩ := h
  obtain ⟨tL, t1, t2, t3, t4, v1, v2, v3, v4⟩ := li_f (L := L) (i := i) hL hi
  refine J_blk a_L_law_1563 ?_
  simp only [b_L_law_1563, w_aload_n1, w_aload_n0, w_iload_n3, w_iconst_1, w_iadd, w_ialdX, w_nil, Option.toList_some, Option.toList_none, List.cons_append, List.nil_append, true_and, and_true, if_true, if_false, true_or, or_true, Nat.reduceAdd, Int.reduceAdd, Bool.false_eq_true, tn_0, tn_1, tn_2, tn_3, tn_4, tn_5, tn_6, tn_7, e64, e95, tL, ad1, ad2, ad3, ad4, t1, t2, t3, t4]
  refine ⟨v1, ?_⟩
  refine law_c1 (op_trace hI _) k_L_law_1569 o_X5_trace rfl rfl rfl rfl ?_
  intro w M1 rm hrm f64 f95 hK
  rw [e64] at f64
  rw [e95] at f95
  refine J_blk a_L_law_1572 ?_
  simp only [b_L_law_1572, w_aload_n2, w_aload_n0, w_iload_n3, w_iconst_1, w_iadd, w_ialdX, w_nil, Option.toList_some, Option.toList_none, List.cons_append, List.nil_append, true_and, and_true, if_true, if_false, true_or, or_true, Nat.reduceAdd, Int.reduceAdd, Bool.false_eq_true, tn_0, tn_1, tn_2, tn_3, tn_4, tn_5, tn_6, tn_7, f64, f95, tL, ad1, ad2, ad3, ad4, t1, t2, t3, t4]
  refine ⟨v1, ?_⟩
  refine law_c2 hK hrm k_L_law_1578 o_X6_trace rfl rfl rfl rfl (Nat.le_of_ble_eq_true rfl) ?_
  intro M2 m2 hI2 g64 g95
  refine J_blk a_L_law_1581 ?_
  simp only [b_L_law_1581, w_icmp_eq, w_nil, Option.toList_some, Option.toList_none, List.cons_append, List.nil_append, true_and, and_true, if_true, if_false, true_or, or_true, Nat.reduceAdd, Int.reduceAdd, Bool.false_eq_true, tn_0, tn_1, tn_2, tn_3, tn_4, tn_5, tn_6, tn_7]
  exact ⟨fun _ => nxt M2 m2 ⟨hI2, g64.trans f64, g95.trans f95, hL, hi⟩, fun c => absurd trivial c⟩
theorem lc_42 (h : LI M m xs L i) (nxt : ∀ M2 m2, LI M2 m2 xs L i → J 21 mL_law 1635 [some (.ref 64), some (.ref 0), some (.ref 46), some (.int (nI i))] [] M2 PL) : J 21 mL_law 1586 [some (.ref 64), some (.ref 0), some (.ref 46), some (.int (nI i))] [] M PL := by
  obtain ⟨hI, e64, e95, hL, hi⟩ := h
  obtain ⟨tL, t1, t2, t3, t4, v1, v2, v3, v4⟩ := li_f (L := L) (i := i) hL hi
  refine J_blk a_L_law_1586 ?_
  simp only [b_L_law_1586, w_aload_n1, w_aload_n0, w_iload_n3, w_iconst_1, w_iadd, w_ialdX, w_nil, Option.toList_some, Option.toList_none, List.cons_append, List.nil_append, true_and, and_true, if_true, if_false, true_or, or_true, Nat.reduceAdd, Int.reduceAdd, Bool.false_eq_true, tn_0, tn_1, tn_2, tn_3, tn_4, tn_5, tn_6, tn_7, e64, e95, tL, ad1, ad2, ad3, ad4, t1, t2, t3, t4]
  refine ⟨v1, ?_⟩
  refine law_c1 (op_many hI _) k_L_law_1592 o_X5_many rfl rfl rfl rfl ?_
  intro w M1 rm hrm f64 f95 hK
  rw [e64] at f64
  rw [e95] at f95
  refine J_blk a_L_law_1595 ?_
  simp only [b_L_law_1595, w_aload_n2, w_aload_n0, w_iload_n3, w_iconst_1, w_iadd, w_ialdX, w_nil, Option.toList_some, Option.toList_none, List.cons_append, List.nil_append, true_and, and_true, if_true, if_false, true_or, or_true, Nat.reduceAdd, Int.reduceAdd, Bool.false_eq_true, tn_0, tn_1, tn_2, tn_3, tn_4, tn_5, tn_6, tn_7, f64, f95, tL, ad1, ad2, ad3, ad4, t1, t2, t3, t4]
  refine ⟨v1, ?_⟩
  refine law_c2 hK hrm k_L_law_1601 o_X6_many rfl rfl rfl rfl (Nat.le_of_ble_eq_true rfl) ?_
  intro M2 m2 hI2 g64 g95
  refine J_blk a_L_law_1604 ?_
  simp only [b_L_law_1604, w_icmp_eq, w_nil, Option.toList_some, Option.toList_none, List.cons_append, List.nil_append, true_and, and_true, if_true, if_false, true_or, or_true, Nat.reduceAdd, Int.reduceAdd, Bool.false_eq_true, tn_0, tn_1, tn_2, tn_3, tn_4, tn_5, tn_6, tn_7]
  exact ⟨fun _ => nxt M2 m2 ⟨hI2, g64.trans f64, g95.trans f95, hL, hi⟩, fun c => absurd trivial c⟩
theorem lc_43 (h : LI M m xs L i) (nxt : ∀ M2 m2, LI M2 m2 xs L i → J 21 mL_law 1635 [some (.ref 64), some (.ref 0), some (.ref 46), some (.int (nI i))] [] M2 PL) : J 21 mL_law 1609 [some (.ref 64), some (.ref 0), some (.ref 46), some (.int (nI i))] [] M PL := by
  obtain ⟨hI, e64, e95, hL, hi⟩ := h
  obtain ⟨tL, t1, t2, t3, t4, v1, v2, v3, v4⟩ := li_f (L := L) (i := i) hL hi
  refine J_blk a_L_law_1609 ?_
  simp only [b_L_law_1609, w_aload_n1, w_nil, Option.toList_some, Option.toList_none, List.cons_append, List.nil_append, true_and, and_true, if_true, if_false, true_or, or_true, Nat.reduceAdd, Int.reduceAdd, Bool.false_eq_true, tn_0, tn_1, tn_2, tn_3, tn_4, tn_5, tn_6, tn_7, e64, e95, tL, ad1, ad2, ad3, ad4, t1, t2, t3, t4]
  refine law_c1 (op_keep hI) k_L_law_1610 o_X5_keep rfl rfl rfl rfl ?_
  intro w M1 rm hrm f64 f95 hK
  rw [e64] at f64
  rw [e95] at f95
  refine J_blk a_L_law_1613 ?_
  simp only [b_L_law_1613, w_aload_n2, w_nil, Option.toList_some, Option.toList_none, List.cons_append, List.nil_append, true_and, and_true, if_true, if_false, true_or, or_true, Nat.reduceAdd, Int.reduceAdd, Bool.false_eq_true, tn_0, tn_1, tn_2, tn_3, tn_4, tn_5, tn_6, tn_7, f64, f95, tL, ad1, ad2, ad3, ad4, t1, t2, t3, t4]
  refine law_c2 hK hrm k_L_law_1614 o_X6_keep rfl rfl rfl rfl (Nat.le_of_ble_eq_true rfl) ?_
  intro M2 m2 hI2 g64 g95
  refine J_blk a_L_law_1617 ?_
  simp only [b_L_law_1617, w_icmp_eq, w_nil, Option.toList_some, Option.toList_none, List.cons_append, List.nil_append, true_and, and_true, if_true, if_false, true_or, or_true, Nat.reduceAdd, Int.reduceAdd, Bool.false_eq_true, tn_0, tn_1, tn_2, tn_3, tn_4, tn_5, tn_6, tn_7]
  exact ⟨fun _ => nxt M2 m2 ⟨hI2, g64.trans f64, g95.trans f95, hL, hi⟩, fun c => absurd trivial c⟩
theorem lc_44 (h : LI M m xs L i) (nxt : ∀ M2 m2, LI M2 m2 xs L i → J 21 mL_law 1635 [some (.ref 64), some (.ref 0), some (.ref 46), some (.int (nI i))] [] M2 PL) : J 21 mL_law 1622 [some (.ref 64), some (.ref 0), some (.ref 46), some (.int (nI i))] [] M PL := by
  obtain ⟨hI, e64, e95, hL, hi⟩ := h
  obtain ⟨tL, t1, t2, t3, t4, v1, v2, v3, v4⟩ := li_f (L := L) (i := i) hL hi
  refine J_blk a_L_law_1622 ?_
  simp only [b_L_law_1622, w_aload_n1, w_nil, Option.toList_some, Option.toList_none, List.cons_append, List.nil_append, true_and, and_true, if_true, if_false, true_or, or_true, Nat.reduceAdd, Int.reduceAdd, Bool.false_eq_true, tn_0, tn_1, tn_2, tn_3, tn_4, tn_5, tn_6, tn_7, e64, e95, tL, ad1, ad2, ad3, ad4, t1, t2, t3, t4]
  refine law_c1 (op_again hI) k_L_law_1623 o_X5_again rfl rfl rfl rfl ?_
  intro w M1 rm hrm f64 f95 hK
  rw [e64] at f64
  rw [e95] at f95
  refine J_blk a_L_law_1626 ?_
  simp only [b_L_law_1626, w_aload_n2, w_nil, Option.toList_some, Option.toList_none, List.cons_append, List.nil_append, true_and, and_true, if_true, if_false, true_or, or_true, Nat.reduceAdd, Int.reduceAdd, Bool.false_eq_true, tn_0, tn_1, tn_2, tn_3, tn_4, tn_5, tn_6, tn_7, f64, f95, tL, ad1, ad2, ad3, ad4, t1, t2, t3, t4]
  refine law_c2 hK hrm k_L_law_1627 o_X6_again rfl rfl rfl rfl (Nat.le_of_ble_eq_true rfl) ?_
  intro M2 m2 hI2 g64 g95
  refine J_blk a_L_law_1630 ?_
  simp only [b_L_law_1630, w_icmp_eq, w_nil, Option.toList_some, Option.toList_none, List.cons_append, List.nil_append, true_and, and_true, if_true, if_false, true_or, or_true, Nat.reduceAdd, Int.reduceAdd, Bool.false_eq_true, tn_0, tn_1, tn_2, tn_3, tn_4, tn_5, tn_6, tn_7]
  exact ⟨fun _ => nxt M2 m2 ⟨hI2, g64.trans f64, g95.trans f95, hL, hi⟩, fun c => absurd trivial c⟩
end LW
theorem law_loop {xs : Nat → Int32} {L : Nat} (hL : L ≤ 2560) : ∀ f i, L ≤ i + f → i ≤ L + 5 → ∀ (M : Mm) (m : Nat), IV M m → M.1 64 = xs → M.1 95 0 = nI L → J 21 mL_law 18 [some (.ref 64), some (.ref 0), some (.ref 46), some (.int (nI i))] [] M PL := by
  intro f
  induction f with
  | zero =>
    intro i hf hi M m hI e64 e95
    refine J_blk a_L_law_18 ?_
    simp only [b_L_law_18, w_iload_n3, w_aload_n0, w_alenX, w_iconst_5, w_isub, w_icmp_gt, w_nil, Option.toList_some, Option.toList_none, List.cons_append, List.nil_append, true_and, and_true, if_true, if_false, true_or, or_true, Nat.reduceAdd, Int.reduceAdd, Bool.false_eq_true, tn_0, tn_1, tn_2, tn_3, tn_4, tn_5, tn_6, tn_7, e95]
    refine ⟨fun _ => ?_, fun c => absurd (le5 hL hi c) (by omega)⟩
    refine J_blk a_L_law_1641 ?_
    simp only [b_L_law_1641, w_iconst_1, w_iretz, Option.toList_some, Option.toList_none, List.cons_append, List.nil_append, true_and, and_true, if_true, if_false, true_or, or_true, Nat.reduceAdd, Int.reduceAdd, Bool.false_eq_true, tn_0, tn_1, tn_2, tn_3, tn_4, tn_5, tn_6, tn_7]
    rfl
  | succ f ih =>
    intro i hf hi M m hI e64 e95
    refine J_blk a_L_law_18 ?_
    simp only [b_L_law_18, w_iload_n3, w_aload_n0, w_alenX, w_iconst_5, w_isub, w_icmp_gt, w_nil, Option.toList_some, Option.toList_none, List.cons_append, List.nil_append, true_and, and_true, if_true, if_false, true_or, or_true, Nat.reduceAdd, Int.reduceAdd, Bool.false_eq_true, tn_0, tn_1, tn_2, tn_3, tn_4, tn_5, tn_6, tn_7, e95]
    refine ⟨fun _ => ?_, fun c => ?_⟩
    · refine J_blk a_L_law_1641 ?_
      simp only [b_L_law_1641, w_iconst_1, w_iretz, Option.toList_some, Option.toList_none, List.cons_append, List.nil_append, true_and, and_true, if_true, if_false, true_or, or_true, Nat.reduceAdd, Int.reduceAdd, Bool.false_eq_true, tn_0, tn_1, tn_2, tn_3, tn_4, tn_5, tn_6, tn_7]
      rfl
    · have h5 : i + 5 ≤ L := le5 hL hi c
      have li : LI M m xs L i := ⟨hI, e64, e95, hL, h5⟩
      have nxt : ∀ M2 m2, LI M2 m2 xs L i → J 21 mL_law 1635 [some (.ref 64), some (.ref 0), some (.ref 46), some (.int (nI i))] [] M2 PL := by
        intro M2 m2 h2
        refine J_blk a_L_law_1635 ?_
        simp only [b_L_law_1635, w_iinc3, nl_3n, nl_3i, nl_3a, ci_5, w_goto, Option.toList_some, Option.toList_none, List.cons_append, List.nil_append, true_and, and_true, if_true, if_false, true_or, or_true, Nat.reduceAdd, Int.reduceAdd, Bool.false_eq_true, tn_0, tn_1, tn_2, tn_3, tn_4, tn_5, tn_6, tn_7, ad5]
        exact ih (i + 5) (by omega) (by omega) M2 m2 h2.1 h2.2.1 h2.2.2.1
      have ti : (nI i).toNatClampNeg = i := nI_clamp (by omega)
      have tL : (nI L).toNatClampNeg = L := nI_clamp (by omega)
      refine J_blk a_L_law_26 ?_
      simp only [b_L_law_26, w_aload_n0, w_iload_n3, w_ialdX, w_bipush, ci_63, w_iand, w_tsw, ci_0, ci_1, ci_2, ci_3, ci_4, ci_5, ci_6, ci_7, ci_8, ci_9, ci_10, ci_11, ci_12, ci_13, ci_14, ci_15, ci_16, ci_17, ci_18, ci_19, ci_20, ci_21, ci_22, ci_23, ci_24, ci_25, ci_26, ci_27, ci_28, ci_29, ci_30, ci_31, ci_32, ci_33, ci_34, ci_35, ci_36, ci_37, ci_38, ci_39, ci_40, ci_41, ci_42, ci_43, ci_44, Option.toList_some, Option.toList_none, List.cons_append, List.nil_append, true_and, and_true, if_true, if_false, true_or, or_true, Nat.reduceAdd, Int.reduceAdd, Bool.false_eq_true, tn_0, tn_1, tn_2, tn_3, tn_4, tn_5, tn_6, tn_7, e64, e95, tL, ti]
      refine ⟨vinN (by omega) (by omega), ?_⟩
      refine sw_any _ _ ?_ (nxt M m li)
      exact List.forall_mem_cons.mpr ⟨lc_0 li nxt, List.forall_mem_cons.mpr ⟨lc_1 li nxt, List.forall_mem_cons.mpr ⟨lc_2 li nxt, List.forall_mem_cons.mpr ⟨lc_3 li nxt, List.forall_mem_cons.mpr ⟨lc_4 li nxt, List.forall_mem_cons.mpr ⟨lc_5 li nxt, List.forall_mem_cons.mpr ⟨lc_6 li nxt, List.forall_mem_cons.mpr ⟨lc_7 li nxt, List.forall_mem_cons.mpr ⟨lc_8 li nxt, List.forall_mem_cons.mpr ⟨lc_9 li nxt, List.forall_mem_cons.mpr ⟨lc_10 li nxt, List.forall_mem_cons.mpr ⟨lc_11 li nxt, List.forall_mem_cons.mpr ⟨lc_12 li nxt, List.forall_mem_cons.mpr ⟨lc_13 li nxt, List.forall_mem_cons.mpr ⟨lc_14 li nxt, List.forall_mem_cons.mpr ⟨lc_15 li nxt, List.forall_mem_cons.mpr ⟨lc_16 li nxt, List.forall_mem_cons.mpr ⟨lc_17 li nxt, List.forall_mem_cons.mpr ⟨lc_18 li nxt, List.forall_mem_cons.mpr ⟨lc_19 li nxt, List.forall_mem_cons.mpr ⟨lc_20 li nxt, List.forall_mem_cons.mpr ⟨lc_21 li nxt, List.forall_mem_cons.mpr ⟨lc_22 li nxt, List.forall_mem_cons.mpr ⟨lc_23 li nxt, List.forall_mem_cons.mpr ⟨lc_24 li nxt, List.forall_mem_cons.mpr ⟨lc_25 li nxt, List.forall_mem_cons.mpr ⟨lc_26 li nxt, List.forall_mem_cons.mpr ⟨lc_27 li nxt, List.forall_mem_cons.mpr ⟨lc_28 li nxt, List.forall_mem_cons.mpr ⟨lc_29 li nxt, List.forall_mem_cons.mpr ⟨lc_30 li nxt, List.forall_mem_cons.mpr ⟨lc_31 li nxt, List.forall_mem_cons.mpr ⟨lc_32 li nxt, List.forall_mem_cons.mpr ⟨lc_33 li nxt, List.forall_mem_cons.mpr ⟨lc_34 li nxt, List.forall_mem_cons.mpr ⟨lc_35 li nxt, List.forall_mem_cons.mpr ⟨lc_36 li nxt, List.forall_mem_cons.mpr ⟨lc_37 li nxt, List.forall_mem_cons.mpr ⟨lc_38 li nxt, List.forall_mem_cons.mpr ⟨lc_39 li nxt, List.forall_mem_cons.mpr ⟨lc_40 li nxt, List.forall_mem_cons.mpr ⟨lc_41 li nxt, List.forall_mem_cons.mpr ⟨lc_42 li nxt, List.forall_mem_cons.mpr ⟨lc_43 li nxt, List.forall_mem_cons.mpr ⟨lc_44 li nxt, fun _ h => absurd h List.not_mem_nil⟩⟩⟩⟩⟩⟩⟩⟩⟩⟩⟩⟩⟩⟩⟩⟩⟩⟩⟩⟩⟩⟩⟩⟩⟩⟩⟩⟩⟩⟩⟩⟩⟩⟩⟩⟩⟩⟩⟩⟩⟩⟩⟩⟩⟩
