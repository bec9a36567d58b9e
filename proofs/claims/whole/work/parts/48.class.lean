/-! the class: a tree told -/
theorem cpy_cpN (f h : Nat → Int32) (k : Nat) : va_cpy f h 0 0 k = cpN f h k := by
  funext j
  unfold cpN
  by_cases q : j < k
  · rw [pk_cpy_in (by omega) (by omega), if_pos q]; congr 1; omega
  · rw [pk_cpy_out (by omega), if_neg q]
/-- a copy out of a static row -/
theorem J_cpyS {n : Nat} {mi : MI} {pc : Nat} {lv : LVs} {st : List Value} {M : Mm} {P : Option Value → Mm → Prop} {c1 k j : Nat} (z : ZM mi pc arraycopyName) (hn : 1 ≤ n) (hr : (st.map fun v => v.category).sum + (nativeFrameWords "java/lang/System" "arraycopy" 5 + 11) ≤ 60) (hj : j < 4) (ho1 : kd c1 = 7) (hk : k < 100) (h4 : k ≤ ln (60 + j)) (h5 : k ≤ ln c1) (h : J n mi (pc + 3) lv st (su M c1 (cpN (sv (60 + j)) (M.1 c1) k)) P) : J n mi pc lv (.int (nI k) :: .int 0 :: .ref c1 :: .int 0 :: .ref (60 + j) :: st) M P := by
  intro l p e R s m args below meth c g A cells slots Q X hret H locs ls hH hl
  obtain ⟨i, hd, hlk⟩ := z
  have hG := X.2.2.2.2.2.2.2.1
  have hfr := X.2.2.2.2.2.1
  have hlt1 : c1 < 60 := kd_lt (by omega)
  have hS := hH.2.1
  have hD := Hd.D X M
  have hw1 : (world g M)[c1]? = some (g.1 c1, .inl (g.2.2.1.1, ln c1, .inl (M.1 c1))) := by rw [world_at g M hlt1, ent_int g M ho1]
  have dst : H[g.1 c1]? = some (vp_cell g.2.2.1.1 (ln c1, .inl (M.1 c1))) := hH.1 c1 _ hw1
  obtain ⟨scr, s1, ⟨t0, kS, hkS, cS, hcS⟩, s3, s4, -, s5, s6⟩ := (hG.2.2.2.1 j hj).2
  have src : H[g.1 (60 + j)]? = some scr := by rw [hS.2.1 _ (Array.getElem?_eq_some_iff.mp s1).1 s6]; exact s1
  obtain ⟨-, kD, hkD, cD, hcD⟩ := (hG.1.2 0 _ rfl).1 (ln c1) (fun q => .int (M.1 c1 q))
  have ek : (nI k).toInt = (k : Int) := nI_toInt (by omega)
  have ec : (nI k).toNatClampNeg = k := nI_clamp (by omega)
  have e0 : (0 : Int32).toNatClampNeg = 0 := rfl
  intro T hT Y
  obtain ⟨vm', Y', go⟩ := Y.arraycopy X.1 X.2.2.2.1 (X.2.2.2.2.1 _ (gw_ws hlk)) (X.2.2.2.2.1 _ (gw_ws (in_gw 309 (by decide +kernel) rfl))) (X.2.2.2.2.1 _ (gw_ws (in_gw 308 (by decide +kernel) rfl))) (X.2.2.2.2.1 _ (gw_ws (in_gw 65 (by decide +kernel) rfl))) (src := g.1 (60 + j)) (dst := g.1 c1) (cs := scr) (cd := vp_cell g.2.2.1.1 (ln c1, .inl (M.1 c1))) (srcPos := 0) (destPos := 0) (n := nI k) (by rw [hT]; exact src) (by rw [hT]; exact dst) t0 (fun _ q => by cases q) s3 (fun q => by cases q) hkS hkD hcS hcD rfl (by decide) (by decide) (nI_pos (by omega))
    (by rw [ek]; show ¬ ((0 : Int) + k > scr.slots.size); omega)
    (by rw [ek]; show ¬ ((0 : Int) + k > ((arrV g.2.2.1.1 (ln c1) (fun q => .int (M.1 c1 q))).slots.size : Int)); rw [arrV_size]; omega)
    (fun _ _ q hq => by
      rw [ec] at hq
      have eq1 : scr.slots.getD ((0 : Int32).toNatClampNeg + q) .null = .int (sv (60 + j) (0 + q)) := by
        rw [Array.getD_eq_getD_getElem?, e0, s5 (0 + q) (by omega)]
        rfl
      rw [eq1]
      exact ⟨rfl, trivial⟩)
    (g := F0 m pc ls (.int (nI k) :: .int 0 :: .ref (g.1 c1) :: .int 0 :: .ref (g.1 (60 + j)) :: st.map (cv g))) rfl (hl.1.trans X.2.2.1.symm) (rest := st.map (cv g)) rfl (by rw [X.2.1]; exact hd) (by omega) (by rw [cv_sum]; show 2 * 0 + _ + _ ≤ _; omega)
  have ecp : copied scr (vp_cell g.2.2.1.1 (ln c1, .inl (M.1 c1))) 0 0 (nI k) = vp_cell g.2.2.1.1 (ln c1, .inl (cpN (sv (60 + j)) (M.1 c1) k)) := by
    rw [← cpy_cpN]
    have := va_copiedX (fun z => .int z) scr g.2.2.1.1 (n0 := ln (60 + j)) (n1 := ln c1) (sp := 0) (dp := 0) (n := k) (sv (60 + j)) (M.1 c1) s5 (by omega)
    show (vp_cell g.2.2.1.1 (ln c1, .inl (M.1 c1))).storeRun (0 : Int32).toNatClampNeg (scr.stretch (0 : Int32).toNatClampNeg (nI k).toNatClampNeg) = _
    rw [e0, ec]
    exact this
  rw [ecp] at Y' go
  have hlt : g.1 c1 < H.size := (Array.getElem?_eq_some_iff.mp dst).1
  have hheap : ((T.setVm vm').setCell (g.1 c1) (vp_cell g.2.2.1.1 (ln c1, .inl (cpN (sv (60 + j)) (M.1 c1) k)))).heap = H.setIfInBounds (g.1 c1) (vp_cell g.2.2.1.1 (ln c1, .inl (cpN (sv (60 + j)) (M.1 c1) k))) := by rw [← hT]; rfl
  have oq : ∀ q : Nat, q ≠ g.1 c1 → (H.setIfInBounds (g.1 c1) (vp_cell g.2.2.1.1 (ln c1, .inl (cpN (sv (60 + j)) (M.1 c1) k))))[q]? = H[q]? := fun q hq => by simp [Array.getElem?_setIfInBounds, Ne.symm hq]
  have at1 : va_at g.2.1 vwCl (g.1 c1, .inl (g.2.2.1.1, ln c1, .inl (cpN (sv (60 + j)) (M.1 c1) k))) (H.setIfInBounds (g.1 c1) (vp_cell g.2.2.1.1 (ln c1, .inl (cpN (sv (60 + j)) (M.1 c1) k)))) := by
    show (H.setIfInBounds (g.1 c1) (vp_cell g.2.2.1.1 (ln c1, .inl (cpN (sv (60 + j)) (M.1 c1) k))))[g.1 c1]? = some (vp_cell g.2.2.1.1 (ln c1, .inl (cpN (sv (60 + j)) (M.1 c1) k)))
    simp [Array.getElem?_setIfInBounds, hlt]
  have hP1 := hH.1.set hD hw1 at1 oq
  have ew : ent g (su M c1 (cpN (sv (60 + j)) (M.1 c1) k)) c1 = .inl (g.2.2.1.1, ln c1, .inl (cpN (sv (60 + j)) (M.1 c1) k)) := by rw [ent_int g _ ho1, su_at]
  have e2 := world_set g M (su M c1 (cpN (sv (60 + j)) (M.1 c1) k)) (c := c1) ew (fun q _ hq => by
    have f1 : (su M c1 (cpN (sv (60 + j)) (M.1 c1) k)).1 q = M.1 q := su_ne _ _ _ _ hq
    have f2 : fv g (su M c1 (cpN (sv (60 + j)) (M.1 c1) k)) q = fv g M q := by funext b; simp [fv, f1]
    unfold ent
    rw [f1, f2]
    rfl)
  have hP2 : va_P g.2.1 vwCl ((world g M).set c1 (g.1 c1, .inl (g.2.2.1.1, ln c1, .inl (cpN (sv (60 + j)) (M.1 c1) k)))) _ := hP1
  rw [e2] at hP2
  obtain ⟨t2, a1, b1⟩ := h l p e R s m args below meth c g A cells slots Q X hret _ _ ls ⟨hP2, ⟨by simp; exact hS.1, fun q g1 g2 => by
      rw [oq q (fun e => g2 (by rw [e]; exact hD.2 c1 _ hw1))]
      exact hS.2.1 q g1 g2, fun q hq => by
      rcases List.mem_append.mp hq with w | w
      · exact hS.2.2 q w
      · obtain ⟨z, -, hz⟩ := List.mem_map.mp w
        rw [← hz]
        exact hD.2 c1 _ hw1⟩, by rw [su_ne _ _ _ _ (by omega)]; exact hH.2.2.1, by rw [su_ne _ _ _ _ (by omega)]; exact hH.2.2.2⟩ hl _ hheap Y'
  exact ⟨t2, go t2 a1, b1⟩
theorem clear_c {M : Mm} {b : Nat} (hT : TB b) (s0 : Nat → Int32) : K 2 mX4_clear [.ref b] M (Rq none (fun M' => (∃ s, RX M' b s 0 ∧ ∀ j, j < 56 → j ≠ 2 → s j = begS s0 j) ∧ FB b M M')) := by
  have hb : b ≠ b + 1 := by omega
  refine K_go 0 o_X4_clear [] rfl (Nat.le_of_ble_eq_true rfl) ?_
  simp only [lvA_i, lvA_a, lvA_l, lvA_nil, List.cons_append, List.nil_append]
  refine J_blk a_X4_clear_0 ?_
  simp only [b_X4_clear_0, w_gets1, w_iconst_0, w_aload_n0, w_getf4, ne0_1, w_alen, w_nil, kb0 hT, kb1 hT, kb2 hT, kb3 hT, kb4 hT, kb5 hT, kb6 hT, kb7 hT, kb8 hT, lb1 hT, lb2 hT, lb3 hT, lb4 hT, lb5 hT, lb6 hT, lb7 hT, lb8 hT, Option.toList_some, Option.toList_none, List.cons_append, List.nil_append, true_and, and_true, if_true, if_false, true_or, or_true, Nat.reduceAdd, Int.reduceAdd, Bool.false_eq_true, tn_0, tn_1, tn_2, tn_3, tn_4, tn_5, tn_6, tn_7]
  refine J_cpyS (j := 1) (k := 4) z_X4_clear_14 (by decide) (Nat.le_of_ble_eq_true rfl) (by decide) (kb1 hT) (by decide) (by decide) (by rw [lb1 hT]; decide) ?_
  refine J_blk a_X4_clear_17 ?_
  simp only [b_X4_clear_17, w_aload_n0, w_iconst_0, w_putf4, w_vret, kb0 hT, kb1 hT, kb2 hT, kb3 hT, kb4 hT, kb5 hT, kb6 hT, kb7 hT, kb8 hT, lb1 hT, lb2 hT, lb3 hT, lb4 hT, lb5 hT, lb6 hT, lb7 hT, lb8 hT, Option.toList_some, Option.toList_none, List.cons_append, List.nil_append, true_and, and_true, if_true, if_false, true_or, or_true, Nat.reduceAdd, Int.reduceAdd, Bool.false_eq_true, tn_0, tn_1, tn_2, tn_3, tn_4, tn_5, tn_6, tn_7]
  refine ⟨rfl, ⟨fun j => if j = 2 then M.1 b 10 else begS s0 j, ⟨?_, ?_, ?_, ?_, ?_, fun j hj => ?_, fun o ho => absurd ho (by omega)⟩, fun j _ h2 => by simp [h2]⟩, ?_⟩
  · simp [u1, nI_0]
  · simp [u1, begS]
  · simp [u1, begS]
  · simp [u1, su]
  · simp [u1, bsF]
  · rw [u1_o _ _ _ _ (by omega), u1_o _ _ _ _ (by omega), u1_o _ _ _ _ (by omega), u1_o _ _ _ _ (by omega), su_at]
    rcases (show j = 0 ∨ j = 1 ∨ j = 2 ∨ j = 3 by omega) with rfl | rfl | rfl | rfl <;> rfl
  · exact (FB_su M _ (by omega)).trans ((FB_u1 _ _ _ (by omega)).trans ((FB_u1 _ _ _ (by omega)).trans ((FB_u1 _ _ _ (by omega)).trans (FB_u1 _ _ _ (by omega)))))

