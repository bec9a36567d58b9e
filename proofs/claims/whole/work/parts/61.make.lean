/-! making, on: calls of constructors, a clone, a row of rows -/
theorem nd_iff : ∀ l : List Nat, l.Nodup → va_nd l = true := by
  intro l
  induction l with
  | nil => intro _; rfl
  | cons a l ih =>
    intro h
    have := List.nodup_cons.mp h
    unfold va_nd
    rw [Bool.and_eq_true, decide_eq_true_eq]
    exact ⟨this.1, ih this.2⟩
theorem nd_range (n : Nat) : va_nd (List.range n) = true := nd_iff _ List.nodup_range
theorem at_last {α : Type} (x : α) (w : List α) (y : α) : [w.length + 1].map (fun i => (x :: (w ++ [y]))[i]?) = [y].map some := by simp
theorem at_rest {α : Type} (x : α) (w : List α) (y : α) : (List.range (w.length + 1)).map (fun i => (x :: (w ++ [y]))[i]?) = (x :: w).map some := by
  apply List.ext_getElem?
  intro i
  rw [List.getElem?_map, List.getElem?_map]
  by_cases h : i < w.length + 1
  · rw [List.getElem?_range h]
    simp only [Option.map_some]
    rw [← List.cons_append, List.getElem?_append_left (by simpa using h)]
    have : (x :: w)[i]? = some ((x :: w)[i]'(by simpa using h)) := List.getElem?_eq_getElem _
    rw [this]
    rfl
  · rw [List.getElem?_eq_none (by simp; omega), List.getElem?_eq_none (by simp; omega)]
    rfl
theorem arr_congr {cA : ClassId} {n : Nat} {f g : Nat → Value} (h : ∀ j, j < n → f j = g j) : arrV cA n f = arrV cA n g := by
  unfold arrV
  congr 2
  funext j
  exact h j.val j.isLt
theorem D_app {A : Nat → Prop} {ws N : va_W} {h : Nat} (hD : va_D A ws) (ho : ∀ (k : Nat) (q : Nat × va_E), ws[k]? = some q → q.1 < h) (hn : ∀ (k : Nat) (q : Nat × va_E), N[k]? = some q → q.1 = h + k) (hA : ∀ q, h ≤ q → A q) : va_D A (ws ++ N) := by
  refine ⟨fun i j x y hi hj e => ?_, fun k q hk => ?_⟩
  · by_cases h1 : i < ws.length
    · rw [List.getElem?_append_left h1] at hi
      by_cases h2 : j < ws.length
      · rw [List.getElem?_append_left h2] at hj
        exact hD.1 i j x y hi hj e
      · rw [List.getElem?_append_right (by omega)] at hj
        have := ho i x hi
        have := hn _ y hj
        omega
    · rw [List.getElem?_append_right (by omega)] at hi
      by_cases h2 : j < ws.length
      · rw [List.getElem?_append_left h2] at hj
        have := ho j y hj
        have := hn _ x hi
        omega
      · rw [List.getElem?_append_right (by omega)] at hj
        have := hn _ x hi
        have := hn _ y hj
        omega
  · by_cases h1 : k < ws.length
    · rw [List.getElem?_append_left h1] at hk
      exact hD.2 k q hk
    · rw [List.getElem?_append_right (by omega)] at hk
      have := hn _ q hk
      exact hA _ (by omega)
section NS
variable {p : Program} {l : Launch} {e : Env} {R : Room} {s : State} {m : MethodId} {args : Array Value} {below : List Frame} {meth : Method} {c : Code} {A : Nat → Prop} {D : va_G} {h0 : Nat} {Q : State → Prop} {pc : Nat} {st : List Value} {ci : Nat} {fs : List Value} {wr : va_W} {cells slots : Nat} {mi : MI} {cs : C3} {a61 : Nat}
theorem N_callI {mi' : MI} {cj n' mc ms idx q : Nat} {fs2 : List Value} {post : C3 → (Nat → Nat) → va_W} (X : Nx mi D cs a61 p R s m args meth c A) (hKC : KC mi' cj fs2 n' mc ms post) (hM : MOK mi' 0) (hnm : mi'.1.name = "<init>") (h1 : mi'.2.2.1 = 1) (hrt : mi'.2.2.2 = none) (hinst : Cond.instanceMethod mi'.1 ∈ gw) (hlk : Cond.methodLinkNest mi.1.cls idx mi'.1 "LastPruned" ∈ nestW) (hd : decode mi.2.1 pc = .ok (.invokespecial idx, 3)) (hroom : n' + 1 ≤ R.frames ∧ 20 + 60 * n' ≤ R.locals) (hw : (st.map fun v => v.category).sum ≤ 8) (hcs : cells + mc ≤ R.cells ∧ slots + ms ≤ R.slots) (k : ∀ a : Nat → Nat, a 0 = q → NW p l e R s m args below meth c A D h0 Q (pc + 3) st ci fs (wr ++ post cs a) (cells + mc) (slots + ms)) : NW p l e R s m args below meth c A D h0 Q pc (.ref q :: st) ci fs (wr ++ [(q, .inr (cj, fs2))]) cells slots := by
  intro H locs ls hP hD hS hl
  obtain ⟨hx, hb, hml, hown, hts, hin, hG, hA⟩ := id X
  have hC := at_last (h0, (.inr (ci, fs) : va_E)) wr (q, .inr (cj, fs2))
  have hR := at_rest (h0, (.inr (ci, fs) : va_E)) wr (q, .inr (cj, fs2))
  have hPc := hP.sub (ws' := [(q, .inr (cj, fs2))]) [wr.length + 1] (by simp)
  have hFc := va_free (wc := [(q, .inr (cj, fs2))]) hD hS hA [wr.length + 1] hC
  have hpre : PreS s H (va_Pc [.ref q] (fun U => U.heap.size = H.size ∧ va_P D vwCl [(q, .inr (cj, fs2))] U.heap ∧ GC D cs a61 (va_A [(q, .inr (cj, fs2))] H.size) U U.heap)) [.ref q] := by
    refine ⟨fun a U g mk z => ?_, fun U hU hW => ⟨rfl, by rw [hU], by rw [hU]; exact hPc, ?_⟩⟩
    · obtain ⟨z1, z2, z3, z4⟩ := z
      exact ⟨z1, z2, z3, GC.same (u := U) rfl z4⟩
    · rw [hU]
      exact (GC.moved hW hG).kept hS.2.1 hFc
  have hrun := va_runIN (e := e) (below := below) (meth := meth) (locs := locs) (As := []) (rest := st) (g := F0 m pc ls (.ref q :: st)) ⟨hx, hb, hml, hown, hts⟩ (hKC l D cs a61 q H.size) ⟨va_cnB (bytes := mi'.2.1) (maxL := 1) (ret := none) (ws' := gw) 0 hts (gi hM.1) (by unfold wsM; rw [h1, hrt]) rfl rfl (hG.2.1 _ hlk) (hts _ (gw_ws hM.2.1)) hM.2.2.1 ⟨hroom.1, by show 8 + (1 + 11) + 60 * n' ≤ _; omega⟩, hnm, hts _ (gw_ws hinst)⟩ hpre rfl rfl hl.1 rfl (lv_room hw) hd hcs
  refine va_callv hrun hS (fun q' _ h => hFc q' h) hFc (fun u t H1 locs1 ht hvm hw hB hz1 hk1 hS1 => ?_)
  obtain ⟨hP1, hD1⟩ := hB
  rw [ht] at hP1
  obtain ⟨hP2, hD2⟩ := va_join (wr := (h0, .inr (ci, fs)) :: wr) (w1 := post cs u) hP hD [wr.length + 1] (List.range (wr.length + 1)) hC hR (nd_range _) (fun i hi h => by simp at hi h; omega) hk1 hFc hP1 hD1
  exact k u hw H1 locs1 ls hP2 hD2 hS1 hl
theorem N_gets (X : Nx mi D cs a61 p R s m args meth c A) {idx : Nat} (hd : decode mi.2.1 pc = .ok (.getstatic idx, 3)) (hlk : Cond.fieldLinkNest mi.1.cls idx "LastPruned" "LAW_AT_FIRST" "[I" "LastPruned" ∈ nestW) (k : NW p l e R s m args below meth c A D h0 Q (pc + 3) (.ref a61 :: st) ci fs wr cells slots) : NW p l e R s m args below meth c A D h0 Q pc st ci fs wr cells slots := by
  intro H locs ls hP hD hS hl
  exact va_getsN X.1 X.2.1 X.2.2.2.2.2.2.1.2.2.1 hS X.2.2.2.1 (va_Nw.use rfl (X.2.2.2.2.2.2.1.2.1 _ hlk)) (fun _ h9 => h9) hd (k H locs ls hP hD hS hl)
theorem N_castA (X : Nx mi D cs a61 p R s m args meth c A) {idx q N : Nat} {f : Nat → Int32} (hd : decode mi.2.1 pc = .ok (.checkcast idx, 3)) (hlk : Cond.classLink mi.1.cls idx "[I" ∈ gw) (k : NW p l e R s m args below meth c A D h0 Q (pc + 3) (.ref q :: st) ci fs (wr ++ [(q, .inl (cs.1, N, .inl f))]) cells slots) : NW p l e R s m args below meth c A D h0 Q pc (.ref q :: st) ci fs (wr ++ [(q, .inl (cs.1, N, .inl f))]) cells slots := by
  intro H locs ls hP hD hS hl
  exact va_castA X.1 X.2.1 X.2.2.2.1 (X.2.2.2.2.1 _ (gw_ws hlk)) hP (wr.length + 1) (cA := cs.1) (x := (N, .inl f)) (by simp) (va_nm_int (X.2.2.2.2.2.2.1.1.2 0 _ rfl).2) hd (k H locs ls hP hD hS hl)
theorem N_clone (X : Nx mi D cs a61 p R s m args meth c A) {idx : Nat} (hd : decode mi.2.1 pc = .ok (.invokevirtual idx, 3)) (hlk : Cond.methodLink mi.1.cls idx ⟨"[I", "clone", "()Ljava/lang/Object;"⟩ ∈ gw) (hf : 1 ≤ R.frames) (hlo : 30 ≤ R.locals) (hw : (st.map fun v => v.category).sum ≤ 8) (hc : cells + 1 ≤ R.cells) (hs : slots + 4 ≤ R.slots) (k : ∀ q, NW p l e R s m args below meth c A D h0 Q (pc + 3) (.ref q :: st) ci fs (wr ++ [(q, .inl (cs.1, 4, .inl (sv 61)))]) (cells + 1) (slots + 4)) : NW p l e R s m args below meth c A D h0 Q pc (.ref a61 :: st) ci fs wr cells slots := by
  intro H locs ls hP hD hS hl
  obtain ⟨hx, hb, hml, hown, hts, hin, hG, hA⟩ := id X
  obtain ⟨cell, z1, z2, z3, z4, z5, z6⟩ := hG.2.2.2.1
  have hcell : H[a61]? = some cell := by rw [hS.2.1 a61 (Array.getElem?_eq_some_iff.mp z1).1 z6]; exact z1
  have hI := va_nm_int (hG.1.2 0 _ rfl).2
  obtain ⟨c0, t0, f1, f2, f3⟩ := Cond.castable_spec (va_Nw.use (A := args) rfl hG.2.2.2.2.1)
  cases hI.symm.trans f1
  obtain ⟨-, kS, hkS, cS, hkindS⟩ := (hG.1.2 0 _ rfl).1 4 (fun j => .int (sv 61 j))
  have hsz : cell.slots.size = 4 := by rw [z5]; exact arrV_size _ _ _
  intro T hT Y
  obtain ⟨kT, hkT, eT⟩ := Y.warmed.alike.2.2 _ _ hkS
  obtain ⟨vm', Y', go⟩ := Y.cloneArray hx hown (hts _ (gw_ws hlk)) (hts _ (gw_ws (in_gw 90 (by decide +kernel) rfl))) (hts _ (gw_ws (in_gw 91 (by decide +kernel) rfl))) (hts _ (gw_ws (in_gw 92 (by decide +kernel) rfl))) (hts _ (gw_ws (in_gw 93 (by decide +kernel) rfl))) (a := a61) (cell := cell) (by rw [hT]; exact hcell) z2 z3 (by rw [z4]; exact hI) f2 (by rw [z4]; exact f3)
    (fun i v hv => by
      rw [z5] at hv
      have hi : i < 4 := by
        rcases Nat.lt_or_ge i 4 with h | h
        · exact h
        · rw [Array.getElem?_eq_none (by rw [arrV_size]; exact h)] at hv; cases hv
      rw [arrV_read _ _ hi] at hv
      cases hv
      rw [z4]
      have hk' : T.vm.classes[cs.1]? = some kT := hkT
      have hkd : kT.kind = .array cS .int := by rw [eT]; exact hkindS
      simp [State.fitsSlot, State.slotType?, hk', hkd]
      rfl)
    (g := F0 m pc ls (.ref a61 :: st)) rfl (hl.1.trans hml.symm) (rest := st) rfl (by rw [hb]; exact hd) hf (by show 2 * 0 + _ + 14 ≤ _; omega) hc (by rw [hsz]; exact hs) (hloader := by rw [z4]; exact Vm.clonesLoader_of_array hkS hkindS)
  have ecell : ({ cls := cell.cls, slots := cell.slots } : Cell) = arrV cs.1 4 (fun j => .int (sv 61 j)) := by rw [z4, z5]; rfl
  rw [ecell, hsz] at Y'
  rw [ecell] at go
  have hlt : ∀ (k : Nat) (q : Nat × va_E), ((h0, (.inr (ci, fs) : va_E)) :: wr)[k]? = some q → q.1 < H.size := fun k q hq => (hP k q hq).lt
  have e1 : (H.push (arrV cs.1 4 (fun j => .int (sv 61 j))))[H.size]? = some (arrV cs.1 4 (fun j => .int (sv 61 j))) := Array.getElem?_push_size
  have o1 : ∀ q : Nat, q < H.size → (H.push (arrV cs.1 4 (fun j => .int (sv 61 j))))[q]? = H[q]? := fun q hq => by rw [Array.getElem?_push, if_neg (Nat.ne_of_lt hq)]
  have hP1 : va_P D vwCl (((h0, .inr (ci, fs)) :: wr) ++ [(H.size, .inl (cs.1, 4, .inl (sv 61)))]) (H.push (arrV cs.1 4 (fun j => .int (sv 61 j)))) := (hP.kept (fun k q hq => o1 q.1 (hlt k q hq))).app (fun k y hy => by
    have hz : k < 1 := (List.getElem?_eq_some_iff.mp hy).1
    rw [show k = 0 by omega] at hy
    cases hy
    exact e1)
  have hD1 : va_D A (((h0, .inr (ci, fs)) :: wr) ++ [(H.size, .inl (cs.1, 4, .inl (sv 61)))]) := D_app hD hlt (fun k q hq => by
    have hz : k < 1 := (List.getElem?_eq_some_iff.mp hq).1
    rw [show k = 0 by omega] at hq
    cases hq
    show H.size = H.size + k
    omega) (fun q hq => hA q (Nat.le_trans hS.1 hq))
  obtain ⟨t, a1, b1⟩ := k H.size (H.push (arrV cs.1 4 (fun j => .int (sv 61 j)))) locs ls hP1 hD1 ⟨by rw [Array.size_push]; exact Nat.le_trans hS.1 (by omega), fun y g1 g2 => (o1 y (Nat.lt_of_lt_of_le g1 hS.1)).trans (hS.2.1 y g1 g2), hS.2.2⟩ hl _ (by rw [← hT]; rfl) Y'
  refine ⟨t, go t ?_, b1⟩
  rw [hT]
  exact a1
def N5 (cs : C3) (q : Nat → Nat) : va_W := [(q 0, .inl (cs.2.2, 4, .inr (.inr (.inr (.inr (fun i => some (q (1 + i)))))))), (q 1, .inl (cs.2.1, 40, .inr (.inl (fun _ => 0)))), (q 2, .inl (cs.2.1, 40, .inr (.inl (fun _ => 0)))), (q 3, .inl (cs.2.1, 40, .inr (.inl (fun _ => 0)))), (q 4, .inl (cs.2.1, 40, .inr (.inl (fun _ => 0))))]
theorem N_multi (X : Nx mi D cs a61 p R s m args meth c A) {idx : Nat} (hd : decode mi.2.1 pc = .ok (.multianewarray idx 2, 4)) (hlk : Cond.classLink mi.1.cls idx "[[J" ∈ gw) (hc : cells + 5 ≤ R.cells) (hs : slots + 164 ≤ R.slots) (k : ∀ q : Nat → Nat, NW p l e R s m args below meth c A D h0 Q (pc + 4) (.ref (q 0) :: st) ci fs (wr ++ N5 cs q) (cells + 5) (slots + 164)) : NW p l e R s m args below meth c A D h0 Q pc (.int 40 :: .int 4 :: st) ci fs wr cells slots := by
  intro H locs ls hP hD hS hl
  obtain ⟨hx, hb, hml, hown, hts, hin, hG, hA⟩ := id X
  have hL : s.vm.findClass "[[J" = some cs.2.2 := by
    have h1 : s.vm.findClass ("[" ++ (FieldType.array .long).toString) = some cs.2.2 := (hG.1.2 2 _ rfl).2
    rw [show "[" ++ (FieldType.array .long).toString = "[[J" by decide +kernel] at h1
    exact h1
  obtain ⟨kL, hkL, hkindL⟩ := hG.2.2.2.2.2
  obtain ⟨-, kJ, hkJ, cc, hkindJ⟩ := (hG.1.2 1 _ rfl).1 40 (fun _ => .long 0)
  have hlt : ∀ (k : Nat) (q : Nat × va_E), ((h0, (.inr (ci, fs) : va_E)) :: wr)[k]? = some q → q.1 < H.size := fun k q hq => (hP k q hq).lt
  intro T hT Y
  obtain ⟨vm₁, L, hw1, hbL, Y4, go⟩ := multi_S Y hx hown (hts _ (gw_ws hlk)) hL hkL hkindL hkJ hkindJ (g := F0 m pc ls (.int 40 :: .int 4 :: st)) rfl (by rw [hb]; exact hd) rfl hc hs
  have hT1 : (T.setVm vm₁).heap = H := hT
  have zs : ∀ i, (mst (T.setVm vm₁) cs.2.2 cs.2.1 i).heap.size = H.size + 1 + i := fun i => by rw [mst_size, hT1]
  have zo : ∀ a, a < H.size → (mst (T.setVm vm₁) cs.2.2 cs.2.1 4).heap[a]? = H[a]? := fun a ha => by rw [mst_old (by rw [hT1]; exact ha), hT1]
  have zt : (mst (T.setVm vm₁) cs.2.2 cs.2.1 4).heap[H.size]? = some (mo H.size cs.2.2 4) := by
    have := mst_top (T := T.setVm vm₁) (cL := cs.2.2) (cJ := cs.2.1) 4
    rw [hT1] at this
    exact this
  have zi : ∀ j, j < 4 → (mst (T.setVm vm₁) cs.2.2 cs.2.1 4).heap[H.size + 1 + j]? = some (arrV cs.2.1 40 (fun _ => .long 0)) := fun j hj => by
    have := mst_in (T := T.setVm vm₁) (cL := cs.2.2) (cJ := cs.2.1) (j := j) 4 hj
    rw [hT1] at this
    exact this
  have emo : mo H.size cs.2.2 4 = arrV cs.2.2 4 (fun j => va_rf (some (H.size + (1 + j)))) := by
    unfold mo
    refine arr_congr (fun j hj => ?_)
    rw [if_pos hj, show H.size + (1 + j) = H.size + 1 + j by omega]
    rfl
  have hP1 : va_P D vwCl (((h0, .inr (ci, fs)) :: wr) ++ N5 cs (fun i => H.size + i)) (mst (T.setVm vm₁) cs.2.2 cs.2.1 4).heap := (hP.kept (fun k q hq => zo q.1 (hlt k q hq))).app (fun k y hy => by
    have hz : k < 5 := (List.getElem?_eq_some_iff.mp hy).1
    rcases (show k = 0 ∨ k = 1 ∨ k = 2 ∨ k = 3 ∨ k = 4 by omega) with rfl | rfl | rfl | rfl | rfl <;> cases hy
    · show (mst (T.setVm vm₁) cs.2.2 cs.2.1 4).heap[H.size + 0]? = some (arrV cs.2.2 4 (fun j => va_rf (some (H.size + (1 + j)))))
      rw [← emo]
      exact zt
    · exact zi 0 (by omega)
    · exact zi 1 (by omega)
    · exact zi 2 (by omega)
    · exact zi 3 (by omega))
  have hD1 : va_D A (((h0, .inr (ci, fs)) :: wr) ++ N5 cs (fun i => H.size + i)) := D_app hD hlt (fun k q hq => by
    have hz : k < 5 := (List.getElem?_eq_some_iff.mp hq).1
    rcases (show k = 0 ∨ k = 1 ∨ k = 2 ∨ k = 3 ∨ k = 4 by omega) with rfl | rfl | rfl | rfl | rfl <;> cases hq <;> rfl) (fun q hq => hA q (Nat.le_trans hS.1 hq))
  obtain ⟨t, a1, b1⟩ := k (fun i => H.size + i) _ (locs ++ L) ls hP1 hD1 ⟨by rw [zs]; exact Nat.le_trans hS.1 (by omega), fun y g1 g2 => (zo y (Nat.lt_of_lt_of_le g1 hS.1)).trans (hS.2.1 y g1 g2), fun q hq => by
      rcases List.mem_append.mp hq with h | h
      · exact hS.2.2 q h
      · rw [hbL q h, hT]
        exact hA _ hS.1⟩ hl _ rfl Y4
  refine ⟨t, go t ?_, b1⟩
  rw [hT]
  exact a1
end NS

