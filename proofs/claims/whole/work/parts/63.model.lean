/-! the model's constructor -/
def w2 (cs : C3) (h0 q : Nat) (fs : List Value) (f : Nat → Int32) : va_W := [(h0, .inr (6, fs)), (q, .inl (cs.1, 56, .inl f))]
def Bx (D : va_G) (cs : C3) (p : Program) (s : State) (m : MethodId) (args : Array Value) (c : Code) : Prop :=
  p.tables.exec = Jvm.exec ∧ c.code = mX6_begins.2.1 ∧ s.vm.findClass mX6_begins.1.cls = some m.cls ∧ (∀ w ∈ wsM mX6_begins, w.before args s = true) ∧ va_K D vwCl (TYs cs) s
def BW (p : Program) (l : Launch) (e : Env) (R : Room) (s : State) (m : MethodId) (args : Array Value) (below : List Frame) (meth : Method) (c : Code) (A : Nat → Prop) (D : va_G) (cs : C3) (h0 q : Nat) (fs : List Value) (Q : State → Prop) (pc : Nat) (st : List Value) (lv : List (Nat × Value)) (f : Nat → Int32) : Prop :=
  ∀ (H : Heap) (locs : List Loc) (ls : Array Slot), va_P D vwCl (w2 cs h0 q fs f) H → va_D A (w2 cs h0 q fs f) → va_S A s.heap H locs → lv_has ls 3 lv → W p l e R s m args below meth c H locs 0 0 Q (F0 m pc ls st)
section BR
variable {p : Program} {l : Launch} {e : Env} {R : Room} {s : State} {m : MethodId} {args : Array Value} {below : List Frame} {meth : Method} {c : Code} {A : Nat → Prop} {D : va_G} {cs : C3} {h0 q : Nat} {fs : List Value} {Q : State → Prop} {pc : Nat} {st : List Value} {lv : List (Nat × Value)} {f : Nat → Int32}
theorem B_s (X : Bx D cs p s m args c) (hq : fs[0]? = some (.ref q)) (k0 : Nat) (h0l : lv[k0]? = some (0, .ref h0)) (hd : decode mX6_begins.2.1 pc = .ok (.aload_n 0, 1)) (hd2 : decode mX6_begins.2.1 (pc + 1) = .ok (.getfield 7, 3)) (k : BW p l e R s m args below meth c A D cs h0 q fs Q (pc + 4) (.ref q :: st) lv f) : BW p l e R s m args below meth c A D cs h0 q fs Q pc st lv f := by
  intro H locs ls hP hD hS hl
  have hc : vwCl[6]? = some (RX6, TX6, 26) := rfl
  obtain ⟨-, -, hin, -, -⟩ := cls_all hc
  refine lv_aload_n X.1 X.2.1 hd rfl (lv_at hl k0 h0l) ?_
  exact va_get (D := D) (ci := 6) (C := RX6) (T := TX6) (N := 26) X.1 X.2.1 X.2.2.2.1 (fun w hw => gw_ws (hin w hw)) X.2.2.1 X.2.2.2.2 hP 0 rfl hc 0 (by decide) (X.2.2.2.1 _ (gw_ws (in_gw 851 (by decide +kernel) rfl))) (fun _ h9 => h9) (v := .ref q) hq hd2 (k H locs ls hP hD hS hl)
theorem B_ic {n : Int} {v : Int32} (X : Bx D cs p s m args c) (hd : decode mX6_begins.2.1 pc = .ok (.iconst n, 1)) (hv : Int32.ofInt n = v) (k : BW p l e R s m args below meth c A D cs h0 q fs Q (pc + 1) (.int v :: st) lv f) : BW p l e R s m args below meth c A D cs h0 q fs Q pc st lv f := by
  intro H locs ls hP hD hS hl
  exact lv_iconst X.1 X.2.1 hd hv (k H locs ls hP hD hS hl)
theorem B_bi {n : Int} {v : Int32} (X : Bx D cs p s m args c) (hd : decode mX6_begins.2.1 pc = .ok (.bipush n, 2)) (hv : (Int8.ofInt n).toInt32 = v) (k : BW p l e R s m args below meth c A D cs h0 q fs Q (pc + 2) (.int v :: st) lv f) : BW p l e R s m args below meth c A D cs h0 q fs Q pc st lv f := by
  intro H locs ls hP hD hS hl
  exact lv_bipush X.1 X.2.1 hd hv (k H locs ls hP hD hS hl)
theorem B_il {i : Fin 4} {v : Int32} (X : Bx D cs p s m args c) (k0 : Nat) (h0l : lv[k0]? = some ((i : Nat), .int v)) (hd : decode mX6_begins.2.1 pc = .ok (.iload_n i, 1)) (k : BW p l e R s m args below meth c A D cs h0 q fs Q (pc + 1) (.int v :: st) lv f) : BW p l e R s m args below meth c A D cs h0 q fs Q pc st lv f := by
  intro H locs ls hP hD hS hl
  exact lv_iload_n X.1 X.2.1 hd rfl (lv_at hl k0 h0l) (k H locs ls hP hD hS hl)
theorem B_is {i : Fin 4} {v : Int32} {lv' : List (Nat × Value)} (X : Bx D cs p s m args c) (hi : (i : Nat) < 3) (hlv : ((i : Nat), Value.int v) :: lv.filter (fun q => !(q.1 == (i : Nat)) && !(q.1 + 1 == (i : Nat) && q.2.category == 2)) = lv') (hd : decode mX6_begins.2.1 pc = .ok (.istore_n i, 1)) (k : BW p l e R s m args below meth c A D cs h0 q fs Q (pc + 1) st lv' f) : BW p l e R s m args below meth c A D cs h0 q fs Q pc (.int v :: st) lv f := by
  intro H locs ls hP hD hS hl
  exact lv_istore_n X.1 X.2.1 hd rfl hl hi hlv (fun ls' hl' => k H locs ls' hP hD hS hl')
theorem B_ld {i : Int32} (X : Bx D cs p s m args c) (hi : vp_in i 56) (hd : decode mX6_begins.2.1 pc = .ok (.iaload, 1)) (k : BW p l e R s m args below meth c A D cs h0 q fs Q (pc + 1) (.int (f i.toNatClampNeg) :: st) lv f) : BW p l e R s m args below meth c A D cs h0 q fs Q pc (.int i :: .ref q :: st) lv f := by
  intro H locs ls hP hD hS hl
  exact va_iald (D := D) X.1 X.2.1 X.2.2.2.2 hP 1 0 (cA := cs.1) (n := 56) (f := f) rfl rfl hi hd (k H locs ls hP hD hS hl)
theorem B_st {i x : Int32} (X : Bx D cs p s m args c) (hi : vp_in i 56) (hd : decode mX6_begins.2.1 pc = .ok (.iastore, 1)) (k : BW p l e R s m args below meth c A D cs h0 q fs Q (pc + 1) st lv (upd f i.toNatClampNeg x)) : BW p l e R s m args below meth c A D cs h0 q fs Q pc (.int x :: .int i :: .ref q :: st) lv f := by
  intro H locs ls hP hD hS hl
  exact va_iast (D := D) X.1 X.2.1 X.2.2.2.2 hP hD hS 1 0 (cA := cs.1) (n := 56) (f := f) rfl rfl hi hd (fun H1 locs1 hP1 hD1 hS1 => k H1 locs1 ls hP1 hD1 hS1 hl)
end BR
theorem begins_body {p : Program} {l : Launch} {e : Env} {R : Room} {s : State} {m : MethodId} {args : Array Value} {below : List Frame} {meth : Method} {c : Code} {A : Nat → Prop} {D : va_G} {cs : C3} {h0 q : Nat} {fs : List Value} {Q : State → Prop} {f : Nat → Int32} (X : Bx D cs p s m args c) (hq : fs[0]? = some (.ref q)) (hret : ∀ (pc : Nat) (H : Heap) (locs : List Loc) (ls : Array Slot), decode mX6_begins.2.1 pc = .ok (.return_, 1) → va_P D vwCl (w2 cs h0 q fs (begS f)) H → va_S A s.heap H locs → W p l e R s m args below meth c H locs 0 0 Q (F0 m pc ls [])) : BW p l e R s m args below meth c A D cs h0 q fs Q 0 [] [(0, .ref h0)] f := by
  have fin : ∀ (pc : Nat) (lv : List (Nat × Value)) (f' : Nat → Int32), f' = begS f → decode mX6_begins.2.1 pc = .ok (.return_, 1) → BW p l e R s m args below meth c A D cs h0 q fs Q pc [] lv f' := by
    intro pc lv f' hf hd H locs ls hP1 hD1 hS1 hl
    subst hf
    exact hret pc H locs ls hd hP1 hS1
  refine B_s X hq 0 rfl (by decide +kernel) (by decide +kernel) ?_
  refine B_ic (n := 2) (v := 2) X (by decide +kernel) rfl ?_
  refine B_ld X (vlit (by decide)) (by decide +kernel) ?_
  refine B_is (i := 1) X (by decide) rfl (by decide +kernel) ?_
  refine B_ic (n := 0) (v := 0) X (by decide +kernel) rfl ?_
  refine B_is (i := 2) X (by decide) rfl (by decide +kernel) ?_
  have key : ∀ k, k ≤ 56 → BW p l e R s m args below meth c A D cs h0 q fs Q 9 [] [(2, .int (nI k)), (1, .int (f 2)), (0, .ref h0)] (cpN (fun _ => 0) f k) := by
    refine down 56 ?_ ?_
    · refine B_il (i := 2) X 0 rfl (by decide +kernel) ?_
      refine B_bi (n := 56) (v := 56) X (by decide +kernel) rfl ?_
      intro H locs ls hP hD hS hl
      refine lv_icmp_ge X.1 X.2.1 (off := 16) (tgt := 28) (by decide +kernel) rfl (fun _ => ?_) (fun h => absurd (show (56 : Int32) ≤ nI 56 by decide) h)
      refine (?_ : BW p l e R s m args below meth c A D cs h0 q fs Q 28 [] [(2, .int (nI 56)), (1, .int (f 2)), (0, .ref h0)] (cpN (fun _ => 0) f 56)) H locs ls hP hD hS hl
      refine B_s X hq 2 rfl (by decide +kernel) (by decide +kernel) ?_
      refine B_ic (n := 2) (v := 2) X (by decide +kernel) rfl ?_
      refine B_il (i := 1) X 1 rfl (by decide +kernel) ?_
      refine B_st X (vlit (by decide)) (by decide +kernel) ?_
      refine B_s X hq 2 rfl (by decide +kernel) (by decide +kernel) ?_
      refine B_ic (n := 4) (v := 4) X (by decide +kernel) rfl ?_
      refine B_ic (n := 2) (v := 2) X (by decide +kernel) rfl ?_
      refine B_st X (vlit (by decide)) (by decide +kernel) ?_
      refine B_s X hq 2 rfl (by decide +kernel) (by decide +kernel) ?_
      refine B_ic (n := 5) (v := 5) X (by decide +kernel) rfl ?_
      refine B_ic (n := 1) (v := 1) X (by decide +kernel) rfl ?_
      refine B_st X (vlit (by decide)) (by decide +kernel) ?_
      refine B_s X hq 2 rfl (by decide +kernel) (by decide +kernel) ?_
      refine B_bi (n := 6) (v := 6) X (by decide +kernel) rfl ?_
      refine B_ic (n := 2) (v := 2) X (by decide +kernel) rfl ?_
      refine B_st X (vlit (by decide)) (by decide +kernel) ?_
      refine B_s X hq 2 rfl (by decide +kernel) (by decide +kernel) ?_
      refine B_bi (n := 7) (v := 7) X (by decide +kernel) rfl ?_
      refine B_bi (n := 20) (v := 20) X (by decide +kernel) rfl ?_
      refine B_st X (vlit (by decide)) (by decide +kernel) ?_
      refine fin _ _ _ ?_ (by decide +kernel)
      funext j
      simp only [upd, cpN, begS, show (2 : Int32).toNatClampNeg = 2 from rfl, show (4 : Int32).toNatClampNeg = 4 from rfl, show (5 : Int32).toNatClampNeg = 5 from rfl, show (6 : Int32).toNatClampNeg = 6 from rfl, show (7 : Int32).toNatClampNeg = 7 from rfl]
      by_cases h2 : j = 2
      · subst h2; simp
      · by_cases h4 : j = 4
        · subst h4; simp
        · by_cases h5 : j = 5
          · subst h5; simp
          · by_cases h6 : j = 6
            · subst h6; simp
            · by_cases h7 : j = 7
              · subst h7; simp
              · simp [h2, h4, h5, h6, h7]
    · intro k hk ih
      have ek : (nI k).toNatClampNeg = k := nI_clamp (by omega)
      refine B_il (i := 2) X 0 rfl (by decide +kernel) ?_
      refine B_bi (n := 56) (v := 56) X (by decide +kernel) rfl ?_
      intro H locs ls hP hD hS hl
      refine lv_icmp_ge X.1 X.2.1 (off := 16) (tgt := 28) (by decide +kernel) rfl (fun h => absurd h (nI_ge (b := 56) hk (by decide))) (fun _ => ?_)
      refine (?_ : BW p l e R s m args below meth c A D cs h0 q fs Q 15 [] [(2, .int (nI k)), (1, .int (f 2)), (0, .ref h0)] (cpN (fun _ => 0) f k)) H locs ls hP hD hS hl
      refine B_s X hq 2 rfl (by decide +kernel) (by decide +kernel) ?_
      refine B_il (i := 2) X 0 rfl (by decide +kernel) ?_
      refine B_ic (n := 0) (v := 0) X (by decide +kernel) rfl ?_
      refine B_st X (vinN hk (by decide)) (by decide +kernel) ?_
      rw [ek, show upd (cpN (fun _ => 0) f k) k 0 = cpN (fun _ => 0) f (k + 1) from cpN_step (fun _ => 0) f k]
      intro H locs ls hP hD hS hl
      refine lv_iinc (i := 2) (k := 0) (n := 1) (v := nI (k + 1)) X.1 X.2.1 (by decide +kernel) hl rfl (nI_1 k) (by decide) rfl (fun ls' hl' => ?_)
      refine lv_goto X.1 X.2.1 (off := -16) (tgt := 9) (by decide +kernel) rfl ?_
      exact ih H locs ls' hP hD hS hl'
  have := key 0 (by omega)
  rw [cpN_0] at this
  exact this
theorem begins_W (l : Launch) (D : va_G) (cs : C3) (h0 q : Nat) (fs : List Value) (f : Nat → Int32) (sz : Nat) (hq : fs[0]? = some (.ref q)) : Met l mX6_begins.1 (wsM mX6_begins) { frames := 0, cells := 0, slots := 0, locals := 0 } (va_Pc [.ref h0] (fun U => U.heap.size = sz ∧ va_P D vwCl (w2 cs h0 q fs f) U.heap ∧ va_D (va_A (w2 cs h0 q fs f) sz) (w2 cs h0 q fs f) ∧ va_K D vwCl (TYs cs) U)) (va_Qv (fun _ : Unit => True) (fun _ t => va_P D vwCl (w2 cs h0 q fs (begS f)) t.heap) (va_A (w2 cs h0 q fs f) sz)) 0 0 (va_A (w2 cs h0 q fs f) sz) := by
  refine Met.ofW (cc := mX6_begins.2.1) (maxL := 3) (ret := none) o_X6_begins.2.2.2.2 rfl ?_
  intro p e s m args below meth c s₁ B hml hv
  obtain ⟨rfl, rfl, hP, hD, hK⟩ := hv
  have hts := atoms_spec (ws := wsM mX6_begins) B.pre
  have hown : s.vm.findClass mX6_begins.1.cls = some m.cls := findClass_of_methodNamed B.named
  have hr := B.returns
  have hlocks := B.notSynchronized
  have hent := lv_entry ([.ref h0]) (n := 3) (Nat.le_of_ble_eq_true rfl)
  rw [lg_entry_eq]
  have X : Bx D cs p s m [.ref h0].toArray c := ⟨B.exec, B.bytes, hown, hts, hK⟩
  exact begins_body X hq (fun pc H locs ls hd hP1 hS1 => W.vret B.exec B.bytes hr (fun t ht hW => ⟨⟨(), rfl, trivial, by show va_P _ _ _ t.heap; rw [ht]; exact hP1⟩, hS1.F ht⟩) hS1.2.2 hd) s.heap [] _ hP hD va_S.rf hent
theorem nd_2 (n : Nat) : va_nd ((List.range n).map (fun i => i + 2)) = true := nd_iff _ (by unfold List.Nodup; rw [List.pairwise_map]; exact List.Pairwise.imp (fun h => by omega) List.nodup_range)
section NE
variable {p : Program} {l : Launch} {e : Env} {R : Room} {s : State} {m : MethodId} {args : Array Value} {below : List Frame} {meth : Method} {c : Code} {A : Nat → Prop} {D : va_G} {h0 : Nat} {Q : State → Prop} {fs : List Value} {wr2 : va_W} {cells slots : Nat} {cs : C3} {a61 : Nat}
theorem N_end {q : Nat} {f : Nat → Int32} (X : Nx mX6_init D cs a61 p R s m args meth c A) (hq : fs[0]? = some (.ref q)) (hroom : 1 ≤ R.frames ∧ 30 ≤ R.locals) (hcs : cells ≤ R.cells ∧ slots ≤ R.slots) (k : ∀ (H : Heap) (locs : List Loc) (ls : Array Slot), va_P D vwCl (wr2 ++ w2 cs h0 q fs (upd (begS f) 2 1)) H → va_D A (wr2 ++ w2 cs h0 q fs (upd (begS f) 2 1)) → va_S A s.heap H locs → W p l e R s m args below meth c H locs cells slots Q (F0 m 132 ls [])) : NW p l e R s m args below meth c A D h0 Q 122 [.ref h0] 6 fs ((q, .inl (cs.1, 56, .inl f)) :: wr2) cells slots := by
  intro H locs ls hP hD hS hl
  obtain ⟨hx, hb, hml, hown, hts, hin, hG, hA⟩ := id X
  have hc6 : vwCl[6]? = some (RX6, TX6, 26) := rfl
  obtain ⟨-, -, hin6, -, -⟩ := cls_all hc6
  have hC : [0, 1].map (fun i => ((h0, (.inr (6, fs) : va_E)) :: (q, .inl (cs.1, 56, .inl f)) :: wr2)[i]?) = (w2 cs h0 q fs f).map some := rfl
  have hR : ((List.range wr2.length).map (fun i => i + 2)).map (fun i => ((h0, (.inr (6, fs) : va_E)) :: (q, .inl (cs.1, 56, .inl f)) :: wr2)[i]?) = wr2.map some := by
    apply List.ext_getElem?
    intro i
    rcases Nat.lt_or_ge i wr2.length with h | h
    · simp [h]
    · rw [List.getElem?_eq_none (by simpa using h), List.getElem?_eq_none (by simpa using h)]
  have hPc := hP.sub (ws' := w2 cs h0 q fs f) [0, 1] rfl
  have hDc : va_D (va_A (w2 cs h0 q fs f) H.size) (w2 cs h0 q fs f) := ⟨(hD.sub [0, 1] (by decide) hC).1, fun k q hq => Or.inl ⟨k, q.2, hq⟩⟩
  have hFc := va_free (wc := w2 cs h0 q fs f) hD hS hA [0, 1] hC
  have hrecv := va_recv hG.1 hP (ci := 6) hc6 (q0 := 0) rfl
  have hpre : PreV s H mX6_begins.1.cls h0 (va_Pc [.ref h0] (fun U => U.heap.size = H.size ∧ va_P D vwCl (w2 cs h0 q fs f) U.heap ∧ va_D (va_A (w2 cs h0 q fs f) H.size) (w2 cs h0 q fs f) ∧ va_K D vwCl (TYs cs) U)) [] := by
    refine ⟨fun a U g mk z => ?_, hrecv, fun U hU hW => ⟨rfl, by rw [hU], by rw [hU]; exact hPc, hDc, va_K.moved hW.alike hG.1⟩⟩
    obtain ⟨z1, z2, z3, z4, z5⟩ := z
    exact ⟨z1, z2, z3, z4, va_K.moved (u := U) (Vm.Alike.refl _) z5⟩
  have hM := o_X6_begins
  obtain ⟨idx, hd, hlk, hins, hsel⟩ := (CV.of 49 847 849 9 (by decide +kernel) (by decide +kernel) (by decide +kernel) (by decide +kernel) : CV mX6_init 122 mX6_begins)
  have hrm : (0 : Nat) + 1 ≤ R.frames ∧ 8 + (3 + 11) + 0 ≤ R.locals := ⟨hroom.1, by omega⟩
  have hini := hts _ (gw_ws hM.2.1)
  have hw8 : 2 * (F0 m 122 ls [.ref h0]).monitorRoom + (([] : List Value).map fun v => v.category).sum ≤ 8 := lv_room (Nat.le_of_ble_eq_true rfl)
  have hrun : va_Run p l e R s m args below meth c H locs cells slots 0 0 (F0 m 122 ls [.ref h0]) [] (va_Qv (fun _ : Unit => True) (fun _ t => va_P D vwCl (w2 cs h0 q fs (begS f)) t.heap) (va_A (w2 cs h0 q fs f) H.size) [Value.ref h0].toArray) (va_A (w2 cs h0 q fs f) H.size) :=
    va_runV (As := []) ⟨hx, hb, hml, hown, hts⟩ (begins_W l D cs h0 q fs f H.size hq) ⟨callB_of 0 hts (gi hM.1) rfl rfl rfl hini (hts _ (gw_ws hlk)) hM.2.2.1 hrm, hts _ (gw_ws hins), hts _ (gw_ws hsel)⟩ hpre rfl rfl hl.1 rfl hw8 hd hcs
  refine va_callv hrun hS (fun q' _ h => hFc q' h) hFc (fun u t H1 locs1 ht hvm hw hB hz1 hk1 hS1 => ?_)
  have hP1 : va_P D vwCl (w2 cs h0 q fs (begS f)) H1 := by rw [← ht]; exact hB
  have hD1 : va_D (va_A (w2 cs h0 q fs f) H.size) (w2 cs h0 q fs (begS f)) := by
    refine ⟨fun i j x y hi hj e => ?_, fun k y hk => ?_⟩
    · have hi2 : i < 2 := (List.getElem?_eq_some_iff.mp hi).1
      have hj2 : j < 2 := (List.getElem?_eq_some_iff.mp hj).1
      rcases (show i = 0 ∨ i = 1 by omega) with rfl | rfl <;> rcases (show j = 0 ∨ j = 1 by omega) with rfl | rfl <;> first | rfl | (cases hi; cases hj; exact hDc.1 _ _ (h0, .inr (6, fs)) (q, .inl (cs.1, 56, .inl f)) rfl rfl e) | (cases hi; cases hj; exact hDc.1 _ _ (q, .inl (cs.1, 56, .inl f)) (h0, .inr (6, fs)) rfl rfl e)
    · have hk2 : k < 2 := (List.getElem?_eq_some_iff.mp hk).1
      rcases (show k = 0 ∨ k = 1 by omega) with rfl | rfl <;> cases hk
      · exact Or.inl ⟨0, _, rfl⟩
      · exact Or.inl ⟨1, _, rfl⟩
  obtain ⟨hP2, hD2⟩ := va_join (wr := wr2) (w1 := w2 cs h0 q fs (begS f)) hP hD [0, 1] ((List.range wr2.length).map (fun i => i + 2)) hC hR (nd_2 _) (fun i hi h => by simp at hi h; omega) hk1 hFc hP1 hD1
  have e0 : (wr2 ++ w2 cs h0 q fs (begS f))[wr2.length]? = some (h0, .inr (6, fs)) := by simp [w2]
  have e1 : (wr2 ++ w2 cs h0 q fs (begS f))[wr2.length + 1]? = some (q, .inl (cs.1, 56, .inl (begS f))) := by simp [w2]
  have e2 : (wr2 ++ w2 cs h0 q fs (begS f)).set (wr2.length + 1) (q, .inl (cs.1, 56, .inl (upd (begS f) 2 1))) = wr2 ++ w2 cs h0 q fs (upd (begS f) 2 1) := by simp [w2, List.set_append]
  refine lv_aload_n hx hb (show decode mX6_init.2.1 125 = .ok (.aload_n 0, 1) by decide +kernel) rfl (lv_at hl 0 rfl) ?_
  refine va_get (index := 7) (D := D) (ci := 6) (C := RX6) (T := TX6) (N := 26) hx hb hts (fun w hw => gw_ws (hin6 w hw)) hown hG.1 hP2 wr2.length e0 hc6 0 (by decide) (hts _ (gw_ws (in_gw 851 (by decide +kernel) rfl))) (fun _ h9 => h9) (v := .ref q) hq (by decide +kernel) ?_
  refine lv_iconst (n := 2) (v := 2) hx hb (by decide +kernel) rfl ?_
  refine lv_iconst (n := 1) (v := 1) hx hb (by decide +kernel) rfl ?_
  refine va_iast (D := D) hx hb hG.1 hP2 hD2 hS1 (wr2.length + 1) 0 (cA := cs.1) (n := 56) (f := begS f) e1 rfl (vlit (by decide)) (by decide +kernel) (fun H3 locs3 hP3 hD3 hS3 => ?_)
  have hP4 : va_P D vwCl (wr2 ++ w2 cs h0 q fs (upd (begS f) 2 1)) H3 := by rw [← e2]; exact hP3
  have hD4 : va_D A (wr2 ++ w2 cs h0 q fs (upd (begS f) 2 1)) := by rw [← e2]; exact hD3
  exact k H3 locs3 ls hP4 hD4 hS3
end NE

def mdW (cs : C3) (a : Nat → Nat) : va_W := [(a 2, .inl (cs.1, 56, .inl (fun _ => 0))), (a 3, .inl (cs.1, 56, .inl (fun _ => 0))), (a 4, .inl (cs.1, 56, .inl (fun _ => 0))), (a 5, .inl (cs.1, 200, .inl (fun _ => 0))), (a 6, .inl (cs.1, 30, .inl (fun _ => 0))), (a 7, .inl (cs.1, 4, .inl m1R)), (a 8, .inl (cs.1, 4, .inl (fun _ => 0))), (a 9, .inl (cs.1, 160, .inl (fun _ => 0))), (a 10, .inl (cs.1, 4, .inl (fun _ => 0))), (a 11, .inl (cs.1, 4, .inl (fun _ => 0))), (a 12, .inl (cs.1, 4, .inl (fun _ => 0))), (a 13, .inl (cs.1, 30, .inl (fun _ => 0)))] ++ w2 cs (a 0) (a 1) [.ref (a 1), .ref (a 2), .ref (a 3), .ref (a 4), .int 0, .ref (a 5), .int 0, .int 0, .int 0, .int 0, .int 0, .int 0, .ref (a 6), .int 0, .ref (a 7), .ref (a 8), .ref (a 9), .ref (a 10), .ref (a 11), .ref (a 12), .ref (a 13), .int 0, .int 0, .int 0, .int 0, .int 0] (upd (begS (fun _ => 0)) 2 1)
theorem init_6 : KC mX6_init 6 [.null, .null, .null, .null, .int 0, .null, .int 0, .int 0, .int 0, .int 0, .int 0, .int 0, .null, .int 0, .null, .null, .null, .null, .null, .null, .null, .int 0, .int 0, .int 0, .int 0, .int 0] 3 13 664 mdW := by
  refine KC_go 0 o_X6_init rfl rfl rfl ?_
  intro p l e s m args below meth c A D cs a61 h0 Q X hret
  refine N_al X (by decide +kernel) ?_
  refine N_obj (idx := 1) X (by decide +kernel) (in_gw 846 (by decide +kernel) rfl) (Nat.le_of_ble_eq_true rfl) (Nat.le_of_ble_eq_true rfl) ?_
  refine N_al X (by decide +kernel) ?_
  refine N_bi (n := 56) (v := 56) X (by decide +kernel) rfl ?_
  refine N_newi (N := 56) X (by decide +kernel) rfl (by decide) (by decide) (Nat.le_of_ble_eq_true rfl) (Nat.le_of_ble_eq_true rfl) (fun q1 => ?_)
  refine N_putF (z := 7) (k := 0) X (by decide +kernel) rfl (by decide) (in_gw 851 (by decide +kernel) rfl) rfl rfl rfl rfl rfl (Nat.le_of_ble_eq_true rfl) ?_
  refine N_al X (by decide +kernel) ?_
  refine N_bi (n := 56) (v := 56) X (by decide +kernel) rfl ?_
  refine N_newi (N := 56) X (by decide +kernel) rfl (by decide) (by decide) (Nat.le_of_ble_eq_true rfl) (Nat.le_of_ble_eq_true rfl) (fun q2 => ?_)
  refine N_putF (z := 13) (k := 1) X (by decide +kernel) rfl (by decide) (in_gw 852 (by decide +kernel) rfl) rfl rfl rfl rfl rfl (Nat.le_of_ble_eq_true rfl) ?_
  refine N_al X (by decide +kernel) ?_
  refine N_bi (n := 56) (v := 56) X (by decide +kernel) rfl ?_
  refine N_newi (N := 56) X (by decide +kernel) rfl (by decide) (by decide) (Nat.le_of_ble_eq_true rfl) (Nat.le_of_ble_eq_true rfl) (fun q3 => ?_)
  refine N_putF (z := 16) (k := 2) X (by decide +kernel) rfl (by decide) (in_gw 853 (by decide +kernel) rfl) rfl rfl rfl rfl rfl (Nat.le_of_ble_eq_true rfl) ?_
  refine N_al X (by decide +kernel) ?_
  refine N_bi (n := 56) (v := 56) X (by decide +kernel) rfl ?_
  refine N_newi (N := 56) X (by decide +kernel) rfl (by decide) (by decide) (Nat.le_of_ble_eq_true rfl) (Nat.le_of_ble_eq_true rfl) (fun q4 => ?_)
  refine N_putF (z := 19) (k := 3) X (by decide +kernel) rfl (by decide) (in_gw 854 (by decide +kernel) rfl) rfl rfl rfl rfl rfl (Nat.le_of_ble_eq_true rfl) ?_
  refine N_al X (by decide +kernel) ?_
  refine N_si (n := 200) (v := 200) X (by decide +kernel) rfl ?_
  refine N_newi (N := 200) X (by decide +kernel) rfl (by decide) (by decide) (Nat.le_of_ble_eq_true rfl) (Nat.le_of_ble_eq_true rfl) (fun q5 => ?_)
  refine N_putF (z := 22) (k := 5) X (by decide +kernel) rfl (by decide) (in_gw 856 (by decide +kernel) rfl) rfl rfl rfl rfl rfl (Nat.le_of_ble_eq_true rfl) ?_
  refine N_al X (by decide +kernel) ?_
  refine N_bi (n := 30) (v := 30) X (by decide +kernel) rfl ?_
  refine N_newi (N := 30) X (by decide +kernel) rfl (by decide) (by decide) (Nat.le_of_ble_eq_true rfl) (Nat.le_of_ble_eq_true rfl) (fun q6 => ?_)
  refine N_putF (z := 25) (k := 12) X (by decide +kernel) rfl (by decide) (in_gw 863 (by decide +kernel) rfl) rfl rfl rfl rfl rfl (Nat.le_of_ble_eq_true rfl) ?_
  refine N_al X (by decide +kernel) ?_
  refine N_ic (n := 4) (v := 4) X (by decide +kernel) rfl ?_
  refine N_newi (N := 4) X (by decide +kernel) rfl (by decide) (by decide) (Nat.le_of_ble_eq_true rfl) (Nat.le_of_ble_eq_true rfl) (fun q7 => ?_)
  refine N_dup X (by decide +kernel) ?_
  refine N_ic (n := 0) (v := 0) X (by decide +kernel) rfl ?_
  refine N_ic (n := -1) (v := -1) X (by decide +kernel) rfl ?_
  refine N_iast X (by decide +kernel) (vlit (by decide)) ?_
  refine N_dup X (by decide +kernel) ?_
  refine N_ic (n := 1) (v := 1) X (by decide +kernel) rfl ?_
  refine N_ic (n := -1) (v := -1) X (by decide +kernel) rfl ?_
  refine N_iast X (by decide +kernel) (vlit (by decide)) ?_
  refine N_dup X (by decide +kernel) ?_
  refine N_ic (n := 2) (v := 2) X (by decide +kernel) rfl ?_
  refine N_ic (n := -1) (v := -1) X (by decide +kernel) rfl ?_
  refine N_iast X (by decide +kernel) (vlit (by decide)) ?_
  refine N_dup X (by decide +kernel) ?_
  refine N_ic (n := 3) (v := 3) X (by decide +kernel) rfl ?_
  refine N_ic (n := -1) (v := -1) X (by decide +kernel) rfl ?_
  refine N_iast X (by decide +kernel) (vlit (by decide)) ?_
  refine N_putF (z := 28) (k := 14) X (by decide +kernel) rfl (by decide) (in_gw 865 (by decide +kernel) rfl) rfl rfl rfl rfl rfl (Nat.le_of_ble_eq_true rfl) ?_
  refine N_al X (by decide +kernel) ?_
  refine N_ic (n := 4) (v := 4) X (by decide +kernel) rfl ?_
  refine N_newi (N := 4) X (by decide +kernel) rfl (by decide) (by decide) (Nat.le_of_ble_eq_true rfl) (Nat.le_of_ble_eq_true rfl) (fun q8 => ?_)
  refine N_putF (z := 31) (k := 15) X (by decide +kernel) rfl (by decide) (in_gw 866 (by decide +kernel) rfl) rfl rfl rfl rfl rfl (Nat.le_of_ble_eq_true rfl) ?_
  refine N_al X (by decide +kernel) ?_
  refine N_si (n := 160) (v := 160) X (by decide +kernel) rfl ?_
  refine N_newi (N := 160) X (by decide +kernel) rfl (by decide) (by decide) (Nat.le_of_ble_eq_true rfl) (Nat.le_of_ble_eq_true rfl) (fun q9 => ?_)
  refine N_putF (z := 34) (k := 16) X (by decide +kernel) rfl (by decide) (in_gw 867 (by decide +kernel) rfl) rfl rfl rfl rfl rfl (Nat.le_of_ble_eq_true rfl) ?_
  refine N_al X (by decide +kernel) ?_
  refine N_ic (n := 4) (v := 4) X (by decide +kernel) rfl ?_
  refine N_newi (N := 4) X (by decide +kernel) rfl (by decide) (by decide) (Nat.le_of_ble_eq_true rfl) (Nat.le_of_ble_eq_true rfl) (fun q10 => ?_)
  refine N_putF (z := 37) (k := 17) X (by decide +kernel) rfl (by decide) (in_gw 868 (by decide +kernel) rfl) rfl rfl rfl rfl rfl (Nat.le_of_ble_eq_true rfl) ?_
  refine N_al X (by decide +kernel) ?_
  refine N_ic (n := 4) (v := 4) X (by decide +kernel) rfl ?_
  refine N_newi (N := 4) X (by decide +kernel) rfl (by decide) (by decide) (Nat.le_of_ble_eq_true rfl) (Nat.le_of_ble_eq_true rfl) (fun q11 => ?_)
  refine N_putF (z := 40) (k := 18) X (by decide +kernel) rfl (by decide) (in_gw 869 (by decide +kernel) rfl) rfl rfl rfl rfl rfl (Nat.le_of_ble_eq_true rfl) ?_
  refine N_al X (by decide +kernel) ?_
  refine N_ic (n := 4) (v := 4) X (by decide +kernel) rfl ?_
  refine N_newi (N := 4) X (by decide +kernel) rfl (by decide) (by decide) (Nat.le_of_ble_eq_true rfl) (Nat.le_of_ble_eq_true rfl) (fun q12 => ?_)
  refine N_putF (z := 43) (k := 19) X (by decide +kernel) rfl (by decide) (in_gw 870 (by decide +kernel) rfl) rfl rfl rfl rfl rfl (Nat.le_of_ble_eq_true rfl) ?_
  refine N_al X (by decide +kernel) ?_
  refine N_bi (n := 30) (v := 30) X (by decide +kernel) rfl ?_
  refine N_newi (N := 30) X (by decide +kernel) rfl (by decide) (by decide) (Nat.le_of_ble_eq_true rfl) (Nat.le_of_ble_eq_true rfl) (fun q13 => ?_)
  refine N_putF (z := 46) (k := 20) X (by decide +kernel) rfl (by decide) (in_gw 871 (by decide +kernel) rfl) rfl rfl rfl rfl rfl (Nat.le_of_ble_eq_true rfl) ?_
  refine N_al X (by decide +kernel) ?_
  refine N_end (q := q1) (f := fun _ => 0) (fs := [.ref (q1), .ref (q2), .ref (q3), .ref (q4), .int 0, .ref (q5), .int 0, .int 0, .int 0, .int 0, .int 0, .int 0, .ref (q6), .int 0, .ref (q7), .ref (q8), .ref (q9), .ref (q10), .ref (q11), .ref (q12), .ref (q13), .int 0, .int 0, .int 0, .int 0, .int 0]) (wr2 := [(q2, .inl (cs.1, 56, .inl (fun _ => 0))), (q3, .inl (cs.1, 56, .inl (fun _ => 0))), (q4, .inl (cs.1, 56, .inl (fun _ => 0))), (q5, .inl (cs.1, 200, .inl (fun _ => 0))), (q6, .inl (cs.1, 30, .inl (fun _ => 0))), (q7, .inl (cs.1, 4, .inl m1R)), (q8, .inl (cs.1, 4, .inl (fun _ => 0))), (q9, .inl (cs.1, 160, .inl (fun _ => 0))), (q10, .inl (cs.1, 4, .inl (fun _ => 0))), (q11, .inl (cs.1, 4, .inl (fun _ => 0))), (q12, .inl (cs.1, 4, .inl (fun _ => 0))), (q13, .inl (cs.1, 30, .inl (fun _ => 0)))]) X rfl ⟨(Nat.le_of_ble_eq_true rfl), (Nat.le_of_ble_eq_true rfl)⟩ ⟨(Nat.le_of_ble_eq_true rfl), (Nat.le_of_ble_eq_true rfl)⟩ ?_
  intro H locs ls hP hD hS
  exact hret 132 (fun i => ([h0, q1, q2, q3, q4, q5, q6, q7, q8, q9, q10, q11, q12, q13] : List Nat).getD i 0) H locs ls (by decide +kernel) rfl hP hD hS
