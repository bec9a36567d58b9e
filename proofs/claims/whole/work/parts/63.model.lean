/-! the model's constructor -/
def w2 (cs : C3) (h0 q : Nat) (fs : List Value) (f : Nat → Int32) : va_W := [(h0, .inr (6, fs)), (q, .inl (cs.1, 56, .inl f))]
def Bx (D : va_G) (cs : C3) (p : Program) (s : State) (m : MethodId) (args : Array Value) (c : Code) : Prop :=
  p.tables.exec = Jvm.exec ∧ c.code = mX6_begins.2.1 ∧ s.vm.findClass mX6_begins.1.cls = some m.cls ∧ (∀ w ∈ wsM mX6_begins, w.before args s = true) ∧ va_K D vwCl (TYs cs) s
def BW (p : Program) (l : Launch) (e : Env) (R : Room) (s : State) (m : MethodId) (args : Array Value) (below : List Frame) (meth : Method) (c : Code) (A : Nat → Prop) (D : va_G) (cs : C3) (h0 q : Nat) (fs : List Value) (Q : State → Prop) (pc : Nat) (st : List Value) (lv : List (Nat × Value)) (f : Nat → Int32) : Prop :=
  ∀ (H : Heap) (locs : List Loc) (ls : Array Slot), va_P D vwCl (w2 cs h0 q fs f) H → va_D A (w2 cs h0 q fs f) → va_S A s.heap H locs → lv_has ls 3 lv → W p l e R s m args below meth c H locs 0 0 Q (F0 m pc ls st)
section BR
variable {p : Program} {l : Launch} {e : Env} {R : Room} {s : State} {m : MethodId} {args : Array Value} {below : List Frame} {meth : Method} {c : Code} {A : Nat → Prop} {D : va_G} {cs : C3} {h0 q : Nat} {fs : List Value} {Q : State → Prop} {pc : Nat} {st : List Value} {lv : List (Nat × Value)} {f : Nat → Int32}
theorem B_s (X : Bx D cs p s m args c) (hq : fs[0]? = some (.ref q)) (k0 : Nat) (h0l : lv[k0]? = some (0, .ref h0)) (hd : decode mX6_begins.2.1 pc = .ok (.aload_n 0, 1)) (hd2 : decode mX6_begins.2.1 (pc + 1) = .ok (.getfield 7, 3)) (k : BW p l e R s m args below meth c A D cs h0 q fs Q (pc + 4) (.ref q :: st) lv f) : BW p l e R s m args below meth c A D cs h0 q fs Q pc st lv f := by
  intro H locs ls hP hD hS hl
  have hc : vwCl[6]? = some (RX6, TX6, 26) := rfl
  obtain ⟨-, -, hin, -, -⟩ := cls_all hc
  refine lv_aload_n X.1 X.2.1 hd rfl (lv_at hl k0 h0l) ?_
  exact va_get (D := D) (ci := 6) (C := RX6) (T := TX6) (N := 26) X.1 X.2.1 X.2.2.2.1 (fun w hw => gw_ws (hin w hw)) X.2.2.1 X.2.2.2.2 hP 0 rfl hc 0 (by decide) (X.2.2.2.1 _ (gw_ws (in_gw 851 (by decide +kernel) rfl))) (fun _ h9 => h9) (v := .ref q) hq hd2 (k H locs ls hP hD hS hl)
theorem B_ic {n : Int} {v : Int32} (X : Bx D cs p s m args c) (hd : decode mX6_begins.2.1 pc = .ok (.iconst n, 1)) (hv : Int32.ofInt n = v) (k : BW p l e R s m args below meth c A D cs h0 q fs Q (pc + 1) (.int v :: st) lv f) : BW p l e R s m args below meth c A D cs h0 q fs Q pc st lv f := by
  intro H locs ls hP hD hS hl
  exact lv_iconst X.1 X.2.1 hd hv (k H locs ls hP hD hS hl)
theorem B_bi {n : Int} {v : Int32} (X : Bx D cs p s m args c) (hd : decode mX6_begins.2.1 pc = .ok (.bipush n, 2)) (hv : (Int8.ofInt n).toInt32 = v) (k : BW p l e R s m args below meth c A D cs h0 q fs Q (pc + 2) (.int v :: st) lv f) : BW p l e R s m args below meth c A D cs h0 q fs Q pc st lv f := by
  intro H locs ls hP hD hS hl
  exact lv_bipush X.1 X.2.1 hd hv (k H locs ls hP hD hS hl)
theorem B_il {i : Fin 4} {v : Int32} (X : Bx D cs p s m args c) (k0 : Nat) (h0l : lv[k0]? = some ((i : Nat), .int v)) (hd : decode mX6_begins.2.1 pc = .ok (.iload_n i, 1)) (k : BW p l e R s m args below meth c A D cs h0 q fs Q (pc + 1) (.int v :: st) lv f) : BW p l e R s m args below meth c A D cs h0 q fs Q pc st lv f := by
  intro H locs ls hP hD hS hl
  exact lv_iload_n X.1 X.2.1 hd rfl (lv_at hl k0 h0l) (k H locs ls hP hD hS hl)
theorem B_is {i : Fin 4} {v : Int32} {lv' : List (Nat × Value)} (X : Bx D cs p s m args c) (hi : (i : Nat) < 3) (hlv : ((i : Nat), Value.int v) :: lv.filter (fun q => !(q.1 == (i : Nat)) && !(q.1 + 1 == (i : Nat) && q.2.category == 2)) = lv') (hd : decode mX6_begins.2.1 pc = .ok (.istore_n i, 1)) (k : BW p l e R s m args below meth c A D cs h0 q fs Q (pc + 1) st lv' f) : BW p l e R s m args below meth c A D cs h0 q fs Q pc (.int v :: st) lv f := by
  intro H locs ls hP hD hS hl
  exact lv_istore_n X.1 X.2.1 hd rfl hl hi hlv (fun ls' hl' => k H locs ls' hP hD hS hl')
theorem B_ld {i : Int32} (X : Bx D cs p s m args c) (hi : vp_in i 56) (hd : decode mX6_begins.2.1 pc = .ok (.iaload, 1)) (k : BW p l e R s m args below meth c A D cs h0 q fs Q (pc + 1) (.int (f i.toNatClampNeg) :: st) lv f) : BW p l e R s m args below meth c A D cs h0 q fs Q pc (.int i :: .ref q :: st) lv f := by
  intro H locs ls hP hD hS hl
  exact va_iald (D := D) X.1 X.2.1 X.2.2.2.2 hP 1 0 (cA := cs.1) (n := 56) (f := f) rfl rfl hi hd (k H locs ls hP hD hS hl)
theorem B_st {i x : Int32} (X : Bx D cs p s m args c) (hi : vp_in i 56) (hd : decode mX6_begins.2.1 pc = .ok (.iastore, 1)) (k : BW p l e R s m args below meth c A D cs h0 q fs Q (pc + 1) st lv (upd f i.toNatClampNeg x)) : BW p l e R s m args below meth c A D cs h0 q fs Q pc (.int x :: .int i :: .ref q :: st) lv f := by
  intro H locs ls hP hD hS hl
  exact va_iast (D := D) X.1 X.2.1 X.2.2.2.2 hP hD hS 1 0 (cA := cs.1) (n := 56) (f := f) rfl rfl hi hd (fun H1 locs1 hP1 hD1 hS1 => k H1 locs1 ls hP1 hD1 hS1 hl)
end BR
theorem begins_body {p : Program} {l : Launch} {e : Env} {R : Room} {s : State} {m : MethodId} {args : Array Value} {below : List Frame} {meth : Method} {c : Code} {A : Nat → Prop} {D : va_G} {cs : C3} {h0 q : Nat} {fs : List Value} {Q : State → Prop} {f : Nat → Int32} (X : Bx D cs p s m args c) (hq : fs[0]? = some (.ref q)) (hret : ∀ (pc : Nat) (H : Heap) (locs : List Loc) (ls : Array Slot), decode mX6_begins.2.1 pc = .ok (.return_, 1) → va_P D vwCl (w2 cs h0 q fs (begS f)) H → va_S A s.heap H locs → W p l e R s m args below meth c H locs 0 0 Q (F0 m pc ls [])) : BW p l e R s m args below meth c A D cs h0 q fs Q 0 [] [(0, .ref h0)] f := by
  have fin : ∀ (pc : Nat) (lv : List (Nat × Value)) (f' : Nat → Int32), f' = begS f → decode mX6_begins.2.1 pc = .ok (.return_, 1) → BW p l e R s m args below meth c A D cs h0 q fs Q pc [] lv f' := by
    intro pc lv f' hf hd H locs ls hP1 hD1 hS1 hl
    subst hf
    exact hret pc H locs ls hd hP1 hS1
  refine B_s X hq 0 rfl (by decide +kernel) (by decide +kernel) ?_
  refine B_ic (n := 2) (v := 2) X (by decide +kernel) rfl ?_
  refine B_ld X (vlit (by decide)) (by decide +kernel) ?_
  refine B_is (i := 1) X (by decide) rfl (by decide +kernel) ?_
  refine B_ic (n := 0) (v := 0) X (by decide +kernel) rfl ?_
  refine B_is (i := 2) X (by decide) rfl (by decide +kernel) ?_
  have key : ∀ k, k ≤ 56 → BW p l e R s m args below meth c A D cs h0 q fs Q 9 [] [(2, .int (nI k)), (1, .int (f 2)), (0, .ref h0)] (cpN (fun _ => 0) f k) := by
    refine down 56 ?_ ?_
    · refine B_il (i := 2) X 0 rfl (by decide +kernel) ?_
      refine B_bi (n := 56) (v := 56) X (by decide +kernel) rfl ?_
      intro H locs ls hP hD hS hl
      refine lv_icmp_ge X.1 X.2.1 (off := 16) (tgt := 28) (by decide +kernel) rfl (fun _ => ?_) (fun h => absurd (show (56 : Int32) ≤ nI 56 by decide) h)
      refine (?_ : BW p l e R s m args below meth c A D cs h0 q fs Q 28 [] [(2, .int (nI 56)), (1, .int (f 2)), (0, .ref h0)] (cpN (fun _ => 0) f 56)) H locs ls hP hD hS hl
      refine B_s X hq 2 rfl (by decide +kernel) (by decide +kernel) ?_
      refine B_ic (n := 2) (v := 2) X (by decide +kernel) rfl ?_
      refine B_il (i := 1) X 1 rfl (by decide +kernel) ?_
      refine B_st X (vlit (by decide)) (by decide +kernel) ?_
      refine B_s X hq 2 rfl (by decide +kernel) (by decide +kernel) ?_
      refine B_ic (n := 4) (v := 4) X (by decide +kernel) rfl ?_
      refine B_ic (n := 2) (v := 2) X (by decide +kernel) rfl ?_
      refine B_st X (vlit (by decide)) (by decide +kernel) ?_
      refine B_s X hq 2 rfl (by decide +kernel) (by decide +kernel) ?_
      refine B_ic (n := 5) (v := 5) X (by decide +kernel) rfl ?_
      refine B_ic (n := 1) (v := 1) X (by decide +kernel) rfl ?_
      refine B_st X (vlit (by decide)) (by decide +kernel) ?_
      refine B_s X hq 2 rfl (by decide +kernel) (by decide +kernel) ?_
      refine B_bi (n := 6) (v := 6) X (by decide +kernel) rfl ?_
      refine B_ic (n := 2) (v := 2) X (by decide +kernel) rfl ?_
      refine B_st X (vlit (by decide)) (by decide +kernel) ?_
      refine B_s X hq 2 rfl (by decide +kernel) (by decide +kernel) ?_
      refine B_bi (n := 7) (v := 7) X (by decide +kernel) rfl ?_
      refine B_bi (n := 20) (v := 20) X (by decide +kernel) rfl ?_
      refine B_st X (vlit (by decide)) (by decide +kernel) ?_
      refine fin _ _ _ ?_ (by decide +kernel)
      funext j
      simp only [upd, cpN, begS, show (2 : Int32).toNatClampNeg = 2 from rfl, show (4 : Int32).toNatClampNeg = 4 from rfl, show (5 : Int32).toNatClampNeg = 5 from rfl, show (6 : Int32).toNatClampNeg = 6 from rfl, show (7 : Int32).toNatClampNeg = 7 from rfl]
      by_cases h2 : j = 2
      · subst h2; simp
      · by_cases h4 : j = 4
        · subst h4; simp
        · by_cases h5 : j = 5
          · subst h5; simp
          · by_cases h6 : j = 6
            · subst h6; simp
            · by_cases h7 : j = 7
              · subst h7; simp
              · simp [h2, h4, h5, h6, h7]
    · intro k hk ih
      have ek : (nI k).toNatClampNeg = k := nI_clamp (by omega)
      refine B_il (i := 2) X 0 rfl (by decide +kernel) ?_
      refine B_bi (n := 56) (v := 56) X (by decide +kernel) rfl ?_
      intro H locs ls hP hD hS hl
      refine lv_icmp_ge X.1 X.2.1 (off := 16) (tgt := 28) (by decide +kernel) rfl (fun h => absurd h (nI_ge (b := 56) hk (by decide))) (fun _ => ?_)
      refine (?_ : BW p l e R s m args below meth c A D cs h0 q fs Q 15 [] [(2, .int (nI k)), (1, .int (f 2)), (0, .ref h0)] (cpN (fun _ => 0) f k)) H locs ls hP hD hS hl
      refine B_s X hq 2 rfl (by decide +kernel) (by decide +kernel) ?_
      refine B_il (i := 2) X 0 rfl (by decide +kernel) ?_
      refine B_ic (n := 0) (v := 0) X (by decide +kernel) rfl ?_
      refine B_st X (vinN hk (by decide)) (by decide +kernel) ?_
      rw [ek, show upd (cpN (fun _ => 0) f k) k 0 = cpN (fun _ => 0) f (k + 1) from cpN_step (fun _ => 0) f k]
      intro H locs ls hP hD hS hl
      refine lv_iinc (i := 2) (k := 0) (n := 1) (v := nI (k + 1)) X.1 X.2.1 (by decide +kernel) hl rfl (nI_1 k) (by decide) rfl (fun ls' hl' => ?_)
      refine lv_goto X.1 X.2.1 (off := -16) (tgt := 9) (by decide +kernel) rfl ?_
      exact ih H locs ls' hP hD hS hl'
  have := key 0 (by omega)
  rw [cpN_0] at this
  exact this
theorem begins_W (l : Launch) (D : va_G) (cs : C3) (h0 q : Nat) (fs : List Value) (f : Nat → Int32) (sz : Nat) (hq : fs[0]? = some (.ref q)) : Met l mX6_begins.1 (wsM mX6_begins) { frames := 0, cells := 0, slots := 0, locals := 0 } (va_Pc [.ref h0] (fun U => U.heap.size = sz ∧ va_P D vwCl (w2 cs h0 q fs f) U.heap ∧ va_D (va_A (w2 cs h0 q fs f) sz) (w2 cs h0 q fs f) ∧ va_K D vwCl (TYs cs) U)) (va_Qv (fun _ : Unit => True) (fun _ t => va_P D vwCl (w2 cs h0 q fs (begS f)) t.heap) (va_A (w2 cs h0 q fs f) sz)) 0 0 (va_A (w2 cs h0 q fs f) sz) := by
  refine Met.ofW (cc := mX6_begins.2.1) (maxL := 3) (ret := none) o_X6_begins.2.2.2.2 rfl ?_
  intro p e s m args below meth c s₁ B hml hv
  obtain ⟨rfl, rfl, hP, hD, hK⟩ := hv
  have hts := atoms_spec (ws := wsM mX6_begins) B.pre
  have hown : s.vm.findClass mX6_begins.1.cls = some m.cls := findClass_of_methodNamed B.named
  have hr := B.returns
  have hlocks := B.notSynchronized
  have hent := lv_entry ([.ref h0]) (n := 3) (Nat.le_of_ble_eq_true rfl)
  rw [lg_entry_eq]
  have X : Bx D cs p s m [.ref h0].toArray c := ⟨B.exec, B.bytes, hown, hts, hK⟩
  exact begins_body X hq (fun pc H locs ls hd hP1 hS1 => W.vret B.exec B.bytes hr (fun t ht hW => ⟨⟨(), rfl, trivial, by show va_P _ _ _ t.heap; rw [ht]; exact hP1⟩, hS1.F ht⟩) hS1.2.2 hd) s.heap [] _ hP hD va_S.rf hent
