/-! a row of rows, made at once -/
/-- the state while the four rows come -/
def mst (T : State) (cL cJ : ClassId) : Nat → State
  | 0 => T.pushCell (arrV cL 4 (fun _ => .null))
  | i + 1 => ((mst T cL cJ i).pushCell (arrV cJ 40 (fun _ => .long 0))).setCell T.heap.size (arrV cL 4 (fun j => if j < i + 1 then .ref (T.heap.size + 1 + j) else .null))
def mo (h : Nat) (cL : ClassId) (i : Nat) : Cell := arrV cL 4 (fun j => if j < i then .ref (h + 1 + j) else .null)
theorem mo_0 (h : Nat) (cL : ClassId) : mo h cL 0 = arrV cL 4 (fun _ => .null) := by
  unfold mo
  congr 1
theorem mo_s (h : Nat) (cL : ClassId) (i : Nat) : (mo h cL i).setSlot i (.ref (h + 1 + i)) = mo h cL (i + 1) := by
  unfold mo
  rw [arrV_store]
  congr 1
  funext j
  unfold updV
  by_cases q : j = i
  · subst q; rw [if_pos rfl, if_pos (by omega)]
  · rw [if_neg q]
    by_cases q2 : j < i
    · show (if j < i then _ else _) = _
      rw [if_pos q2, if_pos (by omega)]
    · show (if j < i then _ else _) = _
      rw [if_neg q2, if_neg (by omega)]
section MS
variable {T : State} {cL cJ : ClassId}
theorem mst_size : ∀ i, (mst T cL cJ i).heap.size = T.heap.size + 1 + i := by
  intro i
  induction i with
  | zero => simp [mst]
  | succ i ih => simp [mst, State.setCell, ih]; omega
theorem mst_vm : ∀ i, (mst T cL cJ i).vm = T.vm := by
  intro i
  induction i with
  | zero => rfl
  | succ i ih => simp [mst, ih]
theorem mst_old {a : Nat} (ha : a < T.heap.size) : ∀ i, (mst T cL cJ i).heap[a]? = T.heap[a]? := by
  intro i
  induction i with
  | zero => exact State.heap_pushCell_of_lt _ _ ha
  | succ i ih =>
    show (((mst T cL cJ i).pushCell (arrV cJ 40 (fun _ => .long 0))).setCell T.heap.size _).heap[a]? = _
    have hlt : a < (mst T cL cJ i).heap.size := by rw [mst_size]; omega
    rw [State.heap_setCell_other (Nat.ne_of_gt ha), State.heap_pushCell_of_lt (h := hlt)]
    exact ih
theorem mst_top : ∀ i, (mst T cL cJ i).heap[T.heap.size]? = some (mo T.heap.size cL i) := by
  intro i
  cases i with
  | zero => rw [mo_0]; exact State.heap_pushCell_size _ _
  | succ i =>
    have : T.heap.size < ((mst T cL cJ i).pushCell (arrV cJ 40 (fun _ => .long 0))).heap.size := by
      have := mst_size (T := T) (cL := cL) (cJ := cJ) i
      simp
      omega
    exact State.heap_setCell_self (Array.getElem?_eq_getElem this)
theorem mst_in {j : Nat} : ∀ i, j < i → (mst T cL cJ i).heap[T.heap.size + 1 + j]? = some (arrV cJ 40 (fun _ => .long 0)) := by
  intro i
  induction i with
  | zero => intro h; omega
  | succ i ih =>
    intro h
    show (((mst T cL cJ i).pushCell (arrV cJ 40 (fun _ => .long 0))).setCell T.heap.size _).heap[T.heap.size + 1 + j]? = _
    rw [State.heap_setCell_other (show T.heap.size ≠ T.heap.size + 1 + j by omega)]
    rcases Nat.lt_or_ge j i with q | q
    · have hlt : T.heap.size + 1 + j < (mst T cL cJ i).heap.size := by rw [mst_size]; omega
      rw [State.heap_pushCell_of_lt (h := hlt)]
      exact ih q
    · have e : j = i := by omega
      subst e
      rw [← mst_size (T := T) (cL := cL) (cJ := cJ) j]
      exact State.heap_pushCell_size _ _
theorem mst_slots : ∀ i, (mst T cL cJ i).slotsUsed = T.slotsUsed + 4 + 40 * i := by
  intro i
  induction i with
  | zero => simp [mst, arrV_size]
  | succ i ih => simp [mst, arrV_size, ih]; omega
theorem mst_setTop (f : JFrame) : ∀ i, mst (T.setTop f) cL cJ i = (mst T cL cJ i).setTop f := by
  intro i
  induction i with
  | zero => rfl
  | succ i ih => simp only [mst, ih, State.heap_setTop, State.pushCell_setTop, State.setCell_setTop]
theorem mst_X {p : Program} {l : Launch} {e : Env} {R : Room} {s : State} {m : MethodId} {args : Array Value} {below : List Frame} {meth : Method} {c : Code} {locs : List Loc} {cells slots : Nat} (X : Stand p l e R s m args below meth c T locs cells slots) : ∀ i, ∃ L : List Loc, (∀ q ∈ L, q.base = T.heap.size) ∧ Stand p l e R s m args below meth c (mst T cL cJ i) (locs ++ L) (cells + 1 + i) (slots + 4 + 40 * i) := by
  intro i
  induction i with
  | zero =>
    refine ⟨[], fun _ h => absurd h List.not_mem_nil, ?_⟩
    have := X.pushed (arrV cL 4 (fun _ => .null))
    rw [arrV_size] at this
    simpa [mst] using this
  | succ i ih =>
    obtain ⟨L, h1, h2⟩ := ih
    have h3 := h2.pushed (arrV cJ 40 (fun _ => .long 0))
    rw [arrV_size] at h3
    have hc : ((mst T cL cJ i).pushCell (arrV cJ 40 (fun _ => .long 0))).heap[T.heap.size]? = some (mo T.heap.size cL i) := by
      have hlt : T.heap.size < (mst T cL cJ i).heap.size := by rw [mst_size]; omega
      rw [State.heap_pushCell_of_lt (h := hlt)]
      exact mst_top i
    have h4 := h3.stored hc i (.ref (T.heap.size + 1 + i))
    rw [mo_s] at h4
    refine ⟨L ++ [⟨T.heap.size, i⟩], fun q hq => ?_, ?_⟩
    · rcases List.mem_append.mp hq with h | h
      · exact h1 q h
      · simp at h; rw [h]
    · rw [← List.append_assoc, show slots + 4 + 40 * (i + 1) = slots + 4 + 40 * i + 40 by omega]
      exact h4
end MS
section MW
variable {E : CtlPost} {e : Env} {d : Bool} {acts : List Action} {s : State}
theorem wp_row {cJ cc : ClassId} {kJ : Class} (hk : s.vm.classes[cJ]? = some kJ) (hkind : kJ.kind = .array cc .long) (hl : ¬ 40 > e.platform.arrayLengthLimit) (hh : ¬ 40 * 8 > e.platform.maxHeapBytes) (h1 : s.heap.size < e.platform.maxCells) (h2 : s.slotsUsed + 40 ≤ e.platform.maxSlots) {Q : Addr → Pre} (hq : ∀ acts', Q s.heap.size d acts' (s.pushCell (arrV cJ 40 (fun _ => .long 0)))) : Sem.wp (Op.multianewarray.make cJ [40]) Q E e d acts s := by
  rw [Op.multianewarray.make]
  simp only [wp_bind', W.ite, show ¬ ((40 : Int32) < 0) by decide, if_false, wp_pure', W.theClass, hk, hkind, Option.some.injEq, exists_eq_left']
  refine W.newArray_of hk hkind hl hh h1 h2 rfl (fun acts' => ?_)
  rw [← arrV_new] at hq
  exact hq acts'
theorem wp_rows {cL cJ cc : ClassId} {kL kJ : Class} (hkL : s.vm.classes[cL]? = some kL) (hkindL : kL.kind = .array cJ (.array .long)) (hk : s.vm.classes[cJ]? = some kJ) (hkind : kJ.kind = .array cc .long) (hl : ¬ 40 > e.platform.arrayLengthLimit) (hh : ¬ 40 * 8 > e.platform.maxHeapBytes) (h1 : s.heap.size + 5 ≤ e.platform.maxCells) (h2 : s.slotsUsed + 164 ≤ e.platform.maxSlots) {Q : Addr → Pre} (hq : ∀ d' acts', Q s.heap.size d' acts' (mst s cL cJ 4)) : Sem.wp (Op.multianewarray.make cL [4, 40]) Q E e d acts s := by
  rw [Op.multianewarray.make]
  simp only [wp_bind', W.ite, show ¬ ((4 : Int32) < 0) by decide, if_false, wp_pure', W.theClass, hkL, hkindL, Option.some.injEq, exists_eq_left']
  refine W.newArray_of hkL hkindL (by show ¬ 4 > _; omega) (by show ¬ 4 * 4 > _; omega) (by omega) (by show s.slotsUsed + 4 ≤ _; omega) rfl (fun acts' => ?_)
  rw [if_neg (show ¬ ((4 : Int32) == 0) = true by decide), wp_bind', Std.Legacy.Range.forIn_eq_forIn_range']
  have hsz : ([:Int32.toNatClampNeg 4] : Std.Legacy.Range).size = 4 := by simp [Std.Legacy.Range.size]
  rw [hsz]
  have e0 : (s.pushCell { cls := cL, slots := Array.replicate (Int32.toNatClampNeg 4) Value.null }) = mst s cL cJ 0 := by
    show _ = s.pushCell (arrV cL 4 (fun _ => .null))
    rw [← arrV_new]
    rfl
  rw [e0]
  refine wp_forIn_inv (fun rest s' => ∃ i, i ≤ 4 ∧ rest = List.range' i (4 - i) ∧ s' = mst s cL cJ i) _ _ ⟨0, by omega, rfl, rfl⟩ ?_ ?_
  · rintro x rest s' d' acts' Q' ⟨i, hi, hl4, rfl⟩ hnext
    have hlt : i < 4 := by
      rcases Nat.lt_or_ge i 4 with h | h
      · exact h
      · rw [show 4 - i = 0 by omega] at hl4; simp at hl4
    have hx : x = i ∧ rest = List.range' (i + 1) (4 - (i + 1)) := by
      rw [show 4 - i = (4 - (i + 1)) + 1 by omega, List.range'_succ] at hl4
      exact ⟨(List.cons.inj hl4).1, (List.cons.inj hl4).2⟩
    obtain ⟨rfl, hrest⟩ := hx
    have z1 := mst_size (T := s) (cL := cL) (cJ := cJ) x
    have z2 := mst_vm (T := s) (cL := cL) (cJ := cJ) x
    have z3 := mst_slots (T := s) (cL := cL) (cJ := cJ) x
    have z4 := mst_top (T := s) (cL := cL) (cJ := cJ) x
    simp only [wp_bind']
    refine wp_row (by rw [z2]; exact hk) hkind hl hh (by rw [z1]; omega) (by rw [z3]; omega) (fun acts2 => ?_)
    have hl0 : s.heap.size < (mst s cL cJ x).heap.size := by rw [z1]; omega
    simp only [wp_bind', W.writeLoc, wp_pure']
    refine ⟨mo s.heap.size cL x, (by rw [State.heap_pushCell_of_lt (h := hl0)]; exact z4), (fun q => by unfold mo at q; cases q), (by unfold mo; rw [arrV_size]; exact hlt), ?_, hnext _ _ _ ⟨x + 1, hlt, hrest, ?_⟩⟩
    · show State.fitsSlot _ cL .none x _ = true
      simp [State.fitsSlot, State.slotType?, z2, hkL, hkindL]
      rfl
    · rw [z1, mo_s]
      rfl
  · rintro s' d' acts' ⟨i, hi, hl4, rfl⟩
    have : i = 4 := by
      rcases Nat.lt_or_ge i 4 with h | h
      · rw [show 4 - i = (4 - (i + 1)) + 1 by omega, List.range'_succ] at hl4; cases hl4
      · omega
    subst this
    simp only [wp_pure']
    exact hq _ _
end MW
section NM
variable {p : Program} {l : Launch} {e : Env} {R : Room} {s : State} {m : MethodId} {args : Array Value} {below : List Frame} {meth : Method} {c : Code}
theorem multi_S {T : State} {locs : List Loc} {cells slots : Nat} (X : Stand p l e R s m args below meth c T locs cells slots) (hexec : p.tables.exec = Jvm.exec) {own : String} {idx : Nat} (hown : s.vm.findClass own = some m.cls) (hcl : (Cond.classLink own idx "[[J").before args s = true) {cL cJ cc : ClassId} {kL kJ : Class} (hL : s.vm.findClass "[[J" = some cL) (hkL : s.vm.classes[cL]? = some kL) (hkindL : kL.kind = .array cJ (.array .long)) (hkJ : s.vm.classes[cJ]? = some kJ) (hkindJ : kJ.kind = .array cc .long) {g : JFrame} (hg : g.method = m) (hdg : decode c.code g.pc = .ok (.multianewarray idx 2, 4)) {rest : List Value} (hstack : g.stack = .int 40 :: .int 4 :: rest) (hcells : cells + 5 ≤ R.cells) (hslots : slots + 164 ≤ R.slots) :
    ∃ (vm₁ : Vm) (L : List Loc), s.WarmedH vm₁ ∧ (∀ q ∈ L, q.base = T.heap.size) ∧ Stand p l e R s m args below meth c (mst (T.setVm vm₁) cL cJ 4) (locs ++ L) (cells + 5) (slots + 164) ∧ ∀ target, Steps p.tables e below ((mst (T.setVm vm₁) cL cJ 4).setTop { g with pc := g.pc + 4, stack := .ref T.heap.size :: rest }) target → Steps p.tables e below (T.setTop g) target := by
  subst hg
  have hpl : e.platform.magicAccessors = ({} : Platform).magicAccessors := by rw [X.admits.platform]
  obtain ⟨c0, hfc0, hln⟩ := Cond.classLink_spec hown hcl e.platform hpl
  cases hL.symm.trans hfc0
  obtain ⟨hg1, hw1, -⟩ := State.classEntry (e := e) X.warmed hln
  generalize T.vm.noted g.method.cls idx (.cls cL) = vm₁ at hg1 hw1
  obtain ⟨kL1, hkL1, eL⟩ := hw1.alike.2.2 _ _ hkL
  obtain ⟨kJ1, hkJ1, eJ⟩ := hw1.alike.2.2 _ _ hkJ
  have X1 := X.noted hw1
  obtain ⟨r1, r2⟩ := X.roomAbove hcells hslots
  obtain ⟨L, hb, X4⟩ := mst_X (cL := cL) (cJ := cJ) X1 4
  refine ⟨vm₁, L, hw1, hb, X4, fun target hrest => ?_⟩
  have hl1 : ¬ 40 > e.platform.arrayLengthLimit := by rw [Launch.admits_arrayLengthLimit X.admits]; omega
  have hh1 : ¬ 40 * 8 > e.platform.maxHeapBytes := by rw [Launch.admits_maxHeapBytes X.admits]; omega
  jvm_step X.here [hexec, hdg]
  simp only [Op.multianewarray.sem, wp_bind', W.resolveClassAt_links (State.method?_setTop g X.here.top) hg1]
  rw [W.popN, if_neg (by decide)]
  refine ⟨g, State.topJava?_setTop' (s := T.setVm vm₁) g X.here.top, [.int 4, .int 40], rest, rfl, hstack, ?_⟩
  simp only [List.mapM_cons, List.mapM_nil, wp_bind', wp_pure']
  refine wp_rows (cJ := cJ) (cc := cc) (kL := kL1) (kJ := kJ1) hkL1 (by rw [eL]; exact hkindL) hkJ1 (by rw [eJ]; exact hkindJ) hl1 hh1 (by show T.heap.size + 5 ≤ _; omega) (by show T.slotsUsed + 164 ≤ _; omega) (fun d' acts' => ?_)
  have eS : ((T.setTop g).setVm vm₁).setTop { g with stack := rest } = (T.setVm vm₁).setTop { g with stack := rest } := by
    show ((T.setVm vm₁).setTop g).setTop _ = _
    rw [State.setTop_setTop]
  rw [eS, mst_setTop]
  simp only [wp_bind', W.mark, W.pushRef, State.topJava?_setTop' _ X4.here.top, Option.some.injEq, exists_eq_left', State.setTop_setTop, State.heap_setTop]
  intro acts
  simp [jvm, X4.here.top]
  exact hrest
end NM

