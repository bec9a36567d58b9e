/-! making: constructors over a growing world; 'this' stands first -/
abbrev C3 : Type := ClassId × ClassId × ClassId
abbrev TYs (cs : C3) : List (ClassId × FieldType) := [(cs.1, .int), (cs.2.1, .long), (cs.2.2, .array .long)]
def SA (cI : ClassId) (a : Nat) (A : Nat → Prop) (H : Heap) : Prop := ∃ cell : Cell, H[a]? = some cell ∧ (∀ k, cell.vm ≠ .statics k) ∧ cell.vm ≠ .unknown ∧ cell.cls = cI ∧ cell.slots = (arrV cI 4 (fun j => .int (sv 61 j))).slots ∧ ¬ A a
def KL (cs : C3) (U : State) : Prop := ∃ k, U.vm.classes[cs.2.2]? = some k ∧ k.kind = .array cs.2.1 (.array .long)
theorem KL.moved {cs : C3} {u U : State} (h : u.vm.Alike U.vm) (q : KL cs u) : KL cs U := by
  obtain ⟨k, h1, h2⟩ := q
  obtain ⟨k', hk', he⟩ := h.2.2 _ _ h1
  exact ⟨k', hk', by rw [he]; exact h2⟩
def GC (D : va_G) (cs : C3) (a : Nat) (A : Nat → Prop) (U : State) (H : Heap) : Prop := va_K D vwCl (TYs cs) U ∧ (∀ w ∈ nestW, va_Nw w U) ∧ va_Z "LastPruned" "LAW_AT_FIRST" "[I" (.ref a) A U H ∧ SA cs.1 a A H ∧ va_Nw (.castable "[I" "java/lang/Cloneable") U ∧ KL cs U
theorem GC.moved {D : va_G} {cs : C3} {a : Nat} {A : Nat → Prop} {u U : State} {H : Heap} (hW : u.WarmedH U.vm) (h : GC D cs a A u H) : GC D cs a A U H := ⟨va_K.moved hW.alike h.1, fun w hw => nest_warm hW (List.mem_filter.mp hw).2 (h.2.1 w hw), va_Z.moved hW.alike h.2.2.1, h.2.2.2.1, va_Nw.warmC hW h.2.2.2.2.1, KL.moved hW.alike h.2.2.2.2.2⟩
theorem GC.same {D : va_G} {cs : C3} {a : Nat} {A : Nat → Prop} {u U : State} {H : Heap} (hv : u.vm = U.vm) (h : GC D cs a A u H) : GC D cs a A U H := by
  have ha : u.vm.Alike U.vm := by rw [hv]; exact Vm.Alike.refl _
  exact ⟨va_K.moved ha h.1, fun w hw => nest_same hv (List.mem_filter.mp hw).2 (h.2.1 w hw), va_Z.moved ha h.2.2.1, h.2.2.2.1, va_Nw.same rfl hv h.2.2.2.2.1, KL.moved ha h.2.2.2.2.2⟩
theorem GC.kept {D : va_G} {cs : C3} {a : Nat} {A B : Nat → Prop} {U : State} {H H1 : Heap} (h : GC D cs a A U H) (hq : ∀ a : Nat, a < H.size → ¬ A a → H1[a]? = H[a]?) (hAB : ∀ q, B q → A q) : GC D cs a B U H1 := by
  refine ⟨h.1, h.2.1, (h.2.2.1.kept hq).narrow hAB, ?_, h.2.2.2.2⟩
  obtain ⟨cell, h1, h2, h3, h4, h5, h6⟩ := h.2.2.2.1
  exact ⟨cell, by rw [hq a (Array.getElem?_eq_some_iff.mp h1).1 h6]; exact h1, h2, h3, h4, h5, fun q => h6 (hAB a q)⟩
def Nx (mi : MI) (D : va_G) (cs : C3) (a : Nat) (p : Program) (R : Room) (s : State) (m : MethodId) (args : Array Value) (meth : Method) (c : Code) (A : Nat → Prop) : Prop :=
  p.tables.exec = Jvm.exec ∧ c.code = mi.2.1 ∧ c.maxLocals = 1 ∧ s.vm.findClass mi.1.cls = some m.cls ∧ (∀ w ∈ wsM mi, w.before args s = true) ∧ meth.name = "<init>" ∧ GC D cs a A s s.heap ∧ (∀ q, s.heap.size ≤ q → A q)
def NW (p : Program) (l : Launch) (e : Env) (R : Room) (s : State) (m : MethodId) (args : Array Value) (below : List Frame) (meth : Method) (c : Code) (A : Nat → Prop) (D : va_G) (h0 : Nat) (Q : State → Prop) (pc : Nat) (st : List Value) (ci : Nat) (fs : List Value) (wr : va_W) (cells slots : Nat) : Prop :=
  ∀ (H : Heap) (locs : List Loc) (ls : Array Slot), va_P D vwCl ((h0, .inr (ci, fs)) :: wr) H → va_D A ((h0, .inr (ci, fs)) :: wr) → va_S A s.heap H locs → lv_has ls 1 [(0, .ref h0)] → W p l e R s m args below meth c H locs cells slots Q (F0 m pc ls st)
section NR
variable {p : Program} {l : Launch} {e : Env} {R : Room} {s : State} {m : MethodId} {args : Array Value} {below : List Frame} {meth : Method} {c : Code} {A : Nat → Prop} {D : va_G} {h0 : Nat} {Q : State → Prop} {pc : Nat} {st : List Value} {ci : Nat} {fs : List Value} {wr : va_W} {cells slots : Nat} {mi : MI} {cs : C3} {a61 : Nat}
theorem N_al (X : Nx mi D cs a61 p R s m args meth c A) (hd : decode mi.2.1 pc = .ok (.aload_n 0, 1)) (k : NW p l e R s m args below meth c A D h0 Q (pc + 1) (.ref h0 :: st) ci fs wr cells slots) : NW p l e R s m args below meth c A D h0 Q pc st ci fs wr cells slots := by
  intro H locs ls hP hD hS hl
  exact lv_aload_n X.1 X.2.1 hd rfl (lv_at hl 0 rfl) (k H locs ls hP hD hS hl)
theorem N_obj {idx : Nat} (X : Nx mi D cs a61 p R s m args meth c A) (hd : decode mi.2.1 pc = .ok (.invokespecial idx, 3)) (hw : Cond.methodLink mi.1.cls idx Lib.objectInit ∈ gw) (hf : 1 ≤ R.frames) (hlo : 12 ≤ R.locals) (k : NW p l e R s m args below meth c A D h0 Q (pc + 3) [] ci fs wr cells slots) : NW p l e R s m args below meth c A D h0 Q pc [.ref h0] ci fs wr cells slots := by
  intro H locs ls hP hD hS hl
  refine W.objInit X.1 X.2.1 X.2.2.2.1 (X.2.2.2.2.1 _ (gw_ws hw)) (X.2.2.2.2.1 _ (gw_ws (in_gw 79 (by decide +kernel) rfl))) (X.2.2.2.2.1 _ (gw_ws (in_gw 80 (by decide +kernel) rfl))) (g := F0 m pc ls [.ref h0]) rfl (hl.1.trans X.2.2.1.symm) rfl hd hf (by show 2 * 0 + 0 + 12 ≤ _; omega) ?_
  exact k H locs ls hP hD hS hl
theorem N_ic {n : Int} {v : Int32} (X : Nx mi D cs a61 p R s m args meth c A) (hd : decode mi.2.1 pc = .ok (.iconst n, 1)) (hv : Int32.ofInt n = v) (k : NW p l e R s m args below meth c A D h0 Q (pc + 1) (.int v :: st) ci fs wr cells slots) : NW p l e R s m args below meth c A D h0 Q pc st ci fs wr cells slots := by
  intro H locs ls hP hD hS hl
  exact lv_iconst X.1 X.2.1 hd hv (k H locs ls hP hD hS hl)
theorem N_bi {n : Int} {v : Int32} (X : Nx mi D cs a61 p R s m args meth c A) (hd : decode mi.2.1 pc = .ok (.bipush n, 2)) (hv : (Int8.ofInt n).toInt32 = v) (k : NW p l e R s m args below meth c A D h0 Q (pc + 2) (.int v :: st) ci fs wr cells slots) : NW p l e R s m args below meth c A D h0 Q pc st ci fs wr cells slots := by
  intro H locs ls hP hD hS hl
  exact lv_bipush X.1 X.2.1 hd hv (k H locs ls hP hD hS hl)
theorem N_si {n : Int} {v : Int32} (X : Nx mi D cs a61 p R s m args meth c A) (hd : decode mi.2.1 pc = .ok (.sipush n, 3)) (hv : (Int16.ofInt n).toInt32 = v) (k : NW p l e R s m args below meth c A D h0 Q (pc + 3) (.int v :: st) ci fs wr cells slots) : NW p l e R s m args below meth c A D h0 Q pc st ci fs wr cells slots := by
  intro H locs ls hP hD hS hl
  exact lv_sipush X.1 X.2.1 hd hv (k H locs ls hP hD hS hl)
theorem N_dup {x : Nat} (X : Nx mi D cs a61 p R s m args meth c A) (hd : decode mi.2.1 pc = .ok (.dup, 1)) (k : NW p l e R s m args below meth c A D h0 Q (pc + 1) (.ref x :: .ref x :: st) ci fs wr cells slots) : NW p l e R s m args below meth c A D h0 Q pc (.ref x :: st) ci fs wr cells slots := by
  intro H locs ls hP hD hS hl
  exact lv_dup X.1 X.2.1 hd rfl (k H locs ls hP hD hS hl)
theorem ci_one {cs : C3} {cA : ClassId} (hK : va_K D vwCl (TYs cs ++ [(cA, .int)]) s) : cA = cs.1 := by
  have h1 := va_nm_int (hK.2 3 _ rfl).2
  have h2 := va_nm_int (hK.2 0 _ rfl).2
  exact Option.some.inj (h1.symm.trans h2)
theorem N_newi {v : Int32} {N : Nat} (X : Nx mi D cs a61 p R s m args meth c A) (hd : decode mi.2.1 pc = .ok (.newarray .int, 2)) (hN : v.toNatClampNeg = N) (hn : ¬ v < 0) (hb : N ≤ 1000) (hc : cells + 1 ≤ R.cells) (hs : slots + N ≤ R.slots) (k : ∀ q, NW p l e R s m args below meth c A D h0 Q (pc + 2) (.ref q :: st) ci fs (wr ++ [(q, .inl (cs.1, N, .inl (fun _ => 0)))]) (cells + 1) (slots + N)) : NW p l e R s m args below meth c A D h0 Q pc (.int v :: st) ci fs wr cells slots := by
  intro H locs ls hP hD hS hl
  refine va_newa (D := D) (ty := .int) (a0 := (N, .inl (fun _ => 0))) X.1 X.2.1 (X.2.2.2.2.1 _ (gw_ws (in_gw 154 (by decide +kernel) rfl))) rfl X.2.2.2.2.2.2.1.1 hP hD hS X.2.2.2.2.2.2.2 (fun cA => rfl) hn hN (by show N * 4 ≤ _; omega) hc hs hd (fun q cA H1 hK1 hP1 hD1 hS1 => ?_)
  have e := ci_one hK1
  subst e
  exact k q H1 locs ls hP1 hD1 hS1 hl
theorem N_putF {z k N : Nat} {C : String} {T : u_T} {ty : FieldType} {x : Nat} (X : Nx mi D cs a61 p R s m args meth c A) (hd : decode mi.2.1 pc = .ok (.putfield z, 3)) (hc : vwCl[ci]? = some (C, T, N)) (hk : k < N) (hw : Cond.fieldLink mi.1.cls z (T k).1 (T k).2.1 (T k).2.2.1 ∈ gw) (hfin : (T k).2.2.2 = true) (hown : (T k).1 = mi.1.cls) (htk : tyF ci k = ty) (hn : narrow ty (.ref x) = .ref x) (hfit : fits ty (.ref x) = true) (hl : k < fs.length) (kk : NW p l e R s m args below meth c A D h0 Q (pc + 3) st ci (fs.set k (.ref x)) wr cells slots) : NW p l e R s m args below meth c A D h0 Q pc (.ref x :: .ref h0 :: st) ci fs wr cells slots := by
  intro H locs ls hP hD hS hl0
  obtain ⟨-, -, hin, hty, hnm⟩ := cls_all hc
  exact va_putF (D := D) (ci := ci) (C := C) (T := T) (N := N) (v := .ref x) (ty := ty) X.1 X.2.1 X.2.2.2.2.1 (fun w h => gw_ws (hin w h)) (tyF ci) hty hnm X.2.2.2.1 X.2.2.2.2.2.2.1.1 hP hD hS 0 rfl hc k hk (X.2.2.2.2.1 _ (gw_ws hw)) (fun _ h9 => h9) hfin X.2.2.2.2.2.1 hown (by rw [hty k hk, htk]) hn hfit hl hd (fun H1 locs1 hP1 hD1 hS1 => kk H1 locs1 ls hP1 hD1 hS1 hl0)
theorem N_putI {z k N : Nat} {C : String} {T : u_T} {ty : FieldType} {x : Int32} (X : Nx mi D cs a61 p R s m args meth c A) (hd : decode mi.2.1 pc = .ok (.putfield z, 3)) (hc : vwCl[ci]? = some (C, T, N)) (hk : k < N) (hw : Cond.fieldLink mi.1.cls z (T k).1 (T k).2.1 (T k).2.2.1 ∈ gw) (hfin : (T k).2.2.2 = false) (htk : tyF ci k = ty) (hn : narrow ty (.int x) = .int x) (hfit : fits ty (.int x) = true) (hl : k < fs.length) (kk : NW p l e R s m args below meth c A D h0 Q (pc + 3) st ci (fs.set k (.int x)) wr cells slots) : NW p l e R s m args below meth c A D h0 Q pc (.int x :: .ref h0 :: st) ci fs wr cells slots := by
  intro H locs ls hP hD hS hl0
  obtain ⟨-, -, hin, hty, hnm⟩ := cls_all hc
  exact va_put (D := D) (ci := ci) (C := C) (T := T) (N := N) (v := .int x) (ty := ty) X.1 X.2.1 X.2.2.2.2.1 (fun w h => gw_ws (hin w h)) (tyF ci) hty hnm X.2.2.2.1 X.2.2.2.2.2.2.1.1 hP hD hS 0 rfl hc k hk (X.2.2.2.2.1 _ (gw_ws hw)) (fun _ h9 => h9) hfin (by rw [hty k hk, htk]) hn hfit hl hd (fun H1 locs1 hP1 hD1 hS1 => kk H1 locs1 ls hP1 hD1 hS1 hl0)
theorem set_last {α : Type} (x : α) (w : List α) (y z : α) : (x :: (w ++ [y])).set (w.length + 1) z = x :: (w ++ [z]) := by
  simp [List.set_append]
theorem N_iast {q N : Nat} {f : Nat → Int32} {i x : Int32} (X : Nx mi D cs a61 p R s m args meth c A) (hd : decode mi.2.1 pc = .ok (.iastore, 1)) (hi : vp_in i N) (k : NW p l e R s m args below meth c A D h0 Q (pc + 1) st ci fs (wr ++ [(q, .inl (cs.1, N, .inl (upd f i.toNatClampNeg x)))]) cells slots) : NW p l e R s m args below meth c A D h0 Q pc (.int x :: .int i :: .ref q :: st) ci fs (wr ++ [(q, .inl (cs.1, N, .inl f))]) cells slots := by
  intro H locs ls hP hD hS hl
  refine va_iast (D := D) X.1 X.2.1 X.2.2.2.2.2.2.1.1 hP hD hS (wr.length + 1) 0 (cA := cs.1) (n := N) (f := f) (by simp) rfl hi hd (fun H1 locs1 hP1 hD1 hS1 => ?_)
  rw [set_last] at hP1 hD1
  exact k H1 locs1 ls hP1 hD1 hS1 hl
theorem N_new {z cj N : Nat} {C : String} {T : u_T} {fs2 : List Value} (X : Nx mi D cs a61 p R s m args meth c A) (hd : decode mi.2.1 pc = .ok (.new z, 3)) (hc : vwCl[cj]? = some (C, T, N)) (hw1 : Cond.classLink mi.1.cls z C ∈ gw) (hw2 : Cond.instantiable C N ∈ gw) (hw3 : Cond.initialized C ∈ gw) (hfs : ∀ j, j < N → defaultValue (tyF cj j) = vp_V fs2 j) (hcl : cells + 1 ≤ R.cells) (hsl : slots + N ≤ R.slots) (k : ∀ q, NW p l e R s m args below meth c A D h0 Q (pc + 3) (.ref q :: st) ci fs (wr ++ [(q, .inr (cj, fs2))]) (cells + 1) (slots + N)) : NW p l e R s m args below meth c A D h0 Q pc st ci fs wr cells slots := by
  intro H locs ls hP hD hS hl
  obtain ⟨-, -, hin, hty, -⟩ := cls_all hc
  exact va_new (D := D) (ci := cj) (fs := fs2) (C := C) (T := T) (N := N) X.1 X.2.1 X.2.2.2.2.1 (fun w h => gw_ws (hin w h)) (tyF cj) hty X.2.2.2.1 (X.2.2.2.2.1 _ (gw_ws hw1)) (X.2.2.2.2.1 _ (gw_ws hw2)) (X.2.2.2.2.1 _ (gw_ws hw3)) X.2.2.2.2.2.2.1.1 hP hD hS X.2.2.2.2.2.2.2 hc hfs hcl hsl hd (fun q H1 hP1 hD1 hS1 => k q H1 locs ls hP1 hD1 hS1 hl)
end NR
/-- a constructor's contract -/
def KC (mi : MI) (ci : Nat) (fs : List Value) (n mc ms : Nat) (post : C3 → (Nat → Nat) → va_W) : Prop :=
  ∀ (l : Launch) (D : va_G) (cs : C3) (a61 h0 sz : Nat), Met l mi.1 (wsM mi) { frames := n, cells := mc, slots := ms, locals := 60 * n } (va_Pc [.ref h0] (fun U => U.heap.size = sz ∧ va_P D vwCl [(h0, .inr (ci, fs))] U.heap ∧ GC D cs a61 (va_A [(h0, .inr (ci, fs))] sz) U U.heap)) (va_Qv (fun a : Nat → Nat => a 0 = h0) (fun a t => va_P D vwCl (post cs a) t.heap ∧ va_D (va_A [(h0, .inr (ci, fs))] sz) (post cs a)) (va_A [(h0, .inr (ci, fs))] sz)) mc ms (va_A [(h0, .inr (ci, fs))] sz)
theorem KC_go {mi : MI} {ci n mc ms : Nat} {fs : List Value} {post : C3 → (Nat → Nat) → va_W} (np : Nat) (hM : MOK mi np) (h1 : mi.2.2.1 = 1) (hret : mi.2.2.2 = none) (hname : mi.1.name = "<init>") (body : ∀ (p : Program) (l : Launch) (e : Env) (s : State) (m : MethodId) (args : Array Value) (below : List Frame) (meth : Method) (c : Code) (A : Nat → Prop) (D : va_G) (cs : C3) (a61 h0 : Nat) (Q : State → Prop), Nx mi D cs a61 p { frames := n, cells := mc, slots := ms, locals := 60 * n } s m args meth c A → (∀ (pcR : Nat) (a : Nat → Nat) (H : Heap) (locs : List Loc) (ls : Array Slot), decode mi.2.1 pcR = .ok (.return_, 1) → a 0 = h0 → va_P D vwCl (post cs a) H → va_D A (post cs a) → va_S A s.heap H locs → W p l e { frames := n, cells := mc, slots := ms, locals := 60 * n } s m args below meth c H locs mc ms Q (F0 m pcR ls [])) → NW p l e { frames := n, cells := mc, slots := ms, locals := 60 * n } s m args below meth c A D h0 Q 0 [] ci fs [] 0 0) : KC mi ci fs n mc ms post := by
  intro l D cs a61 h0 sz
  refine Met.ofW (cc := mi.2.1) (maxL := 1) (ret := none) hM.2.2.2.2 (by unfold wsM; rw [h1, hret]) ?_
  intro p e s m args below meth c s₁ B hml hv
  obtain ⟨rfl, rfl, hP, hG⟩ := hv
  have hts := atoms_spec (ws := wsM mi) B.pre
  have hown : s.vm.findClass mi.1.cls = some m.cls := findClass_of_methodNamed B.named
  have hr := B.returns
  have hlocks := B.notSynchronized
  have hin : meth.name = "<init>" := ((name_of_methodNamed B.named B.method).1).trans hname
  have hent := lv_entry ([.ref h0]) (n := 1) (Nat.le_of_ble_eq_true rfl)
  rw [lg_entry_eq]
  have hD0 : va_D (va_A [(h0, .inr (ci, fs))] s.heap.size) [(h0, .inr (ci, fs))] := by
    refine ⟨fun i j p q hi hj _ => ?_, fun k q hq => Or.inl ⟨k, q.2, hq⟩⟩
    have := (List.getElem?_eq_some_iff.mp hi).1
    have := (List.getElem?_eq_some_iff.mp hj).1
    simp at *
    omega
  refine body p l e s m _ below meth c (va_A [(h0, .inr (ci, fs))] s.heap.size) D cs a61 h0 _ ⟨B.exec, B.bytes, hml, hown, hts, hin, hG, fun q hq => Or.inr hq⟩ ?_ s.heap [] _ hP hD0 va_S.rf hent
  intro pcR a H locs ls hd ha hP1 hD1 hS1
  exact W.vret B.exec B.bytes hr (fun t ht hW => ⟨⟨a, rfl, ha, by rw [ht]; exact hP1, hD1⟩, hS1.F ht⟩) hS1.2.2 hd

