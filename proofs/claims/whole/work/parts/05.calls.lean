/-! contracts out of the judgement, and calls -/
def lvA : List Value → LVs
  | [] => []
  | v :: vs => if v.category = 2 then some v :: none :: lvA vs else some v :: lvA vs
theorem lvA_args (g : Gc) : ∀ (av : List Value) (i j : Nat) (v : Value), (lvA av)[j]? = some (some v) → (i + j, cv g v) ∈ lv_args i (av.map (cv g)) := by
  intro av
  induction av with
  | nil => intro i j v h; simp [lvA] at h
  | cons a l ih =>
    intro i j v h
    unfold lvA at h
    show _ ∈ (i, cv g a) :: lv_args (if (cv g a).category = 2 then i + 2 else i + 1) (l.map (cv g))
    rw [cv_cat]
    by_cases hc : a.category = 2
    · rw [if_pos hc] at h ⊢
      match j, h with
      | 0, h => simp at h; subst h; exact List.mem_cons_self
      | 1, h => simp at h
      | j + 2, h =>
        have h2 := ih (i + 2) j v (by simpa using h)
        rw [show i + (j + 2) = i + 2 + j by omega]
        exact List.mem_cons_of_mem _ h2
    · rw [if_neg hc] at h ⊢
      match j, h with
      | 0, h => simp at h; subst h; exact List.mem_cons_self
      | j + 1, h =>
        have h2 := ih (i + 1) j v (by simpa using h)
        rw [show i + (j + 1) = i + 1 + j by omega]
        exact List.mem_cons_of_mem _ h2
theorem lvA_len (g : Gc) : ∀ (av : List Value), (lg_sl (av.map (cv g))).length = (lvA av).length := by
  intro av
  induction av with
  | nil => rfl
  | cons a l ih =>
    have e : lg_sl ((a :: l).map (cv g)) = (if (cv g a).category = 2 then [.val (cv g a), .second] else [.val (cv g a)]) ++ lg_sl (l.map (cv g)) := by
      simp [lg_sl]
    rw [e, cv_cat, List.length_append, ih]
    show _ = (if a.category = 2 then some a :: none :: lvA l else some a :: lvA l).length
    by_cases hc : a.category = 2
    · rw [if_pos hc, if_pos hc]; simp; omega
    · rw [if_neg hc, if_neg hc]; simp; omega
theorem asc_ent {g : Gc} {av : List Value} {k : Nat} : ∀ q ∈ asc g (lvA av ++ List.replicate k none), q ∈ lv_args 0 (av.map (cv g)) := by
  intro q hq
  obtain ⟨v, h1, h2⟩ := mem_asc.mp hq
  by_cases hl : q.1 < (lvA av).length
  · rw [List.getElem?_append_left hl] at h1
    have h3 := lvA_args g av 0 q.1 v h1
    rw [Nat.zero_add, ← h2] at h3
    exact h3
  · rw [List.getElem?_append_right (by omega)] at h1
    rw [List.getElem?_replicate] at h1
    split at h1 <;> simp at h1
/-- what holds of a method that is called -/
def MOK (mi : MI) (np : Nat) : Prop := Cond.code mi.1 mi.2.1 mi.2.2.1 mi.2.2.2 ∈ gw ∧ Cond.initialized mi.1.cls ∈ gw ∧ (mi.1.cls ≠ "java/lang/invoke/MethodHandle" ∧ mi.1.cls ≠ "java/lang/invoke/VarHandle" ∧ (parseMethodDescriptor mi.1.desc).map (fun d => d.parameters.length) = some np) ∧ mi.2.2.1 ≤ 40 ∧ plainName mi.1.cls = true
theorem MOK.of {mi : MI} {np : Nat} (pc pi : Nat) (h1 : lw_tbl[pc]? = some (Cond.code mi.1 mi.2.1 mi.2.2.1 mi.2.2.2)) (h2 : lw_tbl[pi]? = some (Cond.initialized mi.1.cls)) (h3 : mi.1.cls ≠ "java/lang/invoke/MethodHandle" ∧ mi.1.cls ≠ "java/lang/invoke/VarHandle" ∧ (parseMethodDescriptor mi.1.desc).map (fun d => d.parameters.length) = some np) (h4 : mi.2.2.1 ≤ 40) (h5 : plainName mi.1.cls = true) : MOK mi np := ⟨in_gw pc h1 rfl, in_gw pi h2 rfl, h3, h4, h5⟩
theorem K_of {n : Nat} {mi : MI} {av : List Value} {M : Mm} {P : Option Value → Mm → Prop} (np : Nat) (hM : MOK mi np) (lv : LVs) (hlv : lvA av ++ List.replicate (mi.2.2.1 - (lvA av).length) none = lv) (hL : (lvA av).length ≤ mi.2.2.1) (h : J n mi 0 lv [] M P) : K n mi av M P := by
  intro l g sz
  refine Met.ofW (cc := mi.2.1) (maxL := mi.2.2.1) (ret := mi.2.2.2) hM.2.2.2.2 rfl ?_
  intro p e s m args below meth c s₁ B hml hv
  obtain ⟨rfl, rfl, hP, hG, hx1, hx2⟩ := hv
  have hts := atoms_spec (ws := wsM mi) B.pre
  have hown : s.vm.findClass mi.1.cls = some m.cls := findClass_of_methodNamed B.named
  have hr := B.returns
  have hlocks := B.notSynchronized
  have hent := lv_entry (av.map (cv g)) (n := mi.2.2.1) (by rw [lvA_len]; exact hL)
  rw [lg_entry_eq]
  refine h l p e (headSpec (wsM mi) (rmN n)).room s m _ below meth c g (Aw g s.heap.size) 0 0 _ ⟨B.exec, B.bytes, hml, hown, hts, ⟨Nat.le_refl _, Nat.le_refl _⟩, ⟨Nat.le_refl _, Nat.le_refl _⟩, hG, fun q hq => Or.inr hq, fun c hc => Or.inl ⟨c, hc, rfl⟩⟩ ?_ s.heap [] _ ⟨hP, va_S.rf, hx1, hx2⟩ (lh_sub hent (by rw [← hlv]; exact asc_ent))
  intro pcR lsR r M' H' locs' hp hret hH'
  have hq : ∀ t : State, t.heap = H' → s.WarmedH t.vm → Qk g P s.heap.size (av.map (cv g)).toArray s (.returned (r.map (cv g))) t := by
    intro t ht hW
    refine ⟨⟨r, M', hp, rfl, by rw [ht]; exact hH'.1, hH'.2.2.1, hH'.2.2.2⟩, hH'.2.1.F ht⟩
  have hf : ∀ q ∈ locs', Aw g s.heap.size q.base := hH'.2.1.2.2
  rcases hret with ⟨v, ty, rfl, h1, h2, h3⟩ | ⟨v, rfl, h1, h2⟩ | ⟨rfl, h1, h2⟩ | ⟨a, nm, rfl, h1, h2⟩
  · exact W.zret (v := v) (ty := ty) B.exec B.bytes (hr.trans h2) h3 hq hf h1
  · exact W.lret (v := v) B.exec B.bytes (hr.trans h2) hq hf h1
  · exact W.vret B.exec B.bytes (hr.trans h2) hq hf h1
  · exact W.aret (v := .ref (g.1 a)) B.exec B.bytes (hr.trans h2) (Or.inl ⟨nm, rfl⟩) (Or.inr ⟨_, rfl⟩) hq hf h1
theorem K.mono {n : Nat} {mi : MI} {av : List Value} {M : Mm} {P P' : Option Value → Mm → Prop} (h : K n mi av M P) (hP : ∀ r M', P r M' → P' r M') : K n mi av M P' := by
  intro l g sz
  have h1 := h l g sz
  intro p e ha hc hk s m args below h2 h3 h4 h5
  obtain ⟨k, o, g1, g2, g3, g4⟩ := h1 p e ha hc hk s m args below h2 h3 h4 h5
  obtain ⟨⟨⟨r, M', q1, q2⟩, q3⟩, q4⟩ := g4
  exact ⟨k, o, g1, g2, g3, ⟨⟨r, M', hP r M' q1, q2⟩, q3⟩, q4⟩
theorem gi {mi mi' : MI} (h : Cond.code mi'.1 mi'.2.1 mi'.2.2.1 mi'.2.2.2 ∈ gw) : GoodIn (wsM mi) (wsM mi') := by
  intro w hw
  have h1 : w ∈ gw := by
    rcases List.mem_cons.mp hw with e | h2
    · rw [e]; exact h
    · exact h2
  exact ⟨gw_ws h1, good_of_word (List.mem_filter.mp h1).2⟩
theorem Pk_blind (g : Gc) (M : Mm) (sz : Nat) (av : List Value) : FrameBlind (Pk g M sz av) := by
  intro a U g' mk h
  obtain ⟨h1, h2, h3, h4, h5⟩ := h
  exact ⟨h1, h2, h3, Gs.same (u := U) rfl h4, h5⟩
theorem Pk_at {n : Nat} {mi : MI} {p : Program} {R : Room} {s : State} {m : MethodId} {args : Array Value} {c : Code} {g : Gc} {A : Nat → Prop} {cells slots : Nat} {H : Heap} {locs : List Loc} {M : Mm} (av : List Value) (X : Cx n mi p R s m args c g A cells slots) (hH : Hd g M A s H locs) : ∀ U : State, U.heap = H → s.WarmedH U.vm → Pk g M H.size av (av.map (cv g)).toArray U := by
  intro U hU hW
  have hG := X.2.2.2.2.2.2.2.1
  have hA := X.2.2.2.2.2.2.2.2.1
  have hAw := X.2.2.2.2.2.2.2.2.2
  refine ⟨rfl, by rw [hU], by rw [hU]; exact hH.1, ?_, hH.2.2⟩
  rw [hU]
  refine (Gs.moved hW hG).kept hH.2.1.2.1 ?_
  intro q hq
  rcases hq with ⟨c', h1, rfl⟩ | hq
  · exact hAw c' h1
  · exact hA q (Nat.le_trans hH.2.1.1 hq)
section JC
variable {n n' : Nat} {mi mi' : MI} {pc : Nat} {lv : LVs} {st rest : List Value} {M : Mm} {P P' : Option Value → Mm → Prop} {np : Nat}
theorem run_W {p : Program} {l : Launch} {e : Env} {R : Room} {s : State} {m : MethodId} {args : Array Value} {below : List Frame} {meth : Method} {c : Code} {g : Gc} {A : Nat → Prop} {cells slots : Nat} {Q : State → Prop} {H : Heap} {locs : List Loc} {ls : Array Slot} {st0 : List Value} {a : Array Value} (X : Cx n mi p R s m args c g A cells slots) (hH : Hd g M A s H locs)
    (hr : va_Run p l e R s m args below meth c H locs cells slots 0 0 (F0 m pc ls st0) (rest.map (cv g)) (Qk g P' H.size a) (Aw g H.size))
    (k : ∀ (r : Option Value) (M' : Mm) (H1 : Heap) (locs1 : List Loc), P' r M' → Hd g M' A s H1 locs1 → W p l e R s m args below meth c H1 locs1 cells slots Q (F0 m (pc + 3) ls ((r.toList ++ rest).map (cv g)))) : W p l e R s m args below meth c H locs cells slots Q (F0 m pc ls st0) := by
  intro T hT X0
  obtain ⟨v, st₀, t, T', L, h0, X', hL, e1, e2, ⟨⟨r, M', hp, hv, hP1, hx1, hx2⟩, hz, hk⟩, stp⟩ := hr T hT X0
  have hv' : v = r.map (cv g) := by cases hv; rfl
  subst hv'
  rw [h0] at hz hk
  have hA := X.2.2.2.2.2.2.2.2.1
  have hAw := X.2.2.2.2.2.2.2.2.2
  have hfree : ∀ q, Aw g H.size q → A q := by
    intro q hq
    rcases hq with ⟨c', h1, rfl⟩ | hq
    · exact hAw c' h1
    · exact hA q (Nat.le_trans hH.2.1.1 hq)
  have hS1 : va_S A s.heap T'.heap (locs ++ L) := by
    refine ⟨Nat.le_trans hH.2.1.1 (by rw [e1]; exact hz), fun q h1 h2 => ?_, fun q hq => ?_⟩
    · rw [e1, hk q (Nat.lt_of_lt_of_le h1 hH.2.1.1) (fun z => h2 (hfree q z))]
      exact hH.2.1.2.1 q h1 h2
    · rcases List.mem_append.mp hq with h | h
      · exact hH.2.1.2.2 q h
      · exact hfree _ (hL q h)
  have kk := k r M' T'.heap (locs ++ L) hp ⟨by rw [e1]; exact hP1, hS1, hx1, hx2⟩
  obtain ⟨t2, a1, b1⟩ := kk T' rfl X'
  refine ⟨t2, stp t2 ?_, b1⟩
  have e3 : (r.toList ++ rest).map (cv g) = (r.map (cv g)).toList ++ rest.map (cv g) := by cases r <;> simp
  rw [e3] at a1
  exact a1
def CV (mi : MI) (pc : Nat) (mi' : MI) : Prop := ∃ idx : Nat, decode mi.2.1 pc = .ok (.invokevirtual idx, 3) ∧ Cond.methodLink mi.1.cls idx mi'.1 ∈ gw ∧ Cond.instanceMethod mi'.1 ∈ gw ∧ Cond.selects mi'.1.cls mi'.1 mi'.1 ∈ gw
def CS (mi : MI) (pc : Nat) (mi' : MI) : Prop := ∃ idx : Nat, decode mi.2.1 pc = .ok (.invokestatic idx, 3) ∧ Cond.static mi'.1 ∈ gw ∧ (Cond.methodLink mi.1.cls idx mi'.1 ∈ gw ∨ Cond.methodLinkNest mi.1.cls idx mi'.1 "LastPruned" ∈ nestW)
theorem CV.of (idx p1 p2 p3 : Nat) (h0 : decode mi.2.1 pc = .ok (.invokevirtual idx, 3)) (h1 : lw_tbl[p1]? = some (Cond.methodLink mi.1.cls idx mi'.1)) (h2 : lw_tbl[p2]? = some (Cond.instanceMethod mi'.1)) (h3 : lw_tbl[p3]? = some (Cond.selects mi'.1.cls mi'.1 mi'.1)) : CV mi pc mi' := ⟨idx, h0, in_gw p1 h1 rfl, in_gw p2 h2 rfl, in_gw p3 h3 rfl⟩
theorem CS.of (idx p1 p2 : Nat) (h0 : decode mi.2.1 pc = .ok (.invokestatic idx, 3)) (h1 : lw_tbl[p1]? = some (Cond.methodLink mi.1.cls idx mi'.1)) (h2 : lw_tbl[p2]? = some (Cond.static mi'.1)) : CS mi pc mi' := ⟨idx, h0, in_gw p2 h2 rfl, Or.inl (in_gw p1 h1 rfl)⟩
theorem CS.ofN (idx p1 p2 : Nat) (h0 : decode mi.2.1 pc = .ok (.invokestatic idx, 3)) (h1 : lw_tbl[p1]? = some (Cond.methodLinkNest mi.1.cls idx mi'.1 "LastPruned")) (h2 : lw_tbl[p2]? = some (Cond.static mi'.1)) : CS mi pc mi' := ⟨idx, h0, in_gw p2 h2 rfl, Or.inr (List.mem_filter.mpr ⟨List.mem_of_getElem? h1, rfl⟩)⟩
theorem cl_cat (g : Gc) {l : List Value} (h : (l.map fun v => v.category).sum ≤ 8) {m : MethodId} {ls : Array Slot} {st0 : List Value} : 2 * (F0 m pc ls st0).monitorRoom + ((l.map (cv g)).map fun v => v.category).sum ≤ 8 := by
  rw [cv_sum]
  exact lv_room h
theorem J_callS {av : List Value} (hK : K n' mi' av M P') (hC : CS mi pc mi') (hM : MOK mi' np) (hnp : av.length = np) (hn : n' < n) (hst : st = av.reverse ++ rest) (hw : (rest.map fun v => v.category).sum ≤ 8) (k : ∀ r M', P' r M' → J n mi (pc + 3) lv (r.toList ++ rest) M' P) : J n mi pc lv st M P := by
  subst hst
  obtain ⟨idx, hd, hws, hlk⟩ := hC
  intro l p e R s m args below meth c g A cells slots Q X hret H locs ls hH hl
  obtain ⟨hx, hb, hml, hown, hts, hroom, hcs, hG, hA, hAw⟩ := id X
  have hcd := hM.1
  have hR : (rmN n').frames + 1 ≤ R.frames ∧ 8 + (mi'.2.2.1 + 11) + (rmN n').locals ≤ R.locals := by
    have := hM.2.2.2.1
    have h1 : (rmN n').frames = n' := rfl
    have h2 : (rmN n').locals = 60 * n' := rfl
    rw [h1, h2]
    omega
  have hpre : PreS s H (Pk g M H.size av) (av.map (cv g)) := ⟨Pk_blind g M H.size av, Pk_at av X hH⟩
  have hini := hts _ (gw_ws hM.2.1)
  have hstat := hts _ (gw_ws hws)
  have hstk : (F0 m pc ls ((av.reverse ++ rest).map (cv g))).stack = (av.map (cv g)).reverse ++ rest.map (cv g) := by simp
  have hlen : (av.map (cv g)).length = np := by simp [hnp]
  have hrun : va_Run p l e R s m args below meth c H locs cells slots 0 0 (F0 m pc ls ((av.reverse ++ rest).map (cv g))) (rest.map (cv g)) (Qk g P' H.size (av.map (cv g)).toArray) (Aw g H.size) := by
    rcases hlk with hlk | hlk
    · exact va_runS ⟨hx, hb, hml, hown, hts⟩ (hK l g H.size) ⟨callB_of np hts (gi hcd) rfl rfl rfl hini (hts _ (gw_ws hlk)) hM.2.2.1 hR, hstat⟩ hpre rfl hlen hl.1 hstk (cl_cat g hw) hd ⟨hcs.1, hcs.2⟩
    · exact va_runSN ⟨hx, hb, hml, hown, hts⟩ (hK l g H.size) ⟨va_cnB np hts (gi hcd) rfl rfl rfl (hG.2.1 _ hlk) hini hM.2.2.1 hR, hstat, trivial⟩ hpre rfl hlen hl.1 hstk (cl_cat g hw) hd ⟨hcs.1, hcs.2⟩
  exact run_W X hH hrun (fun r M' H1 locs1 hp hH1 => k r M' hp l p e R s m args below meth c g A cells slots Q X hret H1 locs1 ls hH1 hl)
theorem J_callV {As : List Value} {c0 ci : Nat} {C : String} {T : u_T} {N : Nat} (hK : K n' mi' (.ref c0 :: As) M P') (hC : CV mi pc mi') (hM : MOK mi' np) (ho : kd c0 = ci) (hcl : vwCl[ci]? = some (C, T, N)) (hCn : C = mi'.1.cls) (hnp : As.length = np) (hn : n' < n) (hst : st = As.reverse ++ .ref c0 :: rest) (hw : (rest.map fun v => v.category).sum ≤ 8) (k : ∀ r M', P' r M' → J n mi (pc + 3) lv (r.toList ++ rest) M' P) : J n mi pc lv st M P := by
  subst hst
  obtain ⟨idx, hd, hlk, hins, hsel⟩ := hC
  intro l p e R s m args below meth c g A cells slots Q X hret H locs ls hH hl
  obtain ⟨hx, hb, hml, hown, hts, hroom, hcs, hG, hA, hAw⟩ := id X
  have hci : ci ≤ 6 := by
    have := (List.getElem?_eq_some_iff.mp hcl).1
    simp at this
    omega
  have hlt : c0 < 60 := kd_lt (by omega)
  have hcd := hM.1
  have hR : (rmN n').frames + 1 ≤ R.frames ∧ 8 + (mi'.2.2.1 + 11) + (rmN n').locals ≤ R.locals := by
    have := hM.2.2.2.1
    have h1 : (rmN n').frames = n' := rfl
    have h2 : (rmN n').locals = 60 * n' := rfl
    rw [h1, h2]
    omega
  have hrecv := va_recv hG.1 hH.1 (ci := ci) hcl (q0 := c0) (by rw [world_at g M hlt, ent_obj g M ho hci])
  have hCn' : C = mi'.1.cls := hCn
  have hpre : PreV s H mi'.1.cls (g.1 c0) (Pk g M H.size (.ref c0 :: As)) (As.map (cv g)) := ⟨Pk_blind g M H.size _, by rw [← hCn']; exact hrecv, Pk_at (.ref c0 :: As) X hH⟩
  have hini := hts _ (gw_ws hM.2.1)
  have hstk : (F0 m pc ls ((As.reverse ++ .ref c0 :: rest).map (cv g))).stack = (As.map (cv g)).reverse ++ .ref (g.1 c0) :: rest.map (cv g) := by simp [cv]
  have hlen : (As.map (cv g)).length = np := by simp [hnp]
  have hrun : va_Run p l e R s m args below meth c H locs cells slots 0 0 (F0 m pc ls ((As.reverse ++ .ref c0 :: rest).map (cv g))) (rest.map (cv g)) (Qk g P' H.size (Value.ref (g.1 c0) :: As.map (cv g)).toArray) (Aw g H.size) :=
    va_runV ⟨hx, hb, hml, hown, hts⟩ (hK l g H.size) ⟨callB_of np hts (gi hcd) rfl rfl rfl hini (hts _ (gw_ws hlk)) hM.2.2.1 hR, hts _ (gw_ws hins), hts _ (gw_ws hsel)⟩ hpre rfl hlen hl.1 hstk (cl_cat g hw) hd ⟨hcs.1, hcs.2⟩
  exact run_W X hH hrun (fun r M' H1 locs1 hp hH1 => k r M' hp l p e R s m args below meth c g A cells slots Q X hret H1 locs1 ls hH1 hl)
theorem J_callT {As : List Value} {j : Nat} (hj : j < 15) (hK : K n' mi' (.ref (65 + j) :: As) M P') (hC : CV mi pc mi') (hM : MOK mi' np) (hCn : mi'.1.cls = "java/lang/String") (hnp : As.length = np) (hn : n' < n) (hst : st = As.reverse ++ .ref (65 + j) :: rest) (hw : (rest.map fun v => v.category).sum ≤ 8) (k : ∀ r M', P' r M' → J n mi (pc + 3) lv (r.toList ++ rest) M' P) : J n mi pc lv st M P := by
  subst hst
  obtain ⟨idx, hd, hlk, hins, hsel⟩ := hC
  intro l p e R s m args below meth c g A cells slots Q X hret H locs ls hH hl
  obtain ⟨hx, hb, hml, hown, hts, hroom, hcs, hG, hA, hAw⟩ := id X
  have hcd := hM.1
  have hR : (rmN n').frames + 1 ≤ R.frames ∧ 8 + (mi'.2.2.1 + 11) + (rmN n').locals ≤ R.locals := by
    have := hM.2.2.2.1
    have h1 : (rmN n').frames = n' := rfl
    have h2 : (rmN n').locals = 60 * n' := rfl
    rw [h1, h2]
    omega
  have hrecv := vk_recv hG.2.2.2.2.2.2.1 hj hH.2.1
  have hpre : PreV s H mi'.1.cls (g.1 (65 + j)) (Pk g M H.size (.ref (65 + j) :: As)) (As.map (cv g)) := ⟨Pk_blind g M H.size _, by rw [hCn]; exact hrecv, Pk_at (.ref (65 + j) :: As) X hH⟩
  have hini := hts _ (gw_ws hM.2.1)
  have hstk : (F0 m pc ls ((As.reverse ++ .ref (65 + j) :: rest).map (cv g))).stack = (As.map (cv g)).reverse ++ .ref (g.1 (65 + j)) :: rest.map (cv g) := by simp [cv]
  have hlen : (As.map (cv g)).length = np := by simp [hnp]
  have hrun : va_Run p l e R s m args below meth c H locs cells slots 0 0 (F0 m pc ls ((As.reverse ++ .ref (65 + j) :: rest).map (cv g))) (rest.map (cv g)) (Qk g P' H.size (Value.ref (g.1 (65 + j)) :: As.map (cv g)).toArray) (Aw g H.size) :=
    va_runV ⟨hx, hb, hml, hown, hts⟩ (hK l g H.size) ⟨callB_of np hts (gi hcd) rfl rfl rfl hini (hts _ (gw_ws hlk)) hM.2.2.1 hR, hts _ (gw_ws hins), hts _ (gw_ws hsel)⟩ hpre rfl hlen hl.1 hstk (cl_cat g hw) hd ⟨hcs.1, hcs.2⟩
  exact run_W X hH hrun (fun r M' H1 locs1 hp hH1 => k r M' hp l p e R s m args below meth c g A cells slots Q X hret H1 locs1 ls hH1 hl)
end JC
