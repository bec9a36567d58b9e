/-! rows of the judgement, one an instruction -/
theorem cv_cat (g : Gc) (v : Value) : (cv g v).category = v.category := by cases v <;> rfl
theorem cv_sum (g : Gc) (st : List Value) : ((st.map (cv g)).map fun v => v.category).sum = (st.map fun v => v.category).sum := by
  induction st with
  | nil => rfl
  | cons a l ih => simp only [List.map_cons, List.sum_cons, cv_cat, ih]
def gl (lv : LVs) (i : Nat) : Option Value := lv.getD i none
def nl (lv : LVs) : Nat → Prop
  | 0 => True
  | j + 1 => match gl lv j with
    | some (.long _) => False
    | some (.double _) => False
    | _ => True
theorem gl_some {lv : LVs} {i : Nat} {v : Value} (h : gl lv i = some v) : lv[i]? = some (some v) := by
  unfold gl at h
  rw [List.getD_eq_getElem?_getD] at h
  cases e : lv[i]? with
  | none => rw [e] at h; simp at h
  | some o => rw [e] at h; simp at h; rw [h]
theorem nl_of {lv : LVs} {i j : Nat} {v : Value} (h : nl lv i) (hv : lv[j]? = some (some v)) (hj : j + 1 = i) : v.category ≠ 2 := by
  subst hj
  have e : gl lv j = some v := by unfold gl; rw [List.getD_eq_getElem?_getD, hv]; rfl
  simp only [nl, e] at h
  cases v <;> simp_all [Value.category]
theorem asc_st1 {g : Gc} {lv : LVs} {i : Nat} {v : Value} (hn : nl lv i) : ∀ q ∈ asc g (lv.set i (some v)), q ∈ (i, cv g v) :: (asc g lv).filter (fun q => !(q.1 == i) && !(q.1 + 1 == i && q.2.category == 2)) := by
  intro q hq
  obtain ⟨w, h1, h2⟩ := mem_asc.mp hq
  rw [List.getElem?_set] at h1
  by_cases e : i = q.1
  · rw [if_pos e] at h1
    split at h1
    · cases h1
      obtain ⟨q1, q2⟩ := q
      subst e
      simp at h2
      rw [h2]
      exact List.mem_cons_self
    · cases h1
  · rw [if_neg e] at h1
    refine List.mem_cons_of_mem _ (List.mem_filter.mpr ⟨mem_asc.mpr ⟨w, h1, h2⟩, ?_⟩)
    have e' : ¬ q.1 = i := fun z => e z.symm
    by_cases hj : q.1 + 1 = i
    · have h := nl_of hn h1 hj
      simp [e', h2, cv_cat, h]
    · simp [e', hj]
theorem asc_st2 {g : Gc} {lv : LVs} {i : Nat} {v : Value} (hn : nl lv i) : ∀ q ∈ asc g ((lv.set i (some v)).set (i + 1) none), q ∈ (i, cv g v) :: (asc g lv).filter (fun q => !(q.1 == i) && (!(q.1 == i + 1) && !(q.1 + 1 == i && q.2.category == 2))) := by
  intro q hq
  obtain ⟨w, h1, h2⟩ := mem_asc.mp hq
  rw [List.getElem?_set] at h1
  by_cases e2 : i + 1 = q.1
  · rw [if_pos e2] at h1
    split at h1 <;> simp at h1
  · rw [if_neg e2] at h1
    have h3 := asc_st1 (g := g) (v := v) hn q (mem_asc.mpr ⟨w, h1, h2⟩)
    rcases List.mem_cons.mp h3 with h | h
    · rw [h]; exact List.mem_cons_self
    · refine List.mem_cons_of_mem _ ?_
      rw [List.mem_filter] at h ⊢
      refine ⟨h.1, ?_⟩
      have e3 : ¬ q.1 = i + 1 := fun z => e2 z.symm
      have h4 := h.2
      simp at h4
      simp [e3]
      exact h4
section JR
variable {n : Nat} {mi : MI} {pc : Nat} {lv : LVs} {st : List Value} {M : Mm} {P : Option Value → Mm → Prop}
theorem J_iadd {x y : Int32} (hd : decode mi.2.1 pc = .ok (.iadd, 1))  (h : J n mi (pc + 1) lv (.int (x + y) :: st) M P) : J n mi pc lv (.int y :: .int x :: st) M P := by
  intro l p e R s m args below meth c g A cells slots Q X hret H locs ls hH hl
  exact lv_iadd X.1 X.2.1 hd  (h l p e R s m args below meth c g A cells slots Q X hret H locs ls hH hl)
theorem J_isub {x y : Int32} (hd : decode mi.2.1 pc = .ok (.isub, 1))  (h : J n mi (pc + 1) lv (.int (x - y) :: st) M P) : J n mi pc lv (.int y :: .int x :: st) M P := by
  intro l p e R s m args below meth c g A cells slots Q X hret H locs ls hH hl
  exact lv_isub X.1 X.2.1 hd  (h l p e R s m args below meth c g A cells slots Q X hret H locs ls hH hl)
theorem J_imul {x y : Int32} (hd : decode mi.2.1 pc = .ok (.imul, 1))  (h : J n mi (pc + 1) lv (.int (x * y) :: st) M P) : J n mi pc lv (.int y :: .int x :: st) M P := by
  intro l p e R s m args below meth c g A cells slots Q X hret H locs ls hH hl
  exact lv_imul X.1 X.2.1 hd  (h l p e R s m args below meth c g A cells slots Q X hret H locs ls hH hl)
theorem J_iand {x y : Int32} (hd : decode mi.2.1 pc = .ok (.iand, 1))  (h : J n mi (pc + 1) lv (.int (x &&& y) :: st) M P) : J n mi pc lv (.int y :: .int x :: st) M P := by
  intro l p e R s m args below meth c g A cells slots Q X hret H locs ls hH hl
  exact lv_iand X.1 X.2.1 hd  (h l p e R s m args below meth c g A cells slots Q X hret H locs ls hH hl)
theorem J_ior {x y : Int32} (hd : decode mi.2.1 pc = .ok (.ior, 1))  (h : J n mi (pc + 1) lv (.int (x ||| y) :: st) M P) : J n mi pc lv (.int y :: .int x :: st) M P := by
  intro l p e R s m args below meth c g A cells slots Q X hret H locs ls hH hl
  exact lv_ior X.1 X.2.1 hd  (h l p e R s m args below meth c g A cells slots Q X hret H locs ls hH hl)
theorem J_ixor {x y : Int32} (hd : decode mi.2.1 pc = .ok (.ixor, 1))  (h : J n mi (pc + 1) lv (.int (x ^^^ y) :: st) M P) : J n mi pc lv (.int y :: .int x :: st) M P := by
  intro l p e R s m args below meth c g A cells slots Q X hret H locs ls hH hl
  exact lv_ixor X.1 X.2.1 hd  (h l p e R s m args below meth c g A cells slots Q X hret H locs ls hH hl)
theorem J_ishl {x y : Int32} (hd : decode mi.2.1 pc = .ok (.ishl, 1))  (h : J n mi (pc + 1) lv (.int (x <<< (y &&& 31)) :: st) M P) : J n mi pc lv (.int y :: .int x :: st) M P := by
  intro l p e R s m args below meth c g A cells slots Q X hret H locs ls hH hl
  exact lv_ishl X.1 X.2.1 hd  (h l p e R s m args below meth c g A cells slots Q X hret H locs ls hH hl)
theorem J_ishr {x y : Int32} (hd : decode mi.2.1 pc = .ok (.ishr, 1))  (h : J n mi (pc + 1) lv (.int (x >>> (y &&& 31)) :: st) M P) : J n mi pc lv (.int y :: .int x :: st) M P := by
  intro l p e R s m args below meth c g A cells slots Q X hret H locs ls hH hl
  exact lv_ishr X.1 X.2.1 hd  (h l p e R s m args below meth c g A cells slots Q X hret H locs ls hH hl)
theorem J_idiv {x y : Int32} (hd : decode mi.2.1 pc = .ok (.idiv, 1)) (hne : ¬ y = 0) (h : J n mi (pc + 1) lv (.int (x / y) :: st) M P) : J n mi pc lv (.int y :: .int x :: st) M P := by
  intro l p e R s m args below meth c g A cells slots Q X hret H locs ls hH hl
  exact lv_idiv X.1 X.2.1 hd hne (h l p e R s m args below meth c g A cells slots Q X hret H locs ls hH hl)
theorem J_irem {x y : Int32} (hd : decode mi.2.1 pc = .ok (.irem, 1)) (hne : ¬ y = 0) (h : J n mi (pc + 1) lv (.int (x - x / y * y) :: st) M P) : J n mi pc lv (.int y :: .int x :: st) M P := by
  intro l p e R s m args below meth c g A cells slots Q X hret H locs ls hH hl
  exact lv_irem X.1 X.2.1 hd hne (h l p e R s m args below meth c g A cells slots Q X hret H locs ls hH hl)
theorem J_iushr {x y : Int32} (hd : decode mi.2.1 pc = .ok (.iushr, 1))  (h : J n mi (pc + 1) lv (.int (x.toUInt32 >>> (y.toUInt32 &&& Int32.toUInt32 31)).toInt32 :: st) M P) : J n mi pc lv (.int y :: .int x :: st) M P := by
  intro l p e R s m args below meth c g A cells slots Q X hret H locs ls hH hl
  exact lv_iushr X.1 X.2.1 hd rfl (h l p e R s m args below meth c g A cells slots Q X hret H locs ls hH hl)
theorem J_ladd {x y : Int64} (hd : decode mi.2.1 pc = .ok (.ladd, 1))  (h : J n mi (pc + 1) lv (.long (x + y) :: st) M P) : J n mi pc lv (.long y :: .long x :: st) M P := by
  intro l p e R s m args below meth c g A cells slots Q X hret H locs ls hH hl
  exact lv_ladd X.1 X.2.1 hd  (h l p e R s m args below meth c g A cells slots Q X hret H locs ls hH hl)
theorem J_lsub {x y : Int64} (hd : decode mi.2.1 pc = .ok (.lsub, 1))  (h : J n mi (pc + 1) lv (.long (x - y) :: st) M P) : J n mi pc lv (.long y :: .long x :: st) M P := by
  intro l p e R s m args below meth c g A cells slots Q X hret H locs ls hH hl
  exact lv_lsub X.1 X.2.1 hd  (h l p e R s m args below meth c g A cells slots Q X hret H locs ls hH hl)
theorem J_lmul {x y : Int64} (hd : decode mi.2.1 pc = .ok (.lmul, 1))  (h : J n mi (pc + 1) lv (.long (x * y) :: st) M P) : J n mi pc lv (.long y :: .long x :: st) M P := by
  intro l p e R s m args below meth c g A cells slots Q X hret H locs ls hH hl
  exact lv_lmul X.1 X.2.1 hd  (h l p e R s m args below meth c g A cells slots Q X hret H locs ls hH hl)
theorem J_land {x y : Int64} (hd : decode mi.2.1 pc = .ok (.land, 1))  (h : J n mi (pc + 1) lv (.long (x &&& y) :: st) M P) : J n mi pc lv (.long y :: .long x :: st) M P := by
  intro l p e R s m args below meth c g A cells slots Q X hret H locs ls hH hl
  exact lv_land X.1 X.2.1 hd  (h l p e R s m args below meth c g A cells slots Q X hret H locs ls hH hl)
theorem J_lor {x y : Int64} (hd : decode mi.2.1 pc = .ok (.lor, 1))  (h : J n mi (pc + 1) lv (.long (x ||| y) :: st) M P) : J n mi pc lv (.long y :: .long x :: st) M P := by
  intro l p e R s m args below meth c g A cells slots Q X hret H locs ls hH hl
  exact lv_lor X.1 X.2.1 hd  (h l p e R s m args below meth c g A cells slots Q X hret H locs ls hH hl)
theorem J_ldiv {x y : Int64} (hd : decode mi.2.1 pc = .ok (.ldiv, 1)) (hne : ¬ y = 0) (h : J n mi (pc + 1) lv (.long (x / y) :: st) M P) : J n mi pc lv (.long y :: .long x :: st) M P := by
  intro l p e R s m args below meth c g A cells slots Q X hret H locs ls hH hl
  exact lv_ldiv X.1 X.2.1 hd hne (h l p e R s m args below meth c g A cells slots Q X hret H locs ls hH hl)
theorem J_lrem {x y : Int64} (hd : decode mi.2.1 pc = .ok (.lrem, 1)) (hne : ¬ y = 0) (h : J n mi (pc + 1) lv (.long (x - x / y * y) :: st) M P) : J n mi pc lv (.long y :: .long x :: st) M P := by
  intro l p e R s m args below meth c g A cells slots Q X hret H locs ls hH hl
  exact lv_lrem X.1 X.2.1 hd hne (h l p e R s m args below meth c g A cells slots Q X hret H locs ls hH hl)
theorem J_lushr {x : Int64} {y : Int32} (hd : decode mi.2.1 pc = .ok (.lushr, 1))  (h : J n mi (pc + 1) lv (.long (x.toUInt64 >>> (y.toInt64.toUInt64 &&& Int64.toUInt64 63)).toInt64 :: st) M P) : J n mi pc lv (.int y :: .long x :: st) M P := by
  intro l p e R s m args below meth c g A cells slots Q X hret H locs ls hH hl
  exact lv_lushr X.1 X.2.1 hd rfl (h l p e R s m args below meth c g A cells slots Q X hret H locs ls hH hl)
theorem J_lshl {x : Int64} {y : Int32} (hd : decode mi.2.1 pc = .ok (.lshl, 1))  (h : J n mi (pc + 1) lv (.long (x <<< (y.toInt64 &&& 63)) :: st) M P) : J n mi pc lv (.int y :: .long x :: st) M P := by
  intro l p e R s m args below meth c g A cells slots Q X hret H locs ls hH hl
  exact lv_lshl X.1 X.2.1 hd rfl (h l p e R s m args below meth c g A cells slots Q X hret H locs ls hH hl)
theorem J_lshr {x : Int64} {y : Int32} (hd : decode mi.2.1 pc = .ok (.lshr, 1))  (h : J n mi (pc + 1) lv (.long (x >>> (y.toInt64 &&& 63)) :: st) M P) : J n mi pc lv (.int y :: .long x :: st) M P := by
  intro l p e R s m args below meth c g A cells slots Q X hret H locs ls hH hl
  exact lv_lshr X.1 X.2.1 hd rfl (h l p e R s m args below meth c g A cells slots Q X hret H locs ls hH hl)
theorem J_lcmp {x y : Int64} (hd : decode mi.2.1 pc = .ok (.lcmp, 1))  (h : J n mi (pc + 1) lv (.int (lg_cmp x y) :: st) M P) : J n mi pc lv (.long y :: .long x :: st) M P := by
  intro l p e R s m args below meth c g A cells slots Q X hret H locs ls hH hl
  exact W.lcmp X.1 X.2.1 hd  (h l p e R s m args below meth c g A cells slots Q X hret H locs ls hH hl)
theorem J_i2l {x : Int32} (hd : decode mi.2.1 pc = .ok (.i2l, 1))  (h : J n mi (pc + 1) lv (.long x.toInt64 :: st) M P) : J n mi pc lv (.int x :: st) M P := by
  intro l p e R s m args below meth c g A cells slots Q X hret H locs ls hH hl
  exact lv_i2l X.1 X.2.1 hd rfl (h l p e R s m args below meth c g A cells slots Q X hret H locs ls hH hl)
theorem J_l2i {x : Int64} (hd : decode mi.2.1 pc = .ok (.l2i, 1))  (h : J n mi (pc + 1) lv (.int x.toInt32 :: st) M P) : J n mi pc lv (.long x :: st) M P := by
  intro l p e R s m args below meth c g A cells slots Q X hret H locs ls hH hl
  exact lv_l2i X.1 X.2.1 hd rfl (h l p e R s m args below meth c g A cells slots Q X hret H locs ls hH hl)
theorem J_i2b {x : Int32} (hd : decode mi.2.1 pc = .ok (.i2b, 1))  (h : J n mi (pc + 1) lv (.int x.toInt8.toInt32 :: st) M P) : J n mi pc lv (.int x :: st) M P := by
  intro l p e R s m args below meth c g A cells slots Q X hret H locs ls hH hl
  exact lv_i2b X.1 X.2.1 hd rfl (h l p e R s m args below meth c g A cells slots Q X hret H locs ls hH hl)
theorem J_i2s {x : Int32} (hd : decode mi.2.1 pc = .ok (.i2s, 1))  (h : J n mi (pc + 1) lv (.int x.toInt16.toInt32 :: st) M P) : J n mi pc lv (.int x :: st) M P := by
  intro l p e R s m args below meth c g A cells slots Q X hret H locs ls hH hl
  exact lv_i2s X.1 X.2.1 hd rfl (h l p e R s m args below meth c g A cells slots Q X hret H locs ls hH hl)
theorem J_i2c {x : Int32} (hd : decode mi.2.1 pc = .ok (.i2c, 1))  (h : J n mi (pc + 1) lv (.int (x.toUInt32 % 65536).toInt32 :: st) M P) : J n mi pc lv (.int x :: st) M P := by
  intro l p e R s m args below meth c g A cells slots Q X hret H locs ls hH hl
  exact lv_i2c X.1 X.2.1 hd rfl (h l p e R s m args below meth c g A cells slots Q X hret H locs ls hH hl)
theorem J_dup {v : Value} (hd : decode mi.2.1 pc = .ok (.dup, 1)) (hc : v.category = 1) (h : J n mi (pc + 1) lv (v :: v :: st) M P) : J n mi pc lv (v :: st) M P := by
  intro l p e R s m args below meth c g A cells slots Q X hret H locs ls hH hl
  exact lv_dup X.1 X.2.1 hd ((cv_cat _ _).trans hc) (h l p e R s m args below meth c g A cells slots Q X hret H locs ls hH hl)
theorem J_pop {v : Value} (hd : decode mi.2.1 pc = .ok (.pop, 1)) (hc : v.category = 1) (h : J n mi (pc + 1) lv (st) M P) : J n mi pc lv (v :: st) M P := by
  intro l p e R s m args below meth c g A cells slots Q X hret H locs ls hH hl
  exact lv_pop X.1 X.2.1 hd ((cv_cat _ _).trans hc) (h l p e R s m args below meth c g A cells slots Q X hret H locs ls hH hl)
theorem J_dup2 {v w : Value} (hd : decode mi.2.1 pc = .ok (.dup2, 1)) (hc : v.category = 1) (hc2 : w.category = 1) (h : J n mi (pc + 1) lv (v :: w :: v :: w :: st) M P) : J n mi pc lv (v :: w :: st) M P := by
  intro l p e R s m args below meth c g A cells slots Q X hret H locs ls hH hl
  exact lv_dup2_11 X.1 X.2.1 hd ((cv_cat _ _).trans hc) ((cv_cat _ _).trans hc2) (h l p e R s m args below meth c g A cells slots Q X hret H locs ls hH hl)
theorem J_dup2l {v : Value} (hd : decode mi.2.1 pc = .ok (.dup2, 1)) (hc : v.category = 2) (h : J n mi (pc + 1) lv (v :: v :: st) M P) : J n mi pc lv (v :: st) M P := by
  intro l p e R s m args below meth c g A cells slots Q X hret H locs ls hH hl
  exact lv_dup2_2 X.1 X.2.1 hd ((cv_cat _ _).trans hc) (h l p e R s m args below meth c g A cells slots Q X hret H locs ls hH hl)
theorem J_iconst {k : Int} (hd : decode mi.2.1 pc = .ok (.iconst k, 1))  (h : J n mi (pc + 1) lv (.int (Int32.ofInt k) :: st) M P) : J n mi pc lv (st) M P := by
  intro l p e R s m args below meth c g A cells slots Q X hret H locs ls hH hl
  exact lv_iconst X.1 X.2.1 hd rfl (h l p e R s m args below meth c g A cells slots Q X hret H locs ls hH hl)
theorem J_bipush {k : Int} (hd : decode mi.2.1 pc = .ok (.bipush k, 2)) (hk : (Int8.ofInt k).toInt32 = Int32.ofInt k) (h : J n mi (pc + 2) lv (.int (Int32.ofInt k) :: st) M P) : J n mi pc lv (st) M P := by
  intro l p e R s m args below meth c g A cells slots Q X hret H locs ls hH hl
  exact lv_bipush X.1 X.2.1 hd hk (h l p e R s m args below meth c g A cells slots Q X hret H locs ls hH hl)
theorem J_sipush {k : Int} (hd : decode mi.2.1 pc = .ok (.sipush k, 3)) (hk : (Int16.ofInt k).toInt32 = Int32.ofInt k) (h : J n mi (pc + 3) lv (.int (Int32.ofInt k) :: st) M P) : J n mi pc lv (st) M P := by
  intro l p e R s m args below meth c g A cells slots Q X hret H locs ls hH hl
  exact lv_sipush X.1 X.2.1 hd hk (h l p e R s m args below meth c g A cells slots Q X hret H locs ls hH hl)
theorem J_lconst {k : Fin 2} (hd : decode mi.2.1 pc = .ok (.lconst k, 1))  (h : J n mi (pc + 1) lv (.long (Int64.ofNat (k : Nat)) :: st) M P) : J n mi pc lv (st) M P := by
  intro l p e R s m args below meth c g A cells slots Q X hret H locs ls hH hl
  exact lv_lconst X.1 X.2.1 hd rfl (h l p e R s m args below meth c g A cells slots Q X hret H locs ls hH hl)
theorem J_iload_n {k : Fin 4} {x : Int32} (hd : decode mi.2.1 pc = .ok (.iload_n k, 1)) (hk : gl lv k = some (.int x)) (h : J n mi (pc + 1) lv (.int x :: st) M P) : J n mi pc lv (st) M P := by
  intro l p e R s m args below meth c g A cells slots Q X hret H locs ls hH hl
  exact lv_iload_n X.1 X.2.1 hd rfl (lh_get hl (gl_some hk)) (h l p e R s m args below meth c g A cells slots Q X hret H locs ls hH hl)
theorem J_iload {k : Nat} {x : Int32} (hd : decode mi.2.1 pc = .ok (.iload k, 2)) (hk : gl lv k = some (.int x)) (h : J n mi (pc + 2) lv (.int x :: st) M P) : J n mi pc lv (st) M P := by
  intro l p e R s m args below meth c g A cells slots Q X hret H locs ls hH hl
  exact lv_iload X.1 X.2.1 hd (lh_get hl (gl_some hk)) (h l p e R s m args below meth c g A cells slots Q X hret H locs ls hH hl)
theorem J_lload_n {k : Fin 4} {x : Int64} (hd : decode mi.2.1 pc = .ok (.lload_n k, 1)) (hk : gl lv k = some (.long x)) (h : J n mi (pc + 1) lv (.long x :: st) M P) : J n mi pc lv (st) M P := by
  intro l p e R s m args below meth c g A cells slots Q X hret H locs ls hH hl
  exact lv_lload_n X.1 X.2.1 hd rfl (lh_get hl (gl_some hk)) (h l p e R s m args below meth c g A cells slots Q X hret H locs ls hH hl)
theorem J_lload {k : Nat} {x : Int64} (hd : decode mi.2.1 pc = .ok (.lload k, 2)) (hk : gl lv k = some (.long x)) (h : J n mi (pc + 2) lv (.long x :: st) M P) : J n mi pc lv (st) M P := by
  intro l p e R s m args below meth c g A cells slots Q X hret H locs ls hH hl
  exact lv_lload X.1 X.2.1 hd (lh_get hl (gl_some hk)) (h l p e R s m args below meth c g A cells slots Q X hret H locs ls hH hl)
theorem J_aload_n {k : Fin 4} {x : Nat} (hd : decode mi.2.1 pc = .ok (.aload_n k, 1)) (hk : gl lv k = some (.ref x)) (h : J n mi (pc + 1) lv (.ref x :: st) M P) : J n mi pc lv (st) M P := by
  intro l p e R s m args below meth c g A cells slots Q X hret H locs ls hH hl
  exact lv_aload_n X.1 X.2.1 hd rfl (lh_get hl (gl_some hk)) (h l p e R s m args below meth c g A cells slots Q X hret H locs ls hH hl)
theorem J_aload {k : Nat} {x : Nat} (hd : decode mi.2.1 pc = .ok (.aload k, 2)) (hk : gl lv k = some (.ref x)) (h : J n mi (pc + 2) lv (.ref x :: st) M P) : J n mi pc lv (st) M P := by
  intro l p e R s m args below meth c g A cells slots Q X hret H locs ls hH hl
  exact lv_aload X.1 X.2.1 hd (lh_get hl (gl_some hk)) (h l p e R s m args below meth c g A cells slots Q X hret H locs ls hH hl)
theorem J_istore_n {k : Fin 4} {x : Int32} (hd : decode mi.2.1 pc = .ok (.istore_n k, 1)) (hi : (k : Nat) < mi.2.2.1) (hn : nl lv k) (h : J n mi (pc + 1) (lv.set k (some (.int x))) st M P) : J n mi pc lv (.int x :: st) M P := by
  intro l p e R s m args below meth c g A cells slots Q X hret H locs ls hH hl
  exact lv_istore_n X.1 X.2.1 hd rfl hl hi rfl (fun ls' hl' => h l p e R s m args below meth c g A cells slots Q X hret H locs ls' hH (lh_sub hl' (asc_st1 (v := .int x) hn)))
theorem J_istore {k : Nat} {x : Int32} (hd : decode mi.2.1 pc = .ok (.istore k, 2)) (hi : k < mi.2.2.1) (hn : nl lv k) (h : J n mi (pc + 2) (lv.set k (some (.int x))) st M P) : J n mi pc lv (.int x :: st) M P := by
  intro l p e R s m args below meth c g A cells slots Q X hret H locs ls hH hl
  exact lv_istore X.1 X.2.1 hd hl hi rfl (fun ls' hl' => h l p e R s m args below meth c g A cells slots Q X hret H locs ls' hH (lh_sub hl' (asc_st1 (v := .int x) hn)))
theorem J_lstore_n {k : Fin 4} {x : Int64} (hd : decode mi.2.1 pc = .ok (.lstore_n k, 1)) (hi : (k : Nat) + 1 < mi.2.2.1) (hn : nl lv k) (h : J n mi (pc + 1) ((lv.set k (some (.long x))).set (k + 1) none) st M P) : J n mi pc lv (.long x :: st) M P := by
  intro l p e R s m args below meth c g A cells slots Q X hret H locs ls hH hl
  exact lv_lstore_n X.1 X.2.1 hd rfl hl hi rfl (fun ls' hl' => h l p e R s m args below meth c g A cells slots Q X hret H locs ls' hH (lh_sub hl' (asc_st2 (v := .long x) hn)))
theorem J_lstore {k : Nat} {x : Int64} (hd : decode mi.2.1 pc = .ok (.lstore k, 2)) (hi : k + 1 < mi.2.2.1) (hn : nl lv k) (h : J n mi (pc + 2) ((lv.set k (some (.long x))).set (k + 1) none) st M P) : J n mi pc lv (.long x :: st) M P := by
  intro l p e R s m args below meth c g A cells slots Q X hret H locs ls hH hl
  exact lv_lstore X.1 X.2.1 hd hl hi rfl (fun ls' hl' => h l p e R s m args below meth c g A cells slots Q X hret H locs ls' hH (lh_sub hl' (asc_st2 (v := .long x) hn)))
theorem J_astore_n {k : Fin 4} {x : Nat} (hd : decode mi.2.1 pc = .ok (.astore_n k, 1)) (hi : (k : Nat) < mi.2.2.1) (hn : nl lv k) (h : J n mi (pc + 1) (lv.set k (some (.ref x))) st M P) : J n mi pc lv (.ref x :: st) M P := by
  intro l p e R s m args below meth c g A cells slots Q X hret H locs ls hH hl
  exact lv_astore_n X.1 X.2.1 hd rfl hl hi rfl (fun ls' hl' => h l p e R s m args below meth c g A cells slots Q X hret H locs ls' hH (lh_sub hl' (asc_st1 (v := .ref x) hn)))
theorem J_astore {k : Nat} {x : Nat} (hd : decode mi.2.1 pc = .ok (.astore k, 2)) (hi : k < mi.2.2.1) (hn : nl lv k) (h : J n mi (pc + 2) (lv.set k (some (.ref x))) st M P) : J n mi pc lv (.ref x :: st) M P := by
  intro l p e R s m args below meth c g A cells slots Q X hret H locs ls hH hl
  exact lv_astore X.1 X.2.1 hd hl hi rfl (fun ls' hl' => h l p e R s m args below meth c g A cells slots Q X hret H locs ls' hH (lh_sub hl' (asc_st1 (v := .ref x) hn)))
theorem J_iinc {k : Nat} {d : Int} {x : Int32} (hd : decode mi.2.1 pc = .ok (.iinc k d, 3)) (hk : gl lv k = some (.int x)) (hi : k < mi.2.2.1) (hn : nl lv k) (h : J n mi (pc + 3) (lv.set k (some (.int (x + Int32.ofInt d)))) st M P) : J n mi pc lv st M P := by
  intro l p e R s m args below meth c g A cells slots Q X hret H locs ls hH hl
  obtain ⟨j, hj⟩ := List.getElem?_of_mem (mem_asc.mpr ⟨.int x, gl_some hk, rfl⟩ : (k, cv g (.int x)) ∈ asc g lv)
  exact lv_iinc X.1 X.2.1 hd hl hj rfl hi rfl (fun ls' hl' => h l p e R s m args below meth c g A cells slots Q X hret H locs ls' hH (lh_sub hl' (asc_st1 (v := .int (x + Int32.ofInt d)) hn)))
theorem J_if_eq {x : Int32} {off : Int} {tgt : Nat} (hd : decode mi.2.1 pc = .ok (.ifCond .eq off, 3)) (ht : (pc : Int) + off = (tgt : Int)) (kt : x = 0 → J n mi tgt lv st M P) (kf : ¬ x = 0 → J n mi (pc + 3) lv st M P) : J n mi pc lv (.int x :: st) M P := by
  intro l p e R s m args below meth c g A cells slots Q X hret H locs ls hH hl
  exact lv_if_eq X.1 X.2.1 hd ht (fun q => kt q l p e R s m args below meth c g A cells slots Q X hret H locs ls hH hl) (fun q => kf q l p e R s m args below meth c g A cells slots Q X hret H locs ls hH hl)
theorem J_if_ne {x : Int32} {off : Int} {tgt : Nat} (hd : decode mi.2.1 pc = .ok (.ifCond .ne off, 3)) (ht : (pc : Int) + off = (tgt : Int)) (kt : ¬ x = 0 → J n mi tgt lv st M P) (kf : x = 0 → J n mi (pc + 3) lv st M P) : J n mi pc lv (.int x :: st) M P := by
  intro l p e R s m args below meth c g A cells slots Q X hret H locs ls hH hl
  exact lv_if_ne X.1 X.2.1 hd ht (fun q => kt q l p e R s m args below meth c g A cells slots Q X hret H locs ls hH hl) (fun q => kf q l p e R s m args below meth c g A cells slots Q X hret H locs ls hH hl)
theorem J_if_lt {x : Int32} {off : Int} {tgt : Nat} (hd : decode mi.2.1 pc = .ok (.ifCond .lt off, 3)) (ht : (pc : Int) + off = (tgt : Int)) (kt : x < 0 → J n mi tgt lv st M P) (kf : ¬ x < 0 → J n mi (pc + 3) lv st M P) : J n mi pc lv (.int x :: st) M P := by
  intro l p e R s m args below meth c g A cells slots Q X hret H locs ls hH hl
  exact lv_if_lt X.1 X.2.1 hd ht (fun q => kt q l p e R s m args below meth c g A cells slots Q X hret H locs ls hH hl) (fun q => kf q l p e R s m args below meth c g A cells slots Q X hret H locs ls hH hl)
theorem J_if_ge {x : Int32} {off : Int} {tgt : Nat} (hd : decode mi.2.1 pc = .ok (.ifCond .ge off, 3)) (ht : (pc : Int) + off = (tgt : Int)) (kt : 0 ≤ x → J n mi tgt lv st M P) (kf : ¬ 0 ≤ x → J n mi (pc + 3) lv st M P) : J n mi pc lv (.int x :: st) M P := by
  intro l p e R s m args below meth c g A cells slots Q X hret H locs ls hH hl
  exact lv_if_ge X.1 X.2.1 hd ht (fun q => kt q l p e R s m args below meth c g A cells slots Q X hret H locs ls hH hl) (fun q => kf q l p e R s m args below meth c g A cells slots Q X hret H locs ls hH hl)
theorem J_if_gt {x : Int32} {off : Int} {tgt : Nat} (hd : decode mi.2.1 pc = .ok (.ifCond .gt off, 3)) (ht : (pc : Int) + off = (tgt : Int)) (kt : 0 < x → J n mi tgt lv st M P) (kf : ¬ 0 < x → J n mi (pc + 3) lv st M P) : J n mi pc lv (.int x :: st) M P := by
  intro l p e R s m args below meth c g A cells slots Q X hret H locs ls hH hl
  exact lv_if_gt X.1 X.2.1 hd ht (fun q => kt q l p e R s m args below meth c g A cells slots Q X hret H locs ls hH hl) (fun q => kf q l p e R s m args below meth c g A cells slots Q X hret H locs ls hH hl)
theorem J_if_le {x : Int32} {off : Int} {tgt : Nat} (hd : decode mi.2.1 pc = .ok (.ifCond .le off, 3)) (ht : (pc : Int) + off = (tgt : Int)) (kt : x ≤ 0 → J n mi tgt lv st M P) (kf : ¬ x ≤ 0 → J n mi (pc + 3) lv st M P) : J n mi pc lv (.int x :: st) M P := by
  intro l p e R s m args below meth c g A cells slots Q X hret H locs ls hH hl
  exact lv_if_le X.1 X.2.1 hd ht (fun q => kt q l p e R s m args below meth c g A cells slots Q X hret H locs ls hH hl) (fun q => kf q l p e R s m args below meth c g A cells slots Q X hret H locs ls hH hl)
theorem J_icmp_eq {x y : Int32} {off : Int} {tgt : Nat} (hd : decode mi.2.1 pc = .ok (.if_icmp .eq off, 3)) (ht : (pc : Int) + off = (tgt : Int)) (kt : x = y → J n mi tgt lv st M P) (kf : ¬ x = y → J n mi (pc + 3) lv st M P) : J n mi pc lv (.int y :: .int x :: st) M P := by
  intro l p e R s m args below meth c g A cells slots Q X hret H locs ls hH hl
  exact lv_icmp_eq X.1 X.2.1 hd ht (fun q => kt q l p e R s m args below meth c g A cells slots Q X hret H locs ls hH hl) (fun q => kf q l p e R s m args below meth c g A cells slots Q X hret H locs ls hH hl)
theorem J_icmp_ne {x y : Int32} {off : Int} {tgt : Nat} (hd : decode mi.2.1 pc = .ok (.if_icmp .ne off, 3)) (ht : (pc : Int) + off = (tgt : Int)) (kt : ¬ x = y → J n mi tgt lv st M P) (kf : x = y → J n mi (pc + 3) lv st M P) : J n mi pc lv (.int y :: .int x :: st) M P := by
  intro l p e R s m args below meth c g A cells slots Q X hret H locs ls hH hl
  exact lv_icmp_ne X.1 X.2.1 hd ht (fun q => kt q l p e R s m args below meth c g A cells slots Q X hret H locs ls hH hl) (fun q => kf q l p e R s m args below meth c g A cells slots Q X hret H locs ls hH hl)
theorem J_icmp_lt {x y : Int32} {off : Int} {tgt : Nat} (hd : decode mi.2.1 pc = .ok (.if_icmp .lt off, 3)) (ht : (pc : Int) + off = (tgt : Int)) (kt : x < y → J n mi tgt lv st M P) (kf : ¬ x < y → J n mi (pc + 3) lv st M P) : J n mi pc lv (.int y :: .int x :: st) M P := by
  intro l p e R s m args below meth c g A cells slots Q X hret H locs ls hH hl
  exact lv_icmp_lt X.1 X.2.1 hd ht (fun q => kt q l p e R s m args below meth c g A cells slots Q X hret H locs ls hH hl) (fun q => kf q l p e R s m args below meth c g A cells slots Q X hret H locs ls hH hl)
theorem J_icmp_ge {x y : Int32} {off : Int} {tgt : Nat} (hd : decode mi.2.1 pc = .ok (.if_icmp .ge off, 3)) (ht : (pc : Int) + off = (tgt : Int)) (kt : y ≤ x → J n mi tgt lv st M P) (kf : ¬ y ≤ x → J n mi (pc + 3) lv st M P) : J n mi pc lv (.int y :: .int x :: st) M P := by
  intro l p e R s m args below meth c g A cells slots Q X hret H locs ls hH hl
  exact lv_icmp_ge X.1 X.2.1 hd ht (fun q => kt q l p e R s m args below meth c g A cells slots Q X hret H locs ls hH hl) (fun q => kf q l p e R s m args below meth c g A cells slots Q X hret H locs ls hH hl)
theorem J_icmp_gt {x y : Int32} {off : Int} {tgt : Nat} (hd : decode mi.2.1 pc = .ok (.if_icmp .gt off, 3)) (ht : (pc : Int) + off = (tgt : Int)) (kt : y < x → J n mi tgt lv st M P) (kf : ¬ y < x → J n mi (pc + 3) lv st M P) : J n mi pc lv (.int y :: .int x :: st) M P := by
  intro l p e R s m args below meth c g A cells slots Q X hret H locs ls hH hl
  exact lv_icmp_gt X.1 X.2.1 hd ht (fun q => kt q l p e R s m args below meth c g A cells slots Q X hret H locs ls hH hl) (fun q => kf q l p e R s m args below meth c g A cells slots Q X hret H locs ls hH hl)
theorem J_icmp_le {x y : Int32} {off : Int} {tgt : Nat} (hd : decode mi.2.1 pc = .ok (.if_icmp .le off, 3)) (ht : (pc : Int) + off = (tgt : Int)) (kt : x ≤ y → J n mi tgt lv st M P) (kf : ¬ x ≤ y → J n mi (pc + 3) lv st M P) : J n mi pc lv (.int y :: .int x :: st) M P := by
  intro l p e R s m args below meth c g A cells slots Q X hret H locs ls hH hl
  exact lv_icmp_le X.1 X.2.1 hd ht (fun q => kt q l p e R s m args below meth c g A cells slots Q X hret H locs ls hH hl) (fun q => kf q l p e R s m args below meth c g A cells slots Q X hret H locs ls hH hl)
theorem J_goto {off : Int} {tgt : Nat} (hd : decode mi.2.1 pc = .ok (.goto off, 3)) (ht : (pc : Int) + off = (tgt : Int)) (k : J n mi tgt lv st M P) : J n mi pc lv st M P := by
  intro l p e R s m args below meth c g A cells slots Q X hret H locs ls hH hl
  exact lv_goto X.1 X.2.1 hd ht (k l p e R s m args below meth c g A cells slots Q X hret H locs ls hH hl)
theorem J_tabOut {dflt lo hi : Int} {offs : Array Int} {len : Nat} {x : Int32} {tgt : Nat} (hd : decode mi.2.1 pc = .ok (.tableswitch dflt lo hi offs, len)) (h : x.toInt < lo ∨ hi < x.toInt) (ht : (pc : Int) + dflt = (tgt : Int)) (k : J n mi tgt lv st M P) : J n mi pc lv (.int x :: st) M P := by
  intro l p e R s m args below meth c g A cells slots Q X hret H locs ls hH hl
  exact lv_tableOut X.1 X.2.1 hd h ht (k l p e R s m args below meth c g A cells slots Q X hret H locs ls hH hl)
theorem J_tabIn {dflt lo hi : Int} {offs : Array Int} {len : Nat} {x : Int32} {off : Int} {tgt : Nat} (hd : decode mi.2.1 pc = .ok (.tableswitch dflt lo hi offs, len)) (h1 : ¬ x.toInt < lo) (h2 : ¬ hi < x.toInt) (ho : offs[(x.toInt - lo).toNat]? = some off) (ht : (pc : Int) + off = (tgt : Int)) (k : J n mi tgt lv st M P) : J n mi pc lv (.int x :: st) M P := by
  intro l p e R s m args below meth c g A cells slots Q X hret H locs ls hH hl
  exact lv_tableIn X.1 X.2.1 hd h1 h2 ho ht (k l p e R s m args below meth c g A cells slots Q X hret H locs ls hH hl)
theorem J_lookup {dflt : Int} {ps : Array (Int × Int)} {len : Nat} {x : Int32} {off : Int} {tgt : Nat} (hd : decode mi.2.1 pc = .ok (.lookupswitch dflt ps, len)) (hp : (ps.toList.zip (ps.toList.drop 1)).all (fun (a, next) => a.1 < next.1) = true) (ho : Op.lookupswitch.offset ps.toList dflt x.toInt = off) (ht : (pc : Int) + off = (tgt : Int)) (k : J n mi tgt lv st M P) : J n mi pc lv (.int x :: st) M P := by
  intro l p e R s m args below meth c g A cells slots Q X hret H locs ls hH hl
  exact lv_lookup X.1 X.2.1 hd hp ho ht (k l p e R s m args below meth c g A cells slots Q X hret H locs ls hH hl)
theorem J_ldc {i : Nat} {v : Int32} (hd : decode mi.2.1 pc = .ok (.ldc i, 2)) (hw : Cond.constant mi.1.cls i v ∈ gw) (h : J n mi (pc + 2) lv (.int v :: st) M P) : J n mi pc lv st M P := by
  intro l p e R s m args below meth c g A cells slots Q X hret H locs ls hH hl
  exact lv_ldc X.1 X.2.1 X.2.2.2.1 (X.2.2.2.2.1 _ (gw_ws hw)) hd (h l p e R s m args below meth c g A cells slots Q X hret H locs ls hH hl)
theorem J_ldcw {i : Nat} {v : Int32} (hd : decode mi.2.1 pc = .ok (.ldc_w i, 3)) (hw : Cond.constant mi.1.cls i v ∈ gw) (h : J n mi (pc + 3) lv (.int v :: st) M P) : J n mi pc lv st M P := by
  intro l p e R s m args below meth c g A cells slots Q X hret H locs ls hH hl
  exact lv_ldcw X.1 X.2.1 X.2.2.2.1 (X.2.2.2.2.1 _ (gw_ws hw)) hd (h l p e R s m args below meth c g A cells slots Q X hret H locs ls hH hl)
theorem J_ldc2 {i : Nat} {v : Int64} (hd : decode mi.2.1 pc = .ok (.ldc2_w i, 3)) (hw : Cond.constantLong mi.1.cls i v ∈ gw) (h : J n mi (pc + 3) lv (.long v :: st) M P) : J n mi pc lv st M P := by
  intro l p e R s m args below meth c g A cells slots Q X hret H locs ls hH hl
  exact lv_ldc2 X.1 X.2.1 X.2.2.2.1 (X.2.2.2.2.1 _ (gw_ws hw)) hd (h l p e R s m args below meth c g A cells slots Q X hret H locs ls hH hl)
theorem J_ldcS {i j : Nat} (hd : decode mi.2.1 pc = .ok (.ldc i, 2)) (hj : j < 15) (hi : (sxL.getD j (0, "")).1 = i) (ho : mi.1.cls = "LastPruned$Tape") (h : J n mi (pc + 2) lv (.ref (65 + j) :: st) M P) : J n mi pc lv st M P := by
  intro l p e R s m args below meth c g A cells slots Q X hret H locs ls hH hl
  have hG := X.2.2.2.2.2.2.2.1
  have hR := hG.2.2.2.2.2.1 j hj
  rw [hi] at hR
  have hown := X.2.2.2.1
  rw [ho] at hown
  exact va_ldcS X.1 X.2.1 hown hR hd (h l p e R s m args below meth c g A cells slots Q X hret H locs ls hH hl)
theorem J_getf {i c0 ci k : Nat} {C : String} {T : u_T} {N : Nat} (hd : decode mi.2.1 pc = .ok (.getfield i, 3)) (hc : vwCl[ci]? = some (C, T, N)) (hin : ∀ w ∈ u_ws C T N, w ∈ gw) (hN : nf ci = N) (hk : k < N) (hw : Cond.fieldLink mi.1.cls i (T k).1 (T k).2.1 (T k).2.2.1 ∈ gw) (ho : kd c0 = ci) (hci : ci ≤ 6) (h : J n mi (pc + 3) lv ((if fo ci k = 0 then .int (M.1 c0 k) else .ref (c0 + fo ci k)) :: st) M P) : J n mi pc lv (.ref c0 :: st) M P := by
  intro l p e R s m args below meth c g A cells slots Q X hret H locs ls hH hl
  have h1 := h l p e R s m args below meth c g A cells slots Q X hret H locs ls hH hl
  have hlt : c0 < 60 := kd_lt (by omega)
  refine va_get (D := g.2.1) (ci := ci) (C := C) (T := T) (N := N) X.1 X.2.1 X.2.2.2.2.1 (fun w hw => gw_ws (hin w hw)) X.2.2.2.1 X.2.2.2.2.2.2.2.1.1 hH.1 c0 (by rw [world_at g M hlt, ent_obj g M ho hci]) hc k hk (X.2.2.2.2.1 _ (gw_ws hw)) (fun _ h9 => h9) (v := fv g M c0 k) (by rw [hN]; simp [hk]) hd ?_
  have e1 : fv g M c0 k = cv g (if fo ci k = 0 then .int (M.1 c0 k) else .ref (c0 + fo ci k)) := by
    unfold fv
    rw [ho]
    by_cases e0 : fo ci k = 0
    · rw [if_pos e0, if_pos e0]; rfl
    · rw [if_neg e0, if_neg e0]; rfl
  rw [e1]
  exact h1
theorem J_putf {i c0 ci k : Nat} {C : String} {T : u_T} {N : Nat} {ty0 : Nat → FieldType} {ty : FieldType} {v : Int32} (hd : decode mi.2.1 pc = .ok (.putfield i, 3)) (hc : vwCl[ci]? = some (C, T, N)) (hin : ∀ w ∈ u_ws C T N, w ∈ gw) (hty : ∀ k, k < N → parseFieldDescriptor (T k).2.2.1 = some (ty0 k)) (hnm : ∀ a, a < N → ∀ b, b < N → a ≠ b → (T a).2.1 ≠ (T b).2.1) (hN : nf ci = N) (hk : k < N) (hw : Cond.fieldLink mi.1.cls i (T k).1 (T k).2.1 (T k).2.2.1 ∈ gw) (hfin : (T k).2.2.2 = false) (hf0 : fo ci k = 0) (htk : ty0 k = ty) (hn : narrow ty (.int v) = .int v) (hfit : fits ty (.int v) = true) (ho : kd c0 = ci) (hci : ci ≤ 6) (h : J n mi (pc + 3) lv st (u1 M c0 k v) P) : J n mi pc lv (.int v :: .ref c0 :: st) M P := by
  intro l p e R s m args below meth c g A cells slots Q X hret H locs ls hH hl
  have hlt : c0 < 60 := kd_lt (by omega)
  refine va_put (D := g.2.1) (ci := ci) (C := C) (T := T) (N := N) (v := .int v) (ty := ty) X.1 X.2.1 X.2.2.2.2.1 (fun w hw => gw_ws (hin w hw)) ty0 hty hnm X.2.2.2.1 X.2.2.2.2.2.2.2.1.1 hH.1 (Hd.D X M) hH.2.1 c0 (by rw [world_at g M hlt, ent_obj g M ho hci]) hc k hk (X.2.2.2.2.1 _ (gw_ws hw)) (fun _ h9 => h9) hfin (by rw [hty k hk, htk]) hn hfit (by rw [hN]; simp [hk]) hd (fun H1 locs1 hP hD hS => ?_)
  have e2 := world_set g M (u1 M c0 k v) (c := c0) (ent_put g M v ho hci (by rw [hN]; exact hk) hf0) (fun j _ hj => ent_u1o g M v hj)
  rw [e2] at hP
  have ne : (64 : Nat) ≠ c0 := by omega
  have ne2 : (95 : Nat) ≠ c0 := by omega
  exact h l p e R s m args below meth c g A cells slots Q X hret H1 locs1 ls ⟨hP, hS, by rw [← hH.2.2.1]; funext b; simp [u1, ne], by rw [← hH.2.2.2]; simp [u1, ne2]⟩ hl
theorem J_iald {c0 : Nat} {i : Int32} (hd : decode mi.2.1 pc = .ok (.iaload, 1)) (ho : kd c0 = 7) (hin : vp_in i (ln c0)) (h : J n mi (pc + 1) lv (.int (M.1 c0 i.toNatClampNeg) :: st) M P) : J n mi pc lv (.int i :: .ref c0 :: st) M P := by
  intro l p e R s m args below meth c g A cells slots Q X hret H locs ls hH hl
  have hlt : c0 < 60 := kd_lt (by omega)
  exact va_iald (D := g.2.1) X.1 X.2.1 X.2.2.2.2.2.2.2.1.1 hH.1 c0 0 (by rw [world_at g M hlt, ent_int g M ho]) rfl hin hd (h l p e R s m args below meth c g A cells slots Q X hret H locs ls hH hl)
theorem J_iast {c0 : Nat} {i v : Int32} (hd : decode mi.2.1 pc = .ok (.iastore, 1)) (ho : kd c0 = 7) (hin : vp_in i (ln c0)) (h : J n mi (pc + 1) lv st (u1 M c0 i.toNatClampNeg v) P) : J n mi pc lv (.int v :: .int i :: .ref c0 :: st) M P := by
  intro l p e R s m args below meth c g A cells slots Q X hret H locs ls hH hl
  have hlt : c0 < 60 := kd_lt (by omega)
  refine va_iast (D := g.2.1) X.1 X.2.1 X.2.2.2.2.2.2.2.1.1 hH.1 (Hd.D X M) hH.2.1 c0 0 (by rw [world_at g M hlt, ent_int g M ho]) rfl hin hd (fun H1 locs1 hP hD hS => ?_)
  have e2 := world_set g M (u1 M c0 i.toNatClampNeg v) (c := c0) (ent_u1i g M v ho) (fun j _ hj => ent_u1o g M v hj)
  rw [e2] at hP
  have ne : (64 : Nat) ≠ c0 := by omega
  have ne2 : (95 : Nat) ≠ c0 := by omega
  exact h l p e R s m args below meth c g A cells slots Q X hret H1 locs1 ls ⟨hP, hS, by rw [← hH.2.2.1]; funext b; simp [u1, ne], by rw [← hH.2.2.2]; simp [u1, ne2]⟩ hl
theorem J_lald {c0 : Nat} {i : Int32} (hd : decode mi.2.1 pc = .ok (.laload, 1)) (ho : kd c0 = 8) (hin : vp_in i (ln c0)) (h : J n mi (pc + 1) lv (.long (M.2 c0 i.toNatClampNeg) :: st) M P) : J n mi pc lv (.int i :: .ref c0 :: st) M P := by
  intro l p e R s m args below meth c g A cells slots Q X hret H locs ls hH hl
  have hlt : c0 < 60 := kd_lt (by omega)
  exact va_lald (D := g.2.1) X.1 X.2.1 X.2.2.2.2.2.2.2.1.1 hH.1 c0 1 (by rw [world_at g M hlt, ent_long g M ho]) rfl hin hd (h l p e R s m args below meth c g A cells slots Q X hret H locs ls hH hl)
theorem J_last {c0 : Nat} {i : Int32} {v : Int64} (hd : decode mi.2.1 pc = .ok (.lastore, 1)) (ho : kd c0 = 8) (hin : vp_in i (ln c0)) (h : J n mi (pc + 1) lv st (u2 M c0 i.toNatClampNeg v) P) : J n mi pc lv (.long v :: .int i :: .ref c0 :: st) M P := by
  intro l p e R s m args below meth c g A cells slots Q X hret H locs ls hH hl
  have hlt : c0 < 60 := kd_lt (by omega)
  refine va_last (D := g.2.1) X.1 X.2.1 X.2.2.2.2.2.2.2.1.1 hH.1 (Hd.D X M) hH.2.1 c0 1 (by rw [world_at g M hlt, ent_long g M ho]) rfl hin hd (fun H1 locs1 hP hD hS => ?_)
  have e2 := world_set g M (u2 M c0 i.toNatClampNeg v) (c := c0) (ent_u2i g M v ho) (fun j _ hj => ent_u2o g M v hj)
  rw [e2] at hP
  exact h l p e R s m args below meth c g A cells slots Q X hret H1 locs1 ls ⟨hP, hS, hH.2.2.1, hH.2.2.2⟩ hl
theorem J_aald {c0 : Nat} {i : Int32} (hd : decode mi.2.1 pc = .ok (.aaload, 1)) (ho : kd c0 = 9) (hin : vp_in i (ln c0)) (h : J n mi (pc + 1) lv (.ref (c0 + 1 + i.toNatClampNeg) :: st) M P) : J n mi pc lv (.int i :: .ref c0 :: st) M P := by
  intro l p e R s m args below meth c g A cells slots Q X hret H locs ls hH hl
  have hlt : c0 < 60 := kd_lt (by omega)
  have hlt2 : i.toNatClampNeg < ln c0 := Nat.not_le.mp fun q => hin (Or.inr q)
  have ha : (world g M)[c0]? = some (g.1 c0, .inl (g.2.2.1.2.2, ln c0, .inr (.inr (.inr (.inr (fun i => some (g.1 (c0 + 1 + i)))))))) := by rw [world_at g M hlt, ent_ll g M ho]
  exact W.aald (v := .ref (g.1 (c0 + 1 + i.toNatClampNeg))) (ty := .array .long) X.1 X.2.1 (hH.1 c0 _ ha) ((X.2.2.2.2.2.2.2.1.1.2 2 _ rfl).1 (ln c0) (fun j => va_rf (some (g.1 (c0 + 1 + j))))) rfl (fun q => by cases q) (by show ¬ (i < 0 ∨ (arrV _ _ _).slots.size ≤ _); rw [arrV_size]; exact hin) (by show (arrV _ _ _).slots[_]? = _; rw [arrV_read _ _ hlt2]; rfl) rfl rfl hd (h l p e R s m args below meth c g A cells slots Q X hret H locs ls hH hl)
theorem J_alen {c0 : Nat} (hd : decode mi.2.1 pc = .ok (.arraylength, 1)) (ho : kd c0 = 7 ∨ kd c0 = 8) (h : J n mi (pc + 1) lv (.int (Int32.ofNat (ln c0)) :: st) M P) : J n mi pc lv (.ref c0 :: st) M P := by
  intro l p e R s m args below meth c g A cells slots Q X hret H locs ls hH hl
  have hlt : c0 < 60 := kd_lt (by omega)
  rcases ho with ho | ho
  · exact va_alen (D := g.2.1) X.1 X.2.1 X.2.2.2.2.2.2.2.1.1 hH.1 c0 0 (by rw [world_at g M hlt, ent_int g M ho]) (ty := .int) rfl (v := Int32.ofNat (ln c0)) rfl hd (h l p e R s m args below meth c g A cells slots Q X hret H locs ls hH hl)
  · exact va_alen (D := g.2.1) X.1 X.2.1 X.2.2.2.2.2.2.2.1.1 hH.1 c0 1 (by rw [world_at g M hlt, ent_long g M ho]) (ty := .long) rfl (v := Int32.ofNat (ln c0)) rfl hd (h l p e R s m args below meth c g A cells slots Q X hret H locs ls hH hl)
theorem J_alenS {j : Nat} (hd : decode mi.2.1 pc = .ok (.arraylength, 1)) (hj : j < 4) (h : J n mi (pc + 1) lv (.int (Int32.ofNat (ln (60 + j))) :: st) M P) : J n mi pc lv (.ref (60 + j) :: st) M P := by
  intro l p e R s m args below meth c g A cells slots Q X hret H locs ls hH hl
  exact va_tlen X.1 X.2.1 ((X.2.2.2.2.2.2.2.1.2.2.2.1 j hj).2) hH.2.1 rfl hd (h l p e R s m args below meth c g A cells slots Q X hret H locs ls hH hl)
theorem J_alenX (hd : decode mi.2.1 pc = .ok (.arraylength, 1)) (h : J n mi (pc + 1) lv (.int (M.1 95 0) :: st) M P) : J n mi pc lv (.ref 64 :: st) M P := by
  intro l p e R s m args below meth c g A cells slots Q X hret H locs ls hH hl
  exact va_tlen X.1 X.2.1 (X.2.2.2.2.2.2.2.1.2.2.2.2.1.1) hH.2.1 (v := M.1 95 0) hH.2.2.2.symm hd (h l p e R s m args below meth c g A cells slots Q X hret H locs ls hH hl)
theorem J_ialdS {j : Nat} {i : Int32} (hd : decode mi.2.1 pc = .ok (.iaload, 1)) (hj : j < 4) (hin : vp_in i (ln (60 + j))) (h : J n mi (pc + 1) lv (.int (sv (60 + j) i.toNatClampNeg) :: st) M P) : J n mi pc lv (.int i :: .ref (60 + j) :: st) M P := by
  intro l p e R s m args below meth c g A cells slots Q X hret H locs ls hH hl
  exact va_ti X.1 X.2.1 ((X.2.2.2.2.2.2.2.1.2.2.2.1 j hj).2) hH.2.1 hin rfl hd (h l p e R s m args below meth c g A cells slots Q X hret H locs ls hH hl)
theorem J_ialdX {i : Int32} (hd : decode mi.2.1 pc = .ok (.iaload, 1)) (hin : vp_in i (M.1 95 0).toNatClampNeg) (h : J n mi (pc + 1) lv (.int (M.1 64 i.toNatClampNeg) :: st) M P) : J n mi pc lv (.int i :: .ref 64 :: st) M P := by
  intro l p e R s m args below meth c g A cells slots Q X hret H locs ls hH hl
  have hX := X.2.2.2.2.2.2.2.1.2.2.2.2.1
  rw [hH.2.2.2, nI_clamp hX.2] at hin
  have h2 := h l p e R s m args below meth c g A cells slots Q X hret H locs ls hH hl
  rw [hH.2.2.1] at h2
  exact va_ti X.1 X.2.1 hX.1 hH.2.1 hin rfl hd h2
theorem J_gets {i j : Nat} (hd : decode mi.2.1 pc = .ok (.getstatic i, 3)) (hj : j < 4) (hw : Cond.fieldLink mi.1.cls i "LastPruned" (snL.getD j "") "[I" ∈ gw) (h : J n mi (pc + 3) lv (.ref (60 + j) :: st) M P) : J n mi pc lv st M P := by
  intro l p e R s m args below meth c g A cells slots Q X hret H locs ls hH hl
  exact va_gets X.1 X.2.1 ((X.2.2.2.2.2.2.2.1.2.2.2.1 j hj).1) hH.2.1 X.2.2.2.1 (X.2.2.2.2.1 _ (gw_ws hw)) (fun _ h9 => h9) hd (h l p e R s m args below meth c g A cells slots Q X hret H locs ls hH hl)
theorem J_getsN {i j : Nat} (hd : decode mi.2.1 pc = .ok (.getstatic i, 3)) (hj : j < 4) (hw : Cond.fieldLinkNest mi.1.cls i "LastPruned" (snL.getD j "") "[I" "LastPruned" ∈ nestW) (h : J n mi (pc + 3) lv (.ref (60 + j) :: st) M P) : J n mi pc lv st M P := by
  intro l p e R s m args below meth c g A cells slots Q X hret H locs ls hH hl
  exact va_getsN X.1 X.2.1 ((X.2.2.2.2.2.2.2.1.2.2.2.1 j hj).1) hH.2.1 X.2.2.2.1 (va_Nw.use rfl (X.2.2.2.2.2.2.2.1.2.1 _ hw)) (fun _ h9 => h9) hd (h l p e R s m args below meth c g A cells slots Q X hret H locs ls hH hl)
theorem J_getsC {i : Nat} (hd : decode mi.2.1 pc = .ok (.getstatic i, 3)) (hw : Cond.fieldLink mi.1.cls i "java/lang/String" "COMPACT_STRINGS" "Z" ∈ gw) (h : J n mi (pc + 3) lv (.int 1 :: st) M P) : J n mi pc lv st M P := by
  intro l p e R s m args below meth c g A cells slots Q X hret H locs ls hH hl
  exact va_gets X.1 X.2.1 (X.2.2.2.2.2.2.2.1.2.2.2.2.2.2.2.1) hH.2.1 X.2.2.2.1 (X.2.2.2.2.1 _ (gw_ws hw)) (fun _ h9 => h9) hd (h l p e R s m args below meth c g A cells slots Q X hret H locs ls hH hl)
theorem J_sval {i j : Nat} (hd : decode mi.2.1 pc = .ok (.getfield i, 3)) (hj : j < 15) (hw : Cond.fieldLink mi.1.cls i "java/lang/String" "value" "[B" ∈ gw) (h : J n mi (pc + 3) lv (.ref (80 + j) :: st) M P) : J n mi pc lv (.ref (65 + j) :: st) M P := by
  intro l p e R s m args below meth c g A cells slots Q X hret H locs ls hH hl
  exact vk_getf X.1 X.2.1 ((X.2.2.2.2.2.2.2.1.2.2.2.2.2.2.1.1 j hj).2.2.1) hH.2.1 X.2.2.2.1 (X.2.2.2.2.1 _ (gw_ws hw)) (fun _ h9 => h9) hd (h l p e R s m args below meth c g A cells slots Q X hret H locs ls hH hl)
theorem J_scod {i j : Nat} (hd : decode mi.2.1 pc = .ok (.getfield i, 3)) (hj : j < 15) (hw : Cond.fieldLink mi.1.cls i "java/lang/String" "coder" "B" ∈ gw) (h : J n mi (pc + 3) lv (.int 0 :: st) M P) : J n mi pc lv (.ref (65 + j) :: st) M P := by
  intro l p e R s m args below meth c g A cells slots Q X hret H locs ls hH hl
  exact vk_getf X.1 X.2.1 ((X.2.2.2.2.2.2.2.1.2.2.2.2.2.2.1.1 j hj).2.1) hH.2.1 X.2.2.2.1 (X.2.2.2.2.1 _ (gw_ws hw)) (fun _ h9 => h9) hd (h l p e R s m args below meth c g A cells slots Q X hret H locs ls hH hl)
theorem J_alenB {j : Nat} (hd : decode mi.2.1 pc = .ok (.arraylength, 1)) (hj : j < 15) (h : J n mi (pc + 1) lv (.int (Int32.ofNat (slL.getD j 0)) :: st) M P) : J n mi pc lv (.ref (80 + j) :: st) M P := by
  intro l p e R s m args below meth c g A cells slots Q X hret H locs ls hH hl
  exact va_tlen X.1 X.2.1 ((X.2.2.2.2.2.2.2.1.2.2.2.2.2.2.1.1 j hj).2.2.2) hH.2.1 rfl hd (h l p e R s m args below meth c g A cells slots Q X hret H locs ls hH hl)
theorem J_bald {j : Nat} {i : Int32} (hd : decode mi.2.1 pc = .ok (.baload, 1)) (hj : j < 15) (hin : vp_in i (slL.getD j 0)) (h : J n mi (pc + 1) lv (.int ((sbL.getD j []).getD i.toNatClampNeg 0) :: st) M P) : J n mi pc lv (.int i :: .ref (80 + j) :: st) M P := by
  intro l p e R s m args below meth c g A cells slots Q X hret H locs ls hH hl
  exact va_tb X.1 X.2.1 ((X.2.2.2.2.2.2.2.1.2.2.2.2.2.2.1.1 j hj).2.2.2) hH.2.1 hin rfl hd (h l p e R s m args below meth c g A cells slots Q X hret H locs ls hH hl)
theorem J_copy {i c0 c1 : Nat} {sp dp k : Int32} (hd : decode mi.2.1 pc = .ok (.invokestatic i, 3)) (hw : Cond.methodLink mi.1.cls i arraycopyName ∈ gw) (hw2 : Cond.native arraycopyName ∈ gw) (hw3 : Cond.static arraycopyName ∈ gw) (hw4 : Cond.initialized "java/lang/System" ∈ gw) (hn : 1 ≤ n) (hr : (st.map fun v => v.category).sum + (nativeFrameWords "java/lang/System" "arraycopy" 5 + 11) ≤ 60) (ho0 : kd c0 = 7) (ho1 : kd c1 = 7) (h1 : ¬ sp < 0) (h2 : ¬ dp < 0) (h3 : ¬ k < 0) (h4 : sp.toNatClampNeg + k.toNatClampNeg ≤ ln c0) (h5 : dp.toNatClampNeg + k.toNatClampNeg ≤ ln c1) (h : J n mi (pc + 3) lv st (cp M c1 (M.1 c0) sp.toNatClampNeg dp.toNatClampNeg k.toNatClampNeg) P) : J n mi pc lv (.int k :: .int dp :: .ref c1 :: .int sp :: .ref c0 :: st) M P := by
  intro l p e R s m args below meth c g A cells slots Q X hret H locs ls hH hl
  have hlt0 : c0 < 60 := kd_lt (by omega)
  have hlt1 : c1 < 60 := kd_lt (by omega)
  have hml : c.maxLocals = ls.size := X.2.2.1.trans hl.1.symm
  have hfr := X.2.2.2.2.2.1
  refine va_copyi (D := g.2.1) (ty := .int) X.1 X.2.1 hml X.2.2.2.1 (X.2.2.2.2.1 _ (gw_ws hw)) (X.2.2.2.2.1 _ (gw_ws hw2)) (X.2.2.2.2.1 _ (gw_ws hw3)) (X.2.2.2.2.1 _ (gw_ws hw4)) X.2.2.2.2.2.2.2.1.1 hH.1 (Hd.D X M) hH.2.1 c0 c1 0 0 (by rw [world_at g M hlt0, ent_int g M ho0]) (by rw [world_at g M hlt1, ent_int g M ho1]) rfl rfl rfl h1 h2 h3 h4 h5 (fun _ _ => rfl) (by omega) (by rw [cv_sum]; omega) hd (fun H1 locs1 hP hD hS => ?_)
  have e2 := world_set g M (cp M c1 (M.1 c0) sp.toNatClampNeg dp.toNatClampNeg k.toNatClampNeg) (c := c1) (ent_cpi g M _ _ _ _ ho1) (fun j _ hj => ent_cpo g M _ _ _ _ hj)
  rw [e2] at hP
  have ne : (64 : Nat) ≠ c1 := by omega
  have ne2 : (95 : Nat) ≠ c1 := by omega
  exact h l p e R s m args below meth c g A cells slots Q X hret H1 locs1 ls ⟨hP, hS, by rw [← hH.2.2.1]; funext b; simp [cp, ne], by rw [← hH.2.2.2]; simp [cp, ne2]⟩ hl
theorem J_ret {r : Option Value} (hr : retI mi pc r) (hs : st = r.toList) (h : P r M) : J n mi pc lv st M P := by
  intro l p e R s m args below meth c g A cells slots Q X hret H locs ls hH hl
  rw [hs]
  exact hret pc ls r M H locs h hr hH
end JR
