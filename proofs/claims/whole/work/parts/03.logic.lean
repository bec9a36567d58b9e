/-! MY OWN LOGIC. The world is 60 cells at fixed places (0 LastPruned; 1, 10, 19 Trees; 28 Tape; 30 rows; 31 Sheets; 39 Shelves; 44 Player; 46 LastPrunedModel; the arrays of each behind it); 60 to 63 static rows, 64 the script, 65 to 79 String constants, 80 to 94 their bytes: these nobody writes. A reference is a place. -/
abbrev Mm : Type := (Nat → Nat → Int32) × (Nat → Nat → Int64)
abbrev LVs : Type := List (Option Value)
abbrev Gc : Type := (Nat → Nat) × va_G × (ClassId × ClassId × ClassId) × (Nat → Int32) × Nat
abbrev En : Type := Instr × Nat × List Int
def kdL : List Nat := [5, 4,7,7,7,7,7,7,7,7, 4,7,7,7,7,7,7,7,7, 4,7,7,7,7,7,7,7,7, 3,7, 7, 1,9,8,8,8,8,7,7, 2,7,7,7,7, 0,7, 6,7,7,7,7,7,7,7,7,7,7,7,7,7, 10,10,10,10, 11, 12,12,12,12,12,12,12,12,12,12,12,12,12,12,12, 13,13,13,13,13,13,13,13,13,13,13,13,13,13,13]
def kd (c : Nat) : Nat := kdL.getD c 99
def lnL : List Nat := [0, 0,4,8,8,8,8,8,9,9, 0,4,8,8,8,8,8,9,9, 0,4,8,8,8,8,8,9,9, 0,200, 30, 0,4,40,40,40,40,4,4, 0,4,4,4,4, 0,30, 0,56,56,56,56,200,30,4,4,160,4,4,4,30, 4,4,6,24, 0, 0,0,0,0,0,0,0,0,0,0,0,0,0,0,0, 6,4,5,3,4,5,5,3,4,5,2,5,3,3,1]
def ln (c : Nat) : Nat := lnL.getD c 0
def foL : List (List Nat) := [[1,0,0,0,0,0], [1,6,7], [1,2,3,4], [1,0,0,0,0,0], [1,2,3,4,5,6,0,0,0,0,0,0,7,8], [1,10,19,0,28,30,0,31,39,44], [1,2,3,4,0,5,0,0,0,0,0,0,6,0,7,8,9,10,11,12,13,0,0,0,0,0]]
def fo (ci k : Nat) : Nat := (foL.getD ci []).getD k 0
def nfl : List Nat := [6,3,4,6,14,10,26]
def nf (ci : Nat) : Nat := nfl.getD ci 0
def tyL : List (Nat → FieldType) := [tyX0, tyX1, tyX2, tyX3, tyX4, tyX5, tyX6]
def tyF (ci : Nat) : Nat → FieldType := tyL.getD ci tyX0
def svL : List (List Int32) := [[9, 9, 9, 99], [2, 1, 2, 20], [1, 3, 5, 11, 21, 33], [10, 11, 12, 13, 10, 20, 12, 13, 30, 11, 12, 31, 51, 20, 50, 13, 40, 41, 12, 31, 10, 11, 61, 60]]
def sv (c j : Nat) : Int32 := (svL.getD (c - 60) []).getD j 0
def snL : List String := ["LAW_MOST", "LAW_AT_FIRST", "TAKEN_FOR", "BODIES"]
def sxL : List (Nat × String) := [(106, "branch"), (111, "spur"), (113, "bough"), (115, "bud"), (117, "limb"), (119, "graft"), (121, "shade"), (123, "sun"), (125, "rain"), (127, "frost"), (64, "on"), (70, "force"), (72, "age"), (74, "cut"), (132, ";")]
def sbL : List (List Int32) := [[98,114,97,110,99,104],[115,112,117,114],[98,111,117,103,104],[98,117,100],[108,105,109,98],[103,114,97,102,116],[115,104,97,100,101],[115,117,110],[114,97,105,110],[102,114,111,115,116],[111,110],[102,111,114,99,101],[97,103,101],[99,117,116],[59]]
def slL : List Nat := [6,4,5,3,4,5,5,3,4,5,2,5,3,3,1]
def cv (g : Gc) : Value → Value
  | .ref a => .ref (g.1 a)
  | v => v
def fv (g : Gc) (M : Mm) (c k : Nat) : Value := if fo (kd c) k = 0 then .int (M.1 c k) else .ref (g.1 (c + fo (kd c) k))
def ent (g : Gc) (M : Mm) (c : Nat) : va_E :=
  if kd c ≤ 6 then .inr (kd c, (List.range (nf (kd c))).map (fv g M c))
  else if kd c = 7 then .inl (g.2.2.1.1, ln c, .inl (M.1 c))
  else if kd c = 8 then .inl (g.2.2.1.2.1, ln c, .inr (.inl (M.2 c)))
  else .inl (g.2.2.1.2.2, ln c, .inr (.inr (.inr (.inr (fun i => some (g.1 (c + 1 + i)))))))
def world (g : Gc) (M : Mm) : va_W := (List.range 60).map (fun c => (g.1 c, ent g M c))
def u1 (M : Mm) (c j : Nat) (v : Int32) : Mm := (fun a b => if a = c ∧ b = j then v else M.1 a b, M.2)
def u2 (M : Mm) (c j : Nat) (v : Int64) : Mm := (M.1, fun a b => if a = c ∧ b = j then v else M.2 a b)
def cp (M : Mm) (c1 : Nat) (f : Nat → Int32) (sp dp n : Nat) : Mm := (fun a b => if a = c1 then va_cpy f (M.1 c1) sp dp n b else M.1 a b, M.2)
theorem world_at (g : Gc) (M : Mm) {c : Nat} (h : c < 60) : (world g M)[c]? = some (g.1 c, ent g M c) := by simp [world, h]
theorem world_set (g : Gc) (M M' : Mm) {c : Nat} {e : va_E} (he : ent g M' c = e) (ho : ∀ k, k < 60 → k ≠ c → ent g M' k = ent g M k) : (world g M).set c (g.1 c, e) = world g M' := by
  subst he
  apply List.ext_getElem?
  intro k
  rw [List.getElem?_set]
  by_cases hk : k < 60
  · by_cases hc : c = k
    · subst hc
      simp [world, hk]
    · simp [world, hk, hc, ho k hk (Ne.symm hc)]
  · simp [world, hk]
    intro h
    simp at hk
    omega
theorem kd_lt {c : Nat} (h : kd c ≤ 9) : c < 60 := by
  have key : ∀ c, c < 95 → kd c ≤ 9 → c < 60 := by decide +kernel
  rcases Nat.lt_or_ge c 95 with h1 | h1
  · exact key c h1 h
  · have : kd c = 99 := by
      show (kdL[c]?).getD 99 = 99
      rw [List.getElem?_eq_none (show kdL.length ≤ c from h1)]
      rfl
    omega
theorem ent_obj (g : Gc) (M : Mm) {c ci : Nat} (h : kd c = ci) (hi : ci ≤ 6) : ent g M c = .inr (ci, (List.range (nf ci)).map (fv g M c)) := by
  subst h
  simp [ent, hi]
theorem ent_int (g : Gc) (M : Mm) {c : Nat} (h : kd c = 7) : ent g M c = .inl (g.2.2.1.1, ln c, .inl (M.1 c)) := by simp [ent, h]
theorem ent_long (g : Gc) (M : Mm) {c : Nat} (h : kd c = 8) : ent g M c = .inl (g.2.2.1.2.1, ln c, .inr (.inl (M.2 c))) := by simp [ent, h]
theorem ent_ll (g : Gc) (M : Mm) {c : Nat} (h : kd c = 9) : ent g M c = .inl (g.2.2.1.2.2, ln c, .inr (.inr (.inr (.inr (fun i => some (g.1 (c + 1 + i))))))) := by simp [ent, h]
theorem ent_u1o (g : Gc) (M : Mm) {c j k : Nat} (v : Int32) (h : k ≠ c) : ent g (u1 M c j v) k = ent g M k := by
  have e1 : (u1 M c j v).1 k = M.1 k := by funext b; simp [u1, h]
  have e2 : fv g (u1 M c j v) k = fv g M k := by funext b; simp [fv, e1]
  unfold ent
  rw [e1, e2]
  rfl
theorem ent_u2o (g : Gc) (M : Mm) {c j k : Nat} (v : Int64) (h : k ≠ c) : ent g (u2 M c j v) k = ent g M k := by
  have e1 : (u2 M c j v).2 k = M.2 k := by funext b; simp [u2, h]
  have e2 : fv g (u2 M c j v) k = fv g M k := rfl
  unfold ent
  rw [e1, e2]
  rfl
theorem ent_cpo (g : Gc) (M : Mm) {c k : Nat} (f : Nat → Int32) (sp dp n : Nat) (h : k ≠ c) : ent g (cp M c f sp dp n) k = ent g M k := by
  have e1 : (cp M c f sp dp n).1 k = M.1 k := by funext b; simp [cp, h]
  have e2 : fv g (cp M c f sp dp n) k = fv g M k := by funext b; simp [fv, e1]
  unfold ent
  rw [e1, e2]
  rfl
theorem ent_u1i (g : Gc) (M : Mm) {c j : Nat} (v : Int32) (h : kd c = 7) : ent g (u1 M c j v) c = .inl (g.2.2.1.1, ln c, .inl (upd (M.1 c) j v)) := by
  rw [ent_int g _ h]
  congr 3
  congr 1
  funext b
  simp [u1, upd]
theorem ent_cpi (g : Gc) (M : Mm) {c : Nat} (f : Nat → Int32) (sp dp n : Nat) (h : kd c = 7) : ent g (cp M c f sp dp n) c = .inl (g.2.2.1.1, ln c, .inl (va_cpy f (M.1 c) sp dp n)) := by
  rw [ent_int g _ h]
  congr 3
  congr 1
  funext b
  simp [cp]
theorem ent_u2i (g : Gc) (M : Mm) {c j : Nat} (v : Int64) (h : kd c = 8) : ent g (u2 M c j v) c = .inl (g.2.2.1.2.1, ln c, .inr (.inl (vp_updL (M.2 c) j v))) := by
  rw [ent_long g _ h]
  congr 4
  congr 1
  funext b
  simp [u2, vp_updL]
theorem ent_put (g : Gc) (M : Mm) {c ci k : Nat} (v : Int32) (h : kd c = ci) (hi : ci ≤ 6) (hk : k < nf ci) (hf : fo ci k = 0) : ent g (u1 M c k v) c = .inr (ci, ((List.range (nf ci)).map (fv g M c)).set k (.int v)) := by
  rw [ent_obj g _ h hi]
  congr 2
  apply List.ext_getElem?
  intro j
  rw [List.getElem?_set]
  by_cases hj : j < nf ci
  · by_cases e : k = j
    · subst e
      simp [hj, fv, h, hf, u1]
    · have e' : ¬ j = k := fun q => e q.symm
      simp [hj, e, fv, u1, e']
  · simp [hj]
    intro e
    omega
/-- words that the tables keep -/
def gw : List Cond := lw_tbl.filter goodWord
def wsM (mi : MI) : List Cond := .code mi.1 mi.2.1 mi.2.2.1 mi.2.2.2 :: gw
theorem in_gw {w : Cond} (i : Nat) (h : lw_tbl[i]? = some w) (hg : goodWord w = true) : w ∈ gw := List.mem_filter.mpr ⟨List.mem_of_getElem? h, hg⟩
theorem gw_ws {mi : MI} {w : Cond} (h : w ∈ gw) : w ∈ wsM mi := List.mem_cons_of_mem _ h
/-- the nest mates' links -/
def isNest : Cond → Bool
  | .methodLinkNest .. => true
  | .fieldLinkNest .. => true
  | _ => false
def nestW : List Cond := lw_tbl.filter isNest
theorem nest_warm {s U : State} (hW : s.WarmedH U.vm) {w : Cond} (hn : isNest w = true) (h : va_Nw w s) : va_Nw w U := by
  cases w <;> first | exact va_Nw.warmM hW h | exact va_Nw.warmF hW h | (simp [isNest] at hn)
theorem nest_same {u U : State} (hv : u.vm = U.vm) {w : Cond} (hn : isNest w = true) (h : va_Nw w u) : va_Nw w U := by
  cases w <;> first | exact va_Nw.same rfl hv h | (simp [isNest] at hn)
/-- what is said of the state at a method's start, but for the world -/
def Gs (g : Gc) (A : Nat → Prop) (U : State) (H : Heap) : Prop :=
  va_K g.2.1 vwCl [(g.2.2.1.1, .int), (g.2.2.1.2.1, .long), (g.2.2.1.2.2, .array .long)] U
  ∧ (∀ w ∈ nestW, va_Nw w U)
  ∧ (∀ i j : Nat, i < 60 → j < 60 → g.1 i = g.1 j → i = j)
  ∧ (∀ j : Nat, j < 4 → va_Z "LastPruned" (snL.getD j "") "[I" (.ref (g.1 (60 + j))) A U H ∧ va_T .int (g.1 (60 + j)) (ln (60 + j)) (fun i => .int (sv (60 + j) i)) A U H)
  ∧ (va_T .int (g.1 64) g.2.2.2.2 (fun i => .int (g.2.2.2.1 i)) A U H ∧ g.2.2.2.2 < 2 ^ 31)
  ∧ (∀ j : Nat, j < 15 → vk_R "LastPruned$Tape" (sxL.getD j (0, "")).1 (sxL.getD j (0, "")).2 (g.1 (65 + j)) U)
  ∧ vk_S 15 slL sbL (fun i => g.1 (65 + i)) (fun i => g.1 (80 + i)) A U H
  ∧ (va_Z "java/lang/String" "COMPACT_STRINGS" "Z" (.int 1) A U H ∧ (va_Z "jdk/internal/util/Preconditions" "SIOOBE_FORMATTER" "Ljava/util/function/BiFunction;" .null A U H ∨ va_Z "jdk/internal/util/Preconditions" "SIOOBE_FORMATTER" "Ljava/util/function/BiFunction;" (.ref (g.1 96)) A U H))
theorem Gs.moved {g : Gc} {A : Nat → Prop} {u U : State} {H : Heap} (hW : u.WarmedH U.vm) (h : Gs g A u H) : Gs g A U H :=
  ⟨va_K.moved hW.alike h.1, fun w hw => nest_warm hW (List.mem_filter.mp hw).2 (h.2.1 w hw), h.2.2.1, fun j hj => ⟨va_Z.moved hW.alike (h.2.2.2.1 j hj).1, va_T.moved hW.alike (h.2.2.2.1 j hj).2⟩, ⟨va_T.moved hW.alike h.2.2.2.2.1.1, h.2.2.2.2.1.2⟩, fun j hj => vk_R.warm hW (h.2.2.2.2.2.1 j hj), vk_S.moved hW.alike h.2.2.2.2.2.2.1, ⟨va_Z.moved hW.alike h.2.2.2.2.2.2.2.1, h.2.2.2.2.2.2.2.2.imp (va_Z.moved hW.alike) (va_Z.moved hW.alike)⟩⟩
theorem Gs.same {g : Gc} {A : Nat → Prop} {u U : State} {H : Heap} (hv : u.vm = U.vm) (h : Gs g A u H) : Gs g A U H := by
  have ha : u.vm.Alike U.vm := by rw [hv]; exact Vm.Alike.refl _
  exact ⟨va_K.moved ha h.1, fun w hw => nest_same hv (List.mem_filter.mp hw).2 (h.2.1 w hw), h.2.2.1, fun j hj => ⟨va_Z.moved ha (h.2.2.2.1 j hj).1, va_T.moved ha (h.2.2.2.1 j hj).2⟩, ⟨va_T.moved ha h.2.2.2.2.1.1, h.2.2.2.2.1.2⟩, fun j hj => vk_R.same hv.symm (h.2.2.2.2.2.1 j hj), vk_S.moved ha h.2.2.2.2.2.2.1, ⟨va_Z.moved ha h.2.2.2.2.2.2.2.1, h.2.2.2.2.2.2.2.2.imp (va_Z.moved ha) (va_Z.moved ha)⟩⟩
theorem Gs.kept {g : Gc} {A B : Nat → Prop} {U : State} {H H1 : Heap} (h : Gs g A U H) (hq : ∀ a : Nat, a < H.size → ¬ A a → H1[a]? = H[a]?) (hAB : ∀ q, B q → A q) : Gs g B U H1 :=
  ⟨h.1, h.2.1, h.2.2.1, fun j hj => ⟨((h.2.2.2.1 j hj).1.kept hq).narrow hAB, ((h.2.2.2.1 j hj).2.kept hq).narrow hAB⟩, ⟨(h.2.2.2.2.1.1.kept hq).narrow hAB, h.2.2.2.2.1.2⟩, h.2.2.2.2.2.1, (h.2.2.2.2.2.2.1.kept hq).narrow hAB, ⟨(h.2.2.2.2.2.2.2.1.kept hq).narrow hAB, h.2.2.2.2.2.2.2.2.imp (fun z => (z.kept hq).narrow hAB) (fun z => (z.kept hq).narrow hAB)⟩⟩
/-- the world, in the heap now -/
def Hd (g : Gc) (M : Mm) (A : Nat → Prop) (s : State) (H : Heap) (locs : List Loc) : Prop := va_P g.2.1 vwCl (world g M) H ∧ va_S A s.heap H locs ∧ M.1 64 = g.2.2.2.1 ∧ M.1 95 0 = nI g.2.2.2.2
/-- the method's own: machine, code, words, room -/
def Cx (n : Nat) (mi : MI) (p : Program) (R : Room) (s : State) (m : MethodId) (args : Array Value) (c : Code) (g : Gc) (A : Nat → Prop) (cells slots : Nat) : Prop :=
  p.tables.exec = Jvm.exec ∧ c.code = mi.2.1 ∧ c.maxLocals = mi.2.2.1 ∧ s.vm.findClass mi.1.cls = some m.cls ∧ (∀ w ∈ wsM mi, w.before args s = true) ∧ (n ≤ R.frames ∧ 60 * n ≤ R.locals) ∧ (cells ≤ R.cells ∧ slots ≤ R.slots) ∧ Gs g A s s.heap ∧ (∀ q, s.heap.size ≤ q → A q) ∧ ∀ c, c < 60 → A (g.1 c)
def asc (g : Gc) (lv : LVs) : List (Nat × Value) := lv.zipIdx.filterMap (fun q => q.1.map (fun v => (q.2, cv g v)))
/-- how a method ends with r -/
def retI (mi : MI) (pc : Nat) (r : Option Value) : Prop :=
  (∃ (v : Int32) (ty : FieldType), r = some (.int v) ∧ decode mi.2.1 pc = .ok (.ireturn, 1) ∧ mi.2.2.2 = some ty ∧ narrow ty (.int v) = .int v)
  ∨ (∃ v : Int64, r = some (.long v) ∧ decode mi.2.1 pc = .ok (.lreturn, 1) ∧ mi.2.2.2 = some .long)
  ∨ (r = none ∧ decode mi.2.1 pc = .ok (.return_, 1) ∧ mi.2.2.2 = none)
  ∨ (∃ (a : Nat) (n : String), r = some (.ref a) ∧ decode mi.2.1 pc = .ok (.areturn, 1) ∧ mi.2.2.2 = some (.object n))
/-- THE JUDGEMENT: from pc with these locals, this stack, this memory, the method ends, with an answer and a memory as P says -/
def J (n : Nat) (mi : MI) (pc : Nat) (lv : LVs) (st : List Value) (M : Mm) (P : Option Value → Mm → Prop) : Prop :=
  ∀ (l : Launch) (p : Program) (e : Env) (R : Room) (s : State) (m : MethodId) (args : Array Value) (below : List Frame) (meth : Method) (c : Code) (g : Gc) (A : Nat → Prop) (cells slots : Nat) (Q : State → Prop),
    Cx n mi p R s m args c g A cells slots →
    (∀ (pcR : Nat) (lsR : Array Slot) (r : Option Value) (M' : Mm) (H' : Heap) (locs' : List Loc), P r M' → retI mi pcR r → Hd g M' A s H' locs' → W p l e R s m args below meth c H' locs' cells slots Q (F0 m pcR lsR (r.toList.map (cv g)))) →
    ∀ (H : Heap) (locs : List Loc) (ls : Array Slot), Hd g M A s H locs → lv_has ls mi.2.2.1 (asc g lv) → W p l e R s m args below meth c H locs cells slots Q (F0 m pc ls (st.map (cv g)))
theorem J.mono {n : Nat} {mi : MI} {pc : Nat} {lv : LVs} {st : List Value} {M : Mm} {P P' : Option Value → Mm → Prop} (h : J n mi pc lv st M P) (hP : ∀ r M', P r M' → P' r M') : J n mi pc lv st M P' := by
  intro l p e R s m args below meth c g A cells slots Q X hret
  exact h l p e R s m args below meth c g A cells slots Q X (fun pcR lsR r M' H' locs' hp => hret pcR lsR r M' H' locs' (hP r M' hp))
theorem J.up {n n' : Nat} {mi : MI} {pc : Nat} {lv : LVs} {st : List Value} {M : Mm} {P : Option Value → Mm → Prop} (h : J n mi pc lv st M P) (hn : n ≤ n') : J n' mi pc lv st M P := by
  intro l p e R s m args below meth c g A cells slots Q X hret
  obtain ⟨a1, a2, a3, a4, a5, ⟨a6, a7⟩, a8⟩ := X
  exact h l p e R s m args below meth c g A cells slots Q ⟨a1, a2, a3, a4, a5, ⟨by omega, by omega⟩, a8⟩ hret
/-- a method's contract -/
def rmN (n : Nat) : Room := { frames := n, cells := 0, slots := 0, locals := 60 * n }
def Aw (g : Gc) (sz : Nat) : Nat → Prop := fun q => (∃ c, c < 60 ∧ q = g.1 c) ∨ sz ≤ q
def Pk (g : Gc) (M : Mm) (sz : Nat) (av : List Value) : Array Value → State → Prop := va_Pc (av.map (cv g)) (fun U => U.heap.size = sz ∧ va_P g.2.1 vwCl (world g M) U.heap ∧ Gs g (Aw g sz) U U.heap ∧ M.1 64 = g.2.2.2.1 ∧ M.1 95 0 = nI g.2.2.2.2)
def Qk (g : Gc) (P : Option Value → Mm → Prop) (sz : Nat) : Array Value → State → Outcome → State → Prop := fun _ st oc t =>
  (∃ (r : Option Value) (M' : Mm), P r M' ∧ oc = .returned (r.map (cv g)) ∧ va_P g.2.1 vwCl (world g M') t.heap ∧ M'.1 64 = g.2.2.2.1 ∧ M'.1 95 0 = nI g.2.2.2.2) ∧ va_F (Aw g sz) st t
def K (n : Nat) (mi : MI) (av : List Value) (M : Mm) (P : Option Value → Mm → Prop) : Prop :=
  ∀ (l : Launch) (g : Gc) (sz : Nat), Met l mi.1 (wsM mi) (rmN n) (Pk g M sz av) (Qk g P sz) 0 0 (Aw g sz)
/-- an exact answer and memory -/
def Rt (r0 : Option Value) (M0 : Mm) : Option Value → Mm → Prop := fun r M => r = r0 ∧ M = M0
theorem mem_asc {g : Gc} {lv : LVs} {q : Nat × Value} : q ∈ asc g lv ↔ ∃ v, lv[q.1]? = some (some v) ∧ q.2 = cv g v := by
  unfold asc
  rw [List.mem_filterMap]
  constructor
  · rintro ⟨⟨o, i⟩, h1, h2⟩
    rw [List.mem_zipIdx_iff_getElem?] at h1
    cases o with
    | none => simp at h2
    | some v =>
      simp at h2
      subst h2
      exact ⟨v, h1, rfl⟩
  · rintro ⟨v, h1, h2⟩
    refine ⟨(some v, q.1), ?_, ?_⟩
    · rw [List.mem_zipIdx_iff_getElem?]
      exact h1
    · simp [← h2]
theorem lh_sub {ls : Array Slot} {n : Nat} {l l' : List (Nat × Value)} (h : lv_has ls n l) (hs : ∀ q ∈ l', q ∈ l) : lv_has ls n l' := ⟨h.1, h.2.1, fun q hq => h.2.2 q (hs q hq)⟩
theorem lh_get {g : Gc} {ls : Array Slot} {n i : Nat} {lv : LVs} {v : Value} (h : lv_has ls n (asc g lv)) (hv : lv[i]? = some (some v)) : ls[i]? = some (.val (cv g v)) := h.2.2 (i, cv g v) (mem_asc.mpr ⟨v, hv, rfl⟩)
theorem Hd.D {n : Nat} {mi : MI} {p : Program} {R : Room} {s : State} {m : MethodId} {args : Array Value} {c : Code} {g : Gc} {A : Nat → Prop} {cells slots : Nat} (X : Cx n mi p R s m args c g A cells slots) (M : Mm) : va_D A (world g M) := by
  obtain ⟨-, -, -, -, -, -, -, hG, -, hA⟩ := X
  refine ⟨fun i j x y hi hj hxy => ?_, fun k q hk => ?_⟩
  · have li : i < 60 := by have := (List.getElem?_eq_some_iff.mp hi).1; simpa [world] using this
    have lj : j < 60 := by have := (List.getElem?_eq_some_iff.mp hj).1; simpa [world] using this
    rw [world_at g M li] at hi
    rw [world_at g M lj] at hj
    cases hi
    cases hj
    exact hG.2.2.1 i j li lj hxy
  · have lk : k < 60 := by have := (List.getElem?_eq_some_iff.mp hk).1; simpa [world] using this
    rw [world_at g M lk] at hk
    cases hk
    exact hA k lk
