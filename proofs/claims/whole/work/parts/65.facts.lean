/-! the start: what the given words say -/
def gvn : List Cond := flatC (Jvm.Cond.and given_1 narrow_1)
def tS (j : Nat) : Term := .static "LastPruned" (snL.getD j "") "[I"
def tX (i : Nat) : Term := .string "LastPruned$Tape" (sxL.getD i (0, "")).1
theorem gv_1 : ∀ j, j < 4 → Cond.arrayOf (tS j) .int ∈ gvn := by decide +kernel
theorem gv_2 : ∀ j, j < 4 → Cond.eq (.length (tS j)) (.int (Int32.ofNat (ln (60 + j)))) ∈ gvn := by decide +kernel
theorem gv_3 : ∀ j, j < 4 → ∀ i, i < ln (60 + j) → Cond.eq (.elem (tS j) (.int (Int32.ofNat i))) (.int (sv (60 + j) i)) ∈ gvn := by decide +kernel
theorem gv_4 : ∀ j, j < 4 → lw_tbl[[437, 88, 793, 811].getD j 0]? = some (Cond.laysStatic "LastPruned" (snL.getD j "") "[I") := by decide +kernel
theorem gv_5 : Cond.exactly (tS 1) "[I" ∈ gvn := by decide +kernel
theorem gx_1 : ∀ i, i < 15 → Cond.exactly (tX i) "java/lang/String" ∈ gvn := by decide +kernel
theorem gx_2 : ∀ i, i < 15 → Cond.eq (.field (tX i) "java/lang/String" "coder" "B") (.int 0) ∈ gvn := by decide +kernel
theorem gx_3 : ∀ i, i < 15 → Cond.arrayOf (.field (tX i) "java/lang/String" "value" "[B") .byte ∈ gvn := by decide +kernel
theorem gx_4 : ∀ i, i < 15 → Cond.eq (.length (.field (tX i) "java/lang/String" "value" "[B")) (.int (Int32.ofNat (slL.getD i 0))) ∈ gvn := by decide +kernel
theorem gx_5 : ∀ i, i < 15 → ∀ j, j < slL.getD i 0 → Cond.eq (.elem (.field (tX i) "java/lang/String" "value" "[B") (.int (Int32.ofNat j))) (.int ((sbL.getD i []).getD j 0)) ∈ gvn := by decide +kernel
theorem gx_6_0 : ∀ j, j < 15 → 0 < j → gvn[([0, 77, 87, 96, 107, 120, 134, 147, 162, 179, 194, 213, 231, 250, 268] : List Nat).getD j 0]? = some (Cond.not (Cond.eq (tX 0) (tX j))) := by decide +kernel
theorem gx_6_1 : ∀ j, j < 15 → 1 < j → gvn[([0, 0, 88, 97, 108, 121, 135, 148, 163, 180, 195, 214, 232, 251, 269] : List Nat).getD j 0]? = some (Cond.not (Cond.eq (tX 1) (tX j))) := by decide +kernel
theorem gx_6_2 : ∀ j, j < 15 → 2 < j → gvn[([0, 0, 0, 98, 109, 122, 136, 149, 164, 181, 196, 215, 233, 252, 270] : List Nat).getD j 0]? = some (Cond.not (Cond.eq (tX 2) (tX j))) := by decide +kernel
theorem gx_6_3 : ∀ j, j < 15 → 3 < j → gvn[([0, 0, 0, 0, 110, 123, 137, 150, 165, 182, 197, 216, 234, 253, 271] : List Nat).getD j 0]? = some (Cond.not (Cond.eq (tX 3) (tX j))) := by decide +kernel
theorem gx_6_4 : ∀ j, j < 15 → 4 < j → gvn[([0, 0, 0, 0, 0, 124, 138, 151, 166, 183, 198, 217, 235, 254, 272] : List Nat).getD j 0]? = some (Cond.not (Cond.eq (tX 4) (tX j))) := by decide +kernel
theorem gx_6_5 : ∀ j, j < 15 → 5 < j → gvn[([0, 0, 0, 0, 0, 0, 139, 152, 167, 184, 199, 218, 236, 255, 273] : List Nat).getD j 0]? = some (Cond.not (Cond.eq (tX 5) (tX j))) := by decide +kernel
theorem gx_6_6 : ∀ j, j < 15 → 6 < j → gvn[([0, 0, 0, 0, 0, 0, 0, 153, 168, 185, 200, 219, 237, 256, 274] : List Nat).getD j 0]? = some (Cond.not (Cond.eq (tX 6) (tX j))) := by decide +kernel
theorem gx_6_7 : ∀ j, j < 15 → 7 < j → gvn[([0, 0, 0, 0, 0, 0, 0, 0, 169, 186, 201, 220, 238, 257, 275] : List Nat).getD j 0]? = some (Cond.not (Cond.eq (tX 7) (tX j))) := by decide +kernel
theorem gx_6_8 : ∀ j, j < 15 → 8 < j → gvn[([0, 0, 0, 0, 0, 0, 0, 0, 0, 187, 202, 221, 239, 258, 276] : List Nat).getD j 0]? = some (Cond.not (Cond.eq (tX 8) (tX j))) := by decide +kernel
theorem gx_6_9 : ∀ j, j < 15 → 9 < j → gvn[([0, 0, 0, 0, 0, 0, 0, 0, 0, 0, 203, 222, 240, 259, 277] : List Nat).getD j 0]? = some (Cond.not (Cond.eq (tX 9) (tX j))) := by decide +kernel
theorem gx_6_10 : ∀ j, j < 15 → 10 < j → gvn[([0, 0, 0, 0, 0, 0, 0, 0, 0, 0, 0, 223, 241, 260, 278] : List Nat).getD j 0]? = some (Cond.not (Cond.eq (tX 10) (tX j))) := by decide +kernel
theorem gx_6_11 : ∀ j, j < 15 → 11 < j → gvn[([0, 0, 0, 0, 0, 0, 0, 0, 0, 0, 0, 0, 242, 261, 279] : List Nat).getD j 0]? = some (Cond.not (Cond.eq (tX 11) (tX j))) := by decide +kernel
theorem gx_6_12 : ∀ j, j < 15 → 12 < j → gvn[([0, 0, 0, 0, 0, 0, 0, 0, 0, 0, 0, 0, 0, 262, 280] : List Nat).getD j 0]? = some (Cond.not (Cond.eq (tX 12) (tX j))) := by decide +kernel
theorem gx_6_13 : ∀ j, j < 15 → 13 < j → gvn[([0, 0, 0, 0, 0, 0, 0, 0, 0, 0, 0, 0, 0, 0, 281] : List Nat).getD j 0]? = some (Cond.not (Cond.eq (tX 13) (tX j))) := by decide +kernel
theorem gx_6h : ∀ i j, i < j → j < 15 → Cond.not (Cond.eq (tX i) (tX j)) ∈ gvn := by
  intro i j hij hj
  rcases (show i = 0 ∨ i = 1 ∨ i = 2 ∨ i = 3 ∨ i = 4 ∨ i = 5 ∨ i = 6 ∨ i = 7 ∨ i = 8 ∨ i = 9 ∨ i = 10 ∨ i = 11 ∨ i = 12 ∨ i = 13 by omega) with rfl | rfl | rfl | rfl | rfl | rfl | rfl | rfl | rfl | rfl | rfl | rfl | rfl | rfl
  · exact List.mem_of_getElem? (gx_6_0 j hj hij)
  · exact List.mem_of_getElem? (gx_6_1 j hj hij)
  · exact List.mem_of_getElem? (gx_6_2 j hj hij)
  · exact List.mem_of_getElem? (gx_6_3 j hj hij)
  · exact List.mem_of_getElem? (gx_6_4 j hj hij)
  · exact List.mem_of_getElem? (gx_6_5 j hj hij)
  · exact List.mem_of_getElem? (gx_6_6 j hj hij)
  · exact List.mem_of_getElem? (gx_6_7 j hj hij)
  · exact List.mem_of_getElem? (gx_6_8 j hj hij)
  · exact List.mem_of_getElem? (gx_6_9 j hj hij)
  · exact List.mem_of_getElem? (gx_6_10 j hj hij)
  · exact List.mem_of_getElem? (gx_6_11 j hj hij)
  · exact List.mem_of_getElem? (gx_6_12 j hj hij)
  · exact List.mem_of_getElem? (gx_6_13 j hj hij)
theorem gx_6 : ∀ i, i < 15 → ∀ j, j < 15 → i ≠ j → Cond.not (Cond.eq (tX i) (tX j)) ∈ gvn ∨ Cond.not (Cond.eq (tX j) (tX i)) ∈ gvn := by
  intro i hi j hj hij
  rcases Nat.lt_or_ge i j with h | h
  · exact Or.inl (gx_6h i j h hj)
  · exact Or.inr (gx_6h j i (by omega) hi)
theorem gx_7 : ∀ i, i < 15 → lw_tbl[[324, 377, 378, 379, 380, 381, 386, 387, 388, 389, 397, 414, 415, 416, 421].getD i 0]? = some (Cond.stringRef "LastPruned$Tape" (sxL.getD i (0, "")).1 (sxL.getD i (0, "")).2) := by decide +kernel
theorem gz_1 : Cond.eq (.static "java/lang/String" "COMPACT_STRINGS" "Z") (.int 1) ∈ gvn := by decide +kernel
theorem gz_2 : Cond.isRef (.static "jdk/internal/util/Preconditions" "SIOOBE_FORMATTER" "Ljava/util/function/BiFunction;") ∈ gvn := by decide +kernel
theorem len_small {args : Array Value} {s : State} {t : Term} {v : Int32} (h : (Term.length t).eval args s none [] s = some (.int v)) : ∃ a cell, t.eval args s none [] s = some (.ref a) ∧ s.arrayAt? a = some cell ∧ v = Int32.ofNat cell.slots.size ∧ cell.slots.size < 2 ^ 31 := by
  obtain ⟨b, cell, ht, harr, hv⟩ := Term.length_spec h
  refine ⟨b, cell, ht, harr, Value.int.inj hv, ?_⟩
  simp only [Term.eval, ht, harr, Option.bind_eq_bind, Option.bind_some] at h
  by_cases hlt : cell.slots.size < 2147483648
  · exact hlt
  · simp [hlt] at h
section ST
variable {args : Array Value} {s : State}
theorem st_T (hts : ∀ w ∈ lw_tbl, w.before args s = true) (hgv : (Jvm.Cond.and given_1 narrow_1).before args s = true) {A : Nat → Prop} (hA : ∀ a : Nat, a < s.heap.size → ¬ A a) : ∀ j, ∃ t : Nat, j < 4 → (tS j).eval args s none [] s = some (.ref t) ∧ va_Z "LastPruned" (snL.getD j "") "[I" (.ref t) A s s.heap ∧ va_T .int t (ln (60 + j)) (fun i => .int (sv (60 + j) i)) A s s.heap := by
  intro j
  have hs : ∀ w ∈ gvn, w.before args s = true := flat_of_before _ hgv
  by_cases hj : j < 4
  · obtain ⟨t, ht, hT⟩ := va_Tof (tm := tS j) (ty := .int) (N := ln (60 + j)) (f := fun i => .int (sv (60 + j) i)) (A := A) (by rcases (show j = 0 ∨ j = 1 ∨ j = 2 ∨ j = 3 by omega) with rfl | rfl | rfl | rfl <;> decide) (hs _ (gv_1 j hj)) (va_eqt (hs _ (gv_2 j hj))) (fun i hi => va_eqt (hs _ (gv_3 j hj i hi))) hA
    refine ⟨t, fun _ => ⟨ht, va_Zref (hts _ (List.mem_of_getElem? (gv_4 j hj))) (hts (.initialized "LastPruned") (List.mem_of_getElem? (i := 58) (by decide +kernel))) ht hA, hT⟩⟩
  · exact ⟨0, fun h => absurd h hj⟩
theorem st_SA (hgv : (Jvm.Cond.and given_1 narrow_1).before args s = true) {A : Nat → Prop} {D : va_G} {cs : C3} {t : Nat} (hK : va_K D vwCl (TYs cs) s) (ht : (tS 1).eval args s none [] s = some (.ref t)) (hT : va_T .int t 4 (fun i => .int (sv 61 i)) A s s.heap) : SA cs.1 t A s.heap := by
  have hs : ∀ w ∈ gvn, w.before args s = true := flat_of_before _ hgv
  obtain ⟨a, cI, cell, k, q1, q2, q3, q4, q5, q6, -⟩ := Cond.exactly_spec (args := args) (first := s) (o := none) (s := s) (idx := []) (hs _ gv_5)
  cases ht.symm.trans q1
  obtain ⟨b, cell2, r1, r2, r3, r4⟩ := len_small (va_eqt (hs _ (gv_2 1 (by omega))))
  cases ht.symm.trans r1
  obtain ⟨r5, -, -, -⟩ := State.arrayAt?_spec r2
  cases q3.symm.trans r5
  obtain ⟨cell3, w1, w2, w3, w4, w5, w6, w7⟩ := hT
  cases q3.symm.trans w1
  have hsz : cell.slots.size = 4 := by
    have e : (Int32.ofNat cell.slots.size).toNatClampNeg = (Int32.ofNat 4).toNatClampNeg := congrArg Int32.toNatClampNeg r3.symm
    rw [Int32.toNatClampNeg_ofNat_of_lt r4, Int32.toNatClampNeg_ofNat_of_lt (by decide)] at e
    exact e
  have hc : cell.cls = cs.1 := by
    rw [q6]
    exact Option.some.inj (q2.symm.trans (va_nm_int (hK.2 0 _ rfl).2))
  refine ⟨cell, q3, fun k e => ?_, w3, hc, ?_, w7⟩
  · rw [e] at q5
    cases q5
  · apply Array.ext_getElem?
    intro i
    rcases Nat.lt_or_ge i 4 with h | h
    · rw [w6 i h, arrV_read _ _ h]
    · rw [Array.getElem?_eq_none (by rw [hsz]; exact h), Array.getElem?_eq_none (by rw [arrV_size]; exact h)]
theorem st_X (hts : ∀ w ∈ lw_tbl, w.before args s = true) (hgv : (Jvm.Cond.and given_1 narrow_1).before args s = true) {A : Nat → Prop} (hA : ∀ a : Nat, a < s.heap.size → ¬ A a) : ∃ adK adV : Nat → Nat, vk_S 15 slL sbL adK adV A s s.heap ∧ ∀ i, i < 15 → vk_R "LastPruned$Tape" (sxL.getD i (0, "")).1 (sxL.getD i (0, "")).2 (adK i) s := by
  have hs : ∀ w ∈ gvn, w.before args s = true := flat_of_before _ hgv
  obtain ⟨adK, adV, h1, h2⟩ := vk_Sof (N := 15) (tm := tX) (len := slL) (byt := sbL) (A := A) (by decide +kernel) (fun i hi => hs _ (gx_1 i hi)) (fun i hi => hs _ (gx_2 i hi)) (fun i hi => hs _ (gx_3 i hi)) (fun i hi => hs _ (gx_4 i hi)) (fun i hi j hj => hs _ (gx_5 i hi j hj)) (fun i j hi hj hij => (gx_6 i hi j hj hij).imp (fun h => hs _ h) (fun h => hs _ h)) hA
  exact ⟨adK, adV, h1, fun i hi => vk_R.of (hts _ (List.mem_of_getElem? (gx_7 i hi))) (h2 i hi)⟩
theorem st_Z (hts : ∀ w ∈ lw_tbl, w.before args s = true) (hgv : (Jvm.Cond.and given_1 narrow_1).before args s = true) {A : Nat → Prop} (hA : ∀ a : Nat, a < s.heap.size → ¬ A a) : va_Z "java/lang/String" "COMPACT_STRINGS" "Z" (.int 1) A s s.heap ∧ ∃ f : Nat, (va_Z "jdk/internal/util/Preconditions" "SIOOBE_FORMATTER" "Ljava/util/function/BiFunction;" .null A s s.heap ∨ va_Z "jdk/internal/util/Preconditions" "SIOOBE_FORMATTER" "Ljava/util/function/BiFunction;" (.ref f) A s s.heap) := by
  have hs : ∀ w ∈ gvn, w.before args s = true := flat_of_before _ hgv
  refine ⟨va_Zof (hts _ (List.mem_of_getElem? (i := 338) (by decide +kernel))) (hts _ (List.mem_of_getElem? (i := 67) (by decide +kernel))) (va_eqi (hs _ gz_1)) hA, ?_⟩
  rcases va_Zqof (C := "jdk/internal/util/Preconditions") (n := "SIOOBE_FORMATTER") (d := "Ljava/util/function/BiFunction;") (A := A) (hts _ (List.mem_of_getElem? (i := 354) (by decide +kernel))) (hts _ (List.mem_of_getElem? (i := 69) (by decide +kernel))) (hs _ gz_2) hA with h | ⟨f, h⟩
  · exact ⟨0, Or.inl h⟩
  · exact ⟨f, Or.inr h⟩
theorem st_N (hts : ∀ w ∈ lw_tbl, w.before args s = true) : ∀ w ∈ nestW, va_Nw w s := by
  intro w hw
  obtain ⟨h1, h2⟩ := List.mem_filter.mp hw
  have h3 := hts w h1
  cases w <;> first | exact va_Nw.of rfl h3 | (simp [isNest] at h2)
end ST
/-- a constructor called by the law -/
theorem at_lst {α : Type} (w : List α) (y : α) : [w.length].map (fun i => (w ++ [y])[i]?) = [y].map some := by simp
theorem at_rst {α : Type} (w : List α) (y : α) : (List.range w.length).map (fun i => (w ++ [y])[i]?) = w.map some := by
  apply List.ext_getElem?
  intro i
  rcases Nat.lt_or_ge i w.length with h | h
  · simp [h, List.getElem?_append_left h]
  · rw [List.getElem?_eq_none (by simpa using h), List.getElem?_eq_none (by simpa using h)]
theorem S_callI {p : Program} {l : Launch} {e : Env} {R : Room} {s : State} {m : MethodId} {args : Array Value} {below : List Frame} {meth : Method} {c : Code} {A : Nat → Prop} {D : va_G} {Q : State → Prop} {pc : Nat} {st : List Value} {wr : va_W} {cells slots : Nat} {mi : MI} {cs : C3} {a61 : Nat} {H : Heap} {locs : List Loc} {ls : Array Slot} {mi' : MI} {cj n' mc ms idx q : Nat} {fs2 : List Value} {post : C3 → (Nat → Nat) → va_W} (hx : p.tables.exec = Jvm.exec) (hb : c.code = mi.2.1) (hml : c.maxLocals = mi.2.2.1) (hown : s.vm.findClass mi.1.cls = some m.cls) (hts : ∀ w ∈ wsM mi, w.before args s = true) (hG : GC D cs a61 A s s.heap) (hA : ∀ q, s.heap.size ≤ q → A q) (hP : va_P D vwCl (wr ++ [(q, .inr (cj, fs2))]) H) (hD : va_D A (wr ++ [(q, .inr (cj, fs2))])) (hS : va_S A s.heap H locs) (hl : ls.size = mi.2.2.1) (hKC : KC mi' cj fs2 n' mc ms post) (hM : MOK mi' 0) (hnm : mi'.1.name = "<init>") (h1 : mi'.2.2.1 = 1) (hrt : mi'.2.2.2 = none) (hinst : Cond.instanceMethod mi'.1 ∈ gw) (hlk : Cond.methodLink mi.1.cls idx mi'.1 ∈ gw) (hd : decode mi.2.1 pc = .ok (.invokespecial idx, 3)) (hroom : n' + 1 ≤ R.frames ∧ 20 + 60 * n' ≤ R.locals) (hw : (st.map fun v => v.category).sum ≤ 8) (hcs : cells + mc ≤ R.cells ∧ slots + ms ≤ R.slots) (k : ∀ (a : Nat → Nat) (H1 : Heap) (locs1 : List Loc), a 0 = q → va_P D vwCl (wr ++ post cs a) H1 → va_D A (wr ++ post cs a) → va_S A s.heap H1 locs1 → W p l e R s m args below meth c H1 locs1 (cells + mc) (slots + ms) Q (F0 m (pc + 3) ls st)) : W p l e R s m args below meth c H locs cells slots Q (F0 m pc ls (.ref q :: st)) := by
  have hC := at_lst wr (q, (.inr (cj, fs2) : va_E))
  have hR := at_rst wr (q, (.inr (cj, fs2) : va_E))
  have hPc := hP.sub (ws' := [(q, .inr (cj, fs2))]) [wr.length] (by simp)
  have hFc := va_free (wc := [(q, .inr (cj, fs2))]) hD hS hA [wr.length] hC
  have hpre : PreS s H (va_Pc [.ref q] (fun U => U.heap.size = H.size ∧ va_P D vwCl [(q, .inr (cj, fs2))] U.heap ∧ GC D cs a61 (va_A [(q, .inr (cj, fs2))] H.size) U U.heap)) [.ref q] := by
    refine ⟨fun a U g mk z => ?_, fun U hU hW => ⟨rfl, by rw [hU], by rw [hU]; exact hPc, ?_⟩⟩
    · obtain ⟨z1, z2, z3, z4⟩ := z
      exact ⟨z1, z2, z3, GC.same (u := U) rfl z4⟩
    · rw [hU]
      exact (GC.moved hW hG).kept hS.2.1 hFc
  have hini := hts _ (gw_ws hM.2.1)
  have hrun := va_runI (e := e) (below := below) (meth := meth) (locs := locs) (As := []) (rest := st) (g := F0 m pc ls (.ref q :: st)) ⟨hx, hb, hml, hown, hts⟩ (hKC l D cs a61 q H.size) ⟨callB_of (bytes := mi'.2.1) (maxL := 1) (ret := none) (ws' := gw) 0 hts (gi hM.1) (by unfold wsM; rw [h1, hrt]) rfl rfl hini (hts _ (gw_ws hlk)) hM.2.2.1 ⟨hroom.1, by show 8 + (1 + 11) + 60 * n' ≤ _; omega⟩, hnm, hts _ (gw_ws hinst)⟩ hpre rfl rfl hl rfl (lv_room hw) hd hcs
  refine va_callv hrun hS (fun q' _ h => hFc q' h) hFc (fun u t H1 locs1 ht hvm hw hB hz1 hk1 hS1 => ?_)
  obtain ⟨hP1, hD1⟩ := hB
  rw [ht] at hP1
  obtain ⟨hP2, hD2⟩ := va_join (wr := wr) (w1 := post cs u) hP hD [wr.length] (List.range wr.length) hC hR (nd_range _) (fun i hi h => by simp at hi h; omega) hk1 hFc hP1 hD1
  exact k u H1 locs1 hw hP2 hD2 hS1
