/-! the start: the memory that the two constructors leave, and what the tables and the given words say -/
def M0 (xs : Nat → Int32) (L : Nat) : Mm := (fun c j => if c = 64 then xs j else if c = 95 then nI L else if c = 47 then upd (begS (fun _ => 0)) 2 1 j else if c = 2 then sv 61 j else if c = 11 then sv 61 j else if c = 20 then sv 61 j else if c = 37 then m1R j else if c = 53 then m1R j else if c = 28 then (if j = 4 then 2 else 0) else if c = 1 then (if j = 10 then 1 else 0) else if c = 10 then (if j = 10 then 1 else 0) else if c = 19 then (if j = 10 then 1 else 0) else 0, fun _ _ => 0)
theorem m1R_at {t : Nat} (ht : t < 4) : m1R t = -1 := by
  rcases (show t = 0 ∨ t = 1 ∨ t = 2 ∨ t = 3 by omega) with rfl | rfl | rfl | rfl <;> decide
theorem IV0 (xs : Nat → Int32) (L : Nat) : IV (M0 xs L) 0 := by
  have hg := beg_GI (fun _ => 0)
  have e47 : (M0 xs L).1 47 = upd (begS (fun _ => 0)) 2 1 := rfl
  have z40 : (M0 xs L).1 40 = fun _ => 0 := rfl
  have z56 : (M0 xs L).1 56 = fun _ => 0 := rfl
  refine ⟨⟨⟨rfl, by omega, fun o ho => absurd ho (by omega)⟩, fun o ho => absurd ho (by omega), ⟨2, by omega, rfl⟩, ⟨1, by omega, rfl⟩, ⟨2, by omega, rfl⟩, ⟨20, by omega, rfl⟩⟩, ⟨rfl, rfl, rfl, rfl, rfl, fun j hj => ?_, fun o ho => absurd ho (by omega)⟩, Or.inl ⟨rfl, rfl⟩, ⟨fun _ => 0, 0, ⟨rfl, by omega, fun _ => (by decide : 0 < 256), fun i hi => absurd hi (by omega)⟩, rfl, rfl⟩, ⟨⟨0, by omega, rfl, rfl⟩, rfl⟩, fun t ht => ⟨⟨0, by omega, rfl⟩, ⟨0, by omega, rfl⟩, Or.inl ⟨m1R_at ht, m1R_at ht⟩⟩, fun h hh => ⟨rfl, Or.inl rfl⟩, ⟨⟨0, by omega, rfl, rfl⟩, rfl⟩⟩
  rcases (show j = 0 ∨ j = 1 ∨ j = 2 ∨ j = 3 by omega) with rfl | rfl | rfl | rfl <;> rfl
/-! where the cells lie -/
def g1 (a b st : Nat → Nat) (c : Nat) : Nat := if c < 60 then ([a 0, a 1, a 9, a 17, a 25, a 33, a 41, a 49, a 57, a 65, a 2, a 10, a 18, a 26, a 34, a 42, a 50, a 58, a 66, a 3, a 11, a 19, a 27, a 35, a 43, a 51, a 59, a 67, a 4, a 12, a 8, a 5, a 21, a 37, a 53, a 69, a 85, a 13, a 29, a 6, a 14, a 22, a 30, a 38, a 7, a 15, b 0, b 1, b 2, b 3, b 4, b 5, b 6, b 7, b 8, b 9, b 10, b 11, b 12, b 13] : List Nat).getD c 0 else st c
def sg (c : Nat) : Nat := if c < 46 then c else if c = 46 then 58 else if c = 47 then 59 else c - 2
def gO (D : va_G) (cs : C3) (a b st : Nat → Nat) (xs : Nat → Int32) (L : Nat) : Gc := (g1 a b st, D, cs, xs, L)
theorem ws_at (D : va_G) (cs : C3) (a b st : Nat → Nat) (xs : Nat → Int32) (L c : Nat) (hc : c < 60) : (lpW cs a ++ mdW cs b)[sg c]? = some (g1 a b st c, if c = 32 then .inl (cs.2.2, 4, .inr (.inr (.inr (.inr (fun i => some (a (8 * (4 + 2 * i) + 5))))))) else ent (gO D cs a b st xs L) (M0 xs L) c) := by
  rcases (show c = 0 ∨ c = 1 ∨ c = 2 ∨ c = 3 ∨ c = 4 ∨ c = 5 ∨ c = 6 ∨ c = 7 ∨ c = 8 ∨ c = 9 ∨ c = 10 ∨ c = 11 ∨ c = 12 ∨ c = 13 ∨ c = 14 ∨ c = 15 ∨ c = 16 ∨ c = 17 ∨ c = 18 ∨ c = 19 ∨ c = 20 ∨ c = 21 ∨ c = 22 ∨ c = 23 ∨ c = 24 ∨ c = 25 ∨ c = 26 ∨ c = 27 ∨ c = 28 ∨ c = 29 ∨ c = 30 ∨ c = 31 ∨ c = 32 ∨ c = 33 ∨ c = 34 ∨ c = 35 ∨ c = 36 ∨ c = 37 ∨ c = 38 ∨ c = 39 ∨ c = 40 ∨ c = 41 ∨ c = 42 ∨ c = 43 ∨ c = 44 ∨ c = 45 ∨ c = 46 ∨ c = 47 ∨ c = 48 ∨ c = 49 ∨ c = 50 ∨ c = 51 ∨ c = 52 ∨ c = 53 ∨ c = 54 ∨ c = 55 ∨ c = 56 ∨ c = 57 ∨ c = 58 ∨ c = 59 by omega) with rfl | rfl | rfl | rfl | rfl | rfl | rfl | rfl | rfl | rfl | rfl | rfl | rfl | rfl | rfl | rfl | rfl | rfl | rfl | rfl | rfl | rfl | rfl | rfl | rfl | rfl | rfl | rfl | rfl | rfl | rfl | rfl | rfl | rfl | rfl | rfl | rfl | rfl | rfl | rfl | rfl | rfl | rfl | rfl | rfl | rfl | rfl | rfl | rfl | rfl | rfl | rfl | rfl | rfl | rfl | rfl | rfl | rfl | rfl | rfl <;> rfl
theorem world_M0 {D : va_G} {cs : C3} {a b st : Nat → Nat} {xs : Nat → Int32} {L : Nat} {H : Heap} (hP : va_P D vwCl (lpW cs a ++ mdW cs b) H) : va_P D vwCl (world (gO D cs a b st xs L) (M0 xs L)) H := by
  intro c q hq
  have hc : c < 60 := by
    have := (List.getElem?_eq_some_iff.mp hq).1
    simpa [world] using this
  rw [world_at _ _ hc] at hq
  cases hq
  have h := hP (sg c) _ (ws_at D cs a b st xs L c hc)
  by_cases e : c = 32
  · subst e
    rw [if_pos rfl] at h
    have h1 : H[g1 a b st 32]? = some (arrV cs.2.2 4 (fun j => va_rf (some (a (8 * (4 + 2 * j) + 5))))) := h
    show H[g1 a b st 32]? = some (arrV cs.2.2 4 (fun j => va_rf (some (g1 a b st (32 + 1 + j)))))
    refine h1.trans (congrArg some (arr_congr (fun j hj => ?_)))
    rcases (show j = 0 ∨ j = 1 ∨ j = 2 ∨ j = 3 by omega) with rfl | rfl | rfl | rfl <;> rfl
  · rw [if_neg e] at h
    exact h
theorem sg_spec (c : Nat) : (c < 46 ∧ sg c = c) ∨ (c = 46 ∧ sg c = 58) ∨ (c = 47 ∧ sg c = 59) ∨ (48 ≤ c ∧ sg c = c - 2) := by
  unfold sg
  by_cases h1 : c < 46
  · exact Or.inl ⟨h1, if_pos h1⟩
  · by_cases h2 : c = 46
    · exact Or.inr (Or.inl ⟨h2, by rw [if_neg h1, if_pos h2]⟩)
    · by_cases h3 : c = 47
      · exact Or.inr (Or.inr (Or.inl ⟨h3, by rw [if_neg h1, if_neg h2, if_pos h3]⟩))
      · exact Or.inr (Or.inr (Or.inr ⟨by omega, by rw [if_neg h1, if_neg h2, if_neg h3]⟩))
theorem g1_inj {A : Nat → Prop} {cs : C3} {a b st : Nat → Nat} (D : va_G) (hD : va_D A (lpW cs a ++ mdW cs b)) (i j : Nat) (hi : i < 60) (hj : j < 60) (h : g1 a b st i = g1 a b st j) : i = j := by
  have e := hD.1 (sg i) (sg j) _ _ (ws_at D cs a b st (fun _ => 0) 0 i hi) (ws_at D cs a b st (fun _ => 0) 0 j hj) h
  rcases sg_spec i with ⟨h1, h2⟩ | ⟨h1, h2⟩ | ⟨h1, h2⟩ | ⟨h1, h2⟩ <;> rcases sg_spec j with ⟨h3, h4⟩ | ⟨h3, h4⟩ | ⟨h3, h4⟩ | ⟨h3, h4⟩ <;> omega
theorem g1_A {A : Nat → Prop} {cs : C3} {a b st : Nat → Nat} (D : va_G) (hD : va_D A (lpW cs a ++ mdW cs b)) (c : Nat) (hc : c < 60) : A (g1 a b st c) := hD.2 _ _ (ws_at D cs a b st (fun _ => 0) 0 c hc)
/-! what the tables say -/
theorem ov_ll {args : Array Value} {s : State} (h : (Cond.arrayOver (.array .long)).before args s = true) : ∃ cJ cL k, s.vm.findClass (FieldType.array .long).toString = some cJ ∧ s.vm.classes[cL]? = some k ∧ k.kind = .array cJ (.array .long) ∧ s.vm.findClass ("[" ++ (FieldType.array .long).toString) = some cL := by
  have h2 : (Cond.arrayOver (.array .long)).value args s none s [] = some true := by
    have := h
    simpa [Cond.before, Cond.holds] using this
  simp only [Cond.value] at h2
  cases hc : s.vm.findClass (FieldType.array .long).toString with
  | none => rw [hc] at h2; cases h2
  | some cJ =>
    rw [hc] at h2
    simp only [Option.bind_some, Option.bind_eq_some_iff, Option.map_eq_some_iff] at h2
    obtain ⟨cL, hi, k, hk, hb⟩ := h2
    obtain ⟨hlt, hp, -⟩ := Array.findIdx?_eq_some_iff_getElem.mp hi
    rw [(Array.getElem?_eq_some_iff.mp hk).2] at hp
    refine ⟨cJ, cL, k, rfl, hk, ?_⟩
    cases hkind : k.kind with
    | array component ty =>
      rw [hkind] at hb hp
      simp at hb hp
      exact ⟨by rw [hp, hb.1], hb.2⟩
    | _ => rw [hkind] at hb; simp at hb
theorem st_K {args : Array Value} {s : State} (hts : ∀ w ∈ lw_tbl, w.before args s = true) : ∃ (D : va_G) (cs : C3), va_K D vwCl (TYs cs) s ∧ KL cs s := by
  have hg : ∀ w ∈ gw, w.before args s = true := fun w hw => hts w (List.mem_filter.mp hw).1
  obtain ⟨c0, i0, h0⟩ := u_known (C := RX0) (T := TX0) (N := 6) (n := 6) hg (cls_all (ci := 0) rfl).2.2.1 (hts (.instantiable RX0 6) (List.mem_of_getElem? (i := 227) (by decide +kernel)))
  obtain ⟨c1, i1, h1⟩ := u_known (C := RX1) (T := TX1) (N := 3) (n := 3) hg (cls_all (ci := 1) rfl).2.2.1 (hts (.instantiable RX1 3) (List.mem_of_getElem? (i := 183) (by decide +kernel)))
  obtain ⟨c2, i2, h2⟩ := u_known (C := RX2) (T := TX2) (N := 4) (n := 4) hg (cls_all (ci := 2) rfl).2.2.1 (hts (.instantiable RX2 4) (List.mem_of_getElem? (i := 205) (by decide +kernel)))
  obtain ⟨c3, i3, h3⟩ := u_known (C := RX3) (T := TX3) (N := 6) (n := 6) hg (cls_all (ci := 3) rfl).2.2.1 (hts (.instantiable RX3 6) (List.mem_of_getElem? (i := 156) (by decide +kernel)))
  obtain ⟨c4, i4, h4⟩ := u_known (C := RX4) (T := TX4) (N := 14) (n := 14) hg (cls_all (ci := 4) rfl).2.2.1 (hts (.instantiable RX4 14) (List.mem_of_getElem? (i := 82) (by decide +kernel)))
  obtain ⟨c5, i5, h5⟩ := u_known (C := RX5) (T := TX5) (N := 10) (n := 10) hg (cls_all (ci := 5) rfl).2.2.1 (hts (.instantiable RX5 10) (List.mem_of_getElem? (i := 74) (by decide +kernel)))
  obtain ⟨c6, i6, h6⟩ := u_known (C := RX6) (T := TX6) (N := 26) (n := 26) hg (cls_all (ci := 6) rfl).2.2.1 (hts (.instantiable RX6 26) (List.mem_of_getElem? (i := 842) (by decide +kernel)))
  obtain ⟨cI, kI, pI, f1, f2, f3⟩ := Cond.arrayClass_spec (args := args) (first := s) (o := none) (s := s) (idx := []) (hts (.arrayClass .int) (List.mem_of_getElem? (i := 154) (by decide +kernel)))
  obtain ⟨cJ, kJ, pJ, e1, e2, e3⟩ := Cond.arrayClass_spec (args := args) (first := s) (o := none) (s := s) (idx := []) (hts (.arrayClass .long) (List.mem_of_getElem? (i := 203) (by decide +kernel)))
  obtain ⟨cJ2, cL, kL, d1, d2, d3, d4⟩ := ov_ll (hts (.arrayOver (.array .long)) (List.mem_of_getElem? (i := 189) (by decide +kernel)))
  have ej : cJ2 = cJ := by
    rw [show (FieldType.array .long).toString = "[" ++ FieldType.long.toString by decide +kernel] at d1
    exact Option.some.inj (d1.symm.trans e1)
  subst ej
  refine ⟨(fun k => [c0, c1, c2, c3, c4, c5, c6].getD k c0, fun k => [i0, i1, i2, i3, i4, i5, i6].getD k i0), (cI, cJ2, cL), ⟨fun c q hq => ?_, fun k q hq => ?_⟩, kL, d2, d3⟩
  · have hlt : c < 7 := (List.getElem?_eq_some_iff.mp hq).1
    rcases (show c = 0 ∨ c = 1 ∨ c = 2 ∨ c = 3 ∨ c = 4 ∨ c = 5 ∨ c = 6 by omega) with rfl | rfl | rfl | rfl | rfl | rfl | rfl <;> cases hq
    · exact h0
    · exact h1
    · exact h2
    · exact h3
    · exact h4
    · exact h5
    · exact h6
  · have hlt : k < 3 := (List.getElem?_eq_some_iff.mp hq).1
    rcases (show k = 0 ∨ k = 1 ∨ k = 2 by omega) with rfl | rfl | rfl <;> cases hq
    · exact ⟨fun n f => ⟨fun _ hh => (by cases hh), kI, f2, pI, f3⟩, f1⟩
    · exact ⟨fun n f => ⟨fun _ hh => (by cases hh), kJ, e2, pJ, e3⟩, e1⟩
    · exact ⟨fun n f => ⟨fun _ hh => (by cases hh), kL, d2, cJ2, d3⟩, d4⟩
