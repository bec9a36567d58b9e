def fldB (mi : MI) (z ci k pos : Nat) : Bool := match vwCl[ci]? with
  | some (_, T, N) => decide (k < N) && decide (lw_tbl[pos]? = some (Cond.fieldLink mi.1.cls z (T k).1 (T k).2.1 (T k).2.2.1))
  | none => false
def putB (ci k fl : Nat) : Bool := match vwCl[ci]? with
  | some (_, T, _) => decide ((T k).2.2.2 = false) && decide (fo ci k = 0) && (if fl = 0 then decide (tyF ci k = .int) else decide (tyF ci k = .boolean))
  | none => false
theorem cls_in : ∀ ci, ci < 7 → (match vwCl[ci]? with
  | some (C, T, N) => decide (nf ci = N) && (u_ws C T N).all (fun w => goodWord w)
  | none => false) = true := by decide +kernel

theorem cls_tb0 : ∀ w ∈ wsX00, w ∈ lw_tbl := by decide +kernel
theorem cls_tb1 : ∀ w ∈ wsX10, w ∈ lw_tbl := by decide +kernel
theorem cls_tb2 : ∀ w ∈ wsX20, w ∈ lw_tbl := by decide +kernel
theorem cls_tb3 : ∀ w ∈ wsX30, w ∈ lw_tbl := by decide +kernel
theorem cls_tb4 : ∀ w ∈ wsX40, w ∈ lw_tbl := by decide +kernel
theorem cls_tb5 : ∀ w ∈ wsX50, w ∈ lw_tbl := by decide +kernel
theorem cls_tb6 : ∀ w ∈ wsX60, w ∈ lw_tbl := by decide +kernel
theorem cls_all {ci : Nat} {C : String} {T : u_T} {N : Nat} (h : vwCl[ci]? = some (C, T, N)) : ci ≤ 6 ∧ nf ci = N ∧ (∀ w ∈ u_ws C T N, w ∈ gw) ∧ (∀ k, k < N → parseFieldDescriptor (T k).2.2.1 = some (tyF ci k)) ∧ (∀ a, a < N → ∀ b, b < N → a ≠ b → (T a).2.1 ≠ (T b).2.1) := by
  have hlt := (List.getElem?_eq_some_iff.mp h).1
  have h7 : ci < 7 := by simpa using hlt
  have hin := cls_in ci h7
  rw [h] at hin
  simp only [Bool.and_eq_true, decide_eq_true_eq] at hin
  have good : ∀ w ∈ u_ws C T N, goodWord w = true := fun w hw => List.all_eq_true.mp hin.2 w hw
  have mk : (∀ w ∈ u_ws C T N, w ∈ lw_tbl) → ∀ w ∈ u_ws C T N, w ∈ gw := fun hm w hw => List.mem_filter.mpr ⟨hm w hw, good w hw⟩
  match ci, h7, h with
  | 0, _, h => cases h; exact ⟨by omega, rfl, mk cls_tb0, tyX0_ok, nmX0⟩
  | 1, _, h => cases h; exact ⟨by omega, rfl, mk cls_tb1, tyX1_ok, nmX1⟩
  | 2, _, h => cases h; exact ⟨by omega, rfl, mk cls_tb2, tyX2_ok, nmX2⟩
  | 3, _, h => cases h; exact ⟨by omega, rfl, mk cls_tb3, tyX3_ok, nmX3⟩
  | 4, _, h => cases h; exact ⟨by omega, rfl, mk cls_tb4, tyX4_ok, nmX4⟩
  | 5, _, h => cases h; exact ⟨by omega, rfl, mk cls_tb5, tyX5_ok, nmX5⟩
  | 6, _, h => cases h; exact ⟨by omega, rfl, mk cls_tb6, tyX6_ok, nmX6⟩
  | k + 7, h7, _ => exact absurd h7 (by omega)
section JW
variable {n : Nat} {mi : MI} {pc : Nat} {lv : LVs} {st : List Value} {M : Mm} {P : Option Value → Mm → Prop}
theorem J_getfB {z c ci k pos : Nat} (hd : decode mi.2.1 pc = .ok (.getfield z, 3)) (hb : fldB mi z ci k pos = true) (ho : kd c = ci) (h : J n mi (pc + 3) lv ((if fo ci k = 0 then .int (M.1 c k) else .ref (c + fo ci k)) :: st) M P) : J n mi pc lv (.ref c :: st) M P := by
  unfold fldB at hb
  split at hb
  · rename_i C T N hv
    simp only [Bool.and_eq_true, decide_eq_true_eq] at hb
    obtain ⟨h1, h2, h3, -⟩ := cls_all hv
    exact J_getf hd hv h3 h2 hb.1 (in_gw _ hb.2 rfl) ho h1 h
  · cases hb
theorem J_putfB {z c ci k fl pos : Nat} {v : Int32} (hd : decode mi.2.1 pc = .ok (.putfield z, 3)) (hb : fldB mi z ci k pos = true) (hp : putB ci k fl = true) (ho : kd c = ci) (hv0 : fl = 0 ∨ v = 0 ∨ v = 1) (h : J n mi (pc + 3) lv st (u1 M c k v) P) : J n mi pc lv (.int v :: .ref c :: st) M P := by
  unfold fldB at hb
  split at hb
  · rename_i C T N hv
    simp only [Bool.and_eq_true, decide_eq_true_eq] at hb
    obtain ⟨h1, h2, h3, h4, h5⟩ := cls_all hv
    unfold putB at hp
    rw [hv] at hp
    simp only [Bool.and_eq_true, decide_eq_true_eq] at hp
    obtain ⟨⟨p1, p2⟩, p3⟩ := hp
    by_cases e : fl = 0
    · rw [if_pos e] at p3
      simp only [decide_eq_true_eq] at p3
      exact J_putf (ty := .int) hd hv h3 h4 h5 h2 hb.1 (in_gw _ hb.2 rfl) p1 p2 p3 rfl rfl ho h1 h
    · rw [if_neg e] at p3
      simp only [decide_eq_true_eq] at p3
      rcases hv0 with e0 | rfl | rfl
      · exact absurd e0 e
      · exact J_putf (ty := .boolean) hd hv h3 h4 h5 h2 hb.1 (in_gw _ hb.2 rfl) p1 p2 p3 (by decide) (by decide) ho h1 h
      · exact J_putf (ty := .boolean) hd hv h3 h4 h5 h2 hb.1 (in_gw _ hb.2 rfl) p1 p2 p3 (by decide) (by decide) ho h1 h
  · cases hb
def swc (n : Nat) (mi : MI) (P : Option Value → Mm → Prop) (lv : LVs) (st : List Value) (M : Mm) (x : Int32) : Int → List Nat → Nat → Prop
  | _, [], d => J n mi d lv st M P
  | v, t :: ts, d => (x = Int32.ofInt v → J n mi t lv st M P) ∧ (¬ x = Int32.ofInt v → swc n mi P lv st M x (v + 1) ts d)
theorem ofInt_to {v : Int} (h1 : -2000 ≤ v) (h2 : v ≤ 3000) : (Int32.ofInt v).toInt = v := Int32.toInt_ofInt_of_le (by omega) (by omega)
theorem swc_out {x : Int32} {d : Nat} : ∀ (ts : List Nat) (v : Int), -2000 ≤ v → v + (ts.length : Int) ≤ 3000 → (x.toInt < v ∨ v + (ts.length : Int) ≤ x.toInt) → swc n mi P lv st M x v ts d → J n mi d lv st M P := by
  intro ts
  induction ts with
  | nil => intro v h1 h2 h3 h; exact h
  | cons t ts ih =>
    intro v h1 h2 h3 h
    simp only [List.length_cons] at h2 h3
    refine ih (v + 1) (by omega) (by omega) (by omega) (h.2 ?_)
    intro e
    have e2 := ofInt_to (v := v) (by omega) (by omega)
    rw [← e] at e2
    omega
theorem swc_in {x : Int32} {d : Nat} : ∀ (ts : List Nat) (v : Int) (k t : Nat), -2000 ≤ v → v + (ts.length : Int) ≤ 3000 → x.toInt = v + (k : Int) → ts[k]? = some t → swc n mi P lv st M x v ts d → J n mi t lv st M P := by
  intro ts
  induction ts with
  | nil => intro v k t h1 h2 h3 h4 h; simp at h4
  | cons t' ts ih =>
    intro v k t h1 h2 h3 h4 h
    simp only [List.length_cons] at h2
    have e2 := ofInt_to (v := v) (by omega) (by omega)
    match k, h3, h4 with
    | 0, h3, h4 =>
      simp at h4
      subst h4
      exact h.1 (Int32.toInt_inj.mp (by rw [e2]; omega))
    | k + 1, h3, h4 =>
      refine ih (v + 1) k t (by omega) (by omega) (by omega) (by simpa using h4) (h.2 ?_)
      intro e
      rw [← e] at e2
      omega
theorem swc_sound {df lo hi : Int} {offs : Array Int} {len : Nat} {x : Int32} {ts : List Nat} {d : Nat} (hd : decode mi.2.1 pc = .ok (.tableswitch df lo hi offs, len)) (h1 : (pc : Int) + df = (d : Int)) (h2 : offs.toList.map (fun o => (pc : Int) + o) = ts.map (fun t => ((t : Nat) : Int))) (h3 : -1000 ≤ lo) (h4 : hi + 1 = lo + (ts.length : Int)) (h5 : ts.length < 1000) (h6 : lo < 1000) (h : swc n mi P lv st M x lo ts d) : J n mi pc lv (.int x :: st) M P := by
  by_cases c1 : x.toInt < lo
  · exact J_tabOut hd (Or.inl c1) h1 (swc_out ts lo (by omega) (by omega) (Or.inl c1) h)
  by_cases c2 : hi < x.toInt
  · exact J_tabOut hd (Or.inr c2) h1 (swc_out ts lo (by omega) (by omega) (Or.inr (by omega)) h)
  have hk : (x.toInt - lo).toNat < ts.length := by omega
  obtain ⟨t, ht⟩ : ∃ t, ts[(x.toInt - lo).toNat]? = some t := ⟨_, List.getElem?_eq_getElem hk⟩
  have ho : (offs.toList.map (fun o => (pc : Int) + o))[(x.toInt - lo).toNat]? = some ((t : Nat) : Int) := by rw [h2, List.getElem?_map, ht]; rfl
  rw [List.getElem?_map] at ho
  cases hoo : offs.toList[(x.toInt - lo).toNat]? with
  | none => rw [hoo] at ho; cases ho
  | some off =>
    rw [hoo] at ho
    have ho2 : (pc : Int) + off = ((t : Nat) : Int) := Option.some.inj ho
    exact J_tabIn hd c1 c2 (by rw [← Array.getElem?_toList]; exact hoo) ho2 (swc_in ts lo (x.toInt - lo).toNat t (by omega) (by omega) (by omega) ht h)
def lsc (n : Nat) (mi : MI) (P : Option Value → Mm → Prop) (lv : LVs) (st : List Value) (M : Mm) (x : Int32) : List (Int × Nat) → Nat → Prop
  | [], d => J n mi d lv st M P
  | (v, t) :: ts, d => (x = Int32.ofInt v → J n mi t lv st M P) ∧ (¬ x = Int32.ofInt v → lsc n mi P lv st M x ts d)
theorem lsc_tgt {x : Int32} {d : Nat} {df : Int} (h1 : (pc : Int) + df = (d : Int)) : ∀ (ps : List (Int × Int)) (ts : List Nat), ps.map (fun q => (pc : Int) + q.2) = ts.map (fun t => ((t : Nat) : Int)) → ps.all (fun q => decide (-1000 ≤ q.1) && decide (q.1 < 1000)) = true → lsc n mi P lv st M x ((ps.map (fun q => q.1)).zip ts) d → ∃ t : Nat, (pc : Int) + Op.lookupswitch.offset ps df x.toInt = (t : Int) ∧ J n mi t lv st M P := by
  intro ps
  induction ps with
  | nil => intro ts h2 h3 h; exact ⟨d, h1, by simpa [lsc] using h⟩
  | cons q ps ih =>
    intro ts h2 h3 h
    obtain ⟨v, o⟩ := q
    match ts, h2, h with
    | [], h2, h => simp at h2
    | t :: ts, h2, h =>
      simp only [List.map_cons, List.cons.injEq] at h2
      simp only [List.all_cons, Bool.and_eq_true, decide_eq_true_eq] at h3
      have h' : lsc n mi P lv st M x ((v, t) :: (ps.map (fun q => q.1)).zip ts) d := h
      have e2 := ofInt_to (v := v) (by omega) (by omega)
      rw [Op.lookupswitch.offset_cons]
      by_cases e : v = x.toInt
      · rw [if_pos e]
        exact ⟨t, h2.1, h'.1 (Int32.toInt_inj.mp (by rw [e2]; exact e.symm))⟩
      · rw [if_neg e]
        exact ih ts h2.2 h3.2 (h'.2 (fun z => e (by rw [z, e2])))
theorem lsc_sound {df : Int} {ps : Array (Int × Int)} {len : Nat} {x : Int32} {ts : List Nat} {d : Nat} (hd : decode mi.2.1 pc = .ok (.lookupswitch df ps, len)) (h1 : (pc : Int) + df = (d : Int)) (h2 : ps.toList.map (fun q => (pc : Int) + q.2) = ts.map (fun t => ((t : Nat) : Int))) (h3 : (ps.toList.zip (ps.toList.drop 1)).all (fun (a, next) => a.1 < next.1) = true) (h4 : ps.toList.all (fun q => decide (-1000 ≤ q.1) && decide (q.1 < 1000)) = true) (h : lsc n mi P lv st M x ((ps.toList.map (fun q => q.1)).zip ts) d) : J n mi pc lv (.int x :: st) M P := by
  obtain ⟨t, ht, hj⟩ := lsc_tgt h1 ps.toList ts h2 h4 h
  exact J_lookup hd h3 rfl ht hj
end JW

def wpI (n : Nat) (mi : MI) (P : Option Value → Mm → Prop) (i : Instr) (inf : List Nat) (cst : Int) (lv : LVs) (st : List Value) (M : Mm) (k : LVs → List Value → Mm → Prop) : Prop :=
  match i with
  | .iadd => (match st with | .int y :: .int x :: st => k lv (.int (x + y) :: st) M | _ => False)
  | .isub => (match st with | .int y :: .int x :: st => k lv (.int (x - y) :: st) M | _ => False)
  | .imul => (match st with | .int y :: .int x :: st => k lv (.int (x * y) :: st) M | _ => False)
  | .iand => (match st with | .int y :: .int x :: st => k lv (.int (x &&& y) :: st) M | _ => False)
  | .ior => (match st with | .int y :: .int x :: st => k lv (.int (x ||| y) :: st) M | _ => False)
  | .ixor => (match st with | .int y :: .int x :: st => k lv (.int (x ^^^ y) :: st) M | _ => False)
  | .ishl => (match st with | .int y :: .int x :: st => k lv (.int (x <<< (y &&& 31)) :: st) M | _ => False)
  | .ishr => (match st with | .int y :: .int x :: st => k lv (.int (x >>> (y &&& 31)) :: st) M | _ => False)
  | .idiv => (match st with | .int y :: .int x :: st => (¬ y = 0) ∧ k lv (.int (x / y) :: st) M | _ => False)
  | .irem => (match st with | .int y :: .int x :: st => (¬ y = 0) ∧ k lv (.int (x - x / y * y) :: st) M | _ => False)
  | .iushr => (match st with | .int y :: .int x :: st => k lv (.int (x.toUInt32 >>> (y.toUInt32 &&& Int32.toUInt32 31)).toInt32 :: st) M | _ => False)
  | .ladd => (match st with | .long y :: .long x :: st => k lv (.long (x + y) :: st) M | _ => False)
  | .lmul => (match st with | .long y :: .long x :: st => k lv (.long (x * y) :: st) M | _ => False)
  | .land => (match st with | .long y :: .long x :: st => k lv (.long (x &&& y) :: st) M | _ => False)
  | .lor => (match st with | .long y :: .long x :: st => k lv (.long (x ||| y) :: st) M | _ => False)
  | .ldiv => (match st with | .long y :: .long x :: st => (¬ y = 0) ∧ k lv (.long (x / y) :: st) M | _ => False)
  | .lrem => (match st with | .long y :: .long x :: st => (¬ y = 0) ∧ k lv (.long (x - x / y * y) :: st) M | _ => False)
  | .lushr => (match st with | .int y :: .long x :: st => k lv (.long (x.toUInt64 >>> (y.toInt64.toUInt64 &&& Int64.toUInt64 63)).toInt64 :: st) M | _ => False)
  | .lshl => (match st with | .int y :: .long x :: st => k lv (.long (x <<< (y.toInt64 &&& 63)) :: st) M | _ => False)
  | .lshr => (match st with | .int y :: .long x :: st => k lv (.long (x >>> (y.toInt64 &&& 63)) :: st) M | _ => False)
  | .lcmp => (match st with | .long y :: .long x :: st => k lv (.int (lg_cmp x y) :: st) M | _ => False)
  | .i2l => (match st with | .int x :: st => k lv (.long x.toInt64 :: st) M | _ => False)
  | .l2i => (match st with | .long x :: st => k lv (.int x.toInt32 :: st) M | _ => False)
  | .i2b => (match st with | .int x :: st => k lv (.int x.toInt8.toInt32 :: st) M | _ => False)
  | .i2s => (match st with | .int x :: st => k lv (.int x.toInt16.toInt32 :: st) M | _ => False)
  | .i2c => (match st with | .int x :: st => k lv (.int (x.toUInt32 % 65536).toInt32 :: st) M | _ => False)
  | .dup => (match st with | .int x :: st => k lv (.int x :: .int x :: st) M | .ref x :: st => k lv (.ref x :: .ref x :: st) M | _ => False)
  | .pop => (match st with | .int _ :: st => k lv st M | .ref _ :: st => k lv st M | _ => False)
  | .dup2 => (match st with | .int x :: .ref y :: st => k lv (.int x :: .ref y :: .int x :: .ref y :: st) M | .int x :: .int y :: st => k lv (.int x :: .int y :: .int x :: .int y :: st) M | _ => False)
  | .iconst z => k lv (.int (Int32.ofInt z) :: st) M
  | .bipush z => k lv (.int (Int32.ofInt z) :: st) M
  | .sipush z => k lv (.int (Int32.ofInt z) :: st) M
  | .lconst z => k lv (.long (Int64.ofNat (z : Nat)) :: st) M
  | .iload_n z => (match gl lv z with | some (.int x) => k lv (.int x :: st) M | _ => False)
  | .iload z => (match gl lv z with | some (.int x) => k lv (.int x :: st) M | _ => False)
  | .lload_n z => (match gl lv z with | some (.long x) => k lv (.long x :: st) M | _ => False)
  | .lload z => (match gl lv z with | some (.long x) => k lv (.long x :: st) M | _ => False)
  | .aload_n z => (match gl lv z with | some (.ref x) => k lv (.ref x :: st) M | _ => False)
  | .aload z => (match gl lv z with | some (.ref x) => k lv (.ref x :: st) M | _ => False)
  | .istore_n z => (match st with | .int x :: st => nl lv (z : Nat) ∧ k (lv.set (z : Nat) (some (.int x))) st M | _ => False)
  | .istore z => (match st with | .int x :: st => nl lv z ∧ k (lv.set z (some (.int x))) st M | _ => False)
  | .lstore_n z => (match st with | .long x :: st => nl lv (z : Nat) ∧ k ((lv.set (z : Nat) (some (.long x))).set ((z : Nat) + 1) none) st M | _ => False)
  | .lstore z => (match st with | .long x :: st => nl lv z ∧ k ((lv.set z (some (.long x))).set (z + 1) none) st M | _ => False)
  | .astore_n z => (match st with | .ref x :: st => nl lv (z : Nat) ∧ k (lv.set (z : Nat) (some (.ref x))) st M | _ => False)
  | .astore z => (match st with | .ref x :: st => nl lv z ∧ k (lv.set z (some (.ref x))) st M | _ => False)
  | .iinc z d => (match gl lv z with | some (.int x) => nl lv z ∧ k (lv.set z (some (.int (x + Int32.ofInt d)))) st M | _ => False)
  | .ifCond .eq off => (match st with | .int x :: st => (x = 0 → J n mi (inf.getD 0 0) lv st M P) ∧ (¬ x = 0 → k lv st M) | _ => False)
  | .ifCond .ne off => (match st with | .int x :: st => (¬ x = 0 → J n mi (inf.getD 0 0) lv st M P) ∧ (x = 0 → k lv st M) | _ => False)
  | .ifCond .lt off => (match st with | .int x :: st => (x < 0 → J n mi (inf.getD 0 0) lv st M P) ∧ (¬ x < 0 → k lv st M) | _ => False)
  | .ifCond .ge off => (match st with | .int x :: st => (0 ≤ x → J n mi (inf.getD 0 0) lv st M P) ∧ (¬ 0 ≤ x → k lv st M) | _ => False)
  | .ifCond .gt off => (match st with | .int x :: st => (0 < x → J n mi (inf.getD 0 0) lv st M P) ∧ (¬ 0 < x → k lv st M) | _ => False)
  | .ifCond .le off => (match st with | .int x :: st => (x ≤ 0 → J n mi (inf.getD 0 0) lv st M P) ∧ (¬ x ≤ 0 → k lv st M) | _ => False)
  | .if_icmp .eq off => (match st with | .int y :: .int x :: st => (x = y → J n mi (inf.getD 0 0) lv st M P) ∧ (¬ x = y → k lv st M) | _ => False)
  | .if_icmp .ne off => (match st with | .int y :: .int x :: st => (¬ x = y → J n mi (inf.getD 0 0) lv st M P) ∧ (x = y → k lv st M) | _ => False)
  | .if_icmp .lt off => (match st with | .int y :: .int x :: st => (x < y → J n mi (inf.getD 0 0) lv st M P) ∧ (¬ x < y → k lv st M) | _ => False)
  | .if_icmp .ge off => (match st with | .int y :: .int x :: st => (y ≤ x → J n mi (inf.getD 0 0) lv st M P) ∧ (¬ y ≤ x → k lv st M) | _ => False)
  | .if_icmp .gt off => (match st with | .int y :: .int x :: st => (y < x → J n mi (inf.getD 0 0) lv st M P) ∧ (¬ y < x → k lv st M) | _ => False)
  | .if_icmp .le off => (match st with | .int y :: .int x :: st => (x ≤ y → J n mi (inf.getD 0 0) lv st M P) ∧ (¬ x ≤ y → k lv st M) | _ => False)
  | .goto off => J n mi (inf.getD 0 0) lv st M P
  | .ldc z => if inf.getD 0 0 = 1 then k lv (.ref (65 + inf.getD 1 0) :: st) M else k lv (.int (Int32.ofInt cst) :: st) M
  | .ldc_w z => k lv (.int (Int32.ofInt cst) :: st) M
  | .ldc2_w z => k lv (.long (Int64.ofInt cst) :: st) M
  | .getfield z => (match st with | .ref c :: st => (if inf.getD 0 0 = 12 then ∃ j, j < 15 ∧ c = 65 + j ∧ (if inf.getD 1 0 = 0 then k lv (.ref (80 + j) :: st) M else k lv (.int 0 :: st) M) else kd c = inf.getD 0 0 ∧ k lv ((if inf.getD 2 0 = 0 then .int (M.1 c (inf.getD 1 0)) else .ref (c + inf.getD 2 0)) :: st) M) | _ => False)
  | .putfield z => (match st with | .int v :: .ref c :: st => kd c = inf.getD 0 0 ∧ (inf.getD 2 0 = 0 ∨ v = 0 ∨ v = 1) ∧ k lv st (u1 M c (inf.getD 1 0) v) | _ => False)
  | .iaload => (match st with | .int i :: .ref c :: st => (if inf.getD 0 0 = 10 then ∃ j, j < 4 ∧ c = 60 + j ∧ vp_in i (ln c) ∧ k lv (.int (sv c i.toNatClampNeg) :: st) M else if inf.getD 0 0 = 11 then c = 64 ∧ vp_in i (M.1 95 0).toNatClampNeg ∧ k lv (.int (M.1 64 i.toNatClampNeg) :: st) M else kd c = 7 ∧ vp_in i (ln c) ∧ k lv (.int (M.1 c i.toNatClampNeg) :: st) M) | _ => False)
  | .iastore => (match st with | .int v :: .int i :: .ref c :: st => kd c = 7 ∧ vp_in i (ln c) ∧ k lv st (u1 M c i.toNatClampNeg v) | _ => False)
  | .laload => (match st with | .int i :: .ref c :: st => kd c = 8 ∧ vp_in i (ln c) ∧ k lv (.long (M.2 c i.toNatClampNeg) :: st) M | _ => False)
  | .lastore => (match st with | .long v :: .int i :: .ref c :: st => kd c = 8 ∧ vp_in i (ln c) ∧ k lv st (u2 M c i.toNatClampNeg v) | _ => False)
  | .aaload => (match st with | .int i :: .ref c :: st => kd c = 9 ∧ vp_in i (ln c) ∧ k lv (.ref (c + 1 + i.toNatClampNeg) :: st) M | _ => False)
  | .baload => (match st with | .int i :: .ref c :: st => ∃ j, j < 15 ∧ c = 80 + j ∧ vp_in i (slL.getD j 0) ∧ k lv (.int ((sbL.getD j []).getD i.toNatClampNeg 0) :: st) M | _ => False)
  | .arraylength => (match st with | .ref c :: st => (if inf.getD 0 0 = 10 then ∃ j, j < 4 ∧ c = 60 + j ∧ k lv (.int (Int32.ofNat (ln c)) :: st) M else if inf.getD 0 0 = 11 then c = 64 ∧ k lv (.int (M.1 95 0) :: st) M else if inf.getD 0 0 = 13 then ∃ j, j < 15 ∧ c = 80 + j ∧ k lv (.int (Int32.ofNat (slL.getD j 0)) :: st) M else (kd c = 7 ∨ kd c = 8) ∧ k lv (.int (Int32.ofNat (ln c)) :: st) M) | _ => False)
  | .getstatic z => if inf.getD 0 0 = 9 then k lv (.int 1 :: st) M else k lv (.ref (60 + inf.getD 0 0) :: st) M
  | .ireturn => (match st with | [.int v] => (if inf.getD 0 0 = 0 then P (some (.int v)) M else if inf.getD 0 0 = 1 then (v = 0 ∨ v = 1) ∧ P (some (.int v)) M else if inf.getD 0 0 = 2 then narrow .char (.int v) = .int v ∧ P (some (.int v)) M else narrow .byte (.int v) = .int v ∧ P (some (.int v)) M) | _ => False)
  | .lreturn => (match st with | [.long v] => P (some (.long v)) M | _ => False)
  | .return_ => (match st with | [] => P none M | _ => False)
  | .areturn => (match st with | [.ref a] => P (some (.ref a)) M | _ => False)
  | .tableswitch df lo hi offs => (match st with | .int x :: st => swc n mi P lv st M x lo inf.tail (inf.getD 0 0) | _ => False)
  | .lookupswitch df ps => (match st with | .int x :: st => lsc n mi P lv st M x ((ps.toList.map (fun q => q.1)).zip inf.tail) (inf.getD 0 0) | _ => False)
  | _ => False
def ckI (mi : MI) (pc : Nat) (i : Instr) (len : Nat) (inf : List Nat) (cst : Int) : Bool :=
  match i with
  | .iadd => decide (len = 1) && (true)
  | .isub => decide (len = 1) && (true)
  | .imul => decide (len = 1) && (true)
  | .iand => decide (len = 1) && (true)
  | .ior => decide (len = 1) && (true)
  | .ixor => decide (len = 1) && (true)
  | .ishl => decide (len = 1) && (true)
  | .ishr => decide (len = 1) && (true)
  | .idiv => decide (len = 1) && (true)
  | .irem => decide (len = 1) && (true)
  | .iushr => decide (len = 1) && (true)
  | .ladd => decide (len = 1) && (true)
  | .lmul => decide (len = 1) && (true)
  | .land => decide (len = 1) && (true)
  | .lor => decide (len = 1) && (true)
  | .ldiv => decide (len = 1) && (true)
  | .lrem => decide (len = 1) && (true)
  | .lushr => decide (len = 1) && (true)
  | .lshl => decide (len = 1) && (true)
  | .lshr => decide (len = 1) && (true)
  | .lcmp => decide (len = 1) && (true)
  | .i2l => decide (len = 1) && (true)
  | .l2i => decide (len = 1) && (true)
  | .i2b => decide (len = 1) && (true)
  | .i2s => decide (len = 1) && (true)
  | .i2c => decide (len = 1) && (true)
  | .dup => decide (len = 1) && (true)
  | .pop => decide (len = 1) && (true)
  | .dup2 => decide (len = 1) && (true)
  | .iconst z => decide (len = 1) && (true)
  | .bipush z => decide (len = 2) && (decide ((Int8.ofInt z).toInt32 = Int32.ofInt z))
  | .sipush z => decide (len = 3) && (decide ((Int16.ofInt z).toInt32 = Int32.ofInt z))
  | .lconst z => decide (len = 1) && (true)
  | .iload_n z => decide (len = 1) && (true)
  | .iload z => decide (len = 2) && (true)
  | .lload_n z => decide (len = 1) && (true)
  | .lload z => decide (len = 2) && (true)
  | .aload_n z => decide (len = 1) && (true)
  | .aload z => decide (len = 2) && (true)
  | .istore_n z => decide (len = 1) && (decide ((z : Nat) < mi.2.2.1))
  | .istore z => decide (len = 2) && (decide (z < mi.2.2.1))
  | .lstore_n z => decide (len = 1) && (decide ((z : Nat) + 1 < mi.2.2.1))
  | .lstore z => decide (len = 2) && (decide (z + 1 < mi.2.2.1))
  | .astore_n z => decide (len = 1) && (decide ((z : Nat) < mi.2.2.1))
  | .astore z => decide (len = 2) && (decide (z < mi.2.2.1))
  | .iinc z d => decide (len = 3) && (decide (z < mi.2.2.1))
  | .ifCond .eq off => decide (len = 3) && (decide ((pc : Int) + off = ((inf.getD 0 0 : Nat) : Int)))
  | .ifCond .ne off => decide (len = 3) && (decide ((pc : Int) + off = ((inf.getD 0 0 : Nat) : Int)))
  | .ifCond .lt off => decide (len = 3) && (decide ((pc : Int) + off = ((inf.getD 0 0 : Nat) : Int)))
  | .ifCond .ge off => decide (len = 3) && (decide ((pc : Int) + off = ((inf.getD 0 0 : Nat) : Int)))
  | .ifCond .gt off => decide (len = 3) && (decide ((pc : Int) + off = ((inf.getD 0 0 : Nat) : Int)))
  | .ifCond .le off => decide (len = 3) && (decide ((pc : Int) + off = ((inf.getD 0 0 : Nat) : Int)))
  | .if_icmp .eq off => decide (len = 3) && (decide ((pc : Int) + off = ((inf.getD 0 0 : Nat) : Int)))
  | .if_icmp .ne off => decide (len = 3) && (decide ((pc : Int) + off = ((inf.getD 0 0 : Nat) : Int)))
  | .if_icmp .lt off => decide (len = 3) && (decide ((pc : Int) + off = ((inf.getD 0 0 : Nat) : Int)))
  | .if_icmp .ge off => decide (len = 3) && (decide ((pc : Int) + off = ((inf.getD 0 0 : Nat) : Int)))
  | .if_icmp .gt off => decide (len = 3) && (decide ((pc : Int) + off = ((inf.getD 0 0 : Nat) : Int)))
  | .if_icmp .le off => decide (len = 3) && (decide ((pc : Int) + off = ((inf.getD 0 0 : Nat) : Int)))
  | .goto off => decide (len = 3) && (decide ((pc : Int) + off = ((inf.getD 0 0 : Nat) : Int)))
  | .ldc z => decide (len = 2) && (if inf.getD 0 0 = 1 then decide (inf.getD 1 0 < 15) && decide ((sxL.getD (inf.getD 1 0) (0, "")).1 = z) && decide (mi.1.cls = "LastPruned$Tape") else decide (lw_tbl[inf.getD 1 0]? = some (Cond.constant mi.1.cls z (Int32.ofInt cst))))
  | .ldc_w z => decide (len = 3) && (decide (lw_tbl[inf.getD 1 0]? = some (Cond.constant mi.1.cls z (Int32.ofInt cst))))
  | .ldc2_w z => decide (len = 3) && (decide (lw_tbl[inf.getD 1 0]? = some (Cond.constantLong mi.1.cls z (Int64.ofInt cst))))
  | .getfield z => decide (len = 3) && (if inf.getD 0 0 = 12 then (if inf.getD 1 0 = 0 then decide (lw_tbl[inf.getD 3 0]? = some (Cond.fieldLink mi.1.cls z "java/lang/String" "value" "[B")) else decide (lw_tbl[inf.getD 3 0]? = some (Cond.fieldLink mi.1.cls z "java/lang/String" "coder" "B"))) else fldB mi z (inf.getD 0 0) (inf.getD 1 0) (inf.getD 3 0) && decide (fo (inf.getD 0 0) (inf.getD 1 0) = inf.getD 2 0))
  | .putfield z => decide (len = 3) && (fldB mi z (inf.getD 0 0) (inf.getD 1 0) (inf.getD 3 0) && putB (inf.getD 0 0) (inf.getD 1 0) (inf.getD 2 0))
  | .iaload => decide (len = 1) && (true)
  | .iastore => decide (len = 1) && (true)
  | .laload => decide (len = 1) && (true)
  | .lastore => decide (len = 1) && (true)
  | .aaload => decide (len = 1) && (true)
  | .baload => decide (len = 1) && (true)
  | .arraylength => decide (len = 1) && (true)
  | .getstatic z => decide (len = 3) && (if inf.getD 0 0 = 9 then decide (lw_tbl[inf.getD 2 0]? = some (Cond.fieldLink mi.1.cls z "java/lang/String" "COMPACT_STRINGS" "Z")) else decide (inf.getD 0 0 < 4) && (if inf.getD 1 0 = 0 then decide (lw_tbl[inf.getD 2 0]? = some (Cond.fieldLink mi.1.cls z "LastPruned" (snL.getD (inf.getD 0 0) "") "[I")) else decide (lw_tbl[inf.getD 2 0]? = some (Cond.fieldLinkNest mi.1.cls z "LastPruned" (snL.getD (inf.getD 0 0) "") "[I" "LastPruned"))))
  | .ireturn => decide (len = 1) && (if inf.getD 0 0 = 0 then decide (mi.2.2.2 = some .int) else if inf.getD 0 0 = 1 then decide (mi.2.2.2 = some .boolean) else if inf.getD 0 0 = 2 then decide (mi.2.2.2 = some .char) else decide (mi.2.2.2 = some .byte))
  | .lreturn => decide (len = 1) && (decide (mi.2.2.2 = some .long))
  | .return_ => decide (len = 1) && (decide (mi.2.2.2 = none))
  | .areturn => decide (len = 1) && (decide (mi.2.2.2 = some (.object "LastPruned$Tree")))
  | .tableswitch df lo hi offs => (decide ((pc : Int) + df = ((inf.getD 0 0 : Nat) : Int)) && decide (offs.toList.map (fun o => (pc : Int) + o) = inf.tail.map (fun t => ((t : Nat) : Int))) && decide (-1000 ≤ lo ∧ hi + 1 = lo + (inf.tail.length : Int) ∧ inf.tail.length < 1000 ∧ lo < 1000))
  | .lookupswitch df ps => (decide ((pc : Int) + df = ((inf.getD 0 0 : Nat) : Int)) && decide (ps.toList.map (fun q => (pc : Int) + q.2) = inf.tail.map (fun t => ((t : Nat) : Int))) && (ps.toList.zip (ps.toList.drop 1)).all (fun (a, next) => a.1 < next.1) && ps.toList.all (fun q => decide (-1000 ≤ q.1) && decide (q.1 < 1000)))
  | _ => false
set_option maxHeartbeats 2000000 in
theorem wpI_sound {n : Nat} {mi : MI} {pc : Nat} {lv : LVs} {st : List Value} {M : Mm} {P : Option Value → Mm → Prop} {i : Instr} {len : Nat} {inf : List Nat} {cst : Int} {k : LVs → List Value → Mm → Prop} (hd : decode mi.2.1 pc = .ok (i, len)) (hc : ckI mi pc i len inf cst = true) (h : wpI n mi P i inf cst lv st M k) (hk : ∀ lv st M, k lv st M → J n mi (pc + len) lv st M P) : J n mi pc lv st M P := by
  unfold wpI at h
  split at h
  · -- .iadd
    simp only [ckI, Bool.and_eq_true, decide_eq_true_eq] at hc
    obtain ⟨rfl, -⟩ := hc
    split at h
    · exact J_iadd hd (hk _ _ _ h)
    · exact h.elim
  · -- .isub
    simp only [ckI, Bool.and_eq_true, decide_eq_true_eq] at hc
    obtain ⟨rfl, -⟩ := hc
    split at h
    · exact J_isub hd (hk _ _ _ h)
    · exact h.elim
  · -- .imul
    simp only [ckI, Bool.and_eq_true, decide_eq_true_eq] at hc
    obtain ⟨rfl, -⟩ := hc
    split at h
    · exact J_imul hd (hk _ _ _ h)
    · exact h.elim
  · -- .iand
    simp only [ckI, Bool.and_eq_true, decide_eq_true_eq] at hc
    obtain ⟨rfl, -⟩ := hc
    split at h
    · exact J_iand hd (hk _ _ _ h)
    · exact h.elim
  · -- .ior
    simp only [ckI, Bool.and_eq_true, decide_eq_true_eq] at hc
    obtain ⟨rfl, -⟩ := hc
    split at h
    · exact J_ior hd (hk _ _ _ h)
    · exact h.elim
  · -- .ixor
    simp only [ckI, Bool.and_eq_true, decide_eq_true_eq] at hc
    obtain ⟨rfl, -⟩ := hc
    split at h
    · exact J_ixor hd (hk _ _ _ h)
    · exact h.elim
  · -- .ishl
    simp only [ckI, Bool.and_eq_true, decide_eq_true_eq] at hc
    obtain ⟨rfl, -⟩ := hc
    split at h
    · exact J_ishl hd (hk _ _ _ h)
    · exact h.elim
  · -- .ishr
    simp only [ckI, Bool.and_eq_true, decide_eq_true_eq] at hc
    obtain ⟨rfl, -⟩ := hc
    split at h
    · exact J_ishr hd (hk _ _ _ h)
    · exact h.elim
  · -- .idiv
    simp only [ckI, Bool.and_eq_true, decide_eq_true_eq] at hc
    obtain ⟨rfl, -⟩ := hc
    split at h
    · exact J_idiv hd h.1 (hk _ _ _ h.2)
    · exact h.elim
  · -- .irem
    simp only [ckI, Bool.and_eq_true, decide_eq_true_eq] at hc
    obtain ⟨rfl, -⟩ := hc
    split at h
    · exact J_irem hd h.1 (hk _ _ _ h.2)
    · exact h.elim
  · -- .iushr
    simp only [ckI, Bool.and_eq_true, decide_eq_true_eq] at hc
    obtain ⟨rfl, -⟩ := hc
    split at h
    · exact J_iushr hd (hk _ _ _ h)
    · exact h.elim
  · -- .ladd
    simp only [ckI, Bool.and_eq_true, decide_eq_true_eq] at hc
    obtain ⟨rfl, -⟩ := hc
    split at h
    · exact J_ladd hd (hk _ _ _ h)
    · exact h.elim
  · -- .lmul
    simp only [ckI, Bool.and_eq_true, decide_eq_true_eq] at hc
    obtain ⟨rfl, -⟩ := hc
    split at h
    · exact J_lmul hd (hk _ _ _ h)
    · exact h.elim
  · -- .land
    simp only [ckI, Bool.and_eq_true, decide_eq_true_eq] at hc
    obtain ⟨rfl, -⟩ := hc
    split at h
    · exact J_land hd (hk _ _ _ h)
    · exact h.elim
  · -- .lor
    simp only [ckI, Bool.and_eq_true, decide_eq_true_eq] at hc
    obtain ⟨rfl, -⟩ := hc
    split at h
    · exact J_lor hd (hk _ _ _ h)
    · exact h.elim
  · -- .ldiv
    simp only [ckI, Bool.and_eq_true, decide_eq_true_eq] at hc
    obtain ⟨rfl, -⟩ := hc
    split at h
    · exact J_ldiv hd h.1 (hk _ _ _ h.2)
    · exact h.elim
  · -- .lrem
    simp only [ckI, Bool.and_eq_true, decide_eq_true_eq] at hc
    obtain ⟨rfl, -⟩ := hc
    split at h
    · exact J_lrem hd h.1 (hk _ _ _ h.2)
    · exact h.elim
  · -- .lushr
    simp only [ckI, Bool.and_eq_true, decide_eq_true_eq] at hc
    obtain ⟨rfl, -⟩ := hc
    split at h
    · exact J_lushr hd (hk _ _ _ h)
    · exact h.elim
  · -- .lshl
    simp only [ckI, Bool.and_eq_true, decide_eq_true_eq] at hc
    obtain ⟨rfl, -⟩ := hc
    split at h
    · exact J_lshl hd (hk _ _ _ h)
    · exact h.elim
  · -- .lshr
    simp only [ckI, Bool.and_eq_true, decide_eq_true_eq] at hc
    obtain ⟨rfl, -⟩ := hc
    split at h
    · exact J_lshr hd (hk _ _ _ h)
    · exact h.elim
  · -- .lcmp
    simp only [ckI, Bool.and_eq_true, decide_eq_true_eq] at hc
    obtain ⟨rfl, -⟩ := hc
    split at h
    · exact J_lcmp hd (hk _ _ _ h)
    · exact h.elim
  · -- .i2l
    simp only [ckI, Bool.and_eq_true, decide_eq_true_eq] at hc
    obtain ⟨rfl, -⟩ := hc
    split at h
    · exact J_i2l hd (hk _ _ _ h)
    · exact h.elim
  · -- .l2i
    simp only [ckI, Bool.and_eq_true, decide_eq_true_eq] at hc
    obtain ⟨rfl, -⟩ := hc
    split at h
    · exact J_l2i hd (hk _ _ _ h)
    · exact h.elim
  · -- .i2b
    simp only [ckI, Bool.and_eq_true, decide_eq_true_eq] at hc
    obtain ⟨rfl, -⟩ := hc
    split at h
    · exact J_i2b hd (hk _ _ _ h)
    · exact h.elim
  · -- .i2s
    simp only [ckI, Bool.and_eq_true, decide_eq_true_eq] at hc
    obtain ⟨rfl, -⟩ := hc
    split at h
    · exact J_i2s hd (hk _ _ _ h)
    · exact h.elim
  · -- .i2c
    simp only [ckI, Bool.and_eq_true, decide_eq_true_eq] at hc
    obtain ⟨rfl, -⟩ := hc
    split at h
    · exact J_i2c hd (hk _ _ _ h)
    · exact h.elim
  · -- .dup
    simp only [ckI, Bool.and_eq_true, decide_eq_true_eq] at hc
    obtain ⟨rfl, -⟩ := hc
    split at h
    · exact J_dup hd rfl (hk _ _ _ h)
    · exact J_dup hd rfl (hk _ _ _ h)
    · exact h.elim
  · -- .pop
    simp only [ckI, Bool.and_eq_true, decide_eq_true_eq] at hc
    obtain ⟨rfl, -⟩ := hc
    split at h
    · exact J_pop hd rfl (hk _ _ _ h)
    · exact J_pop hd rfl (hk _ _ _ h)
    · exact h.elim
  · -- .dup2
    simp only [ckI, Bool.and_eq_true, decide_eq_true_eq] at hc
    obtain ⟨rfl, -⟩ := hc
    split at h
    · exact J_dup2 hd rfl rfl (hk _ _ _ h)
    · exact J_dup2 hd rfl rfl (hk _ _ _ h)
    · exact h.elim
  · -- .iconst z
    simp only [ckI, Bool.and_eq_true, decide_eq_true_eq] at hc
    obtain ⟨rfl, -⟩ := hc
    exact J_iconst hd (hk _ _ _ h)
  · -- .bipush z
    simp only [ckI, Bool.and_eq_true, decide_eq_true_eq] at hc
    obtain ⟨rfl, hc⟩ := hc
    exact J_bipush hd hc (hk _ _ _ h)
  · -- .sipush z
    simp only [ckI, Bool.and_eq_true, decide_eq_true_eq] at hc
    obtain ⟨rfl, hc⟩ := hc
    exact J_sipush hd hc (hk _ _ _ h)
  · -- .lconst z
    simp only [ckI, Bool.and_eq_true, decide_eq_true_eq] at hc
    obtain ⟨rfl, -⟩ := hc
    exact J_lconst hd (hk _ _ _ h)
  · -- .iload_n z
    simp only [ckI, Bool.and_eq_true, decide_eq_true_eq] at hc
    obtain ⟨rfl, -⟩ := hc
    split at h
    · exact J_iload_n hd (by assumption) (hk _ _ _ h)
    · exact h.elim
  · -- .iload z
    simp only [ckI, Bool.and_eq_true, decide_eq_true_eq] at hc
    obtain ⟨rfl, -⟩ := hc
    split at h
    · exact J_iload hd (by assumption) (hk _ _ _ h)
    · exact h.elim
  · -- .lload_n z
    simp only [ckI, Bool.and_eq_true, decide_eq_true_eq] at hc
    obtain ⟨rfl, -⟩ := hc
    split at h
    · exact J_lload_n hd (by assumption) (hk _ _ _ h)
    · exact h.elim
  · -- .lload z
    simp only [ckI, Bool.and_eq_true, decide_eq_true_eq] at hc
    obtain ⟨rfl, -⟩ := hc
    split at h
    · exact J_lload hd (by assumption) (hk _ _ _ h)
    · exact h.elim
  · -- .aload_n z
    simp only [ckI, Bool.and_eq_true, decide_eq_true_eq] at hc
    obtain ⟨rfl, -⟩ := hc
    split at h
    · exact J_aload_n hd (by assumption) (hk _ _ _ h)
    · exact h.elim
  · -- .aload z
    simp only [ckI, Bool.and_eq_true, decide_eq_true_eq] at hc
    obtain ⟨rfl, -⟩ := hc
    split at h
    · exact J_aload hd (by assumption) (hk _ _ _ h)
    · exact h.elim
  · -- .istore_n z
    simp only [ckI, Bool.and_eq_true, decide_eq_true_eq] at hc
    obtain ⟨rfl, hc⟩ := hc
    split at h
    · exact J_istore_n hd hc h.1 (hk _ _ _ h.2)
    · exact h.elim
  · -- .istore z
    simp only [ckI, Bool.and_eq_true, decide_eq_true_eq] at hc
    obtain ⟨rfl, hc⟩ := hc
    split at h
    · exact J_istore hd hc h.1 (hk _ _ _ h.2)
    · exact h.elim
  · -- .lstore_n z
    simp only [ckI, Bool.and_eq_true, decide_eq_true_eq] at hc
    obtain ⟨rfl, hc⟩ := hc
    split at h
    · exact J_lstore_n hd hc h.1 (hk _ _ _ h.2)
    · exact h.elim
  · -- .lstore z
    simp only [ckI, Bool.and_eq_true, decide_eq_true_eq] at hc
    obtain ⟨rfl, hc⟩ := hc
    split at h
    · exact J_lstore hd hc h.1 (hk _ _ _ h.2)
    · exact h.elim
  · -- .astore_n z
    simp only [ckI, Bool.and_eq_true, decide_eq_true_eq] at hc
    obtain ⟨rfl, hc⟩ := hc
    split at h
    · exact J_astore_n hd hc h.1 (hk _ _ _ h.2)
    · exact h.elim
  · -- .astore z
    simp only [ckI, Bool.and_eq_true, decide_eq_true_eq] at hc
    obtain ⟨rfl, hc⟩ := hc
    split at h
    · exact J_astore hd hc h.1 (hk _ _ _ h.2)
    · exact h.elim
  · -- .iinc z d
    simp only [ckI, Bool.and_eq_true, decide_eq_true_eq] at hc
    obtain ⟨rfl, hc⟩ := hc
    split at h
    · exact J_iinc hd (by assumption) hc h.1 (hk _ _ _ h.2)
    · exact h.elim
  · -- .ifCond .eq off
    simp only [ckI, Bool.and_eq_true, decide_eq_true_eq] at hc
    obtain ⟨rfl, hc⟩ := hc
    split at h
    · exact J_if_eq hd hc h.1 (fun q => hk _ _ _ (h.2 q))
    · exact h.elim
  · -- .ifCond .ne off
    simp only [ckI, Bool.and_eq_true, decide_eq_true_eq] at hc
    obtain ⟨rfl, hc⟩ := hc
    split at h
    · exact J_if_ne hd hc h.1 (fun q => hk _ _ _ (h.2 q))
    · exact h.elim
  · -- .ifCond .lt off
    simp only [ckI, Bool.and_eq_true, decide_eq_true_eq] at hc
    obtain ⟨rfl, hc⟩ := hc
    split at h
    · exact J_if_lt hd hc h.1 (fun q => hk _ _ _ (h.2 q))
    · exact h.elim
  · -- .ifCond .ge off
    simp only [ckI, Bool.and_eq_true, decide_eq_true_eq] at hc
    obtain ⟨rfl, hc⟩ := hc
    split at h
    · exact J_if_ge hd hc h.1 (fun q => hk _ _ _ (h.2 q))
    · exact h.elim
  · -- .ifCond .gt off
    simp only [ckI, Bool.and_eq_true, decide_eq_true_eq] at hc
    obtain ⟨rfl, hc⟩ := hc
    split at h
    · exact J_if_gt hd hc h.1 (fun q => hk _ _ _ (h.2 q))
    · exact h.elim
  · -- .ifCond .le off
    simp only [ckI, Bool.and_eq_true, decide_eq_true_eq] at hc
    obtain ⟨rfl, hc⟩ := hc
    split at h
    · exact J_if_le hd hc h.1 (fun q => hk _ _ _ (h.2 q))
    · exact h.elim
  · -- .if_icmp .eq off
    simp only [ckI, Bool.and_eq_true, decide_eq_true_eq] at hc
    obtain ⟨rfl, hc⟩ := hc
    split at h
    · exact J_icmp_eq hd hc h.1 (fun q => hk _ _ _ (h.2 q))
    · exact h.elim
  · -- .if_icmp .ne off
    simp only [ckI, Bool.and_eq_true, decide_eq_true_eq] at hc
    obtain ⟨rfl, hc⟩ := hc
    split at h
    · exact J_icmp_ne hd hc h.1 (fun q => hk _ _ _ (h.2 q))
    · exact h.elim
  · -- .if_icmp .lt off
    simp only [ckI, Bool.and_eq_true, decide_eq_true_eq] at hc
    obtain ⟨rfl, hc⟩ := hc
    split at h
    · exact J_icmp_lt hd hc h.1 (fun q => hk _ _ _ (h.2 q))
    · exact h.elim
  · -- .if_icmp .ge off
    simp only [ckI, Bool.and_eq_true, decide_eq_true_eq] at hc
    obtain ⟨rfl, hc⟩ := hc
    split at h
    · exact J_icmp_ge hd hc h.1 (fun q => hk _ _ _ (h.2 q))
    · exact h.elim
  · -- .if_icmp .gt off
    simp only [ckI, Bool.and_eq_true, decide_eq_true_eq] at hc
    obtain ⟨rfl, hc⟩ := hc
    split at h
    · exact J_icmp_gt hd hc h.1 (fun q => hk _ _ _ (h.2 q))
    · exact h.elim
  · -- .if_icmp .le off
    simp only [ckI, Bool.and_eq_true, decide_eq_true_eq] at hc
    obtain ⟨rfl, hc⟩ := hc
    split at h
    · exact J_icmp_le hd hc h.1 (fun q => hk _ _ _ (h.2 q))
    · exact h.elim
  · -- .goto off
    simp only [ckI, Bool.and_eq_true, decide_eq_true_eq] at hc
    obtain ⟨rfl, hc⟩ := hc
    exact J_goto hd hc h
  · -- .ldc z
    simp only [ckI, Bool.and_eq_true, decide_eq_true_eq] at hc
    obtain ⟨rfl, hc⟩ := hc
    by_cases e : inf.getD 0 0 = 1
    · rw [if_pos e] at h hc
      simp only [Bool.and_eq_true, decide_eq_true_eq] at hc
      exact J_ldcS hd hc.1.1 hc.1.2 hc.2 (hk _ _ _ h)
    · rw [if_neg e] at h hc
      simp only [decide_eq_true_eq] at hc
      exact J_ldc hd (in_gw _ hc rfl) (hk _ _ _ h)
  · -- .ldc_w z
    simp only [ckI, Bool.and_eq_true, decide_eq_true_eq] at hc
    obtain ⟨rfl, hc⟩ := hc
    exact J_ldcw hd (in_gw _ hc rfl) (hk _ _ _ h)
  · -- .ldc2_w z
    simp only [ckI, Bool.and_eq_true, decide_eq_true_eq] at hc
    obtain ⟨rfl, hc⟩ := hc
    exact J_ldc2 hd (in_gw _ hc rfl) (hk _ _ _ h)
  · -- .getfield z
    simp only [ckI, Bool.and_eq_true, decide_eq_true_eq] at hc
    obtain ⟨rfl, hc⟩ := hc
    split at h
    · by_cases e : inf.getD 0 0 = 12
      · rw [if_pos e] at h hc
        obtain ⟨j, hj, rfl, h⟩ := h
        by_cases e2 : inf.getD 1 0 = 0
        · rw [if_pos e2] at h hc
          simp only [decide_eq_true_eq] at hc
          exact J_sval hd hj (in_gw _ hc rfl) (hk _ _ _ h)
        · rw [if_neg e2] at h hc
          simp only [decide_eq_true_eq] at hc
          exact J_scod hd hj (in_gw _ hc rfl) (hk _ _ _ h)
      · rw [if_neg e] at h hc
        simp only [Bool.and_eq_true, decide_eq_true_eq] at hc
        have h2 := hk _ _ _ h.2
        rw [← hc.2] at h2
        exact J_getfB hd hc.1 h.1 h2
    · exact h.elim
  · -- .putfield z
    simp only [ckI, Bool.and_eq_true, decide_eq_true_eq] at hc
    obtain ⟨rfl, hc⟩ := hc
    split at h
    · exact J_putfB hd hc.1 hc.2 h.1 h.2.1 (hk _ _ _ h.2.2)
    · exact h.elim
  · -- .iaload
    simp only [ckI, Bool.and_eq_true, decide_eq_true_eq] at hc
    obtain ⟨rfl, -⟩ := hc
    split at h
    · by_cases e : inf.getD 0 0 = 10
      · rw [if_pos e] at h
        obtain ⟨j, hj, rfl, h1, h2⟩ := h
        exact J_ialdS hd hj h1 (hk _ _ _ h2)
      · rw [if_neg e] at h
        by_cases e2 : inf.getD 0 0 = 11
        · rw [if_pos e2] at h
          obtain ⟨rfl, h1, h2⟩ := h
          exact J_ialdX hd h1 (hk _ _ _ h2)
        · rw [if_neg e2] at h
          exact J_iald hd h.1 h.2.1 (hk _ _ _ h.2.2)
    · exact h.elim
  · -- .iastore
    simp only [ckI, Bool.and_eq_true, decide_eq_true_eq] at hc
    obtain ⟨rfl, -⟩ := hc
    split at h
    · exact J_iast hd h.1 h.2.1 (hk _ _ _ h.2.2)
    · exact h.elim
  · -- .laload
    simp only [ckI, Bool.and_eq_true, decide_eq_true_eq] at hc
    obtain ⟨rfl, -⟩ := hc
    split at h
    · exact J_lald hd h.1 h.2.1 (hk _ _ _ h.2.2)
    · exact h.elim
  · -- .lastore
    simp only [ckI, Bool.and_eq_true, decide_eq_true_eq] at hc
    obtain ⟨rfl, -⟩ := hc
    split at h
    · exact J_last hd h.1 h.2.1 (hk _ _ _ h.2.2)
    · exact h.elim
  · -- .aaload
    simp only [ckI, Bool.and_eq_true, decide_eq_true_eq] at hc
    obtain ⟨rfl, -⟩ := hc
    split at h
    · exact J_aald hd h.1 h.2.1 (hk _ _ _ h.2.2)
    · exact h.elim
  · -- .baload
    simp only [ckI, Bool.and_eq_true, decide_eq_true_eq] at hc
    obtain ⟨rfl, -⟩ := hc
    split at h
    · obtain ⟨j, hj, rfl, h1, h2⟩ := h
      exact J_bald hd hj h1 (hk _ _ _ h2)
    · exact h.elim
  · -- .arraylength
    simp only [ckI, Bool.and_eq_true, decide_eq_true_eq] at hc
    obtain ⟨rfl, -⟩ := hc
    split at h
    · by_cases e : inf.getD 0 0 = 10
      · rw [if_pos e] at h
        obtain ⟨j, hj, rfl, h2⟩ := h
        exact J_alenS hd hj (hk _ _ _ h2)
      · rw [if_neg e] at h
        by_cases e2 : inf.getD 0 0 = 11
        · rw [if_pos e2] at h
          obtain ⟨rfl, h2⟩ := h
          exact J_alenX hd (hk _ _ _ h2)
        · rw [if_neg e2] at h
          by_cases e3 : inf.getD 0 0 = 13
          · rw [if_pos e3] at h
            obtain ⟨j, hj, rfl, h2⟩ := h
            exact J_alenB hd hj (hk _ _ _ h2)
          · rw [if_neg e3] at h
            exact J_alen hd h.1 (hk _ _ _ h.2)
    · exact h.elim
  · -- .getstatic z
    simp only [ckI, Bool.and_eq_true, decide_eq_true_eq] at hc
    obtain ⟨rfl, hc⟩ := hc
    by_cases e : inf.getD 0 0 = 9
    · rw [if_pos e] at h hc
      simp only [decide_eq_true_eq] at hc
      exact J_getsC hd (in_gw _ hc rfl) (hk _ _ _ h)
    · rw [if_neg e] at h hc
      simp only [Bool.and_eq_true, decide_eq_true_eq] at hc
      by_cases e2 : inf.getD 1 0 = 0
      · rw [if_pos e2] at hc
        simp only [decide_eq_true_eq] at hc
        exact J_gets hd hc.1 (in_gw _ hc.2 rfl) (hk _ _ _ h)
      · rw [if_neg e2] at hc
        simp only [decide_eq_true_eq] at hc
        exact J_getsN hd hc.1 (List.mem_filter.mpr ⟨List.mem_of_getElem? hc.2, rfl⟩) (hk _ _ _ h)
  · -- .ireturn
    simp only [ckI, Bool.and_eq_true, decide_eq_true_eq] at hc
    obtain ⟨rfl, hc⟩ := hc
    split at h
    · by_cases e : inf.getD 0 0 = 0
      · rw [if_pos e] at h hc
        simp only [decide_eq_true_eq] at hc
        exact J_ret (Or.inl ⟨_, _, rfl, hd, hc, rfl⟩) rfl h
      · rw [if_neg e] at h hc
        by_cases e1 : inf.getD 0 0 = 1
        · rw [if_pos e1] at h hc
          simp only [decide_eq_true_eq] at hc
          refine J_ret (Or.inl ⟨_, _, rfl, hd, hc, ?_⟩) rfl h.2
          rcases h.1 with e9 | e9 <;> rw [e9] <;> decide
        · rw [if_neg e1] at h hc
          by_cases e2 : inf.getD 0 0 = 2
          · rw [if_pos e2] at h hc
            simp only [decide_eq_true_eq] at hc
            exact J_ret (Or.inl ⟨_, _, rfl, hd, hc, h.1⟩) rfl h.2
          · rw [if_neg e2] at h hc
            simp only [decide_eq_true_eq] at hc
            exact J_ret (Or.inl ⟨_, _, rfl, hd, hc, h.1⟩) rfl h.2
    · exact h.elim
  · -- .lreturn
    simp only [ckI, Bool.and_eq_true, decide_eq_true_eq] at hc
    obtain ⟨rfl, hc⟩ := hc
    split at h
    · exact J_ret (Or.inr (Or.inl ⟨_, rfl, hd, hc⟩)) rfl h
    · exact h.elim
  · -- .return_
    simp only [ckI, Bool.and_eq_true, decide_eq_true_eq] at hc
    obtain ⟨rfl, hc⟩ := hc
    split at h
    · exact J_ret (Or.inr (Or.inr (Or.inl ⟨rfl, hd, hc⟩))) rfl h
    · exact h.elim
  · -- .areturn
    simp only [ckI, Bool.and_eq_true, decide_eq_true_eq] at hc
    obtain ⟨rfl, hc⟩ := hc
    split at h
    · exact J_ret (Or.inr (Or.inr (Or.inr ⟨_, _, rfl, hd, hc⟩))) rfl h
    · exact h.elim
  · -- .tableswitch df lo hi offs
    simp only [ckI] at hc
    simp only [Bool.and_eq_true, decide_eq_true_eq] at hc
    split at h
    · exact swc_sound hd hc.1.1 hc.1.2 hc.2.1 hc.2.2.1 hc.2.2.2.1 hc.2.2.2.2 h
    · exact h.elim
  · -- .lookupswitch df ps
    simp only [ckI] at hc
    simp only [Bool.and_eq_true, decide_eq_true_eq] at hc
    split at h
    · exact lsc_sound hd hc.1.1.1 hc.1.1.2 hc.1.2 hc.2 h
    · exact h.elim
  · exact h.elim
abbrev Ent : Type := Instr × Nat × List Nat × Int
def wp (n : Nat) (mi : MI) (P : Option Value → Mm → Prop) : List Ent → Nat → LVs → List Value → Mm → Prop
  | [], pc, lv, st, M => J n mi pc lv st M P
  | (i, len, inf, cst) :: es, pc, lv, st, M => wpI n mi P i inf cst lv st M (fun lv st M => wp n mi P es (pc + len) lv st M)
def ck (mi : MI) : List Ent → Nat → Bool
  | [], _ => true
  | (i, len, inf, cst) :: es, pc => decide (decode mi.2.1 pc = .ok (i, len)) && ckI mi pc i len inf cst && ck mi es (pc + len)
theorem J_blk {n : Nat} {mi : MI} {P : Option Value → Mm → Prop} {es : List Ent} : ∀ {pc : Nat} {lv : LVs} {st : List Value} {M : Mm}, ck mi es pc = true → wp n mi P es pc lv st M → J n mi pc lv st M P := by
  induction es with
  | nil => intro pc lv st M _ h; exact h
  | cons e es ih =>
    intro pc lv st M hc h
    obtain ⟨i, len, inf, cst⟩ := e
    simp only [ck, Bool.and_eq_true, decide_eq_true_eq] at hc
    exact wpI_sound hc.1.1 hc.1.2 h (fun lv st M hh => ih hc.2 hh)

