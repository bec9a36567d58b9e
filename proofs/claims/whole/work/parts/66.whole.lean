theorem J15 {xs : Nat → Int32} {L : Nat} (hL : L ≤ 2560) : J 21 mL_law 15 [some (.ref 64), some (.ref 0), none, none] [.ref 46] (M0 xs L) PL := by
  refine J_blk a_L_law_15 ?_
  simp only [b_L_law_15, w_astore2, nl_2n, nl_2i, nl_2a, w_iconst_0, w_istore3, nl_3n, nl_3i, nl_3a, w_nil, Nat.reduceAdd]
  exact ⟨trivial, trivial, law_loop hL L 0 (by omega) (by omega) (M0 xs L) 0 (IV0 xs L) rfl rfl⟩
def stO (ts : Nat → Nat) (b : Nat) (adK adV : Nat → Nat) (fm : Nat) (c : Nat) : Nat := if c < 64 then ts (c - 60) else if c = 64 then b else if c < 80 then adK (c - 65) else if c < 96 then adV (c - 80) else fm
theorem stO_t {ts : Nat → Nat} {b : Nat} {adK adV : Nat → Nat} {fm : Nat} (x y : Nat → Nat) {j : Nat} (hj : j < 4) : g1 x y (stO ts b adK adV fm) (60 + j) = ts j := by
  unfold g1 stO
  rw [if_neg (by omega), if_pos (by omega)]
  congr 1
  omega
theorem stO_k {ts : Nat → Nat} {b : Nat} {adK adV : Nat → Nat} {fm : Nat} (x y : Nat → Nat) {j : Nat} (hj : j < 15) : g1 x y (stO ts b adK adV fm) (65 + j) = adK j := by
  unfold g1 stO
  rw [if_neg (by omega), if_neg (by omega), if_neg (by omega), if_pos (by omega)]
  congr 1
  omega
theorem stO_v {ts : Nat → Nat} {b : Nat} {adK adV : Nat → Nat} {fm : Nat} (x y : Nat → Nat) {j : Nat} (hj : j < 15) : g1 x y (stO ts b adK adV fm) (80 + j) = adV j := by
  unfold g1 stO
  rw [if_neg (by omega), if_neg (by omega), if_neg (by omega), if_neg (by omega), if_pos (by omega)]
  congr 1
  omega
/-! THE CLAIM OUT OF ONE WALK OF THE LAW'S BODY. Your part is whole_start (and what it stands on); all else here is the same for every law, but numbers. -/
def R_law : String := "LastPrunedLaw"
def lw_P (b : Addr) (xs : List Int32) (args : Array Value) (s : State) : Prop := args = #[.ref b] ∧ s.IntsAt b xs ∧ xs.length ≤ 2560 ∧ (Jvm.Cond.and given_1 narrow_1).before args s = true
def lw_Q (_ : Array Value) (s : State) (o : Outcome) (t : State) : Prop := o = .returned (some (.int 1)) ∧ Framed s o t [] 600000 7302250
def lw_Z (below : List Frame) (a : Array Value) (s : State) : State → Prop := fun t => ∃ o, t.status = .running ∧ Ended t below o ∧ lw_Q a s o t
/-- the law's own end, with 1 on the stack, nothing written that was there before, its room as the claim has it -/
theorem lw_ret {p : Program} {l : Launch} {e : Env} {s : State} {m : MethodId} {below : List Frame} {meth : Method} {c : Code} {b : Nat} (hx : p.tables.exec = Jvm.exec) (hb : c.code = code) (hr : meth.sig.returnType = ret) (hlocks : meth.locks = false) {pc : Nat} {H : Heap} {ls : Array Slot} (hdg : decode code pc = .ok (.ireturn, 1)) : W p l e room_1 s m #[Value.ref b] below meth c H [] 600000 7302250 (lw_Z below #[Value.ref b] s) (F0 m pc ls [.int 1]) := by
  intro T hT X
  obtain ⟨fs, hret, hrun, hended, hW, hframe⟩ := X.leave (v := some (.int 1)) (hlocks := hlocks) (fun h => by rw [hr] at h; cases h)
  have hmeth' : T.vm.method? m = some meth := X.method'
  refine ⟨T.setFrames fs, ?_, .returned (some (.int 1)), hrun, hended, rfl, ⟨_, rfl⟩, hW, hframe⟩
  jvm_step X.here [X.here.top, hx, hb, hdg, hmeth', hr, ret, narrow_b1]
  (try refine ⟨rfl, ?_⟩); (try refine ⟨rfl, ?_⟩)
  first | (intro acts; rw [hret _ acts rfl rfl rfl]) | rw [hret _ _ rfl rfl rfl]
  exact Steps.refl _
/-- what holds at the law's entry: the machine, the code, the tables' words (any of lw_tbl by 'hts w (by decide +kernel)'), the script of L ints xs at the cell b, what the Statement gives of the start (any of its parts by flat_of_before) -/
def lw_At (p : Program) (s : State) (m : MethodId) (meth : Method) (c : Code) (b L : Nat) (xs : Nat → Int32) : Prop :=
  p.tables.exec = Jvm.exec ∧ c.code = code ∧ meth.sig.returnType = ret ∧ c.maxLocals = 4 ∧ s.vm.findClass R_law = some m.cls ∧ (∀ w ∈ lw_tbl, w.before #[Value.ref b] s = true) ∧ va_X b L xs s s.heap ∧ b < s.heap.size ∧ meth.locks = false ∧ (Jvm.Cond.and given_1 narrow_1).before #[Value.ref b] s = true ∧ (Jvm.Cond.code x code maxLocals ret).before #[Value.ref b] s = true
theorem whole_start {p : Program} {e : Env} {s : State} {m : MethodId} {below : List Frame} {meth : Method} {c : Code} (l : Launch) {b L : Nat} {xs : Nat → Int32} (hL : L ≤ 2560) (C0 : lw_At p s m meth c b L xs) : W p l e room_1 s m #[Value.ref b] below meth c s.heap [] 0 0 (lw_Z below #[Value.ref b] s) (entryFrame m ([Value.ref b] : List Value).toArray 4) := by
  obtain ⟨hx, hb, hr, hml, hown, hts, hX, hbl, hlocks, hgv, hcode⟩ := C0
  have hA : ∀ q : Nat, s.heap.size ≤ q → (fun q : Nat => s.heap.size ≤ q) q := fun _ h => h
  have hnA : ∀ a : Nat, a < s.heap.size → ¬ (fun q : Nat => s.heap.size ≤ q) a := fun a h => Nat.not_le.mpr h
  obtain ⟨D, cs, hK, hKL⟩ := st_K hts
  obtain ⟨ts, hT⟩ := Classical.axiomOfChoice (st_T hts hgv hnA)
  obtain ⟨adK, adV, hXS, hXR⟩ := st_X hts hgv hnA
  obtain ⟨hZ1, fm, hZ2⟩ := st_Z hts hgv hnA
  have hN := st_N hts
  have hSA := st_SA hgv hK (hT 1 (by omega)).1 (hT 1 (by omega)).2.2
  have hCa : va_Nw (.castable "[I" "java/lang/Cloneable") s := va_Nw.of rfl (hts _ (List.mem_of_getElem? (i := 94) (by decide +kernel)))
  have hG : GC D cs (ts 1) (fun q : Nat => s.heap.size ≤ q) s s.heap := ⟨hK, hN, (hT 1 (by omega)).2.1, hSA, hCa, hKL⟩
  have hws : ∀ w ∈ wsM mL_law, w.before #[Value.ref b] s = true := by
    intro w hw
    rcases List.mem_cons.mp hw with h | h
    · rw [h]
      exact hcode
    · exact hts w (List.mem_filter.mp h).1
  have hb' : c.code = mL_law.2.1 := hb
  have hml' : c.maxLocals = mL_law.2.2.1 := hml
  have hown' : s.vm.findClass mL_law.1.cls = some m.cls := hown
  have hS0 : va_S (fun q : Nat => s.heap.size ≤ q) s.heap s.heap [] := va_S.rf
  have hP0 : va_P D vwCl [] s.heap := fun k q h => by simp at h
  have hD0 : va_D (fun q : Nat => s.heap.size ≤ q) [] := ⟨fun i j p q h => by simp at h, fun k q h => by simp at h⟩
  have hl := lv_entry ([.ref b]) (n := 4) (Nat.le_of_ble_eq_true rfl)
  rw [lg_entry_eq]
  generalize (lg_sl ([.ref b]) ++ List.replicate (4 - (lg_sl ([.ref b])).length) Slot.unset).toArray = ls at hl ⊢
  have hl : lv_has ls 4 [(0, .ref b)] := hl
  obtain ⟨-, -, hin5, hty5, -⟩ := cls_all (ci := 5) (C := RX5) (T := TX5) (N := 10) rfl
  obtain ⟨-, -, hin6, hty6, -⟩ := cls_all (ci := 6) (C := RX6) (T := TX6) (N := 26) rfl
  refine va_new (D := D) (ci := 5) (fs := [.null, .null, .null, .int 0, .null, .null, .int 0, .null, .null, .null]) (C := RX5) (T := TX5) (N := 10) hx hb' hws (fun w h => gw_ws (hin5 w h)) (tyF 5) hty5 hown' (index := 7) (hws _ (gw_ws (in_gw 73 (by decide +kernel) rfl))) (hws _ (gw_ws (in_gw 74 (by decide +kernel) rfl))) (hws _ (gw_ws (in_gw 58 (by decide +kernel) rfl))) hK hP0 hD0 hS0 hA rfl df_5 (Nat.le_of_ble_eq_true rfl) (Nat.le_of_ble_eq_true rfl) (by decide +kernel) (fun q0 H1 hP1 hD1 hS1 => ?_)
  refine lv_dup hx hb' (by decide +kernel) rfl ?_
  refine S_callI (wr := []) (cj := 5) (fs2 := [.null, .null, .null, .int 0, .null, .null, .int 0, .null, .null, .null]) (mi := mL_law) (idx := 9) hx hb' hml' hown' hws hG hA hP1 hD1 hS1 hl.1 init_5 o_X5_init rfl rfl rfl (in_gw 76 (by decide +kernel) rfl) (in_gw 75 (by decide +kernel) rfl) (by decide +kernel) ⟨Nat.le_of_ble_eq_true rfl, Nat.le_of_ble_eq_true rfl⟩ (Nat.le_of_ble_eq_true rfl) ⟨Nat.le_of_ble_eq_true rfl, Nat.le_of_ble_eq_true rfl⟩ (fun x H2 locs2 ha hP2 hD2 hS2 => ?_)
  refine lv_astore_n (lv' := [(1, .ref q0), (0, .ref b)]) hx hb' (show decode mL_law.2.1 7 = .ok (.astore_n 1, 1) by decide +kernel) rfl hl (by decide) rfl (fun ls hl => ?_)
  refine va_new (D := D) (ci := 6) (fs := [.null, .null, .null, .null, .int 0, .null, .int 0, .int 0, .int 0, .int 0, .int 0, .int 0, .null, .int 0, .null, .null, .null, .null, .null, .null, .null, .int 0, .int 0, .int 0, .int 0, .int 0]) (C := RX6) (T := TX6) (N := 26) hx hb' hws (fun w h => gw_ws (hin6 w h)) (tyF 6) hty6 hown' (index := 10) (hws _ (gw_ws (in_gw 841 (by decide +kernel) rfl))) (hws _ (gw_ws (in_gw 842 (by decide +kernel) rfl))) (hws _ (gw_ws (in_gw 64 (by decide +kernel) rfl))) hK hP2 hD2 hS2 hA rfl df_6 (Nat.le_of_ble_eq_true rfl) (Nat.le_of_ble_eq_true rfl) (by decide +kernel) (fun q1 H3 hP3 hD3 hS3 => ?_)
  refine lv_dup hx hb' (by decide +kernel) rfl ?_
  refine S_callI (wr := [] ++ lpW cs x) (cj := 6) (fs2 := [.null, .null, .null, .null, .int 0, .null, .int 0, .int 0, .int 0, .int 0, .int 0, .int 0, .null, .int 0, .null, .null, .null, .null, .null, .null, .null, .int 0, .int 0, .int 0, .int 0, .int 0]) (mi := mL_law) (idx := 12) hx hb' hml' hown' hws hG hA hP3 hD3 hS3 hl.1 init_6 o_X6_init rfl rfl rfl (in_gw 844 (by decide +kernel) rfl) (in_gw 843 (by decide +kernel) rfl) (by decide +kernel) ⟨Nat.le_of_ble_eq_true rfl, Nat.le_of_ble_eq_true rfl⟩ (Nat.le_of_ble_eq_true rfl) ⟨Nat.le_of_ble_eq_true rfl, Nat.le_of_ble_eq_true rfl⟩ (fun y H4 locs4 hy hP4 hD4 hS4 => ?_)
  subst ha
  subst hy
  rw [List.nil_append] at hP4 hD4
  have hT64 : va_T .int b L (fun i => .int (xs i)) (fun q : Nat => s.heap.size ≤ q) s s.heap := by
    obtain ⟨scr, z1, z2, z3, z4, z5⟩ := hX
    exact ⟨scr, z1, z2, z3, Nat.le_of_eq z4.symm, by rw [z4], z5, hnA b hbl⟩
  have hGs : Gs (gO D cs x y (stO ts b adK adV fm) xs L) (fun q : Nat => s.heap.size ≤ q) s s.heap := by
    refine ⟨hK, hN, fun i j hi hj h => g1_inj D hD4 i j hi hj h, fun j hj => ?_, ⟨hT64, Nat.lt_of_le_of_lt hL (by decide)⟩, fun j hj => ?_, ⟨fun i hi => ?_, fun i j hi hj h => ?_⟩, hZ1, hZ2⟩
    · show va_Z _ _ _ (.ref (g1 x y (stO ts b adK adV fm) (60 + j))) _ _ _ ∧ va_T _ (g1 x y (stO ts b adK adV fm) (60 + j)) _ _ _ _ _
      rw [stO_t x y hj]
      exact (hT j hj).2
    · show vk_R _ _ _ (g1 x y (stO ts b adK adV fm) (65 + j)) _
      rw [stO_k x y hj]
      exact hXR j hj
    · show va_O _ (g1 x y (stO ts b adK adV fm) (65 + i)) _ _ _ ∧ va_OF _ _ _ _ (g1 x y (stO ts b adK adV fm) (65 + i)) _ _ _ ∧ va_OF _ _ _ (.ref (g1 x y (stO ts b adK adV fm) (80 + i))) (g1 x y (stO ts b adK adV fm) (65 + i)) _ _ _ ∧ va_T _ (g1 x y (stO ts b adK adV fm) (80 + i)) _ _ _ _ _
      rw [stO_k x y hi, stO_v x y hi]
      exact hXS.1 i hi
    · have h' : g1 x y (stO ts b adK adV fm) (65 + i) = g1 x y (stO ts b adK adV fm) (65 + j) := h
      rw [stO_k x y hi, stO_k x y hj] at h'
      exact hXS.2 i j hi hj h'
  refine J15 (xs := xs) hL l p e room_1 s m #[Value.ref b] below meth c (gO D cs x y (stO ts b adK adV fm) xs L) (fun q : Nat => s.heap.size ≤ q) _ _ _ ⟨hx, hb', hml', hown', hws, ⟨Nat.le_of_ble_eq_true rfl, Nat.le_of_ble_eq_true rfl⟩, ⟨Nat.le_of_ble_eq_true rfl, Nat.le_of_ble_eq_true rfl⟩, hGs, hA, fun c hc => g1_A D hD4 c hc⟩ ?_ H4 locs4 ls ⟨world_M0 hP4, hS4, rfl, rfl⟩ ?_
  · intro pcR lsR r M' H' locs' hPL hret hH
    cases hPL
    rcases hret with ⟨v, ty, e1, hd, -, -⟩ | ⟨v, e1, -⟩ | ⟨e1, -⟩ | ⟨v, n, e1, -⟩
    · refine va_forget (fun q hq => hH.2.1.2.2 q hq) ?_
      refine W.widen (k := 600000) (n := 7302250) (Nat.le_of_ble_eq_true rfl) (Nat.le_of_ble_eq_true rfl) ?_
      exact lw_ret hx hb hr hlocks hd
    · cases e1
    · cases e1
    · cases e1
  · refine lh_sub hl (fun q hq => ?_)
    obtain ⟨v, h1, h2⟩ := mem_asc.mp hq
    obtain ⟨i, w⟩ := q
    have hi : i < 4 := (List.getElem?_eq_some_iff.mp h1).1
    rcases (show i = 0 ∨ i = 1 ∨ i = 2 ∨ i = 3 by omega) with rfl | rfl | rfl | rfl <;> cases h1
    · cases h2
      exact List.mem_cons_of_mem _ List.mem_cons_self
    · cases h2
      exact List.mem_cons_self
set_option maxHeartbeats 4000000 in
theorem lw_walk (l : Launch) (b : Addr) (xs : List Int32) : MetFree l x (headSpec (Jvm.Cond.code x code maxLocals ret :: tables_1) room_1) (lw_P b xs) (fun _ _ _ _ _ => True) lw_Q := by
  refine MetFree.of_bodyS (code := code) (maxLocals := maxLocals) (ret := ret) (by decide) ?_ ?_
  · intro args s m h hn
    obtain ⟨meth, c, h1, h2, h3, h4, h5, h6, -, -⟩ := Cond.code_spec hn (atoms_spec (ws := Jvm.Cond.code x code maxLocals ret :: tables_1) h _ List.mem_cons_self)
    exact ⟨meth, c, h1, h2, h3, h4, h5, h6⟩
  · intro p e s m args below meth c s₁ B hml0 hP _
    obtain ⟨rfl, hx, hbd, hgv⟩ := hP
    obtain ⟨scr, harrAt, hlist, hof, hsmall⟩ := hx
    obtain ⟨hcb, hkn, -, -⟩ := State.arrayAt?_spec harrAt
    have hown : s.vm.findClass R_law = some m.cls := findClass_of_methodNamed B.named
    have hts0 : ∀ c ∈ (Jvm.Cond.code x code maxLocals ret :: tables_1), c.before #[Value.ref b] s = true := atoms_spec (ws := Jvm.Cond.code x code maxLocals ret :: tables_1) B.pre
    have hts : ∀ w ∈ lw_tbl, w.before #[Value.ref b] s = true := k2_hts_sels lw_privs (fun w hw => hts0 w (List.mem_cons_of_mem _ hw)) lw_privs_ok
    have hml : c.maxLocals = 4 := B.maxLocals_eq (hts0 _ List.mem_cons_self)
    have X₀ : Stand p l e room_1 s m #[Value.ref b] below meth c s₁ [] 0 0 := Stand.of_body B
    have hh0 : s₁.heap = s.heap := by rw [B.state]; rfl
    have hsz : scr.slots.size = xs.length := by rw [← Array.length_toList, hlist, List.length_map]
    have hval : ∀ j : Nat, j < xs.length → scr.slots[j]? = some (.int (xs.getD j 0)) := fun j hj => by
      rw [← Array.getElem?_toList, hlist]
      simp [hj]
    have hbl : b < s.heap.size := (Array.getElem?_eq_some_iff.mp hcb).1
    have hX : va_X b xs.length (fun j => xs.getD j 0) s s.heap := ⟨scr, hcb, hof, hkn, hsz, hval⟩
    have K : W p l e room_1 s m #[Value.ref b] below meth c s₁.heap [] 0 0 (lw_Z below #[Value.ref b] s) (entryFrame m ([Value.ref b] : List Value).toArray 4) := by
      rw [hh0]
      exact whole_start l hbd ⟨B.exec, B.bytes, B.returns, hml, hown, hts, hX, hbl, B.notSynchronized, hgv, hts0 _ List.mem_cons_self⟩
    obtain ⟨t, a1, o, b1, b2, b3⟩ := K s₁ rfl X₀
    exact ⟨t, o, a1, b1, b2, b3⟩
theorem lw_pre_spec {args : Array Value} {s : State} (h : (Jvm.Cond.and given_1 narrow_1).before args s = true) (hr : rest_1_c.before args s = true) : ∃ (b : Addr) (xs : List Int32), lw_P b xs args s := by
  have hs := flat_of_before _ h
  have hq := flat_of_before _ hr
  have hc : (Cond.count 1).before args s = true := hs _ (by decide +kernel)
  have harr : (Cond.arrayOf (.arg 0) .int).before args s = true := hs _ (by decide +kernel)
  have hle : (Cond.le (.length (.arg 0)) (.int 2560)).before args s = true := hs _ (by decide +kernel)
  have hlen : (Cond.isInt (.length (.arg 0))).before args s = true := hq _ (by decide +kernel)
  have hall : (Cond.all (.arg 0) (.isInt (.elem (.arg 0) (.index 0)))).before args s = true := hq _ (by decide +kernel)
  obtain ⟨b, xs, hb, hx⟩ := State.ints_of_pre rfl harr hlen hall
  have hsm : xs.length < 2 ^ 31 := hx.choose_spec.2.2.2
  have hev : (Term.length (.arg 0)).eval args s none [] s = some (.int xs.length.toInt32) := hx.length_eval hb
  have hv := Cond.le_ints hev (show (Term.int 2560).eval args s none [] s = some (.int 2560) from rfl)
  have hd : xs.length.toInt32 ≤ 2560 := by
    simpa [Cond.before, Cond.holds, hv] using hle
  have hN : xs.length ≤ 2560 := (Int32.ofNat_le_ofNat hsm (by decide)).mp (show Int32.ofNat xs.length ≤ Int32.ofNat 2560 from hd)
  exact ⟨b, xs, Cond.one_arg hc (show args[0]? = some (.ref b) from hb), hx, hN, h⟩
theorem lw_comes (l : Launch) : Comes l x (Jvm.Cond.code x code maxLocals ret :: tables_1) room_1 (fun tb e args s => Calls_1 tb e args s ∧ rest_1 tb e args s ∧ Pre_1 tb e args s)
    (fun _ _ args s o t => lw_Q args s o t) := by
  intro p e ha hc hk s m args below hf hfit hheap happ hpre
  obtain ⟨b, xs, hP⟩ := lw_pre_spec hpre.2.2 hpre.2.1
  obtain ⟨k, o, h1, h2, h3, hQ⟩ := lw_walk l b xs p e ha hc hk s m args below hf ((Spec.applies_iff_loose hf).mp happ).1 hP trivial
  exact ⟨k, o, h1, h2, h3, hQ⟩
theorem lw_frame {s t : State} {o : Outcome} {args : Array Value} (h : Framed s o t [] 600000 7302250) :
    Framed s o t (fieldLocs frame_1_writes args s ++ arrayLocs frame_1_arrays args s ++ staticLocs frame_1_statics s) 600000 7302250 := h
theorem lw_limb (L : Cond) (hL : ∀ (args : Array Value) (s t : State), L.after args s (.returned (some (.int 1))) t = true) :
    ArmFor flags0 classFile x code maxLocals ret World_1 tables_1 room_1 Calls_1 rest_1 Pre_1
      (fun tb e a s o t => postC L tb e a s o t ∧ Framed s o t (fieldLocs frame_1_writes a s ++ arrayLocs frame_1_arrays a s ++ staticLocs frame_1_statics s) 600000 7302250) := by
  intro l _ _ _ p e ha hc hk s m args below hf hfit hheap happ hpre
  obtain ⟨k, o, h1, h2, h3, rfl, hF⟩ := lw_comes l p e ha hc hk s m args below hf hfit hheap happ hpre
  exact ⟨k, _, h1, h2, h3, hL args s _, lw_frame hF⟩
theorem i_vc : Claimed_1_1 ∧ Claimed_1_2 := ⟨lw_limb limb_1_1 (fun args s t => by simp [limb_1_1, Cond.after, Cond.holds, Cond.value]), lw_limb limb_1_2 (fun args s t => Cond.after_iff.mpr (by
  first | (rw [show limb_1_2 = Cond.eq .result (.int 1) from rfl, Cond.eq_ints (x := 1) (y := 1) rfl rfl]; simp; done) | (simp [limb_1_2, Cond.value, Term.eval]; done)))⟩

