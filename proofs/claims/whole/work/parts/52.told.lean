/-! what a told tree is: all in range -/
section P3
variable {t : Nat → Nat} {L : Nat} {row : Nat → Int32} {n : Nat}
theorem nu_le {fr : Nat} {m : Nat} (hb : ∀ i, t i < 256) (h : nuB t L fr (nI m) = true) (hm : m < 1000) : vl t L fr ≤ m := by
  have h1 := (of_decide_eq_true h).2.2
  have := vl_lt (L := L) (fr := fr) hb
  exact (nI_leI (by omega) (by omega)).mp h1
theorem br_fin (hb : ∀ i, t i < 256) (fr k : Nat) (hn : n < 8) (hw : (ndS t L (wdB t L (bhS t L n k (fr, false, row)).1 [59]) (bhS t L n k (fr, false, row))).2.1 = false) : ∃ (a b c d : Bool) (v1 v2 v3 : Int32), (ndS t L (wdB t L (bhS t L n k (fr, false, row)).1 [59]) (bhS t L n k (fr, false, row))).2.2 = RW row n a b c d (nI k) v1 v2 v3 ∧ (a = true → ∃ q, q ≤ n ∧ v1 = nI q) ∧ (b = true → ∃ q, q ≤ 9 ∧ v2 = nI q) ∧ (c = true → ∃ q, q ≤ 99 ∧ v3 = nI q) := by
  generalize hst : ndS t L (wdB t L (bhS t L n k (fr, false, row)).1 [59]) (bhS t L n k (fr, false, row)) = st at hw ⊢
  unfold bhS at hst
  rw [bg_eq n k hn] at hst
  generalize hrow1 : upd (upd row (8 + 6 * n) (nI k)) 0 (nI (n + 1)) = row1 at hst
  obtain ⟨o1, o2, o3⟩ := onn_eq (t := t) (L := L) n (nx t L fr) false row1
  generalize hon : onS t L n (nx t L fr, false, row1) = stA at hst o1 o2 o3
  obtain ⟨frA, wA, rowA⟩ := stA
  dsimp only at o1 o2 o3
  unfold frS agS at hst
  rw [show ([102, 111, 114, 99, 101] : List Nat) = wLn 11 from rfl, show ([97, 103, 101] : List Nat) = wLn 12 from rfl] at hst
  try dsimp only at hst
  rw [ph_eq] at hst
  try dsimp only at hst
  rw [ph_eq] at hst
  rw [cu_eq, nd_eq] at hst
  subst hst
  dsimp only at hw ⊢
  generalize hwB : pnW t L 11 9 frA wA = wB at *
  generalize hfB : pnF t L 11 9 frA wA = frB at *
  generalize hwC : pnW t L 12 99 frB wB = wC at *
  generalize hfC : pnF t L 12 99 frB wB = frC at *
  generalize hD : pb t L frC wC 13 = bD at *
  generalize hE : pb t L (if bD = true then nx t L frC else frC) wC 14 = bE at *
  cases bE
  · exact absurd hw (by decide)
  have eC : wC = false := by
    unfold pb at hE
    cases wC
    · rfl
    · exact absurd hE Bool.false_ne_true
  have eB : wB = false := (pn_w (hwC.trans eC)).1
  have eA : wA = false := (pn_w (hwB.trans eB)).1
  have pA := (pn_w (o2.symm.trans eA)).2
  have pB := (pn_w (hwB.trans eB)).2
  have pC := (pn_w (hwC.trans eC)).2
  have rA := o3 (o2.symm.trans eA)
  refine ⟨pb t L (nx t L fr) false 10, pb t L frA wA 11, pb t L frB wB 12, bD, pnV t L 10 (nI (n + 1) - 2) (nx t L fr) false + 1, pnV t L 11 9 frA wA, pnV t L 12 99 frB wB, ?_, fun q => ?_, fun q => ?_, fun q => ?_⟩
  · have e1 : (pb t L frA wA 11 = true ∧ nuB t L (nx t L frA) 9 = true) = (pb t L frA wA 11 = true) := propext ⟨fun q => q.1, fun q => ⟨q, pB q⟩⟩
    have e2 : (pb t L frB wB 12 = true ∧ nuB t L (nx t L frB) 99 = true) = (pb t L frB wB 12 = true) := propext ⟨fun q => q.1, fun q => ⟨q, pC q⟩⟩
    simp only [e1, e2]
    rw [rA, ← hrow1]
    funext j
    unfold RW
    cases pb t L (nx t L fr) false 10 <;> cases pb t L frA wA 11 <;> cases pb t L frB wB 12 <;> cases bD <;> simp only [Bool.false_eq_true, if_true, if_false, upd, true_and, false_and]
  · have h1 := pA q
    unfold pnV
    rw [if_pos ⟨q, h1⟩, nI_1]
    rw [on_most] at h1
    refine ⟨_, ?_, rfl⟩
    rcases Nat.eq_zero_or_pos n with e | e
    · subst e
      have h2 := (of_decide_eq_true h1).2.2
      have := vl_lt (L := L) (fr := nx t L (nx t L fr)) hb
      exact absurd (Int32.le_trans (nI_pos' (n := vl t L (nx t L (nx t L fr))) (by omega)) h2) (by decide)
    · rw [nI_sub1 (by omega)] at h1
      have := nu_le hb h1 (by omega)
      omega
  · unfold pnV
    rw [if_pos ⟨q, pB q⟩]
    exact ⟨_, nu_le (m := 9) hb (pB q) (by decide), rfl⟩
  · unfold pnV
    rw [if_pos ⟨q, pC q⟩]
    exact ⟨_, nu_le (m := 99) hb (pC q) (by decide), rfl⟩
theorem RW_lo {a b c d : Bool} {k v1 v2 v3 : Int32} {j : Nat} (h0 : j ≠ 0) (h : j < 8 + 6 * n) : RW row n a b c d k v1 v2 v3 j = row j := by
  unfold RW
  rw [if_neg (by omega), if_neg (by omega), if_neg (by omega), if_neg (by omega), if_neg h0, if_neg (by omega)]
theorem RW_at {a b c d : Bool} {k v1 v2 v3 : Int32} (hr : RF row n) (hn : n < 8) : RW row n a b c d k v1 v2 v3 (8 + 6 * n) = k ∧ RW row n a b c d k v1 v2 v3 (8 + 6 * n + 1) = (if a = true then v1 else 0) ∧ RW row n a b c d k v1 v2 v3 (8 + 6 * n + 2) = (if b = true then v2 else 0) ∧ RW row n a b c d k v1 v2 v3 (8 + 6 * n + 3) = (if c = true then v3 else 0) ∧ RW row n a b c d k v1 v2 v3 (8 + 6 * n + 4) = (if d = true then 1 else 0) ∧ RW row n a b c d k v1 v2 v3 (8 + 6 * n + 5) = 0 := by
  have r1 := hr.2.2 (8 + 6 * n + 1) (by omega) (by omega)
  have r2 := hr.2.2 (8 + 6 * n + 2) (by omega) (by omega)
  have r3 := hr.2.2 (8 + 6 * n + 3) (by omega) (by omega)
  have r4 := hr.2.2 (8 + 6 * n + 4) (by omega) (by omega)
  have r5 := hr.2.2 (8 + 6 * n + 5) (by omega) (by omega)
  unfold RW
  refine ⟨?_, ?_, ?_, ?_, ?_, ?_⟩ <;> cases a <;> cases b <;> cases c <;> cases d <;> simp only [Bool.false_eq_true, if_true, if_false, true_and, false_and] <;> (repeat' split) <;> first | rfl | assumption | (exfalso; omega)
def GI (row : Nat → Int32) (n : Nat) : Prop := WF row n ∧ WL row n ∧ LB row ∧ RF row n
theorem GI_br (hg : GI row n) (hn : n < 8) {a b c d : Bool} {k : Nat} {v1 v2 v3 : Int32} (hk : k ≤ 5) (h1 : a = true → ∃ q, q ≤ n ∧ v1 = nI q) (h2 : b = true → ∃ q, q ≤ 9 ∧ v2 = nI q) (h3 : c = true → ∃ q, q ≤ 99 ∧ v3 = nI q) : GI (RW row n a b c d (nI k) v1 v2 v3) (n + 1) := by
  obtain ⟨hw, hl, hb, hr⟩ := hg
  have rf := RW_F hr hn a b c d (nI k) v1 v2 v3
  obtain ⟨e0, e1, e2, e3, e4, e5⟩ := RW_at (a := a) (b := b) (c := c) (d := d) (k := nI k) (v1 := v1) (v2 := v2) (v3 := v3) hr hn
  refine ⟨⟨rf.1, rf.2.1, fun o ho => ?_⟩, fun o ho hc => ?_, ?_, rf⟩
  · rcases Nat.lt_or_ge o n with q | q
    · have := hw.2.2 o q
      rw [RW_lo (by omega) (by omega), RW_lo (by omega) (by omega), RW_lo (by omega) (by omega), RW_lo (by omega) (by omega), RW_lo (by omega) (by omega), RW_lo (by omega) (by omega)]
      exact this
    · have : o = n := by omega
      subst this
      rw [Nat.add_zero, e0, e1, e2, e3, e4, e5]
      refine ⟨⟨k, hk, rfl⟩, ?_, ?_, ?_, ?_, ⟨0, by omega, rfl⟩⟩
      · cases a
        · exact ⟨0, by omega, rfl⟩
        · exact h1 rfl
      · cases b
        · exact ⟨0, by omega, rfl⟩
        · exact h2 rfl
      · cases c
        · exact ⟨0, by omega, rfl⟩
        · exact h3 rfl
      · cases d
        · exact Or.inl rfl
        · exact Or.inr rfl
  · rcases Nat.lt_or_ge o n with q | q
    · rw [RW_lo (by omega) (by omega)] at hc ⊢
      exact hl o q hc
    · have : o = n := by omega
      subst this
      exact e5
  · obtain ⟨a4, a5, a6, a7⟩ := hb
    refine ⟨?_, ?_, ?_, ?_⟩ <;> rw [RW_lo (by omega) (by omega)] <;> assumption
theorem GI_law (hg : GI row n) {a m : Nat} (ha : a < 4) (hm : m ≤ (if a = 3 then 99 else 9)) : GI (upd row (4 + a) (nI m)) n := by
  obtain ⟨hw, hl, hb, hr⟩ := hg
  refine ⟨WF_z hw _ (by omega) (by omega), WL_hi hl _ (fun o _ => ⟨by omega, by omega⟩), ?_, ?_⟩
  · obtain ⟨a4, a5, a6, a7⟩ := hb
    rcases (show a = 0 ∨ a = 1 ∨ a = 2 ∨ a = 3 by omega) with rfl | rfl | rfl | rfl
    · exact ⟨⟨m, hm, rfl⟩, a5, a6, a7⟩
    · exact ⟨a4, ⟨m, hm, rfl⟩, a6, a7⟩
    · exact ⟨a4, a5, ⟨m, hm, rfl⟩, a7⟩
    · exact ⟨a4, a5, a6, ⟨m, hm, rfl⟩⟩
  · refine ⟨?_, hr.2.1, fun j h1 h2 => ?_⟩
    · simp only [upd]; rw [if_neg (by omega)]; exact hr.1
    · simp only [upd]; rw [if_neg (by omega)]; exact hr.2.2 j h1 h2
theorem it_GI (hb : ∀ i, t i < 256) (fr : Nat) (hg : GI row n) (hw : (itS t L n (fr, false, row)).2.1 = false) : ∃ m, GI (itS t L n (fr, false, row)).2.2 m := by
  have h8 := hg.1.2.1
  rw [itS_mi] at hw ⊢
  by_cases hk : 0 ≤ kdH t L fr
  · obtain ⟨k, hk5, ek⟩ := kdH_rng t L fr hk
    have em : miS t L n (fr, false, row) = bhS t L n k (fr, false, row) := by
      unfold miS
      dsimp only
      rw [if_pos hk, ek, nI_clamp (by omega)]
    rw [em] at hw ⊢
    rcases Nat.lt_or_ge n 8 with hn | hn
    · obtain ⟨a, b, c, d, v1, v2, v3, e, h1, h2, h3⟩ := br_fin hb fr k hn hw
      rw [e]
      exact ⟨n + 1, GI_br hg hn hk5 h1 h2 h3⟩
    · have e8 : n = 8 := by omega
      subst e8
      have ew : bhS t L 8 k (fr, false, row) = (fr, true, row) := by
        unfold bhS
        rw [bg_full]
        unfold cuS agS frS onS phS
        simp
      rw [ew, nd_eq] at hw
      exact absurd hw (by simp [pb])
  · rcases la_rel t L fr with ⟨a, ha, ea, eh⟩ | ⟨ea, eh⟩
    · have em : miS t L n (fr, false, row) = nuS t L (4 + a) (if a = 3 then 99 else 9) (nx t L fr, false, row) := by
        unfold miS
        dsimp only
        rw [if_neg hk, eh, if_pos (nI_pos' (by omega)), nI_clamp (by omega)]
        congr 1
        by_cases a3 : a = 3
        · subst a3; rfl
        · rw [if_neg a3, if_neg (fun q => a3 (by have := (nI_eq (b := 7) (by omega) (by decide)).mp q; omega))]
      rw [em, nu_eq, nd_eq] at hw ⊢
      dsimp only at hw ⊢
      by_cases q : nuB t L (nx t L fr) (if a = 3 then 99 else 9) = true
      · rw [if_pos q]
        refine ⟨n, GI_law hg ha ?_⟩
        by_cases a3 : a = 3
        · rw [if_pos a3] at q ⊢; exact nu_le (m := 99) hb q (by decide)
        · rw [if_neg a3] at q ⊢; exact nu_le (m := 9) hb q (by decide)
      · rw [if_neg q, if_neg q] at hw
        exact absurd hw (by simp [pb])
    · have em : miS t L n (fr, false, row) = (fr, true, row) := by
        unfold miS
        dsimp only
        rw [if_neg hk, eh, if_neg (by decide), nd_f]
      rw [em, nd_eq] at hw
      exact absurd hw (by simp [pb])
theorem tr_GI (hb : ∀ i, t i < 256) : ∀ f (st : Ps) (n : Nat), (st.2.1 = false → GI st.2.2 n) → (trF t L f st).2.1 = false → ∃ m, GI (trF t L f st).2.2 m := by
  intro f
  induction f with
  | zero => intro st n h hw; exact ⟨n, h hw⟩
  | succ f ih =>
    intro st n h hw
    rw [trF] at hw ⊢
    split at hw
    · next c => rw [if_pos c]; exact ⟨n, h hw⟩
    · next c =>
      rw [if_neg c]
      have hw0 : st.2.1 = false := (Bool.not_eq_true _).mp (fun q => c (Or.inl q))
      have hg := h hw0
      have h8 := hg.1.2.1
      have en : (st.2.2 0).toNatClampNeg = n := by rw [hg.1.1]; exact nI_clamp (by omega)
      rw [en] at hw ⊢
      obtain ⟨fr, w, row⟩ := st
      dsimp only at hw0
      subst hw0
      by_cases q : (itS t L n (fr, false, row)).2.1 = false
      · obtain ⟨m, hm⟩ := it_GI hb fr hg q
        exact ih _ m (fun _ => hm) hw
      · exact ih _ 0 (fun q' => absurd q' q) hw
theorem beg_GI (s : Nat → Int32) : GI (begS s) 0 := by
  refine ⟨⟨rfl, by omega, fun o ho => absurd ho (by omega)⟩, fun o ho => absurd ho (by omega), ⟨⟨2, by omega, rfl⟩, ⟨1, by omega, rfl⟩, ⟨2, by omega, rfl⟩, ⟨20, by omega, rfl⟩⟩, rfl, by omega, fun j j1 j2 => ?_⟩
  simp only [begS]
  rw [if_neg (by omega), if_neg (by omega), if_neg (by omega), if_neg (by omega), if_neg (by omega), if_pos j2]
theorem trS_GI (hb : ∀ i, t i < 256) (s : Nat → Int32) (h : (trS t L s).2.1 = false) : ∃ m, GI (trS t L s).2.2 m := tr_GI hb 201 _ 0 (fun _ => beg_GI s) h
end P3

