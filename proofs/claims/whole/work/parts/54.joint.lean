/-! class and model: the tree's calls -/
section T1
variable {s : Nat → Int32} {n : Nat}
theorem TW_law (h : TW s n) {j a : Nat} (hj : j < 4) (ha : a ≤ (if j = 3 then 99 else 9)) : TW (upd s (4 + j) (nI a)) n := by
  obtain ⟨hw, hl, hb⟩ := h
  refine ⟨WF_z hw _ (by omega) (by omega), WL_hi hl _ (fun o _ => ⟨by omega, by omega⟩), ?_⟩
  obtain ⟨a4, a5, a6, a7⟩ := hb
  rcases (show j = 0 ∨ j = 1 ∨ j = 2 ∨ j = 3 by omega) with rfl | rfl | rfl | rfl
  · exact ⟨⟨a, ha, rfl⟩, a5, a6, a7⟩
  · exact ⟨a4, ⟨a, ha, rfl⟩, a6, a7⟩
  · exact ⟨a4, a5, ⟨a, ha, rfl⟩, a7⟩
  · exact ⟨a4, a5, a6, ⟨a, ha, rfl⟩⟩
theorem br_lo {k q f a : Int32} {j : Nat} (h0 : j ≠ 0) (h : j < 8 + 6 * n) : brR s n k q f a j = s j := by
  unfold brR
  simp only [upd]
  rw [if_neg h0, if_neg (by omega), if_neg (by omega), if_neg (by omega), if_neg (by omega), if_neg (by omega), if_neg (by omega)]
theorem br_at (k q f a : Int32) : brR s n k q f a (8 + 6 * n) = k ∧ brR s n k q f a (8 + 6 * n + 1) = q ∧ brR s n k q f a (8 + 6 * n + 2) = f ∧ brR s n k q f a (8 + 6 * n + 3) = a ∧ brR s n k q f a (8 + 6 * n + 4) = 0 ∧ brR s n k q f a (8 + 6 * n + 5) = 0 := by
  unfold brR
  simp only [upd]
  refine ⟨?_, ?_, ?_, ?_, ?_, ?_⟩
  · rw [if_neg (by omega), if_neg (by omega), if_neg (by omega), if_neg (by omega), if_neg (by omega), if_neg (by omega), if_pos trivial]
  · rw [if_neg (by omega), if_neg (by omega), if_neg (by omega), if_neg (by omega), if_neg (by omega), if_pos trivial]
  · rw [if_neg (by omega), if_neg (by omega), if_neg (by omega), if_neg (by omega), if_pos trivial]
  · rw [if_neg (by omega), if_neg (by omega), if_neg (by omega), if_pos trivial]
  · rw [if_neg (by omega), if_neg (by omega), if_pos trivial]
  · rw [if_neg (by omega), if_pos trivial]
theorem TW_br (h : TW s n) (hn : n < 8) {k q f a : Nat} (hk : k ≤ 5) (hq : q ≤ n) (hf : f ≤ 9) (ha : a ≤ 99) : TW (brR s n (nI k) (nI q) (nI f) (nI a)) (n + 1) := by
  obtain ⟨hw, hl, hb⟩ := h
  obtain ⟨e0, e1, e2, e3, e4, e5⟩ := br_at (s := s) (n := n) (nI k) (nI q) (nI f) (nI a)
  refine ⟨⟨by unfold brR; simp [upd], by omega, fun o ho => ?_⟩, fun o ho hc => ?_, ?_⟩
  · rcases Nat.lt_or_ge o n with c | c
    · have := hw.2.2 o c
      rw [br_lo (by omega) (by omega), br_lo (by omega) (by omega), br_lo (by omega) (by omega), br_lo (by omega) (by omega), br_lo (by omega) (by omega), br_lo (by omega) (by omega)]
      exact this
    · have : o = n := by omega
      subst this
      rw [Nat.add_zero, e0, e1, e2, e3, e4, e5]
      exact ⟨⟨k, hk, rfl⟩, ⟨q, hq, rfl⟩, ⟨f, hf, rfl⟩, ⟨a, ha, rfl⟩, Or.inl rfl, ⟨0, by omega, rfl⟩⟩
  · rcases Nat.lt_or_ge o n with c | c
    · rw [br_lo (by omega) (by omega)] at hc ⊢
      exact hl o c hc
    · have : o = n := by omega
      subst this
      exact e5
  · obtain ⟨a4, a5, a6, a7⟩ := hb
    refine ⟨?_, ?_, ?_, ?_⟩ <;> rw [br_lo (by omega) (by omega)] <;> assumption
theorem WF_age {o a : Nat} (hw : WF s n) (ha : a ≤ 99) : WF (upd s (8 + 6 * o + 3) (nI a)) n := WF_upd hw _ (by omega) (fun o' k ho' hk e => by
  have : k = 3 ∧ o' = o := by omega
  obtain ⟨rfl, rfl⟩ := this
  simp
  exact ⟨a, ha, rfl⟩)
theorem WF_on {o a : Nat} (hw : WF s n) (ha : a ≤ o) : WF (upd s (8 + 6 * o + 1) (nI a)) n := WF_upd hw _ (by omega) (fun o' k ho' hk e => by
  have : k = 1 ∧ o' = o := by omega
  obtain ⟨rfl, rfl⟩ := this
  simp
  exact ⟨a, ha, rfl⟩)
theorem LB_fr (h : LB s) : LB (frR s n) := by
  have e : ∀ j, 4 ≤ j → j < 8 → frR s n j = s j := by
    intro j h4 h8
    unfold frR
    split
    · rfl
    · simp only [upd]
      rw [if_neg (by omega), if_neg (by omega)]
  obtain ⟨a4, a5, a6, a7⟩ := h
  refine ⟨?_, ?_, ?_, ?_⟩ <;> rw [e _ (by omega) (by omega)] <;> assumption
theorem TW_year (h : TW s n) : TW (yearS (frR s n) n) n := ⟨WF_year (WF_frR h.1) _ _, WL_year _ _, LB_year (LB_fr h.2.2) _ _⟩
theorem TW_yrs (h : TW s n) (k : Nat) : TW (yrs s n k) n := ⟨WF_yrs h.1 k, WL_yrs h.2.1 k, LB_yrs h.2.2 k⟩
theorem TW_cut (h : TW s n) (o : Nat) : TW (upd s (8 + 6 * o + 4) 1) n := ⟨WF_cut h.1 1 (Or.inr rfl), fun q hq hc => by
    simp only [upd] at hc ⊢
    rw [if_neg (by omega)]
    split at hc
    · exact absurd rfl hc
    · exact h.2.1 q hq hc, LB_hi h.2.2 _ (by omega)⟩
theorem TW_cb (h : TW s n) (o : Nat) : TW (cbR s o) n := ⟨WF_cb h.1, WL_cb h.2.1 o, LB_hi (LB_hi h.2.2 _ (by omega)) _ (by omega)⟩
theorem TW_up (h : TW s n) {j : Nat} {v : Int32} (hw : WF (upd s j v) n) (hj : ∀ o, o < n → j ≠ 8 + 6 * o + 4 ∧ j ≠ 8 + 6 * o + 5) (h8 : j < 4 ∨ 8 ≤ j) : TW (upd s j v) n := ⟨hw, WL_hi h.2.1 _ hj, LB_hi h.2.2 _ h8⟩
theorem of_eq (o b : Nat) (hb : b ≤ 7) : ofI s o (nI b) = ofS s o b := by
  unfold ofI ofS
  rcases (show b = 0 ∨ b = 1 ∨ b = 2 ∨ b = 3 ∨ b = 4 ∨ b = 5 ∨ b = 6 ∨ b = 7 by omega) with rfl | rfl | rfl | rfl | rfl | rfl | rfl | rfl <;> rfl
theorem of_no (o : Nat) {w : Int32} (h : ¬ (0 ≤ w ∧ w ≤ 7)) : ofI s o w = -1 := by
  have ne : ∀ b, b ≤ 7 → w ≠ nI b := fun b hb e => h (by rw [e]; exact ok2 (m := 7) hb (by decide))
  unfold ofI
  rw [if_neg (show ¬ w = 0 from ne 0 (by decide)), if_neg (show ¬ w = 1 from ne 1 (by decide)), if_neg (show ¬ w = 2 from ne 2 (by decide)), if_neg (show ¬ w = 3 from ne 3 (by decide)), if_neg (show ¬ w = 4 from ne 4 (by decide)), if_neg (show ¬ w = 5 from ne 5 (by decide)), if_neg (show ¬ w = 6 from ne 6 (by decide)), if_neg (show ¬ w = 7 from ne 7 (by decide))]
theorem do_eq (o b : Nat) (hb : b ≤ 2) : doI s n o (nI b) = doS s n o b := by
  unfold doI doS
  rcases (show b = 0 ∨ b = 1 ∨ b = 2 by omega) with rfl | rfl | rfl <;> rfl
theorem do_no (o : Nat) {w : Int32} (h : ¬ (0 ≤ w ∧ w ≤ 2)) : doI s n o w = -1 := by
  have ne : ∀ b, b ≤ 2 → w ≠ nI b := fun b hb e => h (by rw [e]; exact ok2 (m := 2) hb (by decide))
  unfold doI
  rw [if_neg (show ¬ w = 0 from ne 0 (by decide)), if_neg (show ¬ w = 1 from ne 1 (by decide)), if_neg (show ¬ w = 2 from ne 2 (by decide))]
end T1
section OP
variable {M : Mm} {n : Nat}
theorem op_set (hI : IV M n) (law v : Int32) : JO mX5_set mX6_set [.int law, .int v] M := by
  by_cases h : (0 ≤ law ∧ law ≤ 3) ∧ (0 ≤ v ∧ v ≤ (if law = 3 then 99 else 9))
  · obtain ⟨j, hj, rfl⟩ := inNc (n := 3) 3 rfl h.1 (by decide)
    have h2 := h.2
    have : ∃ a, a ≤ (if j = 3 then 99 else 9) ∧ v = nI a := by
      by_cases j3 : j = 3
      · rw [if_pos (by rw [j3]; rfl)] at h2
        rw [if_pos j3]
        exact inNc (n := 99) 99 rfl h2 (by decide)
      · rw [if_neg (show ¬ nI j = 3 from fun e => j3 ((nI_eq (b := 3) (by omega) (by decide)).mp e))] at h2
        rw [if_neg j3]
        exact inNc (n := 9) 9 rfl h2 (by decide)
    obtain ⟨a, ha, rfl⟩ := this
    exact jo_t hI (cset_t hI.2.1 j a (by omega) ha) (fun M1 e => by rw [← e]; exact mset_t j a M1 (by omega) ha) (TW_law hI.1 (by omega) ha)
  · exact jo_f hI (cset_f law v h) (mset_f law v M n hI.1.1 h)
theorem op_lawOf (hI : IV M n) (law : Int32) : JO mX5_lawOf mX6_lawOf [.int law] M := by
  by_cases h : 0 ≤ law ∧ law ≤ 3
  · obtain ⟨j, hj, rfl⟩ := inNc (n := 3) 3 rfl h (by decide)
    exact jo_f hI (clawOf_t hI.2.1 j (by omega)) (mlawOf_t j M (by omega))
  · exact jo_f hI (clawOf_f law M n _ hI.1.1 hI.2.1 h) (mlawOf_f law M n hI.1.1 h)
theorem op_branch (hI : IV M n) (k on f a : Int32) : JO mX5_branch mX6_branch [.int k, .int on, .int f, .int a] M := by
  have h8 := hI.1.1.2.1
  by_cases h : (0 ≤ k ∧ k ≤ 5) ∧ (0 ≤ on ∧ on ≤ nI n) ∧ (0 ≤ f ∧ f ≤ 9) ∧ (0 ≤ a ∧ a ≤ 99)
  · obtain ⟨k, hk, rfl⟩ := inNc (n := 5) 5 rfl h.1 (by decide)
    obtain ⟨q, hq, rfl⟩ := inNc (n := n) _ rfl h.2.1 (by omega)
    obtain ⟨f, hf, rfl⟩ := inNc (n := 9) 9 rfl h.2.2.1 (by decide)
    obtain ⟨a, ha, rfl⟩ := inNc (n := 99) 99 rfl h.2.2.2 (by decide)
    rcases Nat.lt_or_ge n 8 with hn | hn
    · exact jo_t hI (cbranch_t hI.2.1 k q f a hn hk hq hf ha) (fun M1 e => by rw [← e]; exact mbranch_t n k q f a M1 (by rw [e]; exact hI.1.1) hn hk hq hf ha) (TW_br hI.1 hn hk hq hf ha)
    · have : n = 8 := by omega
      subst this
      exact jo_f hI (cbranch_n hI.2.1 k q f a hk hq hf ha) (mbranch_n k q f a M hI.1.1 hk hq hf ha)
  · exact jo_f hI (cbranch_f k on f a M n _ hI.1.1 hI.2.1 h) (mbranch_f k on f a M n hI.1.1 h)
theorem op_of (hI : IV M n) (o w : Int32) : JO mX5_of mX6_of [.int o, .int w] M := by
  have h8 := hI.1.1.2.1
  by_cases h : 0 ≤ o ∧ o < nI n
  · obtain ⟨o, ho, rfl⟩ := inN h (by omega)
    by_cases h2 : 0 ≤ w ∧ w ≤ 7
    · obtain ⟨b, hb, rfl⟩ := inNc (n := 7) 7 rfl h2 (by decide)
      exact jo_r hI (cof_t hI.1.1 hI.2.1 o (nI b) ho) (fun M1 e => by rw [← e, of_eq o b hb]; exact Rs_0 (mof_t n o b M1 (by rw [e]; exact hI.1.1) ho hb))
    · exact jo_r hI (cof_t hI.1.1 hI.2.1 o w ho) (fun M1 e => by rw [of_no o h2]; exact Rs_0 (mof_f (nI o) w M1 n (by rw [e]; exact hI.1.1) (fun q => h2 q.2)))
  · exact jo_f hI (cof_f hI.1.1 hI.2.1 o w h) (mof_f o w M n hI.1.1 (fun q => h q.1))
theorem op_does (hI : IV M n) (o w : Int32) : JO mX5_does mX6_does [.int o, .int w] M := by
  have h8 := hI.1.1.2.1
  by_cases h : 0 ≤ o ∧ o < nI n
  · obtain ⟨o, ho, rfl⟩ := inN h (by omega)
    by_cases h2 : 0 ≤ w ∧ w ≤ 2
    · obtain ⟨b, hb, rfl⟩ := inNc (n := 2) 2 rfl h2 (by decide)
      exact jo_r hI (cdoes_t hI.1.1 hI.2.1 o (nI b) ho) (fun M1 e => by rw [← e, do_eq o b hb]; exact Rs_0 (mdoes_t n o b M1 (by rw [e]; exact hI.1.1) ho hb))
    · exact jo_r hI (cdoes_t hI.1.1 hI.2.1 o w ho) (fun M1 e => by rw [do_no o h2]; exact Rs_0 (mdoes_f (nI o) w M1 n (by rw [e]; exact hI.1.1) (fun q => h2 q.2)))
  · exact jo_f hI (cdoes_f hI.1.1 hI.2.1 o w h) (mdoes_f o w M n hI.1.1 (fun q => h q.1))
theorem op_stem (hI : IV M n) (o : Int32) : JO mX5_stem mX6_stem [.int o] M := by
  have h8 := hI.1.1.2.1
  by_cases h : 0 ≤ o ∧ o < nI n
  · obtain ⟨o, ho, rfl⟩ := inN h (by omega)
    exact jo_f hI (cstem_t hI.1.1 hI.2.1 o ho) (mstem_t n o M hI.1.1 ho)
  · exact jo_f hI (cstem_f o M n _ hI.1.1 hI.2.1 h) (mstem_f o M n hI.1.1 h)
theorem op_mind (hI : IV M n) (o k f : Int32) : JO mX5_mind mX6_mind [.int o, .int k, .int f] M := by
  have h8 := hI.1.1.2.1
  by_cases h : (0 ≤ o ∧ o < nI n) ∧ (0 ≤ k ∧ k ≤ 5) ∧ (0 ≤ f ∧ f ≤ 9)
  · obtain ⟨o, ho, rfl⟩ := inN h.1 (by omega)
    obtain ⟨k, hk, rfl⟩ := inNc (n := 5) 5 rfl h.2.1 (by decide)
    obtain ⟨f, hf, rfl⟩ := inNc (n := 9) 9 rfl h.2.2 (by decide)
    have t1 : TW (upd (M.1 47) (8 + 6 * o + 2) (nI f)) n := TW_up hI.1 (WF_force hI.1.1 hf) (fun q _ => ⟨by omega, by omega⟩) (by omega)
    exact jo_t hI (cmind_t hI.1.1 hI.2.1 o k f ho hk hf) (fun M1 e => by rw [← e]; exact mmind_t n o k f M1 (by rw [e]; exact hI.1.1) ho hk hf) (TW_up t1 (WF_kind t1.1 hk) (fun q _ => ⟨by omega, by omega⟩) (by omega))
  · exact jo_f hI (cmind_f o k f M n _ hI.1.1 hI.2.1 h) (mmind_f o k f M n hI.1.1 h)
theorem op_age (hI : IV M n) (o v : Int32) : JO mX5_age mX6_age [.int o, .int v] M := by
  have h8 := hI.1.1.2.1
  by_cases h : (0 ≤ o ∧ o < nI n) ∧ (0 ≤ v ∧ v ≤ 99)
  · obtain ⟨o, ho, rfl⟩ := inN h.1 (by omega)
    obtain ⟨a, ha, rfl⟩ := inNc (n := 99) 99 rfl h.2 (by decide)
    exact jo_t hI (cage_t hI.1.1 hI.2.1 o a ho ha) (fun M1 e => by rw [← e]; exact mage_t n o a M1 (by rw [e]; exact hI.1.1) ho ha) (TW_up hI.1 (WF_age hI.1.1 ha) (fun q _ => ⟨by omega, by omega⟩) (by omega))
  · exact jo_f hI (cage_f o v M n _ hI.1.1 hI.2.1 h) (mage_f o v M n hI.1.1 h)
theorem op_graft (hI : IV M n) (o v : Int32) : JO mX5_graft mX6_graft [.int o, .int v] M := by
  have h8 := hI.1.1.2.1
  by_cases h : (0 ≤ o ∧ o < nI n) ∧ (0 ≤ v ∧ v ≤ o)
  · obtain ⟨o, ho, rfl⟩ := inN h.1 (by omega)
    obtain ⟨a, ha, rfl⟩ := inNc (n := o) _ rfl h.2 (by omega)
    exact jo_t hI (cgraft_t hI.1.1 hI.2.1 o a ho ha) (fun M1 e => by rw [← e]; exact mgraft_t n o a M1 (by rw [e]; exact hI.1.1) ho ha) (TW_up hI.1 (WF_on hI.1.1 ha) (fun q _ => ⟨by omega, by omega⟩) (by omega))
  · exact jo_f hI (cgraft_f o v M n _ hI.1.1 hI.2.1 h) (mgraft_f o v M n hI.1.1 h)
theorem op_cut (hI : IV M n) (o : Int32) : JO mX5_cut mX6_cut [.int o] M := by
  have h8 := hI.1.1.2.1
  by_cases h : 0 ≤ o ∧ o < nI n
  · obtain ⟨o, ho, rfl⟩ := inN h (by omega)
    by_cases hc : M.1 47 (8 + 6 * o + 4) = 1
    · exact jo_f hI (ccut_n hI.1.1 hI.2.1 o ho hc) (mcut_n n o M hI.1.1 ho hc)
    · exact jo_t hI (ccut_t hI.1.1 hI.2.1 o ho hc) (fun M1 e => by rw [← e]; exact mcut_t n o M1 (by rw [e]; exact hI.1.1) ho (by rw [e]; exact hc)) (TW_cut hI.1 o)
  · exact jo_f hI (ccut_f o M n _ hI.1.1 hI.2.1 h) (mcut_f o M n hI.1.1 h)
theorem op_back (hI : IV M n) (o : Int32) : JO mX5_back mX6_back [.int o] M := by
  have h8 := hI.1.1.2.1
  by_cases h : 0 ≤ o ∧ o < nI n
  · obtain ⟨o, ho, rfl⟩ := inN h (by omega)
    by_cases hc : M.1 47 (8 + 6 * o + 4) = 1 ∧ ¬ 6 ≤ M.1 47 (8 + 6 * o + 5)
    · exact jo_t hI (cback_t hI.1.1 hI.2.1 o ho hc) (fun M1 e => by rw [← e]; exact mback_t n o M1 (by rw [e]; exact hI.1.1) ho (by rw [e]; exact hc)) (TW_cb hI.1 o)
    · exact jo_f hI (cback_n hI.1.1 hI.2.1 o ho hc) (mback_n n o M hI.1.1 ho hc)
  · exact jo_f hI (cback_f o M n _ hI.1.1 hI.2.1 h) (mback_f o M n hI.1.1 h)
theorem op_years (hI : IV M n) (v : Int32) : JO mX5_years mX6_years [.int v] M := by
  by_cases h : 1 ≤ v ∧ v ≤ 60
  · obtain ⟨y, hy, rfl⟩ := inNc (n := 60) 60 rfl ⟨Int32.le_trans (by decide) h.1, h.2⟩ (by decide)
    have h1 : 1 ≤ y := (nI_leI (a := 1) (by decide) (by omega)).mp h.1
    exact jo_t hI (cyears_t hI.1.1 hI.1.2.1 hI.2.1 y h1 hy) (fun M1 e => by rw [← e]; exact myears_t n y M1 (by rw [e]; exact hI.1.1) h1 hy) (TW_yrs hI.1 y)
  · exact jo_f hI (cyears_f v M n _ hI.1.1 hI.2.1 h) (myears_f v M n hI.1.1 h)
theorem op_seed (hI : IV M n) (v : Int32) : JO mX5_seed mX6_seed [.int v] M :=
  jo_t hI (cseed_c hI.2.1 v) (fun M1 e => by rw [← e]; exact mseed_ok v M1) (TW_up hI.1 (WF_z hI.1.1 _ (by omega) (by omega)) (fun q _ => ⟨by omega, by omega⟩) (by omega))
theorem op_year (hI : IV M n) : JO mX5_year mX6_year [] M :=
  jo_t hI (cyear_c hI.1.1 hI.1.2.1 hI.2.1) (fun M1 e => by rw [← e]; exact myear_ok n M1 (by rw [e]; exact hI.1.1)) (TW_year hI.1)
theorem one_to {v : Int32} {m : Nat} (mI : Int32) (hm : mI = nI m) (hm2 : m < 1000) (h : 1 ≤ v ∧ v ≤ mI) : ∃ y, 1 ≤ y ∧ y ≤ m ∧ v = nI y := by
  obtain ⟨y, hy, rfl⟩ := inNc (n := m) mI hm ⟨Int32.le_trans (by decide) h.1, h.2⟩ (by omega)
  exact ⟨y, (nI_leI (a := 1) (by decide) (by omega)).mp h.1, hy, rfl⟩
theorem op_winters (hI : IV M n) (v : Int32) : JO mX5_winters mX6_winters [.int v] M := by
  by_cases h : 1 ≤ v ∧ v ≤ 30
  · obtain ⟨y, h1, hy, rfl⟩ := one_to (m := 30) 30 rfl (by decide) h
    exact jo_r hI (cwinters_t hI.1.1 hI.1.2.1 hI.2.1 y h1 hy) (fun M1 e => by rw [← e]; exact Rs_a (mwinters_t n y M1 (by rw [e]; exact hI.1.1) h1 hy))
  · exact jo_f hI (cwinters_f v M n _ hI.1.1 hI.2.1 h) (mwinters_f v M n hI.1.1 h)
theorem op_state (hI : IV M n) (w : Int32) : JO mX5_state mX6_state [.int w] M :=
  jo_r hI (cstate_c hI.1.1 hI.2.1 w) (fun M1 e => by rw [← e]; exact Rs_0 (mstate_ok n w M1 (by rw [e]; exact hI.1.1)))
theorem op_harvest (hI : IV M n) (v : Int32) : JO mX5_harvest mX6_harvest [.int v] M := by
  by_cases h : 0 ≤ v ∧ v ≤ 60
  · obtain ⟨y, hy, rfl⟩ := inNc (n := 60) 60 rfl h (by decide)
    exact jo_r hI (charvest_t hI.1.1 hI.1.2.1 hI.2.1 y hy) (fun M1 e => by rw [← e]; exact Rs_a (mharvest_t n y M1 (by rw [e]; exact hI.1.1) hy))
  · exact jo_f hI (charvest_f v M n _ hI.1.1 hI.2.1 h) (mharvest_f v M n hI.1.1 h)
theorem op_bare (hI : IV M n) : JO mX5_bare mX6_bare [] M :=
  jo_r hI (cbare_c hI.1.1 hI.1.2.1 hI.2.1) (fun M1 e => by rw [← e]; exact Rs_a (mbare_ok n M1 (by rw [e]; exact hI.1.1)))
theorem op_ripe (hI : IV M n) (o : Int32) : JO mX5_ripe mX6_ripe [.int o] M := by
  have h8 := hI.1.1.2.1
  by_cases h : 0 ≤ o ∧ o < nI n
  · obtain ⟨o, ho, rfl⟩ := inN h (by omega)
    exact jo_r hI (cripe_t hI.1.1 hI.1.2.1 hI.2.1 o ho) (fun M1 e => by rw [← e]; exact Rs_a (mripe_t n o M1 (by rw [e]; exact hI.1.1) ho))
  · exact jo_f hI (cripe_f o M n _ hI.1.1 hI.2.1 h) (mripe_f o M n hI.1.1 h)
theorem op_cutFor (hI : IV M n) (v : Int32) : JO mX5_cutFor mX6_cutFor [.int v] M := by
  by_cases h : 1 ≤ v ∧ v ≤ 20
  · obtain ⟨y, h1, hy, rfl⟩ := one_to (m := 20) 20 rfl (by decide) h
    exact jo_r hI (ccutFor_t hI.1.1 hI.1.2.1 hI.1.2.2 hI.2.1 y h1 hy) (fun M1 e => by rw [← e]; exact Rs_a (mcutFor_t n y M1 (by rw [e]; exact hI.1.1) h1 hy))
  · exact jo_f hI (ccutFor_f v M n _ hI.1.1 hI.2.1 h) (mcutFor_f v M n hI.1.1 h)
theorem op_cutsFor (hI : IV M n) (v : Int32) : JO mX5_cutsFor mX6_cutsFor [.int v] M := by
  by_cases h : 1 ≤ v ∧ v ≤ 10
  · obtain ⟨y, h1, hy, rfl⟩ := one_to (m := 10) 10 rfl (by decide) h
    exact jo_r hI (ccutsFor_t hI.1.1 hI.1.2.1 hI.1.2.2 hI.2.1 y h1 hy) (fun M1 e => by rw [← e]; exact mcutsFor_t n y M1 (by rw [e]; exact hI.1.1) h1 hy)
  · exact jo_f hI (ccutsFor_f v M n _ hI.1.1 hI.2.1 h) (mcutsFor_f v M n hI.1.1 h)
theorem op_kindFor (hI : IV M n) (o v : Int32) : JO mX5_kindFor mX6_kindFor [.int o, .int v] M := by
  have h8 := hI.1.1.2.1
  by_cases h : (0 ≤ o ∧ o < nI n) ∧ (1 ≤ v ∧ v ≤ 20)
  · obtain ⟨o, ho, rfl⟩ := inN h.1 (by omega)
    obtain ⟨y, h1, hy, rfl⟩ := one_to (m := 20) 20 rfl (by decide) h.2
    exact jo_r hI (ckindFor_t hI.1.1 hI.1.2.1 hI.2.1 o y ho h1 hy) (fun M1 e => by rw [← e]; exact mkindFor_t n o y M1 (by rw [e]; exact hI.1.1) ho h1 hy)
  · exact jo_f hI (ckindFor_f o v M n _ hI.1.1 hI.2.1 h) (mkindFor_f o v M n hI.1.1 h)
theorem op_forceFor (hI : IV M n) (o v w : Int32) : JO mX5_forceFor mX6_forceFor [.int o, .int v, .int w] M := by
  have h8 := hI.1.1.2.1
  by_cases h : (0 ≤ o ∧ o < nI n) ∧ (1 ≤ v ∧ v ≤ 20) ∧ (0 ≤ w ∧ w ≤ 9999)
  · obtain ⟨o, ho, rfl⟩ := inN h.1 (by omega)
    obtain ⟨y, h1, hy, rfl⟩ := one_to (m := 20) 20 rfl (by decide) h.2.1
    exact jo_r hI (cforceFor_t hI.1.1 hI.1.2.1 hI.2.1 o y w ho h1 hy h.2.2) (fun M1 e => by rw [← e]; exact mforceFor_t n o y w M1 (by rw [e]; exact hI.1.1) ho h1 hy h.2.2)
  · exact jo_f hI (cforceFor_f o v w M n _ hI.1.1 hI.2.1 h) (mforceFor_f o v w M n hI.1.1 h)
theorem op_regret (hI : IV M n) (o v : Int32) : JO mX5_regret mX6_regret [.int o, .int v] M := by
  have h8 := hI.1.1.2.1
  by_cases h : (0 ≤ o ∧ o < nI n) ∧ (1 ≤ v ∧ v ≤ 20)
  · obtain ⟨o, ho, rfl⟩ := inN h.1 (by omega)
    obtain ⟨y, h1, hy, rfl⟩ := one_to (m := 20) 20 rfl (by decide) h.2
    by_cases hc : M.1 47 (8 + 6 * o + 4) = 1 ∧ ¬ 6 ≤ M.1 47 (8 + 6 * o + 5)
    · exact jo_r hI (cregret_t hI.1.1 hI.1.2.1 hI.2.1 o y ho h1 hy hc) (fun M1 e => by rw [← e]; exact mregret_t n o y M1 (by rw [e]; exact hI.1.1) ho h1 hy (by rw [e]; exact hc))
    · exact jo_f hI (cregret_n hI.1.1 hI.2.1 o y ho h1 hy hc) (mregret_n n o y M hI.1.1 ho h1 hy hc)
  · exact jo_f hI (cregret_f o v M n _ hI.1.1 hI.2.1 h) (mregret_f o v M n hI.1.1 h)
theorem op_freeFor (hI : IV M n) (o v : Int32) : JO mX5_freeFor mX6_freeFor [.int o, .int v] M := by
  have h8 := hI.1.1.2.1
  by_cases h : (0 ≤ o ∧ o < nI n) ∧ (0 ≤ v ∧ v ≤ 99)
  · obtain ⟨o, ho, rfl⟩ := inN h.1 (by omega)
    exact jo_r hI (cfreeFor_t hI.1.1 hI.2.1 o v ho h.2) (fun M1 e => by rw [← e]; exact mfreeFor_t n o v M1 (by rw [e]; exact hI.1.1) ho h.2)
  · exact jo_f hI (cfreeFor_f o v M n _ hI.1.1 hI.2.1 h) (mfreeFor_f o v M n hI.1.1 h)
theorem op_odds (hI : IV M n) (a k p : Int32) : JOl mX5_odds mX6_odds [.int a, .int k, .int p] M := by
  obtain ⟨f, hf, ef⟩ := hI.1.2.2.2.2.2
  by_cases h : (0 ≤ a ∧ a ≤ 8) ∧ (0 ≤ k ∧ k ≤ a) ∧ (0 ≤ p ∧ p ≤ 1)
  · obtain ⟨a, ha, rfl⟩ := inNc (n := 8) 8 rfl h.1 (by decide)
    obtain ⟨k, hk, rfl⟩ := inNc (n := a) _ rfl h.2.1 (by omega)
    obtain ⟨p, hp, rfl⟩ := inNc (n := 1) 1 rfl h.2.2 (by decide)
    exact jo_fl hI (codds_t a k p f M hI.2.1 ha hk hp hf ef) (modds_t a k p f M ha hk hp hf ef)
  · exact jo_fl hI (codds_f a k p M h) (modds_f a k p M n hI.1.1 h)
theorem op_hope (hI : IV M n) (a p : Int32) : JOl mX5_hope mX6_hope [.int a, .int p] M := by
  obtain ⟨f, hf, ef⟩ := hI.1.2.2.2.2.2
  by_cases h : (0 ≤ a ∧ a ≤ 99) ∧ (0 ≤ p ∧ p ≤ 1)
  · obtain ⟨a, ha, rfl⟩ := inNc (n := 99) 99 rfl h.1 (by decide)
    obtain ⟨p, hp, rfl⟩ := inNc (n := 1) 1 rfl h.2 (by decide)
    exact jo_fl hI (chope_t a p f M hI.2.1 ha hp hf ef) (mhope_t a p f M ha hp hf ef)
  · exact jo_fl hI (chope_f a p M h) (mhope_f a p M n hI.1.1 h)
end OP

