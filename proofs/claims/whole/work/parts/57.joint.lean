/-! class and model: shelves, acts, what is kept, the tape -/
section O7
variable {M : Mm} {n : Nat}
theorem sv_fin (hI : IV M n) {M2 : Mm} {h : Nat} (eq : ∀ c, c ∉ [40, 41, 42, 43, 56, 57, 58] → M2.1 c = M.1 c) (e2 : M2.2 = M.2) (a : ∀ c, c ∈ [40, 41, 42, 43, 56, 57, 58] → ∀ h', h' ≠ h → M2.1 c h' = M.1 c h') (new : RSh M2 h) : IV M2 n := by
  obtain ⟨hT, hx, kp, tp, rw', sh, sv, tc⟩ := id hI
  have e0 := eq 0 (by decide)
  have e46 := eq 46 (by decide)
  exact IV_parts hI _ eq (fun c a b => by simp; omega) (by decide) (Kp_l eq (by rw [e0]) (by rw [e46]) (fun c a b => by simp; omega) (by decide) kp) (Tp_of (by rw [eq 28 (by decide)]) (by rw [e46]) (eq 29 (by decide)) (eq 51 (by decide)) tp) (Rw_of (by rw [e0]) (by rw [e46]) (eq 30 (by decide)) (eq 52 (by decide)) rw') (Sh_of (eq 37 (by decide)) (eq 38 (by decide)) (eq 53 (by decide)) (eq 54 (by decide)) (eq 55 (by decide)) e2 sh) (Sv_set a new sv) (Tc_of (by rw [eq 44 (by decide)]) (by rw [e46]) (eq 45 (by decide)) (eq 59 (by decide)) tc)
theorem sl_0 (h : Nat) (v : Int32) : slM M h 0 v = u1 (u1 (u1 M 56 h 1) 57 h v) 58 h 0 := by
  have e : srB M 0 v = false := by unfold srB; exact decide_eq_false (fun q => absurd q.1 (by decide))
  unfold slM
  rw [e]
  rfl
theorem sl_n (h : Nat) (w v : Int32) (hw : ¬ w = 0) (e : srB M w v = false) : slM M h w v = u1 (u1 (u1 M 56 h 0) 57 h 0) 58 h 0 := by
  unfold slM
  rw [e, if_neg hw, if_neg hw]
  rfl
theorem sl_1 (h t : Nat) (ht : t < 4) (e : 0 ≤ M.1 53 t) : slM M h 1 (nI t) = u1 (u1 (u1 M 56 h 2) 57 h (M.1 53 t)) 58 h (M.1 54 t) := by
  have e1 : srB M 1 (nI t) = true := by unfold srB; rw [nI_clamp (by omega)]; exact decide_eq_true ⟨rfl, e⟩
  unfold slM
  rw [e1, nI_clamp (by omega)]
  simp only [if_true, show ¬ ((1 : Int32) = 0) by decide, if_false]
theorem op_shelf (hI : IV M n) (h w v : Int32) : JO mX5_shelf mX6_shelf [.int h, .int w, .int v] M := by
  by_cases hb : shB n h w v
  · obtain ⟨h, hh, rfl⟩ := inNc (n := 3) 3 rfl hb.1 (by decide)
    obtain ⟨b, hb2, rfl⟩ := inNc (n := 2) 2 rfl hb.2.1 (by decide)
    obtain ⟨hT, hx, kp, tp, rw', sh, sv, tc⟩ := id hI
    have nothing : ∀ w v : Int32, ¬ w = 0 → srB (u1 M 40 h 0) w v = false → IV (slM (u1 M 40 h 0) h w v) n := by
      intro w v hw e
      rw [sl_n h w v hw e]
      refine sv_fin (h := h) hI (fun c hc => ?_) rfl (fun c hc h' q => ?_) ⟨?_, Or.inl ?_⟩
      · simp at hc
        rw [u1_o _ _ _ _ hc.2.2.2.2.2.2, u1_o _ _ _ _ hc.2.2.2.2.2.1, u1_o _ _ _ _ hc.2.2.2.2.1, u1_o _ _ _ _ hc.1]
      · rw [u1_x (Or.inr q), u1_x (Or.inr q), u1_x (Or.inr q), u1_x (Or.inr q)]
      · simp [u1]
      · simp [u1]
    rcases (show b = 0 ∨ b = 1 ∨ b = 2 by omega) with rfl | rfl | rfl
    · have hv := hb.2.2.1 rfl
      have h1 := shelf_0 (M := M) hT.1 hx h v (by omega) hv
      have m1 := mshelf_t h n 0 v (u1 (u1 M 40 h 1) 41 h v) (by rw [u1_o _ _ _ _ (by decide), u1_o _ _ _ _ (by decide)]; exact hT.1) (by omega) hb
      refine jo_x h1 m1 (n := n) ?_
      rw [sl_0]
      refine sv_fin (h := h) hI (fun c hc => ?_) rfl (fun c hc h' q => ?_) ⟨?_, Or.inr (Or.inl ⟨?_, ?_⟩)⟩
      · simp at hc
        rw [u1_o _ _ _ _ hc.2.2.2.2.2.2, u1_o _ _ _ _ hc.2.2.2.2.2.1, u1_o _ _ _ _ hc.2.2.2.2.1, u1_o _ _ _ _ hc.2.1, u1_o _ _ _ _ hc.1]
      · rw [u1_x (Or.inr q), u1_x (Or.inr q), u1_x (Or.inr q), u1_x (Or.inr q), u1_x (Or.inr q)]
      · simp [u1]
      · simp [u1]
      · simp [u1]
    · obtain ⟨t, ht, rfl⟩ := inNc (n := 3) 3 rfl (hb.2.2.2 rfl) (by decide)
      have s1 := sh t (by omega)
      by_cases hp : M.1 53 t < 0
      · have h1 := shelf_1n (M := M) h t (by omega) (by omega) (by rw [sh_m s1]; exact hp)
        have m1 := mshelf_t h n 1 (nI t) (u1 M 40 h 0) (by rw [u1_o _ _ _ _ (by decide)]; exact hT.1) (by omega) hb
        refine jo_x h1 m1 (nothing _ _ (by decide) ?_)
        unfold srB
        rw [nI_clamp (by omega), u1_o _ _ _ _ (by decide)]
        exact decide_eq_false (fun q => absurd q.2 (Int32.not_le.mpr hp))
      · have h1 := shelf_1 (M := M) h t (by omega) (by omega) (by rw [sh_m s1]; exact hp)
        have m1 := mshelf_t h n 1 (nI t) (u1 (u1 (u1 M 40 h 2) 42 h (M.1 37 t)) 43 h (M.1 38 t)) (by rw [u1_o _ _ _ _ (by decide), u1_o _ _ _ _ (by decide), u1_o _ _ _ _ (by decide)]; exact hT.1) (by omega) hb
        obtain ⟨z, hz, e38, e54, hd⟩ := sh_p s1 hp
        have se := sh_eq s1
        have rng : 0 ≤ M.1 53 t ∧ M.1 53 t ≤ 3 := by
          rcases s1.2.2 with ⟨x, y⟩ | ⟨x, y, -⟩
          · rw [y] at hp; exact absurd (by decide) hp
          · exact y
        refine jo_x h1 m1 (n := n) ?_
        have f53 : (u1 (u1 (u1 M 40 h 2) 42 h (M.1 37 t)) 43 h (M.1 38 t)).1 53 = M.1 53 := by rw [u1_o _ _ _ _ (by decide), u1_o _ _ _ _ (by decide), u1_o _ _ _ _ (by decide)]
        have f54 : (u1 (u1 (u1 M 40 h 2) 42 h (M.1 37 t)) 43 h (M.1 38 t)).1 54 = M.1 54 := by rw [u1_o _ _ _ _ (by decide), u1_o _ _ _ _ (by decide), u1_o _ _ _ _ (by decide)]
        rw [sl_1 h t (by omega) (by rw [f53]; exact rng.1), f53, f54]
        refine sv_fin (h := h) hI (fun c hc => ?_) rfl (fun c hc h' q => ?_) ⟨?_, Or.inr (Or.inr ⟨?_, ?_, ?_, ?_⟩)⟩
        · simp at hc
          rw [u1_o _ _ _ _ hc.2.2.2.2.2.2, u1_o _ _ _ _ hc.2.2.2.2.2.1, u1_o _ _ _ _ hc.2.2.2.2.1, u1_o _ _ _ _ hc.2.2.2.1, u1_o _ _ _ _ hc.2.2.1, u1_o _ _ _ _ hc.1]
        · rw [u1_x (Or.inr q), u1_x (Or.inr q), u1_x (Or.inr q), u1_x (Or.inr q), u1_x (Or.inr q), u1_x (Or.inr q)]
        · simp [u1]
        · simp [u1]
        · simp [u1, se]
        · simp [u1, e38, e54]
        · simp [u1]; exact rng
    · have h1 := shelf_2 (M := M) h v (by omega)
      have m1 := mshelf_t h n 2 v (u1 M 40 h 0) (by rw [u1_o _ _ _ _ (by decide)]; exact hT.1) (by omega) hb
      refine jo_x h1 m1 (nothing _ _ (by decide) ?_)
      unfold srB
      exact decide_eq_false (fun q => absurd q.1 (by decide))
  · exact jo_f hI (cshelf_f hI.1.1 hI.2.1 h w v hb) (mshelf_f h w v M n hI.1.1 hb)
theorem lock : ∀ (l : List Int32) (A B : Mm), A.1 44 1 = B.1 46 21 → A.1 45 = B.1 59 → (ncL A l).1 44 1 = (ntL B l).1 46 21 ∧ (ncL A l).1 45 = (ntL B l).1 59 := by
  intro l
  induction l with
  | nil => intro A B h1 h2; exact ⟨h1, h2⟩
  | cons b l ih =>
    intro A B h1 h2
    refine ih (ncM A b) (ntM B b) ?_ ?_
    · unfold ncM ntM
      rw [h1]
      split
      · rw [u1_at, u1_at]
      · exact h1
    · unfold ncM ntM
      rw [h1]
      split
      · rw [u1_o _ _ _ _ (show (45 : Nat) ≠ 44 by decide), u1_o _ _ _ _ (show (59 : Nat) ≠ 46 by decide)]
        funext j
        simp [u1, h2]
      · exact h2
theorem ntL_o (l : List Int32) (B : Mm) {c : Nat} (h : c ≠ 46) (h2 : c ≠ 59) : (ntL B l).1 c = B.1 c := by
  induction l generalizing B with
  | nil => rfl
  | cons b l ih => exact (ih (ntM B b)).trans (nt_o B b h h2)
theorem ntL_2 (l : List Int32) (B : Mm) : (ntL B l).2 = B.2 := by
  induction l generalizing B with
  | nil => rfl
  | cons b l ih =>
    refine (ih (ntM B b)).trans ?_
    unfold ntM
    split <;> rfl
theorem tc_fin (hI : IV M n) {M2 : Mm} (eq : ∀ c, c ∉ [44, 45, 46, 59] → M2.1 c = M.1 c) (e2 : M2.2 = M.2) (e46 : ∀ k, k < 21 → M2.1 46 k = M.1 46 k) (tc : Tc M2) : IV M2 n := by
  obtain ⟨hT, hx, kp, tp, rw', sh, sv, -⟩ := id hI
  have e0 := eq 0 (by decide)
  exact IV_parts hI _ eq (fun c a b => by simp; omega) (by decide) (Kp_l eq (by rw [e0]) (e46 4 (by decide)) (fun c a b => by simp; omega) (by decide) kp) (Tp_of (by rw [eq 28 (by decide)]) (e46 6 (by decide)) (eq 29 (by decide)) (eq 51 (by decide)) tp) (Rw_of (by rw [e0]) (e46 13 (by decide)) (eq 30 (by decide)) (eq 52 (by decide)) rw') (Sh_of (eq 37 (by decide)) (eq 38 (by decide)) (eq 53 (by decide)) (eq 54 (by decide)) (eq 55 (by decide)) e2 sh) (Sv_of (eq 40 (by decide)) (eq 41 (by decide)) (eq 42 (by decide)) (eq 43 (by decide)) (eq 56 (by decide)) (eq 57 (by decide)) (eq 58 (by decide)) sv) tc
theorem act_0 (hI : IV M n) : IV (u1 (u1 (u1 M 44 1 0) 44 2 0) 46 21 0) n := by
  refine tc_fin hI (fun c hc => ?_) rfl (fun k hk => ?_) ⟨⟨0, by omega, ?_, ?_⟩, ?_⟩
  · simp at hc
    rw [u1_o _ _ _ _ hc.2.2.1, u1_o _ _ _ _ hc.1, u1_o _ _ _ _ hc.1]
  · rw [u1_x (Or.inr (by omega)), u1_o _ _ _ _ (by decide), u1_o _ _ _ _ (by decide)]
  · simp [u1, nI_0]
  · simp [u1, nI_0]
  · rw [u1_o _ _ _ _ (by decide), u1_o _ _ _ _ (by decide), u1_o _ _ _ _ (by decide), u1_o _ _ _ _ (by decide), u1_o _ _ _ _ (by decide), u1_o _ _ _ _ (by decide)]
    exact hI.2.2.2.2.2.2.2.2
theorem op_act (hI : IV M n) (h act x : Int32) : JO mX5_act mX6_act [.int h, .int act, .int x] M := by
  have h8 := hI.1.1.2.1
  by_cases hb : (0 ≤ h ∧ h ≤ 3) ∧ (0 ≤ act ∧ act ≤ 3)
  · obtain ⟨h, hh, rfl⟩ := inNc (n := 3) 3 rfl hb.1 (by decide)
    have sv := hI.2.2.2.2.2.2.1 h (by omega)
    by_cases hs : hoS M n h = 1
    · obtain ⟨o, ho, eo⟩ := ho_1 (by omega) hs
      have h1 := cact_t hI.1.1 hI.2.1 h o act x (by omega) hb.2 sv hs ho eo
      generalize hk : M.1 47 (8 + 6 * o) = k at h1
      generalize hf : M.1 47 (8 + 6 * o + 2) = a at h1
      have so : ∀ c, c ∉ [44, 45] → (spM (ncL (acC M k (nI o) a) (acL act k (nI o) a)) (acP act k (nI o) a)).1 c = M.1 c := by
        intro c hc
        simp at hc
        have e : (ncL (acC M k (nI o) a) (acL act k (nI o) a)).1 c = M.1 c := by
          rw [ncL_o _ _ hc.1 hc.2]
          unfold acC
          rw [u1_o _ _ _ _ hc.1, u1_o _ _ _ _ hc.1, u1_o _ _ _ _ hc.1, u1_o _ _ _ _ hc.1, u1_o _ _ _ _ hc.1]
        unfold spM
        split
        · rw [u1_o _ _ _ _ hc.1]; exact e
        · exact e
      have s2 : (spM (ncL (acC M k (nI o) a) (acL act k (nI o) a)) (acP act k (nI o) a)).2 = M.2 := by
        unfold spM
        split
        · exact ncL_2 _ _
        · exact ncL_2 _ _
      have s44 : (spM (ncL (acC M k (nI o) a) (acL act k (nI o) a)) (acP act k (nI o) a)).1 44 1 = (ncL (acC M k (nI o) a) (acL act k (nI o) a)).1 44 1 := by
        unfold spM
        split
        · rw [u1_x (Or.inr (by decide))]
        · rfl
      have s45 : (spM (ncL (acC M k (nI o) a) (acL act k (nI o) a)) (acP act k (nI o) a)).1 45 = (ncL (acC M k (nI o) a) (acL act k (nI o) a)).1 45 := by
        unfold spM
        split
        · rw [u1_o _ _ _ _ (by decide)]
        · rfl
      have cc := (PS_L (acL act k (nI o) a) (acC_PS M k (nI o) a)).1
      generalize hM1 : spM (ncL (acC M k (nI o) a) (acL act k (nI o) a)) (acP act k (nI o) a) = M1 at *
      have e47 := so 47 (by decide)
      have hs1 : hoS M1 n h = 1 := by unfold hoS; rw [so 56 (by decide), so 57 (by decide)]; exact hs
      have m1 := mact_t h n o act x M1 (by rw [e47]; exact hI.1.1) (by omega) hb.2 hs1 ho (by rw [so 57 (by decide)]; exact eo)
      rw [e47, hk, hf] at m1
      refine jo_x h1 m1 (n := n) ?_
      have lk := lock (acL act k (nI o) a) (acC M k (nI o) a) (acM M1 k (nI o) a) (by simp [acC, acM, pdM, u1]) (by
        unfold acC acM pdM
        rw [u1_o _ _ _ _ (by decide), u1_o _ _ _ _ (by decide), u1_o _ _ _ _ (by decide), u1_o _ _ _ _ (by decide), u1_o _ _ _ _ (by decide), u1_o _ _ _ _ (by decide), u1_o _ _ _ _ (by decide), u1_o _ _ _ _ (by decide), u1_o _ _ _ _ (by decide), u1_o _ _ _ _ (by decide), so 59 (by decide)]
        exact hI.2.2.2.2.2.2.2.2)
      obtain ⟨c, hc, ec⟩ := cc
      refine tc_fin hI (fun c hc => ?_) ?_ (fun q hq => ?_) ⟨⟨c, hc, ?_, ?_⟩, ?_⟩
      · simp at hc
        unfold pdM
        rw [u1_o _ _ _ _ hc.2.2.1, ntL_o _ _ hc.2.2.1 hc.2.2.2]
        unfold acM pdM
        rw [u1_o _ _ _ _ hc.2.2.1, u1_o _ _ _ _ hc.2.2.1, u1_o _ _ _ _ hc.2.2.1, u1_o _ _ _ _ hc.2.2.1, u1_o _ _ _ _ hc.2.2.1]
        exact so c (by simp; exact ⟨hc.1, hc.2.1⟩)
      · exact (ntL_2 _ _).trans s2
      · rw [pd_f _ _ (by omega), ntL_f _ _ (by omega)]
        unfold acM pdM
        rw [u1_x (Or.inr (by omega)), u1_x (Or.inr (by omega)), u1_x (Or.inr (by omega)), u1_x (Or.inr (by omega)), u1_x (Or.inr (by omega)), so 46 (by decide)]
      · unfold pdM
        rw [u1_o _ _ _ _ (by decide), ntL_o _ _ (by decide) (by decide)]
        unfold acM pdM
        rw [u1_o _ _ _ _ (by decide), u1_o _ _ _ _ (by decide), u1_o _ _ _ _ (by decide), u1_o _ _ _ _ (by decide), u1_o _ _ _ _ (by decide), s44]
        exact ec
      · rw [pd_f _ _ (by decide), ← lk.1]
        exact ec
      · unfold pdM
        rw [u1_o _ _ _ _ (by decide), u1_o _ _ _ _ (by decide), ← lk.2, ntL_o _ _ (by decide) (by decide)]
        unfold acM pdM
        rw [u1_o _ _ _ _ (by decide), u1_o _ _ _ _ (by decide), u1_o _ _ _ _ (by decide), u1_o _ _ _ _ (by decide), u1_o _ _ _ _ (by decide), s45]
    · have e56 : hoS (u1 (u1 M 44 1 0) 44 2 0) n h = hoS M n h := by rw [hoS_44, hoS_44]
      exact jo_x (cact_n hI.1.1 hI.2.1 h act x (by omega) hb.2 sv hs) (mact_n h n act x (u1 (u1 M 44 1 0) 44 2 0) (by rw [u1_o _ _ _ _ (by decide), u1_o _ _ _ _ (by decide)]; exact hI.1.1) (by omega) (by rw [e56]; exact hs)) (act_0 hI)
  · exact jo_x (cact_f h act x hb) (mact_f h act x _ hb) (act_0 hI)
theorem op_keep (hI : IV M n) : JO mX5_keep mX6_keep [] M := by
  refine ⟨_, ⟨1, rfl⟩, 2, 0, by decide, by decide, K.mono (ckeep_c hI.1.1 hI.2.1) ?_⟩
  rintro r M1 ⟨rfl, a, b, c, d, f⟩
  refine ⟨rfl, K.mono (mkeep_ok M1) ?_⟩
  rintro r M2 ⟨rfl, rfl⟩
  have e47 := d 47 (by decide) (by decide)
  have eq : ∀ c, c ∉ [0, 19, 20, 21, 22, 23, 24, 25, 26, 27, 46, 48] → (u1 (su M1 48 (cpN (M1.1 47) (M1.1 48) 56)) 46 4 1).1 c = M.1 c := by
    intro c hc
    simp at hc
    rw [u1_o _ _ _ _ (by omega), su_ne _ _ _ _ (by omega)]
    exact d c (by omega) (by omega)
  have q0 : ∀ k, k ≠ 3 → (u1 (su M1 48 (cpN (M1.1 47) (M1.1 48) 56)) 46 4 1).1 0 k = M.1 0 k := fun k hk => by
    rw [u1_o _ _ _ _ (by decide), su_ne _ _ _ _ (by decide)]; exact b k hk
  have q03 : (u1 (su M1 48 (cpN (M1.1 47) (M1.1 48) 56)) 46 4 1).1 0 3 = 1 := by
    rw [u1_o _ _ _ _ (by decide), su_ne _ _ _ _ (by decide)]; exact c
  have q46 : ∀ k, k ≠ 4 → (u1 (su M1 48 (cpN (M1.1 47) (M1.1 48) 56)) 46 4 1).1 46 k = M.1 46 k := fun k hk => by
    rw [u1_x (Or.inr hk), su_ne _ _ _ _ (by decide), d 46 (by decide) (by decide)]
  have q464 : (u1 (su M1 48 (cpN (M1.1 47) (M1.1 48) 56)) 46 4 1).1 46 4 = 1 := u1_at _ _ _ _
  have q48 : (u1 (su M1 48 (cpN (M1.1 47) (M1.1 48) 56)) 46 4 1).1 48 = cpN (M.1 47) (M1.1 48) 56 := by
    rw [u1_o _ _ _ _ (by decide), su_at, e47]
  have q19 : ∀ i, i ≤ 6 → (u1 (su M1 48 (cpN (M1.1 47) (M1.1 48) 56)) 46 4 1).1 (19 + i) = M1.1 (19 + i) := fun i hi => by
    rw [u1_o _ _ _ _ (by omega), su_ne _ _ _ _ (by omega)]
  have q2 : (u1 (su M1 48 (cpN (M1.1 47) (M1.1 48) 56)) 46 4 1).2 = M.2 := f
  generalize u1 (su M1 48 (cpN (M1.1 47) (M1.1 48) 56)) 46 4 1 = M2 at *
  obtain ⟨hT, hx, kp, tp, rw', sh, sv, tc⟩ := id hI
  have cg : ∀ j, j < 56 → M.1 47 j = M2.1 48 j := fun j hj => by rw [q48]; simp [cpN, hj]
  refine ⟨rfl, n, IV_parts hI _ eq (fun c a b => by simp; omega) (by decide) ?_ (Tp_of (by rw [eq 28 (by decide)]) (q46 6 (by decide)) (eq 29 (by decide)) (eq 51 (by decide)) tp) (Rw_of (q0 6 (by decide)) (q46 13 (by decide)) (eq 30 (by decide)) (eq 52 (by decide)) rw') (Sh_of (eq 37 (by decide)) (eq 38 (by decide)) (eq 53 (by decide)) (eq 54 (by decide)) (eq 55 (by decide)) q2 sh) (Sv_of (eq 40 (by decide)) (eq 41 (by decide)) (eq 42 (by decide)) (eq 43 (by decide)) (eq 56 (by decide)) (eq 57 (by decide)) (eq 58 (by decide)) sv) (Tc_of (by rw [eq 44 (by decide)]) (q46 21 (by decide)) (eq 45 (by decide)) (eq 59 (by decide)) tc)⟩
  refine Or.inr ⟨by rw [q03]; decide, by rw [q464]; decide, n, TW_congr cg hT, RX_of (RX_congr cg hT.1.2.1 a) q19⟩
theorem op_again (hI : IV M n) : JO mX5_again mX6_again [] M := by
  rcases hI.2.2.1 with ⟨a, b⟩ | ⟨a, b, k, c, d⟩
  · exact jo_f hI (cagain_n a) (magain_n M b)
  · have cg : ∀ j, j < 56 → M.1 48 j = cpN (M.1 48) (M.1 47) 56 j := fun j hj => by simp [cpN, hj]
    refine jo_ta (rm := 0) (s' := cpN (M.1 48) (M.1 47) 56) (n' := k) hI (K.mono (cagain_t a c.1 d) (fun r M' q => ⟨q.1, RX_congr cg c.1.2.1 q.2.1, q.2.2⟩)) (fun M1 f => ?_) (TW_congr cg c)
    have := magain_t M1 (by rw [f.1 46 (by omega)]; exact b)
    rw [f.1 48 (by omega), f.1 47 (by omega), c.1.1] at this
    exact this
theorem op_feed (hI : IV M n) (e : Int64) (k : Int32) : JO mX5_feed mX6_feed [.long e, .int k] M := by
  obtain ⟨t, L, tP, t28, t29⟩ := hI.2.2.2.1
  by_cases h : 1 ≤ k ∧ k ≤ 8
  · obtain ⟨k, h1, h8, rfl⟩ := one_to (m := 8) 8 rfl (by decide) h
    have hL := tP.2.1
    rcases Nat.lt_or_ge 200 (L + k) with q | q
    · exact jo_f hI (cfeed_n e k L h1 h8 hL t28 q) (mfeed_n e k L M h1 h8 hL tP.1 q)
    · have m1 := mfeed_t e k L (u1 (su M 29 (fdR (M.1 29) L e k)) 28 1 (nI (L + k))) h1 h8 (by rw [u1_o _ _ _ _ (by decide), su_ne _ _ _ _ (by decide)]; exact tP.1) q
      refine jo_x (cfeed_t e k L h1 h8 t28 q) m1 (n := n) ?_
      have f51 : (u1 (su M 29 (fdR (M.1 29) L e k)) 28 1 (nI (L + k))).1 51 = M.1 51 := by rw [u1_o _ _ _ _ (by decide), su_ne _ _ _ _ (by decide)]
      rw [f51]
      have eq : ∀ c, c ∉ [28, 29, 46, 51] → (u1 (su (u1 (su M 29 (fdR (M.1 29) L e k)) 28 1 (nI (L + k))) 51 (fdR (M.1 51) L e k)) 46 6 (nI (L + k))).1 c = M.1 c := by
        intro c hc
        simp at hc
        rw [u1_o _ _ _ _ hc.2.2.1, su_ne _ _ _ _ hc.2.2.2, u1_o _ _ _ _ hc.1, su_ne _ _ _ _ hc.2.1]
      have q46 : ∀ j, j ≠ 6 → (u1 (su (u1 (su M 29 (fdR (M.1 29) L e k)) 28 1 (nI (L + k))) 51 (fdR (M.1 51) L e k)) 46 6 (nI (L + k))).1 46 j = M.1 46 j := fun j hj => by
        rw [u1_x (Or.inr hj), su_ne _ _ _ _ (by decide), u1_o _ _ _ _ (by decide), su_ne _ _ _ _ (by decide)]
      have q6 : (u1 (su (u1 (su M 29 (fdR (M.1 29) L e k)) 28 1 (nI (L + k))) 51 (fdR (M.1 51) L e k)) 46 6 (nI (L + k))).1 46 6 = nI (L + k) := u1_at _ _ _ _
      have q28 : (u1 (su (u1 (su M 29 (fdR (M.1 29) L e k)) 28 1 (nI (L + k))) 51 (fdR (M.1 51) L e k)) 46 6 (nI (L + k))).1 28 1 = nI (L + k) := by
        rw [u1_o _ _ _ _ (by decide), su_ne _ _ _ _ (by decide), u1_at]
      have q29 : (u1 (su (u1 (su M 29 (fdR (M.1 29) L e k)) 28 1 (nI (L + k))) 51 (fdR (M.1 51) L e k)) 46 6 (nI (L + k))).1 29 = fdR (M.1 29) L e k := by
        rw [u1_o _ _ _ _ (by decide), su_ne _ _ _ _ (by decide), u1_o _ _ _ _ (by decide), su_at]
      have q51 : (u1 (su (u1 (su M 29 (fdR (M.1 29) L e k)) 28 1 (nI (L + k))) 51 (fdR (M.1 51) L e k)) 46 6 (nI (L + k))).1 51 = fdR (M.1 51) L e k := by
        rw [u1_o _ _ _ _ (by decide), su_at]
      have q2 : (u1 (su (u1 (su M 29 (fdR (M.1 29) L e k)) 28 1 (nI (L + k))) 51 (fdR (M.1 51) L e k)) 46 6 (nI (L + k))).2 = M.2 := rfl
      generalize u1 (su (u1 (su M 29 (fdR (M.1 29) L e k)) 28 1 (nI (L + k))) 51 (fdR (M.1 51) L e k)) 46 6 (nI (L + k)) = M2 at *
      obtain ⟨hT, hx, kp, -, rw', sh, sv, tc⟩ := id hI
      have e0 := eq 0 (by decide)
      refine IV_parts hI _ eq (fun c a b => by simp; omega) (by decide) (Kp_l eq (by rw [e0]) (q46 4 (by decide)) (fun c a b => by simp; omega) (by decide) kp) ?_ (Rw_of (by rw [e0]) (q46 13 (by decide)) (eq 30 (by decide)) (eq 52 (by decide)) rw') (Sh_of (eq 37 (by decide)) (eq 38 (by decide)) (eq 53 (by decide)) (eq 54 (by decide)) (eq 55 (by decide)) q2 sh) (Sv_of (eq 40 (by decide)) (eq 41 (by decide)) (eq 42 (by decide)) (eq 43 (by decide)) (eq 56 (by decide)) (eq 57 (by decide)) (eq 58 (by decide)) sv) (Tc_of (by rw [eq 44 (by decide)]) (q46 21 (by decide)) (eq 45 (by decide)) (eq 59 (by decide)) tc)
      -- the bytes
      have key : ∀ j, j ≤ k → ∃ t' : Nat → Nat, (∀ i, t' i < 256) ∧ ∀ i, i < L + j → fdR (M.1 51) L e j i = nI (t' i) := by
        intro j
        induction j with
        | zero => intro _; exact ⟨t, tP.2.2.1, fun i hi => tP.2.2.2 i hi⟩
        | succ j ih =>
          intro hj
          obtain ⟨t', p1, p2⟩ := ih (by omega)
          obtain ⟨b, hb, eb⟩ := fd_nI e j (by omega)
          refine ⟨fun i => if i = L + j then b else t' i, fun i => ?_, fun i hi => ?_⟩
          · dsimp only
            split
            · exact hb
            · exact p1 i
          · rw [fdR]
            simp only [upd]
            split
            · exact eb
            · exact p2 i (by omega)
      obtain ⟨t', p1, p2⟩ := key k (Nat.le_refl k)
      exact ⟨t', L + k, ⟨q6, q, p1, fun i hi => by rw [q51]; exact p2 i hi⟩, q28, by rw [q29, q51, t29]⟩
  · exact jo_f hI (cfeed_f e k h) (mfeed_f e k M h)
theorem op_tree (hI : IV M n) : JO mX5_tree mX6_tree [] M := by
  obtain ⟨t, L, tP, t28, t29⟩ := hI.2.2.2.1
  have tA : TA M t L := ⟨t28, tP.2.1, tP.2.2.1, fun i hi => by rw [t29]; exact tP.2.2.2 i hi⟩
  have h1 := ctree_c tA hI.1.1.2.1 hI.2.1
  have hres : ∃ v : Int32, (∀ r, ((trS t L (M.1 47)).2.1 = true → r = some (.int (-100 - nI (trS t L (M.1 47)).1))) → ((trS t L (M.1 47)).2.1 = false → ∃ m, RF (trS t L (M.1 47)).2.2 m ∧ r = some (.int (nI m))) → r = some (Value.int v)) ∧ ((trS t L (M.1 47)).2.1 = true → v = -100 - nI (trS t L (M.1 47)).1) ∧ ((trS t L (M.1 47)).2.1 = false → v = (trS t L (M.1 47)).2.2 0) := by
    by_cases w : (trS t L (M.1 47)).2.1 = true
    · exact ⟨_, fun r a b => a w, fun _ => rfl, fun q => by rw [w] at q; exact absurd q (by decide)⟩
    · have w' : (trS t L (M.1 47)).2.1 = false := (Bool.not_eq_true _).mp w
      refine ⟨_, fun r a b => ?_, fun q => absurd q w, fun _ => rfl⟩
      obtain ⟨m, h, e⟩ := b w'
      rw [e, h.1]
  obtain ⟨v, hv, v1, v2⟩ := hres
  refine ⟨_, ⟨v, rfl⟩, 9, 7, by decide, by decide, K.mono h1 ?_⟩
  rintro r M1 ⟨a1, a2, a3, a4, a5, a6⟩
  have e47 := a2 47 (by decide) (by decide)
  refine ⟨hv r (fun w => (a5 w).1) (fun w => by obtain ⟨m, x, y, -⟩ := a6 w; exact ⟨m, x, y⟩), ?_⟩
  have tP1 : TP M1 t L := ⟨by rw [a2 46 (by decide) (by decide)]; exact tP.1, tP.2.1, tP.2.2.1, fun i hi => by rw [a2 51 (by decide) (by decide)]; exact tP.2.2.2 i hi⟩
  refine K.mono (mtree_ok t L M1 tP1) ?_
  rintro r2 M2 ⟨b1, b2, b3, b4, b5, b6⟩
  rw [e47] at b5 b6
  have eq : ∀ c, 18 < c → c ≠ 28 → c ≠ 46 → c ≠ 47 → c ≠ 50 → M2.1 c = M.1 c := fun c c0 c1 c2 c3 c4 => (funext fun j => b1 c j c2 c3 c4).trans (a2 c c1 c0)
  have e1 : ∀ c, c ≤ 18 → M2.1 c = M1.1 c := fun c hc => funext fun j => b1 c j (by omega) (by omega) (by omega)
  have q46 : ∀ k, (k < 6 ∨ 11 < k) → k ≠ 13 → M2.1 46 k = M.1 46 k := fun k hk h13 => by rw [b3 k hk h13, a2 46 (by decide) (by decide)]
  have q0 : ∀ k, k ≠ 6 → M2.1 0 k = M.1 0 k := fun k hk => by rw [e1 0 (by decide)]; exact a4 k hk
  have q28 : M2.1 28 1 = nI 0 := by rw [b1 28 1 (by decide) (by decide) (by decide), a1]; rfl
  have q2 : M2.2 = M.2 := b2.trans a3
  obtain ⟨hT, hx, kp, tp, rw', sh, sv, tc⟩ := id hI
  have kp2 : Kp M2 := Kp_of (q0 3 (by decide)) (q46 4 (by omega) (by decide)) (fun i hi => eq _ (by omega) (by omega) (by omega) (by omega) (by omega)) (eq 48 (by decide) (by decide) (by decide) (by decide) (by decide)) kp
  have tp2 : Tp M2 := ⟨t, 0, ⟨b4, by omega, tP.2.2.1, fun i hi => absurd hi (by omega)⟩, q28, by rw [eq 29 (by decide) (by decide) (by decide) (by decide) (by decide), eq 51 (by decide) (by decide) (by decide) (by decide) (by decide)]; exact t29⟩
  have sh2 : Sh M2 := Sh_of (eq 37 (by decide) (by decide) (by decide) (by decide) (by decide)) (eq 38 (by decide) (by decide) (by decide) (by decide) (by decide)) (eq 53 (by decide) (by decide) (by decide) (by decide) (by decide)) (eq 54 (by decide) (by decide) (by decide) (by decide) (by decide)) (eq 55 (by decide) (by decide) (by decide) (by decide) (by decide)) q2 sh
  have sv2 : Sv M2 := Sv_of (eq 40 (by decide) (by decide) (by decide) (by decide) (by decide)) (eq 41 (by decide) (by decide) (by decide) (by decide) (by decide)) (eq 42 (by decide) (by decide) (by decide) (by decide) (by decide)) (eq 43 (by decide) (by decide) (by decide) (by decide) (by decide)) (eq 56 (by decide) (by decide) (by decide) (by decide) (by decide)) (eq 57 (by decide) (by decide) (by decide) (by decide) (by decide)) (eq 58 (by decide) (by decide) (by decide) (by decide) (by decide)) sv
  have tc2 : Tc M2 := Tc_of (by rw [eq 44 (by decide) (by decide) (by decide) (by decide) (by decide)]) (q46 21 (by omega) (by decide)) (eq 45 (by decide) (by decide) (by decide) (by decide) (by decide)) (eq 59 (by decide) (by decide) (by decide) (by decide) (by decide)) tc
  have q30 := eq 30 (by decide) (by decide) (by decide) (by decide) (by decide)
  have q52 := eq 52 (by decide) (by decide) (by decide) (by decide) (by decide)
  by_cases w : (trS t L (M.1 47)).2.1 = true
  · obtain ⟨c1, c2, c3⟩ := b5 w
    obtain ⟨d1, d2, d3⟩ := a5 w
    have cg : ∀ j, j < 56 → M.1 47 j = M2.1 47 j := fun j hj => by rw [c2 j hj]
    refine ⟨by rw [c1, v1 w], n, TW_congr cg hT, RX_of (RX_congr cg hT.1.2.1 d2) (fun i hi => e1 _ (by omega)), kp2, tp2, Rw_of (by rw [e1 0 (by decide), d3]) (by rw [c3, a2 46 (by decide) (by decide)]) q30 q52 rw', sh2, sv2, tc2⟩
  · have w' : (trS t L (M.1 47)).2.1 = false := (Bool.not_eq_true _).mp w
    obtain ⟨c1, c2, c3⟩ := b6 w'
    obtain ⟨m, d1, d2, d3, d4⟩ := a6 w'
    obtain ⟨m', g1, g2, g3, g4⟩ := trS_GI tP.2.2.1 _ w'
    have em : m' = m := (nI_eq (by have := g1.2.1; omega) (by have := d1.2.1; omega)).mp (g1.1.symm.trans d1.1)
    subst em
    refine ⟨by rw [c1, v2 w'], m', by rw [c2]; exact ⟨g1, g2, g3⟩, by rw [c2]; exact RX_of d3 (fun i hi => e1 _ (by omega)), kp2, tp2, ⟨⟨0, by omega, by rw [e1 0 (by decide), d4]; rfl, by rw [c3]; rfl⟩, by rw [q30, q52]; exact rw'.2⟩, sh2, sv2, tc2⟩
end O7

