/-! class and model: the other calls -/
section J5
variable {mc mm : MI} {as : List Value} {M : Mm} {n rc rm : Nat} {v : Int32}
theorem jo_ta {s' : Nat → Int32} {n' : Nat} (hI : IV M n) (hc : K rc mc (.ref 0 :: as) M (Rq (some (.int v)) (fun M' => RX M' 1 s' n' ∧ FC M M'))) (hm : ∀ M1 : Mm, FC M M1 → K rm mm (.ref 46 :: as) M1 (Rt (some (.int v)) (su M1 47 s'))) (hT : TW s' n') (h1 : rc < 20 := by decide) (h2 : rm < 20 := by decide) : JO mc mm as M := by
  refine ⟨_, ⟨v, rfl⟩, rc, rm, h1, h2, K.mono hc ?_⟩
  rintro r M1 ⟨rfl, a, b⟩
  refine ⟨rfl, K.mono (hm M1 b) ?_⟩
  rintro r M2 ⟨rfl, rfl⟩
  refine ⟨rfl, n', ?_, ?_, AG_rest (b.ag.trans (AG_su _ (Or.inl rfl))) hI.2.2⟩
  · rw [su_at]; exact hT
  · rw [su_at]; exact RX_of a (fun i hi => su_ne _ _ _ _ (by omega))
theorem jo_ra (hI : IV M n) (hc : K rc mc (.ref 0 :: as) M (Rq (some (.int v)) (fun M' => RX M' 1 (M.1 47) n ∧ FC M M'))) (hm : ∀ M1 : Mm, FC M M1 → K rm mm (.ref 46 :: as) M1 (Rs (some (.int v)) M1)) (h1 : rc < 20 := by decide) (h2 : rm < 20 := by decide) : JO mc mm as M := by
  refine ⟨_, ⟨v, rfl⟩, rc, rm, h1, h2, K.mono hc ?_⟩
  rintro r M1 ⟨rfl, a, b⟩
  have e47 := b.1 47 (by omega)
  refine ⟨rfl, K.mono (hm M1 b) ?_⟩
  rintro r M2 ⟨rfl, g, rfl⟩
  refine ⟨rfl, n, ?_, ?_, AG_rest (b.ag.trans (AG_su _ (Or.inr (Or.inl rfl)))) hI.2.2⟩
  · rw [su_ne _ _ _ _ (by decide), e47]; exact hI.1
  · rw [su_ne _ _ _ _ (by decide), e47]; exact RX_of a (fun i hi => su_ne _ _ _ _ (by omega))
/-- both change what they change -/
theorem jo_x {M1 M2 : Mm} (hc : K rc mc (.ref 0 :: as) M (Rt (some (.int v)) M1)) (hm : K rm mm (.ref 46 :: as) M1 (Rt (some (.int v)) M2)) (hI : IV M2 n) (h1 : rc < 20 := by decide) (h2 : rm < 20 := by decide) : JO mc mm as M := by
  refine ⟨_, ⟨v, rfl⟩, rc, rm, h1, h2, K.mono hc ?_⟩
  rintro r M' ⟨rfl, rfl⟩
  refine ⟨rfl, K.mono hm ?_⟩
  rintro r M' ⟨rfl, rfl⟩
  exact ⟨rfl, n, hI⟩
end J5
theorem TW_congr {s s' : Nat → Int32} {n : Nat} (e : ∀ j, j < 56 → s j = s' j) (h : TW s n) : TW s' n := by
  obtain ⟨hw, hl, hb⟩ := h
  have h8 := hw.2.1
  refine ⟨⟨by rw [← e 0 (by omega)]; exact hw.1, h8, fun o ho => ?_⟩, fun o ho hc => ?_, ?_⟩
  · have := hw.2.2 o ho
    rw [← e _ (by omega), ← e _ (by omega), ← e _ (by omega), ← e _ (by omega), ← e _ (by omega), ← e _ (by omega)]
    exact this
  · rw [← e _ (by omega)] at hc ⊢
    exact hl o ho hc
  · obtain ⟨a4, a5, a6, a7⟩ := hb
    exact ⟨by rw [← e 4 (by omega)]; exact a4, by rw [← e 5 (by omega)]; exact a5, by rw [← e 6 (by omega)]; exact a6, by rw [← e 7 (by omega)]; exact a7⟩
theorem TW_md {s : Nat → Int32} {n : Nat} (h : TW s n) (o : Nat) (nb : Nat → Int32) : ∀ k, TW (mdR s o nb k) n := by
  intro k
  induction k with
  | zero => exact h
  | succ k ih =>
    obtain ⟨f, hf, ef⟩ := wi_rng (nb k)
    rw [mdR, ef]
    exact TW_up ih (WF_force ih.1 hf) (fun q _ => ⟨by omega, by omega⟩) (by omega)
section O5
variable {M : Mm} {n : Nat}
theorem sh_m {t : Nat} (h : SH1 M t) : (M.1 37 t = -1) = (M.1 53 t < 0) := by
  rcases h.2.2 with ⟨a, b⟩ | ⟨a, b, -⟩
  · rw [a, b]; decide
  · rw [a]
    exact propext ⟨fun e => by rw [e] at b; exact absurd b.1 (by decide), fun e => absurd b.1 (Int32.not_le.mpr e)⟩
theorem sh_eq {t : Nat} (h : SH1 M t) : M.1 37 t = M.1 53 t := by
  rcases h.2.2 with ⟨a, b⟩ | ⟨a, -⟩
  · rw [a, b]
  · exact a
theorem sh_p {t : Nat} (h : SH1 M t) (hp : ¬ M.1 53 t < 0) : ∃ z, z ≤ 40 ∧ M.1 38 t = nI z ∧ M.1 54 t = nI z ∧ ∀ k, k < 40 → M.2 (33 + t) k = (M.1 55 (40 * t + k)).toInt64 := by
  rcases h.2.2 with ⟨a, b⟩ | ⟨a, b, c, d⟩
  · rw [b] at hp; exact absurd (by decide) hp
  · obtain ⟨z, hz, ez⟩ := h.2.1
    exact ⟨z, hz, c.trans ez, ez, d⟩
theorem op_fits (hI : IV M n) (t o w : Int32) : JO mX5_fits mX6_fits [.int t, .int o, .int w] M := by
  have h8 := hI.1.1.2.1
  by_cases h : (0 ≤ t ∧ t ≤ 3) ∧ (0 ≤ o ∧ o < nI n) ∧ (0 ≤ w ∧ w ≤ 1)
  · obtain ⟨t, ht, rfl⟩ := inNc (n := 3) 3 rfl h.1 (by decide)
    obtain ⟨o, ho, rfl⟩ := inN h.2.1 (by omega)
    obtain ⟨w, hw, rfl⟩ := inNc (n := 1) 1 rfl h.2.2 (by decide)
    have sh := hI.2.2.2.2.2.1 t (by omega)
    by_cases hp : M.1 53 t < 0
    · exact jo_f hI (cfits_n hI.1.1 hI.2.1 t o w (by omega) ho hw (by rw [sh_m sh]; exact hp)) (mfits_n n t o w M hI.1.1 (by omega) ho hw hp)
    · obtain ⟨z, hz, e38, e54, hd⟩ := sh_p sh hp
      refine jo_ra (rm := 5) hI (cfits_t hI.1.1 hI.1.2.1 hI.1.2.2 hI.2.1 t o w z (fun k => M.1 55 (40 * t + k)) (by omega) ho hw (by rw [sh_m sh]; exact hp) hz e38 (fun k hk => hd k (by omega))) (fun M1 f => ?_)
      have e47 := f.1 47 (by omega)
      have e55 := f.1 55 (by omega)
      have := mfits_t n t o w z M1 (by rw [e47]; exact hI.1.1) (by omega) ho hw (by rw [f.1 53 (by omega)]; exact hp) hz (by rw [f.1 54 (by omega)]; exact e54)
      rw [e47, e55] at this
      exact this
  · exact jo_f hI (cfits_f hI.1.1 hI.2.1 t o w h) (mfits_f t o w M n hI.1.1 h)
theorem op_prove (hI : IV M n) (o v : Int32) : JO mX5_prove mX6_prove [.int o, .int v] M := by
  have h8 := hI.1.1.2.1
  by_cases h : (0 ≤ o ∧ o < nI n) ∧ (1 ≤ v ∧ v ≤ 10)
  · obtain ⟨o, ho, rfl⟩ := inN h.1 (by omega)
    obtain ⟨y, h1, hy, rfl⟩ := one_to (m := 10) 10 rfl (by decide) h.2
    refine ⟨_, ⟨nI y, rfl⟩, 4, 4, by decide, by decide, K.mono (cprove_t hI.1.1 hI.1.2.1 hI.2.1 o y ho h1 hy) ?_⟩
    rintro r M1 ⟨rfl, a, ⟨f1, f2, f3⟩, b, c⟩
    have e47 := f2 47 (by decide) (by decide)
    refine ⟨rfl, K.mono (mprove_t n o y M1 (by rw [e47]; exact hI.1.1) ho h1 hy) ?_⟩
    rintro r M2 ⟨rfl, rfl⟩
    obtain ⟨hT, hx, kp, tp, rw', sh, sv, tc⟩ := hI
    have eo : ∀ c, c ≠ 46 → c ≠ 49 → c ≠ 52 → (u1 (asd (su M1 52 (pvR (M1.1 47) n o (M1.1 52) y))) 46 13 (nI y)).1 c = M1.1 c := fun c c1 c2 c3 => by
      rw [u1_o _ _ _ _ c1, asd_ne _ c2, su_ne _ _ _ _ c3]
    have e46 : ∀ k, k ≠ 13 → (u1 (asd (su M1 52 (pvR (M1.1 47) n o (M1.1 52) y))) 46 13 (nI y)).1 46 k = M.1 46 k := fun k hk => by
      rw [u1_x (Or.inr hk), asd_ne _ (by decide), su_ne _ _ _ _ (by decide), f2 46 (by decide) (by decide)]
    have e52 : (u1 (asd (su M1 52 (pvR (M1.1 47) n o (M1.1 52) y))) 46 13 (nI y)).1 52 = pvR (M.1 47) n o (M.1 52) y := by
      rw [u1_o _ _ _ _ (by decide), asd_ne _ (by decide), su_at, e47, f2 52 (by decide) (by decide)]
    have e13 : (u1 (asd (su M1 52 (pvR (M1.1 47) n o (M1.1 52) y))) 46 13 (nI y)).1 46 13 = nI y := u1_at _ _ _ _
    have e2 : (u1 (asd (su M1 52 (pvR (M1.1 47) n o (M1.1 52) y))) 46 13 (nI y)).2 = M.2 := f3
    generalize u1 (asd (su M1 52 (pvR (M1.1 47) n o (M1.1 52) y))) 46 13 (nI y) = M2 at *
    have eq : ∀ c, 18 < c → c ≠ 30 → c ≠ 46 → c ≠ 49 → c ≠ 52 → M2.1 c = M.1 c := fun c c0 c1 c2 c3 c4 => (eo c c2 c3 c4).trans (f2 c c0 c1)
    have e0 : ∀ k, k ≠ 6 → M2.1 0 k = M.1 0 k := fun k hk => by rw [eo 0 (by decide) (by decide) (by decide)]; exact f1 k hk
    have q47 := eq 47 (by decide) (by decide) (by decide) (by decide) (by decide)
    refine ⟨rfl, n, by rw [q47]; exact hT, by rw [q47]; exact RX_of a (fun i hi => eo _ (by omega) (by omega) (by omega)), Kp_of (e0 3 (by decide)) (e46 4 (by decide)) (fun i hi => eq _ (by omega) (by omega) (by omega) (by omega) (by omega)) (eq 48 (by decide) (by decide) (by decide) (by decide) (by decide)) kp, Tp_of (by rw [eq 28 (by decide) (by decide) (by decide) (by decide) (by decide)]) (e46 6 (by decide)) (eq 29 (by decide) (by decide) (by decide) (by decide) (by decide)) (eq 51 (by decide) (by decide) (by decide) (by decide) (by decide)) tp, ⟨⟨y, hy, ?_, e13⟩, ?_⟩, Sh_of (eq 37 (by decide) (by decide) (by decide) (by decide) (by decide)) (eq 38 (by decide) (by decide) (by decide) (by decide) (by decide)) (eq 53 (by decide) (by decide) (by decide) (by decide) (by decide)) (eq 54 (by decide) (by decide) (by decide) (by decide) (by decide)) (eq 55 (by decide) (by decide) (by decide) (by decide) (by decide)) e2 sh, Sv_of (eq 40 (by decide) (by decide) (by decide) (by decide) (by decide)) (eq 41 (by decide) (by decide) (by decide) (by decide) (by decide)) (eq 42 (by decide) (by decide) (by decide) (by decide) (by decide)) (eq 43 (by decide) (by decide) (by decide) (by decide) (by decide)) (eq 56 (by decide) (by decide) (by decide) (by decide) (by decide)) (eq 57 (by decide) (by decide) (by decide) (by decide) (by decide)) (eq 58 (by decide) (by decide) (by decide) (by decide) (by decide)) sv, Tc_of (by rw [eq 44 (by decide) (by decide) (by decide) (by decide) (by decide)]) (e46 21 (by decide)) (eq 45 (by decide) (by decide) (by decide) (by decide) (by decide)) (eq 59 (by decide) (by decide) (by decide) (by decide) (by decide)) tc⟩
    · rw [eo 0 (by decide) (by decide) (by decide)]; exact b
    · rw [eo 30 (by decide) (by decide) (by decide), c, e52, rw'.2]
  · exact jo_f hI (cprove_f hI.1.1 hI.2.1 o v h) (mprove_f o v M n hI.1.1 h)
theorem op_row (hI : IV M n) (i w : Int32) : JO mX5_row mX6_row [.int i, .int w] M := by
  obtain ⟨⟨z, hz, e0, e46⟩, er⟩ := hI.2.2.2.2.1
  have h1 := crow_c i w z hz e0
  rw [er] at h1
  exact jo_f hI h1 (mrow_ok i w z M hz e46)
theorem op_alterRow (hI : IV M n) (i w v : Int32) : JO mX5_alterRow mX6_alterRow [.int i, .int w, .int v] M := by
  obtain ⟨⟨z, hz, e0, e46⟩, er⟩ := hI.2.2.2.2.1
  by_cases h : (0 ≤ i ∧ i ≤ nI z - 1) ∧ (0 ≤ w ∧ w ≤ 2)
  · obtain ⟨a, b, ha, hb, rfl, rfl⟩ := rix hz h
    have h1 := calterRow_t (M := M) a b z v hz e0 ha hb
    rw [er] at h1
    have h2 := malterRow_t a b z v (su M 30 (upd (M.1 52) (3 * a + b) v)) hz (by rw [su_ne _ _ _ _ (by decide)]; exact e46) ha hb
    rw [su_ne _ _ _ _ (show (52 : Nat) ≠ 30 by decide)] at h2
    refine jo_x h1 h2 (n := n) ?_
    obtain ⟨hT, hx, kp, tp, rw', sh, sv, tc⟩ := hI
    have eq : ∀ c, c ≠ 30 → c ≠ 52 → (su (su M 30 (upd (M.1 52) (3 * a + b) v)) 52 (upd (M.1 52) (3 * a + b) v)).1 c = M.1 c := fun c c1 c2 => by rw [su_ne _ _ _ _ c2, su_ne _ _ _ _ c1]
    have q30 : (su (su M 30 (upd (M.1 52) (3 * a + b) v)) 52 (upd (M.1 52) (3 * a + b) v)).1 30 = upd (M.1 52) (3 * a + b) v := by rw [su_ne _ _ _ _ (by decide), su_at]
    have q52 : (su (su M 30 (upd (M.1 52) (3 * a + b) v)) 52 (upd (M.1 52) (3 * a + b) v)).1 52 = upd (M.1 52) (3 * a + b) v := su_at _ _ _
    have e2 : (su (su M 30 (upd (M.1 52) (3 * a + b) v)) 52 (upd (M.1 52) (3 * a + b) v)).2 = M.2 := rfl
    generalize su (su M 30 (upd (M.1 52) (3 * a + b) v)) 52 (upd (M.1 52) (3 * a + b) v) = M2 at *
    have z0 := eq 0 (by decide) (by decide)
    have z46 := eq 46 (by decide) (by decide)
    have z47 := eq 47 (by decide) (by decide)
    exact ⟨by rw [z47]; exact hT, by rw [z47]; exact RX_of hx (fun i hi => eq _ (by omega) (by omega)), Kp_of (by rw [z0]) (by rw [z46]) (fun i hi => eq _ (by omega) (by omega)) (eq 48 (by decide) (by decide)) kp, Tp_of (by rw [eq 28 (by decide) (by decide)]) (by rw [z46]) (eq 29 (by decide) (by decide)) (eq 51 (by decide) (by decide)) tp, ⟨⟨z, hz, by rw [z0]; exact e0, by rw [z46]; exact e46⟩, q30.trans q52.symm⟩, Sh_of (eq 37 (by decide) (by decide)) (eq 38 (by decide) (by decide)) (eq 53 (by decide) (by decide)) (eq 54 (by decide) (by decide)) (eq 55 (by decide) (by decide)) e2 sh, Sv_of (eq 40 (by decide) (by decide)) (eq 41 (by decide) (by decide)) (eq 42 (by decide) (by decide)) (eq 43 (by decide) (by decide)) (eq 56 (by decide) (by decide)) (eq 57 (by decide) (by decide)) (eq 58 (by decide) (by decide)) sv, Tc_of (by rw [eq 44 (by decide) (by decide)]) (by rw [z46]) (eq 45 (by decide) (by decide)) (eq 59 (by decide) (by decide)) tc⟩
  · exact jo_f hI (calterRow_f i w v z e0 h) (malterRow_f i w v z M e46 h)
theorem op_judge (hI : IV M n) (o : Int32) : JO mX5_judge mX6_judge [.int o] M := by
  have h8 := hI.1.1.2.1
  obtain ⟨⟨z, hz, e0, e46⟩, er⟩ := hI.2.2.2.2.1
  by_cases h : 0 ≤ o ∧ o < nI n
  · obtain ⟨o, ho, rfl⟩ := inN h (by omega)
    refine jo_ra (rm := 4) hI (cjudge_t hI.1.1 hI.1.2.1 hI.2.1 o z ho hz e0) (fun M1 f => ?_)
    have e47 := f.1 47 (by omega)
    have := mjudge_t n o z M1 (by rw [e47]; exact hI.1.1) ho hz (by rw [f.1 46 (by omega)]; exact e46)
    rw [e47, f.1 52 (by omega), ← er] at this
    exact Rs_a this
  · exact jo_f hI (cjudge_f hI.1.1 hI.2.1 o h) (mjudge_f o M n hI.1.1 h)
theorem op_minds (hI : IV M n) (t i o k : Int32) : JO mX5_minds mX6_minds [.int t, .int i, .int o, .int k] M := by
  have h8 := hI.1.1.2.1
  by_cases h : (0 ≤ t ∧ t ≤ 3) ∧ (0 ≤ o ∧ o < nI n) ∧ (0 ≤ k ∧ k ≤ 8) ∧ o + k ≤ nI n
  · obtain ⟨t, ht, rfl⟩ := inNc (n := 3) 3 rfl h.1 (by decide)
    obtain ⟨o, ho, rfl⟩ := inN h.2.1 (by omega)
    obtain ⟨k, hk, rfl⟩ := inNc (n := 8) 8 rfl h.2.2.1 (by decide)
    have hok := h.2.2.2
    rw [nI_add] at hok
    have hok : o + k ≤ n := (nI_leI (by omega) (by omega)).mp hok
    have sh := hI.2.2.2.2.2.1 t (by omega)
    have se := sh_eq sh
    by_cases hl : laS (M.1 53 t) 0 = 0
    · have h0 : M.1 53 t = 0 ∧ ¬ M.1 53 t < 0 := by
        unfold laS at hl
        split at hl
        · exact absurd hl (by decide)
        · next q =>
          split at hl
          · next q2 => exact ⟨q2, q⟩
          · exact absurd hl (by decide)
      obtain ⟨z, hz, e38, e54, hd⟩ := sh_p sh h0.2
      by_cases hi : ∃ a, i = nI a ∧ a + k ≤ z
      · obtain ⟨a, rfl, ha⟩ := hi
        refine jo_ta (rm := 2) hI (cminds_t hI.1.1 hI.2.1 t o k z a (fun m => M.1 55 (40 * t + a + m)) (by omega) ho hok (se.trans h0.1) hz e38 ha (fun m hm => by rw [hd _ (by omega), Nat.add_assoc])) (fun M1 f => ?_) (TW_md hI.1 o _ k)
        have e47 := f.1 47 (by omega)
        have e53 := f.1 53 (by omega)
        have := mminds_t t o k n z a M1 (by rw [e47]; exact hI.1.1) (by omega) ho hok (by rw [e53]; exact hl) hz (by rw [f.1 54 (by omega)]; exact e54) ha
        rw [e47, f.1 55 (by omega)] at this
        exact this
      · exact jo_f hI (cminds_o hI.1.1 hI.2.1 t o k z i (by omega) ho hok (se.trans h0.1) hz e38 hi) (mminds_o t o k n z i M hI.1.1 (by omega) ho hok hl hz e54 hi)
    · have h1 := cminds_l hI.1.1 hI.2.1 t o k i (by omega) ho hok (by
        rcases sh.2.2 with ⟨a, b⟩ | ⟨a, b, -⟩
        · exact Or.inl a
        · exact Or.inr (by rw [a]; exact b.1)) (by rw [se]; exact hl)
      rw [se] at h1
      exact jo_f hI h1 (mminds_l t o k n i M hI.1.1 (by omega) ho hok hl)
  · exact jo_f hI (cminds_f hI.1.1 hI.2.1 t i o k h) (mminds_f t i o k M n hI.1.1 h)
theorem op_item (hI : IV M n) (t sort i : Int32) : JO mX5_item mX6_item [.int t, .int sort, .int i] M := by
  by_cases h : (0 ≤ t ∧ t ≤ 3) ∧ (0 ≤ sort ∧ sort ≤ 3)
  · obtain ⟨t, ht, rfl⟩ := inNc (n := 3) 3 rfl h.1 (by decide)
    have sh := hI.2.2.2.2.2.1 t (by omega)
    by_cases hp : M.1 53 t < 0
    · obtain ⟨z, hz, ez⟩ := sh.1
      obtain ⟨z2, hz2, ez2⟩ := sh.2.1
      have h1 := citem_t t z sort i M (by omega) h.2 hz ez
      have h2 := mitem_t t z2 sort i M (by omega) h.2 hz2 ez2
      rw [if_pos (by rw [sh_m sh]; exact hp)] at h1
      have e : laS (M.1 53 t) sort = -11 := by unfold laS; rw [if_pos hp]
      rw [e, if_neg (by decide)] at h2
      exact jo_f hI h1 h2
    · obtain ⟨z, hz, e38, e54, hd⟩ := sh_p sh hp
      have h1 := citem_t t z sort i M (by omega) h.2 hz e38
      have h2 := mitem_t t z sort i M (by omega) h.2 hz e54
      rw [if_neg (by rw [sh_m sh]; exact hp), sh_eq sh] at h1
      by_cases hs : M.1 53 t = sort
      · have e : laS (M.1 53 t) sort = 0 := by unfold laS; rw [if_neg hp, if_pos hs]
        rw [e, if_pos rfl] at h2
        rw [if_pos hs] at h1
        by_cases hi : 0 ≤ i ∧ i ≤ nI z - 1
        · rw [if_pos hi] at h1 h2
          have hz0 : z ≠ 0 := by
            intro e
            subst e
            exact absurd (Int32.le_trans hi.1 hi.2) (by decide)
          rw [nI_sub1 hz0] at hi
          obtain ⟨a, ha, rfl⟩ := inNc (n := z - 1) _ rfl hi (by omega)
          rw [nI_clamp (by omega)] at h1 h2
          rw [hd a (by omega), Int32.toInt32_toInt64] at h1
          exact jo_f hI h1 h2
        · rw [if_neg hi] at h1 h2
          exact jo_f hI h1 h2
      · have e : laS (M.1 53 t) sort = -13 := by unfold laS; rw [if_neg hp, if_neg hs]
        rw [e, if_neg (by decide)] at h2
        rw [if_neg hs] at h1
        exact jo_f hI h1 h2
  · exact jo_f hI (citem_f t sort i M h) (mitem_f t sort i M h)
theorem op_taken (hI : IV M n) (h as : Int32) : JO mX5_taken mX6_taken [.int h, .int as] M := by
  by_cases hb : (0 ≤ h ∧ h ≤ 3) ∧ (0 ≤ as ∧ as ≤ 13) ∧ ¬ (6 ≤ as ∧ as ≤ 9)
  · obtain ⟨h, hh, rfl⟩ := inNc (n := 3) 3 rfl hb.1 (by decide)
    exact jo_f hI (ctaken_t hI.1.1 hI.2.1 rfl h as (by omega) (hI.2.2.2.2.2.2.1 h (by omega)) hb.2) (mtaken_t h n as M hI.1.1 (by omega) hb.2)
  · exact jo_f hI (ctaken_f h as hb) (mtaken_f h as M hb)
theorem op_trace (hI : IV M n) (i : Int32) : JO mX5_trace mX6_trace [.int i] M := by
  obtain ⟨⟨c, hc, e44, e46⟩, er⟩ := hI.2.2.2.2.2.2.2
  have h1 := ctrace_c i c hc e44
  rw [er] at h1
  exact jo_f hI h1 (mtrace_ok i c M hc e46)
theorem op_many (hI : IV M n) (w : Int32) : JO mX5_many mX6_many [.int w] M := by
  refine jo_ra (rm := 3) hI (cmany_c hI.1.1 hI.2.1 w) (fun M1 f => ?_)
  have e47 := f.1 47 (by omega)
  have e46 := f.1 46 (by omega)
  have := mmany_ok n w M1 (by rw [e47]; exact hI.1.1)
  have e : maA M1 n w = maC M (M.1 47) n w := by
    obtain ⟨⟨z, hz, r0, r46⟩, -⟩ := hI.2.2.2.2.1
    obtain ⟨t, L, tp, t28, -⟩ := hI.2.2.2.1
    obtain ⟨⟨c, hc, c44, c46⟩, -⟩ := hI.2.2.2.2.2.2.2
    unfold maA maC
    rw [e47, e46, hI.1.1.1, r0, r46, t28, tp.1, c44, c46]
  rw [e] at this
  exact Rs_0 this
end O5

