/-! class and model: sheets, shelves, acts, what is kept, the tape -/
section R6
variable {M M' : Mm} {n : Nat}
theorem IV_parts (hI : IV M n) (l : List Nat) (eq : ∀ c, c ∉ l → M'.1 c = M.1 c) (hl : ∀ c, 1 ≤ c → c ≤ 7 → c ∉ l) (h47 : 47 ∉ l) (kp : Kp M') (tp : Tp M') (rw' : Rw M') (sh : Sh M') (sv : Sv M') (tc : Tc M') : IV M' n := by
  refine ⟨?_, ?_, kp, tp, rw', sh, sv, tc⟩
  · rw [eq 47 h47]; exact hI.1
  · rw [eq 47 h47]; exact RX_of hI.2.1 (fun i hi => eq _ (hl _ (by omega) (by omega)))
theorem Kp_l {l : List Nat} (eq : ∀ c, c ∉ l → M'.1 c = M.1 c) (h0 : M'.1 0 3 = M.1 0 3) (h4 : M'.1 46 4 = M.1 46 4) (hl : ∀ c, c ≤ 25 → 19 ≤ c → c ∉ l) (h48 : 48 ∉ l) (h : Kp M) : Kp M' := Kp_of h0 h4 (fun i hi => eq _ (hl _ (by omega) (by omega))) (eq 48 h48) h
theorem Sh_set {t : Nat} (a : ∀ t', t' ≠ t → M'.1 37 t' = M.1 37 t') (b : ∀ t', t' ≠ t → M'.1 38 t' = M.1 38 t') (c : ∀ t', t' ≠ t → M'.1 53 t' = M.1 53 t') (d : ∀ t', t' ≠ t → M'.1 54 t' = M.1 54 t') (e : ∀ t' k, t' ≠ t → k < 40 → M'.1 55 (40 * t' + k) = M.1 55 (40 * t' + k)) (f : ∀ t', t' ≠ t → M'.2 (33 + t') = M.2 (33 + t')) (new : SH1 M' t) (h : Sh M) : Sh M' := by
  intro t' ht'
  by_cases q : t' = t
  · subst q; exact new
  · have := h t' ht'
    unfold SH1 at this ⊢
    rw [a t' q, b t' q, c t' q, d t' q, f t' q]
    refine ⟨this.1, this.2.1, this.2.2.imp id (fun z => ⟨z.1, z.2.1, z.2.2.1, fun k hk => ?_⟩)⟩
    rw [e t' k q hk]
    exact z.2.2.2 k hk
theorem Sv_set {h : Nat} (a : ∀ c, c ∈ [40, 41, 42, 43, 56, 57, 58] → ∀ h', h' ≠ h → M'.1 c h' = M.1 c h') (new : RSh M' h) (hs : Sv M) : Sv M' := by
  intro h' hh'
  by_cases q : h' = h
  · subst q; exact new
  · have := hs h' hh'
    unfold RSh at this ⊢
    rw [a 40 (by decide) h' q, a 41 (by decide) h' q, a 42 (by decide) h' q, a 43 (by decide) h' q, a 56 (by decide) h' q, a 57 (by decide) h' q, a 58 (by decide) h' q]
    exact this
theorem m1_of {x : Int32} (h : -1 ≤ x) (h2 : ¬ 0 ≤ x) : x = -1 := by
  apply Int32.toInt_inj.mp
  have h1 := Int32.le_iff_toInt_le.mp h
  have h3 : ¬ (0 : Int32).toInt ≤ x.toInt := fun q => h2 (Int32.le_iff_toInt_le.mpr q)
  have e1 : (-1 : Int32).toInt = -1 := rfl
  have e0 : (0 : Int32).toInt = 0 := rfl
  rw [e1] at h1 ⊢
  rw [e0] at h3
  omega
theorem u1_sh {c j a : Nat} {v : Int32} (h : a ≠ c) : (u1 M c j v).1 a = M.1 a := u1_o _ _ _ _ h
end R6
section O6
variable {M : Mm} {n : Nat}
theorem zR_o (f : Nat → Int32) {t t' k : Nat} (h : t' ≠ t) (hk : k < 40) : zR f (40 * t) 40 (40 * t' + k) = f (40 * t' + k) := by
  unfold zR
  rw [if_neg]
  intro q
  rcases Nat.lt_or_ge t' t with c | c
  · have : 40 * t' + 40 ≤ 40 * t := by omega
    omega
  · have : 40 * t + 40 ≤ 40 * t' := by omega
    omega
theorem op_sheet (hI : IV M n) (t sort v : Int32) : JO mX5_sheet mX6_sheet [.int t, .int sort, .int v] M := by
  by_cases h : (0 ≤ t ∧ t ≤ 3) ∧ (-1 ≤ sort ∧ sort ≤ 3) ∧ ¬ (0 ≤ sort ∧ 40 < v)
  · by_cases h2 : 0 ≤ sort ∧ v < 0
    · exact jo_f hI (csheet_b t sort v M h h2) (msheet_b t sort v M h h2)
    · obtain ⟨t, ht, rfl⟩ := inNc (n := 3) 3 rfl h.1 (by decide)
      obtain ⟨hT, hx, kp, tp, rw', sh, sv, tc⟩ := id hI
      by_cases hs : 0 ≤ sort
      · have hv : 0 ≤ v ∧ v ≤ 40 := ⟨Int32.not_lt.mp (fun q => h2 ⟨hs, q⟩), Int32.not_lt.mp (fun q => h.2.2 ⟨hs, q⟩)⟩
        obtain ⟨z, hz, rfl⟩ := inNc (n := 40) 40 rfl hv (by decide)
        have h1 := csheet_t t sort (nI z) M (by omega) ⟨hs, h.2.1.2⟩ hv
        have m1 := msheet_t t sort (nI z) (u1 (u1 (sl M (33 + t) (zL (M.2 (33 + t)) 0 40)) 37 t sort) 38 t (nI z)) (by omega) h.2 h2
        have eq : ∀ c, c ∉ [37, 38, 53, 54, 55] → (su (shM (u1 (u1 (sl M (33 + t) (zL (M.2 (33 + t)) 0 40)) 37 t sort) 38 t (nI z)) t sort (nI z)) 55 (zR ((u1 (u1 (sl M (33 + t) (zL (M.2 (33 + t)) 0 40)) 37 t sort) 38 t (nI z)).1 55) (40 * t) 40)).1 c = M.1 c := by
          intro c hc
          simp at hc
          unfold shM
          rw [su_ne _ _ _ _ hc.2.2.2.2, su_ne _ _ _ _ hc.2.2.2.1, su_ne _ _ _ _ hc.2.2.1, u1_o _ _ _ _ hc.2.1, u1_o _ _ _ _ hc.1]
          rfl
        have q37 : (su (shM (u1 (u1 (sl M (33 + t) (zL (M.2 (33 + t)) 0 40)) 37 t sort) 38 t (nI z)) t sort (nI z)) 55 (zR ((u1 (u1 (sl M (33 + t) (zL (M.2 (33 + t)) 0 40)) 37 t sort) 38 t (nI z)).1 55) (40 * t) 40)).1 37 = upd (M.1 37) t sort := by
          unfold shM
          rw [su_ne _ _ _ _ (by decide), su_ne _ _ _ _ (by decide), su_ne _ _ _ _ (by decide), u1_o _ _ _ _ (by decide)]
          funext b; simp [u1, sl, upd]
        have q38 : (su (shM (u1 (u1 (sl M (33 + t) (zL (M.2 (33 + t)) 0 40)) 37 t sort) 38 t (nI z)) t sort (nI z)) 55 (zR ((u1 (u1 (sl M (33 + t) (zL (M.2 (33 + t)) 0 40)) 37 t sort) 38 t (nI z)).1 55) (40 * t) 40)).1 38 = upd (M.1 38) t (nI z) := by
          unfold shM
          rw [su_ne _ _ _ _ (by decide), su_ne _ _ _ _ (by decide), su_ne _ _ _ _ (by decide)]
          funext b; simp [u1, sl, upd]
        have q53 : (su (shM (u1 (u1 (sl M (33 + t) (zL (M.2 (33 + t)) 0 40)) 37 t sort) 38 t (nI z)) t sort (nI z)) 55 (zR ((u1 (u1 (sl M (33 + t) (zL (M.2 (33 + t)) 0 40)) 37 t sort) 38 t (nI z)).1 55) (40 * t) 40)).1 53 = upd (M.1 53) t sort := by
          unfold shM
          rw [su_ne _ _ _ _ (by decide), su_ne _ _ _ _ (by decide), su_at, u1_o _ _ _ _ (by decide), u1_o _ _ _ _ (by decide)]
          rfl
        have q54 : (su (shM (u1 (u1 (sl M (33 + t) (zL (M.2 (33 + t)) 0 40)) 37 t sort) 38 t (nI z)) t sort (nI z)) 55 (zR ((u1 (u1 (sl M (33 + t) (zL (M.2 (33 + t)) 0 40)) 37 t sort) 38 t (nI z)).1 55) (40 * t) 40)).1 54 = upd (M.1 54) t (nI z) := by
          unfold shM
          rw [su_ne _ _ _ _ (by decide), su_at, u1_o _ _ _ _ (by decide), u1_o _ _ _ _ (by decide), if_neg (Int32.not_lt.mpr hs)]
          rfl
        have q55 : (su (shM (u1 (u1 (sl M (33 + t) (zL (M.2 (33 + t)) 0 40)) 37 t sort) 38 t (nI z)) t sort (nI z)) 55 (zR ((u1 (u1 (sl M (33 + t) (zL (M.2 (33 + t)) 0 40)) 37 t sort) 38 t (nI z)).1 55) (40 * t) 40)).1 55 = zR (M.1 55) (40 * t) 40 := by
          rw [su_at, u1_o _ _ _ _ (by decide), u1_o _ _ _ _ (by decide)]
          rfl
        have q2 : (su (shM (u1 (u1 (sl M (33 + t) (zL (M.2 (33 + t)) 0 40)) 37 t sort) 38 t (nI z)) t sort (nI z)) 55 (zR ((u1 (u1 (sl M (33 + t) (zL (M.2 (33 + t)) 0 40)) 37 t sort) 38 t (nI z)).1 55) (40 * t) 40)).2 = (sl M (33 + t) (zL (M.2 (33 + t)) 0 40)).2 := rfl
        refine jo_x h1 m1 (n := n) ?_
        generalize su (shM (u1 (u1 (sl M (33 + t) (zL (M.2 (33 + t)) 0 40)) 37 t sort) 38 t (nI z)) t sort (nI z)) 55 (zR ((u1 (u1 (sl M (33 + t) (zL (M.2 (33 + t)) 0 40)) 37 t sort) 38 t (nI z)).1 55) (40 * t) 40) = M2 at *
        have e0 := eq 0 (by decide)
        have e46 := eq 46 (by decide)
        refine IV_parts hI _ eq (fun c a b => by simp; omega) (by decide) (Kp_l eq (by rw [e0]) (by rw [e46]) (fun c a b => by simp; omega) (by decide) kp) (Tp_of (by rw [eq 28 (by decide)]) (by rw [e46]) (eq 29 (by decide)) (eq 51 (by decide)) tp) (Rw_of (by rw [e0]) (by rw [e46]) (eq 30 (by decide)) (eq 52 (by decide)) rw') ?_ (Sv_of (eq 40 (by decide)) (eq 41 (by decide)) (eq 42 (by decide)) (eq 43 (by decide)) (eq 56 (by decide)) (eq 57 (by decide)) (eq 58 (by decide)) sv) (Tc_of (by rw [eq 44 (by decide)]) (by rw [e46]) (eq 45 (by decide)) (eq 59 (by decide)) tc)
        refine Sh_set (t := t) (fun t' q => by rw [q37]; simp [upd, q]) (fun t' q => by rw [q38]; simp [upd, q]) (fun t' q => by rw [q53]; simp [upd, q]) (fun t' q => by rw [q54]; simp [upd, q]) (fun t' k q hk => by rw [q55]; exact zR_o _ q hk) (fun t' q => by rw [q2]; exact sl_ne _ _ _ _ (by omega)) ⟨⟨z, hz, by rw [q38]; simp [upd]⟩, ⟨z, hz, by rw [q54]; simp [upd]⟩, Or.inr ⟨by rw [q37, q53]; simp [upd], by rw [q53]; simp [upd]; exact ⟨hs, h.2.1.2⟩, by rw [q38, q54]; simp [upd], fun k hk => ?_⟩⟩ sh
        rw [q2, sl_at, q55]
        unfold zL zR
        rw [if_pos hk, if_pos (by omega)]
        rfl
      · have hm := m1_of h.2.1.1 hs
        subst hm
        have h1 := csheet_m t v M (by omega)
        have m1 := msheet_t t (-1) v (u1 M 37 t (-1)) (by omega) h.2 h2
        have eq : ∀ c, c ∉ [37, 53, 54, 55] → (su (shM (u1 M 37 t (-1)) t (-1) v) 55 (zR ((u1 M 37 t (-1)).1 55) (40 * t) 40)).1 c = M.1 c := by
          intro c hc
          simp at hc
          unfold shM
          rw [su_ne _ _ _ _ hc.2.2.2, su_ne _ _ _ _ hc.2.2.1, su_ne _ _ _ _ hc.2.1, u1_o _ _ _ _ hc.1]
        have q37 : (su (shM (u1 M 37 t (-1)) t (-1) v) 55 (zR ((u1 M 37 t (-1)).1 55) (40 * t) 40)).1 37 = upd (M.1 37) t (-1) := by
          unfold shM
          rw [su_ne _ _ _ _ (by decide), su_ne _ _ _ _ (by decide), su_ne _ _ _ _ (by decide)]
          funext b; simp [u1, upd]
        have q53 : (su (shM (u1 M 37 t (-1)) t (-1) v) 55 (zR ((u1 M 37 t (-1)).1 55) (40 * t) 40)).1 53 = upd (M.1 53) t (-1) := by
          unfold shM
          rw [su_ne _ _ _ _ (by decide), su_ne _ _ _ _ (by decide), su_at, u1_o _ _ _ _ (by decide)]
        have q54 : (su (shM (u1 M 37 t (-1)) t (-1) v) 55 (zR ((u1 M 37 t (-1)).1 55) (40 * t) 40)).1 54 = upd (M.1 54) t 0 := by
          unfold shM
          rw [su_ne _ _ _ _ (by decide), su_at, u1_o _ _ _ _ (by decide), if_pos (by decide)]
        have q55 : (su (shM (u1 M 37 t (-1)) t (-1) v) 55 (zR ((u1 M 37 t (-1)).1 55) (40 * t) 40)).1 55 = zR (M.1 55) (40 * t) 40 := by
          rw [su_at, u1_o _ _ _ _ (by decide)]
        have q2 : (su (shM (u1 M 37 t (-1)) t (-1) v) 55 (zR ((u1 M 37 t (-1)).1 55) (40 * t) 40)).2 = M.2 := rfl
        refine jo_x h1 m1 (n := n) ?_
        generalize su (shM (u1 M 37 t (-1)) t (-1) v) 55 (zR ((u1 M 37 t (-1)).1 55) (40 * t) 40) = M2 at *
        have e0 := eq 0 (by decide)
        have e46 := eq 46 (by decide)
        have e38 := eq 38 (by decide)
        refine IV_parts hI _ eq (fun c a b => by simp; omega) (by decide) (Kp_l eq (by rw [e0]) (by rw [e46]) (fun c a b => by simp; omega) (by decide) kp) (Tp_of (by rw [eq 28 (by decide)]) (by rw [e46]) (eq 29 (by decide)) (eq 51 (by decide)) tp) (Rw_of (by rw [e0]) (by rw [e46]) (eq 30 (by decide)) (eq 52 (by decide)) rw') ?_ (Sv_of (eq 40 (by decide)) (eq 41 (by decide)) (eq 42 (by decide)) (eq 43 (by decide)) (eq 56 (by decide)) (eq 57 (by decide)) (eq 58 (by decide)) sv) (Tc_of (by rw [eq 44 (by decide)]) (by rw [e46]) (eq 45 (by decide)) (eq 59 (by decide)) tc)
        exact Sh_set (t := t) (fun t' q => by rw [q37]; simp [upd, q]) (fun t' q => by rw [e38]) (fun t' q => by rw [q53]; simp [upd, q]) (fun t' q => by rw [q54]; simp [upd, q]) (fun t' k q hk => by rw [q55]; exact zR_o _ q hk) (fun t' q => by rw [q2]) ⟨by rw [e38]; exact (sh t (by omega)).1, ⟨0, by omega, by rw [q54]; simp [upd, nI_0]⟩, Or.inl ⟨by rw [q37]; simp [upd], by rw [q53]; simp [upd]⟩⟩ sh
  · exact jo_f hI (csheet_f t sort v M h) (msheet_f t sort v M h)
theorem op_put (hI : IV M n) (t i v : Int32) : JO mX5_put mX6_put [.int t, .int i, .int v] M := by
  by_cases h : 0 ≤ t ∧ t ≤ 3
  · obtain ⟨t, ht, rfl⟩ := inNc (n := 3) 3 rfl h (by decide)
    obtain ⟨hT, hx, kp, tp, rw', sh, sv, tc⟩ := id hI
    have s1 := sh t (by omega)
    by_cases hp : M.1 53 t < 0
    · exact jo_f hI (cput_n t i v M (by omega) (by rw [sh_m s1]; exact hp)) (mput_n t i v M (by omega) hp)
    · obtain ⟨z, hz, e38, e54, hd⟩ := sh_p s1 hp
      have hm : ¬ M.1 37 t = -1 := by rw [sh_m s1]; exact hp
      by_cases hi : 0 ≤ i ∧ i ≤ nI z - 1
      · have hz0 : z ≠ 0 := by
          intro e
          subst e
          exact absurd (Int32.le_trans hi.1 hi.2) (by decide)
        rw [nI_sub1 hz0] at hi
        obtain ⟨a, ha, rfl⟩ := inNc (n := z - 1) _ rfl hi (by omega)
        have h1 := cput_t t a z v M (by omega) hm (by omega) hz e38
        rw [sh_eq s1] at h1
        have m1 := mput_t t a z v (u2 M (33 + t) a (nwS (M.1 53 t) v).toInt64) (by omega) hp (by omega) hz e54
        refine jo_x h1 m1 (n := n) ?_
        have eq : ∀ c, c ∉ [55] → (su (u2 M (33 + t) a (nwS (M.1 53 t) v).toInt64) 55 (upd ((u2 M (33 + t) a (nwS (M.1 53 t) v).toInt64).1 55) (40 * t + a) (nwS ((u2 M (33 + t) a (nwS (M.1 53 t) v).toInt64).1 53 t) v))).1 c = M.1 c := by
          intro c hc
          simp at hc
          rw [su_ne _ _ _ _ hc]
          rfl
        have q55 : (su (u2 M (33 + t) a (nwS (M.1 53 t) v).toInt64) 55 (upd ((u2 M (33 + t) a (nwS (M.1 53 t) v).toInt64).1 55) (40 * t + a) (nwS ((u2 M (33 + t) a (nwS (M.1 53 t) v).toInt64).1 53 t) v))).1 55 = upd (M.1 55) (40 * t + a) (nwS (M.1 53 t) v) := su_at _ _ _
        have q2 : (su (u2 M (33 + t) a (nwS (M.1 53 t) v).toInt64) 55 (upd ((u2 M (33 + t) a (nwS (M.1 53 t) v).toInt64).1 55) (40 * t + a) (nwS ((u2 M (33 + t) a (nwS (M.1 53 t) v).toInt64).1 53 t) v))).2 = (u2 M (33 + t) a (nwS (M.1 53 t) v).toInt64).2 := rfl
        generalize su (u2 M (33 + t) a (nwS (M.1 53 t) v).toInt64) 55 (upd ((u2 M (33 + t) a (nwS (M.1 53 t) v).toInt64).1 55) (40 * t + a) (nwS ((u2 M (33 + t) a (nwS (M.1 53 t) v).toInt64).1 53 t) v)) = M2 at *
        have e0 := eq 0 (by decide)
        have e46 := eq 46 (by decide)
        refine IV_parts hI _ eq (fun c a b => by simp; omega) (by decide) (Kp_l eq (by rw [e0]) (by rw [e46]) (fun c a b => by simp; omega) (by decide) kp) (Tp_of (by rw [eq 28 (by decide)]) (by rw [e46]) (eq 29 (by decide)) (eq 51 (by decide)) tp) (Rw_of (by rw [e0]) (by rw [e46]) (eq 30 (by decide)) (eq 52 (by decide)) rw') ?_ (Sv_of (eq 40 (by decide)) (eq 41 (by decide)) (eq 42 (by decide)) (eq 43 (by decide)) (eq 56 (by decide)) (eq 57 (by decide)) (eq 58 (by decide)) sv) (Tc_of (by rw [eq 44 (by decide)]) (by rw [e46]) (eq 45 (by decide)) (eq 59 (by decide)) tc)
        refine Sh_set (t := t) (fun t' q => by rw [eq 37 (by decide)]) (fun t' q => by rw [eq 38 (by decide)]) (fun t' q => by rw [eq 53 (by decide)]) (fun t' q => by rw [eq 54 (by decide)]) (fun t' k q hk => by rw [q55]; simp only [upd]; rw [if_neg (by omega)]) (fun t' q => by rw [q2]; funext b; simp only [u2]; rw [if_neg (by omega)]) ?_ sh
        unfold SH1
        rw [eq 37 (by decide), eq 38 (by decide), eq 53 (by decide), eq 54 (by decide)]
        refine ⟨s1.1, s1.2.1, Or.inr ⟨sh_eq s1, ?_, e38.trans e54.symm, fun k hk => ?_⟩⟩
        · rcases s1.2.2 with ⟨x, y⟩ | ⟨x, y, -⟩
          · rw [y] at hp; exact absurd (by decide) hp
          · exact y
        · rw [q55, q2]
          simp only [u2, upd]
          by_cases c : k = a
          · subst c; simp
          · rw [if_neg (fun q => c q.2), if_neg (by omega)]; exact hd k hk
      · exact jo_f hI (cput_o t i v M (by omega) hm (by rw [e38]; exact hi)) (mput_o t i v M (by omega) hp (by rw [e54]; exact hi))
  · exact jo_f hI (cput_f t i v M h) (mput_f t i v M h)
end O6

