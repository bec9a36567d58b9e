/-! class and model side by side: what holds between calls -/
def TW (s : Nat → Int32) (n : Nat) : Prop := WF s n ∧ WL s n ∧ LB s
def Kp (M : Mm) : Prop := (M.1 0 3 = 0 ∧ M.1 46 4 = 0) ∨ (¬ M.1 0 3 = 0 ∧ ¬ M.1 46 4 = 0 ∧ ∃ k, TW (M.1 48) k ∧ RX M 19 (M.1 48) k)
def Tp (M : Mm) : Prop := ∃ t L, TP M t L ∧ M.1 28 1 = nI L ∧ M.1 29 = M.1 51
def Rw (M : Mm) : Prop := (∃ z, z ≤ 10 ∧ M.1 0 6 = nI z ∧ M.1 46 13 = nI z) ∧ M.1 30 = M.1 52
def SH1 (M : Mm) (t : Nat) : Prop := (∃ z, z ≤ 40 ∧ M.1 38 t = nI z) ∧ (∃ z, z ≤ 40 ∧ M.1 54 t = nI z) ∧ ((M.1 37 t = -1 ∧ M.1 53 t = -1) ∨ (M.1 37 t = M.1 53 t ∧ (0 ≤ M.1 53 t ∧ M.1 53 t ≤ 3) ∧ M.1 38 t = M.1 54 t ∧ ∀ k, k < 40 → M.2 (33 + t) k = (M.1 55 (40 * t + k)).toInt64))
def Sh (M : Mm) : Prop := ∀ t, t < 4 → SH1 M t
def Sv (M : Mm) : Prop := ∀ h, h < 4 → RSh M h
def Tc (M : Mm) : Prop := (∃ c, c ≤ 30 ∧ M.1 44 1 = nI c ∧ M.1 46 21 = nI c) ∧ M.1 45 = M.1 59
def IV (M : Mm) (n : Nat) : Prop := TW (M.1 47) n ∧ RX M 1 (M.1 47) n ∧ Kp M ∧ Tp M ∧ Rw M ∧ Sh M ∧ Sv M ∧ Tc M
theorem Kp_of {M M' : Mm} (h0 : M'.1 0 3 = M.1 0 3) (h4 : M'.1 46 4 = M.1 46 4) (h19 : ∀ i, i ≤ 6 → M'.1 (19 + i) = M.1 (19 + i)) (h48 : M'.1 48 = M.1 48) (h : Kp M) : Kp M' := by
  unfold Kp
  rw [h0, h4, h48]
  rcases h with h | ⟨a, b, k, c, d⟩
  · exact Or.inl h
  · exact Or.inr ⟨a, b, k, c, RX_of d h19⟩
theorem Tp_of {M M' : Mm} (h1 : M'.1 28 1 = M.1 28 1) (h6 : M'.1 46 6 = M.1 46 6) (h29 : M'.1 29 = M.1 29) (h51 : M'.1 51 = M.1 51) (h : Tp M) : Tp M' := by
  obtain ⟨t, L, a, b, c⟩ := h
  exact ⟨t, L, ⟨by rw [h6]; exact a.1, a.2.1, a.2.2.1, fun i hi => by rw [h51]; exact a.2.2.2 i hi⟩, by rw [h1]; exact b, by rw [h29, h51]; exact c⟩
theorem Rw_of {M M' : Mm} (h0 : M'.1 0 6 = M.1 0 6) (h6 : M'.1 46 13 = M.1 46 13) (h30 : M'.1 30 = M.1 30) (h52 : M'.1 52 = M.1 52) (h : Rw M) : Rw M' := by
  unfold Rw
  rw [h0, h6, h30, h52]
  exact h
theorem Sh_of {M M' : Mm} (a : M'.1 37 = M.1 37) (b : M'.1 38 = M.1 38) (c : M'.1 53 = M.1 53) (d : M'.1 54 = M.1 54) (e : M'.1 55 = M.1 55) (f : M'.2 = M.2) (h : Sh M) : Sh M' := by
  intro t ht
  unfold SH1
  rw [a, b, c, d, e, f]
  exact h t ht
theorem Sv_of {M M' : Mm} (a : M'.1 40 = M.1 40) (b : M'.1 41 = M.1 41) (c : M'.1 42 = M.1 42) (d : M'.1 43 = M.1 43) (e : M'.1 56 = M.1 56) (f : M'.1 57 = M.1 57) (g : M'.1 58 = M.1 58) (h : Sv M) : Sv M' := by
  intro t ht
  unfold RSh
  rw [a, b, c, d, e, f, g]
  exact h t ht
theorem Tc_of {M M' : Mm} (a : M'.1 44 1 = M.1 44 1) (b : M'.1 46 21 = M.1 46 21) (c : M'.1 45 = M.1 45) (d : M'.1 59 = M.1 59) (h : Tc M) : Tc M' := by
  unfold Tc
  rw [a, b, c, d]
  exact h
/-- all but the trees alike -/
def AG (M M' : Mm) : Prop := (∀ c, (c = 0 ∨ 18 < c) → c ≠ 47 → c ≠ 49 → c ≠ 50 → M'.1 c = M.1 c) ∧ M'.2 = M.2
theorem AG.refl (M : Mm) : AG M M := ⟨fun _ _ _ _ _ => rfl, rfl⟩
theorem AG.trans {M M' M'' : Mm} (h : AG M M') (h2 : AG M' M'') : AG M M'' := ⟨fun c a b d e => (h2.1 c a b d e).trans (h.1 c a b d e), h2.2.trans h.2⟩
theorem FC.ag {M M' : Mm} (h : FC M M') : AG M M' := ⟨fun c a _ _ _ => h.1 c a, h.2⟩
theorem AG_su {M : Mm} {c : Nat} (f : Nat → Int32) (h : c = 47 ∨ c = 49 ∨ c = 50) : AG M (su M c f) := ⟨fun a _ h1 h2 h3 => su_ne _ _ _ _ (by omega), rfl⟩
theorem AG_rest {M M' : Mm} (g : AG M M') (h : Kp M ∧ Tp M ∧ Rw M ∧ Sh M ∧ Sv M ∧ Tc M) : Kp M' ∧ Tp M' ∧ Rw M' ∧ Sh M' ∧ Sv M' ∧ Tc M' := by
  have e : ∀ c, (c = 0 ∨ 18 < c) → c ≠ 47 → c ≠ 49 → c ≠ 50 → M'.1 c = M.1 c := g.1
  have e0 := e 0 (by decide) (by decide) (by decide) (by decide)
  have e28 := e 28 (by decide) (by decide) (by decide) (by decide)
  have e44 := e 44 (by decide) (by decide) (by decide) (by decide)
  have e46 := e 46 (by decide) (by decide) (by decide) (by decide)
  obtain ⟨h1, h2, h3, h4, h5, h6⟩ := h
  exact ⟨Kp_of (by rw [e0]) (by rw [e46]) (fun i hi => e _ (by omega) (by omega) (by omega) (by omega)) (e 48 (by decide) (by decide) (by decide) (by decide)) h1,
    Tp_of (by rw [e28]) (by rw [e46]) (e 29 (by decide) (by decide) (by decide) (by decide)) (e 51 (by decide) (by decide) (by decide) (by decide)) h2,
    Rw_of (by rw [e0]) (by rw [e46]) (e 30 (by decide) (by decide) (by decide) (by decide)) (e 52 (by decide) (by decide) (by decide) (by decide)) h3,
    Sh_of (e 37 (by decide) (by decide) (by decide) (by decide)) (e 38 (by decide) (by decide) (by decide) (by decide)) (e 53 (by decide) (by decide) (by decide) (by decide)) (e 54 (by decide) (by decide) (by decide) (by decide)) (e 55 (by decide) (by decide) (by decide) (by decide)) g.2 h4,
    Sv_of (e 40 (by decide) (by decide) (by decide) (by decide)) (e 41 (by decide) (by decide) (by decide) (by decide)) (e 42 (by decide) (by decide) (by decide) (by decide)) (e 43 (by decide) (by decide) (by decide) (by decide)) (e 56 (by decide) (by decide) (by decide) (by decide)) (e 57 (by decide) (by decide) (by decide) (by decide)) (e 58 (by decide) (by decide) (by decide) (by decide)) h5,
    Tc_of (by rw [e44]) (by rw [e46]) (e 45 (by decide) (by decide) (by decide) (by decide)) (e 59 (by decide) (by decide) (by decide) (by decide)) h6⟩
/-- a call of both, with the same answer -/
def JO (mc mm : MI) (as : List Value) (M : Mm) : Prop := ∃ v, (∃ i, v = Value.int i) ∧ ∃ rc rm, rc < 20 ∧ rm < 20 ∧ K rc mc (.ref 0 :: as) M (fun r M1 => r = some v ∧ K rm mm (.ref 46 :: as) M1 (fun r2 M2 => r2 = some v ∧ ∃ n, IV M2 n))
def JOl (mc mm : MI) (as : List Value) (M : Mm) : Prop := ∃ v, (∃ i, v = Value.long i) ∧ ∃ rc rm, rc < 20 ∧ rm < 20 ∧ K rc mc (.ref 0 :: as) M (fun r M1 => r = some v ∧ K rm mm (.ref 46 :: as) M1 (fun r2 M2 => r2 = some v ∧ ∃ n, IV M2 n))
section JJ
variable {mc mm : MI} {as : List Value} {M : Mm} {n rc rm : Nat} {v : Int32}
theorem jo_f (hI : IV M n) (hc : K rc mc (.ref 0 :: as) M (Rt (some (.int v)) M)) (hm : K rm mm (.ref 46 :: as) M (Rt (some (.int v)) M)) (h1 : rc < 20 := by decide) (h2 : rm < 20 := by decide) : JO mc mm as M := by
  refine ⟨_, ⟨v, rfl⟩, rc, rm, h1, h2, K.mono hc ?_⟩
  rintro r M1 ⟨rfl, rfl⟩
  refine ⟨rfl, K.mono hm ?_⟩
  rintro r M2 ⟨rfl, rfl⟩
  exact ⟨rfl, n, hI⟩
theorem jo_fl {v : Int64} (hI : IV M n) (hc : K rc mc (.ref 0 :: as) M (Rt (some (.long v)) M)) (hm : K rm mm (.ref 46 :: as) M (Rt (some (.long v)) M)) (h1 : rc < 20 := by decide) (h2 : rm < 20 := by decide) : JOl mc mm as M := by
  refine ⟨_, ⟨v, rfl⟩, rc, rm, h1, h2, K.mono hc ?_⟩
  rintro r M1 ⟨rfl, rfl⟩
  refine ⟨rfl, K.mono hm ?_⟩
  rintro r M2 ⟨rfl, rfl⟩
  exact ⟨rfl, n, hI⟩
/-- the tree becomes another -/
theorem jo_t {s' : Nat → Int32} {n' : Nat} (hI : IV M n) (hc : K rc mc (.ref 0 :: as) M (Rq (some (.int v)) (fun M' => RX M' 1 s' n' ∧ FC M M'))) (hm : ∀ M1 : Mm, M1.1 47 = M.1 47 → K rm mm (.ref 46 :: as) M1 (Rt (some (.int v)) (su M1 47 s'))) (hT : TW s' n') (h1 : rc < 20 := by decide) (h2 : rm < 20 := by decide) : JO mc mm as M := by
  refine ⟨_, ⟨v, rfl⟩, rc, rm, h1, h2, K.mono hc ?_⟩
  rintro r M1 ⟨rfl, a, b⟩
  refine ⟨rfl, K.mono (hm M1 (b.1 47 (by omega))) ?_⟩
  rintro r M2 ⟨rfl, rfl⟩
  refine ⟨rfl, n', ?_, ?_, AG_rest (b.ag.trans (AG_su _ (Or.inl rfl))) hI.2.2⟩
  · rw [su_at]; exact hT
  · rw [su_at]; exact RX_of a (fun i hi => su_ne _ _ _ _ (by omega))
/-- the tree stays; things are tried -/
theorem jo_r (hI : IV M n) (hc : K rc mc (.ref 0 :: as) M (Rq (some (.int v)) (fun M' => RX M' 1 (M.1 47) n ∧ FC M M'))) (hm : ∀ M1 : Mm, M1.1 47 = M.1 47 → K rm mm (.ref 46 :: as) M1 (Rs (some (.int v)) M1)) (h1 : rc < 20 := by decide) (h2 : rm < 20 := by decide) : JO mc mm as M := by
  refine ⟨_, ⟨v, rfl⟩, rc, rm, h1, h2, K.mono hc ?_⟩
  rintro r M1 ⟨rfl, a, b⟩
  have e47 := b.1 47 (by omega)
  refine ⟨rfl, K.mono (hm M1 e47) ?_⟩
  rintro r M2 ⟨rfl, g, rfl⟩
  refine ⟨rfl, n, ?_, ?_, AG_rest (b.ag.trans (AG_su _ (Or.inr (Or.inl rfl)))) hI.2.2⟩
  · rw [su_ne _ _ _ _ (by decide), e47]; exact hI.1
  · rw [su_ne _ _ _ _ (by decide), e47]; exact RX_of a (fun i hi => su_ne _ _ _ _ (by omega))
theorem Rs_0 {K0 : Option Value} (h : K rm mm as M (Rt K0 M)) : K rm mm as M (Rs K0 M) := K.mono h (fun r M' q => ⟨q.1, M.1 49, by rw [q.2, su_self]⟩)
theorem Rs_a {K0 : Option Value} (h : K rm mm as M (Rt K0 (asd M))) : K rm mm as M (Rs K0 M) := K.mono h (fun r M' q => ⟨q.1, _, q.2⟩)
theorem Rq_0 {K0 : Option Value} {s : Nat → Int32} (hx : RX M 1 s n) (h : K rc mc as M (Rt K0 M)) : K rc mc as M (Rq K0 (fun M' => RX M' 1 s n ∧ FC M M')) := K.mono h (fun r M' q => ⟨q.1, by rw [q.2]; exact ⟨hx, FC.refl M⟩⟩)
end JJ

