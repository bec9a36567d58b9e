/-! the constructors -/
def plW (cs : C3) (a : Nat → Nat) : va_W := [(a 0, .inr (0, [.ref (a 1), .int 0, .int 0, .int 0, .int 0, .int 0])), (a 1, .inl (cs.1, 30, .inl (fun _ => 0)))]
def svW (cs : C3) (a : Nat → Nat) : va_W := [(a 0, .inr (2, [.ref (a 1), .ref (a 2), .ref (a 3), .ref (a 4)])), (a 1, .inl (cs.1, 4, .inl (fun _ => 0))), (a 2, .inl (cs.1, 4, .inl (fun _ => 0))), (a 3, .inl (cs.1, 4, .inl (fun _ => 0))), (a 4, .inl (cs.1, 4, .inl (fun _ => 0)))]
def tpW (cs : C3) (a : Nat → Nat) : va_W := [(a 0, .inr (3, [.ref (a 1), .int 0, .int 0, .int 0, .int 2, .int 0])), (a 1, .inl (cs.1, 200, .inl (fun _ => 0)))]
def trW (cs : C3) (a : Nat → Nat) : va_W := [(a 0, .inr (4, [.ref (a 1), .ref (a 2), .ref (a 3), .ref (a 4), .ref (a 5), .ref (a 6), .int 0, .int 0, .int 0, .int 0, .int 1, .int 0, .ref (a 7), .ref (a 8)])), (a 1, .inl (cs.1, 4, .inl (sv 61))), (a 2, .inl (cs.1, 8, .inl (fun _ => 0))), (a 3, .inl (cs.1, 8, .inl (fun _ => 0))), (a 4, .inl (cs.1, 8, .inl (fun _ => 0))), (a 5, .inl (cs.1, 8, .inl (fun _ => 0))), (a 6, .inl (cs.1, 8, .inl (fun _ => 0))), (a 7, .inl (cs.1, 9, .inl (fun _ => 0))), (a 8, .inl (cs.1, 9, .inl (fun _ => 0)))]
def m1R : Nat → Int32 := upd (upd (upd (upd (fun _ => 0) (0 : Int32).toNatClampNeg (-1)) (1 : Int32).toNatClampNeg (-1)) (2 : Int32).toNatClampNeg (-1)) (3 : Int32).toNatClampNeg (-1)
def shW (cs : C3) (a : Nat → Nat) : va_W := [(a 0, .inr (1, [.ref (a 2), .ref (a 1), .ref (a 3)])), (a 2, .inl (cs.2.2, 4, .inr (.inr (.inr (.inr (fun i => some (a (4 + 2 * i)))))))), (a 4, .inl (cs.2.1, 40, .inr (.inl (fun _ => 0)))), (a 6, .inl (cs.2.1, 40, .inr (.inl (fun _ => 0)))), (a 8, .inl (cs.2.1, 40, .inr (.inl (fun _ => 0)))), (a 10, .inl (cs.2.1, 40, .inr (.inl (fun _ => 0)))), (a 1, .inl (cs.1, 4, .inl m1R)), (a 3, .inl (cs.1, 4, .inl (fun _ => 0)))]
def aS (h0 q1 q2 : Nat) (qm : Nat → Nat) : Nat → Nat := fun j => if j % 2 = 1 then (if j = 1 then q1 else q2) else if j = 0 then h0 else qm (j / 2 - 1)
def lpW (cs : C3) (a : Nat → Nat) : va_W := (a 0, .inr (5, [.ref (a 1), .ref (a 2), .ref (a 3), .int 0, .ref (a 4), .ref (a 8), .int 0, .ref (a 5), .ref (a 6), .ref (a 7)])) :: (((((((([] ++ trW cs (fun i => a (8 * i + 1))) ++ trW cs (fun i => a (8 * i + 2))) ++ trW cs (fun i => a (8 * i + 3))) ++ tpW cs (fun i => a (8 * i + 4))) ++ [(a 8, .inl (cs.1, 30, .inl (fun _ => 0)))]) ++ shW cs (fun i => a (8 * i + 5))) ++ svW cs (fun i => a (8 * i + 6))) ++ plW cs (fun i => a (8 * i + 7)))
def aL (h0 r : Nat) (a1 a2 a3 a4 a5 a6 a7 : Nat → Nat) : Nat → Nat := fun j => if j % 8 = 1 then a1 (j / 8) else if j % 8 = 2 then a2 (j / 8) else if j % 8 = 3 then a3 (j / 8) else if j % 8 = 4 then a4 (j / 8) else if j % 8 = 5 then a5 (j / 8) else if j % 8 = 6 then a6 (j / 8) else if j % 8 = 7 then a7 (j / 8) else if j = 0 then h0 else r
theorem aL_1 (h0 r : Nat) (a1 a2 a3 a4 a5 a6 a7 : Nat → Nat) : (fun i => aL h0 r a1 a2 a3 a4 a5 a6 a7 (8 * i + 1)) = a1 ∧ (fun i => aL h0 r a1 a2 a3 a4 a5 a6 a7 (8 * i + 2)) = a2 ∧ (fun i => aL h0 r a1 a2 a3 a4 a5 a6 a7 (8 * i + 3)) = a3 ∧ (fun i => aL h0 r a1 a2 a3 a4 a5 a6 a7 (8 * i + 4)) = a4 ∧ (fun i => aL h0 r a1 a2 a3 a4 a5 a6 a7 (8 * i + 5)) = a5 ∧ (fun i => aL h0 r a1 a2 a3 a4 a5 a6 a7 (8 * i + 6)) = a6 ∧ (fun i => aL h0 r a1 a2 a3 a4 a5 a6 a7 (8 * i + 7)) = a7 ∧ aL h0 r a1 a2 a3 a4 a5 a6 a7 0 = h0 ∧ aL h0 r a1 a2 a3 a4 a5 a6 a7 8 = r := by
  refine ⟨?_, ?_, ?_, ?_, ?_, ?_, ?_, rfl, rfl⟩
  · funext i; unfold aL; rw [if_pos (by omega)]; congr 1; omega
  · funext i; unfold aL; rw [if_neg (by omega), if_pos (by omega)]; congr 1; omega
  · funext i; unfold aL; rw [if_neg (by omega), if_neg (by omega), if_pos (by omega)]; congr 1; omega
  · funext i; unfold aL; rw [if_neg (by omega), if_neg (by omega), if_neg (by omega), if_pos (by omega)]; congr 1; omega
  · funext i; unfold aL; rw [if_neg (by omega), if_neg (by omega), if_neg (by omega), if_neg (by omega), if_pos (by omega)]; congr 1; omega
  · funext i; unfold aL; rw [if_neg (by omega), if_neg (by omega), if_neg (by omega), if_neg (by omega), if_neg (by omega), if_pos (by omega)]; congr 1; omega
  · funext i; unfold aL; rw [if_neg (by omega), if_neg (by omega), if_neg (by omega), if_neg (by omega), if_neg (by omega), if_neg (by omega), if_pos (by omega)]; congr 1; omega

theorem df_0 : ∀ j, j < 6 → defaultValue (tyF 0 j) = vp_V [.null, .int 0, .int 0, .int 0, .int 0, .int 0] j := by
  intro j hj
  rcases (show j = 0 ∨ j = 1 ∨ j = 2 ∨ j = 3 ∨ j = 4 ∨ j = 5 by omega) with rfl | rfl | rfl | rfl | rfl | rfl <;> rfl
theorem df_1 : ∀ j, j < 3 → defaultValue (tyF 1 j) = vp_V [.null, .null, .null] j := by
  intro j hj
  rcases (show j = 0 ∨ j = 1 ∨ j = 2 by omega) with rfl | rfl | rfl <;> rfl
theorem df_2 : ∀ j, j < 4 → defaultValue (tyF 2 j) = vp_V [.null, .null, .null, .null] j := by
  intro j hj
  rcases (show j = 0 ∨ j = 1 ∨ j = 2 ∨ j = 3 by omega) with rfl | rfl | rfl | rfl <;> rfl
theorem df_3 : ∀ j, j < 6 → defaultValue (tyF 3 j) = vp_V [.null, .int 0, .int 0, .int 0, .int 0, .int 0] j := by
  intro j hj
  rcases (show j = 0 ∨ j = 1 ∨ j = 2 ∨ j = 3 ∨ j = 4 ∨ j = 5 by omega) with rfl | rfl | rfl | rfl | rfl | rfl <;> rfl
theorem df_4 : ∀ j, j < 14 → defaultValue (tyF 4 j) = vp_V [.null, .null, .null, .null, .null, .null, .int 0, .int 0, .int 0, .int 0, .int 0, .int 0, .null, .null] j := by
  intro j hj
  rcases (show j = 0 ∨ j = 1 ∨ j = 2 ∨ j = 3 ∨ j = 4 ∨ j = 5 ∨ j = 6 ∨ j = 7 ∨ j = 8 ∨ j = 9 ∨ j = 10 ∨ j = 11 ∨ j = 12 ∨ j = 13 by omega) with rfl | rfl | rfl | rfl | rfl | rfl | rfl | rfl | rfl | rfl | rfl | rfl | rfl | rfl <;> rfl
theorem df_5 : ∀ j, j < 10 → defaultValue (tyF 5 j) = vp_V [.null, .null, .null, .int 0, .null, .null, .int 0, .null, .null, .null] j := by
  intro j hj
  rcases (show j = 0 ∨ j = 1 ∨ j = 2 ∨ j = 3 ∨ j = 4 ∨ j = 5 ∨ j = 6 ∨ j = 7 ∨ j = 8 ∨ j = 9 by omega) with rfl | rfl | rfl | rfl | rfl | rfl | rfl | rfl | rfl | rfl <;> rfl
theorem df_6 : ∀ j, j < 26 → defaultValue (tyF 6 j) = vp_V [.null, .null, .null, .null, .int 0, .null, .int 0, .int 0, .int 0, .int 0, .int 0, .int 0, .null, .int 0, .null, .null, .null, .null, .null, .null, .null, .int 0, .int 0, .int 0, .int 0, .int 0] j := by
  intro j hj
  rcases (show j = 0 ∨ j = 1 ∨ j = 2 ∨ j = 3 ∨ j = 4 ∨ j = 5 ∨ j = 6 ∨ j = 7 ∨ j = 8 ∨ j = 9 ∨ j = 10 ∨ j = 11 ∨ j = 12 ∨ j = 13 ∨ j = 14 ∨ j = 15 ∨ j = 16 ∨ j = 17 ∨ j = 18 ∨ j = 19 ∨ j = 20 ∨ j = 21 ∨ j = 22 ∨ j = 23 ∨ j = 24 ∨ j = 25 by omega) with rfl | rfl | rfl | rfl | rfl | rfl | rfl | rfl | rfl | rfl | rfl | rfl | rfl | rfl | rfl | rfl | rfl | rfl | rfl | rfl | rfl | rfl | rfl | rfl | rfl | rfl <;> rfl
theorem init_0 : KC mX0_init 0 [.null, .int 0, .int 0, .int 0, .int 0, .int 0] 1 1 30 plW := by
  refine KC_go 0 o_X0_init rfl rfl rfl ?_
  intro p l e s m args below meth c A D cs a61 h0 Q X hret
  refine N_al X (by decide +kernel) ?_
  refine N_obj (idx := 3) X (by decide +kernel) (in_gw 231 (by decide +kernel) rfl) (Nat.le_of_ble_eq_true rfl) (Nat.le_of_ble_eq_true rfl) ?_
  refine N_al X (by decide +kernel) ?_
  refine N_bi (n := 30) (v := 30) X (by decide +kernel) rfl ?_
  refine N_newi (N := 30) X (by decide +kernel) rfl (by decide) (by decide) (Nat.le_of_ble_eq_true rfl) (Nat.le_of_ble_eq_true rfl) (fun q1 => ?_)
  refine N_putF (z := 9) (k := 0) X (by decide +kernel) rfl (by decide) (in_gw 232 (by decide +kernel) rfl) rfl rfl rfl rfl rfl (Nat.le_of_ble_eq_true rfl) ?_
  refine N_al X (by decide +kernel) ?_
  refine N_ic (n := 0) (v := 0) X (by decide +kernel) rfl ?_
  refine N_putI (z := 15) (k := 1) X (by decide +kernel) rfl (by decide) (in_gw 234 (by decide +kernel) rfl) rfl rfl rfl rfl (Nat.le_of_ble_eq_true rfl) ?_
  refine N_al X (by decide +kernel) ?_
  refine N_ic (n := 0) (v := 0) X (by decide +kernel) rfl ?_
  refine N_putI (z := 19) (k := 2) X (by decide +kernel) rfl (by decide) (in_gw 236 (by decide +kernel) rfl) rfl rfl rfl rfl (Nat.le_of_ble_eq_true rfl) ?_
  refine N_al X (by decide +kernel) ?_
  refine N_ic (n := 0) (v := 0) X (by decide +kernel) rfl ?_
  refine N_putI (z := 23) (k := 3) X (by decide +kernel) rfl (by decide) (in_gw 237 (by decide +kernel) rfl) rfl rfl rfl rfl (Nat.le_of_ble_eq_true rfl) ?_
  refine N_al X (by decide +kernel) ?_
  refine N_ic (n := 0) (v := 0) X (by decide +kernel) rfl ?_
  refine N_putI (z := 26) (k := 4) X (by decide +kernel) rfl (by decide) (in_gw 238 (by decide +kernel) rfl) rfl rfl rfl rfl (Nat.le_of_ble_eq_true rfl) ?_
  refine N_al X (by decide +kernel) ?_
  refine N_ic (n := 0) (v := 0) X (by decide +kernel) rfl ?_
  refine N_putI (z := 29) (k := 5) X (by decide +kernel) rfl (by decide) (in_gw 239 (by decide +kernel) rfl) rfl rfl rfl rfl (Nat.le_of_ble_eq_true rfl) ?_
  intro H locs ls hP hD hS hl
  exact hret 37 (fun i => ([h0, q1] : List Nat).getD i 0) H locs ls (by decide +kernel) rfl hP hD hS
theorem init_2 : KC mX2_init 2 [.null, .null, .null, .null] 1 4 16 svW := by
  refine KC_go 0 o_X2_init rfl rfl rfl ?_
  intro p l e s m args below meth c A D cs a61 h0 Q X hret
  refine N_al X (by decide +kernel) ?_
  refine N_obj (idx := 3) X (by decide +kernel) (in_gw 209 (by decide +kernel) rfl) (Nat.le_of_ble_eq_true rfl) (Nat.le_of_ble_eq_true rfl) ?_
  refine N_al X (by decide +kernel) ?_
  refine N_ic (n := 4) (v := 4) X (by decide +kernel) rfl ?_
  refine N_newi (N := 4) X (by decide +kernel) rfl (by decide) (by decide) (Nat.le_of_ble_eq_true rfl) (Nat.le_of_ble_eq_true rfl) (fun q1 => ?_)
  refine N_putF (z := 9) (k := 0) X (by decide +kernel) rfl (by decide) (in_gw 210 (by decide +kernel) rfl) rfl rfl rfl rfl rfl (Nat.le_of_ble_eq_true rfl) ?_
  refine N_al X (by decide +kernel) ?_
  refine N_ic (n := 4) (v := 4) X (by decide +kernel) rfl ?_
  refine N_newi (N := 4) X (by decide +kernel) rfl (by decide) (by decide) (Nat.le_of_ble_eq_true rfl) (Nat.le_of_ble_eq_true rfl) (fun q2 => ?_)
  refine N_putF (z := 15) (k := 1) X (by decide +kernel) rfl (by decide) (in_gw 211 (by decide +kernel) rfl) rfl rfl rfl rfl rfl (Nat.le_of_ble_eq_true rfl) ?_
  refine N_al X (by decide +kernel) ?_
  refine N_ic (n := 4) (v := 4) X (by decide +kernel) rfl ?_
  refine N_newi (N := 4) X (by decide +kernel) rfl (by decide) (by decide) (Nat.le_of_ble_eq_true rfl) (Nat.le_of_ble_eq_true rfl) (fun q3 => ?_)
  refine N_putF (z := 18) (k := 2) X (by decide +kernel) rfl (by decide) (in_gw 213 (by decide +kernel) rfl) rfl rfl rfl rfl rfl (Nat.le_of_ble_eq_true rfl) ?_
  refine N_al X (by decide +kernel) ?_
  refine N_ic (n := 4) (v := 4) X (by decide +kernel) rfl ?_
  refine N_newi (N := 4) X (by decide +kernel) rfl (by decide) (by decide) (Nat.le_of_ble_eq_true rfl) (Nat.le_of_ble_eq_true rfl) (fun q4 => ?_)
  refine N_putF (z := 21) (k := 3) X (by decide +kernel) rfl (by decide) (in_gw 215 (by decide +kernel) rfl) rfl rfl rfl rfl rfl (Nat.le_of_ble_eq_true rfl) ?_
  intro H locs ls hP hD hS hl
  exact hret 32 (fun i => ([h0, q1, q2, q3, q4] : List Nat).getD i 0) H locs ls (by decide +kernel) rfl hP hD hS
theorem init_3 : KC mX3_init 3 [.null, .int 0, .int 0, .int 0, .int 0, .int 0] 1 1 200 tpW := by
  refine KC_go 0 o_X3_init rfl rfl rfl ?_
  intro p l e s m args below meth c A D cs a61 h0 Q X hret
  refine N_al X (by decide +kernel) ?_
  refine N_obj (idx := 3) X (by decide +kernel) (in_gw 160 (by decide +kernel) rfl) (Nat.le_of_ble_eq_true rfl) (Nat.le_of_ble_eq_true rfl) ?_
  refine N_al X (by decide +kernel) ?_
  refine N_si (n := 200) (v := 200) X (by decide +kernel) rfl ?_
  refine N_newi (N := 200) X (by decide +kernel) rfl (by decide) (by decide) (Nat.le_of_ble_eq_true rfl) (Nat.le_of_ble_eq_true rfl) (fun q1 => ?_)
  refine N_putF (z := 9) (k := 0) X (by decide +kernel) rfl (by decide) (in_gw 161 (by decide +kernel) rfl) rfl rfl rfl rfl rfl (Nat.le_of_ble_eq_true rfl) ?_
  refine N_al X (by decide +kernel) ?_
  refine N_ic (n := 0) (v := 0) X (by decide +kernel) rfl ?_
  refine N_putI (z := 15) (k := 1) X (by decide +kernel) rfl (by decide) (in_gw 162 (by decide +kernel) rfl) rfl rfl rfl rfl (Nat.le_of_ble_eq_true rfl) ?_
  refine N_al X (by decide +kernel) ?_
  refine N_ic (n := 0) (v := 0) X (by decide +kernel) rfl ?_
  refine N_putI (z := 19) (k := 2) X (by decide +kernel) rfl (by decide) (in_gw 164 (by decide +kernel) rfl) rfl rfl rfl rfl (Nat.le_of_ble_eq_true rfl) ?_
  refine N_al X (by decide +kernel) ?_
  refine N_ic (n := 0) (v := 0) X (by decide +kernel) rfl ?_
  refine N_putI (z := 22) (k := 3) X (by decide +kernel) rfl (by decide) (in_gw 166 (by decide +kernel) rfl) rfl rfl rfl rfl (Nat.le_of_ble_eq_true rfl) ?_
  refine N_al X (by decide +kernel) ?_
  refine N_ic (n := 2) (v := 2) X (by decide +kernel) rfl ?_
  refine N_putI (z := 25) (k := 4) X (by decide +kernel) rfl (by decide) (in_gw 167 (by decide +kernel) rfl) rfl rfl rfl rfl (Nat.le_of_ble_eq_true rfl) ?_
  refine N_al X (by decide +kernel) ?_
  refine N_ic (n := 0) (v := 0) X (by decide +kernel) rfl ?_
  refine N_putI (z := 28) (k := 5) X (by decide +kernel) rfl (by decide) (in_gw 168 (by decide +kernel) rfl) rfl rfl rfl rfl (Nat.le_of_ble_eq_true rfl) ?_
  intro H locs ls hP hD hS hl
  exact hret 38 (fun i => ([h0, q1] : List Nat).getD i 0) H locs ls (by decide +kernel) rfl hP hD hS
theorem init_4 : KC mX4_init 4 [.null, .null, .null, .null, .null, .null, .int 0, .int 0, .int 0, .int 0, .int 0, .int 0, .null, .null] 1 8 62 trW := by
  refine KC_go 0 o_X4_init rfl rfl rfl ?_
  intro p l e s m args below meth c A D cs a61 h0 Q X hret
  refine N_al X (by decide +kernel) ?_
  refine N_obj (idx := 3) X (by decide +kernel) (in_gw 86 (by decide +kernel) rfl) (Nat.le_of_ble_eq_true rfl) (Nat.le_of_ble_eq_true rfl) ?_
  refine N_al X (by decide +kernel) ?_
  refine N_gets (idx := 9) X (by decide +kernel) (List.mem_filter.mpr ⟨List.mem_of_getElem? (i := 87) (by decide +kernel), rfl⟩) ?_
  refine N_clone (idx := 13) X (by decide +kernel) (in_gw 89 (by decide +kernel) rfl) (Nat.le_of_ble_eq_true rfl) (Nat.le_of_ble_eq_true rfl) (Nat.le_of_ble_eq_true rfl) (Nat.le_of_ble_eq_true rfl) (Nat.le_of_ble_eq_true rfl) (fun q1 => ?_)
  refine N_castA (idx := 14) X (by decide +kernel) (in_gw 95 (by decide +kernel) rfl) ?_
  refine N_putF (z := 18) (k := 0) X (by decide +kernel) rfl (by decide) (in_gw 96 (by decide +kernel) rfl) rfl rfl rfl rfl rfl (Nat.le_of_ble_eq_true rfl) ?_
  refine N_al X (by decide +kernel) ?_
  refine N_bi (n := 8) (v := 8) X (by decide +kernel) rfl ?_
  refine N_newi (N := 8) X (by decide +kernel) rfl (by decide) (by decide) (Nat.le_of_ble_eq_true rfl) (Nat.le_of_ble_eq_true rfl) (fun q2 => ?_)
  refine N_putF (z := 23) (k := 1) X (by decide +kernel) rfl (by decide) (in_gw 99 (by decide +kernel) rfl) rfl rfl rfl rfl rfl (Nat.le_of_ble_eq_true rfl) ?_
  refine N_al X (by decide +kernel) ?_
  refine N_bi (n := 8) (v := 8) X (by decide +kernel) rfl ?_
  refine N_newi (N := 8) X (by decide +kernel) rfl (by decide) (by decide) (Nat.le_of_ble_eq_true rfl) (Nat.le_of_ble_eq_true rfl) (fun q3 => ?_)
  refine N_putF (z := 26) (k := 2) X (by decide +kernel) rfl (by decide) (in_gw 101 (by decide +kernel) rfl) rfl rfl rfl rfl rfl (Nat.le_of_ble_eq_true rfl) ?_
  refine N_al X (by decide +kernel) ?_
  refine N_bi (n := 8) (v := 8) X (by decide +kernel) rfl ?_
  refine N_newi (N := 8) X (by decide +kernel) rfl (by decide) (by decide) (Nat.le_of_ble_eq_true rfl) (Nat.le_of_ble_eq_true rfl) (fun q4 => ?_)
  refine N_putF (z := 29) (k := 3) X (by decide +kernel) rfl (by decide) (in_gw 103 (by decide +kernel) rfl) rfl rfl rfl rfl rfl (Nat.le_of_ble_eq_true rfl) ?_
  refine N_al X (by decide +kernel) ?_
  refine N_bi (n := 8) (v := 8) X (by decide +kernel) rfl ?_
  refine N_newi (N := 8) X (by decide +kernel) rfl (by decide) (by decide) (Nat.le_of_ble_eq_true rfl) (Nat.le_of_ble_eq_true rfl) (fun q5 => ?_)
  refine N_putF (z := 32) (k := 4) X (by decide +kernel) rfl (by decide) (in_gw 105 (by decide +kernel) rfl) rfl rfl rfl rfl rfl (Nat.le_of_ble_eq_true rfl) ?_
  refine N_al X (by decide +kernel) ?_
  refine N_bi (n := 8) (v := 8) X (by decide +kernel) rfl ?_
  refine N_newi (N := 8) X (by decide +kernel) rfl (by decide) (by decide) (Nat.le_of_ble_eq_true rfl) (Nat.le_of_ble_eq_true rfl) (fun q6 => ?_)
  refine N_putF (z := 35) (k := 5) X (by decide +kernel) rfl (by decide) (in_gw 107 (by decide +kernel) rfl) rfl rfl rfl rfl rfl (Nat.le_of_ble_eq_true rfl) ?_
  refine N_al X (by decide +kernel) ?_
  refine N_ic (n := 0) (v := 0) X (by decide +kernel) rfl ?_
  refine N_putI (z := 38) (k := 6) X (by decide +kernel) rfl (by decide) (in_gw 109 (by decide +kernel) rfl) rfl rfl rfl rfl (Nat.le_of_ble_eq_true rfl) ?_
  refine N_al X (by decide +kernel) ?_
  refine N_ic (n := 0) (v := 0) X (by decide +kernel) rfl ?_
  refine N_putI (z := 42) (k := 7) X (by decide +kernel) rfl (by decide) (in_gw 112 (by decide +kernel) rfl) rfl rfl rfl rfl (Nat.le_of_ble_eq_true rfl) ?_
  refine N_al X (by decide +kernel) ?_
  refine N_ic (n := 0) (v := 0) X (by decide +kernel) rfl ?_
  refine N_putI (z := 45) (k := 8) X (by decide +kernel) rfl (by decide) (in_gw 115 (by decide +kernel) rfl) rfl rfl rfl rfl (Nat.le_of_ble_eq_true rfl) ?_
  refine N_al X (by decide +kernel) ?_
  refine N_ic (n := 0) (v := 0) X (by decide +kernel) rfl ?_
  refine N_putI (z := 48) (k := 9) X (by decide +kernel) rfl (by decide) (in_gw 117 (by decide +kernel) rfl) rfl rfl rfl rfl (Nat.le_of_ble_eq_true rfl) ?_
  refine N_al X (by decide +kernel) ?_
  refine N_ic (n := 1) (v := 1) X (by decide +kernel) rfl ?_
  refine N_putI (z := 51) (k := 10) X (by decide +kernel) rfl (by decide) (in_gw 119 (by decide +kernel) rfl) rfl rfl rfl rfl (Nat.le_of_ble_eq_true rfl) ?_
  refine N_al X (by decide +kernel) ?_
  refine N_ic (n := 0) (v := 0) X (by decide +kernel) rfl ?_
  refine N_putI (z := 54) (k := 11) X (by decide +kernel) rfl (by decide) (in_gw 121 (by decide +kernel) rfl) rfl rfl rfl rfl (Nat.le_of_ble_eq_true rfl) ?_
  refine N_al X (by decide +kernel) ?_
  refine N_bi (n := 9) (v := 9) X (by decide +kernel) rfl ?_
  refine N_newi (N := 9) X (by decide +kernel) rfl (by decide) (by decide) (Nat.le_of_ble_eq_true rfl) (Nat.le_of_ble_eq_true rfl) (fun q7 => ?_)
  refine N_putF (z := 57) (k := 12) X (by decide +kernel) rfl (by decide) (in_gw 123 (by decide +kernel) rfl) rfl rfl rfl rfl rfl (Nat.le_of_ble_eq_true rfl) ?_
  refine N_al X (by decide +kernel) ?_
  refine N_bi (n := 9) (v := 9) X (by decide +kernel) rfl ?_
  refine N_newi (N := 9) X (by decide +kernel) rfl (by decide) (by decide) (Nat.le_of_ble_eq_true rfl) (Nat.le_of_ble_eq_true rfl) (fun q8 => ?_)
  refine N_putF (z := 60) (k := 13) X (by decide +kernel) rfl (by decide) (in_gw 124 (by decide +kernel) rfl) rfl rfl rfl rfl rfl (Nat.le_of_ble_eq_true rfl) ?_
  intro H locs ls hP hD hS hl
  exact hret 103 (fun i => ([h0, q1, q2, q3, q4, q5, q6, q7, q8] : List Nat).getD i 0) H locs ls (by decide +kernel) rfl hP hD hS
theorem init_1 : KC mX1_init 1 [.null, .null, .null] 1 7 172 shW := by
  refine KC_go 0 o_X1_init rfl rfl rfl ?_
  intro p l e s m args below meth c A D cs a61 h0 Q X hret
  refine N_al X (by decide +kernel) ?_
  refine N_obj (idx := 3) X (by decide +kernel) (in_gw 187 (by decide +kernel) rfl) (Nat.le_of_ble_eq_true rfl) (Nat.le_of_ble_eq_true rfl) ?_
  refine N_al X (by decide +kernel) ?_
  refine N_ic (n := 4) (v := 4) X (by decide +kernel) rfl ?_
  refine N_bi (n := 40) (v := 40) X (by decide +kernel) rfl ?_
  refine N_multi (idx := 9) X (by decide +kernel) (in_gw 188 (by decide +kernel) rfl) (Nat.le_of_ble_eq_true rfl) (Nat.le_of_ble_eq_true rfl) (fun qm => ?_)
  refine N_putF (z := 11) (k := 0) X (by decide +kernel) rfl (by decide) (in_gw 190 (by decide +kernel) rfl) rfl rfl rfl rfl rfl (Nat.le_of_ble_eq_true rfl) ?_
  refine N_al X (by decide +kernel) ?_
  refine N_ic (n := 4) (v := 4) X (by decide +kernel) rfl ?_
  refine N_newi (N := 4) X (by decide +kernel) rfl (by decide) (by decide) (Nat.le_of_ble_eq_true rfl) (Nat.le_of_ble_eq_true rfl) (fun q1 => ?_)
  refine N_dup X (by decide +kernel) ?_
  refine N_ic (n := 0) (v := 0) X (by decide +kernel) rfl ?_
  refine N_ic (n := -1) (v := -1) X (by decide +kernel) rfl ?_
  refine N_iast X (by decide +kernel) (vlit (by decide)) ?_
  refine N_dup X (by decide +kernel) ?_
  refine N_ic (n := 1) (v := 1) X (by decide +kernel) rfl ?_
  refine N_ic (n := -1) (v := -1) X (by decide +kernel) rfl ?_
  refine N_iast X (by decide +kernel) (vlit (by decide)) ?_
  refine N_dup X (by decide +kernel) ?_
  refine N_ic (n := 2) (v := 2) X (by decide +kernel) rfl ?_
  refine N_ic (n := -1) (v := -1) X (by decide +kernel) rfl ?_
  refine N_iast X (by decide +kernel) (vlit (by decide)) ?_
  refine N_dup X (by decide +kernel) ?_
  refine N_ic (n := 3) (v := 3) X (by decide +kernel) rfl ?_
  refine N_ic (n := -1) (v := -1) X (by decide +kernel) rfl ?_
  refine N_iast X (by decide +kernel) (vlit (by decide)) ?_
  refine N_putF (z := 16) (k := 1) X (by decide +kernel) rfl (by decide) (in_gw 192 (by decide +kernel) rfl) rfl rfl rfl rfl rfl (Nat.le_of_ble_eq_true rfl) ?_
  refine N_al X (by decide +kernel) ?_
  refine N_ic (n := 4) (v := 4) X (by decide +kernel) rfl ?_
  refine N_newi (N := 4) X (by decide +kernel) rfl (by decide) (by decide) (Nat.le_of_ble_eq_true rfl) (Nat.le_of_ble_eq_true rfl) (fun q2 => ?_)
  refine N_putF (z := 20) (k := 2) X (by decide +kernel) rfl (by decide) (in_gw 194 (by decide +kernel) rfl) rfl rfl rfl rfl rfl (Nat.le_of_ble_eq_true rfl) ?_
  intro H locs ls hP hD hS hl
  have ef : (fun i => some (aS h0 q1 q2 qm (4 + 2 * i))) = (fun i => some (qm (1 + i))) := by
    funext i
    show some (if (4 + 2 * i) % 2 = 1 then (if 4 + 2 * i = 1 then q1 else q2) else if 4 + 2 * i = 0 then h0 else qm ((4 + 2 * i) / 2 - 1)) = _
    rw [if_neg (by omega), if_neg (by omega)]
    congr 2
    omega
  refine hret 45 (aS h0 q1 q2 qm) H locs ls (by decide +kernel) rfl ?_ ?_ hS
  · unfold shW
    rw [ef]
    exact hP
  · unfold shW
    rw [ef]
    exact hD
theorem init_5 : KC mX5_init 5 [.null, .null, .null, .int 0, .null, .null, .int 0, .null, .null, .null] 3 45 695 lpW := by
  refine KC_go 0 o_X5_init rfl rfl rfl ?_
  intro p l e s m args below meth c A D cs a61 h0 Q X hret
  refine N_al X (by decide +kernel) ?_
  refine N_obj (idx := 1) X (by decide +kernel) (in_gw 78 (by decide +kernel) rfl) (Nat.le_of_ble_eq_true rfl) (Nat.le_of_ble_eq_true rfl) ?_
  refine N_al X (by decide +kernel) ?_
  refine N_new (z := 7) (cj := 4) (fs2 := [.null, .null, .null, .null, .null, .null, .int 0, .int 0, .int 0, .int 0, .int 0, .int 0, .null, .null]) X (by decide +kernel) rfl (in_gw 81 (by decide +kernel) rfl) (in_gw 82 (by decide +kernel) rfl) (in_gw 59 (by decide +kernel) rfl) (df_4) (Nat.le_of_ble_eq_true rfl) (Nat.le_of_ble_eq_true rfl) (fun q1 => ?_)
  refine N_dup X (by decide +kernel) ?_
  refine N_callI (idx := 9) X init_4 o_X4_init rfl rfl rfl (in_gw 84 (by decide +kernel) rfl) (List.mem_filter.mpr ⟨List.mem_of_getElem? (i := 83) (by decide +kernel), rfl⟩) (by decide +kernel) ⟨(Nat.le_of_ble_eq_true rfl), (Nat.le_of_ble_eq_true rfl)⟩ (Nat.le_of_ble_eq_true rfl) ⟨(Nat.le_of_ble_eq_true rfl), (Nat.le_of_ble_eq_true rfl)⟩ (fun a1 ea1 => ?_)
  refine N_putF (z := 10) (k := 0) X (by decide +kernel) rfl (by decide) (in_gw 253 (by decide +kernel) rfl) rfl rfl rfl rfl rfl (Nat.le_of_ble_eq_true rfl) ?_
  refine N_al X (by decide +kernel) ?_
  refine N_new (z := 7) (cj := 4) (fs2 := [.null, .null, .null, .null, .null, .null, .int 0, .int 0, .int 0, .int 0, .int 0, .int 0, .null, .null]) X (by decide +kernel) rfl (in_gw 81 (by decide +kernel) rfl) (in_gw 82 (by decide +kernel) rfl) (in_gw 59 (by decide +kernel) rfl) (df_4) (Nat.le_of_ble_eq_true rfl) (Nat.le_of_ble_eq_true rfl) (fun q2 => ?_)
  refine N_dup X (by decide +kernel) ?_
  refine N_callI (idx := 9) X init_4 o_X4_init rfl rfl rfl (in_gw 84 (by decide +kernel) rfl) (List.mem_filter.mpr ⟨List.mem_of_getElem? (i := 83) (by decide +kernel), rfl⟩) (by decide +kernel) ⟨(Nat.le_of_ble_eq_true rfl), (Nat.le_of_ble_eq_true rfl)⟩ (Nat.le_of_ble_eq_true rfl) ⟨(Nat.le_of_ble_eq_true rfl), (Nat.le_of_ble_eq_true rfl)⟩ (fun a2 ea2 => ?_)
  refine N_putF (z := 16) (k := 1) X (by decide +kernel) rfl (by decide) (in_gw 254 (by decide +kernel) rfl) rfl rfl rfl rfl rfl (Nat.le_of_ble_eq_true rfl) ?_
  refine N_al X (by decide +kernel) ?_
  refine N_new (z := 7) (cj := 4) (fs2 := [.null, .null, .null, .null, .null, .null, .int 0, .int 0, .int 0, .int 0, .int 0, .int 0, .null, .null]) X (by decide +kernel) rfl (in_gw 81 (by decide +kernel) rfl) (in_gw 82 (by decide +kernel) rfl) (in_gw 59 (by decide +kernel) rfl) (df_4) (Nat.le_of_ble_eq_true rfl) (Nat.le_of_ble_eq_true rfl) (fun q3 => ?_)
  refine N_dup X (by decide +kernel) ?_
  refine N_callI (idx := 9) X init_4 o_X4_init rfl rfl rfl (in_gw 84 (by decide +kernel) rfl) (List.mem_filter.mpr ⟨List.mem_of_getElem? (i := 83) (by decide +kernel), rfl⟩) (by decide +kernel) ⟨(Nat.le_of_ble_eq_true rfl), (Nat.le_of_ble_eq_true rfl)⟩ (Nat.le_of_ble_eq_true rfl) ⟨(Nat.le_of_ble_eq_true rfl), (Nat.le_of_ble_eq_true rfl)⟩ (fun a3 ea3 => ?_)
  refine N_putF (z := 19) (k := 2) X (by decide +kernel) rfl (by decide) (in_gw 255 (by decide +kernel) rfl) rfl rfl rfl rfl rfl (Nat.le_of_ble_eq_true rfl) ?_
  refine N_al X (by decide +kernel) ?_
  refine N_ic (n := 0) (v := 0) X (by decide +kernel) rfl ?_
  refine N_putI (z := 22) (k := 3) X (by decide +kernel) rfl (by decide) (in_gw 256 (by decide +kernel) rfl) rfl rfl rfl rfl (Nat.le_of_ble_eq_true rfl) ?_
  refine N_al X (by decide +kernel) ?_
  refine N_new (z := 26) (cj := 3) (fs2 := [.null, .int 0, .int 0, .int 0, .int 0, .int 0]) X (by decide +kernel) rfl (in_gw 155 (by decide +kernel) rfl) (in_gw 156 (by decide +kernel) rfl) (in_gw 60 (by decide +kernel) rfl) (df_3) (Nat.le_of_ble_eq_true rfl) (Nat.le_of_ble_eq_true rfl) (fun q4 => ?_)
  refine N_dup X (by decide +kernel) ?_
  refine N_callI (idx := 28) X init_3 o_X3_init rfl rfl rfl (in_gw 158 (by decide +kernel) rfl) (List.mem_filter.mpr ⟨List.mem_of_getElem? (i := 157) (by decide +kernel), rfl⟩) (by decide +kernel) ⟨(Nat.le_of_ble_eq_true rfl), (Nat.le_of_ble_eq_true rfl)⟩ (Nat.le_of_ble_eq_true rfl) ⟨(Nat.le_of_ble_eq_true rfl), (Nat.le_of_ble_eq_true rfl)⟩ (fun a4 ea4 => ?_)
  refine N_putF (z := 29) (k := 4) X (by decide +kernel) rfl (by decide) (in_gw 257 (by decide +kernel) rfl) rfl rfl rfl rfl rfl (Nat.le_of_ble_eq_true rfl) ?_
  refine N_al X (by decide +kernel) ?_
  refine N_bi (n := 30) (v := 30) X (by decide +kernel) rfl ?_
  refine N_newi (N := 30) X (by decide +kernel) rfl (by decide) (by decide) (Nat.le_of_ble_eq_true rfl) (Nat.le_of_ble_eq_true rfl) (fun q5 => ?_)
  refine N_putF (z := 33) (k := 5) X (by decide +kernel) rfl (by decide) (in_gw 258 (by decide +kernel) rfl) rfl rfl rfl rfl rfl (Nat.le_of_ble_eq_true rfl) ?_
  refine N_al X (by decide +kernel) ?_
  refine N_ic (n := 0) (v := 0) X (by decide +kernel) rfl ?_
  refine N_putI (z := 37) (k := 6) X (by decide +kernel) rfl (by decide) (in_gw 259 (by decide +kernel) rfl) rfl rfl rfl rfl (Nat.le_of_ble_eq_true rfl) ?_
  refine N_al X (by decide +kernel) ?_
  refine N_new (z := 41) (cj := 1) (fs2 := [.null, .null, .null]) X (by decide +kernel) rfl (in_gw 182 (by decide +kernel) rfl) (in_gw 183 (by decide +kernel) rfl) (in_gw 61 (by decide +kernel) rfl) (df_1) (Nat.le_of_ble_eq_true rfl) (Nat.le_of_ble_eq_true rfl) (fun q6 => ?_)
  refine N_dup X (by decide +kernel) ?_
  refine N_callI (idx := 43) X init_1 o_X1_init rfl rfl rfl (in_gw 185 (by decide +kernel) rfl) (List.mem_filter.mpr ⟨List.mem_of_getElem? (i := 184) (by decide +kernel), rfl⟩) (by decide +kernel) ⟨(Nat.le_of_ble_eq_true rfl), (Nat.le_of_ble_eq_true rfl)⟩ (Nat.le_of_ble_eq_true rfl) ⟨(Nat.le_of_ble_eq_true rfl), (Nat.le_of_ble_eq_true rfl)⟩ (fun a6 ea6 => ?_)
  refine N_putF (z := 44) (k := 7) X (by decide +kernel) rfl (by decide) (in_gw 260 (by decide +kernel) rfl) rfl rfl rfl rfl rfl (Nat.le_of_ble_eq_true rfl) ?_
  refine N_al X (by decide +kernel) ?_
  refine N_new (z := 48) (cj := 2) (fs2 := [.null, .null, .null, .null]) X (by decide +kernel) rfl (in_gw 204 (by decide +kernel) rfl) (in_gw 205 (by decide +kernel) rfl) (in_gw 62 (by decide +kernel) rfl) (df_2) (Nat.le_of_ble_eq_true rfl) (Nat.le_of_ble_eq_true rfl) (fun q7 => ?_)
  refine N_dup X (by decide +kernel) ?_
  refine N_callI (idx := 50) X init_2 o_X2_init rfl rfl rfl (in_gw 207 (by decide +kernel) rfl) (List.mem_filter.mpr ⟨List.mem_of_getElem? (i := 206) (by decide +kernel), rfl⟩) (by decide +kernel) ⟨(Nat.le_of_ble_eq_true rfl), (Nat.le_of_ble_eq_true rfl)⟩ (Nat.le_of_ble_eq_true rfl) ⟨(Nat.le_of_ble_eq_true rfl), (Nat.le_of_ble_eq_true rfl)⟩ (fun a7 ea7 => ?_)
  refine N_putF (z := 51) (k := 8) X (by decide +kernel) rfl (by decide) (in_gw 261 (by decide +kernel) rfl) rfl rfl rfl rfl rfl (Nat.le_of_ble_eq_true rfl) ?_
  refine N_al X (by decide +kernel) ?_
  refine N_new (z := 55) (cj := 0) (fs2 := [.null, .int 0, .int 0, .int 0, .int 0, .int 0]) X (by decide +kernel) rfl (in_gw 226 (by decide +kernel) rfl) (in_gw 227 (by decide +kernel) rfl) (in_gw 63 (by decide +kernel) rfl) (df_0) (Nat.le_of_ble_eq_true rfl) (Nat.le_of_ble_eq_true rfl) (fun q8 => ?_)
  refine N_dup X (by decide +kernel) ?_
  refine N_callI (idx := 57) X init_0 o_X0_init rfl rfl rfl (in_gw 229 (by decide +kernel) rfl) (List.mem_filter.mpr ⟨List.mem_of_getElem? (i := 228) (by decide +kernel), rfl⟩) (by decide +kernel) ⟨(Nat.le_of_ble_eq_true rfl), (Nat.le_of_ble_eq_true rfl)⟩ (Nat.le_of_ble_eq_true rfl) ⟨(Nat.le_of_ble_eq_true rfl), (Nat.le_of_ble_eq_true rfl)⟩ (fun a8 ea8 => ?_)
  refine N_putF (z := 58) (k := 9) X (by decide +kernel) rfl (by decide) (in_gw 262 (by decide +kernel) rfl) rfl rfl rfl rfl rfl (Nat.le_of_ble_eq_true rfl) ?_
  intro H locs ls hP hD hS hl
  -- ['a1', 'a2', 'a3', 'a4', 'q5', 'a6', 'a7', 'a8']
  generalize hf : aL h0 q5 a1 a2 a3 a4 a6 a7 a8 = f
  have e1 := aL_1 h0 q5 a1 a2 a3 a4 a6 a7 a8
  rw [hf] at e1
  obtain ⟨c1, c2, c3, c4, c5, c6, c7, z0, z8⟩ := e1
  have w1 : f 1 = a1 0 := by rw [← c1]
  have w2 : f 2 = a2 0 := by rw [← c2]
  have w3 : f 3 = a3 0 := by rw [← c3]
  have w4 : f 4 = a4 0 := by rw [← c4]
  have w5 : f 5 = a6 0 := by rw [← c5]
  have w6 : f 6 = a7 0 := by rw [← c6]
  have w7 : f 7 = a8 0 := by rw [← c7]
  refine hret 99 f H locs ls (by decide +kernel) z0 ?_ ?_ hS
  · unfold lpW
    rw [c1, c2, c3, c4, c5, c6, c7, z0, z8, w1, w2, w3, w4, w5, w6, w7, ea1, ea2, ea3, ea4, ea6, ea7, ea8]
    exact hP
  · unfold lpW
    rw [c1, c2, c3, c4, c5, c6, c7, z0, z8, w1, w2, w3, w4, w5, w6, w7, ea1, ea2, ea3, ea4, ea6, ea7, ea8]
    exact hD
