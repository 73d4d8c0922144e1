section
/-! constructors -/
theorem df_X6 : ∀ j, j < 4 → defaultValue (tyX6 j) = (match fks 2 j with | 0 => Value.int 0 | 1 => Value.null | _ => Value.long 0) := fun j hj => match j, hj with
  | 0, _ => rfl
  | 1, _ => rfl
  | 2, _ => rfl
  | 3, _ => rfl
  | j + 4, h => absurd h (by omega)
theorem df_X5 : ∀ j, j < 3 → defaultValue (tyX5 j) = (match fks 7 j with | 0 => Value.int 0 | 1 => Value.null | _ => Value.long 0) := fun j hj => match j, hj with
  | 0, _ => rfl
  | 1, _ => rfl
  | 2, _ => rfl
  | j + 3, h => absurd h (by omega)
theorem df_X1 : ∀ j, j < 7 → defaultValue (tyX1 j) = (match fks 9 j with | 0 => Value.int 0 | 1 => Value.null | _ => Value.long 0) := fun j hj => match j, hj with
  | 0, _ => rfl
  | 1, _ => rfl
  | 2, _ => rfl
  | 3, _ => rfl
  | 4, _ => rfl
  | 5, _ => rfl
  | 6, _ => rfl
  | j + 7, h => absurd h (by omega)
theorem df_X3 : ∀ j, j < 4 → defaultValue (tyX3 j) = (match fks 21 j with | 0 => Value.int 0 | 1 => Value.null | _ => Value.long 0) := fun j hj => match j, hj with
  | 0, _ => rfl
  | 1, _ => rfl
  | 2, _ => rfl
  | 3, _ => rfl
  | j + 4, h => absurd h (by omega)
theorem df_X4 : ∀ j, j < 8 → defaultValue (tyX4 j) = (match fks 14 j with | 0 => Value.int 0 | 1 => Value.null | _ => Value.long 0) := fun j hj => match j, hj with
  | 0, _ => rfl
  | 1, _ => rfl
  | 2, _ => rfl
  | 3, _ => rfl
  | 4, _ => rfl
  | 5, _ => rfl
  | 6, _ => rfl
  | 7, _ => rfl
  | j + 8, h => absurd h (by omega)
theorem df_X0 : ∀ j, j < 5 → defaultValue (tyX0 j) = (match fks 16 j with | 0 => Value.int 0 | 1 => Value.null | _ => Value.long 0) := fun j hj => match j, hj with
  | 0, _ => rfl
  | 1, _ => rfl
  | 2, _ => rfl
  | 3, _ => rfl
  | 4, _ => rfl
  | j + 5, h => absurd h (by omega)
theorem df_X7 : ∀ j, j < 8 → defaultValue (tyX7 j) = (match fks 18 j with | 0 => Value.int 0 | 1 => Value.null | _ => Value.long 0) := fun j hj => match j, hj with
  | 0, _ => rfl
  | 1, _ => rfl
  | 2, _ => rfl
  | 3, _ => rfl
  | 4, _ => rfl
  | 5, _ => rfl
  | 6, _ => rfl
  | 7, _ => rfl
  | j + 8, h => absurd h (by omega)
theorem df_X8 : ∀ j, j < 10 → defaultValue (tyX8 j) = (match fks 0 j with | 0 => Value.int 0 | 1 => Value.null | _ => Value.long 0) := fun j hj => match j, hj with
  | 0, _ => rfl
  | 1, _ => rfl
  | 2, _ => rfl
  | 3, _ => rfl
  | 4, _ => rfl
  | 5, _ => rfl
  | 6, _ => rfl
  | 7, _ => rfl
  | 8, _ => rfl
  | 9, _ => rfl
  | j + 10, h => absurd h (by omega)
theorem df_X9 : ∀ j, j < 55 → defaultValue (tyX9 j) = (match fks 30 j with | 0 => Value.int 0 | 1 => Value.null | _ => Value.long 0) := fun j hj => match j, hj with
  | 0, _ => rfl
  | 1, _ => rfl
  | 2, _ => rfl
  | 3, _ => rfl
  | 4, _ => rfl
  | 5, _ => rfl
  | 6, _ => rfl
  | 7, _ => rfl
  | 8, _ => rfl
  | 9, _ => rfl
  | 10, _ => rfl
  | 11, _ => rfl
  | 12, _ => rfl
  | 13, _ => rfl
  | 14, _ => rfl
  | 15, _ => rfl
  | 16, _ => rfl
  | 17, _ => rfl
  | 18, _ => rfl
  | 19, _ => rfl
  | 20, _ => rfl
  | 21, _ => rfl
  | 22, _ => rfl
  | 23, _ => rfl
  | 24, _ => rfl
  | 25, _ => rfl
  | 26, _ => rfl
  | 27, _ => rfl
  | 28, _ => rfl
  | 29, _ => rfl
  | 30, _ => rfl
  | 31, _ => rfl
  | 32, _ => rfl
  | 33, _ => rfl
  | 34, _ => rfl
  | 35, _ => rfl
  | 36, _ => rfl
  | 37, _ => rfl
  | 38, _ => rfl
  | 39, _ => rfl
  | 40, _ => rfl
  | 41, _ => rfl
  | 42, _ => rfl
  | 43, _ => rfl
  | 44, _ => rfl
  | 45, _ => rfl
  | 46, _ => rfl
  | 47, _ => rfl
  | 48, _ => rfl
  | 49, _ => rfl
  | 50, _ => rfl
  | 51, _ => rfl
  | 52, _ => rfl
  | 53, _ => rfl
  | 54, _ => rfl
  | j + 55, h => absurd h (by omega)
set_option maxHeartbeats 4000000 in
set_option maxRecDepth 20000 in
theorem ci_X3 (l : Launch) (G : GS) (n : Nat → Nat) (im : Nat → Nat → Nat → Int) (r : Nat → Nat → Nat → Option (Nat × Nat)) (lm : Nat → Nat → Nat → Int) (i : Nat) (h21 : i < n 21) (h22 : n 22 = i) (h23 : n 23 = i) (hi : i < 15) : Ci l G yX3_init Y_X3_init 2 20 [vR 21 i] (n) (im, r, lm) (ins (ins (n) 22) 23) (fun m' => m' = (im, up (up r 21 i 2 (some (22, i))) 21 i 3 (some (23, i)), lm)) := by
  refine ci_of (by decide) rfl rfl rfl (Nat.le_of_ble_eq_true rfl) ?_
  intro M ad hMl F hini
  subst hMl
  refine z_pad 0 ?_
  show Wg M G _ Y_X3_init _ _ 0 0 ad (n) 0 [some (vR 21 i)] [] (im, r, lm)
  refine z_aload_n (t := 1) F dX3_init_0 rfl rfl rfl ?_
  refine z_objinit (t := 4) F dX3_init_1 ml_X3_3 (by decide) (by decide) rfl ?_
  refine z_aload_n (t := 5) F dX3_init_4 rfl rfl rfl ?_
  refine z_bipush (t := 7) F dX3_init_5 (by decide) rfl ?_
  refine z_newa (t := 9) (k := 22) (i := i) (N := 10) F dX3_init_7 rfl (Or.inl ⟨rfl, rfl⟩) rfl (by omega) (by omega) (by omega) (by first | omega | (simp [ins] <;> omega)) (by first | (simp [ins, cap] <;> omega) | (simp [cap] <;> omega)) rfl (by simp [okS, okL, okv, okq, ins] <;> omega) (show okL _ [some (vR 21 i)] from (by simp [okS, okL, okv, okq, ins] <;> omega)) ⟨by decide, by decide⟩ rfl (fun ad1 hs1 => ?_)
  refine z_putr3 (x := 2) (t := 12) F dX3_init_9 rfl uX3 tyX3 tyX3_ok nmX3 fl_X3_9 (by decide) (by first | exact Or.inl rfl | exact Or.inr ⟨rfl, hini, rfl⟩) rfl (okq_of (by omega) (by first | omega | (simp [ins] <;> omega))) (okq_of (by omega) (by first | omega | (simp [ins] <;> omega))) rfl (by first | exact Or.inl ⟨_, rfl⟩ | exact Or.inr ⟨_, rfl⟩) rfl ?_
  refine z_aload_n (t := 13) F dX3_init_12 rfl rfl rfl ?_
  refine z_bipush (t := 15) F dX3_init_13 (by decide) rfl ?_
  refine z_newa (t := 17) (k := 23) (i := i) (N := 10) F dX3_init_15 rfl (Or.inl ⟨rfl, rfl⟩) rfl (by omega) (by omega) (by omega) (by first | omega | (simp [ins] <;> omega)) (by first | (simp [ins, cap] <;> omega) | (simp [cap] <;> omega)) rfl (by simp [okS, okL, okv, okq, ins] <;> omega) (show okL _ [some (vR 21 i)] from (by simp [okS, okL, okv, okq, ins] <;> omega)) ⟨by decide, by decide⟩ rfl (fun ad2 hs2 => ?_)
  refine z_putr3 (x := 3) (t := 20) F dX3_init_17 rfl uX3 tyX3 tyX3_ok nmX3 fl_X3_15 (by decide) (by first | exact Or.inl rfl | exact Or.inr ⟨rfl, hini, rfl⟩) rfl (okq_of (by omega) (by first | omega | (simp [ins] <;> omega))) (okq_of (by omega) (by first | omega | (simp [ins] <;> omega))) rfl (by first | exact Or.inl ⟨_, rfl⟩ | exact Or.inr ⟨_, rfl⟩) rfl ?_
  exact z_vret F dX3_init_20 rfl (by decide) (by decide) (sam_trans hs1 hs2 (fun q hq => by first | exact okq_gl (by decide) hq | (repeat (first | exact hq | apply ins_ok)))) rfl

set_option maxHeartbeats 4000000 in
set_option maxRecDepth 20000 in
theorem ci_X6 (l : Launch) (G : GS) (n : Nat → Nat) (im : Nat → Nat → Nat → Int) (r : Nat → Nat → Nat → Option (Nat × Nat)) (lm : Nat → Nat → Nat → Int) (i : Nat) (h2 : i < n 2) (h3 : n 3 = i) (h4 : n 4 = i) (h5 : n 5 = i) (hi : i < 6) : Ci l G yX6_init Y_X6_init 3 194 [vR 2 i] (n) (im, r, lm) (ins (ins (ins (n) 3) 4) 5) (fun m' => m' = (im, up (up (up r 2 i 0 (some (3, i))) 2 i 1 (some (4, i))) 2 i 2 (some (5, i)), lm)) := by
  refine ci_of (by decide) rfl rfl rfl (Nat.le_of_ble_eq_true rfl) ?_
  intro M ad hMl F hini
  subst hMl
  refine z_pad 0 ?_
  show Wg M G _ Y_X6_init _ _ 0 0 ad (n) 0 [some (vR 2 i)] [] (im, r, lm)
  refine z_aload_n (t := 1) F dX6_init_0 rfl rfl rfl ?_
  refine z_objinit (t := 4) F dX6_init_1 ml_X6_3 (by decide) (by decide) rfl ?_
  refine z_aload_n (t := 5) F dX6_init_4 rfl rfl rfl ?_
  refine z_sipush (t := 8) F dX6_init_5 (by decide) rfl ?_
  refine z_newa (t := 10) (k := 3) (i := i) (N := 160) F dX6_init_8 rfl (Or.inl ⟨rfl, rfl⟩) rfl (by omega) (by omega) (by omega) (by first | omega | (simp [ins] <;> omega)) (by first | (simp [ins, cap] <;> omega) | (simp [cap] <;> omega)) rfl (by simp [okS, okL, okv, okq, ins] <;> omega) (show okL _ [some (vR 2 i)] from (by simp [okS, okL, okv, okq, ins] <;> omega)) ⟨by decide, by decide⟩ rfl (fun ad1 hs1 => ?_)
  refine z_putr3 (x := 0) (t := 13) F dX6_init_10 rfl uX6 tyX6 tyX6_ok nmX6 fl_X6_9 (by decide) (by first | exact Or.inl rfl | exact Or.inr ⟨rfl, hini, rfl⟩) rfl (okq_of (by omega) (by first | omega | (simp [ins] <;> omega))) (okq_of (by omega) (by first | omega | (simp [ins] <;> omega))) rfl (by first | exact Or.inl ⟨_, rfl⟩ | exact Or.inr ⟨_, rfl⟩) rfl ?_
  refine z_aload_n (t := 14) F dX6_init_13 rfl rfl rfl ?_
  refine z_iconst (t := 15) F dX6_init_14 rfl ?_
  refine z_newa (t := 17) (k := 4) (i := i) (N := 3) F dX6_init_15 rfl (Or.inl ⟨rfl, rfl⟩) rfl (by omega) (by omega) (by omega) (by first | omega | (simp [ins] <;> omega)) (by first | (simp [ins, cap] <;> omega) | (simp [cap] <;> omega)) rfl (by simp [okS, okL, okv, okq, ins] <;> omega) (show okL _ [some (vR 2 i)] from (by simp [okS, okL, okv, okq, ins] <;> omega)) ⟨by decide, by decide⟩ rfl (fun ad2 hs2 => ?_)
  refine z_putr3 (x := 1) (t := 20) F dX6_init_17 rfl uX6 tyX6 tyX6_ok nmX6 fl_X6_15 (by decide) (by first | exact Or.inl rfl | exact Or.inr ⟨rfl, hini, rfl⟩) rfl (okq_of (by omega) (by first | omega | (simp [ins] <;> omega))) (okq_of (by omega) (by first | omega | (simp [ins] <;> omega))) rfl (by first | exact Or.inl ⟨_, rfl⟩ | exact Or.inr ⟨_, rfl⟩) rfl ?_
  refine z_aload_n (t := 21) F dX6_init_20 rfl rfl rfl ?_
  refine z_bipush (t := 23) F dX6_init_21 (by decide) rfl ?_
  refine z_newa (t := 25) (k := 5) (i := i) (N := 31) F dX6_init_23 rfl (Or.inl ⟨rfl, rfl⟩) rfl (by omega) (by omega) (by omega) (by first | omega | (simp [ins] <;> omega)) (by first | (simp [ins, cap] <;> omega) | (simp [cap] <;> omega)) rfl (by simp [okS, okL, okv, okq, ins] <;> omega) (show okL _ [some (vR 2 i)] from (by simp [okS, okL, okv, okq, ins] <;> omega)) ⟨by decide, by decide⟩ rfl (fun ad3 hs3 => ?_)
  refine z_putr3 (x := 2) (t := 28) F dX6_init_25 rfl uX6 tyX6 tyX6_ok nmX6 fl_X6_18 (by decide) (by first | exact Or.inl rfl | exact Or.inr ⟨rfl, hini, rfl⟩) rfl (okq_of (by omega) (by first | omega | (simp [ins] <;> omega))) (okq_of (by omega) (by first | omega | (simp [ins] <;> omega))) rfl (by first | exact Or.inl ⟨_, rfl⟩ | exact Or.inr ⟨_, rfl⟩) rfl ?_
  exact z_vret F dX6_init_28 rfl (by decide) (by decide) (sam_trans (sam_trans hs1 hs2 (fun q hq => by first | exact okq_gl (by decide) hq | (repeat (first | exact hq | apply ins_ok)))) hs3 (fun q hq => by first | exact okq_gl (by decide) hq | (repeat (first | exact hq | apply ins_ok)))) rfl

set_option maxHeartbeats 4000000 in
set_option maxRecDepth 20000 in
theorem ci_X5 (l : Launch) (G : GS) (n : Nat → Nat) (im : Nat → Nat → Nat → Int) (r : Nat → Nat → Nat → Option (Nat × Nat)) (lm : Nat → Nat → Nat → Int) (i : Nat) (h7 : i < n 7) (h8 : n 8 = i) (hi : i < 4) : Ci l G yX5_init Y_X5_init 1 40 [vR 7 i] (n) (im, r, lm) (ins (n) 8) (fun m' => m' = (up im 7 i 1 (-1), up r 7 i 0 (some (8, i)), lm)) := by
  refine ci_of (by decide) rfl rfl rfl (Nat.le_of_ble_eq_true rfl) ?_
  intro M ad hMl F hini
  subst hMl
  refine z_pad 0 ?_
  show Wg M G _ Y_X5_init _ _ 0 0 ad (n) 0 [some (vR 7 i)] [] (im, r, lm)
  refine z_aload_n (t := 1) F dX5_init_0 rfl rfl rfl ?_
  refine z_objinit (t := 4) F dX5_init_1 ml_X5_3 (by decide) (by decide) rfl ?_
  refine z_aload_n (t := 5) F dX5_init_4 rfl rfl rfl ?_
  refine z_bipush (t := 7) F dX5_init_5 (by decide) rfl ?_
  refine z_newa (t := 9) (k := 8) (i := i) (N := 40) F dX5_init_7 rfl (Or.inl ⟨rfl, rfl⟩) rfl (by omega) (by omega) (by omega) (by first | omega | (simp [ins] <;> omega)) (by first | (simp [ins, cap] <;> omega) | (simp [cap] <;> omega)) rfl (by simp [okS, okL, okv, okq, ins] <;> omega) (show okL _ [some (vR 7 i)] from (by simp [okS, okL, okv, okq, ins] <;> omega)) ⟨by decide, by decide⟩ rfl (fun ad1 hs1 => ?_)
  refine z_putr3 (x := 0) (t := 12) F dX5_init_9 rfl uX5 tyX5 tyX5_ok nmX5 fl_X5_9 (by decide) (by first | exact Or.inl rfl | exact Or.inr ⟨rfl, hini, rfl⟩) rfl (okq_of (by omega) (by first | omega | (simp [ins] <;> omega))) (okq_of (by omega) (by first | omega | (simp [ins] <;> omega))) rfl (by first | exact Or.inl ⟨_, rfl⟩ | exact Or.inr ⟨_, rfl⟩) rfl ?_
  refine z_aload_n (t := 13) F dX5_init_12 rfl rfl rfl ?_
  refine z_iconst (t := 14) F dX5_init_13 rfl ?_
  refine z_puti3 (x := 1) (t := 17) F dX5_init_14 rfl uX5 tyX5 tyX5_ok nmX5 fl_X5_15 (by decide) rfl rfl (okq_of (by omega) (by first | omega | (simp [ins] <;> omega))) rfl rfl rfl ?_
  exact z_vret F dX5_init_17 rfl (by decide) (by decide) hs1 rfl

set_option maxHeartbeats 4000000 in
set_option maxRecDepth 20000 in
theorem ci_X1 (l : Launch) (G : GS) (n : Nat → Nat) (im : Nat → Nat → Nat → Int) (r : Nat → Nat → Nat → Option (Nat × Nat)) (lm : Nat → Nat → Nat → Int) (h9 : 0 < n 9) (h10 : n 10 = 0) (h11 : n 11 = 0) (h12 : n 12 = 0) (h13 : n 13 = 0) : Ci l G yX1_init Y_X1_init 4 1148 [vR 9 0] (n) (im, r, lm) (ins (ins (ins (ins (n) 10) 11) 12) 13) (fun m' => m' = (im, up (up (up (up r 9 0 0 (some (10, 0))) 9 0 1 (some (11, 0))) 9 0 2 (some (12, 0))) 9 0 3 (some (13, 0)), lm)) := by
  refine ci_of (by decide) rfl rfl rfl (Nat.le_of_ble_eq_true rfl) ?_
  intro M ad hMl F hini
  subst hMl
  refine z_pad 0 ?_
  show Wg M G _ Y_X1_init _ _ 0 0 ad (n) 0 [some (vR 9 0)] [] (im, r, lm)
  refine z_aload_n (t := 1) F dX1_init_0 rfl rfl rfl ?_
  refine z_objinit (t := 4) F dX1_init_1 ml_X1_3 (by decide) (by decide) rfl ?_
  refine z_aload_n (t := 5) F dX1_init_4 rfl rfl rfl ?_
  refine z_bipush (t := 7) F dX1_init_5 (by decide) rfl ?_
  refine z_newa (t := 9) (k := 10) (i := 0) (N := 50) F dX1_init_7 rfl (Or.inl ⟨rfl, rfl⟩) rfl (by omega) (by omega) (by omega) (by first | omega | (simp [ins] <;> omega)) (by first | (simp [ins, cap] <;> omega) | (simp [cap] <;> omega)) rfl (by simp [okS, okL, okv, okq, ins] <;> omega) (show okL _ [some (vR 9 0)] from (by simp [okS, okL, okv, okq, ins] <;> omega)) ⟨by decide, by decide⟩ rfl (fun ad1 hs1 => ?_)
  refine z_putr3 (x := 0) (t := 12) F dX1_init_9 rfl uX1 tyX1 tyX1_ok nmX1 fl_X1_9 (by decide) (by first | exact Or.inl rfl | exact Or.inr ⟨rfl, hini, rfl⟩) rfl (okq_of (by omega) (by first | omega | (simp [ins] <;> omega))) (okq_of (by omega) (by first | omega | (simp [ins] <;> omega))) rfl (by first | exact Or.inl ⟨_, rfl⟩ | exact Or.inr ⟨_, rfl⟩) rfl ?_
  refine z_aload_n (t := 13) F dX1_init_12 rfl rfl rfl ?_
  refine z_bipush (t := 15) F dX1_init_13 (by decide) rfl ?_
  refine z_newa (t := 17) (k := 11) (i := 0) (N := 50) F dX1_init_15 rfl (Or.inl ⟨rfl, rfl⟩) rfl (by omega) (by omega) (by omega) (by first | omega | (simp [ins] <;> omega)) (by first | (simp [ins, cap] <;> omega) | (simp [cap] <;> omega)) rfl (by simp [okS, okL, okv, okq, ins] <;> omega) (show okL _ [some (vR 9 0)] from (by simp [okS, okL, okv, okq, ins] <;> omega)) ⟨by decide, by decide⟩ rfl (fun ad2 hs2 => ?_)
  refine z_putr3 (x := 1) (t := 20) F dX1_init_17 rfl uX1 tyX1 tyX1_ok nmX1 fl_X1_15 (by decide) (by first | exact Or.inl rfl | exact Or.inr ⟨rfl, hini, rfl⟩) rfl (okq_of (by omega) (by first | omega | (simp [ins] <;> omega))) (okq_of (by omega) (by first | omega | (simp [ins] <;> omega))) rfl (by first | exact Or.inl ⟨_, rfl⟩ | exact Or.inr ⟨_, rfl⟩) rfl ?_
  refine z_aload_n (t := 21) F dX1_init_20 rfl rfl rfl ?_
  refine z_bipush (t := 23) F dX1_init_21 (by decide) rfl ?_
  refine z_newa (t := 25) (k := 12) (i := 0) (N := 24) F dX1_init_23 rfl (Or.inl ⟨rfl, rfl⟩) rfl (by omega) (by omega) (by omega) (by first | omega | (simp [ins] <;> omega)) (by first | (simp [ins, cap] <;> omega) | (simp [cap] <;> omega)) rfl (by simp [okS, okL, okv, okq, ins] <;> omega) (show okL _ [some (vR 9 0)] from (by simp [okS, okL, okv, okq, ins] <;> omega)) ⟨by decide, by decide⟩ rfl (fun ad3 hs3 => ?_)
  refine z_putr3 (x := 2) (t := 28) F dX1_init_25 rfl uX1 tyX1 tyX1_ok nmX1 fl_X1_18 (by decide) (by first | exact Or.inl rfl | exact Or.inr ⟨rfl, hini, rfl⟩) rfl (okq_of (by omega) (by first | omega | (simp [ins] <;> omega))) (okq_of (by omega) (by first | omega | (simp [ins] <;> omega))) rfl (by first | exact Or.inl ⟨_, rfl⟩ | exact Or.inr ⟨_, rfl⟩) rfl ?_
  refine z_aload_n (t := 29) F dX1_init_28 rfl rfl rfl ?_
  refine z_sipush (t := 32) F dX1_init_29 (by decide) rfl ?_
  refine z_newa (t := 34) (k := 13) (i := 0) (N := 1024) F dX1_init_32 rfl (Or.inl ⟨rfl, rfl⟩) rfl (by omega) (by omega) (by omega) (by first | omega | (simp [ins] <;> omega)) (by first | (simp [ins, cap] <;> omega) | (simp [cap] <;> omega)) rfl (by simp [okS, okL, okv, okq, ins] <;> omega) (show okL _ [some (vR 9 0)] from (by simp [okS, okL, okv, okq, ins] <;> omega)) ⟨by decide, by decide⟩ rfl (fun ad4 hs4 => ?_)
  refine z_putr3 (x := 3) (t := 37) F dX1_init_34 rfl uX1 tyX1 tyX1_ok nmX1 fl_X1_21 (by decide) (by first | exact Or.inl rfl | exact Or.inr ⟨rfl, hini, rfl⟩) rfl (okq_of (by omega) (by first | omega | (simp [ins] <;> omega))) (okq_of (by omega) (by first | omega | (simp [ins] <;> omega))) rfl (by first | exact Or.inl ⟨_, rfl⟩ | exact Or.inr ⟨_, rfl⟩) rfl ?_
  exact z_vret F dX1_init_37 rfl (by decide) (by decide) (sam_trans (sam_trans (sam_trans hs1 hs2 (fun q hq => by first | exact okq_gl (by decide) hq | (repeat (first | exact hq | apply ins_ok)))) hs3 (fun q hq => by first | exact okq_gl (by decide) hq | (repeat (first | exact hq | apply ins_ok)))) hs4 (fun q hq => by first | exact okq_gl (by decide) hq | (repeat (first | exact hq | apply ins_ok)))) rfl

set_option maxHeartbeats 4000000 in
set_option maxRecDepth 20000 in
theorem ci_X4 (l : Launch) (G : GS) (n : Nat → Nat) (im : Nat → Nat → Nat → Int) (r : Nat → Nat → Nat → Option (Nat × Nat)) (lm : Nat → Nat → Nat → Int) (h14 : 0 < n 14) (h15 : n 15 = 0) (h2 : 0 < n 2) : Ci l G yX4_init Y_X4_init 1 160 [vR 14 0, vR 2 0] (n) (im, r, lm) (ins (n) 15) (fun m' => m' = (im, up (up r 14 0 0 (some (15, 0))) 14 0 7 (some (2, 0)), lm)) := by
  refine ci_of (by decide) rfl rfl rfl (Nat.le_of_ble_eq_true rfl) ?_
  intro M ad hMl F hini
  subst hMl
  refine z_pad 0 ?_
  show Wg M G _ Y_X4_init _ _ 0 0 ad (n) 0 [some (vR 14 0), some (vR 2 0)] [] (im, r, lm)
  refine z_aload_n (t := 1) F dX4_init_0 rfl rfl rfl ?_
  refine z_objinit (t := 4) F dX4_init_1 ml_X4_3 (by decide) (by decide) rfl ?_
  refine z_aload_n (t := 5) F dX4_init_4 rfl rfl rfl ?_
  refine z_sipush (t := 8) F dX4_init_5 (by decide) rfl ?_
  refine z_newa (t := 10) (k := 15) (i := 0) (N := 160) F dX4_init_8 rfl (Or.inl ⟨rfl, rfl⟩) rfl (by omega) (by omega) (by omega) (by first | omega | (simp [ins] <;> omega)) (by first | (simp [ins, cap] <;> omega) | (simp [cap] <;> omega)) rfl (by simp [okS, okL, okv, okq, ins] <;> omega) (show okL _ [some (vR 14 0), some (vR 2 0)] from (by simp [okS, okL, okv, okq, ins] <;> omega)) ⟨by decide, by decide⟩ rfl (fun ad1 hs1 => ?_)
  refine z_putr3 (x := 0) (t := 13) F dX4_init_10 rfl uX4 tyX4 tyX4_ok nmX4 fl_X4_9 (by decide) (by first | exact Or.inl rfl | exact Or.inr ⟨rfl, hini, rfl⟩) rfl (okq_of (by omega) (by first | omega | (simp [ins] <;> omega))) (okq_of (by omega) (by first | omega | (simp [ins] <;> omega))) rfl (by first | exact Or.inl ⟨_, rfl⟩ | exact Or.inr ⟨_, rfl⟩) rfl ?_
  refine z_aload_n (t := 14) F dX4_init_13 rfl rfl rfl ?_
  refine z_aload_n (t := 15) F dX4_init_14 rfl rfl rfl ?_
  refine z_putr3 (x := 7) (t := 18) F dX4_init_15 rfl uX4 tyX4 tyX4_ok nmX4 fl_X4_15 (by decide) (by first | exact Or.inl rfl | exact Or.inr ⟨rfl, hini, rfl⟩) rfl (okq_of (by omega) (by first | omega | (simp [ins] <;> omega))) (okq_of (by omega) (by first | omega | (simp [ins] <;> omega))) rfl (by first | exact Or.inl ⟨_, rfl⟩ | exact Or.inr ⟨_, rfl⟩) rfl ?_
  exact z_vret F dX4_init_18 rfl (by decide) (by decide) hs1 rfl

set_option maxHeartbeats 4000000 in
set_option maxRecDepth 20000 in
theorem ci_X0 (l : Launch) (G : GS) (n : Nat → Nat) (im : Nat → Nat → Nat → Int) (r : Nat → Nat → Nat → Option (Nat × Nat)) (lm : Nat → Nat → Nat → Int) (h16 : 0 < n 16) (h17 : n 17 = 0) (h2 : 0 < n 2) : Ci l G yX0_init Y_X0_init 1 6 [vR 16 0, vR 2 0] (n) (im, r, lm) (ins (n) 17) (fun m' => m' = (im, up (up r 16 0 0 (some (17, 0))) 16 0 1 (some (2, 0)), lm)) := by
  refine ci_of (by decide) rfl rfl rfl (Nat.le_of_ble_eq_true rfl) ?_
  intro M ad hMl F hini
  subst hMl
  refine z_pad 0 ?_
  show Wg M G _ Y_X0_init _ _ 0 0 ad (n) 0 [some (vR 16 0), some (vR 2 0)] [] (im, r, lm)
  refine z_aload_n (t := 1) F dX0_init_0 rfl rfl rfl ?_
  refine z_objinit (t := 4) F dX0_init_1 ml_X0_3 (by decide) (by decide) rfl ?_
  refine z_aload_n (t := 5) F dX0_init_4 rfl rfl rfl ?_
  refine z_bipush (t := 7) F dX0_init_5 (by decide) rfl ?_
  refine z_newa (t := 9) (k := 17) (i := 0) (N := 6) F dX0_init_7 rfl (Or.inl ⟨rfl, rfl⟩) rfl (by omega) (by omega) (by omega) (by first | omega | (simp [ins] <;> omega)) (by first | (simp [ins, cap] <;> omega) | (simp [cap] <;> omega)) rfl (by simp [okS, okL, okv, okq, ins] <;> omega) (show okL _ [some (vR 16 0), some (vR 2 0)] from (by simp [okS, okL, okv, okq, ins] <;> omega)) ⟨by decide, by decide⟩ rfl (fun ad1 hs1 => ?_)
  refine z_putr3 (x := 0) (t := 12) F dX0_init_9 rfl uX0 tyX0 tyX0_ok nmX0 fl_X0_9 (by decide) (by first | exact Or.inl rfl | exact Or.inr ⟨rfl, hini, rfl⟩) rfl (okq_of (by omega) (by first | omega | (simp [ins] <;> omega))) (okq_of (by omega) (by first | omega | (simp [ins] <;> omega))) rfl (by first | exact Or.inl ⟨_, rfl⟩ | exact Or.inr ⟨_, rfl⟩) rfl ?_
  refine z_aload_n (t := 13) F dX0_init_12 rfl rfl rfl ?_
  refine z_aload_n (t := 14) F dX0_init_13 rfl rfl rfl ?_
  refine z_putr3 (x := 1) (t := 17) F dX0_init_14 rfl uX0 tyX0 tyX0_ok nmX0 fl_X0_15 (by decide) (by first | exact Or.inl rfl | exact Or.inr ⟨rfl, hini, rfl⟩) rfl (okq_of (by omega) (by first | omega | (simp [ins] <;> omega))) (okq_of (by omega) (by first | omega | (simp [ins] <;> omega))) rfl (by first | exact Or.inl ⟨_, rfl⟩ | exact Or.inr ⟨_, rfl⟩) rfl ?_
  exact z_vret F dX0_init_17 rfl (by decide) (by decide) hs1 rfl
end
section
set_option maxHeartbeats 4000000 in
set_option maxRecDepth 20000 in
theorem ci_X7 (l : Launch) (G : GS) (n : Nat → Nat) (im : Nat → Nat → Nat → Int) (r : Nat → Nat → Nat → Option (Nat × Nat)) (lm : Nat → Nat → Nat → Int) (w : Nat) (h18 : w < n 18) (h19 : n 19 = w) (h20 : n 20 = w) (h21 : n 21 = 5 * w) (h22 : n 22 = 5 * w) (h23 : n 23 = 5 * w) (h1 : 0 < n 1) (hw : w < 3) : Ci l G yX7_init Y_X7_init 17 131 [vR 18 w, vR 1 0] (n) (im, r, lm) (ins (ins (ins (ins (ins (ins (ins (ins (ins (ins (ins (ins (ins (ins (ins (ins (ins (n) 19) 20) 21) 22) 23) 21) 22) 23) 21) 22) 23) 21) 22) 23) 21) 22) 23) (fun m' => m' = (up (im) 18 w 5 (1024), up (up (up (up (up (up (up (up (up (up (up (up (up (up (up (up (up (up (r) 18 w 1 (some (19, w))) 18 w 2 (some (20, w))) 18 w 0 (some (1, 0))) 21 (5 * w + 0) 2 (some (22, 5 * w + 0))) 21 (5 * w + 0) 3 (some (23, 5 * w + 0))) 19 w 0 (some (21, 5 * w + 0))) 21 (5 * w + 1) 2 (some (22, 5 * w + 1))) 21 (5 * w + 1) 3 (some (23, 5 * w + 1))) 19 w 1 (some (21, 5 * w + 1))) 21 (5 * w + 2) 2 (some (22, 5 * w + 2))) 21 (5 * w + 2) 3 (some (23, 5 * w + 2))) 19 w 2 (some (21, 5 * w + 2))) 21 (5 * w + 3) 2 (some (22, 5 * w + 3))) 21 (5 * w + 3) 3 (some (23, 5 * w + 3))) 19 w 3 (some (21, 5 * w + 3))) 21 (5 * w + 4) 2 (some (22, 5 * w + 4))) 21 (5 * w + 4) 3 (some (23, 5 * w + 4))) 19 w 4 (some (21, 5 * w + 4)), lm)) := by
  refine ci_of (by decide) rfl rfl rfl (Nat.le_of_ble_eq_true rfl) ?_
  intro M ad hMl F hini
  subst hMl
  refine z_pad 1 ?_
  show Wg M G _ Y_X7_init _ _ 0 0 ad (n) 0 [some (vR 18 w), some (vR 1 0), none] [] (im, r, lm)
  refine z_aload_n (t := 1) F dX7_init_0 rfl rfl rfl ?_
  refine z_objinit (t := 4) F dX7_init_1 ml_X7_3 (by decide) (by decide) rfl ?_
  refine z_aload_n (t := 5) F dX7_init_4 rfl rfl rfl ?_
  refine z_iconst (t := 6) F dX7_init_5 rfl ?_
  refine z_newq (t := 9) (k := 19) (i := w) (N := 5) F dX7_init_6 rfl (by omega) (by omega) rfl cl_X7_9 F.2.2.2.2.2.2.2.1.2.2 rfl (by omega) (by omega) (by omega) (by first | omega | (simp [ins] <;> omega)) (by first | (simp [ins, cap] <;> omega) | (simp [cap] <;> omega)) rfl (by simp [okS, okL, okv, okq, ins] <;> omega) (show okL _ [some (vR 18 w), some (vR 1 0), none] from (by simp [okS, okL, okv, okq, ins] <;> omega)) ⟨by decide, by decide⟩ rfl (fun ad1 hs1 => ?_)
  refine z_putr3 (x := 1) (t := 12) F dX7_init_9 rfl uX7 tyX7 tyX7_ok nmX7 fl_X7_11 (by decide) (by first | exact Or.inl rfl | exact Or.inr ⟨rfl, hini, rfl⟩) rfl (okq_of (by omega) (by first | omega | (simp [ins] <;> omega))) (okq_of (by omega) (by first | omega | (simp [ins] <;> omega))) rfl (by first | exact Or.inl ⟨_, rfl⟩ | exact Or.inr ⟨_, rfl⟩) rfl ?_
  refine z_aload_n (t := 13) F dX7_init_12 rfl rfl rfl ?_
  refine z_bipush (t := 15) F dX7_init_13 (by decide) rfl ?_
  refine z_newa (t := 17) (k := 20) (i := w) (N := 6) F dX7_init_15 rfl (Or.inl ⟨rfl, rfl⟩) rfl (by omega) (by omega) (by omega) (by first | omega | (simp [ins] <;> omega)) (by first | (simp [ins, cap] <;> omega) | (simp [cap] <;> omega)) rfl (by simp [okS, okL, okv, okq, ins] <;> omega) (show okL _ [some (vR 18 w), some (vR 1 0), none] from (by simp [okS, okL, okv, okq, ins] <;> omega)) ⟨by decide, by decide⟩ rfl (fun ad2 hs2 => ?_)
  refine z_putr3 (x := 2) (t := 20) F dX7_init_17 rfl uX7 tyX7 tyX7_ok nmX7 fl_X7_17 (by decide) (by first | exact Or.inl rfl | exact Or.inr ⟨rfl, hini, rfl⟩) rfl (okq_of (by omega) (by first | omega | (simp [ins] <;> omega))) (okq_of (by omega) (by first | omega | (simp [ins] <;> omega))) rfl (by first | exact Or.inl ⟨_, rfl⟩ | exact Or.inr ⟨_, rfl⟩) rfl ?_
  refine z_aload_n (t := 21) F dX7_init_20 rfl rfl rfl ?_
  refine z_sipush (t := 24) F dX7_init_21 (by decide) rfl ?_
  refine z_puti3 (x := 5) (t := 27) F dX7_init_24 rfl uX7 tyX7 tyX7_ok nmX7 fl_X7_21 (by decide) rfl rfl (okq_of (by omega) (by first | omega | (simp [ins] <;> omega))) rfl rfl rfl ?_
  refine z_aload_n (t := 28) F dX7_init_27 rfl rfl rfl ?_
  refine z_aload_n (t := 29) F dX7_init_28 rfl rfl rfl ?_
  refine z_putr3 (x := 0) (t := 32) F dX7_init_29 rfl uX7 tyX7 tyX7_ok nmX7 fl_X7_25 (by decide) (by first | exact Or.inl rfl | exact Or.inr ⟨rfl, hini, rfl⟩) rfl (okq_of (by omega) (by first | omega | (simp [ins] <;> omega))) (okq_of (by omega) (by first | omega | (simp [ins] <;> omega))) rfl (by first | exact Or.inl ⟨_, rfl⟩ | exact Or.inr ⟨_, rfl⟩) rfl ?_
  refine z_iconst (t := 33) F dX7_init_32 rfl ?_
  refine z_istore_n (j := 2) (t := 34) F dX7_init_33 rfl (by decide) rfl rfl ?_
  refine z_iload_n (t := 35) F dX7_init_34 rfl rfl rfl ?_
  refine z_iconst (t := 36) F dX7_init_35 rfl ?_
  refine z_icmp_ge (u := 58) (t := 39) F dX7_init_36 (by constructor <;> omega) (by constructor <;> omega) (by decide) rfl (fun c0 => absurd c0 (by decide)) (fun _ => ?_)
  refine z_aload_n (t := 40) F dX7_init_39 rfl rfl rfl ?_
  refine z_getr3 (x := 1) (k' := 19) (i' := w) (t := 43) F dX7_init_40 rfl uX7 fl_X7_11 (by decide) rfl (okq_of (by omega) (by first | omega | (simp [ins] <;> omega))) rfl (by simp [up]) rfl ?_
  refine z_iload_n (t := 44) F dX7_init_43 rfl rfl rfl ?_
  refine z_new (t := 47) (k := 21) (i := 5 * w + 0) F dX7_init_44 rfl uX3 tyX3 tyX3_ok cl_X7_9 is_X3 in_X3 rfl (by omega) (by first | omega | (simp [ins] <;> omega)) (by first | (simp [ins, cap] <;> omega) | (simp [cap] <;> omega)) df_X3 rfl (by simp [okS, okL, okv, okq, ins] <;> omega) (show okL _ [some (vR 18 w), some (vR 1 0), some (vI 0)] from (by simp [okS, okL, okv, okq, ins] <;> omega)) ⟨by decide, by decide⟩ rfl (fun ad3 hs3 => ?_)
  refine z_dupR (t := 48) F dX7_init_47 rfl ?_
  refine z_callI (t := 51) [] F dX7_init_48 k_X3_init rfl im_X3_init rfl (Or.inr ⟨_, mn_X7_29⟩) rfl rfl (Nat.le_of_ble_eq_true rfl) (by decide) (by decide) ⟨by decide, by decide⟩ (by simp [okS, okL, okv, okq, ins] <;> omega) (show okL _ [some (vR 18 w), some (vR 1 0), some (vI 0)] from (by simp [okS, okL, okv, okq, ins] <;> omega)) (ci_X3 _ G _ _ _ _ (5 * w + 0) (by first | omega | (simp [ins] <;> omega)) (by first | omega | (simp [ins] <;> omega)) (by first | omega | (simp [ins] <;> omega)) (by first | omega | (simp [ins] <;> omega))) rfl (fun ad4 m4 hs4 hm4 => ?_)
  subst hm4
  refine z_aast3 (x := 0) (t := 52) F dX7_init_51 rfl (by decide) (by decide) rfl (by decide) (okq_of (by omega) (by first | omega | (simp [ins] <;> omega))) (okq_of (by omega) (by first | omega | (simp [ins] <;> omega))) rfl rfl (by decide) (by decide) rfl ?_
  refine z_iinc2 (j := 2) (z := 1) (t := 55) F dX7_init_52 rfl (by decide) rfl (by decide) rfl ?_
  refine z_goto (t := 34) F dX7_init_55 (by decide) ?_
  refine z_iload_n (t := 35) F dX7_init_34 rfl rfl rfl ?_
  refine z_iconst (t := 36) F dX7_init_35 rfl ?_
  refine z_icmp_ge (u := 58) (t := 39) F dX7_init_36 (by constructor <;> omega) (by constructor <;> omega) (by decide) rfl (fun c0 => absurd c0 (by decide)) (fun _ => ?_)
  refine z_aload_n (t := 40) F dX7_init_39 rfl rfl rfl ?_
  refine z_getr3 (x := 1) (k' := 19) (i' := w) (t := 43) F dX7_init_40 rfl uX7 fl_X7_11 (by decide) rfl (okq_of (by omega) (by first | omega | (simp [ins] <;> omega))) rfl (by simp [up]) rfl ?_
  refine z_iload_n (t := 44) F dX7_init_43 rfl rfl rfl ?_
  refine z_new (t := 47) (k := 21) (i := 5 * w + 1) F dX7_init_44 rfl uX3 tyX3 tyX3_ok cl_X7_9 is_X3 in_X3 rfl (by omega) (by first | omega | (simp [ins] <;> omega)) (by first | (simp [ins, cap] <;> omega) | (simp [cap] <;> omega)) df_X3 rfl (by simp [okS, okL, okv, okq, ins] <;> omega) (show okL _ [some (vR 18 w), some (vR 1 0), some (vI 1)] from (by simp [okS, okL, okv, okq, ins] <;> omega)) ⟨by decide, by decide⟩ rfl (fun ad5 hs5 => ?_)
  refine z_dupR (t := 48) F dX7_init_47 rfl ?_
  refine z_callI (t := 51) [] F dX7_init_48 k_X3_init rfl im_X3_init rfl (Or.inr ⟨_, mn_X7_29⟩) rfl rfl (Nat.le_of_ble_eq_true rfl) (by decide) (by decide) ⟨by decide, by decide⟩ (by simp [okS, okL, okv, okq, ins] <;> omega) (show okL _ [some (vR 18 w), some (vR 1 0), some (vI 1)] from (by simp [okS, okL, okv, okq, ins] <;> omega)) (ci_X3 _ G _ _ _ _ (5 * w + 1) (by first | omega | (simp [ins] <;> omega)) (by first | omega | (simp [ins] <;> omega)) (by first | omega | (simp [ins] <;> omega)) (by first | omega | (simp [ins] <;> omega))) rfl (fun ad6 m6 hs6 hm6 => ?_)
  subst hm6
  refine z_aast3 (x := 1) (t := 52) F dX7_init_51 rfl (by decide) (by decide) rfl (by decide) (okq_of (by omega) (by first | omega | (simp [ins] <;> omega))) (okq_of (by omega) (by first | omega | (simp [ins] <;> omega))) rfl rfl (by decide) (by decide) rfl ?_
  refine z_iinc2 (j := 2) (z := 2) (t := 55) F dX7_init_52 rfl (by decide) rfl (by decide) rfl ?_
  refine z_goto (t := 34) F dX7_init_55 (by decide) ?_
  refine z_iload_n (t := 35) F dX7_init_34 rfl rfl rfl ?_
  refine z_iconst (t := 36) F dX7_init_35 rfl ?_
  refine z_icmp_ge (u := 58) (t := 39) F dX7_init_36 (by constructor <;> omega) (by constructor <;> omega) (by decide) rfl (fun c0 => absurd c0 (by decide)) (fun _ => ?_)
  refine z_aload_n (t := 40) F dX7_init_39 rfl rfl rfl ?_
  refine z_getr3 (x := 1) (k' := 19) (i' := w) (t := 43) F dX7_init_40 rfl uX7 fl_X7_11 (by decide) rfl (okq_of (by omega) (by first | omega | (simp [ins] <;> omega))) rfl (by simp [up]) rfl ?_
  refine z_iload_n (t := 44) F dX7_init_43 rfl rfl rfl ?_
  refine z_new (t := 47) (k := 21) (i := 5 * w + 2) F dX7_init_44 rfl uX3 tyX3 tyX3_ok cl_X7_9 is_X3 in_X3 rfl (by omega) (by first | omega | (simp [ins] <;> omega)) (by first | (simp [ins, cap] <;> omega) | (simp [cap] <;> omega)) df_X3 rfl (by simp [okS, okL, okv, okq, ins] <;> omega) (show okL _ [some (vR 18 w), some (vR 1 0), some (vI 2)] from (by simp [okS, okL, okv, okq, ins] <;> omega)) ⟨by decide, by decide⟩ rfl (fun ad7 hs7 => ?_)
  refine z_dupR (t := 48) F dX7_init_47 rfl ?_
  refine z_callI (t := 51) [] F dX7_init_48 k_X3_init rfl im_X3_init rfl (Or.inr ⟨_, mn_X7_29⟩) rfl rfl (Nat.le_of_ble_eq_true rfl) (by decide) (by decide) ⟨by decide, by decide⟩ (by simp [okS, okL, okv, okq, ins] <;> omega) (show okL _ [some (vR 18 w), some (vR 1 0), some (vI 2)] from (by simp [okS, okL, okv, okq, ins] <;> omega)) (ci_X3 _ G _ _ _ _ (5 * w + 2) (by first | omega | (simp [ins] <;> omega)) (by first | omega | (simp [ins] <;> omega)) (by first | omega | (simp [ins] <;> omega)) (by first | omega | (simp [ins] <;> omega))) rfl (fun ad8 m8 hs8 hm8 => ?_)
  subst hm8
  refine z_aast3 (x := 2) (t := 52) F dX7_init_51 rfl (by decide) (by decide) rfl (by decide) (okq_of (by omega) (by first | omega | (simp [ins] <;> omega))) (okq_of (by omega) (by first | omega | (simp [ins] <;> omega))) rfl rfl (by decide) (by decide) rfl ?_
  refine z_iinc2 (j := 2) (z := 3) (t := 55) F dX7_init_52 rfl (by decide) rfl (by decide) rfl ?_
  refine z_goto (t := 34) F dX7_init_55 (by decide) ?_
  refine z_iload_n (t := 35) F dX7_init_34 rfl rfl rfl ?_
  refine z_iconst (t := 36) F dX7_init_35 rfl ?_
  refine z_icmp_ge (u := 58) (t := 39) F dX7_init_36 (by constructor <;> omega) (by constructor <;> omega) (by decide) rfl (fun c0 => absurd c0 (by decide)) (fun _ => ?_)
  refine z_aload_n (t := 40) F dX7_init_39 rfl rfl rfl ?_
  refine z_getr3 (x := 1) (k' := 19) (i' := w) (t := 43) F dX7_init_40 rfl uX7 fl_X7_11 (by decide) rfl (okq_of (by omega) (by first | omega | (simp [ins] <;> omega))) rfl (by simp [up]) rfl ?_
  refine z_iload_n (t := 44) F dX7_init_43 rfl rfl rfl ?_
  refine z_new (t := 47) (k := 21) (i := 5 * w + 3) F dX7_init_44 rfl uX3 tyX3 tyX3_ok cl_X7_9 is_X3 in_X3 rfl (by omega) (by first | omega | (simp [ins] <;> omega)) (by first | (simp [ins, cap] <;> omega) | (simp [cap] <;> omega)) df_X3 rfl (by simp [okS, okL, okv, okq, ins] <;> omega) (show okL _ [some (vR 18 w), some (vR 1 0), some (vI 3)] from (by simp [okS, okL, okv, okq, ins] <;> omega)) ⟨by decide, by decide⟩ rfl (fun ad9 hs9 => ?_)
  refine z_dupR (t := 48) F dX7_init_47 rfl ?_
  refine z_callI (t := 51) [] F dX7_init_48 k_X3_init rfl im_X3_init rfl (Or.inr ⟨_, mn_X7_29⟩) rfl rfl (Nat.le_of_ble_eq_true rfl) (by decide) (by decide) ⟨by decide, by decide⟩ (by simp [okS, okL, okv, okq, ins] <;> omega) (show okL _ [some (vR 18 w), some (vR 1 0), some (vI 3)] from (by simp [okS, okL, okv, okq, ins] <;> omega)) (ci_X3 _ G _ _ _ _ (5 * w + 3) (by first | omega | (simp [ins] <;> omega)) (by first | omega | (simp [ins] <;> omega)) (by first | omega | (simp [ins] <;> omega)) (by first | omega | (simp [ins] <;> omega))) rfl (fun ad10 m10 hs10 hm10 => ?_)
  subst hm10
  refine z_aast3 (x := 3) (t := 52) F dX7_init_51 rfl (by decide) (by decide) rfl (by decide) (okq_of (by omega) (by first | omega | (simp [ins] <;> omega))) (okq_of (by omega) (by first | omega | (simp [ins] <;> omega))) rfl rfl (by decide) (by decide) rfl ?_
  refine z_iinc2 (j := 2) (z := 4) (t := 55) F dX7_init_52 rfl (by decide) rfl (by decide) rfl ?_
  refine z_goto (t := 34) F dX7_init_55 (by decide) ?_
  refine z_iload_n (t := 35) F dX7_init_34 rfl rfl rfl ?_
  refine z_iconst (t := 36) F dX7_init_35 rfl ?_
  refine z_icmp_ge (u := 58) (t := 39) F dX7_init_36 (by constructor <;> omega) (by constructor <;> omega) (by decide) rfl (fun c0 => absurd c0 (by decide)) (fun _ => ?_)
  refine z_aload_n (t := 40) F dX7_init_39 rfl rfl rfl ?_
  refine z_getr3 (x := 1) (k' := 19) (i' := w) (t := 43) F dX7_init_40 rfl uX7 fl_X7_11 (by decide) rfl (okq_of (by omega) (by first | omega | (simp [ins] <;> omega))) rfl (by simp [up]) rfl ?_
  refine z_iload_n (t := 44) F dX7_init_43 rfl rfl rfl ?_
  refine z_new (t := 47) (k := 21) (i := 5 * w + 4) F dX7_init_44 rfl uX3 tyX3 tyX3_ok cl_X7_9 is_X3 in_X3 rfl (by omega) (by first | omega | (simp [ins] <;> omega)) (by first | (simp [ins, cap] <;> omega) | (simp [cap] <;> omega)) df_X3 rfl (by simp [okS, okL, okv, okq, ins] <;> omega) (show okL _ [some (vR 18 w), some (vR 1 0), some (vI 4)] from (by simp [okS, okL, okv, okq, ins] <;> omega)) ⟨by decide, by decide⟩ rfl (fun ad11 hs11 => ?_)
  refine z_dupR (t := 48) F dX7_init_47 rfl ?_
  refine z_callI (t := 51) [] F dX7_init_48 k_X3_init rfl im_X3_init rfl (Or.inr ⟨_, mn_X7_29⟩) rfl rfl (Nat.le_of_ble_eq_true rfl) (by decide) (by decide) ⟨by decide, by decide⟩ (by simp [okS, okL, okv, okq, ins] <;> omega) (show okL _ [some (vR 18 w), some (vR 1 0), some (vI 4)] from (by simp [okS, okL, okv, okq, ins] <;> omega)) (ci_X3 _ G _ _ _ _ (5 * w + 4) (by first | omega | (simp [ins] <;> omega)) (by first | omega | (simp [ins] <;> omega)) (by first | omega | (simp [ins] <;> omega)) (by first | omega | (simp [ins] <;> omega))) rfl (fun ad12 m12 hs12 hm12 => ?_)
  subst hm12
  refine z_aast3 (x := 4) (t := 52) F dX7_init_51 rfl (by decide) (by decide) rfl (by decide) (okq_of (by omega) (by first | omega | (simp [ins] <;> omega))) (okq_of (by omega) (by first | omega | (simp [ins] <;> omega))) rfl rfl (by decide) (by decide) rfl ?_
  refine z_iinc2 (j := 2) (z := 5) (t := 55) F dX7_init_52 rfl (by decide) rfl (by decide) rfl ?_
  refine z_goto (t := 34) F dX7_init_55 (by decide) ?_
  refine z_iload_n (t := 35) F dX7_init_34 rfl rfl rfl ?_
  refine z_iconst (t := 36) F dX7_init_35 rfl ?_
  refine z_icmp_ge (u := 58) (t := 39) F dX7_init_36 (by constructor <;> omega) (by constructor <;> omega) (by decide) rfl (fun _ => ?_) (fun c0 => absurd c0 (by decide))
  exact z_vret F dX7_init_58 rfl (by decide) (by decide) (sam_trans (sam_trans (sam_trans (sam_trans (sam_trans (sam_trans (sam_trans (sam_trans (sam_trans (sam_trans (sam_trans hs1 hs2 (fun q hq => by first | exact okq_gl (by decide) hq | (repeat (first | exact hq | apply ins_ok)))) hs3 (fun q hq => by first | exact okq_gl (by decide) hq | (repeat (first | exact hq | apply ins_ok)))) hs4 (fun q hq => by first | exact okq_gl (by decide) hq | (repeat (first | exact hq | apply ins_ok)))) hs5 (fun q hq => by first | exact okq_gl (by decide) hq | (repeat (first | exact hq | apply ins_ok)))) hs6 (fun q hq => by first | exact okq_gl (by decide) hq | (repeat (first | exact hq | apply ins_ok)))) hs7 (fun q hq => by first | exact okq_gl (by decide) hq | (repeat (first | exact hq | apply ins_ok)))) hs8 (fun q hq => by first | exact okq_gl (by decide) hq | (repeat (first | exact hq | apply ins_ok)))) hs9 (fun q hq => by first | exact okq_gl (by decide) hq | (repeat (first | exact hq | apply ins_ok)))) hs10 (fun q hq => by first | exact okq_gl (by decide) hq | (repeat (first | exact hq | apply ins_ok)))) hs11 (fun q hq => by first | exact okq_gl (by decide) hq | (repeat (first | exact hq | apply ins_ok)))) hs12 (fun q hq => by first | exact okq_gl (by decide) hq | (repeat (first | exact hq | apply ins_ok)))) rfl
end
section
/-- the cells of the class, all of them -/
def nC : Nat → Nat := gl [1, 1, 6, 6, 6, 6, 1, 4, 4, 1, 1, 1, 1, 1, 1, 1, 1, 1, 3, 3, 3, 15, 15, 15, 0, 0, 0, 0, 0, 0, 0, 0, 0, 0, 0, 0, 0, 0, 0, 0, 0, 0, 0, 0, 0, 0, 0, 0, 0, 0, 0]
def rC0 : Nat → Nat → Nat → Option (Nat × Nat) := up (up (up (up (up (up (up (up (up (up (up (up (up (up (up (up (up (up (up ((up (up (up (up (up (up (up (up (up (up (up (up (up (up (up (up (up (up (up ((up (up (up (up (up (up (up (up (up (up (up (up (up (up (up (up (up (up (up ((up (up (up (up (up (up (up (up (up (up (up (up (up (up (up (up (up (up (up (up (up (up (up (up (up (up (up (up (up (up (up (up (up (up (up (up (up (up (up (up (up (up (up (up (up (fun _ _ _ => none) 0 0 0 (some (1, 0))) 0 0 1 (some (6, 0))) 9 0 0 (some (10, 0))) 9 0 1 (some (11, 0))) 9 0 2 (some (12, 0))) 9 0 3 (some (13, 0))) 0 0 2 (some (9, 0))) 2 0 0 (some (3, 0))) 2 0 1 (some (4, 0))) 2 0 2 (some (5, 0))) 1 0 0 (some (2, 0))) 2 1 0 (some (3, 1))) 2 1 1 (some (4, 1))) 2 1 2 (some (5, 1))) 1 0 1 (some (2, 1))) 2 2 0 (some (3, 2))) 2 2 1 (some (4, 2))) 2 2 2 (some (5, 2))) 1 0 2 (some (2, 2))) 2 3 0 (some (3, 3))) 2 3 1 (some (4, 3))) 2 3 2 (some (5, 3))) 1 0 3 (some (2, 3))) 2 4 0 (some (3, 4))) 2 4 1 (some (4, 4))) 2 4 2 (some (5, 4))) 1 0 4 (some (2, 4))) 2 5 0 (some (3, 5))) 2 5 1 (some (4, 5))) 2 5 2 (some (5, 5))) 1 0 5 (some (2, 5))) 7 0 0 (some (8, 0))) 6 0 0 (some (7, 0))) 7 1 0 (some (8, 1))) 6 0 1 (some (7, 1))) 7 2 0 (some (8, 2))) 6 0 2 (some (7, 2))) 7 3 0 (some (8, 3))) 6 0 3 (some (7, 3))) 14 0 0 (some (15, 0))) 14 0 7 (some (2, 0))) 0 0 3 (some (14, 0))) 16 0 0 (some (17, 0))) 16 0 1 (some (2, 0))) 0 0 4 (some (16, 0)))) 18 0 1 (some (19, 0))) 18 0 2 (some (20, 0))) 18 0 0 (some (1, 0))) 21 (5 * 0 + 0) 2 (some (22, 5 * 0 + 0))) 21 (5 * 0 + 0) 3 (some (23, 5 * 0 + 0))) 19 0 0 (some (21, 5 * 0 + 0))) 21 (5 * 0 + 1) 2 (some (22, 5 * 0 + 1))) 21 (5 * 0 + 1) 3 (some (23, 5 * 0 + 1))) 19 0 1 (some (21, 5 * 0 + 1))) 21 (5 * 0 + 2) 2 (some (22, 5 * 0 + 2))) 21 (5 * 0 + 2) 3 (some (23, 5 * 0 + 2))) 19 0 2 (some (21, 5 * 0 + 2))) 21 (5 * 0 + 3) 2 (some (22, 5 * 0 + 3))) 21 (5 * 0 + 3) 3 (some (23, 5 * 0 + 3))) 19 0 3 (some (21, 5 * 0 + 3))) 21 (5 * 0 + 4) 2 (some (22, 5 * 0 + 4))) 21 (5 * 0 + 4) 3 (some (23, 5 * 0 + 4))) 19 0 4 (some (21, 5 * 0 + 4))) 0 0 5 (some (18, 0)))) 18 1 1 (some (19, 1))) 18 1 2 (some (20, 1))) 18 1 0 (some (1, 0))) 21 (5 * 1 + 0) 2 (some (22, 5 * 1 + 0))) 21 (5 * 1 + 0) 3 (some (23, 5 * 1 + 0))) 19 1 0 (some (21, 5 * 1 + 0))) 21 (5 * 1 + 1) 2 (some (22, 5 * 1 + 1))) 21 (5 * 1 + 1) 3 (some (23, 5 * 1 + 1))) 19 1 1 (some (21, 5 * 1 + 1))) 21 (5 * 1 + 2) 2 (some (22, 5 * 1 + 2))) 21 (5 * 1 + 2) 3 (some (23, 5 * 1 + 2))) 19 1 2 (some (21, 5 * 1 + 2))) 21 (5 * 1 + 3) 2 (some (22, 5 * 1 + 3))) 21 (5 * 1 + 3) 3 (some (23, 5 * 1 + 3))) 19 1 3 (some (21, 5 * 1 + 3))) 21 (5 * 1 + 4) 2 (some (22, 5 * 1 + 4))) 21 (5 * 1 + 4) 3 (some (23, 5 * 1 + 4))) 19 1 4 (some (21, 5 * 1 + 4))) 0 0 6 (some (18, 1)))) 18 2 1 (some (19, 2))) 18 2 2 (some (20, 2))) 18 2 0 (some (1, 0))) 21 (5 * 2 + 0) 2 (some (22, 5 * 2 + 0))) 21 (5 * 2 + 0) 3 (some (23, 5 * 2 + 0))) 19 2 0 (some (21, 5 * 2 + 0))) 21 (5 * 2 + 1) 2 (some (22, 5 * 2 + 1))) 21 (5 * 2 + 1) 3 (some (23, 5 * 2 + 1))) 19 2 1 (some (21, 5 * 2 + 1))) 21 (5 * 2 + 2) 2 (some (22, 5 * 2 + 2))) 21 (5 * 2 + 2) 3 (some (23, 5 * 2 + 2))) 19 2 2 (some (21, 5 * 2 + 2))) 21 (5 * 2 + 3) 2 (some (22, 5 * 2 + 3))) 21 (5 * 2 + 3) 3 (some (23, 5 * 2 + 3))) 19 2 3 (some (21, 5 * 2 + 3))) 21 (5 * 2 + 4) 2 (some (22, 5 * 2 + 4))) 21 (5 * 2 + 4) 3 (some (23, 5 * 2 + 4))) 19 2 4 (some (21, 5 * 2 + 4))) 0 0 7 (some (18, 2))
def imC0 : IM := up ((up ((up ((up (up (up (up (fun _ _ _ => 0) 7 0 1 (-1)) 7 1 1 (-1)) 7 2 1 (-1)) 7 3 1 (-1))) 18 0 5 (1024))) 18 1 5 (1024))) 18 2 5 (1024)
def rsC (bt rt : Nat) : Nat → Nat → Nat → Option (Nat × Nat) := fun k i s => if k < 24 then rs bt rt k i s else none
def chR : Bool := (List.range 64).all fun k => (List.range (nC k)).all fun i => (List.range (siz k)).all fun s => !rdr k s || decide (rsC 0 0 k i s = rC0 k i s) && (match rsC 0 0 k i s with | none => true | some q => decide (q.1 < 64) && decide (q.2 < nC q.1))
theorem chR_ok : chR = true := by decide +kernel
theorem rC0_rs : ∀ k, k < 64 → ∀ i, i < nC k → ∀ s, s < siz k → rdr k s = true → rsC 0 0 k i s = rC0 k i s ∧ ∀ q, rsC 0 0 k i s = some q → okq nC q := by
  intro k hk i hi s hs hr
  have h := List.all_eq_true.mp chR_ok k (List.mem_range.mpr hk)
  have h2 := List.all_eq_true.mp (List.all_eq_true.mp h i (List.mem_range.mpr hi)) s (List.mem_range.mpr hs)
  rw [hr] at h2
  have h2 : (decide (rsC 0 0 k i s = rC0 k i s) && (match rsC 0 0 k i s with | none => true | some q => decide (q.1 < 64) && decide (q.2 < nC q.1))) = true := h2
  rw [Bool.and_eq_true] at h2
  refine ⟨of_decide_eq_true h2.1, fun q hq => ?_⟩
  have h3 := h2.2
  rw [hq] at h3
  have h4 : (decide (q.1 < 64) && decide (q.2 < nC q.1)) = true := h3
  rw [Bool.and_eq_true] at h4
  exact ⟨of_decide_eq_true h4.1, of_decide_eq_true h4.2⟩
theorem rs_ref {k i s : Nat} {bt rt : Nat} {q : Nat × Nat} (h : rs bt rt k i s = some q) : k < 24 ∨ 30 ≤ k := by
  refine Classical.byContradiction (fun z => ?_)
  rcases (by omega : k = 24 ∨ k = 25 ∨ k = 26 ∨ k = 27 ∨ k = 28 ∨ k = 29) with rfl | rfl | rfl | rfl | rfl | rfl <;> cases h
theorem cap_C : ∀ k, k < 24 → cap k ≤ nC k := by decide
theorem nC_0 : ∀ k, k < 64 → 24 ≤ k → nC k = 0 := by decide
theorem ids_C1 : ∀ q ∈ idsC, (q.1 < 64 ∧ q.2 < nC q.1) ∧ decide (q.1 < 24) = true := by decide +kernel
theorem ids_C2 : ∀ k, k < 24 → ∀ i, i < nC k → (k, i) ∈ idsC := by decide +kernel
end
section
/-! THE FIRST RULE: sticks word + food * 3 ; lasts 5 ; shames 10 ; -/
section Ev
variable {b : Nat → Int} {n : Nat}
theorem loop0 {op : Int → Int} {sub : Nat → PT} {f : Nat} {r : PT} (h : op (tk b n r.1) = 0) : loopP b n op sub f r = r := loopP_n (fun q => q.2 h)
theorem one_num {m p : Nat} (h : tk b n p = 2) : oneL b n m p = (adv b n p, -1, [vl b n p], fun _ => vl b n p) := by
  have hx : ∀ nE, atomX b n m nE p = (adv b n p, -1, [vl b n p], fun _ => vl b n p) := fun nE => by
    unfold atomX
    rw [if_neg (by omega), if_pos h]
  cases m with
  | zero => rw [oneL_0, if_neg (by omega)]; exact hx _
  | succ m => rw [oneL_s, if_neg (by omega)]; exact hx _
theorem one_nam {m p : Nat} (h : tk b n p = 3) : oneL b n m p = (adv b n p, -1, [-1 - vl b n p], fun nm => nm (vl b n p).toNat) := by
  have hx : ∀ nE, atomX b n m nE p = (adv b n p, -1, [-1 - vl b n p], fun nm => nm (vl b n p).toNat) := fun nE => by
    unfold atomX
    rw [if_neg (by omega), if_neg (by omega), if_pos h]
  cases m with
  | zero => rw [oneL_0, if_neg (by omega)]; exact hx _
  | succ m => rw [oneL_s, if_neg (by omega)]; exact hx _
theorem den_x {m p : Nat} (h : tk b n p ≠ 9) : denL b n m p = denX b n (oneL b n m) p := by
  cases m with
  | zero => rw [denL_0, if_neg h]
  | succ m => rw [denL_s, if_neg h]
/-- a sum that a ';' ends -/
theorem eit_of {m p : Nat} {r : PT} (h9 : tk b n p ≠ 9) (hs : sumL b n m p = r) (h : tk b n r.1 = 59) : eitL b n m p = r := by
  have hd : denL b n m p = r := by
    rw [den_x h9]
    show loopP b n opC (sumP b n (oneL b n m)) 1 (sumL b n m p) = r
    rw [hs, loop0 (by rw [h]; rfl)]
  have hb : bothL b n m p = r := by
    show loopP b n opA (denL b n m) 160 (denL b n m p) = r
    rw [hd, loop0 (by rw [h]; rfl)]
  show loopP b n opO (bothL b n m) 160 (bothL b n m p) = r
  rw [hb, loop0 (by rw [h]; rfl)]
theorem eit_num {m p : Nat} (h : tk b n p = 2) (h2 : tk b n (adv b n p) = 59) : eitL b n m p = (adv b n p, -1, [vl b n p], fun _ => vl b n p) := by
  refine eit_of (by omega) ?_ h2
  have ht : termL b n m p = (adv b n p, -1, [vl b n p], fun _ => vl b n p) := by
    show loopP b n opM (oneL b n m) 160 (oneL b n m p) = _
    rw [one_num h, loop0 (by show opM (tk b n (adv b n p)) = 0; rw [h2]; rfl)]
  show loopP b n opS (termL b n m) 160 (termL b n m p) = _
  rw [ht, loop0 (by show opS (tk b n (adv b n p)) = 0; rw [h2]; rfl)]
/-- what stands where -/
def fstT (b : Nat → Int) (n e : Nat) : Prop := span isW b n 0 = 0 ∧ (tk b n 0 = 4 ∧ adv b n 0 = 7) ∧ (tk b n 7 = 3 ∧ adv b n 7 = 12 ∧ vl b n 7 = 0) ∧ (tk b n 12 = 43 ∧ adv b n 12 = 14) ∧ (tk b n 14 = 3 ∧ adv b n 14 = 19 ∧ vl b n 14 = 1) ∧ (tk b n 19 = 42 ∧ adv b n 19 = 21) ∧ (tk b n 21 = 2 ∧ adv b n 21 = 23 ∧ vl b n 21 = 3) ∧ (tk b n 23 = 59 ∧ adv b n 23 = 25) ∧ (tk b n 25 = 5 ∧ adv b n 25 = 31) ∧ (tk b n 31 = 2 ∧ adv b n 31 = 33 ∧ vl b n 31 = 5) ∧ (tk b n 33 = 59 ∧ adv b n 33 = 35) ∧ (tk b n 35 = 6 ∧ adv b n 35 = 42) ∧ (tk b n 42 = 2 ∧ adv b n 42 = 45 ∧ vl b n 42 = 10) ∧ (tk b n 45 = 59 ∧ adv b n 45 = e) ∧ tk b n e = 0
theorem eit_first {e : Nat} (h : fstT b n e) : eitL b n 5 7 = (23, -1, [-1, -2, 3, -9, -10], fun nm => bi2 (-10) (nm 0) (bi2 (-9) (nm 1) 3)) := by
  obtain ⟨-, -, ⟨t7, a7, v7⟩, ⟨t12, a12⟩, ⟨t14, a14, v14⟩, ⟨t19, a19⟩, ⟨t21, a21, v21⟩, ⟨t23, -⟩, -⟩ := h
  refine eit_of (by omega) ?_ t23
  have h7 : termL b n 5 7 = (12, -1, [-1], fun nm => nm 0) := by
    show loopP b n opM (oneL b n 5) 160 (oneL b n 5 7) = _
    rw [one_nam t7, a7, v7, loop0 (by show opM (tk b n 12) = 0; rw [t12]; rfl)]
    rfl
  have h14 : termL b n 5 14 = (23, -1, [-2, 3, -9], fun nm => bi2 (-9) (nm 1) 3) := by
    show loopP b n opM (oneL b n 5) (159 + 1) (oneL b n 5 14) = _
    rw [one_nam t14, a14, v14, loopP_y2 rfl (by show opM (tk b n 19) ≠ 0; rw [t19]; decide)]
    have e1 : lpS b n opM (oneL b n 5) (19, -1, [-1 - 1], fun nm => nm (1 : Int).toNat) = (23, -1, [-2, 3, -9], fun nm => bi2 (-9) (nm 1) 3) := by
      unfold lpS
      show ((oneL b n 5 (adv b n 19)).1, (oneL b n 5 (adv b n 19)).2.1, [-1 - 1] ++ (oneL b n 5 (adv b n 19)).2.2.1 ++ [opM (tk b n 19)], fun nm => bi2 (opM (tk b n 19)) (nm 1) ((oneL b n 5 (adv b n 19)).2.2.2 nm)) = _
      rw [a19, one_num t21, a21, v21, t19]
      rfl
    rw [e1, loop0 (by show opM (tk b n 23) = 0; rw [t23]; rfl)]
  show loopP b n opS (termL b n 5) (159 + 1) (termL b n 5 7) = _
  rw [h7, loopP_y2 rfl (by show opS (tk b n 12) ≠ 0; rw [t12]; decide)]
  have e1 : lpS b n opS (termL b n 5) (12, -1, [-1], fun nm => nm 0) = (23, -1, [-1, -2, 3, -9, -10], fun nm => bi2 (-10) (nm 0) (bi2 (-9) (nm 1) 3)) := by
    unfold lpS
    show ((termL b n 5 (adv b n 12)).1, (termL b n 5 (adv b n 12)).2.1, [-1] ++ (termL b n 5 (adv b n 12)).2.2.1 ++ [opS (tk b n 12)], fun nm => bi2 (opS (tk b n 12)) (nm 0) ((termL b n 5 (adv b n 12)).2.2.2 nm)) = _
    rw [a12, h14, t12]
    rfl
  rw [e1, loop0 (by show opS (tk b n 23) = 0; rw [t23]; rfl)]
theorem part_of {key : Int} {p q : Nat} {r : PT} (hk : tk b n p = key) (ha : adv b n p = q) (he : eitL b n 5 q = r) (h1 : r.2.1 = -1) (h2 : tk b n r.1 = 59) : partP b n key p = (adv b n r.1, -1, r.2.2) := by
  unfold partP
  rw [if_pos hk, ha, he, if_pos h1, if_pos h2]
theorem rd_first {e : Nat} (h : fstT b n e) : rdF b n = -1 ∧ ∀ nm, valT b n 0 nm = bi2 (-10) (nm 0) (bi2 (-9) (nm 1) 3) ∧ valT b n 1 nm = 5 ∧ valT b n 2 nm = 10 := by
  have hE := eit_first h
  obtain ⟨s0, ⟨t0, a0⟩, -, -, -, -, -, ⟨t23, a23⟩, ⟨t25, a25⟩, ⟨t31, a31, v31⟩, ⟨t33, a33⟩, ⟨t35, a35⟩, ⟨t42, a42, v42⟩, ⟨t45, a45⟩, te⟩ := h
  have r0 : (rdk b n 0).1 = 0 := s0
  have p0 := part_of t0 a0 hE rfl t23
  have p1 := part_of t25 a25 (eit_num (m := 5) t31 (by rw [a31]; exact t33)) rfl (by show tk b n (adv b n 31) = 59; rw [a31]; exact t33)
  have p2 := part_of t35 a35 (eit_num (m := 5) t42 (by rw [a42]; exact t45)) rfl (by show tk b n (adv b n 42) = 59; rw [a42]; exact t45)
  have k1 : rdk b n 1 = (25, -1, [-1, -2, 3, -9, -10], fun nm => bi2 (-10) (nm 0) (bi2 (-9) (nm 1) 3)) := by
    have : rdk b n 1 = partP b n 4 (rdk b n 0).1 := stP_y
    rw [this, r0, p0]
    show (adv b n 23, _) = _
    rw [a23]
  have k2 : rdk b n 2 = (35, -1, [5], fun _ => 5) := by
    have : rdk b n 2 = stP (partP b n 5) (rdk b n 1).1 (rdk b n 1).2.1 := rfl
    rw [this, k1, stP_y]
    show partP b n 5 25 = _
    rw [p1]
    show (adv b n (adv b n 31), _) = _
    rw [a31, a33, v31]
  have k3 : rdk b n 3 = (e, -1, [10], fun _ => 10) := by
    have : rdk b n 3 = stP (partP b n 6) (rdk b n 2).1 (rdk b n 2).2.1 := rfl
    rw [this, k2, stP_y]
    show partP b n 6 35 = _
    rw [p2]
    show (adv b n (adv b n 42), _) = _
    rw [a42, a45, v42]
  refine ⟨?_, fun nm => ⟨?_, ?_, ?_⟩⟩
  · rw [rdF_eq, k3, if_pos rfl, if_pos te]
  · unfold valT; rw [k1]
  · unfold valT; rw [k2]
  · unfold valT; rw [k3]
end Ev
/-- the class's own letters -/
def b46 : Nat → Int := fun s => if s < 46 then letS 12 s else 0
theorem fst46 : fstT b46 46 46 := by unfold fstT; decide +kernel
end
section
/-! the class's constructor -/
def pC (k : Nat) : Bool := decide (k < 24)
def lm0 : IM := fun _ _ _ => 0
theorem imC0_k {k i s : Nat} (h : ¬ (k = 7 ∧ s = 1)) (h2 : ¬ (k = 18 ∧ s = 5)) : imC0 k i s = 0 := by
  unfold imC0
  simp only [up_app]
  repeat' split
  all_goals first | rfl | (exfalso; omega)
theorem sideC {n : Nat → Nat} (h : ∀ k, k < 24 → n k = nC k) : sideOk n pC idsC := by
  refine ⟨fun q hq => ?_, fun q hq hp => ?_, fun k hk => ?_, ndC⟩
  · have h1 := ids_C1 q hq
    have h2 : q.1 < 24 := of_decide_eq_true h1.2
    exact ⟨⟨h1.1.1, by rw [h q.1 h2]; exact h1.1.2⟩, h1.2⟩
  · have h2 : q.1 < 24 := of_decide_eq_true hp
    have h3 := hq.2
    rw [h q.1 h2] at h3
    exact ids_C2 q.1 h2 q.2 h3
  · have h2 : k < 24 := of_decide_eq_true hk
    rw [h k h2]
    exact cap_C k h2
theorem rsC_rs {bt rt k i s : Nat} (h : k < 24) : rsC bt rt k i s = rs bt rt k i s := if_pos h
theorem agI_C (im : IM) (bt rt : Nat) (lm : IM) : agI idsC (im, rs bt rt, lm) (im, rsC bt rt, lm) := fun k i s hq _ => ⟨rfl, fun _ => (rsC_rs (of_decide_eq_true (ids_C1 (k, i) hq).2)).symm, rfl⟩
theorem mix_C {im im' : IM} {bt rt bt' rt' : Nat} {lm : IM} (h : ∀ k i s, 24 ≤ k → im' k i s = im k i s) : mixk pC (im', rs bt' rt', lm) (im, rsC bt rt, lm) = (im', rsC bt' rt', lm) := by
  unfold mixk pC rsC
  refine Prod.ext ?_ (Prod.ext ?_ ?_)
  · funext k i s
    show (if decide (k < 24) = true then im' k i s else im k i s) = im' k i s
    split
    · rfl
    · rename_i hk
      exact (h k i s (by simpa using hk)).symm
  · funext k i s
    show (if decide (k < 24) = true then rs bt' rt' k i s else if k < 24 then rs bt rt k i s else none) = if k < 24 then rs bt' rt' k i s else none
    by_cases hk : k < 24
    · rw [if_pos (decide_eq_true hk), if_pos hk]
    · rw [if_neg (by simpa using hk), if_neg hk, if_neg hk]
  · funext k i s
    show (if decide (k < 24) = true then lm k i s else lm k i s) = lm k i s
    split <;> rfl
/-- any references of the class are in order -/
theorem rs_okC {n : Nat → Nat} (h : ∀ k, k < 24 → n k = nC k) {bt rt : Nat} (hbt : bt < 6) (hrt : rt < 6) {k i s : Nat} {q : Nat × Nat} (hk : k < 24) (hi : i < nC k) (hs : s < siz k) (hr : rdr k s = true) (hq : rs bt rt k i s = some q) : okq n q := by
  have h00 : rs 0 0 k i s = some q ∨ q = (2, bt) ∨ q = (2, rt) := by
    by_cases h14 : k = 14 ∧ s = 7
    · obtain ⟨rfl, rfl⟩ := h14
      have hi0 : i = 0 := by have : nC 14 = 1 := rfl; omega
      subst hi0
      have hq : some (2, rt) = some q := hq
      exact Or.inr (Or.inr (Option.some.inj hq).symm)
    · by_cases h16 : k = 16 ∧ s = 1
      · obtain ⟨rfl, rfl⟩ := h16
        have hi0 : i = 0 := by have : nC 16 = 1 := rfl; omega
        subst hi0
        have hq : some (2, bt) = some q := hq
        exact Or.inr (Or.inl (Option.some.inj hq).symm)
      · left
        rw [← hq]
        unfold rs
        split <;> try rfl
        · split <;> try rfl
          exact absurd ⟨rfl, rfl⟩ h14
        · split <;> try rfl
          exact absurd ⟨rfl, rfl⟩ h16
  have h2 : nC 2 = 6 := rfl
  have hx : okq nC q := by
    rcases h00 with h0 | rfl | rfl
    · exact (rC0_rs k (by omega) i hi s hs hr).2 q ((rsC_rs hk).trans h0)
    · exact ⟨by omega, by show bt < nC 2; omega⟩
    · exact ⟨by omega, by show rt < nC 2; omega⟩
  refine ⟨hx.1, ?_⟩
  by_cases hk : q.1 < 24
  · rw [h q.1 hk]; exact hx.2
  · have := nC_0 q.1 hx.1 (by omega)
    have := hx.2
    omega
theorem okM_C {n : Nat → Nat} (h : ∀ k, k < 24 → n k = nC k) (h2 : ∀ k, k < 64 → 24 ≤ k → n k = 0) {im : IM} {bt rt : Nat} {lm : IM} (hbt : bt < 6) (hrt : rt < 6) : okM n (im, rs bt rt, lm) := by
  intro k i s q hk hs hr hq
  by_cases hk2 : k < 24
  · exact rs_okC h hbt hrt hk2 (by have := hk.2; rw [← h k hk2]; exact this) hs hr hq
  · have h3 : i < n k := hk.2
    rw [h2 k hk.1 (by omega)] at h3
    omega
/-- the letters so far -/
def imF (j : Nat) : IM := fun k i s => if k = 15 ∧ i = 0 then (if s < j then letS 12 s else 0) else if k = 14 ∧ i = 0 ∧ s = 1 then (j : Int) else imC0 k i s
theorem imF_0 : imF 0 = imC0 := by
  funext k i s
  unfold imF
  split
  · rename_i h
    rw [if_neg (by omega), h.1]
    exact (imC0_k (by omega) (by omega)).symm
  split
  · rename_i h
    rw [h.1]
    exact (imC0_k (by omega) (by omega)).symm
  · rfl
theorem let12 {j : Nat} (h : j < 46) : 0 ≤ letS 12 j ∧ letS 12 j < 128 := let_in (i := 12) (by omega) h
theorem imC0_ri : RI imC0 := by
  unfold imC0
  repeat (first | refine RI_up ?_ (by constructor <;> omega))
  intro k i s
  exact ⟨by show (-2147483648 : Int) ≤ 0; omega, by show (0 : Int) < 2147483648; omega⟩
theorem imF_ri {j : Nat} (h : j ≤ 46) : RI (imF j) := by
  intro k i s
  unfold imF
  split
  · split
    · have := let12 (j := s) (by omega)
      exact ⟨by omega, by omega⟩
    · exact ri0
  split
  · exact ⟨by omega, by omega⟩
  · exact imC0_ri k i s
theorem imF_n (j : Nat) : imF j 14 0 1 = j := by
  unfold imF
  rw [if_neg (by omega), if_pos ⟨rfl, rfl, rfl⟩]
theorem imF_s {j : Nat} (h : j < 46) : (if imF j 14 0 1 < 160 then up (up (imF j) 15 0 (imF j 14 0 1).toNat (letS 12 j)) 14 0 1 (imF j 14 0 1 + 1) else imF j) = imF (j + 1) := by
  rw [imF_n, if_pos (by omega), Int.toNat_natCast]
  funext k i s
  simp only [up_app]
  unfold imF
  by_cases h1 : k = 14 ∧ i = 0 ∧ s = 1
  · rw [if_pos h1, if_neg (by omega), if_pos h1]; omega
  · rw [if_neg h1, if_neg h1]
    by_cases h2 : k = 15 ∧ i = 0
    · rw [if_pos h2, if_pos h2]
      by_cases h3 : s = j
      · rw [if_pos ⟨h2.1, h2.2, h3⟩, if_pos (by omega), h3]
      · rw [if_neg (fun z => h3 z.2.2)]
        by_cases h4 : s < j
        · rw [if_pos h4, if_pos (by omega)]
        · rw [if_neg h4, if_neg (by omega)]
    · rw [if_neg h2, if_neg (fun z => h2 ⟨z.1, z.2.1⟩), if_neg h2, if_neg h1]
/-- the class as it begins -/
def SC0 (im : IM) : Prop := RI im ∧ (∀ k i s, k ≠ 14 → k ≠ 15 → ¬ (k = 2 ∧ i = 0 ∧ s = 3) → ¬ (k = 3 ∧ i = 0) → ¬ (k = 4 ∧ i = 0) → ¬ (k = 0 ∧ i = 0 ∧ s = 8) → im k i s = imC0 k i s) ∧ im 0 0 8 = 1 ∧ im 14 0 1 = 0 ∧ TX b46 46 0 im ∧ im 15 0 = b46

theorem x8_tail {M : MS} {G : GS} {A0 : Nat → Prop} {Q : State → Prop} {c s : Nat} {ad : Ads} (F : Fg M G A0 Y_X8_init) (hcs : c ≤ 97 ∧ s ≤ 3121) (x1 : Option SV) (K : ∀ im', SC0 im' → Wg M G A0 Y_X8_init (rmi 48 97 3121) Q c s ad nC 214 [some (vR 0 0), some (vI 46)] [] (im', rsC 0 0, lm0)) : Wg M G A0 Y_X8_init (rmi 48 97 3121) Q c s ad nC 164 [some (vR 0 0), x1] [] (imF 0, rsC 0 0, lm0) := by
  refine z_less 1 ?_
  refine z_iconst (t := 165) F dX8_init_164 rfl ?_
  refine z_istore_n (t := 166) F dX8_init_165 rfl (by decide) rfl rfl ?_
  have hsd : sideOk nC pC idsC := sideC (fun _ _ => rfl)
  have hpo : ∀ (im' : IM) (bt rt : Nat) (lm' : IM), bt < 6 → rt < 6 → okM nC (im', rs bt rt, lm') := fun im' bt rt lm' h1 h2 => okM_C (fun _ _ => rfl) nC_0 h1 h2
  have LOOP : ∀ (fz j : Nat), 46 - j < fz → j ≤ 46 → Wg M G A0 Y_X8_init (rmi 48 97 3121) Q c s ad nC 166 [some (vR 0 0), some (vI (j : Int))] [] (imF j, rsC 0 0, lm0) := by
    intro fz
    induction fz with
    | zero => intro j h; exact absurd h (Nat.not_lt_zero _)
    | succ fz ih =>
      intro j hm hj
      have hri := imF_ri hj
      refine z_iload_n (t := 167) F dX8_init_166 rfl rfl rfl ?_
      refine z_ldcS (t := 169) 12 F dX8_init_167 refS_12 rfl ?_
      refine z_callK (t := 172) [] F (by omega) rfl dX8_init_169 k_J0_length_8abf5 v_J0_length_8abf5 ml_X8_63 rfl rfl (Nat.le_of_ble_eq_true rfl) (by decide) (by decide) hcs hsd (agI_C _ 0 0 _) (c_J0_length_8abf5 _ G _ 12 (by omega)) (fun r m' hp => ?_) rfl (fun r m' hp => ?_)
      · obtain ⟨x, -, -, rfl⟩ := hp
        exact hpo _ _ _ _ (by omega) (by omega)
      obtain ⟨x, rfl, rfl, rfl⟩ := hp
      rw [mix_C (fun _ _ _ _ => rfl)]
      refine z_icmp_ge (t := 175) (u := 195) F dX8_init_172 (by constructor <;> omega) (by constructor <;> decide) (by decide) rfl (fun c => ?_) (fun c => ?_)
      · obtain rfl : j = 46 := by have : ((lenS.getD 12 0 : Nat) : Int) = 46 := rfl; omega
        refine z_aload_n (t := 196) F dX8_init_195 rfl rfl rfl ?_
        refine z_getr3 (x := 3) (k' := 14) (i' := 0) (t := 199) F dX8_init_196 rfl uX8 fl_X8_35 (by decide) rfl (okq_of (by decide) (by decide)) rfl rfl rfl ?_
        refine z_aload_n (t := 200) F dX8_init_199 rfl rfl rfl ?_
        refine z_getr3 (x := 0) (k' := 1) (i' := 0) (t := 203) F dX8_init_200 rfl uX8 fl_X8_11 (by decide) rfl (okq_of (by decide) (by decide)) rfl rfl rfl ?_
        refine z_iconst (t := 204) F dX8_init_203 rfl ?_
        refine z_aald3 (k' := 2) (i' := 0) (t := 205) F dX8_init_204 rfl (by decide) (by decide) (by decide) (okq_of (by decide) (by decide)) (by decide) (by decide) rfl rfl ?_
        have hb : imF 46 15 0 = b46 := by
          funext s
          unfold imF b46
          rw [if_pos ⟨rfl, rfl⟩]
        have hby : byt b46 46 := ⟨by omega, fun s _ => by
          unfold b46
          split
          · have := let12 (j := s) (by omega)
            omega
          · omega⟩
        refine z_callV (t := 208) [vR 2 0] F dX8_init_205 k_X4_read v_X4_read ml_X8_77 rfl rfl rfl rfl (Nat.le_of_ble_eq_true rfl) (by decide) (by decide) hcs (okq_of (by decide) (by decide)) hsd (agI_C _ 0 0 _) (c_X4_read _ G (imF 46) 0 0 0 lm0 (by omega) b46 46 hby hri hb (imF_n 46)) (fun r m' hp => ?_) rfl (fun r m' hp => ?_)
        · obtain ⟨x, -, im', -, -, -, -, -, rfl⟩ := hp
          exact hpo _ _ _ _ (by omega) (by omega)
        obtain ⟨x, rfl, im', -, hR', hag, h141, hTX, rfl⟩ := hp
        rw [mix_C (fun k i s hk => hag k i s (by omega) (by omega) (by omega) (by omega))]
        refine z_popI (t := 209) F dX8_init_208 rfl ?_
        refine z_aload_n (t := 210) F dX8_init_209 rfl rfl rfl ?_
        refine z_iconst (t := 211) F dX8_init_210 rfl ?_
        refine z_puti3 (x := 8) (t := 214) F dX8_init_211 rfl uX8 tyX8 tyX8_ok nmX8 fl_X8_81 (by decide) rfl rfl (okq_of (by decide) (by decide)) rfl rfl rfl ?_
        have hT := hTX (rd_first fst46).1
        refine K _ ⟨RI_up hR' (by constructor <;> omega), fun k i s q1 q2 q3 q4 q5 q6 => ?_, ?_, ?_, ⟨fun k hk => ?_, fun s hs => ?_⟩, ?_⟩
        · rw [up_app, if_neg q6, hag k i s q1 q3 q4 q5]
          unfold imF
          rw [if_neg (fun z => q2 z.1), if_neg (fun z => q1 z.1)]
        · rw [up_app, if_pos ⟨rfl, rfl, rfl⟩]
        · rw [up_app, if_neg (by omega)]; exact h141
        · rw [up_app, if_neg (by omega)]; exact hT.1 k hk
        · rw [up_app, if_neg (by omega)]; exact hT.2 s hs
        · funext s
          rw [up_app, if_neg (by omega), hag 15 0 s (by omega) (by omega) (by omega) (by omega)]
          exact congrFun hb s
      · have hj2 : j < 46 := by have : ((lenS.getD 12 0 : Nat) : Int) = 46 := rfl; omega
        refine z_aload_n (t := 176) F dX8_init_175 rfl rfl rfl ?_
        refine z_getr3 (x := 3) (k' := 14) (i' := 0) (t := 179) F dX8_init_176 rfl uX8 fl_X8_35 (by decide) rfl (okq_of (by decide) (by decide)) rfl rfl rfl ?_
        refine z_ldcS (t := 181) 12 F dX8_init_179 refS_12 rfl ?_
        refine z_iload_n (t := 182) F dX8_init_181 rfl rfl rfl ?_
        refine z_callK (t := 185) [vI (j : Int)] F (by omega) rfl dX8_init_182 k_J0_charAt_5068e v_J0_charAt_5068e ml_X8_69 rfl rfl (Nat.le_of_ble_eq_true rfl) (by decide) (by decide) hcs hsd (agI_C _ 0 0 _) (c_J0_charAt_5068e _ G _ 12 j (by omega) hj2) (fun r m' hp => ?_) rfl (fun r m' hp => ?_)
        · obtain ⟨x, -, -, rfl⟩ := hp
          exact hpo _ _ _ _ (by omega) (by omega)
        obtain ⟨x, rfl, rfl, rfl⟩ := hp
        rw [mix_C (fun _ _ _ _ => rfl)]
        refine z_callV (t := 188) [vI (letS 12 j)] F dX8_init_185 k_X4_put v_X4_put ml_X8_73 rfl rfl rfl rfl (Nat.le_of_ble_eq_true rfl) (by decide) (by decide) hcs (okq_of (by decide) (by decide)) hsd (agI_C _ 0 0 _) (c_X4_put _ G (imF j) 0 0 lm0 hri (by rw [imF_n]; omega) (by rw [imF_n]; omega) (letS 12 j)) (fun r m' hp => ?_) rfl (fun r m' hp => ?_)
        · obtain ⟨x, -, -, rfl⟩ := hp
          exact hpo _ _ _ _ (by omega) (by omega)
        obtain ⟨x, hr0, -, hm0⟩ := hp
        subst hr0
        rw [imF_s hj2] at hm0
        subst hm0
        rw [mix_C (fun k i s hk => by
          unfold imF
          rw [if_neg (by omega), if_neg (by omega), if_neg (by omega), if_neg (by omega)])]
        refine z_popI (t := 189) F dX8_init_188 rfl ?_
        refine z_iinc2 (z := ((j + 1 : Nat) : Int)) (t := 192) F dX8_init_189 rfl (by decide) rfl (by omega) rfl ?_
        refine z_goto (t := 166) F dX8_init_192 (by decide) ?_
        exact ih (j + 1) (by omega) (by omega)
  
  exact LOOP 47 0 (by omega) (by omega)

set_option maxHeartbeats 4000000 in
set_option maxRecDepth 20000 in
theorem ci_X8 (l : Launch) (G : GS)  : Ci l G yX8_init Y_X8_init 97 3121 [vR 0 0] (gl [1, 0, 0, 0, 0, 0, 0, 0, 0, 0, 0, 0, 0, 0, 0, 0, 0, 0, 0, 0, 0, 0, 0, 0, 0, 0, 0, 0, 0, 0, 0, 0, 0, 0, 0, 0, 0, 0, 0, 0, 0, 0, 0, 0, 0, 0, 0, 0, 0, 0, 0]) (fun _ _ _ => 0, fun _ _ _ => none, fun _ _ _ => 0) (nC) (fun m' => ∃ im', m' = (im', rsC 0 0, lm0) ∧ SC0 im') := by
  refine ci_of (by decide) rfl rfl rfl (Nat.le_of_ble_eq_true rfl) ?_
  intro M ad hMl F hini
  subst hMl
  refine z_pad 1 ?_
  show Wg M G _ Y_X8_init _ _ 0 0 ad (gl [1, 0, 0, 0, 0, 0, 0, 0, 0, 0, 0, 0, 0, 0, 0, 0, 0, 0, 0, 0, 0, 0, 0, 0, 0, 0, 0, 0, 0, 0, 0, 0, 0, 0, 0, 0, 0, 0, 0, 0, 0, 0, 0, 0, 0, 0, 0, 0, 0, 0, 0]) 0 [some (vR 0 0), none] [] (fun _ _ _ => 0, fun _ _ _ => none, fun _ _ _ => 0)
  refine z_aload_n (t := 1) F dX8_init_0 rfl rfl rfl ?_
  refine z_objinit (t := 4) F dX8_init_1 ml_X8_1 (by decide) (by decide) rfl ?_
  refine z_aload_n (t := 5) F dX8_init_4 rfl rfl rfl ?_
  refine z_bipush (t := 7) F dX8_init_5 (by decide) rfl ?_
  refine z_newq (t := 10) (k := 1) (i := 0) (N := 6) F dX8_init_7 rfl (by omega) (by omega) rfl cl_X8_9 F.2.2.2.2.2.2.2.1.1 rfl (by omega) (by omega) (by omega) rfl (by decide) (ins_gl (L' := [1, 1, 0, 0, 0, 0, 0, 0, 0, 0, 0, 0, 0, 0, 0, 0, 0, 0, 0, 0, 0, 0, 0, 0, 0, 0, 0, 0, 0, 0, 0, 0, 0, 0, 0, 0, 0, 0, 0, 0, 0, 0, 0, 0, 0, 0, 0, 0, 0, 0, 0]) (by decide) (by decide)) (by simp only [okS, okL, okv, okq] <;> decide) (show okL _ [some (vR 0 0), none] from (by simp only [okS, okL, okv, okq] <;> decide)) ⟨by decide, by decide⟩ rfl (fun ad1 hs1 => ?_)
  refine z_putr3 (x := 0) (t := 13) F dX8_init_10 rfl uX8 tyX8 tyX8_ok nmX8 fl_X8_11 (by decide) (by first | exact Or.inl rfl | exact Or.inr ⟨rfl, hini, rfl⟩) rfl (okq_of (by decide) (by decide)) (okq_of (by decide) (by decide)) rfl (by first | exact Or.inl ⟨_, rfl⟩ | exact Or.inr ⟨_, rfl⟩) rfl ?_
  refine z_aload_n (t := 14) F dX8_init_13 rfl rfl rfl ?_
  refine z_iconst (t := 15) F dX8_init_14 rfl ?_
  refine z_newq (t := 18) (k := 6) (i := 0) (N := 4) F dX8_init_15 rfl (by omega) (by omega) rfl cl_X8_15 F.2.2.2.2.2.2.2.1.2.1 rfl (by omega) (by omega) (by omega) rfl (by decide) (ins_gl (L' := [1, 1, 0, 0, 0, 0, 1, 0, 0, 0, 0, 0, 0, 0, 0, 0, 0, 0, 0, 0, 0, 0, 0, 0, 0, 0, 0, 0, 0, 0, 0, 0, 0, 0, 0, 0, 0, 0, 0, 0, 0, 0, 0, 0, 0, 0, 0, 0, 0, 0, 0]) (by decide) (by decide)) (by simp only [okS, okL, okv, okq] <;> decide) (show okL _ [some (vR 0 0), none] from (by simp only [okS, okL, okv, okq] <;> decide)) ⟨by decide, by decide⟩ rfl (fun ad2 hs2 => ?_)
  refine z_putr3 (x := 1) (t := 21) F dX8_init_18 rfl uX8 tyX8 tyX8_ok nmX8 fl_X8_17 (by decide) (by first | exact Or.inl rfl | exact Or.inr ⟨rfl, hini, rfl⟩) rfl (okq_of (by decide) (by decide)) (okq_of (by decide) (by decide)) rfl (by first | exact Or.inl ⟨_, rfl⟩ | exact Or.inr ⟨_, rfl⟩) rfl ?_
  refine z_aload_n (t := 22) F dX8_init_21 rfl rfl rfl ?_
  refine z_new (t := 25) (k := 9) (i := 0) F dX8_init_22 rfl uX1 tyX1 tyX1_ok cl_X8_21 is_X1 in_X1 rfl (by omega) rfl (by decide) df_X1 (ins_gl (L' := [1, 1, 0, 0, 0, 0, 1, 0, 0, 1, 0, 0, 0, 0, 0, 0, 0, 0, 0, 0, 0, 0, 0, 0, 0, 0, 0, 0, 0, 0, 0, 0, 0, 0, 0, 0, 0, 0, 0, 0, 0, 0, 0, 0, 0, 0, 0, 0, 0, 0, 0]) (by decide) (by decide)) (by simp only [okS, okL, okv, okq] <;> decide) (show okL _ [some (vR 0 0), none] from (by simp only [okS, okL, okv, okq] <;> decide)) ⟨by decide, by decide⟩ rfl (fun ad3 hs3 => ?_)
  refine z_dupR (t := 26) F dX8_init_25 rfl ?_
  refine z_callI (t := 29) [] F dX8_init_26 k_X1_init rfl im_X1_init rfl (Or.inr ⟨_, mn_X8_23⟩) rfl rfl (Nat.le_of_ble_eq_true rfl) (by decide) (by decide) ⟨by decide, by decide⟩ (by simp only [okS, okL, okv, okq] <;> decide) (show okL _ [some (vR 0 0), none] from (by simp only [okS, okL, okv, okq] <;> decide)) (ci_X1 _ G _ _ _ _ (by decide) (by decide) (by decide) (by decide) (by decide)) rfl (fun ad4 m4 hs4 hm4 => ?_)
  subst hm4
  rw [show ins (ins (ins (ins (gl [1, 1, 0, 0, 0, 0, 1, 0, 0, 1, 0, 0, 0, 0, 0, 0, 0, 0, 0, 0, 0, 0, 0, 0, 0, 0, 0, 0, 0, 0, 0, 0, 0, 0, 0, 0, 0, 0, 0, 0, 0, 0, 0, 0, 0, 0, 0, 0, 0, 0, 0]) 10) 11) 12) 13 = gl [1, 1, 0, 0, 0, 0, 1, 0, 0, 1, 1, 1, 1, 1, 0, 0, 0, 0, 0, 0, 0, 0, 0, 0, 0, 0, 0, 0, 0, 0, 0, 0, 0, 0, 0, 0, 0, 0, 0, 0, 0, 0, 0, 0, 0, 0, 0, 0, 0, 0, 0] from by rw [ins_gl (L' := [1, 1, 0, 0, 0, 0, 1, 0, 0, 1, 1, 0, 0, 0, 0, 0, 0, 0, 0, 0, 0, 0, 0, 0, 0, 0, 0, 0, 0, 0, 0, 0, 0, 0, 0, 0, 0, 0, 0, 0, 0, 0, 0, 0, 0, 0, 0, 0, 0, 0, 0]) (by decide) (by decide), ins_gl (L' := [1, 1, 0, 0, 0, 0, 1, 0, 0, 1, 1, 1, 0, 0, 0, 0, 0, 0, 0, 0, 0, 0, 0, 0, 0, 0, 0, 0, 0, 0, 0, 0, 0, 0, 0, 0, 0, 0, 0, 0, 0, 0, 0, 0, 0, 0, 0, 0, 0, 0, 0]) (by decide) (by decide), ins_gl (L' := [1, 1, 0, 0, 0, 0, 1, 0, 0, 1, 1, 1, 1, 0, 0, 0, 0, 0, 0, 0, 0, 0, 0, 0, 0, 0, 0, 0, 0, 0, 0, 0, 0, 0, 0, 0, 0, 0, 0, 0, 0, 0, 0, 0, 0, 0, 0, 0, 0, 0, 0]) (by decide) (by decide), ins_gl (L' := [1, 1, 0, 0, 0, 0, 1, 0, 0, 1, 1, 1, 1, 1, 0, 0, 0, 0, 0, 0, 0, 0, 0, 0, 0, 0, 0, 0, 0, 0, 0, 0, 0, 0, 0, 0, 0, 0, 0, 0, 0, 0, 0, 0, 0, 0, 0, 0, 0, 0, 0]) (by decide) (by decide)]]
  refine z_putr3 (x := 2) (t := 32) F dX8_init_29 rfl uX8 tyX8 tyX8_ok nmX8 fl_X8_24 (by decide) (by first | exact Or.inl rfl | exact Or.inr ⟨rfl, hini, rfl⟩) rfl (okq_of (by decide) (by decide)) (okq_of (by decide) (by decide)) rfl (by first | exact Or.inl ⟨_, rfl⟩ | exact Or.inr ⟨_, rfl⟩) rfl ?_
  refine z_iconst (t := 33) F dX8_init_32 rfl ?_
  refine z_istore_n (j := 1) (t := 34) F dX8_init_33 rfl (by decide) rfl rfl ?_
  refine z_iload_n (t := 35) F dX8_init_34 rfl rfl rfl ?_
  refine z_bipush (t := 37) F dX8_init_35 (by decide) rfl ?_
  refine z_icmp_ge (u := 59) (t := 40) F dX8_init_37 (by constructor <;> omega) (by constructor <;> omega) (by decide) rfl (fun c0 => absurd c0 (by decide)) (fun _ => ?_)
  refine z_aload_n (t := 41) F dX8_init_40 rfl rfl rfl ?_
  refine z_getr3 (x := 0) (k' := 1) (i' := 0) (t := 44) F dX8_init_41 rfl uX8 fl_X8_11 (by decide) rfl (okq_of (by decide) (by decide)) rfl (by decide +kernel) rfl ?_
  refine z_iload_n (t := 45) F dX8_init_44 rfl rfl rfl ?_
  refine z_new (t := 48) (k := 2) (i := 0) F dX8_init_45 rfl uX6 tyX6 tyX6_ok cl_X8_9 is_X6 in_X6 rfl (by omega) rfl (by decide) df_X6 (ins_gl (L' := [1, 1, 1, 0, 0, 0, 1, 0, 0, 1, 1, 1, 1, 1, 0, 0, 0, 0, 0, 0, 0, 0, 0, 0, 0, 0, 0, 0, 0, 0, 0, 0, 0, 0, 0, 0, 0, 0, 0, 0, 0, 0, 0, 0, 0, 0, 0, 0, 0, 0, 0]) (by decide) (by decide)) (by simp only [okS, okL, okv, okq] <;> decide) (show okL _ [some (vR 0 0), some (vI 0)] from (by simp only [okS, okL, okv, okq] <;> decide)) ⟨by decide, by decide⟩ rfl (fun ad5 hs5 => ?_)
  refine z_dupR (t := 49) F dX8_init_48 rfl ?_
  refine z_callI (t := 52) [] F dX8_init_49 k_X6_init rfl im_X6_init rfl (Or.inr ⟨_, mn_X8_28⟩) rfl rfl (Nat.le_of_ble_eq_true rfl) (by decide) (by decide) ⟨by decide, by decide⟩ (by simp only [okS, okL, okv, okq] <;> decide) (show okL _ [some (vR 0 0), some (vI 0)] from (by simp only [okS, okL, okv, okq] <;> decide)) (ci_X6 _ G _ _ _ _ (0) (by decide) (by decide) (by decide) (by decide) (by decide)) rfl (fun ad6 m6 hs6 hm6 => ?_)
  subst hm6
  rw [show ins (ins (ins (gl [1, 1, 1, 0, 0, 0, 1, 0, 0, 1, 1, 1, 1, 1, 0, 0, 0, 0, 0, 0, 0, 0, 0, 0, 0, 0, 0, 0, 0, 0, 0, 0, 0, 0, 0, 0, 0, 0, 0, 0, 0, 0, 0, 0, 0, 0, 0, 0, 0, 0, 0]) 3) 4) 5 = gl [1, 1, 1, 1, 1, 1, 1, 0, 0, 1, 1, 1, 1, 1, 0, 0, 0, 0, 0, 0, 0, 0, 0, 0, 0, 0, 0, 0, 0, 0, 0, 0, 0, 0, 0, 0, 0, 0, 0, 0, 0, 0, 0, 0, 0, 0, 0, 0, 0, 0, 0] from by rw [ins_gl (L' := [1, 1, 1, 1, 0, 0, 1, 0, 0, 1, 1, 1, 1, 1, 0, 0, 0, 0, 0, 0, 0, 0, 0, 0, 0, 0, 0, 0, 0, 0, 0, 0, 0, 0, 0, 0, 0, 0, 0, 0, 0, 0, 0, 0, 0, 0, 0, 0, 0, 0, 0]) (by decide) (by decide), ins_gl (L' := [1, 1, 1, 1, 1, 0, 1, 0, 0, 1, 1, 1, 1, 1, 0, 0, 0, 0, 0, 0, 0, 0, 0, 0, 0, 0, 0, 0, 0, 0, 0, 0, 0, 0, 0, 0, 0, 0, 0, 0, 0, 0, 0, 0, 0, 0, 0, 0, 0, 0, 0]) (by decide) (by decide), ins_gl (L' := [1, 1, 1, 1, 1, 1, 1, 0, 0, 1, 1, 1, 1, 1, 0, 0, 0, 0, 0, 0, 0, 0, 0, 0, 0, 0, 0, 0, 0, 0, 0, 0, 0, 0, 0, 0, 0, 0, 0, 0, 0, 0, 0, 0, 0, 0, 0, 0, 0, 0, 0]) (by decide) (by decide)]]
  refine z_aast3 (x := 0) (t := 53) F dX8_init_52 rfl (by decide) (by decide) rfl (by decide) (okq_of (by decide) (by decide)) (okq_of (by decide) (by decide)) rfl rfl (by decide) (by decide) rfl ?_
  refine z_iinc2 (j := 1) (z := 1) (t := 56) F dX8_init_53 rfl (by decide) rfl (by decide) rfl ?_
  refine z_goto (t := 34) F dX8_init_56 (by decide) ?_
  refine z_iload_n (t := 35) F dX8_init_34 rfl rfl rfl ?_
  refine z_bipush (t := 37) F dX8_init_35 (by decide) rfl ?_
  refine z_icmp_ge (u := 59) (t := 40) F dX8_init_37 (by constructor <;> omega) (by constructor <;> omega) (by decide) rfl (fun c0 => absurd c0 (by decide)) (fun _ => ?_)
  refine z_aload_n (t := 41) F dX8_init_40 rfl rfl rfl ?_
  refine z_getr3 (x := 0) (k' := 1) (i' := 0) (t := 44) F dX8_init_41 rfl uX8 fl_X8_11 (by decide) rfl (okq_of (by decide) (by decide)) rfl (by decide +kernel) rfl ?_
  refine z_iload_n (t := 45) F dX8_init_44 rfl rfl rfl ?_
  refine z_new (t := 48) (k := 2) (i := 1) F dX8_init_45 rfl uX6 tyX6 tyX6_ok cl_X8_9 is_X6 in_X6 rfl (by omega) rfl (by decide) df_X6 (ins_gl (L' := [1, 1, 2, 1, 1, 1, 1, 0, 0, 1, 1, 1, 1, 1, 0, 0, 0, 0, 0, 0, 0, 0, 0, 0, 0, 0, 0, 0, 0, 0, 0, 0, 0, 0, 0, 0, 0, 0, 0, 0, 0, 0, 0, 0, 0, 0, 0, 0, 0, 0, 0]) (by decide) (by decide)) (by simp only [okS, okL, okv, okq] <;> decide) (show okL _ [some (vR 0 0), some (vI 1)] from (by simp only [okS, okL, okv, okq] <;> decide)) ⟨by decide, by decide⟩ rfl (fun ad7 hs7 => ?_)
  refine z_dupR (t := 49) F dX8_init_48 rfl ?_
  refine z_callI (t := 52) [] F dX8_init_49 k_X6_init rfl im_X6_init rfl (Or.inr ⟨_, mn_X8_28⟩) rfl rfl (Nat.le_of_ble_eq_true rfl) (by decide) (by decide) ⟨by decide, by decide⟩ (by simp only [okS, okL, okv, okq] <;> decide) (show okL _ [some (vR 0 0), some (vI 1)] from (by simp only [okS, okL, okv, okq] <;> decide)) (ci_X6 _ G _ _ _ _ (1) (by decide) (by decide) (by decide) (by decide) (by decide)) rfl (fun ad8 m8 hs8 hm8 => ?_)
  subst hm8
  rw [show ins (ins (ins (gl [1, 1, 2, 1, 1, 1, 1, 0, 0, 1, 1, 1, 1, 1, 0, 0, 0, 0, 0, 0, 0, 0, 0, 0, 0, 0, 0, 0, 0, 0, 0, 0, 0, 0, 0, 0, 0, 0, 0, 0, 0, 0, 0, 0, 0, 0, 0, 0, 0, 0, 0]) 3) 4) 5 = gl [1, 1, 2, 2, 2, 2, 1, 0, 0, 1, 1, 1, 1, 1, 0, 0, 0, 0, 0, 0, 0, 0, 0, 0, 0, 0, 0, 0, 0, 0, 0, 0, 0, 0, 0, 0, 0, 0, 0, 0, 0, 0, 0, 0, 0, 0, 0, 0, 0, 0, 0] from by rw [ins_gl (L' := [1, 1, 2, 2, 1, 1, 1, 0, 0, 1, 1, 1, 1, 1, 0, 0, 0, 0, 0, 0, 0, 0, 0, 0, 0, 0, 0, 0, 0, 0, 0, 0, 0, 0, 0, 0, 0, 0, 0, 0, 0, 0, 0, 0, 0, 0, 0, 0, 0, 0, 0]) (by decide) (by decide), ins_gl (L' := [1, 1, 2, 2, 2, 1, 1, 0, 0, 1, 1, 1, 1, 1, 0, 0, 0, 0, 0, 0, 0, 0, 0, 0, 0, 0, 0, 0, 0, 0, 0, 0, 0, 0, 0, 0, 0, 0, 0, 0, 0, 0, 0, 0, 0, 0, 0, 0, 0, 0, 0]) (by decide) (by decide), ins_gl (L' := [1, 1, 2, 2, 2, 2, 1, 0, 0, 1, 1, 1, 1, 1, 0, 0, 0, 0, 0, 0, 0, 0, 0, 0, 0, 0, 0, 0, 0, 0, 0, 0, 0, 0, 0, 0, 0, 0, 0, 0, 0, 0, 0, 0, 0, 0, 0, 0, 0, 0, 0]) (by decide) (by decide)]]
  refine z_aast3 (x := 1) (t := 53) F dX8_init_52 rfl (by decide) (by decide) rfl (by decide) (okq_of (by decide) (by decide)) (okq_of (by decide) (by decide)) rfl rfl (by decide) (by decide) rfl ?_
  refine z_iinc2 (j := 1) (z := 2) (t := 56) F dX8_init_53 rfl (by decide) rfl (by decide) rfl ?_
  refine z_goto (t := 34) F dX8_init_56 (by decide) ?_
  refine z_iload_n (t := 35) F dX8_init_34 rfl rfl rfl ?_
  refine z_bipush (t := 37) F dX8_init_35 (by decide) rfl ?_
  refine z_icmp_ge (u := 59) (t := 40) F dX8_init_37 (by constructor <;> omega) (by constructor <;> omega) (by decide) rfl (fun c0 => absurd c0 (by decide)) (fun _ => ?_)
  refine z_aload_n (t := 41) F dX8_init_40 rfl rfl rfl ?_
  refine z_getr3 (x := 0) (k' := 1) (i' := 0) (t := 44) F dX8_init_41 rfl uX8 fl_X8_11 (by decide) rfl (okq_of (by decide) (by decide)) rfl (by decide +kernel) rfl ?_
  refine z_iload_n (t := 45) F dX8_init_44 rfl rfl rfl ?_
  refine z_new (t := 48) (k := 2) (i := 2) F dX8_init_45 rfl uX6 tyX6 tyX6_ok cl_X8_9 is_X6 in_X6 rfl (by omega) rfl (by decide) df_X6 (ins_gl (L' := [1, 1, 3, 2, 2, 2, 1, 0, 0, 1, 1, 1, 1, 1, 0, 0, 0, 0, 0, 0, 0, 0, 0, 0, 0, 0, 0, 0, 0, 0, 0, 0, 0, 0, 0, 0, 0, 0, 0, 0, 0, 0, 0, 0, 0, 0, 0, 0, 0, 0, 0]) (by decide) (by decide)) (by simp only [okS, okL, okv, okq] <;> decide) (show okL _ [some (vR 0 0), some (vI 2)] from (by simp only [okS, okL, okv, okq] <;> decide)) ⟨by decide, by decide⟩ rfl (fun ad9 hs9 => ?_)
  refine z_dupR (t := 49) F dX8_init_48 rfl ?_
  refine z_callI (t := 52) [] F dX8_init_49 k_X6_init rfl im_X6_init rfl (Or.inr ⟨_, mn_X8_28⟩) rfl rfl (Nat.le_of_ble_eq_true rfl) (by decide) (by decide) ⟨by decide, by decide⟩ (by simp only [okS, okL, okv, okq] <;> decide) (show okL _ [some (vR 0 0), some (vI 2)] from (by simp only [okS, okL, okv, okq] <;> decide)) (ci_X6 _ G _ _ _ _ (2) (by decide) (by decide) (by decide) (by decide) (by decide)) rfl (fun ad10 m10 hs10 hm10 => ?_)
  subst hm10
  rw [show ins (ins (ins (gl [1, 1, 3, 2, 2, 2, 1, 0, 0, 1, 1, 1, 1, 1, 0, 0, 0, 0, 0, 0, 0, 0, 0, 0, 0, 0, 0, 0, 0, 0, 0, 0, 0, 0, 0, 0, 0, 0, 0, 0, 0, 0, 0, 0, 0, 0, 0, 0, 0, 0, 0]) 3) 4) 5 = gl [1, 1, 3, 3, 3, 3, 1, 0, 0, 1, 1, 1, 1, 1, 0, 0, 0, 0, 0, 0, 0, 0, 0, 0, 0, 0, 0, 0, 0, 0, 0, 0, 0, 0, 0, 0, 0, 0, 0, 0, 0, 0, 0, 0, 0, 0, 0, 0, 0, 0, 0] from by rw [ins_gl (L' := [1, 1, 3, 3, 2, 2, 1, 0, 0, 1, 1, 1, 1, 1, 0, 0, 0, 0, 0, 0, 0, 0, 0, 0, 0, 0, 0, 0, 0, 0, 0, 0, 0, 0, 0, 0, 0, 0, 0, 0, 0, 0, 0, 0, 0, 0, 0, 0, 0, 0, 0]) (by decide) (by decide), ins_gl (L' := [1, 1, 3, 3, 3, 2, 1, 0, 0, 1, 1, 1, 1, 1, 0, 0, 0, 0, 0, 0, 0, 0, 0, 0, 0, 0, 0, 0, 0, 0, 0, 0, 0, 0, 0, 0, 0, 0, 0, 0, 0, 0, 0, 0, 0, 0, 0, 0, 0, 0, 0]) (by decide) (by decide), ins_gl (L' := [1, 1, 3, 3, 3, 3, 1, 0, 0, 1, 1, 1, 1, 1, 0, 0, 0, 0, 0, 0, 0, 0, 0, 0, 0, 0, 0, 0, 0, 0, 0, 0, 0, 0, 0, 0, 0, 0, 0, 0, 0, 0, 0, 0, 0, 0, 0, 0, 0, 0, 0]) (by decide) (by decide)]]
  refine z_aast3 (x := 2) (t := 53) F dX8_init_52 rfl (by decide) (by decide) rfl (by decide) (okq_of (by decide) (by decide)) (okq_of (by decide) (by decide)) rfl rfl (by decide) (by decide) rfl ?_
  refine z_iinc2 (j := 1) (z := 3) (t := 56) F dX8_init_53 rfl (by decide) rfl (by decide) rfl ?_
  refine z_goto (t := 34) F dX8_init_56 (by decide) ?_
  refine z_iload_n (t := 35) F dX8_init_34 rfl rfl rfl ?_
  refine z_bipush (t := 37) F dX8_init_35 (by decide) rfl ?_
  refine z_icmp_ge (u := 59) (t := 40) F dX8_init_37 (by constructor <;> omega) (by constructor <;> omega) (by decide) rfl (fun c0 => absurd c0 (by decide)) (fun _ => ?_)
  refine z_aload_n (t := 41) F dX8_init_40 rfl rfl rfl ?_
  refine z_getr3 (x := 0) (k' := 1) (i' := 0) (t := 44) F dX8_init_41 rfl uX8 fl_X8_11 (by decide) rfl (okq_of (by decide) (by decide)) rfl (by decide +kernel) rfl ?_
  refine z_iload_n (t := 45) F dX8_init_44 rfl rfl rfl ?_
  refine z_new (t := 48) (k := 2) (i := 3) F dX8_init_45 rfl uX6 tyX6 tyX6_ok cl_X8_9 is_X6 in_X6 rfl (by omega) rfl (by decide) df_X6 (ins_gl (L' := [1, 1, 4, 3, 3, 3, 1, 0, 0, 1, 1, 1, 1, 1, 0, 0, 0, 0, 0, 0, 0, 0, 0, 0, 0, 0, 0, 0, 0, 0, 0, 0, 0, 0, 0, 0, 0, 0, 0, 0, 0, 0, 0, 0, 0, 0, 0, 0, 0, 0, 0]) (by decide) (by decide)) (by simp only [okS, okL, okv, okq] <;> decide) (show okL _ [some (vR 0 0), some (vI 3)] from (by simp only [okS, okL, okv, okq] <;> decide)) ⟨by decide, by decide⟩ rfl (fun ad11 hs11 => ?_)
  refine z_dupR (t := 49) F dX8_init_48 rfl ?_
  refine z_callI (t := 52) [] F dX8_init_49 k_X6_init rfl im_X6_init rfl (Or.inr ⟨_, mn_X8_28⟩) rfl rfl (Nat.le_of_ble_eq_true rfl) (by decide) (by decide) ⟨by decide, by decide⟩ (by simp only [okS, okL, okv, okq] <;> decide) (show okL _ [some (vR 0 0), some (vI 3)] from (by simp only [okS, okL, okv, okq] <;> decide)) (ci_X6 _ G _ _ _ _ (3) (by decide) (by decide) (by decide) (by decide) (by decide)) rfl (fun ad12 m12 hs12 hm12 => ?_)
  subst hm12
  rw [show ins (ins (ins (gl [1, 1, 4, 3, 3, 3, 1, 0, 0, 1, 1, 1, 1, 1, 0, 0, 0, 0, 0, 0, 0, 0, 0, 0, 0, 0, 0, 0, 0, 0, 0, 0, 0, 0, 0, 0, 0, 0, 0, 0, 0, 0, 0, 0, 0, 0, 0, 0, 0, 0, 0]) 3) 4) 5 = gl [1, 1, 4, 4, 4, 4, 1, 0, 0, 1, 1, 1, 1, 1, 0, 0, 0, 0, 0, 0, 0, 0, 0, 0, 0, 0, 0, 0, 0, 0, 0, 0, 0, 0, 0, 0, 0, 0, 0, 0, 0, 0, 0, 0, 0, 0, 0, 0, 0, 0, 0] from by rw [ins_gl (L' := [1, 1, 4, 4, 3, 3, 1, 0, 0, 1, 1, 1, 1, 1, 0, 0, 0, 0, 0, 0, 0, 0, 0, 0, 0, 0, 0, 0, 0, 0, 0, 0, 0, 0, 0, 0, 0, 0, 0, 0, 0, 0, 0, 0, 0, 0, 0, 0, 0, 0, 0]) (by decide) (by decide), ins_gl (L' := [1, 1, 4, 4, 4, 3, 1, 0, 0, 1, 1, 1, 1, 1, 0, 0, 0, 0, 0, 0, 0, 0, 0, 0, 0, 0, 0, 0, 0, 0, 0, 0, 0, 0, 0, 0, 0, 0, 0, 0, 0, 0, 0, 0, 0, 0, 0, 0, 0, 0, 0]) (by decide) (by decide), ins_gl (L' := [1, 1, 4, 4, 4, 4, 1, 0, 0, 1, 1, 1, 1, 1, 0, 0, 0, 0, 0, 0, 0, 0, 0, 0, 0, 0, 0, 0, 0, 0, 0, 0, 0, 0, 0, 0, 0, 0, 0, 0, 0, 0, 0, 0, 0, 0, 0, 0, 0, 0, 0]) (by decide) (by decide)]]
  refine z_aast3 (x := 3) (t := 53) F dX8_init_52 rfl (by decide) (by decide) rfl (by decide) (okq_of (by decide) (by decide)) (okq_of (by decide) (by decide)) rfl rfl (by decide) (by decide) rfl ?_
  refine z_iinc2 (j := 1) (z := 4) (t := 56) F dX8_init_53 rfl (by decide) rfl (by decide) rfl ?_
  refine z_goto (t := 34) F dX8_init_56 (by decide) ?_
  refine z_iload_n (t := 35) F dX8_init_34 rfl rfl rfl ?_
  refine z_bipush (t := 37) F dX8_init_35 (by decide) rfl ?_
  refine z_icmp_ge (u := 59) (t := 40) F dX8_init_37 (by constructor <;> omega) (by constructor <;> omega) (by decide) rfl (fun c0 => absurd c0 (by decide)) (fun _ => ?_)
  refine z_aload_n (t := 41) F dX8_init_40 rfl rfl rfl ?_
  refine z_getr3 (x := 0) (k' := 1) (i' := 0) (t := 44) F dX8_init_41 rfl uX8 fl_X8_11 (by decide) rfl (okq_of (by decide) (by decide)) rfl (by decide +kernel) rfl ?_
  refine z_iload_n (t := 45) F dX8_init_44 rfl rfl rfl ?_
  refine z_new (t := 48) (k := 2) (i := 4) F dX8_init_45 rfl uX6 tyX6 tyX6_ok cl_X8_9 is_X6 in_X6 rfl (by omega) rfl (by decide) df_X6 (ins_gl (L' := [1, 1, 5, 4, 4, 4, 1, 0, 0, 1, 1, 1, 1, 1, 0, 0, 0, 0, 0, 0, 0, 0, 0, 0, 0, 0, 0, 0, 0, 0, 0, 0, 0, 0, 0, 0, 0, 0, 0, 0, 0, 0, 0, 0, 0, 0, 0, 0, 0, 0, 0]) (by decide) (by decide)) (by simp only [okS, okL, okv, okq] <;> decide) (show okL _ [some (vR 0 0), some (vI 4)] from (by simp only [okS, okL, okv, okq] <;> decide)) ⟨by decide, by decide⟩ rfl (fun ad13 hs13 => ?_)
  refine z_dupR (t := 49) F dX8_init_48 rfl ?_
  refine z_callI (t := 52) [] F dX8_init_49 k_X6_init rfl im_X6_init rfl (Or.inr ⟨_, mn_X8_28⟩) rfl rfl (Nat.le_of_ble_eq_true rfl) (by decide) (by decide) ⟨by decide, by decide⟩ (by simp only [okS, okL, okv, okq] <;> decide) (show okL _ [some (vR 0 0), some (vI 4)] from (by simp only [okS, okL, okv, okq] <;> decide)) (ci_X6 _ G _ _ _ _ (4) (by decide) (by decide) (by decide) (by decide) (by decide)) rfl (fun ad14 m14 hs14 hm14 => ?_)
  subst hm14
  rw [show ins (ins (ins (gl [1, 1, 5, 4, 4, 4, 1, 0, 0, 1, 1, 1, 1, 1, 0, 0, 0, 0, 0, 0, 0, 0, 0, 0, 0, 0, 0, 0, 0, 0, 0, 0, 0, 0, 0, 0, 0, 0, 0, 0, 0, 0, 0, 0, 0, 0, 0, 0, 0, 0, 0]) 3) 4) 5 = gl [1, 1, 5, 5, 5, 5, 1, 0, 0, 1, 1, 1, 1, 1, 0, 0, 0, 0, 0, 0, 0, 0, 0, 0, 0, 0, 0, 0, 0, 0, 0, 0, 0, 0, 0, 0, 0, 0, 0, 0, 0, 0, 0, 0, 0, 0, 0, 0, 0, 0, 0] from by rw [ins_gl (L' := [1, 1, 5, 5, 4, 4, 1, 0, 0, 1, 1, 1, 1, 1, 0, 0, 0, 0, 0, 0, 0, 0, 0, 0, 0, 0, 0, 0, 0, 0, 0, 0, 0, 0, 0, 0, 0, 0, 0, 0, 0, 0, 0, 0, 0, 0, 0, 0, 0, 0, 0]) (by decide) (by decide), ins_gl (L' := [1, 1, 5, 5, 5, 4, 1, 0, 0, 1, 1, 1, 1, 1, 0, 0, 0, 0, 0, 0, 0, 0, 0, 0, 0, 0, 0, 0, 0, 0, 0, 0, 0, 0, 0, 0, 0, 0, 0, 0, 0, 0, 0, 0, 0, 0, 0, 0, 0, 0, 0]) (by decide) (by decide), ins_gl (L' := [1, 1, 5, 5, 5, 5, 1, 0, 0, 1, 1, 1, 1, 1, 0, 0, 0, 0, 0, 0, 0, 0, 0, 0, 0, 0, 0, 0, 0, 0, 0, 0, 0, 0, 0, 0, 0, 0, 0, 0, 0, 0, 0, 0, 0, 0, 0, 0, 0, 0, 0]) (by decide) (by decide)]]
  refine z_aast3 (x := 4) (t := 53) F dX8_init_52 rfl (by decide) (by decide) rfl (by decide) (okq_of (by decide) (by decide)) (okq_of (by decide) (by decide)) rfl rfl (by decide) (by decide) rfl ?_
  refine z_iinc2 (j := 1) (z := 5) (t := 56) F dX8_init_53 rfl (by decide) rfl (by decide) rfl ?_
  refine z_goto (t := 34) F dX8_init_56 (by decide) ?_
  refine z_iload_n (t := 35) F dX8_init_34 rfl rfl rfl ?_
  refine z_bipush (t := 37) F dX8_init_35 (by decide) rfl ?_
  refine z_icmp_ge (u := 59) (t := 40) F dX8_init_37 (by constructor <;> omega) (by constructor <;> omega) (by decide) rfl (fun c0 => absurd c0 (by decide)) (fun _ => ?_)
  refine z_aload_n (t := 41) F dX8_init_40 rfl rfl rfl ?_
  refine z_getr3 (x := 0) (k' := 1) (i' := 0) (t := 44) F dX8_init_41 rfl uX8 fl_X8_11 (by decide) rfl (okq_of (by decide) (by decide)) rfl (by decide +kernel) rfl ?_
  refine z_iload_n (t := 45) F dX8_init_44 rfl rfl rfl ?_
  refine z_new (t := 48) (k := 2) (i := 5) F dX8_init_45 rfl uX6 tyX6 tyX6_ok cl_X8_9 is_X6 in_X6 rfl (by omega) rfl (by decide) df_X6 (ins_gl (L' := [1, 1, 6, 5, 5, 5, 1, 0, 0, 1, 1, 1, 1, 1, 0, 0, 0, 0, 0, 0, 0, 0, 0, 0, 0, 0, 0, 0, 0, 0, 0, 0, 0, 0, 0, 0, 0, 0, 0, 0, 0, 0, 0, 0, 0, 0, 0, 0, 0, 0, 0]) (by decide) (by decide)) (by simp only [okS, okL, okv, okq] <;> decide) (show okL _ [some (vR 0 0), some (vI 5)] from (by simp only [okS, okL, okv, okq] <;> decide)) ⟨by decide, by decide⟩ rfl (fun ad15 hs15 => ?_)
  refine z_dupR (t := 49) F dX8_init_48 rfl ?_
  refine z_callI (t := 52) [] F dX8_init_49 k_X6_init rfl im_X6_init rfl (Or.inr ⟨_, mn_X8_28⟩) rfl rfl (Nat.le_of_ble_eq_true rfl) (by decide) (by decide) ⟨by decide, by decide⟩ (by simp only [okS, okL, okv, okq] <;> decide) (show okL _ [some (vR 0 0), some (vI 5)] from (by simp only [okS, okL, okv, okq] <;> decide)) (ci_X6 _ G _ _ _ _ (5) (by decide) (by decide) (by decide) (by decide) (by decide)) rfl (fun ad16 m16 hs16 hm16 => ?_)
  subst hm16
  rw [show ins (ins (ins (gl [1, 1, 6, 5, 5, 5, 1, 0, 0, 1, 1, 1, 1, 1, 0, 0, 0, 0, 0, 0, 0, 0, 0, 0, 0, 0, 0, 0, 0, 0, 0, 0, 0, 0, 0, 0, 0, 0, 0, 0, 0, 0, 0, 0, 0, 0, 0, 0, 0, 0, 0]) 3) 4) 5 = gl [1, 1, 6, 6, 6, 6, 1, 0, 0, 1, 1, 1, 1, 1, 0, 0, 0, 0, 0, 0, 0, 0, 0, 0, 0, 0, 0, 0, 0, 0, 0, 0, 0, 0, 0, 0, 0, 0, 0, 0, 0, 0, 0, 0, 0, 0, 0, 0, 0, 0, 0] from by rw [ins_gl (L' := [1, 1, 6, 6, 5, 5, 1, 0, 0, 1, 1, 1, 1, 1, 0, 0, 0, 0, 0, 0, 0, 0, 0, 0, 0, 0, 0, 0, 0, 0, 0, 0, 0, 0, 0, 0, 0, 0, 0, 0, 0, 0, 0, 0, 0, 0, 0, 0, 0, 0, 0]) (by decide) (by decide), ins_gl (L' := [1, 1, 6, 6, 6, 5, 1, 0, 0, 1, 1, 1, 1, 1, 0, 0, 0, 0, 0, 0, 0, 0, 0, 0, 0, 0, 0, 0, 0, 0, 0, 0, 0, 0, 0, 0, 0, 0, 0, 0, 0, 0, 0, 0, 0, 0, 0, 0, 0, 0, 0]) (by decide) (by decide), ins_gl (L' := [1, 1, 6, 6, 6, 6, 1, 0, 0, 1, 1, 1, 1, 1, 0, 0, 0, 0, 0, 0, 0, 0, 0, 0, 0, 0, 0, 0, 0, 0, 0, 0, 0, 0, 0, 0, 0, 0, 0, 0, 0, 0, 0, 0, 0, 0, 0, 0, 0, 0, 0]) (by decide) (by decide)]]
  refine z_aast3 (x := 5) (t := 53) F dX8_init_52 rfl (by decide) (by decide) rfl (by decide) (okq_of (by decide) (by decide)) (okq_of (by decide) (by decide)) rfl rfl (by decide) (by decide) rfl ?_
  refine z_iinc2 (j := 1) (z := 6) (t := 56) F dX8_init_53 rfl (by decide) rfl (by decide) rfl ?_
  refine z_goto (t := 34) F dX8_init_56 (by decide) ?_
  refine z_iload_n (t := 35) F dX8_init_34 rfl rfl rfl ?_
  refine z_bipush (t := 37) F dX8_init_35 (by decide) rfl ?_
  refine z_icmp_ge (u := 59) (t := 40) F dX8_init_37 (by constructor <;> omega) (by constructor <;> omega) (by decide) rfl (fun _ => ?_) (fun c0 => absurd c0 (by decide))
  refine z_iconst (t := 60) F dX8_init_59 rfl ?_
  refine z_istore_n (j := 1) (t := 61) F dX8_init_60 rfl (by decide) rfl rfl ?_
  refine z_iload_n (t := 62) F dX8_init_61 rfl rfl rfl ?_
  refine z_iconst (t := 63) F dX8_init_62 rfl ?_
  refine z_icmp_ge (u := 85) (t := 66) F dX8_init_63 (by constructor <;> omega) (by constructor <;> omega) (by decide) rfl (fun c0 => absurd c0 (by decide)) (fun _ => ?_)
  refine z_aload_n (t := 67) F dX8_init_66 rfl rfl rfl ?_
  refine z_getr3 (x := 1) (k' := 6) (i' := 0) (t := 70) F dX8_init_67 rfl uX8 fl_X8_17 (by decide) rfl (okq_of (by decide) (by decide)) rfl (by decide +kernel) rfl ?_
  refine z_iload_n (t := 71) F dX8_init_70 rfl rfl rfl ?_
  refine z_new (t := 74) (k := 7) (i := 0) F dX8_init_71 rfl uX5 tyX5 tyX5_ok cl_X8_15 is_X5 in_X5 rfl (by omega) rfl (by decide) df_X5 (ins_gl (L' := [1, 1, 6, 6, 6, 6, 1, 1, 0, 1, 1, 1, 1, 1, 0, 0, 0, 0, 0, 0, 0, 0, 0, 0, 0, 0, 0, 0, 0, 0, 0, 0, 0, 0, 0, 0, 0, 0, 0, 0, 0, 0, 0, 0, 0, 0, 0, 0, 0, 0, 0]) (by decide) (by decide)) (by simp only [okS, okL, okv, okq] <;> decide) (show okL _ [some (vR 0 0), some (vI 0)] from (by simp only [okS, okL, okv, okq] <;> decide)) ⟨by decide, by decide⟩ rfl (fun ad17 hs17 => ?_)
  refine z_dupR (t := 75) F dX8_init_74 rfl ?_
  refine z_callI (t := 78) [] F dX8_init_75 k_X5_init rfl im_X5_init rfl (Or.inr ⟨_, mn_X8_29⟩) rfl rfl (Nat.le_of_ble_eq_true rfl) (by decide) (by decide) ⟨by decide, by decide⟩ (by simp only [okS, okL, okv, okq] <;> decide) (show okL _ [some (vR 0 0), some (vI 0)] from (by simp only [okS, okL, okv, okq] <;> decide)) (ci_X5 _ G _ _ _ _ (0) (by decide) (by decide) (by decide)) rfl (fun ad18 m18 hs18 hm18 => ?_)
  subst hm18
  rw [show ins (gl [1, 1, 6, 6, 6, 6, 1, 1, 0, 1, 1, 1, 1, 1, 0, 0, 0, 0, 0, 0, 0, 0, 0, 0, 0, 0, 0, 0, 0, 0, 0, 0, 0, 0, 0, 0, 0, 0, 0, 0, 0, 0, 0, 0, 0, 0, 0, 0, 0, 0, 0]) 8 = gl [1, 1, 6, 6, 6, 6, 1, 1, 1, 1, 1, 1, 1, 1, 0, 0, 0, 0, 0, 0, 0, 0, 0, 0, 0, 0, 0, 0, 0, 0, 0, 0, 0, 0, 0, 0, 0, 0, 0, 0, 0, 0, 0, 0, 0, 0, 0, 0, 0, 0, 0] from by rw [ins_gl (L' := [1, 1, 6, 6, 6, 6, 1, 1, 1, 1, 1, 1, 1, 1, 0, 0, 0, 0, 0, 0, 0, 0, 0, 0, 0, 0, 0, 0, 0, 0, 0, 0, 0, 0, 0, 0, 0, 0, 0, 0, 0, 0, 0, 0, 0, 0, 0, 0, 0, 0, 0]) (by decide) (by decide)]]
  refine z_aast3 (x := 0) (t := 79) F dX8_init_78 rfl (by decide) (by decide) rfl (by decide) (okq_of (by decide) (by decide)) (okq_of (by decide) (by decide)) rfl rfl (by decide) (by decide) rfl ?_
  refine z_iinc2 (j := 1) (z := 1) (t := 82) F dX8_init_79 rfl (by decide) rfl (by decide) rfl ?_
  refine z_goto (t := 61) F dX8_init_82 (by decide) ?_
  refine z_iload_n (t := 62) F dX8_init_61 rfl rfl rfl ?_
  refine z_iconst (t := 63) F dX8_init_62 rfl ?_
  refine z_icmp_ge (u := 85) (t := 66) F dX8_init_63 (by constructor <;> omega) (by constructor <;> omega) (by decide) rfl (fun c0 => absurd c0 (by decide)) (fun _ => ?_)
  refine z_aload_n (t := 67) F dX8_init_66 rfl rfl rfl ?_
  refine z_getr3 (x := 1) (k' := 6) (i' := 0) (t := 70) F dX8_init_67 rfl uX8 fl_X8_17 (by decide) rfl (okq_of (by decide) (by decide)) rfl (by decide +kernel) rfl ?_
  refine z_iload_n (t := 71) F dX8_init_70 rfl rfl rfl ?_
  refine z_new (t := 74) (k := 7) (i := 1) F dX8_init_71 rfl uX5 tyX5 tyX5_ok cl_X8_15 is_X5 in_X5 rfl (by omega) rfl (by decide) df_X5 (ins_gl (L' := [1, 1, 6, 6, 6, 6, 1, 2, 1, 1, 1, 1, 1, 1, 0, 0, 0, 0, 0, 0, 0, 0, 0, 0, 0, 0, 0, 0, 0, 0, 0, 0, 0, 0, 0, 0, 0, 0, 0, 0, 0, 0, 0, 0, 0, 0, 0, 0, 0, 0, 0]) (by decide) (by decide)) (by simp only [okS, okL, okv, okq] <;> decide) (show okL _ [some (vR 0 0), some (vI 1)] from (by simp only [okS, okL, okv, okq] <;> decide)) ⟨by decide, by decide⟩ rfl (fun ad19 hs19 => ?_)
  refine z_dupR (t := 75) F dX8_init_74 rfl ?_
  refine z_callI (t := 78) [] F dX8_init_75 k_X5_init rfl im_X5_init rfl (Or.inr ⟨_, mn_X8_29⟩) rfl rfl (Nat.le_of_ble_eq_true rfl) (by decide) (by decide) ⟨by decide, by decide⟩ (by simp only [okS, okL, okv, okq] <;> decide) (show okL _ [some (vR 0 0), some (vI 1)] from (by simp only [okS, okL, okv, okq] <;> decide)) (ci_X5 _ G _ _ _ _ (1) (by decide) (by decide) (by decide)) rfl (fun ad20 m20 hs20 hm20 => ?_)
  subst hm20
  rw [show ins (gl [1, 1, 6, 6, 6, 6, 1, 2, 1, 1, 1, 1, 1, 1, 0, 0, 0, 0, 0, 0, 0, 0, 0, 0, 0, 0, 0, 0, 0, 0, 0, 0, 0, 0, 0, 0, 0, 0, 0, 0, 0, 0, 0, 0, 0, 0, 0, 0, 0, 0, 0]) 8 = gl [1, 1, 6, 6, 6, 6, 1, 2, 2, 1, 1, 1, 1, 1, 0, 0, 0, 0, 0, 0, 0, 0, 0, 0, 0, 0, 0, 0, 0, 0, 0, 0, 0, 0, 0, 0, 0, 0, 0, 0, 0, 0, 0, 0, 0, 0, 0, 0, 0, 0, 0] from by rw [ins_gl (L' := [1, 1, 6, 6, 6, 6, 1, 2, 2, 1, 1, 1, 1, 1, 0, 0, 0, 0, 0, 0, 0, 0, 0, 0, 0, 0, 0, 0, 0, 0, 0, 0, 0, 0, 0, 0, 0, 0, 0, 0, 0, 0, 0, 0, 0, 0, 0, 0, 0, 0, 0]) (by decide) (by decide)]]
  refine z_aast3 (x := 1) (t := 79) F dX8_init_78 rfl (by decide) (by decide) rfl (by decide) (okq_of (by decide) (by decide)) (okq_of (by decide) (by decide)) rfl rfl (by decide) (by decide) rfl ?_
  refine z_iinc2 (j := 1) (z := 2) (t := 82) F dX8_init_79 rfl (by decide) rfl (by decide) rfl ?_
  refine z_goto (t := 61) F dX8_init_82 (by decide) ?_
  refine z_iload_n (t := 62) F dX8_init_61 rfl rfl rfl ?_
  refine z_iconst (t := 63) F dX8_init_62 rfl ?_
  refine z_icmp_ge (u := 85) (t := 66) F dX8_init_63 (by constructor <;> omega) (by constructor <;> omega) (by decide) rfl (fun c0 => absurd c0 (by decide)) (fun _ => ?_)
  refine z_aload_n (t := 67) F dX8_init_66 rfl rfl rfl ?_
  refine z_getr3 (x := 1) (k' := 6) (i' := 0) (t := 70) F dX8_init_67 rfl uX8 fl_X8_17 (by decide) rfl (okq_of (by decide) (by decide)) rfl (by decide +kernel) rfl ?_
  refine z_iload_n (t := 71) F dX8_init_70 rfl rfl rfl ?_
  refine z_new (t := 74) (k := 7) (i := 2) F dX8_init_71 rfl uX5 tyX5 tyX5_ok cl_X8_15 is_X5 in_X5 rfl (by omega) rfl (by decide) df_X5 (ins_gl (L' := [1, 1, 6, 6, 6, 6, 1, 3, 2, 1, 1, 1, 1, 1, 0, 0, 0, 0, 0, 0, 0, 0, 0, 0, 0, 0, 0, 0, 0, 0, 0, 0, 0, 0, 0, 0, 0, 0, 0, 0, 0, 0, 0, 0, 0, 0, 0, 0, 0, 0, 0]) (by decide) (by decide)) (by simp only [okS, okL, okv, okq] <;> decide) (show okL _ [some (vR 0 0), some (vI 2)] from (by simp only [okS, okL, okv, okq] <;> decide)) ⟨by decide, by decide⟩ rfl (fun ad21 hs21 => ?_)
  refine z_dupR (t := 75) F dX8_init_74 rfl ?_
  refine z_callI (t := 78) [] F dX8_init_75 k_X5_init rfl im_X5_init rfl (Or.inr ⟨_, mn_X8_29⟩) rfl rfl (Nat.le_of_ble_eq_true rfl) (by decide) (by decide) ⟨by decide, by decide⟩ (by simp only [okS, okL, okv, okq] <;> decide) (show okL _ [some (vR 0 0), some (vI 2)] from (by simp only [okS, okL, okv, okq] <;> decide)) (ci_X5 _ G _ _ _ _ (2) (by decide) (by decide) (by decide)) rfl (fun ad22 m22 hs22 hm22 => ?_)
  subst hm22
  rw [show ins (gl [1, 1, 6, 6, 6, 6, 1, 3, 2, 1, 1, 1, 1, 1, 0, 0, 0, 0, 0, 0, 0, 0, 0, 0, 0, 0, 0, 0, 0, 0, 0, 0, 0, 0, 0, 0, 0, 0, 0, 0, 0, 0, 0, 0, 0, 0, 0, 0, 0, 0, 0]) 8 = gl [1, 1, 6, 6, 6, 6, 1, 3, 3, 1, 1, 1, 1, 1, 0, 0, 0, 0, 0, 0, 0, 0, 0, 0, 0, 0, 0, 0, 0, 0, 0, 0, 0, 0, 0, 0, 0, 0, 0, 0, 0, 0, 0, 0, 0, 0, 0, 0, 0, 0, 0] from by rw [ins_gl (L' := [1, 1, 6, 6, 6, 6, 1, 3, 3, 1, 1, 1, 1, 1, 0, 0, 0, 0, 0, 0, 0, 0, 0, 0, 0, 0, 0, 0, 0, 0, 0, 0, 0, 0, 0, 0, 0, 0, 0, 0, 0, 0, 0, 0, 0, 0, 0, 0, 0, 0, 0]) (by decide) (by decide)]]
  refine z_aast3 (x := 2) (t := 79) F dX8_init_78 rfl (by decide) (by decide) rfl (by decide) (okq_of (by decide) (by decide)) (okq_of (by decide) (by decide)) rfl rfl (by decide) (by decide) rfl ?_
  refine z_iinc2 (j := 1) (z := 3) (t := 82) F dX8_init_79 rfl (by decide) rfl (by decide) rfl ?_
  refine z_goto (t := 61) F dX8_init_82 (by decide) ?_
  refine z_iload_n (t := 62) F dX8_init_61 rfl rfl rfl ?_
  refine z_iconst (t := 63) F dX8_init_62 rfl ?_
  refine z_icmp_ge (u := 85) (t := 66) F dX8_init_63 (by constructor <;> omega) (by constructor <;> omega) (by decide) rfl (fun c0 => absurd c0 (by decide)) (fun _ => ?_)
  refine z_aload_n (t := 67) F dX8_init_66 rfl rfl rfl ?_
  refine z_getr3 (x := 1) (k' := 6) (i' := 0) (t := 70) F dX8_init_67 rfl uX8 fl_X8_17 (by decide) rfl (okq_of (by decide) (by decide)) rfl (by decide +kernel) rfl ?_
  refine z_iload_n (t := 71) F dX8_init_70 rfl rfl rfl ?_
  refine z_new (t := 74) (k := 7) (i := 3) F dX8_init_71 rfl uX5 tyX5 tyX5_ok cl_X8_15 is_X5 in_X5 rfl (by omega) rfl (by decide) df_X5 (ins_gl (L' := [1, 1, 6, 6, 6, 6, 1, 4, 3, 1, 1, 1, 1, 1, 0, 0, 0, 0, 0, 0, 0, 0, 0, 0, 0, 0, 0, 0, 0, 0, 0, 0, 0, 0, 0, 0, 0, 0, 0, 0, 0, 0, 0, 0, 0, 0, 0, 0, 0, 0, 0]) (by decide) (by decide)) (by simp only [okS, okL, okv, okq] <;> decide) (show okL _ [some (vR 0 0), some (vI 3)] from (by simp only [okS, okL, okv, okq] <;> decide)) ⟨by decide, by decide⟩ rfl (fun ad23 hs23 => ?_)
  refine z_dupR (t := 75) F dX8_init_74 rfl ?_
  refine z_callI (t := 78) [] F dX8_init_75 k_X5_init rfl im_X5_init rfl (Or.inr ⟨_, mn_X8_29⟩) rfl rfl (Nat.le_of_ble_eq_true rfl) (by decide) (by decide) ⟨by decide, by decide⟩ (by simp only [okS, okL, okv, okq] <;> decide) (show okL _ [some (vR 0 0), some (vI 3)] from (by simp only [okS, okL, okv, okq] <;> decide)) (ci_X5 _ G _ _ _ _ (3) (by decide) (by decide) (by decide)) rfl (fun ad24 m24 hs24 hm24 => ?_)
  subst hm24
  rw [show ins (gl [1, 1, 6, 6, 6, 6, 1, 4, 3, 1, 1, 1, 1, 1, 0, 0, 0, 0, 0, 0, 0, 0, 0, 0, 0, 0, 0, 0, 0, 0, 0, 0, 0, 0, 0, 0, 0, 0, 0, 0, 0, 0, 0, 0, 0, 0, 0, 0, 0, 0, 0]) 8 = gl [1, 1, 6, 6, 6, 6, 1, 4, 4, 1, 1, 1, 1, 1, 0, 0, 0, 0, 0, 0, 0, 0, 0, 0, 0, 0, 0, 0, 0, 0, 0, 0, 0, 0, 0, 0, 0, 0, 0, 0, 0, 0, 0, 0, 0, 0, 0, 0, 0, 0, 0] from by rw [ins_gl (L' := [1, 1, 6, 6, 6, 6, 1, 4, 4, 1, 1, 1, 1, 1, 0, 0, 0, 0, 0, 0, 0, 0, 0, 0, 0, 0, 0, 0, 0, 0, 0, 0, 0, 0, 0, 0, 0, 0, 0, 0, 0, 0, 0, 0, 0, 0, 0, 0, 0, 0, 0]) (by decide) (by decide)]]
  refine z_aast3 (x := 3) (t := 79) F dX8_init_78 rfl (by decide) (by decide) rfl (by decide) (okq_of (by decide) (by decide)) (okq_of (by decide) (by decide)) rfl rfl (by decide) (by decide) rfl ?_
  refine z_iinc2 (j := 1) (z := 4) (t := 82) F dX8_init_79 rfl (by decide) rfl (by decide) rfl ?_
  refine z_goto (t := 61) F dX8_init_82 (by decide) ?_
  refine z_iload_n (t := 62) F dX8_init_61 rfl rfl rfl ?_
  refine z_iconst (t := 63) F dX8_init_62 rfl ?_
  refine z_icmp_ge (u := 85) (t := 66) F dX8_init_63 (by constructor <;> omega) (by constructor <;> omega) (by decide) rfl (fun _ => ?_) (fun c0 => absurd c0 (by decide))
  refine z_aload_n (t := 86) F dX8_init_85 rfl rfl rfl ?_
  refine z_new (t := 89) (k := 14) (i := 0) F dX8_init_86 rfl uX4 tyX4 tyX4_ok cl_X8_30 is_X4 in_X4 rfl (by omega) rfl (by decide) df_X4 (ins_gl (L' := [1, 1, 6, 6, 6, 6, 1, 4, 4, 1, 1, 1, 1, 1, 1, 0, 0, 0, 0, 0, 0, 0, 0, 0, 0, 0, 0, 0, 0, 0, 0, 0, 0, 0, 0, 0, 0, 0, 0, 0, 0, 0, 0, 0, 0, 0, 0, 0, 0, 0, 0]) (by decide) (by decide)) (by simp only [okS, okL, okv, okq] <;> decide) (show okL _ [some (vR 0 0), some (vI 4)] from (by simp only [okS, okL, okv, okq] <;> decide)) ⟨by decide, by decide⟩ rfl (fun ad25 hs25 => ?_)
  refine z_dupR (t := 90) F dX8_init_89 rfl ?_
  refine z_aload_n (t := 91) F dX8_init_90 rfl rfl rfl ?_
  refine z_getr3 (x := 0) (k' := 1) (i' := 0) (t := 94) F dX8_init_91 rfl uX8 fl_X8_11 (by decide) rfl (okq_of (by decide) (by decide)) rfl (by decide +kernel) rfl ?_
  refine z_iconst (t := 95) F dX8_init_94 rfl ?_
  refine z_aald3 (k' := 2) (i' := 0) (t := 96) F dX8_init_95 rfl (by decide) (by decide) (by decide) (okq_of (by decide) (by decide)) (by decide) (by decide) (by decide +kernel) rfl ?_
  refine z_callI (t := 99) [_] F dX8_init_96 k_X4_init rfl im_X4_init rfl (Or.inl ml_X8_32) rfl rfl (Nat.le_of_ble_eq_true rfl) (by decide) (by decide) ⟨by decide, by decide⟩ (by simp only [okS, okL, okv, okq] <;> decide) (show okL _ [some (vR 0 0), some (vI 4)] from (by simp only [okS, okL, okv, okq] <;> decide)) (ci_X4 _ G _ _ _ _ (by decide) (by decide) (by decide)) rfl (fun ad26 m26 hs26 hm26 => ?_)
  subst hm26
  rw [show ins (gl [1, 1, 6, 6, 6, 6, 1, 4, 4, 1, 1, 1, 1, 1, 1, 0, 0, 0, 0, 0, 0, 0, 0, 0, 0, 0, 0, 0, 0, 0, 0, 0, 0, 0, 0, 0, 0, 0, 0, 0, 0, 0, 0, 0, 0, 0, 0, 0, 0, 0, 0]) 15 = gl [1, 1, 6, 6, 6, 6, 1, 4, 4, 1, 1, 1, 1, 1, 1, 1, 0, 0, 0, 0, 0, 0, 0, 0, 0, 0, 0, 0, 0, 0, 0, 0, 0, 0, 0, 0, 0, 0, 0, 0, 0, 0, 0, 0, 0, 0, 0, 0, 0, 0, 0] from by rw [ins_gl (L' := [1, 1, 6, 6, 6, 6, 1, 4, 4, 1, 1, 1, 1, 1, 1, 1, 0, 0, 0, 0, 0, 0, 0, 0, 0, 0, 0, 0, 0, 0, 0, 0, 0, 0, 0, 0, 0, 0, 0, 0, 0, 0, 0, 0, 0, 0, 0, 0, 0, 0, 0]) (by decide) (by decide)]]
  refine z_putr3 (x := 3) (t := 102) F dX8_init_99 rfl uX8 tyX8 tyX8_ok nmX8 fl_X8_35 (by decide) (by first | exact Or.inl rfl | exact Or.inr ⟨rfl, hini, rfl⟩) rfl (okq_of (by decide) (by decide)) (okq_of (by decide) (by decide)) rfl (by first | exact Or.inl ⟨_, rfl⟩ | exact Or.inr ⟨_, rfl⟩) rfl ?_
  refine z_aload_n (t := 103) F dX8_init_102 rfl rfl rfl ?_
  refine z_new (t := 106) (k := 16) (i := 0) F dX8_init_103 rfl uX0 tyX0 tyX0_ok cl_X8_39 is_X0 in_X0 rfl (by omega) rfl (by decide) df_X0 (ins_gl (L' := [1, 1, 6, 6, 6, 6, 1, 4, 4, 1, 1, 1, 1, 1, 1, 1, 1, 0, 0, 0, 0, 0, 0, 0, 0, 0, 0, 0, 0, 0, 0, 0, 0, 0, 0, 0, 0, 0, 0, 0, 0, 0, 0, 0, 0, 0, 0, 0, 0, 0, 0]) (by decide) (by decide)) (by simp only [okS, okL, okv, okq] <;> decide) (show okL _ [some (vR 0 0), some (vI 4)] from (by simp only [okS, okL, okv, okq] <;> decide)) ⟨by decide, by decide⟩ rfl (fun ad27 hs27 => ?_)
  refine z_dupR (t := 107) F dX8_init_106 rfl ?_
  refine z_aload_n (t := 108) F dX8_init_107 rfl rfl rfl ?_
  refine z_getr3 (x := 0) (k' := 1) (i' := 0) (t := 111) F dX8_init_108 rfl uX8 fl_X8_11 (by decide) rfl (okq_of (by decide) (by decide)) rfl (by decide +kernel) rfl ?_
  refine z_iconst (t := 112) F dX8_init_111 rfl ?_
  refine z_aald3 (k' := 2) (i' := 0) (t := 113) F dX8_init_112 rfl (by decide) (by decide) (by decide) (okq_of (by decide) (by decide)) (by decide) (by decide) (by decide +kernel) rfl ?_
  refine z_callI (t := 116) [_] F dX8_init_113 k_X0_init rfl im_X0_init rfl (Or.inl ml_X8_41) rfl rfl (Nat.le_of_ble_eq_true rfl) (by decide) (by decide) ⟨by decide, by decide⟩ (by simp only [okS, okL, okv, okq] <;> decide) (show okL _ [some (vR 0 0), some (vI 4)] from (by simp only [okS, okL, okv, okq] <;> decide)) (ci_X0 _ G _ _ _ _ (by decide) (by decide) (by decide)) rfl (fun ad28 m28 hs28 hm28 => ?_)
  subst hm28
  rw [show ins (gl [1, 1, 6, 6, 6, 6, 1, 4, 4, 1, 1, 1, 1, 1, 1, 1, 1, 0, 0, 0, 0, 0, 0, 0, 0, 0, 0, 0, 0, 0, 0, 0, 0, 0, 0, 0, 0, 0, 0, 0, 0, 0, 0, 0, 0, 0, 0, 0, 0, 0, 0]) 17 = gl [1, 1, 6, 6, 6, 6, 1, 4, 4, 1, 1, 1, 1, 1, 1, 1, 1, 1, 0, 0, 0, 0, 0, 0, 0, 0, 0, 0, 0, 0, 0, 0, 0, 0, 0, 0, 0, 0, 0, 0, 0, 0, 0, 0, 0, 0, 0, 0, 0, 0, 0] from by rw [ins_gl (L' := [1, 1, 6, 6, 6, 6, 1, 4, 4, 1, 1, 1, 1, 1, 1, 1, 1, 1, 0, 0, 0, 0, 0, 0, 0, 0, 0, 0, 0, 0, 0, 0, 0, 0, 0, 0, 0, 0, 0, 0, 0, 0, 0, 0, 0, 0, 0, 0, 0, 0, 0]) (by decide) (by decide)]]
  refine z_putr3 (x := 4) (t := 119) F dX8_init_116 rfl uX8 tyX8 tyX8_ok nmX8 fl_X8_42 (by decide) (by first | exact Or.inl rfl | exact Or.inr ⟨rfl, hini, rfl⟩) rfl (okq_of (by decide) (by decide)) (okq_of (by decide) (by decide)) rfl (by first | exact Or.inl ⟨_, rfl⟩ | exact Or.inr ⟨_, rfl⟩) rfl ?_
  refine z_aload_n (t := 120) F dX8_init_119 rfl rfl rfl ?_
  refine z_new (t := 123) (k := 18) (i := 0) F dX8_init_120 rfl uX7 tyX7 tyX7_ok cl_X8_46 is_X7 in_X7 rfl (by omega) rfl (by decide) df_X7 (ins_gl (L' := [1, 1, 6, 6, 6, 6, 1, 4, 4, 1, 1, 1, 1, 1, 1, 1, 1, 1, 1, 0, 0, 0, 0, 0, 0, 0, 0, 0, 0, 0, 0, 0, 0, 0, 0, 0, 0, 0, 0, 0, 0, 0, 0, 0, 0, 0, 0, 0, 0, 0, 0]) (by decide) (by decide)) (by simp only [okS, okL, okv, okq] <;> decide) (show okL _ [some (vR 0 0), some (vI 4)] from (by simp only [okS, okL, okv, okq] <;> decide)) ⟨by decide, by decide⟩ rfl (fun ad29 hs29 => ?_)
  refine z_dupR (t := 124) F dX8_init_123 rfl ?_
  refine z_aload_n (t := 125) F dX8_init_124 rfl rfl rfl ?_
  refine z_getr3 (x := 0) (k' := 1) (i' := 0) (t := 128) F dX8_init_125 rfl uX8 fl_X8_11 (by decide) rfl (okq_of (by decide) (by decide)) rfl (by decide +kernel) rfl ?_
  refine z_callI (t := 131) [_] F dX8_init_128 k_X7_init rfl im_X7_init rfl (Or.inl ml_X8_48) rfl rfl (Nat.le_of_ble_eq_true rfl) (by decide) (by decide) ⟨by decide, by decide⟩ (by simp only [okS, okL, okv, okq] <;> decide) (show okL _ [some (vR 0 0), some (vI 4)] from (by simp only [okS, okL, okv, okq] <;> decide)) (ci_X7 _ G _ _ _ _ 0 (by decide) (by decide) (by decide) (by decide) (by decide) (by decide) (by decide) (by decide)) rfl (fun ad30 m30 hs30 hm30 => ?_)
  subst hm30
  rw [show ins (ins (ins (ins (ins (ins (ins (ins (ins (ins (ins (ins (ins (ins (ins (ins (ins (gl [1, 1, 6, 6, 6, 6, 1, 4, 4, 1, 1, 1, 1, 1, 1, 1, 1, 1, 1, 0, 0, 0, 0, 0, 0, 0, 0, 0, 0, 0, 0, 0, 0, 0, 0, 0, 0, 0, 0, 0, 0, 0, 0, 0, 0, 0, 0, 0, 0, 0, 0]) 19) 20) 21) 22) 23) 21) 22) 23) 21) 22) 23) 21) 22) 23) 21) 22) 23 = gl [1, 1, 6, 6, 6, 6, 1, 4, 4, 1, 1, 1, 1, 1, 1, 1, 1, 1, 1, 1, 1, 5, 5, 5, 0, 0, 0, 0, 0, 0, 0, 0, 0, 0, 0, 0, 0, 0, 0, 0, 0, 0, 0, 0, 0, 0, 0, 0, 0, 0, 0] from by rw [ins_gl (L' := [1, 1, 6, 6, 6, 6, 1, 4, 4, 1, 1, 1, 1, 1, 1, 1, 1, 1, 1, 1, 0, 0, 0, 0, 0, 0, 0, 0, 0, 0, 0, 0, 0, 0, 0, 0, 0, 0, 0, 0, 0, 0, 0, 0, 0, 0, 0, 0, 0, 0, 0]) (by decide) (by decide), ins_gl (L' := [1, 1, 6, 6, 6, 6, 1, 4, 4, 1, 1, 1, 1, 1, 1, 1, 1, 1, 1, 1, 1, 0, 0, 0, 0, 0, 0, 0, 0, 0, 0, 0, 0, 0, 0, 0, 0, 0, 0, 0, 0, 0, 0, 0, 0, 0, 0, 0, 0, 0, 0]) (by decide) (by decide), ins_gl (L' := [1, 1, 6, 6, 6, 6, 1, 4, 4, 1, 1, 1, 1, 1, 1, 1, 1, 1, 1, 1, 1, 1, 0, 0, 0, 0, 0, 0, 0, 0, 0, 0, 0, 0, 0, 0, 0, 0, 0, 0, 0, 0, 0, 0, 0, 0, 0, 0, 0, 0, 0]) (by decide) (by decide), ins_gl (L' := [1, 1, 6, 6, 6, 6, 1, 4, 4, 1, 1, 1, 1, 1, 1, 1, 1, 1, 1, 1, 1, 1, 1, 0, 0, 0, 0, 0, 0, 0, 0, 0, 0, 0, 0, 0, 0, 0, 0, 0, 0, 0, 0, 0, 0, 0, 0, 0, 0, 0, 0]) (by decide) (by decide), ins_gl (L' := [1, 1, 6, 6, 6, 6, 1, 4, 4, 1, 1, 1, 1, 1, 1, 1, 1, 1, 1, 1, 1, 1, 1, 1, 0, 0, 0, 0, 0, 0, 0, 0, 0, 0, 0, 0, 0, 0, 0, 0, 0, 0, 0, 0, 0, 0, 0, 0, 0, 0, 0]) (by decide) (by decide), ins_gl (L' := [1, 1, 6, 6, 6, 6, 1, 4, 4, 1, 1, 1, 1, 1, 1, 1, 1, 1, 1, 1, 1, 2, 1, 1, 0, 0, 0, 0, 0, 0, 0, 0, 0, 0, 0, 0, 0, 0, 0, 0, 0, 0, 0, 0, 0, 0, 0, 0, 0, 0, 0]) (by decide) (by decide), ins_gl (L' := [1, 1, 6, 6, 6, 6, 1, 4, 4, 1, 1, 1, 1, 1, 1, 1, 1, 1, 1, 1, 1, 2, 2, 1, 0, 0, 0, 0, 0, 0, 0, 0, 0, 0, 0, 0, 0, 0, 0, 0, 0, 0, 0, 0, 0, 0, 0, 0, 0, 0, 0]) (by decide) (by decide), ins_gl (L' := [1, 1, 6, 6, 6, 6, 1, 4, 4, 1, 1, 1, 1, 1, 1, 1, 1, 1, 1, 1, 1, 2, 2, 2, 0, 0, 0, 0, 0, 0, 0, 0, 0, 0, 0, 0, 0, 0, 0, 0, 0, 0, 0, 0, 0, 0, 0, 0, 0, 0, 0]) (by decide) (by decide), ins_gl (L' := [1, 1, 6, 6, 6, 6, 1, 4, 4, 1, 1, 1, 1, 1, 1, 1, 1, 1, 1, 1, 1, 3, 2, 2, 0, 0, 0, 0, 0, 0, 0, 0, 0, 0, 0, 0, 0, 0, 0, 0, 0, 0, 0, 0, 0, 0, 0, 0, 0, 0, 0]) (by decide) (by decide), ins_gl (L' := [1, 1, 6, 6, 6, 6, 1, 4, 4, 1, 1, 1, 1, 1, 1, 1, 1, 1, 1, 1, 1, 3, 3, 2, 0, 0, 0, 0, 0, 0, 0, 0, 0, 0, 0, 0, 0, 0, 0, 0, 0, 0, 0, 0, 0, 0, 0, 0, 0, 0, 0]) (by decide) (by decide), ins_gl (L' := [1, 1, 6, 6, 6, 6, 1, 4, 4, 1, 1, 1, 1, 1, 1, 1, 1, 1, 1, 1, 1, 3, 3, 3, 0, 0, 0, 0, 0, 0, 0, 0, 0, 0, 0, 0, 0, 0, 0, 0, 0, 0, 0, 0, 0, 0, 0, 0, 0, 0, 0]) (by decide) (by decide), ins_gl (L' := [1, 1, 6, 6, 6, 6, 1, 4, 4, 1, 1, 1, 1, 1, 1, 1, 1, 1, 1, 1, 1, 4, 3, 3, 0, 0, 0, 0, 0, 0, 0, 0, 0, 0, 0, 0, 0, 0, 0, 0, 0, 0, 0, 0, 0, 0, 0, 0, 0, 0, 0]) (by decide) (by decide), ins_gl (L' := [1, 1, 6, 6, 6, 6, 1, 4, 4, 1, 1, 1, 1, 1, 1, 1, 1, 1, 1, 1, 1, 4, 4, 3, 0, 0, 0, 0, 0, 0, 0, 0, 0, 0, 0, 0, 0, 0, 0, 0, 0, 0, 0, 0, 0, 0, 0, 0, 0, 0, 0]) (by decide) (by decide), ins_gl (L' := [1, 1, 6, 6, 6, 6, 1, 4, 4, 1, 1, 1, 1, 1, 1, 1, 1, 1, 1, 1, 1, 4, 4, 4, 0, 0, 0, 0, 0, 0, 0, 0, 0, 0, 0, 0, 0, 0, 0, 0, 0, 0, 0, 0, 0, 0, 0, 0, 0, 0, 0]) (by decide) (by decide), ins_gl (L' := [1, 1, 6, 6, 6, 6, 1, 4, 4, 1, 1, 1, 1, 1, 1, 1, 1, 1, 1, 1, 1, 5, 4, 4, 0, 0, 0, 0, 0, 0, 0, 0, 0, 0, 0, 0, 0, 0, 0, 0, 0, 0, 0, 0, 0, 0, 0, 0, 0, 0, 0]) (by decide) (by decide), ins_gl (L' := [1, 1, 6, 6, 6, 6, 1, 4, 4, 1, 1, 1, 1, 1, 1, 1, 1, 1, 1, 1, 1, 5, 5, 4, 0, 0, 0, 0, 0, 0, 0, 0, 0, 0, 0, 0, 0, 0, 0, 0, 0, 0, 0, 0, 0, 0, 0, 0, 0, 0, 0]) (by decide) (by decide), ins_gl (L' := [1, 1, 6, 6, 6, 6, 1, 4, 4, 1, 1, 1, 1, 1, 1, 1, 1, 1, 1, 1, 1, 5, 5, 5, 0, 0, 0, 0, 0, 0, 0, 0, 0, 0, 0, 0, 0, 0, 0, 0, 0, 0, 0, 0, 0, 0, 0, 0, 0, 0, 0]) (by decide) (by decide)]]
  refine z_putr3 (x := 5) (t := 134) F dX8_init_131 rfl uX8 tyX8 tyX8_ok nmX8 fl_X8_51 (by decide) (by first | exact Or.inl rfl | exact Or.inr ⟨rfl, hini, rfl⟩) rfl (okq_of (by decide) (by decide)) (okq_of (by decide) (by decide)) rfl (by first | exact Or.inl ⟨_, rfl⟩ | exact Or.inr ⟨_, rfl⟩) rfl ?_
  refine z_aload_n (t := 135) F dX8_init_134 rfl rfl rfl ?_
  refine z_new (t := 138) (k := 18) (i := 1) F dX8_init_135 rfl uX7 tyX7 tyX7_ok cl_X8_46 is_X7 in_X7 rfl (by omega) rfl (by decide) df_X7 (ins_gl (L' := [1, 1, 6, 6, 6, 6, 1, 4, 4, 1, 1, 1, 1, 1, 1, 1, 1, 1, 2, 1, 1, 5, 5, 5, 0, 0, 0, 0, 0, 0, 0, 0, 0, 0, 0, 0, 0, 0, 0, 0, 0, 0, 0, 0, 0, 0, 0, 0, 0, 0, 0]) (by decide) (by decide)) (by simp only [okS, okL, okv, okq] <;> decide) (show okL _ [some (vR 0 0), some (vI 4)] from (by simp only [okS, okL, okv, okq] <;> decide)) ⟨by decide, by decide⟩ rfl (fun ad31 hs31 => ?_)
  refine z_dupR (t := 139) F dX8_init_138 rfl ?_
  refine z_aload_n (t := 140) F dX8_init_139 rfl rfl rfl ?_
  refine z_getr3 (x := 0) (k' := 1) (i' := 0) (t := 143) F dX8_init_140 rfl uX8 fl_X8_11 (by decide) rfl (okq_of (by decide) (by decide)) rfl (by decide +kernel) rfl ?_
  refine z_callI (t := 146) [_] F dX8_init_143 k_X7_init rfl im_X7_init rfl (Or.inl ml_X8_48) rfl rfl (Nat.le_of_ble_eq_true rfl) (by decide) (by decide) ⟨by decide, by decide⟩ (by simp only [okS, okL, okv, okq] <;> decide) (show okL _ [some (vR 0 0), some (vI 4)] from (by simp only [okS, okL, okv, okq] <;> decide)) (ci_X7 _ G _ _ _ _ 1 (by decide) (by decide) (by decide) (by decide) (by decide) (by decide) (by decide) (by decide)) rfl (fun ad32 m32 hs32 hm32 => ?_)
  subst hm32
  rw [show ins (ins (ins (ins (ins (ins (ins (ins (ins (ins (ins (ins (ins (ins (ins (ins (ins (gl [1, 1, 6, 6, 6, 6, 1, 4, 4, 1, 1, 1, 1, 1, 1, 1, 1, 1, 2, 1, 1, 5, 5, 5, 0, 0, 0, 0, 0, 0, 0, 0, 0, 0, 0, 0, 0, 0, 0, 0, 0, 0, 0, 0, 0, 0, 0, 0, 0, 0, 0]) 19) 20) 21) 22) 23) 21) 22) 23) 21) 22) 23) 21) 22) 23) 21) 22) 23 = gl [1, 1, 6, 6, 6, 6, 1, 4, 4, 1, 1, 1, 1, 1, 1, 1, 1, 1, 2, 2, 2, 10, 10, 10, 0, 0, 0, 0, 0, 0, 0, 0, 0, 0, 0, 0, 0, 0, 0, 0, 0, 0, 0, 0, 0, 0, 0, 0, 0, 0, 0] from by rw [ins_gl (L' := [1, 1, 6, 6, 6, 6, 1, 4, 4, 1, 1, 1, 1, 1, 1, 1, 1, 1, 2, 2, 1, 5, 5, 5, 0, 0, 0, 0, 0, 0, 0, 0, 0, 0, 0, 0, 0, 0, 0, 0, 0, 0, 0, 0, 0, 0, 0, 0, 0, 0, 0]) (by decide) (by decide), ins_gl (L' := [1, 1, 6, 6, 6, 6, 1, 4, 4, 1, 1, 1, 1, 1, 1, 1, 1, 1, 2, 2, 2, 5, 5, 5, 0, 0, 0, 0, 0, 0, 0, 0, 0, 0, 0, 0, 0, 0, 0, 0, 0, 0, 0, 0, 0, 0, 0, 0, 0, 0, 0]) (by decide) (by decide), ins_gl (L' := [1, 1, 6, 6, 6, 6, 1, 4, 4, 1, 1, 1, 1, 1, 1, 1, 1, 1, 2, 2, 2, 6, 5, 5, 0, 0, 0, 0, 0, 0, 0, 0, 0, 0, 0, 0, 0, 0, 0, 0, 0, 0, 0, 0, 0, 0, 0, 0, 0, 0, 0]) (by decide) (by decide), ins_gl (L' := [1, 1, 6, 6, 6, 6, 1, 4, 4, 1, 1, 1, 1, 1, 1, 1, 1, 1, 2, 2, 2, 6, 6, 5, 0, 0, 0, 0, 0, 0, 0, 0, 0, 0, 0, 0, 0, 0, 0, 0, 0, 0, 0, 0, 0, 0, 0, 0, 0, 0, 0]) (by decide) (by decide), ins_gl (L' := [1, 1, 6, 6, 6, 6, 1, 4, 4, 1, 1, 1, 1, 1, 1, 1, 1, 1, 2, 2, 2, 6, 6, 6, 0, 0, 0, 0, 0, 0, 0, 0, 0, 0, 0, 0, 0, 0, 0, 0, 0, 0, 0, 0, 0, 0, 0, 0, 0, 0, 0]) (by decide) (by decide), ins_gl (L' := [1, 1, 6, 6, 6, 6, 1, 4, 4, 1, 1, 1, 1, 1, 1, 1, 1, 1, 2, 2, 2, 7, 6, 6, 0, 0, 0, 0, 0, 0, 0, 0, 0, 0, 0, 0, 0, 0, 0, 0, 0, 0, 0, 0, 0, 0, 0, 0, 0, 0, 0]) (by decide) (by decide), ins_gl (L' := [1, 1, 6, 6, 6, 6, 1, 4, 4, 1, 1, 1, 1, 1, 1, 1, 1, 1, 2, 2, 2, 7, 7, 6, 0, 0, 0, 0, 0, 0, 0, 0, 0, 0, 0, 0, 0, 0, 0, 0, 0, 0, 0, 0, 0, 0, 0, 0, 0, 0, 0]) (by decide) (by decide), ins_gl (L' := [1, 1, 6, 6, 6, 6, 1, 4, 4, 1, 1, 1, 1, 1, 1, 1, 1, 1, 2, 2, 2, 7, 7, 7, 0, 0, 0, 0, 0, 0, 0, 0, 0, 0, 0, 0, 0, 0, 0, 0, 0, 0, 0, 0, 0, 0, 0, 0, 0, 0, 0]) (by decide) (by decide), ins_gl (L' := [1, 1, 6, 6, 6, 6, 1, 4, 4, 1, 1, 1, 1, 1, 1, 1, 1, 1, 2, 2, 2, 8, 7, 7, 0, 0, 0, 0, 0, 0, 0, 0, 0, 0, 0, 0, 0, 0, 0, 0, 0, 0, 0, 0, 0, 0, 0, 0, 0, 0, 0]) (by decide) (by decide), ins_gl (L' := [1, 1, 6, 6, 6, 6, 1, 4, 4, 1, 1, 1, 1, 1, 1, 1, 1, 1, 2, 2, 2, 8, 8, 7, 0, 0, 0, 0, 0, 0, 0, 0, 0, 0, 0, 0, 0, 0, 0, 0, 0, 0, 0, 0, 0, 0, 0, 0, 0, 0, 0]) (by decide) (by decide), ins_gl (L' := [1, 1, 6, 6, 6, 6, 1, 4, 4, 1, 1, 1, 1, 1, 1, 1, 1, 1, 2, 2, 2, 8, 8, 8, 0, 0, 0, 0, 0, 0, 0, 0, 0, 0, 0, 0, 0, 0, 0, 0, 0, 0, 0, 0, 0, 0, 0, 0, 0, 0, 0]) (by decide) (by decide), ins_gl (L' := [1, 1, 6, 6, 6, 6, 1, 4, 4, 1, 1, 1, 1, 1, 1, 1, 1, 1, 2, 2, 2, 9, 8, 8, 0, 0, 0, 0, 0, 0, 0, 0, 0, 0, 0, 0, 0, 0, 0, 0, 0, 0, 0, 0, 0, 0, 0, 0, 0, 0, 0]) (by decide) (by decide), ins_gl (L' := [1, 1, 6, 6, 6, 6, 1, 4, 4, 1, 1, 1, 1, 1, 1, 1, 1, 1, 2, 2, 2, 9, 9, 8, 0, 0, 0, 0, 0, 0, 0, 0, 0, 0, 0, 0, 0, 0, 0, 0, 0, 0, 0, 0, 0, 0, 0, 0, 0, 0, 0]) (by decide) (by decide), ins_gl (L' := [1, 1, 6, 6, 6, 6, 1, 4, 4, 1, 1, 1, 1, 1, 1, 1, 1, 1, 2, 2, 2, 9, 9, 9, 0, 0, 0, 0, 0, 0, 0, 0, 0, 0, 0, 0, 0, 0, 0, 0, 0, 0, 0, 0, 0, 0, 0, 0, 0, 0, 0]) (by decide) (by decide), ins_gl (L' := [1, 1, 6, 6, 6, 6, 1, 4, 4, 1, 1, 1, 1, 1, 1, 1, 1, 1, 2, 2, 2, 10, 9, 9, 0, 0, 0, 0, 0, 0, 0, 0, 0, 0, 0, 0, 0, 0, 0, 0, 0, 0, 0, 0, 0, 0, 0, 0, 0, 0, 0]) (by decide) (by decide), ins_gl (L' := [1, 1, 6, 6, 6, 6, 1, 4, 4, 1, 1, 1, 1, 1, 1, 1, 1, 1, 2, 2, 2, 10, 10, 9, 0, 0, 0, 0, 0, 0, 0, 0, 0, 0, 0, 0, 0, 0, 0, 0, 0, 0, 0, 0, 0, 0, 0, 0, 0, 0, 0]) (by decide) (by decide), ins_gl (L' := [1, 1, 6, 6, 6, 6, 1, 4, 4, 1, 1, 1, 1, 1, 1, 1, 1, 1, 2, 2, 2, 10, 10, 10, 0, 0, 0, 0, 0, 0, 0, 0, 0, 0, 0, 0, 0, 0, 0, 0, 0, 0, 0, 0, 0, 0, 0, 0, 0, 0, 0]) (by decide) (by decide)]]
  refine z_putr3 (x := 6) (t := 149) F dX8_init_146 rfl uX8 tyX8 tyX8_ok nmX8 fl_X8_55 (by decide) (by first | exact Or.inl rfl | exact Or.inr ⟨rfl, hini, rfl⟩) rfl (okq_of (by decide) (by decide)) (okq_of (by decide) (by decide)) rfl (by first | exact Or.inl ⟨_, rfl⟩ | exact Or.inr ⟨_, rfl⟩) rfl ?_
  refine z_aload_n (t := 150) F dX8_init_149 rfl rfl rfl ?_
  refine z_new (t := 153) (k := 18) (i := 2) F dX8_init_150 rfl uX7 tyX7 tyX7_ok cl_X8_46 is_X7 in_X7 rfl (by omega) rfl (by decide) df_X7 (ins_gl (L' := [1, 1, 6, 6, 6, 6, 1, 4, 4, 1, 1, 1, 1, 1, 1, 1, 1, 1, 3, 2, 2, 10, 10, 10, 0, 0, 0, 0, 0, 0, 0, 0, 0, 0, 0, 0, 0, 0, 0, 0, 0, 0, 0, 0, 0, 0, 0, 0, 0, 0, 0]) (by decide) (by decide)) (by simp only [okS, okL, okv, okq] <;> decide) (show okL _ [some (vR 0 0), some (vI 4)] from (by simp only [okS, okL, okv, okq] <;> decide)) ⟨by decide, by decide⟩ rfl (fun ad33 hs33 => ?_)
  refine z_dupR (t := 154) F dX8_init_153 rfl ?_
  refine z_aload_n (t := 155) F dX8_init_154 rfl rfl rfl ?_
  refine z_getr3 (x := 0) (k' := 1) (i' := 0) (t := 158) F dX8_init_155 rfl uX8 fl_X8_11 (by decide) rfl (okq_of (by decide) (by decide)) rfl (by decide +kernel) rfl ?_
  refine z_callI (t := 161) [_] F dX8_init_158 k_X7_init rfl im_X7_init rfl (Or.inl ml_X8_48) rfl rfl (Nat.le_of_ble_eq_true rfl) (by decide) (by decide) ⟨by decide, by decide⟩ (by simp only [okS, okL, okv, okq] <;> decide) (show okL _ [some (vR 0 0), some (vI 4)] from (by simp only [okS, okL, okv, okq] <;> decide)) (ci_X7 _ G _ _ _ _ 2 (by decide) (by decide) (by decide) (by decide) (by decide) (by decide) (by decide) (by decide)) rfl (fun ad34 m34 hs34 hm34 => ?_)
  subst hm34
  rw [show ins (ins (ins (ins (ins (ins (ins (ins (ins (ins (ins (ins (ins (ins (ins (ins (ins (gl [1, 1, 6, 6, 6, 6, 1, 4, 4, 1, 1, 1, 1, 1, 1, 1, 1, 1, 3, 2, 2, 10, 10, 10, 0, 0, 0, 0, 0, 0, 0, 0, 0, 0, 0, 0, 0, 0, 0, 0, 0, 0, 0, 0, 0, 0, 0, 0, 0, 0, 0]) 19) 20) 21) 22) 23) 21) 22) 23) 21) 22) 23) 21) 22) 23) 21) 22) 23 = gl [1, 1, 6, 6, 6, 6, 1, 4, 4, 1, 1, 1, 1, 1, 1, 1, 1, 1, 3, 3, 3, 15, 15, 15, 0, 0, 0, 0, 0, 0, 0, 0, 0, 0, 0, 0, 0, 0, 0, 0, 0, 0, 0, 0, 0, 0, 0, 0, 0, 0, 0] from by rw [ins_gl (L' := [1, 1, 6, 6, 6, 6, 1, 4, 4, 1, 1, 1, 1, 1, 1, 1, 1, 1, 3, 3, 2, 10, 10, 10, 0, 0, 0, 0, 0, 0, 0, 0, 0, 0, 0, 0, 0, 0, 0, 0, 0, 0, 0, 0, 0, 0, 0, 0, 0, 0, 0]) (by decide) (by decide), ins_gl (L' := [1, 1, 6, 6, 6, 6, 1, 4, 4, 1, 1, 1, 1, 1, 1, 1, 1, 1, 3, 3, 3, 10, 10, 10, 0, 0, 0, 0, 0, 0, 0, 0, 0, 0, 0, 0, 0, 0, 0, 0, 0, 0, 0, 0, 0, 0, 0, 0, 0, 0, 0]) (by decide) (by decide), ins_gl (L' := [1, 1, 6, 6, 6, 6, 1, 4, 4, 1, 1, 1, 1, 1, 1, 1, 1, 1, 3, 3, 3, 11, 10, 10, 0, 0, 0, 0, 0, 0, 0, 0, 0, 0, 0, 0, 0, 0, 0, 0, 0, 0, 0, 0, 0, 0, 0, 0, 0, 0, 0]) (by decide) (by decide), ins_gl (L' := [1, 1, 6, 6, 6, 6, 1, 4, 4, 1, 1, 1, 1, 1, 1, 1, 1, 1, 3, 3, 3, 11, 11, 10, 0, 0, 0, 0, 0, 0, 0, 0, 0, 0, 0, 0, 0, 0, 0, 0, 0, 0, 0, 0, 0, 0, 0, 0, 0, 0, 0]) (by decide) (by decide), ins_gl (L' := [1, 1, 6, 6, 6, 6, 1, 4, 4, 1, 1, 1, 1, 1, 1, 1, 1, 1, 3, 3, 3, 11, 11, 11, 0, 0, 0, 0, 0, 0, 0, 0, 0, 0, 0, 0, 0, 0, 0, 0, 0, 0, 0, 0, 0, 0, 0, 0, 0, 0, 0]) (by decide) (by decide), ins_gl (L' := [1, 1, 6, 6, 6, 6, 1, 4, 4, 1, 1, 1, 1, 1, 1, 1, 1, 1, 3, 3, 3, 12, 11, 11, 0, 0, 0, 0, 0, 0, 0, 0, 0, 0, 0, 0, 0, 0, 0, 0, 0, 0, 0, 0, 0, 0, 0, 0, 0, 0, 0]) (by decide) (by decide), ins_gl (L' := [1, 1, 6, 6, 6, 6, 1, 4, 4, 1, 1, 1, 1, 1, 1, 1, 1, 1, 3, 3, 3, 12, 12, 11, 0, 0, 0, 0, 0, 0, 0, 0, 0, 0, 0, 0, 0, 0, 0, 0, 0, 0, 0, 0, 0, 0, 0, 0, 0, 0, 0]) (by decide) (by decide), ins_gl (L' := [1, 1, 6, 6, 6, 6, 1, 4, 4, 1, 1, 1, 1, 1, 1, 1, 1, 1, 3, 3, 3, 12, 12, 12, 0, 0, 0, 0, 0, 0, 0, 0, 0, 0, 0, 0, 0, 0, 0, 0, 0, 0, 0, 0, 0, 0, 0, 0, 0, 0, 0]) (by decide) (by decide), ins_gl (L' := [1, 1, 6, 6, 6, 6, 1, 4, 4, 1, 1, 1, 1, 1, 1, 1, 1, 1, 3, 3, 3, 13, 12, 12, 0, 0, 0, 0, 0, 0, 0, 0, 0, 0, 0, 0, 0, 0, 0, 0, 0, 0, 0, 0, 0, 0, 0, 0, 0, 0, 0]) (by decide) (by decide), ins_gl (L' := [1, 1, 6, 6, 6, 6, 1, 4, 4, 1, 1, 1, 1, 1, 1, 1, 1, 1, 3, 3, 3, 13, 13, 12, 0, 0, 0, 0, 0, 0, 0, 0, 0, 0, 0, 0, 0, 0, 0, 0, 0, 0, 0, 0, 0, 0, 0, 0, 0, 0, 0]) (by decide) (by decide), ins_gl (L' := [1, 1, 6, 6, 6, 6, 1, 4, 4, 1, 1, 1, 1, 1, 1, 1, 1, 1, 3, 3, 3, 13, 13, 13, 0, 0, 0, 0, 0, 0, 0, 0, 0, 0, 0, 0, 0, 0, 0, 0, 0, 0, 0, 0, 0, 0, 0, 0, 0, 0, 0]) (by decide) (by decide), ins_gl (L' := [1, 1, 6, 6, 6, 6, 1, 4, 4, 1, 1, 1, 1, 1, 1, 1, 1, 1, 3, 3, 3, 14, 13, 13, 0, 0, 0, 0, 0, 0, 0, 0, 0, 0, 0, 0, 0, 0, 0, 0, 0, 0, 0, 0, 0, 0, 0, 0, 0, 0, 0]) (by decide) (by decide), ins_gl (L' := [1, 1, 6, 6, 6, 6, 1, 4, 4, 1, 1, 1, 1, 1, 1, 1, 1, 1, 3, 3, 3, 14, 14, 13, 0, 0, 0, 0, 0, 0, 0, 0, 0, 0, 0, 0, 0, 0, 0, 0, 0, 0, 0, 0, 0, 0, 0, 0, 0, 0, 0]) (by decide) (by decide), ins_gl (L' := [1, 1, 6, 6, 6, 6, 1, 4, 4, 1, 1, 1, 1, 1, 1, 1, 1, 1, 3, 3, 3, 14, 14, 14, 0, 0, 0, 0, 0, 0, 0, 0, 0, 0, 0, 0, 0, 0, 0, 0, 0, 0, 0, 0, 0, 0, 0, 0, 0, 0, 0]) (by decide) (by decide), ins_gl (L' := [1, 1, 6, 6, 6, 6, 1, 4, 4, 1, 1, 1, 1, 1, 1, 1, 1, 1, 3, 3, 3, 15, 14, 14, 0, 0, 0, 0, 0, 0, 0, 0, 0, 0, 0, 0, 0, 0, 0, 0, 0, 0, 0, 0, 0, 0, 0, 0, 0, 0, 0]) (by decide) (by decide), ins_gl (L' := [1, 1, 6, 6, 6, 6, 1, 4, 4, 1, 1, 1, 1, 1, 1, 1, 1, 1, 3, 3, 3, 15, 15, 14, 0, 0, 0, 0, 0, 0, 0, 0, 0, 0, 0, 0, 0, 0, 0, 0, 0, 0, 0, 0, 0, 0, 0, 0, 0, 0, 0]) (by decide) (by decide), ins_gl (L' := [1, 1, 6, 6, 6, 6, 1, 4, 4, 1, 1, 1, 1, 1, 1, 1, 1, 1, 3, 3, 3, 15, 15, 15, 0, 0, 0, 0, 0, 0, 0, 0, 0, 0, 0, 0, 0, 0, 0, 0, 0, 0, 0, 0, 0, 0, 0, 0, 0, 0, 0]) (by decide) (by decide)]]
  refine z_putr3 (x := 7) (t := 164) F dX8_init_161 rfl uX8 tyX8 tyX8_ok nmX8 fl_X8_58 (by decide) (by first | exact Or.inl rfl | exact Or.inr ⟨rfl, hini, rfl⟩) rfl (okq_of (by decide) (by decide)) (okq_of (by decide) (by decide)) rfl (by first | exact Or.inl ⟨_, rfl⟩ | exact Or.inr ⟨_, rfl⟩) rfl ?_
  refine z_mem (imF 0, rsC 0 0, lm0) (fun k i s hq hs => ?_) (fun hB => ?_) (fun k i s q hq hs hr h => ?_) ?_
  · have hq := mem_idn.mp hq
    refine ⟨by rw [imF_0]; rfl, fun hr => (rC0_rs k hq.1 i hq.2 s hs hr).1, rfl⟩
  · intro k i hi hc s
    have h := hB k i hi hc s
    have hk : ¬ k < 24 := fun q => by have := cap_C k q; have h9 : nC k ≤ i := hi; omega
    refine ⟨?_, if_neg hk, rfl⟩
    show imF 0 k i s = 0
    rw [imF_0]
    exact h.1
  · exact (rC0_rs k hq.1 i hq.2 s hs hr).2 q h
  exact x8_tail F ⟨by decide, by decide⟩ _ (fun im' h => z_vret F dX8_init_214 rfl (by decide) (by decide) (sam_trans (sam_trans (sam_trans (sam_trans (sam_trans (sam_trans (sam_trans (sam_trans (sam_trans (sam_trans (sam_trans (sam_trans (sam_trans (sam_trans (sam_trans (sam_trans (sam_trans (sam_trans (sam_trans (sam_trans (sam_trans (sam_trans (sam_trans (sam_trans (sam_trans (sam_trans (sam_trans (sam_trans (sam_trans (sam_trans (sam_trans (sam_trans (sam_trans hs1 hs2 (fun q hq => by first | exact okq_gl (by decide) hq | (repeat (first | exact hq | apply ins_ok)))) hs3 (fun q hq => by first | exact okq_gl (by decide) hq | (repeat (first | exact hq | apply ins_ok)))) hs4 (fun q hq => by first | exact okq_gl (by decide) hq | (repeat (first | exact hq | apply ins_ok)))) hs5 (fun q hq => by first | exact okq_gl (by decide) hq | (repeat (first | exact hq | apply ins_ok)))) hs6 (fun q hq => by first | exact okq_gl (by decide) hq | (repeat (first | exact hq | apply ins_ok)))) hs7 (fun q hq => by first | exact okq_gl (by decide) hq | (repeat (first | exact hq | apply ins_ok)))) hs8 (fun q hq => by first | exact okq_gl (by decide) hq | (repeat (first | exact hq | apply ins_ok)))) hs9 (fun q hq => by first | exact okq_gl (by decide) hq | (repeat (first | exact hq | apply ins_ok)))) hs10 (fun q hq => by first | exact okq_gl (by decide) hq | (repeat (first | exact hq | apply ins_ok)))) hs11 (fun q hq => by first | exact okq_gl (by decide) hq | (repeat (first | exact hq | apply ins_ok)))) hs12 (fun q hq => by first | exact okq_gl (by decide) hq | (repeat (first | exact hq | apply ins_ok)))) hs13 (fun q hq => by first | exact okq_gl (by decide) hq | (repeat (first | exact hq | apply ins_ok)))) hs14 (fun q hq => by first | exact okq_gl (by decide) hq | (repeat (first | exact hq | apply ins_ok)))) hs15 (fun q hq => by first | exact okq_gl (by decide) hq | (repeat (first | exact hq | apply ins_ok)))) hs16 (fun q hq => by first | exact okq_gl (by decide) hq | (repeat (first | exact hq | apply ins_ok)))) hs17 (fun q hq => by first | exact okq_gl (by decide) hq | (repeat (first | exact hq | apply ins_ok)))) hs18 (fun q hq => by first | exact okq_gl (by decide) hq | (repeat (first | exact hq | apply ins_ok)))) hs19 (fun q hq => by first | exact okq_gl (by decide) hq | (repeat (first | exact hq | apply ins_ok)))) hs20 (fun q hq => by first | exact okq_gl (by decide) hq | (repeat (first | exact hq | apply ins_ok)))) hs21 (fun q hq => by first | exact okq_gl (by decide) hq | (repeat (first | exact hq | apply ins_ok)))) hs22 (fun q hq => by first | exact okq_gl (by decide) hq | (repeat (first | exact hq | apply ins_ok)))) hs23 (fun q hq => by first | exact okq_gl (by decide) hq | (repeat (first | exact hq | apply ins_ok)))) hs24 (fun q hq => by first | exact okq_gl (by decide) hq | (repeat (first | exact hq | apply ins_ok)))) hs25 (fun q hq => by first | exact okq_gl (by decide) hq | (repeat (first | exact hq | apply ins_ok)))) hs26 (fun q hq => by first | exact okq_gl (by decide) hq | (repeat (first | exact hq | apply ins_ok)))) hs27 (fun q hq => by first | exact okq_gl (by decide) hq | (repeat (first | exact hq | apply ins_ok)))) hs28 (fun q hq => by first | exact okq_gl (by decide) hq | (repeat (first | exact hq | apply ins_ok)))) hs29 (fun q hq => by first | exact okq_gl (by decide) hq | (repeat (first | exact hq | apply ins_ok)))) hs30 (fun q hq => by first | exact okq_gl (by decide) hq | (repeat (first | exact hq | apply ins_ok)))) hs31 (fun q hq => by first | exact okq_gl (by decide) hq | (repeat (first | exact hq | apply ins_ok)))) hs32 (fun q hq => by first | exact okq_gl (by decide) hq | (repeat (first | exact hq | apply ins_ok)))) hs33 (fun q hq => by first | exact okq_gl (by decide) hq | (repeat (first | exact hq | apply ins_ok)))) hs34 (fun q hq => by first | exact okq_gl (by decide) hq | (repeat (first | exact hq | apply ins_ok)))) ⟨im', rfl, h⟩)
end
section
/-! the reference: its letters, its constructor -/
def spM (im : IM) (p : Nat) (a1 a2 a3 a4 a5 a6 a7 a8 : Int) : IM := up (up (up (up (up (up (up (up im 31 0 p a1) 31 0 (p + 1) a2) 31 0 (p + 2) a3) 31 0 (p + 3) a4) 31 0 (p + 4) a5) 31 0 (p + 5) a6) 31 0 (p + 6) a7) 31 0 (p + 7) a8

set_option maxHeartbeats 4000000 in
theorem c_X9_spell (l : Launch) (G : GS) (im : IM) (bt rt : Nat) (lm : IM) (p : Nat) (hp : p + 8 ≤ 960) (a1 : Int) (a2 : Int) (a3 : Int) (a4 : Int) (a5 : Int) (a6 : Int) (a7 : Int) (a8 : Int) : Cn l (XR G) yX9_spell Y_X9_spell [vR 30 0, vI (p : Int), vI a1, vI a2, vI a3, vI a4, vI a5, vI a6, vI a7, vI a8] (im, rs bt rt, lm) (pV fun m' => m' = (spM im p a1 a2 a3 a4 a5 a6 a7 a8, rs bt rt, lm)) := by
  refine cn_of (by decide) (okR G) rfl (Nat.le_of_ble_eq_true rfl) ?_
  intro M ad hMl F
  subst hMl
  refine wp_pad 0 ?_
  show Wp M (XR G) ad Y_X9_spell (pV fun m' => m' = (spM im p a1 a2 a3 a4 a5 a6 a7 a8, rs bt rt, lm)) 0 [some (vR 30 0), some (vI (p : Int)), some (vI a1), some (vI a2), some (vI a3), some (vI a4), some (vI a5), some (vI a6), some (vI a7), some (vI a8)] [] (im, rs bt rt, lm)
  refine q_aload_n (t := 1) F dX9_spell_0 rfl rfl rfl ?_
  refine g_X9_13 (t := 4) F dX9_spell_1 rfl rfl ?_
  refine q_iload_n (t := 5) F dX9_spell_4 rfl rfl rfl ?_
  refine q_iload_n (t := 6) F dX9_spell_5 rfl rfl rfl ?_
  first | refine stN_31 (t := 7) F dX9_spell_6 (by omega) rfl ?_ | refine st_31 (t := 7) F dX9_spell_6 (by omega) (by omega) rfl ?_
  refine q_aload_n (t := 8) F dX9_spell_7 rfl rfl rfl ?_
  refine g_X9_13 (t := 11) F dX9_spell_8 rfl rfl ?_
  refine q_iload_n (t := 12) F dX9_spell_11 rfl rfl rfl ?_
  refine q_iconst (t := 13) F dX9_spell_12 rfl ?_
  refine q_iadd (t := 14) F dX9_spell_13 rfl ?_
  rw [show (p : Int) + 1 = ((p + 1 : Nat) : Int) by omega]
  refine q_iload_n (t := 15) F dX9_spell_14 rfl rfl rfl ?_
  first | refine stN_31 (t := 16) F dX9_spell_15 (by omega) rfl ?_ | refine st_31 (t := 16) F dX9_spell_15 (by omega) (by omega) rfl ?_
  refine q_aload_n (t := 17) F dX9_spell_16 rfl rfl rfl ?_
  refine g_X9_13 (t := 20) F dX9_spell_17 rfl rfl ?_
  refine q_iload_n (t := 21) F dX9_spell_20 rfl rfl rfl ?_
  refine q_iconst (t := 22) F dX9_spell_21 rfl ?_
  refine q_iadd (t := 23) F dX9_spell_22 rfl ?_
  rw [show (p : Int) + 2 = ((p + 2 : Nat) : Int) by omega]
  refine q_iload (t := 25) F dX9_spell_23 rfl rfl ?_
  first | refine stN_31 (t := 26) F dX9_spell_25 (by omega) rfl ?_ | refine st_31 (t := 26) F dX9_spell_25 (by omega) (by omega) rfl ?_
  refine q_aload_n (t := 27) F dX9_spell_26 rfl rfl rfl ?_
  refine g_X9_13 (t := 30) F dX9_spell_27 rfl rfl ?_
  refine q_iload_n (t := 31) F dX9_spell_30 rfl rfl rfl ?_
  refine q_iconst (t := 32) F dX9_spell_31 rfl ?_
  refine q_iadd (t := 33) F dX9_spell_32 rfl ?_
  rw [show (p : Int) + 3 = ((p + 3 : Nat) : Int) by omega]
  refine q_iload (t := 35) F dX9_spell_33 rfl rfl ?_
  first | refine stN_31 (t := 36) F dX9_spell_35 (by omega) rfl ?_ | refine st_31 (t := 36) F dX9_spell_35 (by omega) (by omega) rfl ?_
  refine q_aload_n (t := 37) F dX9_spell_36 rfl rfl rfl ?_
  refine g_X9_13 (t := 40) F dX9_spell_37 rfl rfl ?_
  refine q_iload_n (t := 41) F dX9_spell_40 rfl rfl rfl ?_
  refine q_iconst (t := 42) F dX9_spell_41 rfl ?_
  refine q_iadd (t := 43) F dX9_spell_42 rfl ?_
  rw [show (p : Int) + 4 = ((p + 4 : Nat) : Int) by omega]
  refine q_iload (t := 45) F dX9_spell_43 rfl rfl ?_
  first | refine stN_31 (t := 46) F dX9_spell_45 (by omega) rfl ?_ | refine st_31 (t := 46) F dX9_spell_45 (by omega) (by omega) rfl ?_
  refine q_aload_n (t := 47) F dX9_spell_46 rfl rfl rfl ?_
  refine g_X9_13 (t := 50) F dX9_spell_47 rfl rfl ?_
  refine q_iload_n (t := 51) F dX9_spell_50 rfl rfl rfl ?_
  refine q_iconst (t := 52) F dX9_spell_51 rfl ?_
  refine q_iadd (t := 53) F dX9_spell_52 rfl ?_
  rw [show (p : Int) + 5 = ((p + 5 : Nat) : Int) by omega]
  refine q_iload (t := 55) F dX9_spell_53 rfl rfl ?_
  first | refine stN_31 (t := 56) F dX9_spell_55 (by omega) rfl ?_ | refine st_31 (t := 56) F dX9_spell_55 (by omega) (by omega) rfl ?_
  refine q_aload_n (t := 57) F dX9_spell_56 rfl rfl rfl ?_
  refine g_X9_13 (t := 60) F dX9_spell_57 rfl rfl ?_
  refine q_iload_n (t := 61) F dX9_spell_60 rfl rfl rfl ?_
  refine q_bipush (t := 63) F dX9_spell_61 (by decide) rfl ?_
  refine q_iadd (t := 64) F dX9_spell_63 rfl ?_
  rw [show (p : Int) + 6 = ((p + 6 : Nat) : Int) by omega]
  refine q_iload (t := 66) F dX9_spell_64 rfl rfl ?_
  first | refine stN_31 (t := 67) F dX9_spell_66 (by omega) rfl ?_ | refine st_31 (t := 67) F dX9_spell_66 (by omega) (by omega) rfl ?_
  refine q_aload_n (t := 68) F dX9_spell_67 rfl rfl rfl ?_
  refine g_X9_13 (t := 71) F dX9_spell_68 rfl rfl ?_
  refine q_iload_n (t := 72) F dX9_spell_71 rfl rfl rfl ?_
  refine q_bipush (t := 74) F dX9_spell_72 (by decide) rfl ?_
  refine q_iadd (t := 75) F dX9_spell_74 rfl ?_
  rw [show (p : Int) + 7 = ((p + 7 : Nat) : Int) by omega]
  refine q_iload (t := 77) F dX9_spell_75 rfl rfl ?_
  first | refine stN_31 (t := 78) F dX9_spell_77 (by omega) rfl ?_ | refine st_31 (t := 78) F dX9_spell_77 (by omega) (by omega) rfl ?_
  refine q_vret F dX9_spell_78 rfl ?_
  exact ⟨rfl, rfl⟩

/-- all cells -/
def nA : Nat → Nat := gl [1, 1, 6, 6, 6, 6, 1, 4, 4, 1, 1, 1, 1, 1, 1, 1, 1, 1, 3, 3, 3, 15, 15, 15, 0, 0, 0, 0, 0, 0, 1, 1, 1, 1, 1, 1, 1, 1, 1, 1, 1, 1, 1, 1, 1, 1, 1, 1, 1, 1, 1]
def rR0 : Nat → Nat → Nat → Option (Nat × Nat) := up (up (up (up (up (up (up (up (up (up (up (up (up (up (up (up (up (up (up (up (rsC 0 0) 30 0 1 (some (31, 0))) 30 0 2 (some (32, 0))) 30 0 5 (some (33, 0))) 30 0 10 (some (34, 0))) 30 0 11 (some (35, 0))) 30 0 13 (some (36, 0))) 30 0 14 (some (37, 0))) 30 0 34 (some (38, 0))) 30 0 35 (some (39, 0))) 30 0 36 (some (40, 0))) 30 0 37 (some (41, 0))) 30 0 41 (some (42, 0))) 30 0 42 (some (43, 0))) 30 0 43 (some (44, 0))) 30 0 44 (some (45, 0))) 30 0 45 (some (46, 0))) 30 0 51 (some (47, 0))) 30 0 52 (some (48, 0))) 30 0 53 (some (49, 0))) 30 0 54 (some (50, 0))
def chQ : Bool := (List.range 64).all fun k => (List.range (nA k)).all fun i => (List.range (siz k)).all fun s => !rdr k s || decide (rs 0 0 k i s = rR0 k i s) && (match rs 0 0 k i s with | none => true | some q => decide (q.1 < 64) && decide (q.2 < nA q.1))
theorem chQ_ok : chQ = true := by decide +kernel
theorem rR0_rs : ∀ k, k < 64 → ∀ i, i < nA k → ∀ s, s < siz k → rdr k s = true → rs 0 0 k i s = rR0 k i s ∧ ∀ q, rs 0 0 k i s = some q → okq nA q := by
  intro k hk i hi s hs hr
  have h := List.all_eq_true.mp chQ_ok k (List.mem_range.mpr hk)
  have h2 := List.all_eq_true.mp (List.all_eq_true.mp h i (List.mem_range.mpr hi)) s (List.mem_range.mpr hs)
  rw [hr] at h2
  have h2 : (decide (rs 0 0 k i s = rR0 k i s) && (match rs 0 0 k i s with | none => true | some q => decide (q.1 < 64) && decide (q.2 < nA q.1))) = true := h2
  rw [Bool.and_eq_true] at h2
  refine ⟨of_decide_eq_true h2.1, fun q hq => ?_⟩
  have h3 := h2.2
  rw [hq] at h3
  have h4 : (decide (q.1 < 64) && decide (q.2 < nA q.1)) = true := h3
  rw [Bool.and_eq_true] at h4
  exact ⟨of_decide_eq_true h4.1, of_decide_eq_true h4.2⟩
theorem cap_A : ∀ k, k < 51 → k < 24 ∨ 30 ≤ k → cap k ≤ nA k := by decide
theorem ids_A1 : ∀ q ∈ idsR, (q.1 < 64 ∧ q.2 < nA q.1) ∧ decide (30 ≤ q.1) = true := by decide +kernel
theorem ids_A2 : ∀ k, k < 64 → ∀ i, i < nA k → k < 30 ∨ (k, i) ∈ idsR := by decide +kernel
theorem nA_C : ∀ k, k < 24 → nA k = nC k := by decide

/-- the reference as it begins -/
def chR9 (im : IM) : IM := up (up (spM (spM (spM (spM (spM (spM ((up (up im 30 0 8 1024) 30 0 46 (-1))) 0 (115) (116) (105) (99) (107) (115) (32) (119)) 8 (111) (114) (100) (32) (43) (32) (102) (111)) 16 (111) (100) (32) (42) (32) (51) (32) (59)) 24 (32) (108) (97) (115) (116) (115) (32) (53)) 32 (32) (59) (32) (115) (104) (97) (109) (101)) 40 (115) (32) (49) (48) (32) (59) (32) (32)) 32 0 (0 : Int).toNat 48) 30 0 3 1
def RC0 (im : IM) : Prop := ∃ im0 : IM, (∀ k i s, 24 ≤ k → im0 k i s = 0) ∧ RI im0 ∧ im = chR9 im0
def pRk (k : Nat) : Bool := decide (30 ≤ k ∧ k < 51)
theorem rs_hi {bt rt bt' rt' k i s : Nat} (h : 24 ≤ k) : rs bt' rt' k i s = rs bt rt k i s := by
  unfold rs
  split <;> first | rfl | (exfalso; omega)
theorem rs_no {bt rt k i s : Nat} (h : 24 ≤ k) (h2 : ¬ (30 ≤ k ∧ k < 51)) : rs bt rt k i s = none := by
  unfold rs
  split <;> first | rfl | (exfalso; omega)
theorem sideR : sideOk nA pRk idsR := by
  refine ⟨fun q hq => ?_, fun q hq hp => ?_, fun k hk => ?_, ndR⟩
  · have h1 := ids_A1 q hq
    have h2 : 30 ≤ q.1 := of_decide_eq_true h1.2
    refine ⟨⟨h1.1.1, h1.1.2⟩, decide_eq_true ⟨h2, ?_⟩⟩
    refine Classical.byContradiction (fun z => ?_)
    have h3 : nA q.1 = 0 := by
      have := h1.1.1
      have h4 : ∀ k, k < 64 → 51 ≤ k → nA k = 0 := by decide
      exact h4 q.1 this (by omega)
    have := h1.1.2
    omega
  · have h2 : 30 ≤ q.1 ∧ q.1 < 51 := of_decide_eq_true hp
    rcases ids_A2 q.1 hq.1 q.2 hq.2 with h | h
    · omega
    · exact h
  · have h2 : 30 ≤ k ∧ k < 51 := of_decide_eq_true hk
    exact cap_A k h2.2 (Or.inr h2.1)
theorem sideCA : sideOk nA pC idsC := sideC nA_C
theorem mix_R {im im' lm lm' : IM} {bt rt bt' rt' : Nat} (h : ∀ k i s, ¬ (30 ≤ k ∧ k < 51) → im' k i s = im k i s) (h2 : ∀ k i s, ¬ (30 ≤ k ∧ k < 51) → lm' k i s = lm k i s) : mixk pRk (im', rs bt' rt', lm') (im, rs bt rt, lm) = (im', rs bt rt, lm') := by
  unfold mixk pRk
  refine Prod.ext ?_ (Prod.ext ?_ ?_)
  · funext k i s
    show (if decide (30 ≤ k ∧ k < 51) = true then im' k i s else im k i s) = im' k i s
    split
    · rfl
    · rename_i hk
      exact (h k i s (by simpa using hk)).symm
  · funext k i s
    show (if decide (30 ≤ k ∧ k < 51) = true then rs bt' rt' k i s else rs bt rt k i s) = rs bt rt k i s
    split
    · rename_i hk
      have := of_decide_eq_true hk
      exact rs_hi (by omega)
    · rfl
  · funext k i s
    show (if decide (30 ≤ k ∧ k < 51) = true then lm' k i s else lm k i s) = lm' k i s
    split
    · rfl
    · rename_i hk
      exact (h2 k i s (by simpa using hk)).symm
theorem mix_CA {im im' : IM} {bt rt bt' rt' : Nat} {lm : IM} (h : ∀ k i s, 24 ≤ k → im' k i s = im k i s) : mixk pC (im', rs bt' rt', lm) (im, rs bt rt, lm) = (im', rs bt' rt', lm) := by
  unfold mixk pC
  refine Prod.ext ?_ (Prod.ext ?_ ?_)
  · funext k i s
    show (if decide (k < 24) = true then im' k i s else im k i s) = im' k i s
    split
    · rfl
    · rename_i hk
      exact (h k i s (by simpa using hk)).symm
  · funext k i s
    show (if decide (k < 24) = true then rs bt' rt' k i s else rs bt rt k i s) = rs bt' rt' k i s
    split
    · rfl
    · rename_i hk
      exact rs_hi (by simpa using hk)
  · funext k i s
    show (if decide (k < 24) = true then lm k i s else lm k i s) = lm k i s
    split <;> rfl
theorem okM_R {im : IM} {bt rt : Nat} {lm : IM} (hbt : bt < 6) (hrt : rt < 6) : okM nA (im, rs bt rt, lm) := by
  intro k i s q hk hs hr hq
  by_cases hk2 : k < 24
  · exact rs_okC nA_C hbt hrt hk2 (by have := hk.2; rw [← nA_C k hk2]; exact this) hs hr hq
  · have hq : rs bt rt k i s = some q := hq
    rw [rs_hi (bt := 0) (rt := 0) (by omega)] at hq
    exact (rR0_rs k hk.1 i hk.2 s hs hr).2 q hq
theorem okM_A (im lm : IM) (x : Nat) : okM nA (im, rs 0 0, lm) := okM_R (by omega) (by omega)
theorem spM_k {im : IM} {p : Nat} {a1 a2 a3 a4 a5 a6 a7 a8 : Int} {k i s : Nat} (h : ¬ (30 ≤ k ∧ k < 51)) : spM im p a1 a2 a3 a4 a5 a6 a7 a8 k i s = im k i s := by
  unfold spM
  simp only [up_app]
  repeat rw [if_neg (by omega)]

theorem x9_tail {M : MS} {G : GS} {A0 : Nat → Prop} {Q : State → Prop} {c s : Nat} {ad : Ads} (im1 : IM) (F : Fg M G A0 Y_X9_init) (hcs : c ≤ 20 ∧ s ≤ 3000) (K : Wg M G A0 Y_X9_init (rmi 2 20 3000) Q c s ad nA 317 [some (vR 30 0)] [] (up (up (spM (spM (spM (spM (spM (spM (im1) 0 (115) (116) (105) (99) (107) (115) (32) (119)) 8 (111) (114) (100) (32) (43) (32) (102) (111)) 16 (111) (100) (32) (42) (32) (51) (32) (59)) 24 (32) (108) (97) (115) (116) (115) (32) (53)) 32 (32) (59) (32) (115) (104) (97) (109) (101)) 40 (115) (32) (49) (48) (32) (59) (32) (32)) 32 0 (0 : Int).toNat 48) 30 0 3 1, rs 0 0, lm0)) : Wg M G A0 Y_X9_init (rmi 2 20 3000) Q c s ad nA 173 [some (vR 30 0)] [] (im1, rs 0 0, lm0) := by
  have hsd := sideR
  refine z_aload_n (t := 174) F dX9_init_173 rfl rfl rfl ?_
  refine z_iconst (t := 175) F dX9_init_174 rfl ?_
  refine z_bipush (t := 177) F dX9_init_175 (by decide) rfl ?_
  refine z_bipush (t := 179) F dX9_init_177 (by decide) rfl ?_
  refine z_bipush (t := 181) F dX9_init_179 (by decide) rfl ?_
  refine z_bipush (t := 183) F dX9_init_181 (by decide) rfl ?_
  refine z_bipush (t := 185) F dX9_init_183 (by decide) rfl ?_
  refine z_bipush (t := 187) F dX9_init_185 (by decide) rfl ?_
  refine z_bipush (t := 189) F dX9_init_187 (by decide) rfl ?_
  refine z_bipush (t := 191) F dX9_init_189 (by decide) rfl ?_
  refine z_callV (t := 194) [vI 0, vI 115, vI 116, vI 105, vI 99, vI 107, vI 115, vI 32, vI 119] F dX9_init_191 k_X9_spell v_X9_spell ml_X9_81 rfl rfl rfl rfl (Nat.le_of_ble_eq_true rfl) (by decide) (by decide) hcs (okq_of (by decide) (by decide)) hsd (agI_rfl _ _) (c_X9_spell _ G _ 0 0 lm0 0 (by decide) (115) (116) (105) (99) (107) (115) (32) (119)) (fun r m' hp => ?_) rfl (fun r m' hp => ?_)
  · obtain ⟨-, rfl⟩ := hp
    exact okM_A _ _ 0
  obtain ⟨rfl, rfl⟩ := hp
  rw [mix_R (fun k i s hk => spM_k hk) (fun _ _ _ _ => rfl)]
  refine z_aload_n (t := 195) F dX9_init_194 rfl rfl rfl ?_
  refine z_bipush (t := 197) F dX9_init_195 (by decide) rfl ?_
  refine z_bipush (t := 199) F dX9_init_197 (by decide) rfl ?_
  refine z_bipush (t := 201) F dX9_init_199 (by decide) rfl ?_
  refine z_bipush (t := 203) F dX9_init_201 (by decide) rfl ?_
  refine z_bipush (t := 205) F dX9_init_203 (by decide) rfl ?_
  refine z_bipush (t := 207) F dX9_init_205 (by decide) rfl ?_
  refine z_bipush (t := 209) F dX9_init_207 (by decide) rfl ?_
  refine z_bipush (t := 211) F dX9_init_209 (by decide) rfl ?_
  refine z_bipush (t := 213) F dX9_init_211 (by decide) rfl ?_
  refine z_callV (t := 216) [vI 8, vI 111, vI 114, vI 100, vI 32, vI 43, vI 32, vI 102, vI 111] F dX9_init_213 k_X9_spell v_X9_spell ml_X9_81 rfl rfl rfl rfl (Nat.le_of_ble_eq_true rfl) (by decide) (by decide) hcs (okq_of (by decide) (by decide)) hsd (agI_rfl _ _) (c_X9_spell _ G _ 0 0 lm0 8 (by decide) (111) (114) (100) (32) (43) (32) (102) (111)) (fun r m' hp => ?_) rfl (fun r m' hp => ?_)
  · obtain ⟨-, rfl⟩ := hp
    exact okM_A _ _ 0
  obtain ⟨rfl, rfl⟩ := hp
  rw [mix_R (fun k i s hk => spM_k hk) (fun _ _ _ _ => rfl)]
  refine z_aload_n (t := 217) F dX9_init_216 rfl rfl rfl ?_
  refine z_bipush (t := 219) F dX9_init_217 (by decide) rfl ?_
  refine z_bipush (t := 221) F dX9_init_219 (by decide) rfl ?_
  refine z_bipush (t := 223) F dX9_init_221 (by decide) rfl ?_
  refine z_bipush (t := 225) F dX9_init_223 (by decide) rfl ?_
  refine z_bipush (t := 227) F dX9_init_225 (by decide) rfl ?_
  refine z_bipush (t := 229) F dX9_init_227 (by decide) rfl ?_
  refine z_bipush (t := 231) F dX9_init_229 (by decide) rfl ?_
  refine z_bipush (t := 233) F dX9_init_231 (by decide) rfl ?_
  refine z_bipush (t := 235) F dX9_init_233 (by decide) rfl ?_
  refine z_callV (t := 238) [vI 16, vI 111, vI 100, vI 32, vI 42, vI 32, vI 51, vI 32, vI 59] F dX9_init_235 k_X9_spell v_X9_spell ml_X9_81 rfl rfl rfl rfl (Nat.le_of_ble_eq_true rfl) (by decide) (by decide) hcs (okq_of (by decide) (by decide)) hsd (agI_rfl _ _) (c_X9_spell _ G _ 0 0 lm0 16 (by decide) (111) (100) (32) (42) (32) (51) (32) (59)) (fun r m' hp => ?_) rfl (fun r m' hp => ?_)
  · obtain ⟨-, rfl⟩ := hp
    exact okM_A _ _ 0
  obtain ⟨rfl, rfl⟩ := hp
  rw [mix_R (fun k i s hk => spM_k hk) (fun _ _ _ _ => rfl)]
  refine z_aload_n (t := 239) F dX9_init_238 rfl rfl rfl ?_
  refine z_bipush (t := 241) F dX9_init_239 (by decide) rfl ?_
  refine z_bipush (t := 243) F dX9_init_241 (by decide) rfl ?_
  refine z_bipush (t := 245) F dX9_init_243 (by decide) rfl ?_
  refine z_bipush (t := 247) F dX9_init_245 (by decide) rfl ?_
  refine z_bipush (t := 249) F dX9_init_247 (by decide) rfl ?_
  refine z_bipush (t := 251) F dX9_init_249 (by decide) rfl ?_
  refine z_bipush (t := 253) F dX9_init_251 (by decide) rfl ?_
  refine z_bipush (t := 255) F dX9_init_253 (by decide) rfl ?_
  refine z_bipush (t := 257) F dX9_init_255 (by decide) rfl ?_
  refine z_callV (t := 260) [vI 24, vI 32, vI 108, vI 97, vI 115, vI 116, vI 115, vI 32, vI 53] F dX9_init_257 k_X9_spell v_X9_spell ml_X9_81 rfl rfl rfl rfl (Nat.le_of_ble_eq_true rfl) (by decide) (by decide) hcs (okq_of (by decide) (by decide)) hsd (agI_rfl _ _) (c_X9_spell _ G _ 0 0 lm0 24 (by decide) (32) (108) (97) (115) (116) (115) (32) (53)) (fun r m' hp => ?_) rfl (fun r m' hp => ?_)
  · obtain ⟨-, rfl⟩ := hp
    exact okM_A _ _ 0
  obtain ⟨rfl, rfl⟩ := hp
  rw [mix_R (fun k i s hk => spM_k hk) (fun _ _ _ _ => rfl)]
  refine z_aload_n (t := 261) F dX9_init_260 rfl rfl rfl ?_
  refine z_bipush (t := 263) F dX9_init_261 (by decide) rfl ?_
  refine z_bipush (t := 265) F dX9_init_263 (by decide) rfl ?_
  refine z_bipush (t := 267) F dX9_init_265 (by decide) rfl ?_
  refine z_bipush (t := 269) F dX9_init_267 (by decide) rfl ?_
  refine z_bipush (t := 271) F dX9_init_269 (by decide) rfl ?_
  refine z_bipush (t := 273) F dX9_init_271 (by decide) rfl ?_
  refine z_bipush (t := 275) F dX9_init_273 (by decide) rfl ?_
  refine z_bipush (t := 277) F dX9_init_275 (by decide) rfl ?_
  refine z_bipush (t := 279) F dX9_init_277 (by decide) rfl ?_
  refine z_callV (t := 282) [vI 32, vI 32, vI 59, vI 32, vI 115, vI 104, vI 97, vI 109, vI 101] F dX9_init_279 k_X9_spell v_X9_spell ml_X9_81 rfl rfl rfl rfl (Nat.le_of_ble_eq_true rfl) (by decide) (by decide) hcs (okq_of (by decide) (by decide)) hsd (agI_rfl _ _) (c_X9_spell _ G _ 0 0 lm0 32 (by decide) (32) (59) (32) (115) (104) (97) (109) (101)) (fun r m' hp => ?_) rfl (fun r m' hp => ?_)
  · obtain ⟨-, rfl⟩ := hp
    exact okM_A _ _ 0
  obtain ⟨rfl, rfl⟩ := hp
  rw [mix_R (fun k i s hk => spM_k hk) (fun _ _ _ _ => rfl)]
  refine z_aload_n (t := 283) F dX9_init_282 rfl rfl rfl ?_
  refine z_bipush (t := 285) F dX9_init_283 (by decide) rfl ?_
  refine z_bipush (t := 287) F dX9_init_285 (by decide) rfl ?_
  refine z_bipush (t := 289) F dX9_init_287 (by decide) rfl ?_
  refine z_bipush (t := 291) F dX9_init_289 (by decide) rfl ?_
  refine z_bipush (t := 293) F dX9_init_291 (by decide) rfl ?_
  refine z_bipush (t := 295) F dX9_init_293 (by decide) rfl ?_
  refine z_bipush (t := 297) F dX9_init_295 (by decide) rfl ?_
  refine z_bipush (t := 299) F dX9_init_297 (by decide) rfl ?_
  refine z_bipush (t := 301) F dX9_init_299 (by decide) rfl ?_
  refine z_callV (t := 304) [vI 40, vI 115, vI 32, vI 49, vI 48, vI 32, vI 59, vI 32, vI 32] F dX9_init_301 k_X9_spell v_X9_spell ml_X9_81 rfl rfl rfl rfl (Nat.le_of_ble_eq_true rfl) (by decide) (by decide) hcs (okq_of (by decide) (by decide)) hsd (agI_rfl _ _) (c_X9_spell _ G _ 0 0 lm0 40 (by decide) (115) (32) (49) (48) (32) (59) (32) (32)) (fun r m' hp => ?_) rfl (fun r m' hp => ?_)
  · obtain ⟨-, rfl⟩ := hp
    exact okM_A _ _ 0
  obtain ⟨rfl, rfl⟩ := hp
  rw [mix_R (fun k i s hk => spM_k hk) (fun _ _ _ _ => rfl)]
  refine z_aload_n (t := 305) F dX9_init_304 rfl rfl rfl ?_
  refine z_getr3 (x := 2) (k' := 32) (i' := 0) (t := 308) F dX9_init_305 rfl uX9 fl_X9_17 (by decide) rfl (okq_of (by decide) (by decide)) rfl rfl rfl ?_
  refine z_iconst (t := 309) F dX9_init_308 rfl ?_
  refine z_bipush (t := 311) F dX9_init_309 (by decide) rfl ?_
  refine z_iast (m := (_, rs 0 0, lm0)) (t := 312) F dX9_init_311 rfl (by decide) (okq_of (by decide) (by decide)) (by decide) (by decide) rfl ?_
  refine z_aload_n (t := 313) F dX9_init_312 rfl rfl rfl ?_
  refine z_iconst (t := 314) F dX9_init_313 rfl ?_
  refine z_puti3 (x := 3) (t := 317) F dX9_init_314 rfl uX9 tyX9 tyX9_ok nmX9 fl_X9_85 (by decide) rfl rfl (okq_of (by decide) (by decide)) rfl rfl rfl ?_
  exact K

set_option maxHeartbeats 4000000 in
set_option maxRecDepth 20000 in
theorem ci_X9 (l : Launch) (G : GS) (im : IM) (him0 : ∀ k i s, 24 ≤ k → im k i s = 0) (hRi : RI im) : Ci l G yX9_init Y_X9_init 20 3000 [vR 30 0] (gl [1, 1, 6, 6, 6, 6, 1, 4, 4, 1, 1, 1, 1, 1, 1, 1, 1, 1, 3, 3, 3, 15, 15, 15, 0, 0, 0, 0, 0, 0, 1, 0, 0, 0, 0, 0, 0, 0, 0, 0, 0, 0, 0, 0, 0, 0, 0, 0, 0, 0, 0]) (im, rsC 0 0, lm0) (nA) (fun m' => ∃ im', m' = (im', rs 0 0, lm0) ∧ (∀ k i s, 24 ≤ k → im k i s = 0) ∧ RI im ∧ im' = chR9 im) := by
  refine ci_of (by decide) rfl rfl rfl (Nat.le_of_ble_eq_true rfl) ?_
  intro M ad hMl F hini
  subst hMl
  refine z_pad 0 ?_
  show Wg M G _ Y_X9_init _ _ 0 0 ad (gl [1, 1, 6, 6, 6, 6, 1, 4, 4, 1, 1, 1, 1, 1, 1, 1, 1, 1, 3, 3, 3, 15, 15, 15, 0, 0, 0, 0, 0, 0, 1, 0, 0, 0, 0, 0, 0, 0, 0, 0, 0, 0, 0, 0, 0, 0, 0, 0, 0, 0, 0]) 0 [some (vR 30 0)] [] (im, rsC 0 0, lm0)
  refine z_aload_n (t := 1) F dX9_init_0 rfl rfl rfl ?_
  refine z_objinit (t := 4) F dX9_init_1 ml_X9_7 (by decide) (by decide) rfl ?_
  refine z_aload_n (t := 5) F dX9_init_4 rfl rfl rfl ?_
  refine z_sipush (t := 8) F dX9_init_5 (by decide) rfl ?_
  refine z_newa (t := 10) (k := 31) (i := 0) (N := 960) F dX9_init_8 rfl (Or.inl ⟨rfl, rfl⟩) rfl (by omega) (by omega) (by omega) rfl (by decide) (ins_gl (L' := [1, 1, 6, 6, 6, 6, 1, 4, 4, 1, 1, 1, 1, 1, 1, 1, 1, 1, 3, 3, 3, 15, 15, 15, 0, 0, 0, 0, 0, 0, 1, 1, 0, 0, 0, 0, 0, 0, 0, 0, 0, 0, 0, 0, 0, 0, 0, 0, 0, 0, 0]) (by decide) (by decide)) (by simp only [okS, okL, okv, okq] <;> decide) (show okL _ [some (vR 30 0)] from (by simp only [okS, okL, okv, okq] <;> decide)) ⟨by decide, by decide⟩ rfl (fun ad1 hs1 => ?_)
  refine z_putr3 (x := 1) (t := 13) F dX9_init_10 rfl uX9 tyX9 tyX9_ok nmX9 fl_X9_13 (by decide) (by first | exact Or.inl rfl | exact Or.inr ⟨rfl, hini, rfl⟩) rfl (okq_of (by decide) (by decide)) (okq_of (by decide) (by decide)) rfl (by first | exact Or.inl ⟨_, rfl⟩ | exact Or.inr ⟨_, rfl⟩) rfl ?_
  refine z_aload_n (t := 14) F dX9_init_13 rfl rfl rfl ?_
  refine z_bipush (t := 16) F dX9_init_14 (by decide) rfl ?_
  refine z_newa (t := 18) (k := 32) (i := 0) (N := 6) F dX9_init_16 rfl (Or.inl ⟨rfl, rfl⟩) rfl (by omega) (by omega) (by omega) rfl (by decide) (ins_gl (L' := [1, 1, 6, 6, 6, 6, 1, 4, 4, 1, 1, 1, 1, 1, 1, 1, 1, 1, 3, 3, 3, 15, 15, 15, 0, 0, 0, 0, 0, 0, 1, 1, 1, 0, 0, 0, 0, 0, 0, 0, 0, 0, 0, 0, 0, 0, 0, 0, 0, 0, 0]) (by decide) (by decide)) (by simp only [okS, okL, okv, okq] <;> decide) (show okL _ [some (vR 30 0)] from (by simp only [okS, okL, okv, okq] <;> decide)) ⟨by decide, by decide⟩ rfl (fun ad2 hs2 => ?_)
  refine z_putr3 (x := 2) (t := 21) F dX9_init_18 rfl uX9 tyX9 tyX9_ok nmX9 fl_X9_17 (by decide) (by first | exact Or.inl rfl | exact Or.inr ⟨rfl, hini, rfl⟩) rfl (okq_of (by decide) (by decide)) (okq_of (by decide) (by decide)) rfl (by first | exact Or.inl ⟨_, rfl⟩ | exact Or.inr ⟨_, rfl⟩) rfl ?_
  refine z_aload_n (t := 22) F dX9_init_21 rfl rfl rfl ?_
  refine z_sipush (t := 25) F dX9_init_22 (by decide) rfl ?_
  refine z_newa (t := 27) (k := 33) (i := 0) (N := 160) F dX9_init_25 rfl (Or.inl ⟨rfl, rfl⟩) rfl (by omega) (by omega) (by omega) rfl (by decide) (ins_gl (L' := [1, 1, 6, 6, 6, 6, 1, 4, 4, 1, 1, 1, 1, 1, 1, 1, 1, 1, 3, 3, 3, 15, 15, 15, 0, 0, 0, 0, 0, 0, 1, 1, 1, 1, 0, 0, 0, 0, 0, 0, 0, 0, 0, 0, 0, 0, 0, 0, 0, 0, 0]) (by decide) (by decide)) (by simp only [okS, okL, okv, okq] <;> decide) (show okL _ [some (vR 30 0)] from (by simp only [okS, okL, okv, okq] <;> decide)) ⟨by decide, by decide⟩ rfl (fun ad3 hs3 => ?_)
  refine z_putr3 (x := 5) (t := 30) F dX9_init_27 rfl uX9 tyX9 tyX9_ok nmX9 fl_X9_20 (by decide) (by first | exact Or.inl rfl | exact Or.inr ⟨rfl, hini, rfl⟩) rfl (okq_of (by decide) (by decide)) (okq_of (by decide) (by decide)) rfl (by first | exact Or.inl ⟨_, rfl⟩ | exact Or.inr ⟨_, rfl⟩) rfl ?_
  refine z_aload_n (t := 31) F dX9_init_30 rfl rfl rfl ?_
  refine z_sipush (t := 34) F dX9_init_31 (by decide) rfl ?_
  refine z_puti3 (x := 8) (t := 37) F dX9_init_34 rfl uX9 tyX9 tyX9_ok nmX9 fl_X9_23 (by decide) rfl rfl (okq_of (by decide) (by decide)) rfl rfl rfl ?_
  refine z_aload_n (t := 38) F dX9_init_37 rfl rfl rfl ?_
  refine z_iconst (t := 39) F dX9_init_38 rfl ?_
  refine z_newa (t := 41) (k := 34) (i := 0) (N := 5) F dX9_init_39 rfl (Or.inl ⟨rfl, rfl⟩) rfl (by omega) (by omega) (by omega) rfl (by decide) (ins_gl (L' := [1, 1, 6, 6, 6, 6, 1, 4, 4, 1, 1, 1, 1, 1, 1, 1, 1, 1, 3, 3, 3, 15, 15, 15, 0, 0, 0, 0, 0, 0, 1, 1, 1, 1, 1, 0, 0, 0, 0, 0, 0, 0, 0, 0, 0, 0, 0, 0, 0, 0, 0]) (by decide) (by decide)) (by simp only [okS, okL, okv, okq] <;> decide) (show okL _ [some (vR 30 0)] from (by simp only [okS, okL, okv, okq] <;> decide)) ⟨by decide, by decide⟩ rfl (fun ad4 hs4 => ?_)
  refine z_putr3 (x := 10) (t := 44) F dX9_init_41 rfl uX9 tyX9 tyX9_ok nmX9 fl_X9_26 (by decide) (by first | exact Or.inl rfl | exact Or.inr ⟨rfl, hini, rfl⟩) rfl (okq_of (by decide) (by decide)) (okq_of (by decide) (by decide)) rfl (by first | exact Or.inl ⟨_, rfl⟩ | exact Or.inr ⟨_, rfl⟩) rfl ?_
  refine z_aload_n (t := 45) F dX9_init_44 rfl rfl rfl ?_
  refine z_iconst (t := 46) F dX9_init_45 rfl ?_
  refine z_newa (t := 48) (k := 35) (i := 0) (N := 5) F dX9_init_46 rfl (Or.inl ⟨rfl, rfl⟩) rfl (by omega) (by omega) (by omega) rfl (by decide) (ins_gl (L' := [1, 1, 6, 6, 6, 6, 1, 4, 4, 1, 1, 1, 1, 1, 1, 1, 1, 1, 3, 3, 3, 15, 15, 15, 0, 0, 0, 0, 0, 0, 1, 1, 1, 1, 1, 1, 0, 0, 0, 0, 0, 0, 0, 0, 0, 0, 0, 0, 0, 0, 0]) (by decide) (by decide)) (by simp only [okS, okL, okv, okq] <;> decide) (show okL _ [some (vR 30 0)] from (by simp only [okS, okL, okv, okq] <;> decide)) ⟨by decide, by decide⟩ rfl (fun ad5 hs5 => ?_)
  refine z_putr3 (x := 11) (t := 51) F dX9_init_48 rfl uX9 tyX9 tyX9_ok nmX9 fl_X9_29 (by decide) (by first | exact Or.inl rfl | exact Or.inr ⟨rfl, hini, rfl⟩) rfl (okq_of (by decide) (by decide)) (okq_of (by decide) (by decide)) rfl (by first | exact Or.inl ⟨_, rfl⟩ | exact Or.inr ⟨_, rfl⟩) rfl ?_
  refine z_aload_n (t := 52) F dX9_init_51 rfl rfl rfl ?_
  refine z_bipush (t := 54) F dX9_init_52 (by decide) rfl ?_
  refine z_newa (t := 56) (k := 36) (i := 0) (N := 50) F dX9_init_54 rfl (Or.inl ⟨rfl, rfl⟩) rfl (by omega) (by omega) (by omega) rfl (by decide) (ins_gl (L' := [1, 1, 6, 6, 6, 6, 1, 4, 4, 1, 1, 1, 1, 1, 1, 1, 1, 1, 3, 3, 3, 15, 15, 15, 0, 0, 0, 0, 0, 0, 1, 1, 1, 1, 1, 1, 1, 0, 0, 0, 0, 0, 0, 0, 0, 0, 0, 0, 0, 0, 0]) (by decide) (by decide)) (by simp only [okS, okL, okv, okq] <;> decide) (show okL _ [some (vR 30 0)] from (by simp only [okS, okL, okv, okq] <;> decide)) ⟨by decide, by decide⟩ rfl (fun ad6 hs6 => ?_)
  refine z_putr3 (x := 13) (t := 59) F dX9_init_56 rfl uX9 tyX9 tyX9_ok nmX9 fl_X9_32 (by decide) (by first | exact Or.inl rfl | exact Or.inr ⟨rfl, hini, rfl⟩) rfl (okq_of (by decide) (by decide)) (okq_of (by decide) (by decide)) rfl (by first | exact Or.inl ⟨_, rfl⟩ | exact Or.inr ⟨_, rfl⟩) rfl ?_
  refine z_aload_n (t := 60) F dX9_init_59 rfl rfl rfl ?_
  refine z_bipush (t := 62) F dX9_init_60 (by decide) rfl ?_
  refine z_newa (t := 64) (k := 37) (i := 0) (N := 50) F dX9_init_62 rfl (Or.inl ⟨rfl, rfl⟩) rfl (by omega) (by omega) (by omega) rfl (by decide) (ins_gl (L' := [1, 1, 6, 6, 6, 6, 1, 4, 4, 1, 1, 1, 1, 1, 1, 1, 1, 1, 3, 3, 3, 15, 15, 15, 0, 0, 0, 0, 0, 0, 1, 1, 1, 1, 1, 1, 1, 1, 0, 0, 0, 0, 0, 0, 0, 0, 0, 0, 0, 0, 0]) (by decide) (by decide)) (by simp only [okS, okL, okv, okq] <;> decide) (show okL _ [some (vR 30 0)] from (by simp only [okS, okL, okv, okq] <;> decide)) ⟨by decide, by decide⟩ rfl (fun ad7 hs7 => ?_)
  refine z_putr3 (x := 14) (t := 67) F dX9_init_64 rfl uX9 tyX9 tyX9_ok nmX9 fl_X9_35 (by decide) (by first | exact Or.inl rfl | exact Or.inr ⟨rfl, hini, rfl⟩) rfl (okq_of (by decide) (by decide)) (okq_of (by decide) (by decide)) rfl (by first | exact Or.inl ⟨_, rfl⟩ | exact Or.inr ⟨_, rfl⟩) rfl ?_
  refine z_aload_n (t := 68) F dX9_init_67 rfl rfl rfl ?_
  refine z_bipush (t := 70) F dX9_init_68 (by decide) rfl ?_
  refine z_newa (t := 72) (k := 38) (i := 0) (N := 50) F dX9_init_70 rfl (Or.inl ⟨rfl, rfl⟩) rfl (by omega) (by omega) (by omega) rfl (by decide) (ins_gl (L' := [1, 1, 6, 6, 6, 6, 1, 4, 4, 1, 1, 1, 1, 1, 1, 1, 1, 1, 3, 3, 3, 15, 15, 15, 0, 0, 0, 0, 0, 0, 1, 1, 1, 1, 1, 1, 1, 1, 1, 0, 0, 0, 0, 0, 0, 0, 0, 0, 0, 0, 0]) (by decide) (by decide)) (by simp only [okS, okL, okv, okq] <;> decide) (show okL _ [some (vR 30 0)] from (by simp only [okS, okL, okv, okq] <;> decide)) ⟨by decide, by decide⟩ rfl (fun ad8 hs8 => ?_)
  refine z_putr3 (x := 34) (t := 75) F dX9_init_72 rfl uX9 tyX9 tyX9_ok nmX9 fl_X9_38 (by decide) (by first | exact Or.inl rfl | exact Or.inr ⟨rfl, hini, rfl⟩) rfl (okq_of (by decide) (by decide)) (okq_of (by decide) (by decide)) rfl (by first | exact Or.inl ⟨_, rfl⟩ | exact Or.inr ⟨_, rfl⟩) rfl ?_
  refine z_aload_n (t := 76) F dX9_init_75 rfl rfl rfl ?_
  refine z_bipush (t := 78) F dX9_init_76 (by decide) rfl ?_
  refine z_newa (t := 80) (k := 39) (i := 0) (N := 50) F dX9_init_78 rfl (Or.inl ⟨rfl, rfl⟩) rfl (by omega) (by omega) (by omega) rfl (by decide) (ins_gl (L' := [1, 1, 6, 6, 6, 6, 1, 4, 4, 1, 1, 1, 1, 1, 1, 1, 1, 1, 3, 3, 3, 15, 15, 15, 0, 0, 0, 0, 0, 0, 1, 1, 1, 1, 1, 1, 1, 1, 1, 1, 0, 0, 0, 0, 0, 0, 0, 0, 0, 0, 0]) (by decide) (by decide)) (by simp only [okS, okL, okv, okq] <;> decide) (show okL _ [some (vR 30 0)] from (by simp only [okS, okL, okv, okq] <;> decide)) ⟨by decide, by decide⟩ rfl (fun ad9 hs9 => ?_)
  refine z_putr3 (x := 35) (t := 83) F dX9_init_80 rfl uX9 tyX9 tyX9_ok nmX9 fl_X9_41 (by decide) (by first | exact Or.inl rfl | exact Or.inr ⟨rfl, hini, rfl⟩) rfl (okq_of (by decide) (by decide)) (okq_of (by decide) (by decide)) rfl (by first | exact Or.inl ⟨_, rfl⟩ | exact Or.inr ⟨_, rfl⟩) rfl ?_
  refine z_aload_n (t := 84) F dX9_init_83 rfl rfl rfl ?_
  refine z_bipush (t := 86) F dX9_init_84 (by decide) rfl ?_
  refine z_newa (t := 88) (k := 40) (i := 0) (N := 50) F dX9_init_86 rfl (Or.inl ⟨rfl, rfl⟩) rfl (by omega) (by omega) (by omega) rfl (by decide) (ins_gl (L' := [1, 1, 6, 6, 6, 6, 1, 4, 4, 1, 1, 1, 1, 1, 1, 1, 1, 1, 3, 3, 3, 15, 15, 15, 0, 0, 0, 0, 0, 0, 1, 1, 1, 1, 1, 1, 1, 1, 1, 1, 1, 0, 0, 0, 0, 0, 0, 0, 0, 0, 0]) (by decide) (by decide)) (by simp only [okS, okL, okv, okq] <;> decide) (show okL _ [some (vR 30 0)] from (by simp only [okS, okL, okv, okq] <;> decide)) ⟨by decide, by decide⟩ rfl (fun ad10 hs10 => ?_)
  refine z_putr3 (x := 36) (t := 91) F dX9_init_88 rfl uX9 tyX9 tyX9_ok nmX9 fl_X9_44 (by decide) (by first | exact Or.inl rfl | exact Or.inr ⟨rfl, hini, rfl⟩) rfl (okq_of (by decide) (by decide)) (okq_of (by decide) (by decide)) rfl (by first | exact Or.inl ⟨_, rfl⟩ | exact Or.inr ⟨_, rfl⟩) rfl ?_
  refine z_aload_n (t := 92) F dX9_init_91 rfl rfl rfl ?_
  refine z_bipush (t := 94) F dX9_init_92 (by decide) rfl ?_
  refine z_newa (t := 96) (k := 41) (i := 0) (N := 50) F dX9_init_94 rfl (Or.inl ⟨rfl, rfl⟩) rfl (by omega) (by omega) (by omega) rfl (by decide) (ins_gl (L' := [1, 1, 6, 6, 6, 6, 1, 4, 4, 1, 1, 1, 1, 1, 1, 1, 1, 1, 3, 3, 3, 15, 15, 15, 0, 0, 0, 0, 0, 0, 1, 1, 1, 1, 1, 1, 1, 1, 1, 1, 1, 1, 0, 0, 0, 0, 0, 0, 0, 0, 0]) (by decide) (by decide)) (by simp only [okS, okL, okv, okq] <;> decide) (show okL _ [some (vR 30 0)] from (by simp only [okS, okL, okv, okq] <;> decide)) ⟨by decide, by decide⟩ rfl (fun ad11 hs11 => ?_)
  refine z_putr3 (x := 37) (t := 99) F dX9_init_96 rfl uX9 tyX9 tyX9_ok nmX9 fl_X9_47 (by decide) (by first | exact Or.inl rfl | exact Or.inr ⟨rfl, hini, rfl⟩) rfl (okq_of (by decide) (by decide)) (okq_of (by decide) (by decide)) rfl (by first | exact Or.inl ⟨_, rfl⟩ | exact Or.inr ⟨_, rfl⟩) rfl ?_
  refine z_aload_n (t := 100) F dX9_init_99 rfl rfl rfl ?_
  refine z_bipush (t := 102) F dX9_init_100 (by decide) rfl ?_
  refine z_newa (t := 104) (k := 42) (i := 0) (N := 50) F dX9_init_102 rfl (Or.inl ⟨rfl, rfl⟩) rfl (by omega) (by omega) (by omega) rfl (by decide) (ins_gl (L' := [1, 1, 6, 6, 6, 6, 1, 4, 4, 1, 1, 1, 1, 1, 1, 1, 1, 1, 3, 3, 3, 15, 15, 15, 0, 0, 0, 0, 0, 0, 1, 1, 1, 1, 1, 1, 1, 1, 1, 1, 1, 1, 1, 0, 0, 0, 0, 0, 0, 0, 0]) (by decide) (by decide)) (by simp only [okS, okL, okv, okq] <;> decide) (show okL _ [some (vR 30 0)] from (by simp only [okS, okL, okv, okq] <;> decide)) ⟨by decide, by decide⟩ rfl (fun ad12 hs12 => ?_)
  refine z_putr3 (x := 41) (t := 107) F dX9_init_104 rfl uX9 tyX9 tyX9_ok nmX9 fl_X9_50 (by decide) (by first | exact Or.inl rfl | exact Or.inr ⟨rfl, hini, rfl⟩) rfl (okq_of (by decide) (by decide)) (okq_of (by decide) (by decide)) rfl (by first | exact Or.inl ⟨_, rfl⟩ | exact Or.inr ⟨_, rfl⟩) rfl ?_
  refine z_aload_n (t := 108) F dX9_init_107 rfl rfl rfl ?_
  refine z_bipush (t := 110) F dX9_init_108 (by decide) rfl ?_
  refine z_newa (t := 112) (k := 43) (i := 0) (N := 50) F dX9_init_110 rfl (Or.inl ⟨rfl, rfl⟩) rfl (by omega) (by omega) (by omega) rfl (by decide) (ins_gl (L' := [1, 1, 6, 6, 6, 6, 1, 4, 4, 1, 1, 1, 1, 1, 1, 1, 1, 1, 3, 3, 3, 15, 15, 15, 0, 0, 0, 0, 0, 0, 1, 1, 1, 1, 1, 1, 1, 1, 1, 1, 1, 1, 1, 1, 0, 0, 0, 0, 0, 0, 0]) (by decide) (by decide)) (by simp only [okS, okL, okv, okq] <;> decide) (show okL _ [some (vR 30 0)] from (by simp only [okS, okL, okv, okq] <;> decide)) ⟨by decide, by decide⟩ rfl (fun ad13 hs13 => ?_)
  refine z_putr3 (x := 42) (t := 115) F dX9_init_112 rfl uX9 tyX9 tyX9_ok nmX9 fl_X9_53 (by decide) (by first | exact Or.inl rfl | exact Or.inr ⟨rfl, hini, rfl⟩) rfl (okq_of (by decide) (by decide)) (okq_of (by decide) (by decide)) rfl (by first | exact Or.inl ⟨_, rfl⟩ | exact Or.inr ⟨_, rfl⟩) rfl ?_
  refine z_aload_n (t := 116) F dX9_init_115 rfl rfl rfl ?_
  refine z_iconst (t := 117) F dX9_init_116 rfl ?_
  refine z_newa (t := 119) (k := 44) (i := 0) (N := 5) F dX9_init_117 rfl (Or.inl ⟨rfl, rfl⟩) rfl (by omega) (by omega) (by omega) rfl (by decide) (ins_gl (L' := [1, 1, 6, 6, 6, 6, 1, 4, 4, 1, 1, 1, 1, 1, 1, 1, 1, 1, 3, 3, 3, 15, 15, 15, 0, 0, 0, 0, 0, 0, 1, 1, 1, 1, 1, 1, 1, 1, 1, 1, 1, 1, 1, 1, 1, 0, 0, 0, 0, 0, 0]) (by decide) (by decide)) (by simp only [okS, okL, okv, okq] <;> decide) (show okL _ [some (vR 30 0)] from (by simp only [okS, okL, okv, okq] <;> decide)) ⟨by decide, by decide⟩ rfl (fun ad14 hs14 => ?_)
  refine z_putr3 (x := 43) (t := 122) F dX9_init_119 rfl uX9 tyX9 tyX9_ok nmX9 fl_X9_56 (by decide) (by first | exact Or.inl rfl | exact Or.inr ⟨rfl, hini, rfl⟩) rfl (okq_of (by decide) (by decide)) (okq_of (by decide) (by decide)) rfl (by first | exact Or.inl ⟨_, rfl⟩ | exact Or.inr ⟨_, rfl⟩) rfl ?_
  refine z_aload_n (t := 123) F dX9_init_122 rfl rfl rfl ?_
  refine z_bipush (t := 125) F dX9_init_123 (by decide) rfl ?_
  refine z_newa (t := 127) (k := 45) (i := 0) (N := 50) F dX9_init_125 rfl (Or.inl ⟨rfl, rfl⟩) rfl (by omega) (by omega) (by omega) rfl (by decide) (ins_gl (L' := [1, 1, 6, 6, 6, 6, 1, 4, 4, 1, 1, 1, 1, 1, 1, 1, 1, 1, 3, 3, 3, 15, 15, 15, 0, 0, 0, 0, 0, 0, 1, 1, 1, 1, 1, 1, 1, 1, 1, 1, 1, 1, 1, 1, 1, 1, 0, 0, 0, 0, 0]) (by decide) (by decide)) (by simp only [okS, okL, okv, okq] <;> decide) (show okL _ [some (vR 30 0)] from (by simp only [okS, okL, okv, okq] <;> decide)) ⟨by decide, by decide⟩ rfl (fun ad15 hs15 => ?_)
  refine z_putr3 (x := 44) (t := 130) F dX9_init_127 rfl uX9 tyX9 tyX9_ok nmX9 fl_X9_59 (by decide) (by first | exact Or.inl rfl | exact Or.inr ⟨rfl, hini, rfl⟩) rfl (okq_of (by decide) (by decide)) (okq_of (by decide) (by decide)) rfl (by first | exact Or.inl ⟨_, rfl⟩ | exact Or.inr ⟨_, rfl⟩) rfl ?_
  refine z_aload_n (t := 131) F dX9_init_130 rfl rfl rfl ?_
  refine z_bipush (t := 133) F dX9_init_131 (by decide) rfl ?_
  refine z_newa (t := 135) (k := 46) (i := 0) (N := 50) F dX9_init_133 rfl (Or.inl ⟨rfl, rfl⟩) rfl (by omega) (by omega) (by omega) rfl (by decide) (ins_gl (L' := [1, 1, 6, 6, 6, 6, 1, 4, 4, 1, 1, 1, 1, 1, 1, 1, 1, 1, 3, 3, 3, 15, 15, 15, 0, 0, 0, 0, 0, 0, 1, 1, 1, 1, 1, 1, 1, 1, 1, 1, 1, 1, 1, 1, 1, 1, 1, 0, 0, 0, 0]) (by decide) (by decide)) (by simp only [okS, okL, okv, okq] <;> decide) (show okL _ [some (vR 30 0)] from (by simp only [okS, okL, okv, okq] <;> decide)) ⟨by decide, by decide⟩ rfl (fun ad16 hs16 => ?_)
  refine z_putr3 (x := 45) (t := 138) F dX9_init_135 rfl uX9 tyX9 tyX9_ok nmX9 fl_X9_62 (by decide) (by first | exact Or.inl rfl | exact Or.inr ⟨rfl, hini, rfl⟩) rfl (okq_of (by decide) (by decide)) (okq_of (by decide) (by decide)) rfl (by first | exact Or.inl ⟨_, rfl⟩ | exact Or.inr ⟨_, rfl⟩) rfl ?_
  refine z_aload_n (t := 139) F dX9_init_138 rfl rfl rfl ?_
  refine z_iconst (t := 140) F dX9_init_139 rfl ?_
  refine z_puti3 (x := 46) (t := 143) F dX9_init_140 rfl uX9 tyX9 tyX9_ok nmX9 fl_X9_65 (by decide) rfl rfl (okq_of (by decide) (by decide)) rfl rfl rfl ?_
  refine z_aload_n (t := 144) F dX9_init_143 rfl rfl rfl ?_
  refine z_iconst (t := 145) F dX9_init_144 rfl ?_
  refine z_newa (t := 147) (k := 47) (i := 0) (N := 4) F dX9_init_145 rfl (Or.inr ⟨rfl, rfl⟩) rfl (by omega) (by omega) (by omega) rfl (by decide) (ins_gl (L' := [1, 1, 6, 6, 6, 6, 1, 4, 4, 1, 1, 1, 1, 1, 1, 1, 1, 1, 3, 3, 3, 15, 15, 15, 0, 0, 0, 0, 0, 0, 1, 1, 1, 1, 1, 1, 1, 1, 1, 1, 1, 1, 1, 1, 1, 1, 1, 1, 0, 0, 0]) (by decide) (by decide)) (by simp only [okS, okL, okv, okq] <;> decide) (show okL _ [some (vR 30 0)] from (by simp only [okS, okL, okv, okq] <;> decide)) ⟨by decide, by decide⟩ rfl (fun ad17 hs17 => ?_)
  refine z_putr3 (x := 51) (t := 150) F dX9_init_147 rfl uX9 tyX9 tyX9_ok nmX9 fl_X9_68 (by decide) (by first | exact Or.inl rfl | exact Or.inr ⟨rfl, hini, rfl⟩) rfl (okq_of (by decide) (by decide)) (okq_of (by decide) (by decide)) rfl (by first | exact Or.inl ⟨_, rfl⟩ | exact Or.inr ⟨_, rfl⟩) rfl ?_
  refine z_aload_n (t := 151) F dX9_init_150 rfl rfl rfl ?_
  refine z_iconst (t := 152) F dX9_init_151 rfl ?_
  refine z_newa (t := 154) (k := 48) (i := 0) (N := 4) F dX9_init_152 rfl (Or.inl ⟨rfl, rfl⟩) rfl (by omega) (by omega) (by omega) rfl (by decide) (ins_gl (L' := [1, 1, 6, 6, 6, 6, 1, 4, 4, 1, 1, 1, 1, 1, 1, 1, 1, 1, 3, 3, 3, 15, 15, 15, 0, 0, 0, 0, 0, 0, 1, 1, 1, 1, 1, 1, 1, 1, 1, 1, 1, 1, 1, 1, 1, 1, 1, 1, 1, 0, 0]) (by decide) (by decide)) (by simp only [okS, okL, okv, okq] <;> decide) (show okL _ [some (vR 30 0)] from (by simp only [okS, okL, okv, okq] <;> decide)) ⟨by decide, by decide⟩ rfl (fun ad18 hs18 => ?_)
  refine z_putr3 (x := 52) (t := 157) F dX9_init_154 rfl uX9 tyX9 tyX9_ok nmX9 fl_X9_72 (by decide) (by first | exact Or.inl rfl | exact Or.inr ⟨rfl, hini, rfl⟩) rfl (okq_of (by decide) (by decide)) (okq_of (by decide) (by decide)) rfl (by first | exact Or.inl ⟨_, rfl⟩ | exact Or.inr ⟨_, rfl⟩) rfl ?_
  refine z_aload_n (t := 158) F dX9_init_157 rfl rfl rfl ?_
  refine z_iconst (t := 159) F dX9_init_158 rfl ?_
  refine z_newa (t := 161) (k := 49) (i := 0) (N := 4) F dX9_init_159 rfl (Or.inl ⟨rfl, rfl⟩) rfl (by omega) (by omega) (by omega) rfl (by decide) (ins_gl (L' := [1, 1, 6, 6, 6, 6, 1, 4, 4, 1, 1, 1, 1, 1, 1, 1, 1, 1, 3, 3, 3, 15, 15, 15, 0, 0, 0, 0, 0, 0, 1, 1, 1, 1, 1, 1, 1, 1, 1, 1, 1, 1, 1, 1, 1, 1, 1, 1, 1, 1, 0]) (by decide) (by decide)) (by simp only [okS, okL, okv, okq] <;> decide) (show okL _ [some (vR 30 0)] from (by simp only [okS, okL, okv, okq] <;> decide)) ⟨by decide, by decide⟩ rfl (fun ad19 hs19 => ?_)
  refine z_putr3 (x := 53) (t := 164) F dX9_init_161 rfl uX9 tyX9 tyX9_ok nmX9 fl_X9_75 (by decide) (by first | exact Or.inl rfl | exact Or.inr ⟨rfl, hini, rfl⟩) rfl (okq_of (by decide) (by decide)) (okq_of (by decide) (by decide)) rfl (by first | exact Or.inl ⟨_, rfl⟩ | exact Or.inr ⟨_, rfl⟩) rfl ?_
  refine z_aload_n (t := 165) F dX9_init_164 rfl rfl rfl ?_
  refine z_sipush (t := 168) F dX9_init_165 (by decide) rfl ?_
  refine z_newa (t := 170) (k := 50) (i := 0) (N := 160) F dX9_init_168 rfl (Or.inl ⟨rfl, rfl⟩) rfl (by omega) (by omega) (by omega) rfl (by decide) (ins_gl (L' := [1, 1, 6, 6, 6, 6, 1, 4, 4, 1, 1, 1, 1, 1, 1, 1, 1, 1, 3, 3, 3, 15, 15, 15, 0, 0, 0, 0, 0, 0, 1, 1, 1, 1, 1, 1, 1, 1, 1, 1, 1, 1, 1, 1, 1, 1, 1, 1, 1, 1, 1]) (by decide) (by decide)) (by simp only [okS, okL, okv, okq] <;> decide) (show okL _ [some (vR 30 0)] from (by simp only [okS, okL, okv, okq] <;> decide)) ⟨by decide, by decide⟩ rfl (fun ad20 hs20 => ?_)
  refine z_putr3 (x := 54) (t := 173) F dX9_init_170 rfl uX9 tyX9 tyX9_ok nmX9 fl_X9_78 (by decide) (by first | exact Or.inl rfl | exact Or.inr ⟨rfl, hini, rfl⟩) rfl (okq_of (by decide) (by decide)) (okq_of (by decide) (by decide)) rfl (by first | exact Or.inl ⟨_, rfl⟩ | exact Or.inr ⟨_, rfl⟩) rfl ?_
  refine z_mem ((up (up im 30 0 8 1024) 30 0 46 (-1)), rs 0 0, lm0) (fun k i s hq hs => ?_) (fun hB => ?_) (okM_A _ _ 0) ?_
  · have hq := mem_idn.mp hq
    exact ⟨rfl, fun hr => (rR0_rs k hq.1 i hq.2 s hs hr).1, rfl⟩
  · intro k i hi hc s
    have h := hB k i hi hc s
    have hk : ¬ (k < 24 ∨ 30 ≤ k ∧ k < 51) := fun q => by
      have h9 : nA k ≤ i := hi
      have h8 := cap_A k (by omega) (by omega)
      omega
    exact ⟨h.1, rs_no (by omega) (by omega), rfl⟩
  exact x9_tail (up (up im 30 0 8 1024) 30 0 46 (-1)) F ⟨by decide, by decide⟩ (z_vret F dX9_init_317 rfl (by decide) (by decide) (sam_trans (sam_trans (sam_trans (sam_trans (sam_trans (sam_trans (sam_trans (sam_trans (sam_trans (sam_trans (sam_trans (sam_trans (sam_trans (sam_trans (sam_trans (sam_trans (sam_trans (sam_trans (sam_trans hs1 hs2 (fun q hq => by first | exact okq_gl (by decide) hq | (repeat (first | exact hq | apply ins_ok)))) hs3 (fun q hq => by first | exact okq_gl (by decide) hq | (repeat (first | exact hq | apply ins_ok)))) hs4 (fun q hq => by first | exact okq_gl (by decide) hq | (repeat (first | exact hq | apply ins_ok)))) hs5 (fun q hq => by first | exact okq_gl (by decide) hq | (repeat (first | exact hq | apply ins_ok)))) hs6 (fun q hq => by first | exact okq_gl (by decide) hq | (repeat (first | exact hq | apply ins_ok)))) hs7 (fun q hq => by first | exact okq_gl (by decide) hq | (repeat (first | exact hq | apply ins_ok)))) hs8 (fun q hq => by first | exact okq_gl (by decide) hq | (repeat (first | exact hq | apply ins_ok)))) hs9 (fun q hq => by first | exact okq_gl (by decide) hq | (repeat (first | exact hq | apply ins_ok)))) hs10 (fun q hq => by first | exact okq_gl (by decide) hq | (repeat (first | exact hq | apply ins_ok)))) hs11 (fun q hq => by first | exact okq_gl (by decide) hq | (repeat (first | exact hq | apply ins_ok)))) hs12 (fun q hq => by first | exact okq_gl (by decide) hq | (repeat (first | exact hq | apply ins_ok)))) hs13 (fun q hq => by first | exact okq_gl (by decide) hq | (repeat (first | exact hq | apply ins_ok)))) hs14 (fun q hq => by first | exact okq_gl (by decide) hq | (repeat (first | exact hq | apply ins_ok)))) hs15 (fun q hq => by first | exact okq_gl (by decide) hq | (repeat (first | exact hq | apply ins_ok)))) hs16 (fun q hq => by first | exact okq_gl (by decide) hq | (repeat (first | exact hq | apply ins_ok)))) hs17 (fun q hq => by first | exact okq_gl (by decide) hq | (repeat (first | exact hq | apply ins_ok)))) hs18 (fun q hq => by first | exact okq_gl (by decide) hq | (repeat (first | exact hq | apply ins_ok)))) hs19 (fun q hq => by first | exact okq_gl (by decide) hq | (repeat (first | exact hq | apply ins_ok)))) hs20 (fun q hq => by first | exact okq_gl (by decide) hq | (repeat (first | exact hq | apply ins_ok)))) ⟨_, rfl, him0, hRi, rfl⟩)
end
section
/-! the reference: is it in the range -/
set_option maxHeartbeats 4000000 in
theorem c_X9_in (l : Launch) (G : GS) (im : IM) (bt rt : Nat) (lm : IM) (v a b : Int) (hv : rl v) (ha : rl a) (hb : rl b) : Cn l (XR G) yX9_in Y_X9_in [vL v, vL a, vL b] (im, rs bt rt, lm) (pI fun x m' => x = (if a ≤ v ∧ v ≤ b then 1 else 0) ∧ m' = (im, rs bt rt, lm)) := by
  refine cn_of (by decide) (okR G) rfl (Nat.le_of_ble_eq_true rfl) ?_
  intro M ad hMl F
  subst hMl
  have hv1 := hv.1
  have hv2 := hv.2
  have ha1 := ha.1
  have ha2 := ha.2
  have hb1 := hb.1
  have hb2 := hb.2
  refine wp_pad 0 ?_
  show Wp M (XR G) ad Y_X9_in (pI fun x m' => x = (if a ≤ v ∧ v ≤ b then 1 else 0) ∧ m' = (im, rs bt rt, lm)) 0 [some (vL v), none, some (vL a), none, some (vL b), none] [] (im, rs bt rt, lm)
  refine q_lload_n (t := 1) F dX9_in_0 rfl rfl rfl ?_
  refine q_lload_n (t := 2) F dX9_in_1 rfl rfl rfl ?_
  refine q_lcmp (t := 3) F dX9_in_2 ⟨by omega, by omega⟩ ⟨by omega, by omega⟩ rfl ?_
  refine q_if_lt (t := 6) (u := 17) F dX9_in_3 (by exact cmpI_ri _ _) (by decide) rfl (fun c3 => ?_) (fun c3 => ?_)
  · refine q_iconst (t := 18) F dX9_in_17 rfl ?_
    refine q_zret F dX9_in_18 rfl (by decide) ?_
    refine ⟨_, rfl, ?_, rfl⟩
    have e1 : cmpI v a < 0 ↔ v < a := cmpI_lt
    have e2 : 0 < cmpI v b ↔ b < v := cmpI_gt
    first
      | rw [if_pos (by omega)]
      | rw [if_neg (by omega)]
  · refine q_lload_n (t := 7) F dX9_in_6 rfl rfl rfl ?_
    refine q_lload (t := 9) F dX9_in_7 rfl rfl ?_
    refine q_lcmp (t := 10) F dX9_in_9 ⟨by omega, by omega⟩ ⟨by omega, by omega⟩ rfl ?_
    refine q_if_gt (t := 13) (u := 17) F dX9_in_10 (by exact cmpI_ri _ _) (by decide) rfl (fun c10 => ?_) (fun c10 => ?_)
    · refine q_iconst (t := 18) F dX9_in_17 rfl ?_
      refine q_zret F dX9_in_18 rfl (by decide) ?_
      refine ⟨_, rfl, ?_, rfl⟩
      have e1 : cmpI v a < 0 ↔ v < a := cmpI_lt
      have e2 : 0 < cmpI v b ↔ b < v := cmpI_gt
      first
        | rw [if_pos (by omega)]
        | rw [if_neg (by omega)]
    · refine q_iconst (t := 14) F dX9_in_13 rfl ?_
      refine q_goto (t := 18) F dX9_in_14 (by decide) ?_
      refine q_zret F dX9_in_18 rfl (by decide) ?_
      refine ⟨_, rfl, ?_, rfl⟩
      have e1 : cmpI v a < 0 ↔ v < a := cmpI_lt
      have e2 : 0 < cmpI v b ↔ b < v := cmpI_gt
      first
        | rw [if_pos (by omega)]
        | rw [if_neg (by omega)]

set_option maxHeartbeats 4000000 in
theorem c_X9_isOne (l : Launch) (G : GS) (im : IM) (bt rt : Nat) (lm : IM) (hR : RI im) (h0 : 0 ≤ im 30 0 12) (h5 : im 30 0 12 ≤ 5) (p : Int) (hp : ri p) : Cn l (XR G) yX9_isOne Y_X9_isOne [vR 30 0, vI p] (im, rs bt rt, lm) (pI fun x m' => x = (if 0 ≤ p ∧ p < im 30 0 12 then 1 else 0) ∧ m' = (im, rs bt rt, lm)) := by
  refine cn_of (by decide) (okR G) rfl (Nat.le_of_ble_eq_true rfl) ?_
  intro M ad hMl F
  subst hMl
  have hp1 := hp.1
  have hp2 := hp.2
  refine wp_pad 0 ?_
  show Wp M (XR G) ad Y_X9_isOne (pI fun x m' => x = (if 0 ≤ p ∧ p < im 30 0 12 then 1 else 0) ∧ m' = (im, rs bt rt, lm)) 0 [some (vR 30 0), some (vI p)] [] (im, rs bt rt, lm)
  refine q_iload_n (t := 1) F dX9_isOne_0 rfl rfl rfl ?_
  refine q_i2l (t := 2) F dX9_isOne_1 (by first | exact hR _ _ _ | (constructor <;> omega)) rfl ?_
  refine q_lconst (t := 3) (x := 0) F dX9_isOne_2 (by decide) rfl ?_
  refine q_aload_n (t := 4) F dX9_isOne_3 rfl rfl rfl ?_
  refine g_X9_88 (t := 7) F dX9_isOne_4 rfl rfl ?_
  refine q_iconst (t := 8) F dX9_isOne_7 rfl ?_
  refine q_isub (t := 9) F dX9_isOne_8 rfl ?_
  refine q_i2l (t := 10) F dX9_isOne_9 (by first | exact hR _ _ _ | (constructor <;> omega)) rfl ?_
  refine wp_callS (t := 13) [_, _, _] F dX9_isOne_10 k_X9_in st_X9_in ml_X9_91 rfl rfl (Nat.le_of_ble_eq_true rfl) (by decide) (c_X9_in _ G _ _ _ _ (p) (0) (im 30 0 12 - 1) (by constructor <;> omega) (by constructor <;> omega) (by constructor <;> omega)) rfl (kI ?_)
  rintro x10 m' ⟨hx10, rfl⟩
  have hx10 := if01 hx10
  refine q_zret F dX9_isOne_13 rfl (by rcases hx10 with h | h <;> omega) ?_
  refine ⟨_, rfl, ?_, rfl⟩
  split <;> omega

set_option maxHeartbeats 4000000 in
theorem c_X9_isGap (l : Launch) (G : GS) (im : IM) (bt rt : Nat) (lm : IM) (g : Int) (hg : ri g) : Cn l (XR G) yX9_isGap Y_X9_isGap [vI g] (im, rs bt rt, lm) (pI fun x m' => x = (if 0 ≤ g ∧ g ≤ 9 then 1 else 0) ∧ m' = (im, rs bt rt, lm)) := by
  refine cn_of (by decide) (okR G) rfl (Nat.le_of_ble_eq_true rfl) ?_
  intro M ad hMl F
  subst hMl
  have hg1 := hg.1
  have hg2 := hg.2
  refine wp_pad 0 ?_
  show Wp M (XR G) ad Y_X9_isGap (pI fun x m' => x = (if 0 ≤ g ∧ g ≤ 9 then 1 else 0) ∧ m' = (im, rs bt rt, lm)) 0 [some (vI g)] [] (im, rs bt rt, lm)
  refine q_iload_n (t := 1) F dX9_isGap_0 rfl rfl rfl ?_
  refine q_i2l (t := 2) F dX9_isGap_1 (by first | exact hR _ _ _ | (constructor <;> omega)) rfl ?_
  refine q_lconst (t := 3) (x := 0) F dX9_isGap_2 (by decide) rfl ?_
  refine q_ldc2 (t := 6) (x := 9) F dX9_isGap_3 kl_X9_95 (by decide) rfl ?_
  refine wp_callS (t := 9) [_, _, _] F dX9_isGap_6 k_X9_in st_X9_in ml_X9_91 rfl rfl (Nat.le_of_ble_eq_true rfl) (by decide) (c_X9_in _ G _ _ _ _ (g) (0) (9) (by constructor <;> omega) (by constructor <;> omega) (by constructor <;> omega)) rfl (kI ?_)
  rintro x6 m' ⟨hx6, rfl⟩
  have hx6 := if01 hx6
  refine q_zret F dX9_isGap_9 rfl (by rcases hx6 with h | h <;> omega) ?_
  refine ⟨_, rfl, ?_, rfl⟩
  split <;> omega

set_option maxHeartbeats 4000000 in
theorem c_X9_isWord (l : Launch) (G : GS) (im : IM) (bt rt : Nat) (lm : IM) (g : Int) (hg : ri g) : Cn l (XR G) yX9_isWord Y_X9_isWord [vI g] (im, rs bt rt, lm) (pI fun x m' => x = (if 0 ≤ g ∧ g ≤ 15 then 1 else 0) ∧ m' = (im, rs bt rt, lm)) := by
  refine cn_of (by decide) (okR G) rfl (Nat.le_of_ble_eq_true rfl) ?_
  intro M ad hMl F
  subst hMl
  have hg1 := hg.1
  have hg2 := hg.2
  refine wp_pad 0 ?_
  show Wp M (XR G) ad Y_X9_isWord (pI fun x m' => x = (if 0 ≤ g ∧ g ≤ 15 then 1 else 0) ∧ m' = (im, rs bt rt, lm)) 0 [some (vI g)] [] (im, rs bt rt, lm)
  refine q_iload_n (t := 1) F dX9_isWord_0 rfl rfl rfl ?_
  refine q_i2l (t := 2) F dX9_isWord_1 (by first | exact hR _ _ _ | (constructor <;> omega)) rfl ?_
  refine q_lconst (t := 3) (x := 0) F dX9_isWord_2 (by decide) rfl ?_
  refine q_ldc2 (t := 6) (x := 15) F dX9_isWord_3 kl_X9_97 (by decide) rfl ?_
  refine wp_callS (t := 9) [_, _, _] F dX9_isWord_6 k_X9_in st_X9_in ml_X9_91 rfl rfl (Nat.le_of_ble_eq_true rfl) (by decide) (c_X9_in _ G _ _ _ _ (g) (0) (15) (by constructor <;> omega) (by constructor <;> omega) (by constructor <;> omega)) rfl (kI ?_)
  rintro x6 m' ⟨hx6, rfl⟩
  have hx6 := if01 hx6
  refine q_zret F dX9_isWord_9 rfl (by rcases hx6 with h | h <;> omega) ?_
  refine ⟨_, rfl, ?_, rfl⟩
  split <;> omega

set_option maxHeartbeats 4000000 in
theorem c_X9_isSheet (l : Launch) (G : GS) (im : IM) (bt rt : Nat) (lm : IM) (g : Int) (hg : ri g) : Cn l (XR G) yX9_isSheet Y_X9_isSheet [vI g] (im, rs bt rt, lm) (pI fun x m' => x = (if 0 ≤ g ∧ g ≤ 3 then 1 else 0) ∧ m' = (im, rs bt rt, lm)) := by
  refine cn_of (by decide) (okR G) rfl (Nat.le_of_ble_eq_true rfl) ?_
  intro M ad hMl F
  subst hMl
  have hg1 := hg.1
  have hg2 := hg.2
  refine wp_pad 0 ?_
  show Wp M (XR G) ad Y_X9_isSheet (pI fun x m' => x = (if 0 ≤ g ∧ g ≤ 3 then 1 else 0) ∧ m' = (im, rs bt rt, lm)) 0 [some (vI g)] [] (im, rs bt rt, lm)
  refine q_iload_n (t := 1) F dX9_isSheet_0 rfl rfl rfl ?_
  refine q_i2l (t := 2) F dX9_isSheet_1 (by first | exact hR _ _ _ | (constructor <;> omega)) rfl ?_
  refine q_lconst (t := 3) (x := 0) F dX9_isSheet_2 (by decide) rfl ?_
  refine q_ldc2 (t := 6) (x := 3) F dX9_isSheet_3 kl_X9_433 (by decide) rfl ?_
  refine wp_callS (t := 9) [_, _, _] F dX9_isSheet_6 k_X9_in st_X9_in ml_X9_91 rfl rfl (Nat.le_of_ble_eq_true rfl) (by decide) (c_X9_in _ G _ _ _ _ (g) (0) (3) (by constructor <;> omega) (by constructor <;> omega) (by constructor <;> omega)) rfl (kI ?_)
  rintro x6 m' ⟨hx6, rfl⟩
  have hx6 := if01 hx6
  refine q_zret F dX9_isSheet_9 rfl (by rcases hx6 with h | h <;> omega) ?_
  refine ⟨_, rfl, ?_, rfl⟩
  split <;> omega
end
