/-! constructors -/
theorem df_X6 : ∀ j, j < 4 → defaultValue (tyX6 j) = (match fks 2 j with | 0 => Value.int 0 | 1 => Value.null | _ => Value.long 0) := fun j hj => match j, hj with
  | 0, _ => rfl
  | 1, _ => rfl
  | 2, _ => rfl
  | 3, _ => rfl
  | j + 4, h => absurd h (by omega)
theorem df_X5 : ∀ j, j < 3 → defaultValue (tyX5 j) = (match fks 7 j with | 0 => Value.int 0 | 1 => Value.null | _ => Value.long 0) := fun j hj => match j, hj with
  | 0, _ => rfl
  | 1, _ => rfl
  | 2, _ => rfl
  | j + 3, h => absurd h (by omega)
theorem df_X1 : ∀ j, j < 7 → defaultValue (tyX1 j) = (match fks 9 j with | 0 => Value.int 0 | 1 => Value.null | _ => Value.long 0) := fun j hj => match j, hj with
  | 0, _ => rfl
  | 1, _ => rfl
  | 2, _ => rfl
  | 3, _ => rfl
  | 4, _ => rfl
  | 5, _ => rfl
  | 6, _ => rfl
  | j + 7, h => absurd h (by omega)
theorem df_X3 : ∀ j, j < 4 → defaultValue (tyX3 j) = (match fks 21 j with | 0 => Value.int 0 | 1 => Value.null | _ => Value.long 0) := fun j hj => match j, hj with
  | 0, _ => rfl
  | 1, _ => rfl
  | 2, _ => rfl
  | 3, _ => rfl
  | j + 4, h => absurd h (by omega)
theorem df_X4 : ∀ j, j < 8 → defaultValue (tyX4 j) = (match fks 14 j with | 0 => Value.int 0 | 1 => Value.null | _ => Value.long 0) := fun j hj => match j, hj with
  | 0, _ => rfl
  | 1, _ => rfl
  | 2, _ => rfl
  | 3, _ => rfl
  | 4, _ => rfl
  | 5, _ => rfl
  | 6, _ => rfl
  | 7, _ => rfl
  | j + 8, h => absurd h (by omega)
theorem df_X0 : ∀ j, j < 5 → defaultValue (tyX0 j) = (match fks 16 j with | 0 => Value.int 0 | 1 => Value.null | _ => Value.long 0) := fun j hj => match j, hj with
  | 0, _ => rfl
  | 1, _ => rfl
  | 2, _ => rfl
  | 3, _ => rfl
  | 4, _ => rfl
  | j + 5, h => absurd h (by omega)
theorem df_X7 : ∀ j, j < 8 → defaultValue (tyX7 j) = (match fks 18 j with | 0 => Value.int 0 | 1 => Value.null | _ => Value.long 0) := fun j hj => match j, hj with
  | 0, _ => rfl
  | 1, _ => rfl
  | 2, _ => rfl
  | 3, _ => rfl
  | 4, _ => rfl
  | 5, _ => rfl
  | 6, _ => rfl
  | 7, _ => rfl
  | j + 8, h => absurd h (by omega)
theorem df_X8 : ∀ j, j < 10 → defaultValue (tyX8 j) = (match fks 0 j with | 0 => Value.int 0 | 1 => Value.null | _ => Value.long 0) := fun j hj => match j, hj with
  | 0, _ => rfl
  | 1, _ => rfl
  | 2, _ => rfl
  | 3, _ => rfl
  | 4, _ => rfl
  | 5, _ => rfl
  | 6, _ => rfl
  | 7, _ => rfl
  | 8, _ => rfl
  | 9, _ => rfl
  | j + 10, h => absurd h (by omega)
theorem df_X9 : ∀ j, j < 55 → defaultValue (tyX9 j) = (match fks 30 j with | 0 => Value.int 0 | 1 => Value.null | _ => Value.long 0) := fun j hj => match j, hj with
  | 0, _ => rfl
  | 1, _ => rfl
  | 2, _ => rfl
  | 3, _ => rfl
  | 4, _ => rfl
  | 5, _ => rfl
  | 6, _ => rfl
  | 7, _ => rfl
  | 8, _ => rfl
  | 9, _ => rfl
  | 10, _ => rfl
  | 11, _ => rfl
  | 12, _ => rfl
  | 13, _ => rfl
  | 14, _ => rfl
  | 15, _ => rfl
  | 16, _ => rfl
  | 17, _ => rfl
  | 18, _ => rfl
  | 19, _ => rfl
  | 20, _ => rfl
  | 21, _ => rfl
  | 22, _ => rfl
  | 23, _ => rfl
  | 24, _ => rfl
  | 25, _ => rfl
  | 26, _ => rfl
  | 27, _ => rfl
  | 28, _ => rfl
  | 29, _ => rfl
  | 30, _ => rfl
  | 31, _ => rfl
  | 32, _ => rfl
  | 33, _ => rfl
  | 34, _ => rfl
  | 35, _ => rfl
  | 36, _ => rfl
  | 37, _ => rfl
  | 38, _ => rfl
  | 39, _ => rfl
  | 40, _ => rfl
  | 41, _ => rfl
  | 42, _ => rfl
  | 43, _ => rfl
  | 44, _ => rfl
  | 45, _ => rfl
  | 46, _ => rfl
  | 47, _ => rfl
  | 48, _ => rfl
  | 49, _ => rfl
  | 50, _ => rfl
  | 51, _ => rfl
  | 52, _ => rfl
  | 53, _ => rfl
  | 54, _ => rfl
  | j + 55, h => absurd h (by omega)
set_option maxHeartbeats 4000000 in
set_option maxRecDepth 20000 in
theorem ci_X3 (l : Launch) (G : GS) (n : Nat → Nat) (im : Nat → Nat → Nat → Int) (r : Nat → Nat → Nat → Option (Nat × Nat)) (lm : Nat → Nat → Nat → Int) (i : Nat) (h21 : i < n 21) (h22 : n 22 = i) (h23 : n 23 = i) (hi : i < 15) : Ci l G yX3_init Y_X3_init 2 20 [vR 21 i] (n) (im, r, lm) (ins (ins (n) 22) 23) (fun m' => m' = (im, up (up r 21 i 2 (some (22, i))) 21 i 3 (some (23, i)), lm)) := by
  refine ci_of (by decide) rfl rfl rfl (Nat.le_of_ble_eq_true rfl) ?_
  intro M ad hMl F hini
  subst hMl
  refine z_pad 0 ?_
  show Wg M G _ Y_X3_init _ _ 0 0 ad (n) 0 [some (vR 21 i)] [] (im, r, lm)
  refine z_aload_n (t := 1) F dX3_init_0 rfl rfl rfl ?_
  refine z_objinit (t := 4) F dX3_init_1 ml_X3_3 (by decide) (by decide) rfl ?_
  refine z_aload_n (t := 5) F dX3_init_4 rfl rfl rfl ?_
  refine z_bipush (t := 7) F dX3_init_5 (by decide) rfl ?_
  refine z_newa (t := 9) (k := 22) (i := i) (N := 10) F dX3_init_7 rfl (Or.inl ⟨rfl, rfl⟩) rfl (by omega) (by omega) (by omega) (by first | omega | (simp [ins] <;> omega)) (by first | (simp [ins, cap] <;> omega) | (simp [cap] <;> omega)) rfl (by simp [okS, okL, okv, okq, ins] <;> omega) (show okL _ [some (vR 21 i)] from (by simp [okS, okL, okv, okq, ins] <;> omega)) ⟨by decide, by decide⟩ rfl (fun ad1 hs1 => ?_)
  refine z_putr3 (x := 2) (t := 12) F dX3_init_9 rfl uX3 tyX3 tyX3_ok nmX3 fl_X3_9 (by decide) (by first | exact Or.inl rfl | exact Or.inr ⟨rfl, hini, rfl⟩) rfl (okq_of (by omega) (by first | omega | (simp [ins] <;> omega))) (okq_of (by omega) (by first | omega | (simp [ins] <;> omega))) rfl (by first | exact Or.inl ⟨_, rfl⟩ | exact Or.inr ⟨_, rfl⟩) rfl ?_
  refine z_aload_n (t := 13) F dX3_init_12 rfl rfl rfl ?_
  refine z_bipush (t := 15) F dX3_init_13 (by decide) rfl ?_
  refine z_newa (t := 17) (k := 23) (i := i) (N := 10) F dX3_init_15 rfl (Or.inl ⟨rfl, rfl⟩) rfl (by omega) (by omega) (by omega) (by first | omega | (simp [ins] <;> omega)) (by first | (simp [ins, cap] <;> omega) | (simp [cap] <;> omega)) rfl (by simp [okS, okL, okv, okq, ins] <;> omega) (show okL _ [some (vR 21 i)] from (by simp [okS, okL, okv, okq, ins] <;> omega)) ⟨by decide, by decide⟩ rfl (fun ad2 hs2 => ?_)
  refine z_putr3 (x := 3) (t := 20) F dX3_init_17 rfl uX3 tyX3 tyX3_ok nmX3 fl_X3_15 (by decide) (by first | exact Or.inl rfl | exact Or.inr ⟨rfl, hini, rfl⟩) rfl (okq_of (by omega) (by first | omega | (simp [ins] <;> omega))) (okq_of (by omega) (by first | omega | (simp [ins] <;> omega))) rfl (by first | exact Or.inl ⟨_, rfl⟩ | exact Or.inr ⟨_, rfl⟩) rfl ?_
  exact z_vret F dX3_init_20 rfl (by decide) (by decide) (sam_trans hs1 hs2 (fun q hq => by first | exact okq_gl (by decide +kernel) hq | (repeat (first | exact hq | apply ins_ok)))) rfl

set_option maxHeartbeats 4000000 in
set_option maxRecDepth 20000 in
theorem ci_X6 (l : Launch) (G : GS) (n : Nat → Nat) (im : Nat → Nat → Nat → Int) (r : Nat → Nat → Nat → Option (Nat × Nat)) (lm : Nat → Nat → Nat → Int) (i : Nat) (h2 : i < n 2) (h3 : n 3 = i) (h4 : n 4 = i) (h5 : n 5 = i) (hi : i < 6) : Ci l G yX6_init Y_X6_init 3 194 [vR 2 i] (n) (im, r, lm) (ins (ins (ins (n) 3) 4) 5) (fun m' => m' = (im, up (up (up r 2 i 0 (some (3, i))) 2 i 1 (some (4, i))) 2 i 2 (some (5, i)), lm)) := by
  refine ci_of (by decide) rfl rfl rfl (Nat.le_of_ble_eq_true rfl) ?_
  intro M ad hMl F hini
  subst hMl
  refine z_pad 0 ?_
  show Wg M G _ Y_X6_init _ _ 0 0 ad (n) 0 [some (vR 2 i)] [] (im, r, lm)
  refine z_aload_n (t := 1) F dX6_init_0 rfl rfl rfl ?_
  refine z_objinit (t := 4) F dX6_init_1 ml_X6_3 (by decide) (by decide) rfl ?_
  refine z_aload_n (t := 5) F dX6_init_4 rfl rfl rfl ?_
  refine z_sipush (t := 8) F dX6_init_5 (by decide) rfl ?_
  refine z_newa (t := 10) (k := 3) (i := i) (N := 160) F dX6_init_8 rfl (Or.inl ⟨rfl, rfl⟩) rfl (by omega) (by omega) (by omega) (by first | omega | (simp [ins] <;> omega)) (by first | (simp [ins, cap] <;> omega) | (simp [cap] <;> omega)) rfl (by simp [okS, okL, okv, okq, ins] <;> omega) (show okL _ [some (vR 2 i)] from (by simp [okS, okL, okv, okq, ins] <;> omega)) ⟨by decide, by decide⟩ rfl (fun ad1 hs1 => ?_)
  refine z_putr3 (x := 0) (t := 13) F dX6_init_10 rfl uX6 tyX6 tyX6_ok nmX6 fl_X6_9 (by decide) (by first | exact Or.inl rfl | exact Or.inr ⟨rfl, hini, rfl⟩) rfl (okq_of (by omega) (by first | omega | (simp [ins] <;> omega))) (okq_of (by omega) (by first | omega | (simp [ins] <;> omega))) rfl (by first | exact Or.inl ⟨_, rfl⟩ | exact Or.inr ⟨_, rfl⟩) rfl ?_
  refine z_aload_n (t := 14) F dX6_init_13 rfl rfl rfl ?_
  refine z_iconst (t := 15) F dX6_init_14 rfl ?_
  refine z_newa (t := 17) (k := 4) (i := i) (N := 3) F dX6_init_15 rfl (Or.inl ⟨rfl, rfl⟩) rfl (by omega) (by omega) (by omega) (by first | omega | (simp [ins] <;> omega)) (by first | (simp [ins, cap] <;> omega) | (simp [cap] <;> omega)) rfl (by simp [okS, okL, okv, okq, ins] <;> omega) (show okL _ [some (vR 2 i)] from (by simp [okS, okL, okv, okq, ins] <;> omega)) ⟨by decide, by decide⟩ rfl (fun ad2 hs2 => ?_)
  refine z_putr3 (x := 1) (t := 20) F dX6_init_17 rfl uX6 tyX6 tyX6_ok nmX6 fl_X6_15 (by decide) (by first | exact Or.inl rfl | exact Or.inr ⟨rfl, hini, rfl⟩) rfl (okq_of (by omega) (by first | omega | (simp [ins] <;> omega))) (okq_of (by omega) (by first | omega | (simp [ins] <;> omega))) rfl (by first | exact Or.inl ⟨_, rfl⟩ | exact Or.inr ⟨_, rfl⟩) rfl ?_
  refine z_aload_n (t := 21) F dX6_init_20 rfl rfl rfl ?_
  refine z_bipush (t := 23) F dX6_init_21 (by decide) rfl ?_
  refine z_newa (t := 25) (k := 5) (i := i) (N := 31) F dX6_init_23 rfl (Or.inl ⟨rfl, rfl⟩) rfl (by omega) (by omega) (by omega) (by first | omega | (simp [ins] <;> omega)) (by first | (simp [ins, cap] <;> omega) | (simp [cap] <;> omega)) rfl (by simp [okS, okL, okv, okq, ins] <;> omega) (show okL _ [some (vR 2 i)] from (by simp [okS, okL, okv, okq, ins] <;> omega)) ⟨by decide, by decide⟩ rfl (fun ad3 hs3 => ?_)
  refine z_putr3 (x := 2) (t := 28) F dX6_init_25 rfl uX6 tyX6 tyX6_ok nmX6 fl_X6_18 (by decide) (by first | exact Or.inl rfl | exact Or.inr ⟨rfl, hini, rfl⟩) rfl (okq_of (by omega) (by first | omega | (simp [ins] <;> omega))) (okq_of (by omega) (by first | omega | (simp [ins] <;> omega))) rfl (by first | exact Or.inl ⟨_, rfl⟩ | exact Or.inr ⟨_, rfl⟩) rfl ?_
  exact z_vret F dX6_init_28 rfl (by decide) (by decide) (sam_trans (sam_trans hs1 hs2 (fun q hq => by first | exact okq_gl (by decide +kernel) hq | (repeat (first | exact hq | apply ins_ok)))) hs3 (fun q hq => by first | exact okq_gl (by decide +kernel) hq | (repeat (first | exact hq | apply ins_ok)))) rfl

set_option maxHeartbeats 4000000 in
set_option maxRecDepth 20000 in
theorem ci_X5 (l : Launch) (G : GS) (n : Nat → Nat) (im : Nat → Nat → Nat → Int) (r : Nat → Nat → Nat → Option (Nat × Nat)) (lm : Nat → Nat → Nat → Int) (i : Nat) (h7 : i < n 7) (h8 : n 8 = i) (hi : i < 4) : Ci l G yX5_init Y_X5_init 1 40 [vR 7 i] (n) (im, r, lm) (ins (n) 8) (fun m' => m' = (up im 7 i 1 (-1), up r 7 i 0 (some (8, i)), lm)) := by
  refine ci_of (by decide) rfl rfl rfl (Nat.le_of_ble_eq_true rfl) ?_
  intro M ad hMl F hini
  subst hMl
  refine z_pad 0 ?_
  show Wg M G _ Y_X5_init _ _ 0 0 ad (n) 0 [some (vR 7 i)] [] (im, r, lm)
  refine z_aload_n (t := 1) F dX5_init_0 rfl rfl rfl ?_
  refine z_objinit (t := 4) F dX5_init_1 ml_X5_3 (by decide) (by decide) rfl ?_
  refine z_aload_n (t := 5) F dX5_init_4 rfl rfl rfl ?_
  refine z_bipush (t := 7) F dX5_init_5 (by decide) rfl ?_
  refine z_newa (t := 9) (k := 8) (i := i) (N := 40) F dX5_init_7 rfl (Or.inl ⟨rfl, rfl⟩) rfl (by omega) (by omega) (by omega) (by first | omega | (simp [ins] <;> omega)) (by first | (simp [ins, cap] <;> omega) | (simp [cap] <;> omega)) rfl (by simp [okS, okL, okv, okq, ins] <;> omega) (show okL _ [some (vR 7 i)] from (by simp [okS, okL, okv, okq, ins] <;> omega)) ⟨by decide, by decide⟩ rfl (fun ad1 hs1 => ?_)
  refine z_putr3 (x := 0) (t := 12) F dX5_init_9 rfl uX5 tyX5 tyX5_ok nmX5 fl_X5_9 (by decide) (by first | exact Or.inl rfl | exact Or.inr ⟨rfl, hini, rfl⟩) rfl (okq_of (by omega) (by first | omega | (simp [ins] <;> omega))) (okq_of (by omega) (by first | omega | (simp [ins] <;> omega))) rfl (by first | exact Or.inl ⟨_, rfl⟩ | exact Or.inr ⟨_, rfl⟩) rfl ?_
  refine z_aload_n (t := 13) F dX5_init_12 rfl rfl rfl ?_
  refine z_iconst (t := 14) F dX5_init_13 rfl ?_
  refine z_puti3 (x := 1) (t := 17) F dX5_init_14 rfl uX5 tyX5 tyX5_ok nmX5 fl_X5_15 (by decide) rfl rfl (okq_of (by omega) (by first | omega | (simp [ins] <;> omega))) rfl rfl rfl ?_
  exact z_vret F dX5_init_17 rfl (by decide) (by decide) hs1 rfl

set_option maxHeartbeats 4000000 in
set_option maxRecDepth 20000 in
theorem ci_X1 (l : Launch) (G : GS) (n : Nat → Nat) (im : Nat → Nat → Nat → Int) (r : Nat → Nat → Nat → Option (Nat × Nat)) (lm : Nat → Nat → Nat → Int) (h9 : 0 < n 9) (h10 : n 10 = 0) (h11 : n 11 = 0) (h12 : n 12 = 0) (h13 : n 13 = 0) : Ci l G yX1_init Y_X1_init 4 1148 [vR 9 0] (n) (im, r, lm) (ins (ins (ins (ins (n) 10) 11) 12) 13) (fun m' => m' = (im, up (up (up (up r 9 0 0 (some (10, 0))) 9 0 1 (some (11, 0))) 9 0 2 (some (12, 0))) 9 0 3 (some (13, 0)), lm)) := by
  refine ci_of (by decide) rfl rfl rfl (Nat.le_of_ble_eq_true rfl) ?_
  intro M ad hMl F hini
  subst hMl
  refine z_pad 0 ?_
  show Wg M G _ Y_X1_init _ _ 0 0 ad (n) 0 [some (vR 9 0)] [] (im, r, lm)
  refine z_aload_n (t := 1) F dX1_init_0 rfl rfl rfl ?_
  refine z_objinit (t := 4) F dX1_init_1 ml_X1_3 (by decide) (by decide) rfl ?_
  refine z_aload_n (t := 5) F dX1_init_4 rfl rfl rfl ?_
  refine z_bipush (t := 7) F dX1_init_5 (by decide) rfl ?_
  refine z_newa (t := 9) (k := 10) (i := 0) (N := 50) F dX1_init_7 rfl (Or.inl ⟨rfl, rfl⟩) rfl (by omega) (by omega) (by omega) (by first | omega | (simp [ins] <;> omega)) (by first | (simp [ins, cap] <;> omega) | (simp [cap] <;> omega)) rfl (by simp [okS, okL, okv, okq, ins] <;> omega) (show okL _ [some (vR 9 0)] from (by simp [okS, okL, okv, okq, ins] <;> omega)) ⟨by decide, by decide⟩ rfl (fun ad1 hs1 => ?_)
  refine z_putr3 (x := 0) (t := 12) F dX1_init_9 rfl uX1 tyX1 tyX1_ok nmX1 fl_X1_9 (by decide) (by first | exact Or.inl rfl | exact Or.inr ⟨rfl, hini, rfl⟩) rfl (okq_of (by omega) (by first | omega | (simp [ins] <;> omega))) (okq_of (by omega) (by first | omega | (simp [ins] <;> omega))) rfl (by first | exact Or.inl ⟨_, rfl⟩ | exact Or.inr ⟨_, rfl⟩) rfl ?_
  refine z_aload_n (t := 13) F dX1_init_12 rfl rfl rfl ?_
  refine z_bipush (t := 15) F dX1_init_13 (by decide) rfl ?_
  refine z_newa (t := 17) (k := 11) (i := 0) (N := 50) F dX1_init_15 rfl (Or.inl ⟨rfl, rfl⟩) rfl (by omega) (by omega) (by omega) (by first | omega | (simp [ins] <;> omega)) (by first | (simp [ins, cap] <;> omega) | (simp [cap] <;> omega)) rfl (by simp [okS, okL, okv, okq, ins] <;> omega) (show okL _ [some (vR 9 0)] from (by simp [okS, okL, okv, okq, ins] <;> omega)) ⟨by decide, by decide⟩ rfl (fun ad2 hs2 => ?_)
  refine z_putr3 (x := 1) (t := 20) F dX1_init_17 rfl uX1 tyX1 tyX1_ok nmX1 fl_X1_15 (by decide) (by first | exact Or.inl rfl | exact Or.inr ⟨rfl, hini, rfl⟩) rfl (okq_of (by omega) (by first | omega | (simp [ins] <;> omega))) (okq_of (by omega) (by first | omega | (simp [ins] <;> omega))) rfl (by first | exact Or.inl ⟨_, rfl⟩ | exact Or.inr ⟨_, rfl⟩) rfl ?_
  refine z_aload_n (t := 21) F dX1_init_20 rfl rfl rfl ?_
  refine z_bipush (t := 23) F dX1_init_21 (by decide) rfl ?_
  refine z_newa (t := 25) (k := 12) (i := 0) (N := 24) F dX1_init_23 rfl (Or.inl ⟨rfl, rfl⟩) rfl (by omega) (by omega) (by omega) (by first | omega | (simp [ins] <;> omega)) (by first | (simp [ins, cap] <;> omega) | (simp [cap] <;> omega)) rfl (by simp [okS, okL, okv, okq, ins] <;> omega) (show okL _ [some (vR 9 0)] from (by simp [okS, okL, okv, okq, ins] <;> omega)) ⟨by decide, by decide⟩ rfl (fun ad3 hs3 => ?_)
  refine z_putr3 (x := 2) (t := 28) F dX1_init_25 rfl uX1 tyX1 tyX1_ok nmX1 fl_X1_18 (by decide) (by first | exact Or.inl rfl | exact Or.inr ⟨rfl, hini, rfl⟩) rfl (okq_of (by omega) (by first | omega | (simp [ins] <;> omega))) (okq_of (by omega) (by first | omega | (simp [ins] <;> omega))) rfl (by first | exact Or.inl ⟨_, rfl⟩ | exact Or.inr ⟨_, rfl⟩) rfl ?_
  refine z_aload_n (t := 29) F dX1_init_28 rfl rfl rfl ?_
  refine z_sipush (t := 32) F dX1_init_29 (by decide) rfl ?_
  refine z_newa (t := 34) (k := 13) (i := 0) (N := 1024) F dX1_init_32 rfl (Or.inl ⟨rfl, rfl⟩) rfl (by omega) (by omega) (by omega) (by first | omega | (simp [ins] <;> omega)) (by first | (simp [ins, cap] <;> omega) | (simp [cap] <;> omega)) rfl (by simp [okS, okL, okv, okq, ins] <;> omega) (show okL _ [some (vR 9 0)] from (by simp [okS, okL, okv, okq, ins] <;> omega)) ⟨by decide, by decide⟩ rfl (fun ad4 hs4 => ?_)
  refine z_putr3 (x := 3) (t := 37) F dX1_init_34 rfl uX1 tyX1 tyX1_ok nmX1 fl_X1_21 (by decide) (by first | exact Or.inl rfl | exact Or.inr ⟨rfl, hini, rfl⟩) rfl (okq_of (by omega) (by first | omega | (simp [ins] <;> omega))) (okq_of (by omega) (by first | omega | (simp [ins] <;> omega))) rfl (by first | exact Or.inl ⟨_, rfl⟩ | exact Or.inr ⟨_, rfl⟩) rfl ?_
  exact z_vret F dX1_init_37 rfl (by decide) (by decide) (sam_trans (sam_trans (sam_trans hs1 hs2 (fun q hq => by first | exact okq_gl (by decide +kernel) hq | (repeat (first | exact hq | apply ins_ok)))) hs3 (fun q hq => by first | exact okq_gl (by decide +kernel) hq | (repeat (first | exact hq | apply ins_ok)))) hs4 (fun q hq => by first | exact okq_gl (by decide +kernel) hq | (repeat (first | exact hq | apply ins_ok)))) rfl

set_option maxHeartbeats 4000000 in
set_option maxRecDepth 20000 in
theorem ci_X4 (l : Launch) (G : GS) (n : Nat → Nat) (im : Nat → Nat → Nat → Int) (r : Nat → Nat → Nat → Option (Nat × Nat)) (lm : Nat → Nat → Nat → Int) (h14 : 0 < n 14) (h15 : n 15 = 0) (h2 : 0 < n 2) : Ci l G yX4_init Y_X4_init 1 160 [vR 14 0, vR 2 0] (n) (im, r, lm) (ins (n) 15) (fun m' => m' = (im, up (up r 14 0 0 (some (15, 0))) 14 0 7 (some (2, 0)), lm)) := by
  refine ci_of (by decide) rfl rfl rfl (Nat.le_of_ble_eq_true rfl) ?_
  intro M ad hMl F hini
  subst hMl
  refine z_pad 0 ?_
  show Wg M G _ Y_X4_init _ _ 0 0 ad (n) 0 [some (vR 14 0), some (vR 2 0)] [] (im, r, lm)
  refine z_aload_n (t := 1) F dX4_init_0 rfl rfl rfl ?_
  refine z_objinit (t := 4) F dX4_init_1 ml_X4_3 (by decide) (by decide) rfl ?_
  refine z_aload_n (t := 5) F dX4_init_4 rfl rfl rfl ?_
  refine z_sipush (t := 8) F dX4_init_5 (by decide) rfl ?_
  refine z_newa (t := 10) (k := 15) (i := 0) (N := 160) F dX4_init_8 rfl (Or.inl ⟨rfl, rfl⟩) rfl (by omega) (by omega) (by omega) (by first | omega | (simp [ins] <;> omega)) (by first | (simp [ins, cap] <;> omega) | (simp [cap] <;> omega)) rfl (by simp [okS, okL, okv, okq, ins] <;> omega) (show okL _ [some (vR 14 0), some (vR 2 0)] from (by simp [okS, okL, okv, okq, ins] <;> omega)) ⟨by decide, by decide⟩ rfl (fun ad1 hs1 => ?_)
  refine z_putr3 (x := 0) (t := 13) F dX4_init_10 rfl uX4 tyX4 tyX4_ok nmX4 fl_X4_9 (by decide) (by first | exact Or.inl rfl | exact Or.inr ⟨rfl, hini, rfl⟩) rfl (okq_of (by omega) (by first | omega | (simp [ins] <;> omega))) (okq_of (by omega) (by first | omega | (simp [ins] <;> omega))) rfl (by first | exact Or.inl ⟨_, rfl⟩ | exact Or.inr ⟨_, rfl⟩) rfl ?_
  refine z_aload_n (t := 14) F dX4_init_13 rfl rfl rfl ?_
  refine z_aload_n (t := 15) F dX4_init_14 rfl rfl rfl ?_
  refine z_putr3 (x := 7) (t := 18) F dX4_init_15 rfl uX4 tyX4 tyX4_ok nmX4 fl_X4_15 (by decide) (by first | exact Or.inl rfl | exact Or.inr ⟨rfl, hini, rfl⟩) rfl (okq_of (by omega) (by first | omega | (simp [ins] <;> omega))) (okq_of (by omega) (by first | omega | (simp [ins] <;> omega))) rfl (by first | exact Or.inl ⟨_, rfl⟩ | exact Or.inr ⟨_, rfl⟩) rfl ?_
  exact z_vret F dX4_init_18 rfl (by decide) (by decide) hs1 rfl

set_option maxHeartbeats 4000000 in
set_option maxRecDepth 20000 in
theorem ci_X0 (l : Launch) (G : GS) (n : Nat → Nat) (im : Nat → Nat → Nat → Int) (r : Nat → Nat → Nat → Option (Nat × Nat)) (lm : Nat → Nat → Nat → Int) (h16 : 0 < n 16) (h17 : n 17 = 0) (h2 : 0 < n 2) : Ci l G yX0_init Y_X0_init 1 6 [vR 16 0, vR 2 0] (n) (im, r, lm) (ins (n) 17) (fun m' => m' = (im, up (up r 16 0 0 (some (17, 0))) 16 0 1 (some (2, 0)), lm)) := by
  refine ci_of (by decide) rfl rfl rfl (Nat.le_of_ble_eq_true rfl) ?_
  intro M ad hMl F hini
  subst hMl
  refine z_pad 0 ?_
  show Wg M G _ Y_X0_init _ _ 0 0 ad (n) 0 [some (vR 16 0), some (vR 2 0)] [] (im, r, lm)
  refine z_aload_n (t := 1) F dX0_init_0 rfl rfl rfl ?_
  refine z_objinit (t := 4) F dX0_init_1 ml_X0_3 (by decide) (by decide) rfl ?_
  refine z_aload_n (t := 5) F dX0_init_4 rfl rfl rfl ?_
  refine z_bipush (t := 7) F dX0_init_5 (by decide) rfl ?_
  refine z_newa (t := 9) (k := 17) (i := 0) (N := 6) F dX0_init_7 rfl (Or.inl ⟨rfl, rfl⟩) rfl (by omega) (by omega) (by omega) (by first | omega | (simp [ins] <;> omega)) (by first | (simp [ins, cap] <;> omega) | (simp [cap] <;> omega)) rfl (by simp [okS, okL, okv, okq, ins] <;> omega) (show okL _ [some (vR 16 0), some (vR 2 0)] from (by simp [okS, okL, okv, okq, ins] <;> omega)) ⟨by decide, by decide⟩ rfl (fun ad1 hs1 => ?_)
  refine z_putr3 (x := 0) (t := 12) F dX0_init_9 rfl uX0 tyX0 tyX0_ok nmX0 fl_X0_9 (by decide) (by first | exact Or.inl rfl | exact Or.inr ⟨rfl, hini, rfl⟩) rfl (okq_of (by omega) (by first | omega | (simp [ins] <;> omega))) (okq_of (by omega) (by first | omega | (simp [ins] <;> omega))) rfl (by first | exact Or.inl ⟨_, rfl⟩ | exact Or.inr ⟨_, rfl⟩) rfl ?_
  refine z_aload_n (t := 13) F dX0_init_12 rfl rfl rfl ?_
  refine z_aload_n (t := 14) F dX0_init_13 rfl rfl rfl ?_
  refine z_putr3 (x := 1) (t := 17) F dX0_init_14 rfl uX0 tyX0 tyX0_ok nmX0 fl_X0_15 (by decide) (by first | exact Or.inl rfl | exact Or.inr ⟨rfl, hini, rfl⟩) rfl (okq_of (by omega) (by first | omega | (simp [ins] <;> omega))) (okq_of (by omega) (by first | omega | (simp [ins] <;> omega))) rfl (by first | exact Or.inl ⟨_, rfl⟩ | exact Or.inr ⟨_, rfl⟩) rfl ?_
  exact z_vret F dX0_init_17 rfl (by decide) (by decide) hs1 rfl
