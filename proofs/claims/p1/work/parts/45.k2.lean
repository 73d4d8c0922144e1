set_option maxHeartbeats 4000000 in
set_option maxRecDepth 20000 in
theorem ci_X7 (l : Launch) (G : GS) (n : Nat → Nat) (im : Nat → Nat → Nat → Int) (r : Nat → Nat → Nat → Option (Nat × Nat)) (lm : Nat → Nat → Nat → Int) (w : Nat) (h18 : w < n 18) (h19 : n 19 = w) (h20 : n 20 = w) (h21 : n 21 = 5 * w) (h22 : n 22 = 5 * w) (h23 : n 23 = 5 * w) (h1 : 0 < n 1) (hw : w < 3) : Ci l G yX7_init Y_X7_init 17 131 [vR 18 w, vR 1 0] (n) (im, r, lm) (ins (ins (ins (ins (ins (ins (ins (ins (ins (ins (ins (ins (ins (ins (ins (ins (ins (n) 19) 20) 21) 22) 23) 21) 22) 23) 21) 22) 23) 21) 22) 23) 21) 22) 23) (fun m' => m' = (up (im) 18 w 5 (1024), up (up (up (up (up (up (up (up (up (up (up (up (up (up (up (up (up (up (r) 18 w 1 (some (19, w))) 18 w 2 (some (20, w))) 18 w 0 (some (1, 0))) 21 (5 * w + 0) 2 (some (22, 5 * w + 0))) 21 (5 * w + 0) 3 (some (23, 5 * w + 0))) 19 w 0 (some (21, 5 * w + 0))) 21 (5 * w + 1) 2 (some (22, 5 * w + 1))) 21 (5 * w + 1) 3 (some (23, 5 * w + 1))) 19 w 1 (some (21, 5 * w + 1))) 21 (5 * w + 2) 2 (some (22, 5 * w + 2))) 21 (5 * w + 2) 3 (some (23, 5 * w + 2))) 19 w 2 (some (21, 5 * w + 2))) 21 (5 * w + 3) 2 (some (22, 5 * w + 3))) 21 (5 * w + 3) 3 (some (23, 5 * w + 3))) 19 w 3 (some (21, 5 * w + 3))) 21 (5 * w + 4) 2 (some (22, 5 * w + 4))) 21 (5 * w + 4) 3 (some (23, 5 * w + 4))) 19 w 4 (some (21, 5 * w + 4)), lm)) := by
  refine ci_of (by decide) rfl rfl rfl (Nat.le_of_ble_eq_true rfl) ?_
  intro M ad hMl F hini
  subst hMl
  refine z_pad 1 ?_
  show Wg M G _ Y_X7_init _ _ 0 0 ad (n) 0 [some (vR 18 w), some (vR 1 0), none] [] (im, r, lm)
  refine z_aload_n (t := 1) F dX7_init_0 rfl rfl rfl ?_
  refine z_objinit (t := 4) F dX7_init_1 ml_X7_3 (by decide) (by decide) rfl ?_
  refine z_aload_n (t := 5) F dX7_init_4 rfl rfl rfl ?_
  refine z_iconst (t := 6) F dX7_init_5 rfl ?_
  refine z_newq (t := 9) (k := 19) (i := w) (N := 5) F dX7_init_6 rfl (by omega) (by omega) rfl cl_X7_9 F.2.2.2.2.2.2.2.1.2.2 rfl (by omega) (by omega) (by omega) (by first | omega | (simp [ins] <;> omega)) (by first | (simp [ins, cap] <;> omega) | (simp [cap] <;> omega)) rfl (by simp [okS, okL, okv, okq, ins] <;> omega) (show okL _ [some (vR 18 w), some (vR 1 0), none] from (by simp [okS, okL, okv, okq, ins] <;> omega)) ⟨by decide, by decide⟩ rfl (fun ad1 hs1 => ?_)
  refine z_putr3 (x := 1) (t := 12) F dX7_init_9 rfl uX7 tyX7 tyX7_ok nmX7 fl_X7_11 (by decide) (by first | exact Or.inl rfl | exact Or.inr ⟨rfl, hini, rfl⟩) rfl (okq_of (by omega) (by first | omega | (simp [ins] <;> omega))) (okq_of (by omega) (by first | omega | (simp [ins] <;> omega))) rfl (by first | exact Or.inl ⟨_, rfl⟩ | exact Or.inr ⟨_, rfl⟩) rfl ?_
  refine z_aload_n (t := 13) F dX7_init_12 rfl rfl rfl ?_
  refine z_bipush (t := 15) F dX7_init_13 (by decide) rfl ?_
  refine z_newa (t := 17) (k := 20) (i := w) (N := 6) F dX7_init_15 rfl (Or.inl ⟨rfl, rfl⟩) rfl (by omega) (by omega) (by omega) (by first | omega | (simp [ins] <;> omega)) (by first | (simp [ins, cap] <;> omega) | (simp [cap] <;> omega)) rfl (by simp [okS, okL, okv, okq, ins] <;> omega) (show okL _ [some (vR 18 w), some (vR 1 0), none] from (by simp [okS, okL, okv, okq, ins] <;> omega)) ⟨by decide, by decide⟩ rfl (fun ad2 hs2 => ?_)
  refine z_putr3 (x := 2) (t := 20) F dX7_init_17 rfl uX7 tyX7 tyX7_ok nmX7 fl_X7_17 (by decide) (by first | exact Or.inl rfl | exact Or.inr ⟨rfl, hini, rfl⟩) rfl (okq_of (by omega) (by first | omega | (simp [ins] <;> omega))) (okq_of (by omega) (by first | omega | (simp [ins] <;> omega))) rfl (by first | exact Or.inl ⟨_, rfl⟩ | exact Or.inr ⟨_, rfl⟩) rfl ?_
  refine z_aload_n (t := 21) F dX7_init_20 rfl rfl rfl ?_
  refine z_sipush (t := 24) F dX7_init_21 (by decide) rfl ?_
  refine z_puti3 (x := 5) (t := 27) F dX7_init_24 rfl uX7 tyX7 tyX7_ok nmX7 fl_X7_21 (by decide) rfl rfl (okq_of (by omega) (by first | omega | (simp [ins] <;> omega))) rfl rfl rfl ?_
  refine z_aload_n (t := 28) F dX7_init_27 rfl rfl rfl ?_
  refine z_aload_n (t := 29) F dX7_init_28 rfl rfl rfl ?_
  refine z_putr3 (x := 0) (t := 32) F dX7_init_29 rfl uX7 tyX7 tyX7_ok nmX7 fl_X7_25 (by decide) (by first | exact Or.inl rfl | exact Or.inr ⟨rfl, hini, rfl⟩) rfl (okq_of (by omega) (by first | omega | (simp [ins] <;> omega))) (okq_of (by omega) (by first | omega | (simp [ins] <;> omega))) rfl (by first | exact Or.inl ⟨_, rfl⟩ | exact Or.inr ⟨_, rfl⟩) rfl ?_
  refine z_iconst (t := 33) F dX7_init_32 rfl ?_
  refine z_istore_n (j := 2) (t := 34) F dX7_init_33 rfl (by decide) rfl rfl ?_
  refine z_iload_n (t := 35) F dX7_init_34 rfl rfl rfl ?_
  refine z_iconst (t := 36) F dX7_init_35 rfl ?_
  refine z_icmp_ge (u := 58) (t := 39) F dX7_init_36 (by constructor <;> omega) (by constructor <;> omega) (by decide) rfl (fun c0 => absurd c0 (by decide)) (fun _ => ?_)
  refine z_aload_n (t := 40) F dX7_init_39 rfl rfl rfl ?_
  refine z_getr3 (x := 1) (k' := 19) (i' := w) (t := 43) F dX7_init_40 rfl uX7 fl_X7_11 (by decide) rfl (okq_of (by omega) (by first | omega | (simp [ins] <;> omega))) rfl (by simp [up]) rfl ?_
  refine z_iload_n (t := 44) F dX7_init_43 rfl rfl rfl ?_
  refine z_new (t := 47) (k := 21) (i := 5 * w + 0) F dX7_init_44 rfl uX3 tyX3 tyX3_ok cl_X7_9 is_X3 in_X3 rfl (by omega) (by first | omega | (simp [ins] <;> omega)) (by first | (simp [ins, cap] <;> omega) | (simp [cap] <;> omega)) df_X3 rfl (by simp [okS, okL, okv, okq, ins] <;> omega) (show okL _ [some (vR 18 w), some (vR 1 0), some (vI 0)] from (by simp [okS, okL, okv, okq, ins] <;> omega)) ⟨by decide, by decide⟩ rfl (fun ad3 hs3 => ?_)
  refine z_dupR (t := 48) F dX7_init_47 rfl ?_
  refine z_callI (t := 51) [] F dX7_init_48 k_X3_init rfl im_X3_init rfl (Or.inr ⟨_, mn_X7_29⟩) rfl rfl (Nat.le_of_ble_eq_true rfl) (by decide) (by decide) ⟨by decide, by decide⟩ (by simp [okS, okL, okv, okq, ins] <;> omega) (show okL _ [some (vR 18 w), some (vR 1 0), some (vI 0)] from (by simp [okS, okL, okv, okq, ins] <;> omega)) (ci_X3 _ G _ _ _ _ (5 * w + 0) (by first | omega | (simp [ins] <;> omega)) (by first | omega | (simp [ins] <;> omega)) (by first | omega | (simp [ins] <;> omega)) (by first | omega | (simp [ins] <;> omega))) rfl (fun ad4 m4 hs4 hm4 => ?_)
  subst hm4
  refine z_aast3 (x := 0) (t := 52) F dX7_init_51 rfl (by decide) (by decide) rfl (by decide) (okq_of (by omega) (by first | omega | (simp [ins] <;> omega))) (okq_of (by omega) (by first | omega | (simp [ins] <;> omega))) rfl rfl (by decide) (by decide) rfl ?_
  refine z_iinc2 (j := 2) (z := 1) (t := 55) F dX7_init_52 rfl (by decide) rfl (by decide) rfl ?_
  refine z_goto (t := 34) F dX7_init_55 (by decide) ?_
  refine z_iload_n (t := 35) F dX7_init_34 rfl rfl rfl ?_
  refine z_iconst (t := 36) F dX7_init_35 rfl ?_
  refine z_icmp_ge (u := 58) (t := 39) F dX7_init_36 (by constructor <;> omega) (by constructor <;> omega) (by decide) rfl (fun c0 => absurd c0 (by decide)) (fun _ => ?_)
  refine z_aload_n (t := 40) F dX7_init_39 rfl rfl rfl ?_
  refine z_getr3 (x := 1) (k' := 19) (i' := w) (t := 43) F dX7_init_40 rfl uX7 fl_X7_11 (by decide) rfl (okq_of (by omega) (by first | omega | (simp [ins] <;> omega))) rfl (by simp [up]) rfl ?_
  refine z_iload_n (t := 44) F dX7_init_43 rfl rfl rfl ?_
  refine z_new (t := 47) (k := 21) (i := 5 * w + 1) F dX7_init_44 rfl uX3 tyX3 tyX3_ok cl_X7_9 is_X3 in_X3 rfl (by omega) (by first | omega | (simp [ins] <;> omega)) (by first | (simp [ins, cap] <;> omega) | (simp [cap] <;> omega)) df_X3 rfl (by simp [okS, okL, okv, okq, ins] <;> omega) (show okL _ [some (vR 18 w), some (vR 1 0), some (vI 1)] from (by simp [okS, okL, okv, okq, ins] <;> omega)) ⟨by decide, by decide⟩ rfl (fun ad5 hs5 => ?_)
  refine z_dupR (t := 48) F dX7_init_47 rfl ?_
  refine z_callI (t := 51) [] F dX7_init_48 k_X3_init rfl im_X3_init rfl (Or.inr ⟨_, mn_X7_29⟩) rfl rfl (Nat.le_of_ble_eq_true rfl) (by decide) (by decide) ⟨by decide, by decide⟩ (by simp [okS, okL, okv, okq, ins] <;> omega) (show okL _ [some (vR 18 w), some (vR 1 0), some (vI 1)] from (by simp [okS, okL, okv, okq, ins] <;> omega)) (ci_X3 _ G _ _ _ _ (5 * w + 1) (by first | omega | (simp [ins] <;> omega)) (by first | omega | (simp [ins] <;> omega)) (by first | omega | (simp [ins] <;> omega)) (by first | omega | (simp [ins] <;> omega))) rfl (fun ad6 m6 hs6 hm6 => ?_)
  subst hm6
  refine z_aast3 (x := 1) (t := 52) F dX7_init_51 rfl (by decide) (by decide) rfl (by decide) (okq_of (by omega) (by first | omega | (simp [ins] <;> omega))) (okq_of (by omega) (by first | omega | (simp [ins] <;> omega))) rfl rfl (by decide) (by decide) rfl ?_
  refine z_iinc2 (j := 2) (z := 2) (t := 55) F dX7_init_52 rfl (by decide) rfl (by decide) rfl ?_
  refine z_goto (t := 34) F dX7_init_55 (by decide) ?_
  refine z_iload_n (t := 35) F dX7_init_34 rfl rfl rfl ?_
  refine z_iconst (t := 36) F dX7_init_35 rfl ?_
  refine z_icmp_ge (u := 58) (t := 39) F dX7_init_36 (by constructor <;> omega) (by constructor <;> omega) (by decide) rfl (fun c0 => absurd c0 (by decide)) (fun _ => ?_)
  refine z_aload_n (t := 40) F dX7_init_39 rfl rfl rfl ?_
  refine z_getr3 (x := 1) (k' := 19) (i' := w) (t := 43) F dX7_init_40 rfl uX7 fl_X7_11 (by decide) rfl (okq_of (by omega) (by first | omega | (simp [ins] <;> omega))) rfl (by simp [up]) rfl ?_
  refine z_iload_n (t := 44) F dX7_init_43 rfl rfl rfl ?_
  refine z_new (t := 47) (k := 21) (i := 5 * w + 2) F dX7_init_44 rfl uX3 tyX3 tyX3_ok cl_X7_9 is_X3 in_X3 rfl (by omega) (by first | omega | (simp [ins] <;> omega)) (by first | (simp [ins, cap] <;> omega) | (simp [cap] <;> omega)) df_X3 rfl (by simp [okS, okL, okv, okq, ins] <;> omega) (show okL _ [some (vR 18 w), some (vR 1 0), some (vI 2)] from (by simp [okS, okL, okv, okq, ins] <;> omega)) ⟨by decide, by decide⟩ rfl (fun ad7 hs7 => ?_)
  refine z_dupR (t := 48) F dX7_init_47 rfl ?_
  refine z_callI (t := 51) [] F dX7_init_48 k_X3_init rfl im_X3_init rfl (Or.inr ⟨_, mn_X7_29⟩) rfl rfl (Nat.le_of_ble_eq_true rfl) (by decide) (by decide) ⟨by decide, by decide⟩ (by simp [okS, okL, okv, okq, ins] <;> omega) (show okL _ [some (vR 18 w), some (vR 1 0), some (vI 2)] from (by simp [okS, okL, okv, okq, ins] <;> omega)) (ci_X3 _ G _ _ _ _ (5 * w + 2) (by first | omega | (simp [ins] <;> omega)) (by first | omega | (simp [ins] <;> omega)) (by first | omega | (simp [ins] <;> omega)) (by first | omega | (simp [ins] <;> omega))) rfl (fun ad8 m8 hs8 hm8 => ?_)
  subst hm8
  refine z_aast3 (x := 2) (t := 52) F dX7_init_51 rfl (by decide) (by decide) rfl (by decide) (okq_of (by omega) (by first | omega | (simp [ins] <;> omega))) (okq_of (by omega) (by first | omega | (simp [ins] <;> omega))) rfl rfl (by decide) (by decide) rfl ?_
  refine z_iinc2 (j := 2) (z := 3) (t := 55) F dX7_init_52 rfl (by decide) rfl (by decide) rfl ?_
  refine z_goto (t := 34) F dX7_init_55 (by decide) ?_
  refine z_iload_n (t := 35) F dX7_init_34 rfl rfl rfl ?_
  refine z_iconst (t := 36) F dX7_init_35 rfl ?_
  refine z_icmp_ge (u := 58) (t := 39) F dX7_init_36 (by constructor <;> omega) (by constructor <;> omega) (by decide) rfl (fun c0 => absurd c0 (by decide)) (fun _ => ?_)
  refine z_aload_n (t := 40) F dX7_init_39 rfl rfl rfl ?_
  refine z_getr3 (x := 1) (k' := 19) (i' := w) (t := 43) F dX7_init_40 rfl uX7 fl_X7_11 (by decide) rfl (okq_of (by omega) (by first | omega | (simp [ins] <;> omega))) rfl (by simp [up]) rfl ?_
  refine z_iload_n (t := 44) F dX7_init_43 rfl rfl rfl ?_
  refine z_new (t := 47) (k := 21) (i := 5 * w + 3) F dX7_init_44 rfl uX3 tyX3 tyX3_ok cl_X7_9 is_X3 in_X3 rfl (by omega) (by first | omega | (simp [ins] <;> omega)) (by first | (simp [ins, cap] <;> omega) | (simp [cap] <;> omega)) df_X3 rfl (by simp [okS, okL, okv, okq, ins] <;> omega) (show okL _ [some (vR 18 w), some (vR 1 0), some (vI 3)] from (by simp [okS, okL, okv, okq, ins] <;> omega)) ⟨by decide, by decide⟩ rfl (fun ad9 hs9 => ?_)
  refine z_dupR (t := 48) F dX7_init_47 rfl ?_
  refine z_callI (t := 51) [] F dX7_init_48 k_X3_init rfl im_X3_init rfl (Or.inr ⟨_, mn_X7_29⟩) rfl rfl (Nat.le_of_ble_eq_true rfl) (by decide) (by decide) ⟨by decide, by decide⟩ (by simp [okS, okL, okv, okq, ins] <;> omega) (show okL _ [some (vR 18 w), some (vR 1 0), some (vI 3)] from (by simp [okS, okL, okv, okq, ins] <;> omega)) (ci_X3 _ G _ _ _ _ (5 * w + 3) (by first | omega | (simp [ins] <;> omega)) (by first | omega | (simp [ins] <;> omega)) (by first | omega | (simp [ins] <;> omega)) (by first | omega | (simp [ins] <;> omega))) rfl (fun ad10 m10 hs10 hm10 => ?_)
  subst hm10
  refine z_aast3 (x := 3) (t := 52) F dX7_init_51 rfl (by decide) (by decide) rfl (by decide) (okq_of (by omega) (by first | omega | (simp [ins] <;> omega))) (okq_of (by omega) (by first | omega | (simp [ins] <;> omega))) rfl rfl (by decide) (by decide) rfl ?_
  refine z_iinc2 (j := 2) (z := 4) (t := 55) F dX7_init_52 rfl (by decide) rfl (by decide) rfl ?_
  refine z_goto (t := 34) F dX7_init_55 (by decide) ?_
  refine z_iload_n (t := 35) F dX7_init_34 rfl rfl rfl ?_
  refine z_iconst (t := 36) F dX7_init_35 rfl ?_
  refine z_icmp_ge (u := 58) (t := 39) F dX7_init_36 (by constructor <;> omega) (by constructor <;> omega) (by decide) rfl (fun c0 => absurd c0 (by decide)) (fun _ => ?_)
  refine z_aload_n (t := 40) F dX7_init_39 rfl rfl rfl ?_
  refine z_getr3 (x := 1) (k' := 19) (i' := w) (t := 43) F dX7_init_40 rfl uX7 fl_X7_11 (by decide) rfl (okq_of (by omega) (by first | omega | (simp [ins] <;> omega))) rfl (by simp [up]) rfl ?_
  refine z_iload_n (t := 44) F dX7_init_43 rfl rfl rfl ?_
  refine z_new (t := 47) (k := 21) (i := 5 * w + 4) F dX7_init_44 rfl uX3 tyX3 tyX3_ok cl_X7_9 is_X3 in_X3 rfl (by omega) (by first | omega | (simp [ins] <;> omega)) (by first | (simp [ins, cap] <;> omega) | (simp [cap] <;> omega)) df_X3 rfl (by simp [okS, okL, okv, okq, ins] <;> omega) (show okL _ [some (vR 18 w), some (vR 1 0), some (vI 4)] from (by simp [okS, okL, okv, okq, ins] <;> omega)) ⟨by decide, by decide⟩ rfl (fun ad11 hs11 => ?_)
  refine z_dupR (t := 48) F dX7_init_47 rfl ?_
  refine z_callI (t := 51) [] F dX7_init_48 k_X3_init rfl im_X3_init rfl (Or.inr ⟨_, mn_X7_29⟩) rfl rfl (Nat.le_of_ble_eq_true rfl) (by decide) (by decide) ⟨by decide, by decide⟩ (by simp [okS, okL, okv, okq, ins] <;> omega) (show okL _ [some (vR 18 w), some (vR 1 0), some (vI 4)] from (by simp [okS, okL, okv, okq, ins] <;> omega)) (ci_X3 _ G _ _ _ _ (5 * w + 4) (by first | omega | (simp [ins] <;> omega)) (by first | omega | (simp [ins] <;> omega)) (by first | omega | (simp [ins] <;> omega)) (by first | omega | (simp [ins] <;> omega))) rfl (fun ad12 m12 hs12 hm12 => ?_)
  subst hm12
  refine z_aast3 (x := 4) (t := 52) F dX7_init_51 rfl (by decide) (by decide) rfl (by decide) (okq_of (by omega) (by first | omega | (simp [ins] <;> omega))) (okq_of (by omega) (by first | omega | (simp [ins] <;> omega))) rfl rfl (by decide) (by decide) rfl ?_
  refine z_iinc2 (j := 2) (z := 5) (t := 55) F dX7_init_52 rfl (by decide) rfl (by decide) rfl ?_
  refine z_goto (t := 34) F dX7_init_55 (by decide) ?_
  refine z_iload_n (t := 35) F dX7_init_34 rfl rfl rfl ?_
  refine z_iconst (t := 36) F dX7_init_35 rfl ?_
  refine z_icmp_ge (u := 58) (t := 39) F dX7_init_36 (by constructor <;> omega) (by constructor <;> omega) (by decide) rfl (fun _ => ?_) (fun c0 => absurd c0 (by decide))
  exact z_vret F dX7_init_58 rfl (by decide) (by decide) (sam_trans (sam_trans (sam_trans (sam_trans (sam_trans (sam_trans (sam_trans (sam_trans (sam_trans (sam_trans (sam_trans hs1 hs2 (fun q hq => by first | exact okq_gl (by decide +kernel) hq | (repeat (first | exact hq | apply ins_ok)))) hs3 (fun q hq => by first | exact okq_gl (by decide +kernel) hq | (repeat (first | exact hq | apply ins_ok)))) hs4 (fun q hq => by first | exact okq_gl (by decide +kernel) hq | (repeat (first | exact hq | apply ins_ok)))) hs5 (fun q hq => by first | exact okq_gl (by decide +kernel) hq | (repeat (first | exact hq | apply ins_ok)))) hs6 (fun q hq => by first | exact okq_gl (by decide +kernel) hq | (repeat (first | exact hq | apply ins_ok)))) hs7 (fun q hq => by first | exact okq_gl (by decide +kernel) hq | (repeat (first | exact hq | apply ins_ok)))) hs8 (fun q hq => by first | exact okq_gl (by decide +kernel) hq | (repeat (first | exact hq | apply ins_ok)))) hs9 (fun q hq => by first | exact okq_gl (by decide +kernel) hq | (repeat (first | exact hq | apply ins_ok)))) hs10 (fun q hq => by first | exact okq_gl (by decide +kernel) hq | (repeat (first | exact hq | apply ins_ok)))) hs11 (fun q hq => by first | exact okq_gl (by decide +kernel) hq | (repeat (first | exact hq | apply ins_ok)))) hs12 (fun q hq => by first | exact okq_gl (by decide +kernel) hq | (repeat (first | exact hq | apply ins_ok)))) rfl
