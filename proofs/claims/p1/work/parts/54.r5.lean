/-! a text of the empty tape -/
set_option maxHeartbeats 4000000 in
theorem f_X9_read (l : Launch) (G : GS) (im : IM) (bt rt : Nat) (lm : IM) (hR : RI im) (h1 : im 32 0 1 = 0) : Cn l (XR G) yX9_read Y_X9_read [vR 30 0, vI 1, vI 0] (im, rs bt rt, lm) (pI fun x m' => ∃ im', im' 30 0 28 = 1 ∧ im' 30 0 29 = 0 ∧ m' = (im', rs bt rt, lm)) := by
  refine cn_of (by decide) (okR G) rfl (Nat.le_of_ble_eq_true rfl) ?_
  intro M ad hMl F
  subst hMl
  refine wp_pad 3 ?_
  show Wp M (XR G) ad Y_X9_read (pI fun x m' => ∃ im', im' 30 0 28 = 1 ∧ im' 30 0 29 = 0 ∧ m' = (im', rs bt rt, lm)) 0 [some (vR 30 0), some (vI 1), some (vI 0), none, none, none] [] (im, rs bt rt, lm)
  refine q_aload_n (t := 1) F dX9_read_0 rfl rfl rfl ?_
  refine q_sipush (t := 4) F dX9_read_1 (by decide) rfl ?_
  refine q_iload_n (t := 5) F dX9_read_4 rfl rfl rfl ?_
  refine q_imul (t := 6) F dX9_read_5 rfl ?_
  refine p_X9_152 (t := 9) F dX9_read_6 rfl rfl ?_
  refine q_aload_n (t := 10) F dX9_read_9 rfl rfl rfl ?_
  refine q_aload_n (t := 11) F dX9_read_10 rfl rfl rfl ?_
  refine g_X9_17 (t := 14) F dX9_read_11 rfl rfl ?_
  refine q_iload_n (t := 15) F dX9_read_14 rfl rfl rfl ?_
  first | refine ldN_32 (t := 16) F dX9_read_15 (by omega) rfl ?_ | refine ld_32 (t := 16) F dX9_read_15 (by omega) (by omega) rfl ?_
  try simp only [up_app, row_app, scr_app, cpy_app, Nat.reduceEqDiff, Int.reduceToNat, Int.toNat_natCast, and_true, true_and, and_false, false_and, and_self, reduceIte]
  refine p_X9_149 (t := 19) F dX9_read_16 rfl rfl ?_
  refine q_aload_n (t := 20) F dX9_read_19 rfl rfl rfl ?_
  refine q_iconst (t := 21) F dX9_read_20 rfl ?_
  refine p_X9_155 (t := 24) F dX9_read_21 rfl rfl ?_
  refine q_aload_n (t := 25) F dX9_read_24 rfl rfl rfl ?_
  refine q_iconst (t := 26) F dX9_read_25 rfl ?_
  refine p_X9_190 (t := 29) F dX9_read_26 rfl rfl ?_
  refine q_aload_n (t := 30) F dX9_read_29 rfl rfl rfl ?_
  refine q_iconst (t := 31) F dX9_read_30 rfl ?_
  refine p_X9_179 (t := 34) F dX9_read_31 rfl (by omega) rfl ?_
  refine q_aload_n (t := 35) F dX9_read_34 rfl rfl rfl ?_
  refine wp_callV (t := 38) [] F dX9_read_35 k_X9_next v_X9_next ml_X9_196 rfl rfl rfl rfl (Nat.le_of_ble_eq_true rfl) (by decide) (m_30 (by omega)) (f_X9_next _ G _ bt rt lm (RI_up (RI_up (RI_up (RI_up (RI_up hR (by constructor <;> omega)) (by rw [h1]; constructor <;> omega)) (by constructor <;> omega)) (by constructor <;> omega)) (by constructor <;> omega)) (by simp only [up_app]; repeat (first | rw [if_neg (by omega)] | rw [if_pos (by omega)]); first | exact h1 | (show (up im 30 0 21 (160 * 1)) 32 0 1 = 0; rw [up_app, if_neg (by omega)]; exact h1)) (by simp only [up_app]; repeat (first | rfl | rw [if_neg (by omega)] | rw [if_pos (by omega)]))) rfl (kV ?_)
  rintro m' ⟨im3, hR3, g24, g25, gs, rfl⟩
  have g28 : im3 30 0 28 = 0 := by rw [gs 28 (by omega) (by omega), up_app, if_pos ⟨rfl, rfl, rfl⟩]
  refine q_aload_n (t := 39) F dX9_read_38 rfl rfl rfl ?_
  refine q_aload_n (t := 40) F dX9_read_39 rfl rfl rfl ?_
  refine q_bipush (t := 42) F dX9_read_40 (by decide) rfl ?_
  refine q_bipush (t := 44) F dX9_read_42 (by decide) rfl ?_
  refine q_bipush (t := 46) F dX9_read_44 (by decide) rfl ?_
  refine q_bipush (t := 48) F dX9_read_46 (by decide) rfl ?_
  refine q_bipush (t := 50) F dX9_read_48 (by decide) rfl ?_
  refine q_bipush (t := 52) F dX9_read_50 (by decide) rfl ?_
  refine q_iconst (t := 53) F dX9_read_52 rfl ?_
  refine q_iconst (t := 54) F dX9_read_53 rfl ?_
  refine wp_callV (t := 57) [_, _, _, _, _, _, _, _] F dX9_read_54 k_X9_isWord_ v_X9_isWord_ ml_X9_199 rfl rfl rfl rfl (Nat.le_of_ble_eq_true rfl) (by decide) (m_30 (by omega)) (f_X9_isWord _ G im3 bt rt lm hR3 g24 _ _ _ _ _ _ _ _) rfl (kI ?_)
  rintro x54 m' ⟨rfl, rfl⟩
  refine wp_callV (t := 60) [_] F dX9_read_57 k_X9_part v_X9_part ml_X9_343 rfl rfl rfl rfl (Nat.le_of_ble_eq_true rfl) (by decide) (m_30 (by omega)) (f_X9_part _ G im3 bt rt lm hR3 g28) rfl (kI ?_)
  rintro x57 m' ⟨rfl, rfl⟩
  have k28 : up (up im3 30 0 28 1) 30 0 29 (im3 30 0 25) 30 0 28 = 1 := by rw [up_app, if_neg (by omega), up_app, if_pos ⟨rfl, rfl, rfl⟩]
  have k29 : up (up im3 30 0 28 1) 30 0 29 (im3 30 0 25) 30 0 29 = 0 := by rw [up_app, if_pos ⟨rfl, rfl, rfl⟩]; exact g25
  generalize up (up im3 30 0 28 1) 30 0 29 (im3 30 0 25) = im4 at k28 k29 ⊢
  refine q_istore_n (t := 61) F dX9_read_60 rfl (by decide) rfl rfl ?_
  refine q_aload_n (t := 62) F dX9_read_61 rfl rfl rfl ?_
  refine g_X9_179 (t := 65) F dX9_read_62 rfl rfl ?_
  try simp only [up_app, row_app, scr_app, cpy_app, Nat.reduceEqDiff, Int.reduceToNat, Int.toNat_natCast, and_true, true_and, and_false, false_and, and_self, reduceIte]
  refine q_if_eq (t := 68) (u := 72) F dX9_read_65 (by rw [k28]; constructor <;> omega) (by decide) rfl (fun c65 => ?_) (fun c65 => ?_)
  · exfalso; omega
  · refine q_iconst (t := 69) F dX9_read_68 rfl ?_
    refine q_goto (t := 93) F dX9_read_69 (by decide) ?_
    refine q_istore (t := 95) F dX9_read_93 (by decide) rfl rfl ?_
    refine q_aload_n (t := 96) F dX9_read_95 rfl rfl rfl ?_
    refine g_X9_179 (t := 99) F dX9_read_96 rfl rfl ?_
    try simp only [up_app, row_app, scr_app, cpy_app, Nat.reduceEqDiff, Int.reduceToNat, Int.toNat_natCast, and_true, true_and, and_false, false_and, and_self, reduceIte]
    refine q_if_eq (t := 102) (u := 106) F dX9_read_99 (by rw [k28]; constructor <;> omega) (by decide) rfl (fun c99 => ?_) (fun c99 => ?_)
    · exfalso; omega
    · refine q_iconst (t := 103) F dX9_read_102 rfl ?_
      refine q_goto (t := 128) F dX9_read_103 (by decide) ?_
      refine q_istore (t := 130) F dX9_read_128 (by decide) rfl rfl ?_
      refine q_aload_n (t := 131) F dX9_read_130 rfl rfl rfl ?_
      refine g_X9_179 (t := 134) F dX9_read_131 rfl rfl ?_
      try simp only [up_app, row_app, scr_app, cpy_app, Nat.reduceEqDiff, Int.reduceToNat, Int.toNat_natCast, and_true, true_and, and_false, false_and, and_self, reduceIte]
      refine q_if_ne (t := 137) (u := 148) F dX9_read_134 (by rw [k28]; constructor <;> omega) (by decide) rfl (fun c134 => ?_) (fun c134 => ?_)
      · refine q_iload_n (t := 149) F dX9_read_148 rfl rfl rfl ?_
        refine q_if_ne (t := 152) (u := 156) F dX9_read_149 (by first | exact hR _ _ _ | (constructor <;> omega)) (by decide) rfl (fun c149 => ?_) (fun c149 => ?_)
        · exfalso; omega
        · refine q_iload_n (t := 153) F dX9_read_152 rfl rfl rfl ?_
          refine q_goto (t := 168) F dX9_read_153 (by decide) ?_
          refine q_iret F dX9_read_168 rfl ?_
          exact ⟨_, rfl, im4, k28, k29, rfl⟩
      · exfalso; omega

set_option maxHeartbeats 4000000 in
theorem f_X9_text (l : Launch) (G : GS) (im : IM) (bt rt : Nat) (lm : IM) (hF : FR im) : Cn l (XR G) yX9_text Y_X9_text [vR 30 0] (im, rs bt rt, lm) (pI fun x m' => x = -100 ∧ ∃ im' lm', m' = (im', rs bt rt, lm')) := by
  refine cn_of (by decide) (okR G) rfl (Nat.le_of_ble_eq_true rfl) ?_
  intro M ad hMl F
  subst hMl
  obtain ⟨hR, f3, f4, f6, f7, f8, f9, f12, f46, f47⟩ := hF
  refine wp_pad 1 ?_
  show Wp M (XR G) ad Y_X9_text (pI fun x m' => x = -100 ∧ ∃ im' lm', m' = (im', rs bt rt, lm')) 0 [some (vR 30 0), none] [] (im, rs bt rt, lm)
  refine q_aload_n (t := 1) F dX9_text_0 rfl rfl rfl ?_
  refine g_X9_85 (t := 4) F dX9_text_1 rfl rfl ?_
  refine q_bipush (t := 6) F dX9_text_4 (by decide) rfl ?_
  refine q_icmp_ne (t := 9) (u := 12) F dX9_text_6 (by first | exact hR _ _ _ | (constructor <;> omega)) (by first | exact hR _ _ _ | (constructor <;> omega)) (by decide) rfl (fun c6 => ?_) (fun c6 => ?_)
  · refine q_iconst (t := 13) F dX9_text_12 rfl ?_
    refine q_istore_n (t := 14) F dX9_text_13 rfl (by decide) rfl rfl ?_
    refine q_iload_n (t := 15) F dX9_text_14 rfl rfl rfl ?_
    refine q_aload_n (t := 16) F dX9_text_15 rfl rfl rfl ?_
    refine g_X9_146 (t := 19) F dX9_text_16 rfl rfl ?_
    refine q_icmp_ge (t := 22) (u := 49) F dX9_text_19 (by first | exact hR _ _ _ | (constructor <;> omega)) (by first | exact hR _ _ _ | (constructor <;> omega)) (by decide) rfl (fun c19 => ?_) (fun c19 => ?_)
    · refine q_aload_n (t := 50) F dX9_text_49 rfl rfl rfl ?_
      refine g_X9_17 (t := 53) F dX9_text_50 rfl rfl ?_
      refine q_aload_n (t := 54) F dX9_text_53 rfl rfl rfl ?_
      refine g_X9_85 (t := 57) F dX9_text_54 rfl rfl ?_
      refine q_aload_n (t := 58) F dX9_text_57 rfl rfl rfl ?_
      refine g_X9_146 (t := 61) F dX9_text_58 rfl rfl ?_
      rw [f3, f6]
      first | refine stN_32 (t := 62) F dX9_text_61 (by omega) rfl ?_ | refine st_32 (t := 62) F dX9_text_61 (by omega) (by omega) rfl ?_
      refine q_aload_n (t := 63) F dX9_text_62 rfl rfl rfl ?_
      refine q_iconst (t := 64) F dX9_text_63 rfl ?_
      refine p_X9_146 (t := 67) F dX9_text_64 rfl rfl ?_
      refine q_aload_n (t := 68) F dX9_text_67 rfl rfl rfl ?_
      refine q_aload_n (t := 69) F dX9_text_68 rfl rfl rfl ?_
      refine g_X9_85 (t := 72) F dX9_text_69 rfl rfl ?_
      try simp only [up_app, row_app, scr_app, cpy_app, Nat.reduceEqDiff, Int.reduceToNat, Int.toNat_natCast, and_true, true_and, and_false, false_and, and_self, reduceIte]
      refine q_iconst (t := 73) F dX9_text_72 rfl ?_
      rw [f3]
      refine wp_callV (t := 76) [_, _] F dX9_text_73 k_X9_read v_X9_read ml_X9_347 rfl rfl rfl rfl (Nat.le_of_ble_eq_true rfl) (by decide) (m_30 (by omega)) (f_X9_read _ G _ bt rt lm (RI_up (RI_up hR (by constructor <;> omega)) (by constructor <;> omega)) (by rw [up_app, if_neg (by omega)]; exact if_pos ⟨rfl, rfl, rfl⟩)) rfl (kI ?_)
      rintro x73 m' ⟨im4, k28, k29, rfl⟩
      refine q_istore_n (t := 77) F dX9_text_76 rfl (by decide) rfl rfl ?_
      refine q_aload_n (t := 78) F dX9_text_77 rfl rfl rfl ?_
      refine g_X9_179 (t := 81) F dX9_text_78 rfl rfl ?_
      try simp only [up_app, row_app, scr_app, cpy_app, Nat.reduceEqDiff, Int.reduceToNat, Int.toNat_natCast, and_true, true_and, and_false, false_and, and_self, reduceIte]
      refine q_if_eq (t := 84) (u := 92) F dX9_text_81 (by rw [k28]; constructor <;> omega) (by decide) rfl (fun c81 => ?_) (fun c81 => ?_)
      · exfalso; omega
      · refine q_bipush (t := 86) F dX9_text_84 (by decide) rfl ?_
        refine q_aload_n (t := 87) F dX9_text_86 rfl rfl rfl ?_
        refine g_X9_183 (t := 90) F dX9_text_87 rfl rfl ?_
        try simp only [up_app, row_app, scr_app, cpy_app, Nat.reduceEqDiff, Int.reduceToNat, Int.toNat_natCast, and_true, true_and, and_false, false_and, and_self, reduceIte]
        refine q_isub (t := 91) F dX9_text_90 rfl ?_
        refine q_iret F dX9_text_91 rfl ?_
        exact ⟨_, rfl, by rw [k29]; rfl, _, _, rfl⟩
    · exfalso; omega
  · exfalso; omega
