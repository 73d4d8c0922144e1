/-! the reference: floss, feed, force, told -/

set_option maxHeartbeats 4000000 in
theorem c_X9_floss (l : Launch) (G : GS) (im : IM) (bt rt : Nat) (lm : IM) (h : RC im) (p g : Int) (hp : ri p) (hg : ri g) : Cn l (XR G) yX9_floss Y_X9_floss [vR 30 0, vI p, vI g] (im, rs bt rt, lm) (pI fun x m' => ((0 ≤ p ∧ p < im 30 0 12) ∧ (0 ≤ g ∧ g ≤ 9) → x = im 36 0 (10 * p.toNat + g.toNat) ∧ m' = (up im 36 0 (10 * p.toNat + g.toNat) (-1), rs bt rt, lm)) ∧ (¬ ((0 ≤ p ∧ p < im 30 0 12) ∧ (0 ≤ g ∧ g ≤ 9)) → x = -2 ∧ m' = (im, rs bt rt, lm))) := by
  refine cn_of (by decide) (okR G) rfl (Nat.le_of_ble_eq_true rfl) ?_
  intro M ad hMl F
  subst hMl
  have hR := h.1
  have hX := h.2.1
  have h4 := h.2.2.1
  have h12 := h.2.2.2.1
  have h7 := h.2.2.2.2.1
  have h6 := hX.2.2.1
  have h3 := hX.2.2.2.1
  have p1 := hp.1
  have p2 := hp.2
  have g1 := hg.1
  have g2 := hg.2
  refine wp_pad 1 ?_
  show Wp M (XR G) ad Y_X9_floss (pI fun x m' => ((0 ≤ p ∧ p < im 30 0 12) ∧ (0 ≤ g ∧ g ≤ 9) → x = im 36 0 (10 * p.toNat + g.toNat) ∧ m' = (up im 36 0 (10 * p.toNat + g.toNat) (-1), rs bt rt, lm)) ∧ (¬ ((0 ≤ p ∧ p < im 30 0 12) ∧ (0 ≤ g ∧ g ≤ 9)) → x = -2 ∧ m' = (im, rs bt rt, lm))) 0 [some (vR 30 0), some (vI p), some (vI g), none] [] (im, rs bt rt, lm)
  refine q_aload_n (t := 1) F dX9_floss_0 rfl rfl rfl ?_
  refine q_iload_n (t := 2) F dX9_floss_1 rfl rfl rfl ?_
  refine wp_callV (t := 5) [_] F dX9_floss_2 k_X9_isOne v_X9_isOne ml_X9_101 rfl rfl rfl rfl (Nat.le_of_ble_eq_true rfl) (by decide) (m_30 (by omega)) (c_X9_isOne _ G im bt rt lm hR h12.1 h12.2 p (by constructor <;> omega)) rfl (kI ?_)
  rintro x2 m' ⟨hx2, rfl⟩
  have hx2 := if01 hx2
  refine q_if_eq (t := 8) (u := 15) F dX9_floss_5 (by first | exact hR _ _ _ | (constructor <;> omega)) (by decide) rfl (fun c5 => ?_) (fun c5 => ?_)
  · refine q_bipush (t := 17) F dX9_floss_15 (by decide) rfl ?_
    refine q_iret F dX9_floss_17 rfl ?_
    first
      | exact ⟨_, rfl, fun _ => ⟨rfl, rfl⟩, fun q => absurd (by omega) q⟩
      | exact ⟨_, rfl, fun q => absurd q (by omega), fun _ => ⟨rfl, rfl⟩⟩
  · refine q_iload_n (t := 9) F dX9_floss_8 rfl rfl rfl ?_
    refine wp_callS (t := 12) [_] F dX9_floss_9 k_X9_isGap st_X9_isGap ml_X9_138 rfl rfl (Nat.le_of_ble_eq_true rfl) (by decide) (c_X9_isGap _ G im bt rt lm g (by constructor <;> omega)) rfl (kI ?_)
    rintro x9 m' ⟨hx9, rfl⟩
    have hx9 := if01 hx9
    refine q_if_ne (t := 15) (u := 18) F dX9_floss_12 (by first | exact hR _ _ _ | (constructor <;> omega)) (by decide) rfl (fun c12 => ?_) (fun c12 => ?_)
    · refine q_aload_n (t := 19) F dX9_floss_18 rfl rfl rfl ?_
      refine g_X9_32 (t := 22) F dX9_floss_19 rfl rfl ?_
      refine q_bipush (t := 24) F dX9_floss_22 (by decide) rfl ?_
      refine q_iload_n (t := 25) F dX9_floss_24 rfl rfl rfl ?_
      refine q_imul (t := 26) F dX9_floss_25 rfl ?_
      refine q_iload_n (t := 27) F dX9_floss_26 rfl rfl rfl ?_
      refine q_iadd (t := 28) F dX9_floss_27 rfl ?_
      rw [show (10 : Int) * p + g = ((10 * p.toNat + g.toNat : Nat) : Int) by omega]
      first | refine ldN_36 (t := 29) F dX9_floss_28 (by omega) rfl ?_ | refine ld_36 (t := 29) F dX9_floss_28 (by omega) (by omega) rfl ?_
      try simp only [up_app, row_app, scr_app, cpy_app, Nat.reduceEqDiff, Int.reduceToNat, Int.toNat_natCast, and_true, true_and, and_false, false_and, and_self, reduceIte]
      refine q_istore_n (t := 30) F dX9_floss_29 rfl (by decide) rfl rfl ?_
      refine q_aload_n (t := 31) F dX9_floss_30 rfl rfl rfl ?_
      refine g_X9_32 (t := 34) F dX9_floss_31 rfl rfl ?_
      refine q_bipush (t := 36) F dX9_floss_34 (by decide) rfl ?_
      refine q_iload_n (t := 37) F dX9_floss_36 rfl rfl rfl ?_
      refine q_imul (t := 38) F dX9_floss_37 rfl ?_
      refine q_iload_n (t := 39) F dX9_floss_38 rfl rfl rfl ?_
      refine q_iadd (t := 40) F dX9_floss_39 rfl ?_
      rw [show (10 : Int) * p + g = ((10 * p.toNat + g.toNat : Nat) : Int) by omega]
      refine q_iconst (t := 41) F dX9_floss_40 rfl ?_
      first | refine stN_36 (t := 42) F dX9_floss_41 (by omega) rfl ?_ | refine st_36 (t := 42) F dX9_floss_41 (by omega) (by omega) rfl ?_
      refine q_iload_n (t := 43) F dX9_floss_42 rfl rfl rfl ?_
      refine q_iret F dX9_floss_43 rfl ?_
      first
        | exact ⟨_, rfl, fun _ => ⟨rfl, rfl⟩, fun q => absurd (by omega) q⟩
        | exact ⟨_, rfl, fun q => absurd q (by omega), fun _ => ⟨rfl, rfl⟩⟩
    · refine q_bipush (t := 17) F dX9_floss_15 (by decide) rfl ?_
      refine q_iret F dX9_floss_17 rfl ?_
      first
        | exact ⟨_, rfl, fun _ => ⟨rfl, rfl⟩, fun q => absurd (by omega) q⟩
        | exact ⟨_, rfl, fun q => absurd q (by omega), fun _ => ⟨rfl, rfl⟩⟩

set_option maxHeartbeats 4000000 in
theorem c_X9_feed (l : Launch) (G : GS) (im : IM) (bt rt : Nat) (lm : IM) (h : RC im) (c : Int) (hc : ri c) : Cn l (XR G) yX9_feed Y_X9_feed [vR 30 0, vI c] (im, rs bt rt, lm) (pI fun x m' => (¬ (0 ≤ c ∧ c ≤ 255) → x = -2 ∧ m' = (im, rs bt rt, lm)) ∧ ((0 ≤ c ∧ c ≤ 255) → im 30 0 6 = 160 → x = -4 ∧ m' = (im, rs bt rt, lm)) ∧ ((0 ≤ c ∧ c ≤ 255) → im 30 0 6 ≠ 160 → x = im 30 0 6 + 1 ∧ m' = (up (up im 33 0 (im 30 0 6).toNat c) 30 0 6 (im 30 0 6 + 1), rs bt rt, lm))) := by
  refine cn_of (by decide) (okR G) rfl (Nat.le_of_ble_eq_true rfl) ?_
  intro M ad hMl F
  subst hMl
  have hR := h.1
  have hX := h.2.1
  have h4 := h.2.2.1
  have h12 := h.2.2.2.1
  have h7 := h.2.2.2.2.1
  have h6 := hX.2.2.1
  have h3 := hX.2.2.2.1
  have c1 := hc.1
  have c2 := hc.2
  refine wp_pad 0 ?_
  show Wp M (XR G) ad Y_X9_feed (pI fun x m' => (¬ (0 ≤ c ∧ c ≤ 255) → x = -2 ∧ m' = (im, rs bt rt, lm)) ∧ ((0 ≤ c ∧ c ≤ 255) → im 30 0 6 = 160 → x = -4 ∧ m' = (im, rs bt rt, lm)) ∧ ((0 ≤ c ∧ c ≤ 255) → im 30 0 6 ≠ 160 → x = im 30 0 6 + 1 ∧ m' = (up (up im 33 0 (im 30 0 6).toNat c) 30 0 6 (im 30 0 6 + 1), rs bt rt, lm))) 0 [some (vR 30 0), some (vI c)] [] (im, rs bt rt, lm)
  refine q_iload_n (t := 1) F dX9_feed_0 rfl rfl rfl ?_
  refine q_i2l (t := 2) F dX9_feed_1 (by first | exact hR _ _ _ | (constructor <;> omega)) rfl ?_
  refine q_lconst (t := 3) (x := 0) F dX9_feed_2 (by decide) rfl ?_
  refine q_ldc2 (t := 6) (x := 255) F dX9_feed_3 kl_X9_144 (by decide) rfl ?_
  refine wp_callS (t := 9) [_, _, _] F dX9_feed_6 k_X9_in st_X9_in ml_X9_91 rfl rfl (Nat.le_of_ble_eq_true rfl) (by decide) (c_X9_in _ G _ _ _ _ _ _ _ (by constructor <;> omega) (by constructor <;> omega) (by constructor <;> omega)) rfl (kI ?_)
  rintro x6 m' ⟨hx6, rfl⟩
  have hx6 := if01 hx6
  refine q_if_ne (t := 12) (u := 15) F dX9_feed_9 (by first | exact hR _ _ _ | (constructor <;> omega)) (by decide) rfl (fun c9 => ?_) (fun c9 => ?_)
  · refine q_aload_n (t := 16) F dX9_feed_15 rfl rfl rfl ?_
    refine g_X9_146 (t := 19) F dX9_feed_16 rfl rfl ?_
    try simp only [up_app, row_app, scr_app, cpy_app, Nat.reduceEqDiff, Int.reduceToNat, Int.toNat_natCast, and_true, true_and, and_false, false_and, and_self, reduceIte]
    refine q_sipush (t := 22) F dX9_feed_19 (by decide) rfl ?_
    refine q_icmp_ne (t := 25) (u := 28) F dX9_feed_22 (by exact hR _ _ _) (by constructor <;> omega) (by decide) rfl (fun c22 => ?_) (fun c22 => ?_)
    · refine q_aload_n (t := 29) F dX9_feed_28 rfl rfl rfl ?_
      refine g_X9_20 (t := 32) F dX9_feed_29 rfl rfl ?_
      refine q_aload_n (t := 33) F dX9_feed_32 rfl rfl rfl ?_
      refine g_X9_146 (t := 36) F dX9_feed_33 rfl rfl ?_
      try simp only [up_app, row_app, scr_app, cpy_app, Nat.reduceEqDiff, Int.reduceToNat, Int.toNat_natCast, and_true, true_and, and_false, false_and, and_self, reduceIte]
      obtain ⟨t, ht⟩ : ∃ t : Nat, im 30 0 6 = t := ⟨(im 30 0 6).toNat, by omega⟩
      rw [ht]
      refine q_iload_n (t := 37) F dX9_feed_36 rfl rfl rfl ?_
      first | refine stN_33 (t := 38) F dX9_feed_37 (by omega) rfl ?_ | refine st_33 (t := 38) F dX9_feed_37 (by omega) (by omega) rfl ?_
      refine q_aload_n (t := 39) F dX9_feed_38 rfl rfl rfl ?_
      refine q_dupR (t := 40) F dX9_feed_39 rfl ?_
      refine g_X9_146 (t := 43) F dX9_feed_40 rfl rfl ?_
      try simp only [up_app, row_app, scr_app, cpy_app, Nat.reduceEqDiff, Int.reduceToNat, Int.toNat_natCast, and_true, true_and, and_false, false_and, and_self, reduceIte]
      refine q_iconst (t := 44) F dX9_feed_43 rfl ?_
      refine q_iadd (t := 45) F dX9_feed_44 rfl ?_
      refine p_X9_146 (t := 48) F dX9_feed_45 rfl rfl ?_
      refine q_aload_n (t := 49) F dX9_feed_48 rfl rfl rfl ?_
      refine g_X9_146 (t := 52) F dX9_feed_49 rfl rfl ?_
      try simp only [up_app, row_app, scr_app, cpy_app, Nat.reduceEqDiff, Int.reduceToNat, Int.toNat_natCast, and_true, true_and, and_false, false_and, and_self, reduceIte]
      refine q_iret F dX9_feed_52 rfl ?_
      first
        | exact ⟨_, rfl, fun _ => ⟨rfl, rfl⟩, fun q => absurd q (by omega), fun q => absurd q (by omega)⟩
        | exact ⟨_, rfl, fun q => absurd (by omega) q, fun _ _ => ⟨rfl, rfl⟩, fun _ q => absurd (by omega) q⟩
        | exact ⟨_, rfl, fun q => absurd (by omega) q, fun _ q => absurd q (by omega), fun _ _ => ⟨rfl, rfl⟩⟩
        | exact ⟨_, rfl, fun q => absurd (by omega) q, fun _ q => absurd q (by omega), fun _ _ => ⟨by rw [ht], by rw [ht]⟩⟩
    · refine q_bipush (t := 27) F dX9_feed_25 (by decide) rfl ?_
      refine q_iret F dX9_feed_27 rfl ?_
      first
        | exact ⟨_, rfl, fun _ => ⟨rfl, rfl⟩, fun q => absurd q (by omega), fun q => absurd q (by omega)⟩
        | exact ⟨_, rfl, fun q => absurd (by omega) q, fun _ _ => ⟨rfl, rfl⟩, fun _ q => absurd (by omega) q⟩
        | exact ⟨_, rfl, fun q => absurd (by omega) q, fun _ q => absurd q (by omega), fun _ _ => ⟨rfl, rfl⟩⟩
        | exact ⟨_, rfl, fun q => absurd (by omega) q, fun _ q => absurd q (by omega), fun _ _ => ⟨by rw [ht], by rw [ht]⟩⟩
  · refine q_bipush (t := 14) F dX9_feed_12 (by decide) rfl ?_
    refine q_iret F dX9_feed_14 rfl ?_
    first
      | exact ⟨_, rfl, fun _ => ⟨rfl, rfl⟩, fun q => absurd q (by omega), fun q => absurd q (by omega)⟩
      | exact ⟨_, rfl, fun q => absurd (by omega) q, fun _ _ => ⟨rfl, rfl⟩, fun _ q => absurd (by omega) q⟩
      | exact ⟨_, rfl, fun q => absurd (by omega) q, fun _ q => absurd q (by omega), fun _ _ => ⟨rfl, rfl⟩⟩
      | exact ⟨_, rfl, fun q => absurd (by omega) q, fun _ q => absurd q (by omega), fun _ _ => ⟨by rw [ht], by rw [ht]⟩⟩

set_option maxHeartbeats 4000000 in
theorem c_X9_force (l : Launch) (G : GS) (im : IM) (bt rt : Nat) (lm : IM) (h : RC im) (t : Int) (ht : ri t) : Cn l (XR G) yX9_force Y_X9_force [vR 30 0, vI t] (im, rs bt rt, lm) (pI fun x m' => ((0 ≤ t ∧ t < im 30 0 3) → x = im 30 0 4 ∧ m' = (up im 30 0 4 t, rs bt rt, lm)) ∧ (¬ (0 ≤ t ∧ t < im 30 0 3) → x = -2 ∧ m' = (im, rs bt rt, lm))) := by
  refine cn_of (by decide) (okR G) rfl (Nat.le_of_ble_eq_true rfl) ?_
  intro M ad hMl F
  subst hMl
  have hR := h.1
  have hX := h.2.1
  have h4 := h.2.2.1
  have h12 := h.2.2.2.1
  have h7 := h.2.2.2.2.1
  have h6 := hX.2.2.1
  have h3 := hX.2.2.2.1
  have t1 := ht.1
  have t2 := ht.2
  refine wp_pad 1 ?_
  show Wp M (XR G) ad Y_X9_force (pI fun x m' => ((0 ≤ t ∧ t < im 30 0 3) → x = im 30 0 4 ∧ m' = (up im 30 0 4 t, rs bt rt, lm)) ∧ (¬ (0 ≤ t ∧ t < im 30 0 3) → x = -2 ∧ m' = (im, rs bt rt, lm))) 0 [some (vR 30 0), some (vI t), none] [] (im, rs bt rt, lm)
  refine q_iload_n (t := 1) F dX9_force_0 rfl rfl rfl ?_
  refine q_i2l (t := 2) F dX9_force_1 (by first | exact hR _ _ _ | (constructor <;> omega)) rfl ?_
  refine q_lconst (t := 3) (x := 0) F dX9_force_2 (by decide) rfl ?_
  refine q_aload_n (t := 4) F dX9_force_3 rfl rfl rfl ?_
  refine g_X9_85 (t := 7) F dX9_force_4 rfl rfl ?_
  refine q_iconst (t := 8) F dX9_force_7 rfl ?_
  refine q_isub (t := 9) F dX9_force_8 rfl ?_
  refine q_i2l (t := 10) F dX9_force_9 (by constructor <;> omega) rfl ?_
  refine wp_callS (t := 13) [_, _, _] F dX9_force_10 k_X9_in st_X9_in ml_X9_91 rfl rfl (Nat.le_of_ble_eq_true rfl) (by decide) (c_X9_in _ G _ _ _ _ _ _ _ (by constructor <;> omega) (by constructor <;> omega) (by constructor <;> omega)) rfl (kI ?_)
  rintro x10 m' ⟨hx10, rfl⟩
  have hx10 := if01 hx10
  refine q_if_ne (t := 16) (u := 19) F dX9_force_13 (by first | exact hR _ _ _ | (constructor <;> omega)) (by decide) rfl (fun c13 => ?_) (fun c13 => ?_)
  · refine q_aload_n (t := 20) F dX9_force_19 rfl rfl rfl ?_
    refine g_X9_120 (t := 23) F dX9_force_20 rfl rfl ?_
    try simp only [up_app, row_app, scr_app, cpy_app, Nat.reduceEqDiff, Int.reduceToNat, Int.toNat_natCast, and_true, true_and, and_false, false_and, and_self, reduceIte]
    refine q_istore_n (t := 24) F dX9_force_23 rfl (by decide) rfl rfl ?_
    refine q_aload_n (t := 25) F dX9_force_24 rfl rfl rfl ?_
    refine q_iload_n (t := 26) F dX9_force_25 rfl rfl rfl ?_
    refine p_X9_120 (t := 29) F dX9_force_26 rfl rfl ?_
    refine q_iload_n (t := 30) F dX9_force_29 rfl rfl rfl ?_
    refine q_iret F dX9_force_30 rfl ?_
    first
      | exact ⟨_, rfl, fun _ => ⟨rfl, rfl⟩, fun q => absurd (by omega) q⟩
      | exact ⟨_, rfl, fun q => absurd q (by omega), fun _ => ⟨rfl, rfl⟩⟩
  · refine q_bipush (t := 18) F dX9_force_16 (by decide) rfl ?_
    refine q_iret F dX9_force_18 rfl ?_
    first
      | exact ⟨_, rfl, fun _ => ⟨rfl, rfl⟩, fun q => absurd (by omega) q⟩
      | exact ⟨_, rfl, fun q => absurd q (by omega), fun _ => ⟨rfl, rfl⟩⟩
