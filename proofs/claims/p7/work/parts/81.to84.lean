section
/-! the reference: floss, feed, force, told -/

set_option maxHeartbeats 4000000 in
theorem c_X9_floss (l : Launch) (G : GS) (im : IM) (bt rt : Nat) (lm : IM) (h : RC im) (p g : Int) (hp : ri p) (hg : ri g) : Cn l (XR G) yX9_floss Y_X9_floss [vR 30 0, vI p, vI g] (im, rs bt rt, lm) (pI fun x m' => ((0 ≤ p ∧ p < im 30 0 12) ∧ (0 ≤ g ∧ g ≤ 9) → x = im 36 0 (10 * p.toNat + g.toNat) ∧ m' = (up im 36 0 (10 * p.toNat + g.toNat) (-1), rs bt rt, lm)) ∧ (¬ ((0 ≤ p ∧ p < im 30 0 12) ∧ (0 ≤ g ∧ g ≤ 9)) → x = -2 ∧ m' = (im, rs bt rt, lm))) := by
  refine cn_of (by decide) (okR G) rfl (Nat.le_of_ble_eq_true rfl) ?_
  intro M ad hMl F
  subst hMl
  have hR := h.1
  have hX := h.2.1
  have h4 := h.2.2.1
  have h12 := h.2.2.2.1
  have h7 := h.2.2.2.2.1
  have h6 := hX.2.2.1
  have h3 := hX.2.2.2.1
  have p1 := hp.1
  have p2 := hp.2
  have g1 := hg.1
  have g2 := hg.2
  refine wp_pad 1 ?_
  show Wp M (XR G) ad Y_X9_floss (pI fun x m' => ((0 ≤ p ∧ p < im 30 0 12) ∧ (0 ≤ g ∧ g ≤ 9) → x = im 36 0 (10 * p.toNat + g.toNat) ∧ m' = (up im 36 0 (10 * p.toNat + g.toNat) (-1), rs bt rt, lm)) ∧ (¬ ((0 ≤ p ∧ p < im 30 0 12) ∧ (0 ≤ g ∧ g ≤ 9)) → x = -2 ∧ m' = (im, rs bt rt, lm))) 0 [some (vR 30 0), some (vI p), some (vI g), none] [] (im, rs bt rt, lm)
  refine q_aload_n (t := 1) F dX9_floss_0 rfl rfl rfl ?_
  refine q_iload_n (t := 2) F dX9_floss_1 rfl rfl rfl ?_
  refine wp_callV (t := 5) [_] F dX9_floss_2 k_X9_isOne v_X9_isOne ml_X9_101 rfl rfl rfl rfl (Nat.le_of_ble_eq_true rfl) (by decide) (m_30 (by omega)) (c_X9_isOne _ G im bt rt lm hR h12.1 h12.2 p (by constructor <;> omega)) rfl (kI ?_)
  rintro x2 m' ⟨hx2, rfl⟩
  have hx2 := if01 hx2
  refine q_if_eq (t := 8) (u := 15) F dX9_floss_5 (by first | exact hR _ _ _ | (constructor <;> omega)) (by decide) rfl (fun c5 => ?_) (fun c5 => ?_)
  · refine q_bipush (t := 17) F dX9_floss_15 (by decide) rfl ?_
    refine q_iret F dX9_floss_17 rfl ?_
    first
      | exact ⟨_, rfl, fun _ => ⟨rfl, rfl⟩, fun q => absurd (by omega) q⟩
      | exact ⟨_, rfl, fun q => absurd q (by omega), fun _ => ⟨rfl, rfl⟩⟩
  · refine q_iload_n (t := 9) F dX9_floss_8 rfl rfl rfl ?_
    refine wp_callS (t := 12) [_] F dX9_floss_9 k_X9_isGap st_X9_isGap ml_X9_138 rfl rfl (Nat.le_of_ble_eq_true rfl) (by decide) (c_X9_isGap _ G im bt rt lm g (by constructor <;> omega)) rfl (kI ?_)
    rintro x9 m' ⟨hx9, rfl⟩
    have hx9 := if01 hx9
    refine q_if_ne (t := 15) (u := 18) F dX9_floss_12 (by first | exact hR _ _ _ | (constructor <;> omega)) (by decide) rfl (fun c12 => ?_) (fun c12 => ?_)
    · refine q_aload_n (t := 19) F dX9_floss_18 rfl rfl rfl ?_
      refine g_X9_32 (t := 22) F dX9_floss_19 rfl rfl ?_
      refine q_bipush (t := 24) F dX9_floss_22 (by decide) rfl ?_
      refine q_iload_n (t := 25) F dX9_floss_24 rfl rfl rfl ?_
      refine q_imul (t := 26) F dX9_floss_25 rfl ?_
      refine q_iload_n (t := 27) F dX9_floss_26 rfl rfl rfl ?_
      refine q_iadd (t := 28) F dX9_floss_27 rfl ?_
      rw [show (10 : Int) * p + g = ((10 * p.toNat + g.toNat : Nat) : Int) by omega]
      first | refine ldN_36 (t := 29) F dX9_floss_28 (by omega) rfl ?_ | refine ld_36 (t := 29) F dX9_floss_28 (by omega) (by omega) rfl ?_
      try simp only [up_app, row_app, scr_app, cpy_app, Nat.reduceEqDiff, Int.reduceToNat, Int.toNat_natCast, and_true, true_and, and_false, false_and, and_self, reduceIte]
      refine q_istore_n (t := 30) F dX9_floss_29 rfl (by decide) rfl rfl ?_
      refine q_aload_n (t := 31) F dX9_floss_30 rfl rfl rfl ?_
      refine g_X9_32 (t := 34) F dX9_floss_31 rfl rfl ?_
      refine q_bipush (t := 36) F dX9_floss_34 (by decide) rfl ?_
      refine q_iload_n (t := 37) F dX9_floss_36 rfl rfl rfl ?_
      refine q_imul (t := 38) F dX9_floss_37 rfl ?_
      refine q_iload_n (t := 39) F dX9_floss_38 rfl rfl rfl ?_
      refine q_iadd (t := 40) F dX9_floss_39 rfl ?_
      rw [show (10 : Int) * p + g = ((10 * p.toNat + g.toNat : Nat) : Int) by omega]
      refine q_iconst (t := 41) F dX9_floss_40 rfl ?_
      first | refine stN_36 (t := 42) F dX9_floss_41 (by omega) rfl ?_ | refine st_36 (t := 42) F dX9_floss_41 (by omega) (by omega) rfl ?_
      refine q_iload_n (t := 43) F dX9_floss_42 rfl rfl rfl ?_
      refine q_iret F dX9_floss_43 rfl ?_
      first
        | exact ⟨_, rfl, fun _ => ⟨rfl, rfl⟩, fun q => absurd (by omega) q⟩
        | exact ⟨_, rfl, fun q => absurd q (by omega), fun _ => ⟨rfl, rfl⟩⟩
    · refine q_bipush (t := 17) F dX9_floss_15 (by decide) rfl ?_
      refine q_iret F dX9_floss_17 rfl ?_
      first
        | exact ⟨_, rfl, fun _ => ⟨rfl, rfl⟩, fun q => absurd (by omega) q⟩
        | exact ⟨_, rfl, fun q => absurd q (by omega), fun _ => ⟨rfl, rfl⟩⟩

set_option maxHeartbeats 4000000 in
theorem c_X9_feed (l : Launch) (G : GS) (im : IM) (bt rt : Nat) (lm : IM) (h : RC im) (c : Int) (hc : ri c) : Cn l (XR G) yX9_feed Y_X9_feed [vR 30 0, vI c] (im, rs bt rt, lm) (pI fun x m' => (¬ (0 ≤ c ∧ c ≤ 255) → x = -2 ∧ m' = (im, rs bt rt, lm)) ∧ ((0 ≤ c ∧ c ≤ 255) → im 30 0 6 = 160 → x = -4 ∧ m' = (im, rs bt rt, lm)) ∧ ((0 ≤ c ∧ c ≤ 255) → im 30 0 6 ≠ 160 → x = im 30 0 6 + 1 ∧ m' = (up (up im 33 0 (im 30 0 6).toNat c) 30 0 6 (im 30 0 6 + 1), rs bt rt, lm))) := by
  refine cn_of (by decide) (okR G) rfl (Nat.le_of_ble_eq_true rfl) ?_
  intro M ad hMl F
  subst hMl
  have hR := h.1
  have hX := h.2.1
  have h4 := h.2.2.1
  have h12 := h.2.2.2.1
  have h7 := h.2.2.2.2.1
  have h6 := hX.2.2.1
  have h3 := hX.2.2.2.1
  have c1 := hc.1
  have c2 := hc.2
  refine wp_pad 0 ?_
  show Wp M (XR G) ad Y_X9_feed (pI fun x m' => (¬ (0 ≤ c ∧ c ≤ 255) → x = -2 ∧ m' = (im, rs bt rt, lm)) ∧ ((0 ≤ c ∧ c ≤ 255) → im 30 0 6 = 160 → x = -4 ∧ m' = (im, rs bt rt, lm)) ∧ ((0 ≤ c ∧ c ≤ 255) → im 30 0 6 ≠ 160 → x = im 30 0 6 + 1 ∧ m' = (up (up im 33 0 (im 30 0 6).toNat c) 30 0 6 (im 30 0 6 + 1), rs bt rt, lm))) 0 [some (vR 30 0), some (vI c)] [] (im, rs bt rt, lm)
  refine q_iload_n (t := 1) F dX9_feed_0 rfl rfl rfl ?_
  refine q_i2l (t := 2) F dX9_feed_1 (by first | exact hR _ _ _ | (constructor <;> omega)) rfl ?_
  refine q_lconst (t := 3) (x := 0) F dX9_feed_2 (by decide) rfl ?_
  refine q_ldc2 (t := 6) (x := 255) F dX9_feed_3 kl_X9_144 (by decide) rfl ?_
  refine wp_callS (t := 9) [_, _, _] F dX9_feed_6 k_X9_in st_X9_in ml_X9_91 rfl rfl (Nat.le_of_ble_eq_true rfl) (by decide) (c_X9_in _ G _ _ _ _ _ _ _ (by constructor <;> omega) (by constructor <;> omega) (by constructor <;> omega)) rfl (kI ?_)
  rintro x6 m' ⟨hx6, rfl⟩
  have hx6 := if01 hx6
  refine q_if_ne (t := 12) (u := 15) F dX9_feed_9 (by first | exact hR _ _ _ | (constructor <;> omega)) (by decide) rfl (fun c9 => ?_) (fun c9 => ?_)
  · refine q_aload_n (t := 16) F dX9_feed_15 rfl rfl rfl ?_
    refine g_X9_146 (t := 19) F dX9_feed_16 rfl rfl ?_
    try simp only [up_app, row_app, scr_app, cpy_app, Nat.reduceEqDiff, Int.reduceToNat, Int.toNat_natCast, and_true, true_and, and_false, false_and, and_self, reduceIte]
    refine q_sipush (t := 22) F dX9_feed_19 (by decide) rfl ?_
    refine q_icmp_ne (t := 25) (u := 28) F dX9_feed_22 (by exact hR _ _ _) (by constructor <;> omega) (by decide) rfl (fun c22 => ?_) (fun c22 => ?_)
    · refine q_aload_n (t := 29) F dX9_feed_28 rfl rfl rfl ?_
      refine g_X9_20 (t := 32) F dX9_feed_29 rfl rfl ?_
      refine q_aload_n (t := 33) F dX9_feed_32 rfl rfl rfl ?_
      refine g_X9_146 (t := 36) F dX9_feed_33 rfl rfl ?_
      try simp only [up_app, row_app, scr_app, cpy_app, Nat.reduceEqDiff, Int.reduceToNat, Int.toNat_natCast, and_true, true_and, and_false, false_and, and_self, reduceIte]
      obtain ⟨t, ht⟩ : ∃ t : Nat, im 30 0 6 = t := ⟨(im 30 0 6).toNat, by omega⟩
      rw [ht]
      refine q_iload_n (t := 37) F dX9_feed_36 rfl rfl rfl ?_
      first | refine stN_33 (t := 38) F dX9_feed_37 (by omega) rfl ?_ | refine st_33 (t := 38) F dX9_feed_37 (by omega) (by omega) rfl ?_
      refine q_aload_n (t := 39) F dX9_feed_38 rfl rfl rfl ?_
      refine q_dupR (t := 40) F dX9_feed_39 rfl ?_
      refine g_X9_146 (t := 43) F dX9_feed_40 rfl rfl ?_
      try simp only [up_app, row_app, scr_app, cpy_app, Nat.reduceEqDiff, Int.reduceToNat, Int.toNat_natCast, and_true, true_and, and_false, false_and, and_self, reduceIte]
      refine q_iconst (t := 44) F dX9_feed_43 rfl ?_
      refine q_iadd (t := 45) F dX9_feed_44 rfl ?_
      refine p_X9_146 (t := 48) F dX9_feed_45 rfl rfl ?_
      refine q_aload_n (t := 49) F dX9_feed_48 rfl rfl rfl ?_
      refine g_X9_146 (t := 52) F dX9_feed_49 rfl rfl ?_
      try simp only [up_app, row_app, scr_app, cpy_app, Nat.reduceEqDiff, Int.reduceToNat, Int.toNat_natCast, and_true, true_and, and_false, false_and, and_self, reduceIte]
      refine q_iret F dX9_feed_52 rfl ?_
      first
        | exact ⟨_, rfl, fun _ => ⟨rfl, rfl⟩, fun q => absurd q (by omega), fun q => absurd q (by omega)⟩
        | exact ⟨_, rfl, fun q => absurd (by omega) q, fun _ _ => ⟨rfl, rfl⟩, fun _ q => absurd (by omega) q⟩
        | exact ⟨_, rfl, fun q => absurd (by omega) q, fun _ q => absurd q (by omega), fun _ _ => ⟨rfl, rfl⟩⟩
        | exact ⟨_, rfl, fun q => absurd (by omega) q, fun _ q => absurd q (by omega), fun _ _ => ⟨by rw [ht], by rw [ht]⟩⟩
    · refine q_bipush (t := 27) F dX9_feed_25 (by decide) rfl ?_
      refine q_iret F dX9_feed_27 rfl ?_
      first
        | exact ⟨_, rfl, fun _ => ⟨rfl, rfl⟩, fun q => absurd q (by omega), fun q => absurd q (by omega)⟩
        | exact ⟨_, rfl, fun q => absurd (by omega) q, fun _ _ => ⟨rfl, rfl⟩, fun _ q => absurd (by omega) q⟩
        | exact ⟨_, rfl, fun q => absurd (by omega) q, fun _ q => absurd q (by omega), fun _ _ => ⟨rfl, rfl⟩⟩
        | exact ⟨_, rfl, fun q => absurd (by omega) q, fun _ q => absurd q (by omega), fun _ _ => ⟨by rw [ht], by rw [ht]⟩⟩
  · refine q_bipush (t := 14) F dX9_feed_12 (by decide) rfl ?_
    refine q_iret F dX9_feed_14 rfl ?_
    first
      | exact ⟨_, rfl, fun _ => ⟨rfl, rfl⟩, fun q => absurd q (by omega), fun q => absurd q (by omega)⟩
      | exact ⟨_, rfl, fun q => absurd (by omega) q, fun _ _ => ⟨rfl, rfl⟩, fun _ q => absurd (by omega) q⟩
      | exact ⟨_, rfl, fun q => absurd (by omega) q, fun _ q => absurd q (by omega), fun _ _ => ⟨rfl, rfl⟩⟩
      | exact ⟨_, rfl, fun q => absurd (by omega) q, fun _ q => absurd q (by omega), fun _ _ => ⟨by rw [ht], by rw [ht]⟩⟩

set_option maxHeartbeats 4000000 in
theorem c_X9_force (l : Launch) (G : GS) (im : IM) (bt rt : Nat) (lm : IM) (h : RC im) (t : Int) (ht : ri t) : Cn l (XR G) yX9_force Y_X9_force [vR 30 0, vI t] (im, rs bt rt, lm) (pI fun x m' => ((0 ≤ t ∧ t < im 30 0 3) → x = im 30 0 4 ∧ m' = (up im 30 0 4 t, rs bt rt, lm)) ∧ (¬ (0 ≤ t ∧ t < im 30 0 3) → x = -2 ∧ m' = (im, rs bt rt, lm))) := by
  refine cn_of (by decide) (okR G) rfl (Nat.le_of_ble_eq_true rfl) ?_
  intro M ad hMl F
  subst hMl
  have hR := h.1
  have hX := h.2.1
  have h4 := h.2.2.1
  have h12 := h.2.2.2.1
  have h7 := h.2.2.2.2.1
  have h6 := hX.2.2.1
  have h3 := hX.2.2.2.1
  have t1 := ht.1
  have t2 := ht.2
  refine wp_pad 1 ?_
  show Wp M (XR G) ad Y_X9_force (pI fun x m' => ((0 ≤ t ∧ t < im 30 0 3) → x = im 30 0 4 ∧ m' = (up im 30 0 4 t, rs bt rt, lm)) ∧ (¬ (0 ≤ t ∧ t < im 30 0 3) → x = -2 ∧ m' = (im, rs bt rt, lm))) 0 [some (vR 30 0), some (vI t), none] [] (im, rs bt rt, lm)
  refine q_iload_n (t := 1) F dX9_force_0 rfl rfl rfl ?_
  refine q_i2l (t := 2) F dX9_force_1 (by first | exact hR _ _ _ | (constructor <;> omega)) rfl ?_
  refine q_lconst (t := 3) (x := 0) F dX9_force_2 (by decide) rfl ?_
  refine q_aload_n (t := 4) F dX9_force_3 rfl rfl rfl ?_
  refine g_X9_85 (t := 7) F dX9_force_4 rfl rfl ?_
  refine q_iconst (t := 8) F dX9_force_7 rfl ?_
  refine q_isub (t := 9) F dX9_force_8 rfl ?_
  refine q_i2l (t := 10) F dX9_force_9 (by constructor <;> omega) rfl ?_
  refine wp_callS (t := 13) [_, _, _] F dX9_force_10 k_X9_in st_X9_in ml_X9_91 rfl rfl (Nat.le_of_ble_eq_true rfl) (by decide) (c_X9_in _ G _ _ _ _ _ _ _ (by constructor <;> omega) (by constructor <;> omega) (by constructor <;> omega)) rfl (kI ?_)
  rintro x10 m' ⟨hx10, rfl⟩
  have hx10 := if01 hx10
  refine q_if_ne (t := 16) (u := 19) F dX9_force_13 (by first | exact hR _ _ _ | (constructor <;> omega)) (by decide) rfl (fun c13 => ?_) (fun c13 => ?_)
  · refine q_aload_n (t := 20) F dX9_force_19 rfl rfl rfl ?_
    refine g_X9_120 (t := 23) F dX9_force_20 rfl rfl ?_
    try simp only [up_app, row_app, scr_app, cpy_app, Nat.reduceEqDiff, Int.reduceToNat, Int.toNat_natCast, and_true, true_and, and_false, false_and, and_self, reduceIte]
    refine q_istore_n (t := 24) F dX9_force_23 rfl (by decide) rfl rfl ?_
    refine q_aload_n (t := 25) F dX9_force_24 rfl rfl rfl ?_
    refine q_iload_n (t := 26) F dX9_force_25 rfl rfl rfl ?_
    refine p_X9_120 (t := 29) F dX9_force_26 rfl rfl ?_
    refine q_iload_n (t := 30) F dX9_force_29 rfl rfl rfl ?_
    refine q_iret F dX9_force_30 rfl ?_
    first
      | exact ⟨_, rfl, fun _ => ⟨rfl, rfl⟩, fun q => absurd (by omega) q⟩
      | exact ⟨_, rfl, fun q => absurd q (by omega), fun _ => ⟨rfl, rfl⟩⟩
  · refine q_bipush (t := 18) F dX9_force_16 (by decide) rfl ?_
    refine q_iret F dX9_force_18 rfl ?_
    first
      | exact ⟨_, rfl, fun _ => ⟨rfl, rfl⟩, fun q => absurd (by omega) q⟩
      | exact ⟨_, rfl, fun q => absurd q (by omega), fun _ => ⟨rfl, rfl⟩⟩
end
section
/-! the reference: told -/

def hoR (im : IM) (q : Nat) : Int := holdsK (im 34 0 (q / 10)) (im 35 0 (q / 10)) (sayR im (im 30 0 4).toNat 1 (nmA (im 36 0 q) 0 (im 30 0 7) (im 35 0 (q / 10)) ((q % 10 : Nat) : Int) (im 37 0 q)))
def tdR (im : IM) (p : Int) (w : Int) : Int := if ((0 ≤ w ∧ w ≤ 4) ∨ (10 ≤ w ∧ w ≤ 39)) ∧ (1 < w → 0 ≤ p ∧ p < im 30 0 12) then (if w = 0 then im 30 0 7 else if w = 1 then im 30 0 8 else if w = 2 then im 35 0 p.toNat else if w = 3 then im 34 0 p.toNat else if w = 4 then cntW (stR im p.toNat) 10 else if im 36 0 (10 * p.toNat + (w % 10).toNat) = -1 then -1 else if w < 20 then im 36 0 (10 * p.toNat + (w % 10).toNat) else if w < 30 then im 37 0 (10 * p.toNat + (w % 10).toNat) else hoR im (10 * p.toNat + (w % 10).toNat)) else -2

set_option maxHeartbeats 4000000 in
theorem c_X9_told (l : Launch) (G : GS) (im : IM) (bt rt : Nat) (lm : IM) (h : RC im) (p w : Int) (hp : ri p) (hw : ri w) : Cn l (XR G) yX9_told Y_X9_told [vR 30 0, vI p, vI w] (im, rs bt rt, lm) (pI fun x m' => ∃ im' lm', x = tdR im p w ∧ RI im' ∧ agY im' im ∧ lgQ lm' lm ∧ m' = (im', rs bt rt, lm')) := by
  refine cn_of (by decide) (okR G) rfl (Nat.le_of_ble_eq_true rfl) ?_
  intro M ad hMl F
  subst hMl
  have hR := h.1
  have hX := h.2.1
  have h4 := h.2.2.1
  have h12 := h.2.2.2.1
  have h7 := h.2.2.2.2.1
  have h6 := hX.2.2.1
  have h3 := hX.2.2.2.1
  have hP := h.2.2.2.2.2.2
  have p1 := hp.1
  have p2 := hp.2
  have w1 := hw.1
  have w2 := hw.2
  refine wp_pad 1 ?_
  show Wp M (XR G) ad Y_X9_told (pI fun x m' => ∃ im' lm', x = tdR im p w ∧ RI im' ∧ agY im' im ∧ lgQ lm' lm ∧ m' = (im', rs bt rt, lm')) 0 [some (vR 30 0), some (vI p), some (vI w), none] [] (im, rs bt rt, lm)
  refine q_iload_n (t := 1) F dX9_told_0 rfl rfl rfl ?_
  refine q_i2l (t := 2) F dX9_told_1 (by first | exact hR _ _ _ | (constructor <;> omega)) rfl ?_
  refine q_lconst (t := 3) (x := 0) F dX9_told_2 (by decide) rfl ?_
  refine q_ldc2 (t := 6) (x := 4) F dX9_told_3 kl_X9_125 (by decide) rfl ?_
  refine wp_callS (t := 9) [_, _, _] F dX9_told_6 k_X9_in st_X9_in ml_X9_91 rfl rfl (Nat.le_of_ble_eq_true rfl) (by decide) (c_X9_in _ G _ _ _ _ _ _ _ (by constructor <;> omega) (by constructor <;> omega) (by constructor <;> omega)) rfl (kI ?_)
  rintro x6 m' ⟨hx6, rfl⟩
  have hx6 := if01 hx6
  refine q_if_ne (t := 12) (u := 26) F dX9_told_9 (by first | exact hR _ _ _ | (constructor <;> omega)) (by decide) rfl (fun c9 => ?_) (fun c9 => ?_)
  · refine q_iload_n (t := 27) F dX9_told_26 rfl rfl rfl ?_
    refine q_iconst (t := 28) F dX9_told_27 rfl ?_
    refine q_icmp_le (t := 31) (u := 42) F dX9_told_28 (by first | exact hR _ _ _ | (constructor <;> omega)) (by first | exact hR _ _ _ | (constructor <;> omega)) (by decide) rfl (fun c28 => ?_) (fun c28 => ?_)
    · refine q_iload_n (t := 43) F dX9_told_42 rfl rfl rfl ?_
      refine q_iconst (t := 44) F dX9_told_43 rfl ?_
      refine q_icmp_ge (t := 47) (u := 104) F dX9_told_44 (by first | exact hR _ _ _ | (constructor <;> omega)) (by first | exact hR _ _ _ | (constructor <;> omega)) (by decide) rfl (fun c44 => ?_) (fun c44 => ?_)
      · refine q_bipush (t := 106) F dX9_told_104 (by decide) rfl ?_
        refine q_iload_n (t := 107) F dX9_told_106 rfl rfl rfl ?_
        refine q_imul (t := 108) F dX9_told_107 rfl ?_
        refine q_iload_n (t := 109) F dX9_told_108 rfl rfl rfl ?_
        refine q_bipush (t := 111) F dX9_told_109 (by decide) rfl ?_
        refine q_irem (t := 112) F dX9_told_111 (by first | exact hR _ _ _ | (constructor <;> omega)) (by first | exact hR _ _ _ | (constructor <;> omega)) (by omega) (by omega) rfl ?_
        refine q_iadd (t := 113) F dX9_told_112 rfl ?_
        rw [show (10 : Int) * p + w % 10 = ((10 * p.toNat + (w % 10).toNat : Nat) : Int) by omega]
        refine q_istore_n (t := 114) F dX9_told_113 rfl (by decide) rfl rfl ?_
        refine q_aload_n (t := 115) F dX9_told_114 rfl rfl rfl ?_
        refine g_X9_32 (t := 118) F dX9_told_115 rfl rfl ?_
        refine q_iload_n (t := 119) F dX9_told_118 rfl rfl rfl ?_
        first | refine ldN_36 (t := 120) F dX9_told_119 (by omega) rfl ?_ | refine ld_36 (t := 120) F dX9_told_119 (by omega) (by omega) rfl ?_
        try simp only [up_app, row_app, scr_app, cpy_app, Nat.reduceEqDiff, Int.reduceToNat, Int.toNat_natCast, and_true, true_and, and_false, false_and, and_self, reduceIte]
        refine q_iconst (t := 121) F dX9_told_120 rfl ?_
        refine q_icmp_ne (t := 124) (u := 126) F dX9_told_121 (by exact hR _ _ _) (by constructor <;> omega) (by decide) rfl (fun c121 => ?_) (fun c121 => ?_)
        · refine q_iload_n (t := 127) F dX9_told_126 rfl rfl rfl ?_
          refine q_bipush (t := 129) F dX9_told_127 (by decide) rfl ?_
          refine q_icmp_ge (t := 132) (u := 141) F dX9_told_129 (by first | exact hR _ _ _ | (constructor <;> omega)) (by first | exact hR _ _ _ | (constructor <;> omega)) (by decide) rfl (fun c129 => ?_) (fun c129 => ?_)
          · refine q_iload_n (t := 142) F dX9_told_141 rfl rfl rfl ?_
            refine q_bipush (t := 144) F dX9_told_142 (by decide) rfl ?_
            refine q_icmp_ge (t := 147) (u := 156) F dX9_told_144 (by first | exact hR _ _ _ | (constructor <;> omega)) (by first | exact hR _ _ _ | (constructor <;> omega)) (by decide) rfl (fun c144 => ?_) (fun c144 => ?_)
            · refine q_aload_n (t := 157) F dX9_told_156 rfl rfl rfl ?_
              refine q_iload_n (t := 158) F dX9_told_157 rfl rfl rfl ?_
              refine wp_callV (t := 161) [_] F dX9_told_158 k_X9_holdsIn v_X9_holdsIn ml_X9_135 rfl rfl rfl rfl (Nat.le_of_ble_eq_true rfl) (by decide) (m_30 (by omega)) (c_X9_holdsIn _ G im bt rt lm h (10 * p.toNat + (w % 10).toNat) (by omega)) rfl (kI ?_)
              rintro x158 m' ⟨im2, lm2, hx, hR2, hag, hlg, rfl⟩
              refine q_iret F dX9_told_161 rfl ?_
              first
                | (exfalso; omega)
                | (refine ⟨_, rfl, im, lm, ?_, hR, agY_rfl im, lgQ_rfl lm, rfl⟩
                   unfold tdR
                   first
                     | rw [if_neg (by omega)]
                     | (rw [if_pos (by omega)]; repeat (first | rw [if_pos (by omega)] | rw [if_neg (by omega)])))
                | (refine ⟨_, rfl, im2, lm2, ?_, hR2, hag, hlg, rfl⟩
                   unfold tdR
                   rw [if_pos (by omega), if_neg (by omega), if_neg (by omega), if_neg (by omega), if_neg (by omega), if_neg (by omega), if_neg (by omega), if_neg (by omega), if_neg (by omega)]
                   exact hx)
            · refine q_aload_n (t := 148) F dX9_told_147 rfl rfl rfl ?_
              refine g_X9_35 (t := 151) F dX9_told_148 rfl rfl ?_
              refine q_iload_n (t := 152) F dX9_told_151 rfl rfl rfl ?_
              first | refine ldN_37 (t := 153) F dX9_told_152 (by omega) rfl ?_ | refine ld_37 (t := 153) F dX9_told_152 (by omega) (by omega) rfl ?_
              try simp only [up_app, row_app, scr_app, cpy_app, Nat.reduceEqDiff, Int.reduceToNat, Int.toNat_natCast, and_true, true_and, and_false, false_and, and_self, reduceIte]
              refine q_goto (t := 161) F dX9_told_153 (by decide) ?_
              refine q_iret F dX9_told_161 rfl ?_
              first
                | (exfalso; omega)
                | (refine ⟨_, rfl, im, lm, ?_, hR, agY_rfl im, lgQ_rfl lm, rfl⟩
                   unfold tdR
                   first
                     | rw [if_neg (by omega)]
                     | (rw [if_pos (by omega)]; repeat (first | rw [if_pos (by omega)] | rw [if_neg (by omega)])))
                | (refine ⟨_, rfl, im2, lm2, ?_, hR2, hag, hlg, rfl⟩
                   unfold tdR
                   rw [if_pos (by omega), if_neg (by omega), if_neg (by omega), if_neg (by omega), if_neg (by omega), if_neg (by omega), if_neg (by omega), if_neg (by omega), if_neg (by omega)]
                   exact hx)
          · refine q_aload_n (t := 133) F dX9_told_132 rfl rfl rfl ?_
            refine g_X9_32 (t := 136) F dX9_told_133 rfl rfl ?_
            refine q_iload_n (t := 137) F dX9_told_136 rfl rfl rfl ?_
            first | refine ldN_36 (t := 138) F dX9_told_137 (by omega) rfl ?_ | refine ld_36 (t := 138) F dX9_told_137 (by omega) (by omega) rfl ?_
            try simp only [up_app, row_app, scr_app, cpy_app, Nat.reduceEqDiff, Int.reduceToNat, Int.toNat_natCast, and_true, true_and, and_false, false_and, and_self, reduceIte]
            refine q_goto (t := 161) F dX9_told_138 (by decide) ?_
            refine q_iret F dX9_told_161 rfl ?_
            first
              | (exfalso; omega)
              | (refine ⟨_, rfl, im, lm, ?_, hR, agY_rfl im, lgQ_rfl lm, rfl⟩
                 unfold tdR
                 first
                   | rw [if_neg (by omega)]
                   | (rw [if_pos (by omega)]; repeat (first | rw [if_pos (by omega)] | rw [if_neg (by omega)])))
              | (refine ⟨_, rfl, im2, lm2, ?_, hR2, hag, hlg, rfl⟩
                 unfold tdR
                 rw [if_pos (by omega), if_neg (by omega), if_neg (by omega), if_neg (by omega), if_neg (by omega), if_neg (by omega), if_neg (by omega), if_neg (by omega), if_neg (by omega)]
                 exact hx)
        · refine q_iconst (t := 125) F dX9_told_124 rfl ?_
          refine q_iret F dX9_told_125 rfl ?_
          first
            | (exfalso; omega)
            | (refine ⟨_, rfl, im, lm, ?_, hR, agY_rfl im, lgQ_rfl lm, rfl⟩
               unfold tdR
               first
                 | rw [if_neg (by omega)]
                 | (rw [if_pos (by omega)]; repeat (first | rw [if_pos (by omega)] | rw [if_neg (by omega)])))
            | (refine ⟨_, rfl, im2, lm2, ?_, hR2, hag, hlg, rfl⟩
               unfold tdR
               rw [if_pos (by omega), if_neg (by omega), if_neg (by omega), if_neg (by omega), if_neg (by omega), if_neg (by omega), if_neg (by omega), if_neg (by omega), if_neg (by omega)]
               exact hx)
      · refine q_iload_n (t := 48) F dX9_told_47 rfl rfl rfl ?_
        refine q_if_ne (t := 51) (u := 58) F dX9_told_48 (by first | exact hR _ _ _ | (constructor <;> omega)) (by decide) rfl (fun c48 => ?_) (fun c48 => ?_)
        · refine q_iload_n (t := 59) F dX9_told_58 rfl rfl rfl ?_
          refine q_iconst (t := 60) F dX9_told_59 rfl ?_
          refine q_icmp_ne (t := 63) (u := 70) F dX9_told_60 (by first | exact hR _ _ _ | (constructor <;> omega)) (by first | exact hR _ _ _ | (constructor <;> omega)) (by decide) rfl (fun c60 => ?_) (fun c60 => ?_)
          · refine q_iload_n (t := 71) F dX9_told_70 rfl rfl rfl ?_
            refine q_iconst (t := 72) F dX9_told_71 rfl ?_
            refine q_icmp_ne (t := 75) (u := 84) F dX9_told_72 (by first | exact hR _ _ _ | (constructor <;> omega)) (by first | exact hR _ _ _ | (constructor <;> omega)) (by decide) rfl (fun c72 => ?_) (fun c72 => ?_)
            · refine q_iload_n (t := 85) F dX9_told_84 rfl rfl rfl ?_
              refine q_iconst (t := 86) F dX9_told_85 rfl ?_
              refine q_icmp_ne (t := 89) (u := 98) F dX9_told_86 (by first | exact hR _ _ _ | (constructor <;> omega)) (by first | exact hR _ _ _ | (constructor <;> omega)) (by decide) rfl (fun c86 => ?_) (fun c86 => ?_)
              · refine q_aload_n (t := 99) F dX9_told_98 rfl rfl rfl ?_
                refine q_iload_n (t := 100) F dX9_told_99 rfl rfl rfl ?_
                rw [show vI p = vI ((p.toNat : Nat) : Int) by rw [Int.toNat_of_nonneg (by omega)]]
                refine wp_callV (t := 103) [_] F dX9_told_100 k_X9_stuckOf v_X9_stuckOf ml_X9_131 rfl rfl rfl rfl (Nat.le_of_ble_eq_true rfl) (by decide) (m_30 (by omega)) (c_X9_stuckOf _ G im bt rt lm hR p.toNat (by omega)) rfl (kI ?_)
                rintro x100 m' ⟨rfl, rfl⟩
                refine q_iret F dX9_told_103 rfl ?_
                first
                  | (exfalso; omega)
                  | (refine ⟨_, rfl, im, lm, ?_, hR, agY_rfl im, lgQ_rfl lm, rfl⟩
                     unfold tdR
                     first
                       | rw [if_neg (by omega)]
                       | (rw [if_pos (by omega)]; repeat (first | rw [if_pos (by omega)] | rw [if_neg (by omega)])))
                  | (refine ⟨_, rfl, im2, lm2, ?_, hR2, hag, hlg, rfl⟩
                     unfold tdR
                     rw [if_pos (by omega), if_neg (by omega), if_neg (by omega), if_neg (by omega), if_neg (by omega), if_neg (by omega), if_neg (by omega), if_neg (by omega), if_neg (by omega)]
                     exact hx)
              · refine q_aload_n (t := 90) F dX9_told_89 rfl rfl rfl ?_
                refine g_X9_26 (t := 93) F dX9_told_90 rfl rfl ?_
                rw [show vI p = vI ((p.toNat : Nat) : Int) by rw [Int.toNat_of_nonneg (by omega)]]
                refine q_iload_n (t := 94) F dX9_told_93 rfl rfl rfl ?_
                first | refine ldN_34 (t := 95) F dX9_told_94 (by omega) rfl ?_ | refine ld_34 (t := 95) F dX9_told_94 (by omega) (by omega) rfl ?_
                try simp only [up_app, row_app, scr_app, cpy_app, Nat.reduceEqDiff, Int.reduceToNat, Int.toNat_natCast, and_true, true_and, and_false, false_and, and_self, reduceIte]
                refine q_goto (t := 103) F dX9_told_95 (by decide) ?_
                refine q_iret F dX9_told_103 rfl ?_
                first
                  | (exfalso; omega)
                  | (refine ⟨_, rfl, im, lm, ?_, hR, agY_rfl im, lgQ_rfl lm, rfl⟩
                     unfold tdR
                     first
                       | rw [if_neg (by omega)]
                       | (rw [if_pos (by omega)]; repeat (first | rw [if_pos (by omega)] | rw [if_neg (by omega)])))
                  | (refine ⟨_, rfl, im2, lm2, ?_, hR2, hag, hlg, rfl⟩
                     unfold tdR
                     rw [if_pos (by omega), if_neg (by omega), if_neg (by omega), if_neg (by omega), if_neg (by omega), if_neg (by omega), if_neg (by omega), if_neg (by omega), if_neg (by omega)]
                     exact hx)
            · refine q_aload_n (t := 76) F dX9_told_75 rfl rfl rfl ?_
              refine g_X9_29 (t := 79) F dX9_told_76 rfl rfl ?_
              rw [show vI p = vI ((p.toNat : Nat) : Int) by rw [Int.toNat_of_nonneg (by omega)]]
              refine q_iload_n (t := 80) F dX9_told_79 rfl rfl rfl ?_
              first | refine ldN_35 (t := 81) F dX9_told_80 (by omega) rfl ?_ | refine ld_35 (t := 81) F dX9_told_80 (by omega) (by omega) rfl ?_
              try simp only [up_app, row_app, scr_app, cpy_app, Nat.reduceEqDiff, Int.reduceToNat, Int.toNat_natCast, and_true, true_and, and_false, false_and, and_self, reduceIte]
              refine q_goto (t := 103) F dX9_told_81 (by decide) ?_
              refine q_iret F dX9_told_103 rfl ?_
              first
                | (exfalso; omega)
                | (refine ⟨_, rfl, im, lm, ?_, hR, agY_rfl im, lgQ_rfl lm, rfl⟩
                   unfold tdR
                   first
                     | rw [if_neg (by omega)]
                     | (rw [if_pos (by omega)]; repeat (first | rw [if_pos (by omega)] | rw [if_neg (by omega)])))
                | (refine ⟨_, rfl, im2, lm2, ?_, hR2, hag, hlg, rfl⟩
                   unfold tdR
                   rw [if_pos (by omega), if_neg (by omega), if_neg (by omega), if_neg (by omega), if_neg (by omega), if_neg (by omega), if_neg (by omega), if_neg (by omega), if_neg (by omega)]
                   exact hx)
          · refine q_aload_n (t := 64) F dX9_told_63 rfl rfl rfl ?_
            refine g_X9_23 (t := 67) F dX9_told_64 rfl rfl ?_
            try simp only [up_app, row_app, scr_app, cpy_app, Nat.reduceEqDiff, Int.reduceToNat, Int.toNat_natCast, and_true, true_and, and_false, false_and, and_self, reduceIte]
            refine q_goto (t := 103) F dX9_told_67 (by decide) ?_
            refine q_iret F dX9_told_103 rfl ?_
            first
              | (exfalso; omega)
              | (refine ⟨_, rfl, im, lm, ?_, hR, agY_rfl im, lgQ_rfl lm, rfl⟩
                 unfold tdR
                 first
                   | rw [if_neg (by omega)]
                   | (rw [if_pos (by omega)]; repeat (first | rw [if_pos (by omega)] | rw [if_neg (by omega)])))
              | (refine ⟨_, rfl, im2, lm2, ?_, hR2, hag, hlg, rfl⟩
                 unfold tdR
                 rw [if_pos (by omega), if_neg (by omega), if_neg (by omega), if_neg (by omega), if_neg (by omega), if_neg (by omega), if_neg (by omega), if_neg (by omega), if_neg (by omega)]
                 exact hx)
        · refine q_aload_n (t := 52) F dX9_told_51 rfl rfl rfl ?_
          refine g_X9_117 (t := 55) F dX9_told_52 rfl rfl ?_
          try simp only [up_app, row_app, scr_app, cpy_app, Nat.reduceEqDiff, Int.reduceToNat, Int.toNat_natCast, and_true, true_and, and_false, false_and, and_self, reduceIte]
          refine q_goto (t := 103) F dX9_told_55 (by decide) ?_
          refine q_iret F dX9_told_103 rfl ?_
          first
            | (exfalso; omega)
            | (refine ⟨_, rfl, im, lm, ?_, hR, agY_rfl im, lgQ_rfl lm, rfl⟩
               unfold tdR
               first
                 | rw [if_neg (by omega)]
                 | (rw [if_pos (by omega)]; repeat (first | rw [if_pos (by omega)] | rw [if_neg (by omega)])))
            | (refine ⟨_, rfl, im2, lm2, ?_, hR2, hag, hlg, rfl⟩
               unfold tdR
               rw [if_pos (by omega), if_neg (by omega), if_neg (by omega), if_neg (by omega), if_neg (by omega), if_neg (by omega), if_neg (by omega), if_neg (by omega), if_neg (by omega)]
               exact hx)
    · refine q_aload_n (t := 32) F dX9_told_31 rfl rfl rfl ?_
      refine q_iload_n (t := 33) F dX9_told_32 rfl rfl rfl ?_
      refine wp_callV (t := 36) [_] F dX9_told_33 k_X9_isOne v_X9_isOne ml_X9_101 rfl rfl rfl rfl (Nat.le_of_ble_eq_true rfl) (by decide) (m_30 (by omega)) (c_X9_isOne _ G im bt rt lm hR h12.1 h12.2 p (by constructor <;> omega)) rfl (kI ?_)
      rintro x33 m' ⟨hx33, rfl⟩
      have hx33 := if01 hx33
      refine q_if_ne (t := 39) (u := 42) F dX9_told_36 (by first | exact hR _ _ _ | (constructor <;> omega)) (by decide) rfl (fun c36 => ?_) (fun c36 => ?_)
      · refine q_iload_n (t := 43) F dX9_told_42 rfl rfl rfl ?_
        refine q_iconst (t := 44) F dX9_told_43 rfl ?_
        refine q_icmp_ge (t := 47) (u := 104) F dX9_told_44 (by first | exact hR _ _ _ | (constructor <;> omega)) (by first | exact hR _ _ _ | (constructor <;> omega)) (by decide) rfl (fun c44 => ?_) (fun c44 => ?_)
        · refine q_bipush (t := 106) F dX9_told_104 (by decide) rfl ?_
          refine q_iload_n (t := 107) F dX9_told_106 rfl rfl rfl ?_
          refine q_imul (t := 108) F dX9_told_107 rfl ?_
          refine q_iload_n (t := 109) F dX9_told_108 rfl rfl rfl ?_
          refine q_bipush (t := 111) F dX9_told_109 (by decide) rfl ?_
          refine q_irem (t := 112) F dX9_told_111 (by first | exact hR _ _ _ | (constructor <;> omega)) (by first | exact hR _ _ _ | (constructor <;> omega)) (by omega) (by omega) rfl ?_
          refine q_iadd (t := 113) F dX9_told_112 rfl ?_
          rw [show (10 : Int) * p + w % 10 = ((10 * p.toNat + (w % 10).toNat : Nat) : Int) by omega]
          refine q_istore_n (t := 114) F dX9_told_113 rfl (by decide) rfl rfl ?_
          refine q_aload_n (t := 115) F dX9_told_114 rfl rfl rfl ?_
          refine g_X9_32 (t := 118) F dX9_told_115 rfl rfl ?_
          refine q_iload_n (t := 119) F dX9_told_118 rfl rfl rfl ?_
          first | refine ldN_36 (t := 120) F dX9_told_119 (by omega) rfl ?_ | refine ld_36 (t := 120) F dX9_told_119 (by omega) (by omega) rfl ?_
          try simp only [up_app, row_app, scr_app, cpy_app, Nat.reduceEqDiff, Int.reduceToNat, Int.toNat_natCast, and_true, true_and, and_false, false_and, and_self, reduceIte]
          refine q_iconst (t := 121) F dX9_told_120 rfl ?_
          refine q_icmp_ne (t := 124) (u := 126) F dX9_told_121 (by exact hR _ _ _) (by constructor <;> omega) (by decide) rfl (fun c121 => ?_) (fun c121 => ?_)
          · refine q_iload_n (t := 127) F dX9_told_126 rfl rfl rfl ?_
            refine q_bipush (t := 129) F dX9_told_127 (by decide) rfl ?_
            refine q_icmp_ge (t := 132) (u := 141) F dX9_told_129 (by first | exact hR _ _ _ | (constructor <;> omega)) (by first | exact hR _ _ _ | (constructor <;> omega)) (by decide) rfl (fun c129 => ?_) (fun c129 => ?_)
            · refine q_iload_n (t := 142) F dX9_told_141 rfl rfl rfl ?_
              refine q_bipush (t := 144) F dX9_told_142 (by decide) rfl ?_
              refine q_icmp_ge (t := 147) (u := 156) F dX9_told_144 (by first | exact hR _ _ _ | (constructor <;> omega)) (by first | exact hR _ _ _ | (constructor <;> omega)) (by decide) rfl (fun c144 => ?_) (fun c144 => ?_)
              · refine q_aload_n (t := 157) F dX9_told_156 rfl rfl rfl ?_
                refine q_iload_n (t := 158) F dX9_told_157 rfl rfl rfl ?_
                refine wp_callV (t := 161) [_] F dX9_told_158 k_X9_holdsIn v_X9_holdsIn ml_X9_135 rfl rfl rfl rfl (Nat.le_of_ble_eq_true rfl) (by decide) (m_30 (by omega)) (c_X9_holdsIn _ G im bt rt lm h (10 * p.toNat + (w % 10).toNat) (by omega)) rfl (kI ?_)
                rintro x158 m' ⟨im2, lm2, hx, hR2, hag, hlg, rfl⟩
                refine q_iret F dX9_told_161 rfl ?_
                first
                  | (exfalso; omega)
                  | (refine ⟨_, rfl, im, lm, ?_, hR, agY_rfl im, lgQ_rfl lm, rfl⟩
                     unfold tdR
                     first
                       | rw [if_neg (by omega)]
                       | (rw [if_pos (by omega)]; repeat (first | rw [if_pos (by omega)] | rw [if_neg (by omega)])))
                  | (refine ⟨_, rfl, im2, lm2, ?_, hR2, hag, hlg, rfl⟩
                     unfold tdR
                     rw [if_pos (by omega), if_neg (by omega), if_neg (by omega), if_neg (by omega), if_neg (by omega), if_neg (by omega), if_neg (by omega), if_neg (by omega), if_neg (by omega)]
                     exact hx)
              · refine q_aload_n (t := 148) F dX9_told_147 rfl rfl rfl ?_
                refine g_X9_35 (t := 151) F dX9_told_148 rfl rfl ?_
                refine q_iload_n (t := 152) F dX9_told_151 rfl rfl rfl ?_
                first | refine ldN_37 (t := 153) F dX9_told_152 (by omega) rfl ?_ | refine ld_37 (t := 153) F dX9_told_152 (by omega) (by omega) rfl ?_
                try simp only [up_app, row_app, scr_app, cpy_app, Nat.reduceEqDiff, Int.reduceToNat, Int.toNat_natCast, and_true, true_and, and_false, false_and, and_self, reduceIte]
                refine q_goto (t := 161) F dX9_told_153 (by decide) ?_
                refine q_iret F dX9_told_161 rfl ?_
                first
                  | (exfalso; omega)
                  | (refine ⟨_, rfl, im, lm, ?_, hR, agY_rfl im, lgQ_rfl lm, rfl⟩
                     unfold tdR
                     first
                       | rw [if_neg (by omega)]
                       | (rw [if_pos (by omega)]; repeat (first | rw [if_pos (by omega)] | rw [if_neg (by omega)])))
                  | (refine ⟨_, rfl, im2, lm2, ?_, hR2, hag, hlg, rfl⟩
                     unfold tdR
                     rw [if_pos (by omega), if_neg (by omega), if_neg (by omega), if_neg (by omega), if_neg (by omega), if_neg (by omega), if_neg (by omega), if_neg (by omega), if_neg (by omega)]
                     exact hx)
            · refine q_aload_n (t := 133) F dX9_told_132 rfl rfl rfl ?_
              refine g_X9_32 (t := 136) F dX9_told_133 rfl rfl ?_
              refine q_iload_n (t := 137) F dX9_told_136 rfl rfl rfl ?_
              first | refine ldN_36 (t := 138) F dX9_told_137 (by omega) rfl ?_ | refine ld_36 (t := 138) F dX9_told_137 (by omega) (by omega) rfl ?_
              try simp only [up_app, row_app, scr_app, cpy_app, Nat.reduceEqDiff, Int.reduceToNat, Int.toNat_natCast, and_true, true_and, and_false, false_and, and_self, reduceIte]
              refine q_goto (t := 161) F dX9_told_138 (by decide) ?_
              refine q_iret F dX9_told_161 rfl ?_
              first
                | (exfalso; omega)
                | (refine ⟨_, rfl, im, lm, ?_, hR, agY_rfl im, lgQ_rfl lm, rfl⟩
                   unfold tdR
                   first
                     | rw [if_neg (by omega)]
                     | (rw [if_pos (by omega)]; repeat (first | rw [if_pos (by omega)] | rw [if_neg (by omega)])))
                | (refine ⟨_, rfl, im2, lm2, ?_, hR2, hag, hlg, rfl⟩
                   unfold tdR
                   rw [if_pos (by omega), if_neg (by omega), if_neg (by omega), if_neg (by omega), if_neg (by omega), if_neg (by omega), if_neg (by omega), if_neg (by omega), if_neg (by omega)]
                   exact hx)
          · refine q_iconst (t := 125) F dX9_told_124 rfl ?_
            refine q_iret F dX9_told_125 rfl ?_
            first
              | (exfalso; omega)
              | (refine ⟨_, rfl, im, lm, ?_, hR, agY_rfl im, lgQ_rfl lm, rfl⟩
                 unfold tdR
                 first
                   | rw [if_neg (by omega)]
                   | (rw [if_pos (by omega)]; repeat (first | rw [if_pos (by omega)] | rw [if_neg (by omega)])))
              | (refine ⟨_, rfl, im2, lm2, ?_, hR2, hag, hlg, rfl⟩
                 unfold tdR
                 rw [if_pos (by omega), if_neg (by omega), if_neg (by omega), if_neg (by omega), if_neg (by omega), if_neg (by omega), if_neg (by omega), if_neg (by omega), if_neg (by omega)]
                 exact hx)
        · refine q_iload_n (t := 48) F dX9_told_47 rfl rfl rfl ?_
          refine q_if_ne (t := 51) (u := 58) F dX9_told_48 (by first | exact hR _ _ _ | (constructor <;> omega)) (by decide) rfl (fun c48 => ?_) (fun c48 => ?_)
          · refine q_iload_n (t := 59) F dX9_told_58 rfl rfl rfl ?_
            refine q_iconst (t := 60) F dX9_told_59 rfl ?_
            refine q_icmp_ne (t := 63) (u := 70) F dX9_told_60 (by first | exact hR _ _ _ | (constructor <;> omega)) (by first | exact hR _ _ _ | (constructor <;> omega)) (by decide) rfl (fun c60 => ?_) (fun c60 => ?_)
            · refine q_iload_n (t := 71) F dX9_told_70 rfl rfl rfl ?_
              refine q_iconst (t := 72) F dX9_told_71 rfl ?_
              refine q_icmp_ne (t := 75) (u := 84) F dX9_told_72 (by first | exact hR _ _ _ | (constructor <;> omega)) (by first | exact hR _ _ _ | (constructor <;> omega)) (by decide) rfl (fun c72 => ?_) (fun c72 => ?_)
              · refine q_iload_n (t := 85) F dX9_told_84 rfl rfl rfl ?_
                refine q_iconst (t := 86) F dX9_told_85 rfl ?_
                refine q_icmp_ne (t := 89) (u := 98) F dX9_told_86 (by first | exact hR _ _ _ | (constructor <;> omega)) (by first | exact hR _ _ _ | (constructor <;> omega)) (by decide) rfl (fun c86 => ?_) (fun c86 => ?_)
                · refine q_aload_n (t := 99) F dX9_told_98 rfl rfl rfl ?_
                  refine q_iload_n (t := 100) F dX9_told_99 rfl rfl rfl ?_
                  rw [show vI p = vI ((p.toNat : Nat) : Int) by rw [Int.toNat_of_nonneg (by omega)]]
                  refine wp_callV (t := 103) [_] F dX9_told_100 k_X9_stuckOf v_X9_stuckOf ml_X9_131 rfl rfl rfl rfl (Nat.le_of_ble_eq_true rfl) (by decide) (m_30 (by omega)) (c_X9_stuckOf _ G im bt rt lm hR p.toNat (by omega)) rfl (kI ?_)
                  rintro x100 m' ⟨rfl, rfl⟩
                  refine q_iret F dX9_told_103 rfl ?_
                  first
                    | (exfalso; omega)
                    | (refine ⟨_, rfl, im, lm, ?_, hR, agY_rfl im, lgQ_rfl lm, rfl⟩
                       unfold tdR
                       first
                         | rw [if_neg (by omega)]
                         | (rw [if_pos (by omega)]; repeat (first | rw [if_pos (by omega)] | rw [if_neg (by omega)])))
                    | (refine ⟨_, rfl, im2, lm2, ?_, hR2, hag, hlg, rfl⟩
                       unfold tdR
                       rw [if_pos (by omega), if_neg (by omega), if_neg (by omega), if_neg (by omega), if_neg (by omega), if_neg (by omega), if_neg (by omega), if_neg (by omega), if_neg (by omega)]
                       exact hx)
                · refine q_aload_n (t := 90) F dX9_told_89 rfl rfl rfl ?_
                  refine g_X9_26 (t := 93) F dX9_told_90 rfl rfl ?_
                  rw [show vI p = vI ((p.toNat : Nat) : Int) by rw [Int.toNat_of_nonneg (by omega)]]
                  refine q_iload_n (t := 94) F dX9_told_93 rfl rfl rfl ?_
                  first | refine ldN_34 (t := 95) F dX9_told_94 (by omega) rfl ?_ | refine ld_34 (t := 95) F dX9_told_94 (by omega) (by omega) rfl ?_
                  try simp only [up_app, row_app, scr_app, cpy_app, Nat.reduceEqDiff, Int.reduceToNat, Int.toNat_natCast, and_true, true_and, and_false, false_and, and_self, reduceIte]
                  refine q_goto (t := 103) F dX9_told_95 (by decide) ?_
                  refine q_iret F dX9_told_103 rfl ?_
                  first
                    | (exfalso; omega)
                    | (refine ⟨_, rfl, im, lm, ?_, hR, agY_rfl im, lgQ_rfl lm, rfl⟩
                       unfold tdR
                       first
                         | rw [if_neg (by omega)]
                         | (rw [if_pos (by omega)]; repeat (first | rw [if_pos (by omega)] | rw [if_neg (by omega)])))
                    | (refine ⟨_, rfl, im2, lm2, ?_, hR2, hag, hlg, rfl⟩
                       unfold tdR
                       rw [if_pos (by omega), if_neg (by omega), if_neg (by omega), if_neg (by omega), if_neg (by omega), if_neg (by omega), if_neg (by omega), if_neg (by omega), if_neg (by omega)]
                       exact hx)
              · refine q_aload_n (t := 76) F dX9_told_75 rfl rfl rfl ?_
                refine g_X9_29 (t := 79) F dX9_told_76 rfl rfl ?_
                rw [show vI p = vI ((p.toNat : Nat) : Int) by rw [Int.toNat_of_nonneg (by omega)]]
                refine q_iload_n (t := 80) F dX9_told_79 rfl rfl rfl ?_
                first | refine ldN_35 (t := 81) F dX9_told_80 (by omega) rfl ?_ | refine ld_35 (t := 81) F dX9_told_80 (by omega) (by omega) rfl ?_
                try simp only [up_app, row_app, scr_app, cpy_app, Nat.reduceEqDiff, Int.reduceToNat, Int.toNat_natCast, and_true, true_and, and_false, false_and, and_self, reduceIte]
                refine q_goto (t := 103) F dX9_told_81 (by decide) ?_
                refine q_iret F dX9_told_103 rfl ?_
                first
                  | (exfalso; omega)
                  | (refine ⟨_, rfl, im, lm, ?_, hR, agY_rfl im, lgQ_rfl lm, rfl⟩
                     unfold tdR
                     first
                       | rw [if_neg (by omega)]
                       | (rw [if_pos (by omega)]; repeat (first | rw [if_pos (by omega)] | rw [if_neg (by omega)])))
                  | (refine ⟨_, rfl, im2, lm2, ?_, hR2, hag, hlg, rfl⟩
                     unfold tdR
                     rw [if_pos (by omega), if_neg (by omega), if_neg (by omega), if_neg (by omega), if_neg (by omega), if_neg (by omega), if_neg (by omega), if_neg (by omega), if_neg (by omega)]
                     exact hx)
            · refine q_aload_n (t := 64) F dX9_told_63 rfl rfl rfl ?_
              refine g_X9_23 (t := 67) F dX9_told_64 rfl rfl ?_
              try simp only [up_app, row_app, scr_app, cpy_app, Nat.reduceEqDiff, Int.reduceToNat, Int.toNat_natCast, and_true, true_and, and_false, false_and, and_self, reduceIte]
              refine q_goto (t := 103) F dX9_told_67 (by decide) ?_
              refine q_iret F dX9_told_103 rfl ?_
              first
                | (exfalso; omega)
                | (refine ⟨_, rfl, im, lm, ?_, hR, agY_rfl im, lgQ_rfl lm, rfl⟩
                   unfold tdR
                   first
                     | rw [if_neg (by omega)]
                     | (rw [if_pos (by omega)]; repeat (first | rw [if_pos (by omega)] | rw [if_neg (by omega)])))
                | (refine ⟨_, rfl, im2, lm2, ?_, hR2, hag, hlg, rfl⟩
                   unfold tdR
                   rw [if_pos (by omega), if_neg (by omega), if_neg (by omega), if_neg (by omega), if_neg (by omega), if_neg (by omega), if_neg (by omega), if_neg (by omega), if_neg (by omega)]
                   exact hx)
          · refine q_aload_n (t := 52) F dX9_told_51 rfl rfl rfl ?_
            refine g_X9_117 (t := 55) F dX9_told_52 rfl rfl ?_
            try simp only [up_app, row_app, scr_app, cpy_app, Nat.reduceEqDiff, Int.reduceToNat, Int.toNat_natCast, and_true, true_and, and_false, false_and, and_self, reduceIte]
            refine q_goto (t := 103) F dX9_told_55 (by decide) ?_
            refine q_iret F dX9_told_103 rfl ?_
            first
              | (exfalso; omega)
              | (refine ⟨_, rfl, im, lm, ?_, hR, agY_rfl im, lgQ_rfl lm, rfl⟩
                 unfold tdR
                 first
                   | rw [if_neg (by omega)]
                   | (rw [if_pos (by omega)]; repeat (first | rw [if_pos (by omega)] | rw [if_neg (by omega)])))
              | (refine ⟨_, rfl, im2, lm2, ?_, hR2, hag, hlg, rfl⟩
                 unfold tdR
                 rw [if_pos (by omega), if_neg (by omega), if_neg (by omega), if_neg (by omega), if_neg (by omega), if_neg (by omega), if_neg (by omega), if_neg (by omega), if_neg (by omega)]
                 exact hx)
      · refine q_bipush (t := 41) F dX9_told_39 (by decide) rfl ?_
        refine q_iret F dX9_told_41 rfl ?_
        first
          | (exfalso; omega)
          | (refine ⟨_, rfl, im, lm, ?_, hR, agY_rfl im, lgQ_rfl lm, rfl⟩
             unfold tdR
             first
               | rw [if_neg (by omega)]
               | (rw [if_pos (by omega)]; repeat (first | rw [if_pos (by omega)] | rw [if_neg (by omega)])))
          | (refine ⟨_, rfl, im2, lm2, ?_, hR2, hag, hlg, rfl⟩
             unfold tdR
             rw [if_pos (by omega), if_neg (by omega), if_neg (by omega), if_neg (by omega), if_neg (by omega), if_neg (by omega), if_neg (by omega), if_neg (by omega), if_neg (by omega)]
             exact hx)
  · refine q_iload_n (t := 13) F dX9_told_12 rfl rfl rfl ?_
    refine q_i2l (t := 14) F dX9_told_13 (by first | exact hR _ _ _ | (constructor <;> omega)) rfl ?_
    refine q_ldc2 (t := 17) (x := 10) F dX9_told_14 kl_X9_127 (by decide) rfl ?_
    refine q_ldc2 (t := 20) (x := 39) F dX9_told_17 kl_X9_129 (by decide) rfl ?_
    refine wp_callS (t := 23) [_, _, _] F dX9_told_20 k_X9_in st_X9_in ml_X9_91 rfl rfl (Nat.le_of_ble_eq_true rfl) (by decide) (c_X9_in _ G _ _ _ _ _ _ _ (by constructor <;> omega) (by constructor <;> omega) (by constructor <;> omega)) rfl (kI ?_)
    rintro x20 m' ⟨hx20, rfl⟩
    have hx20 := if01 hx20
    refine q_if_eq (t := 26) (u := 39) F dX9_told_23 (by first | exact hR _ _ _ | (constructor <;> omega)) (by decide) rfl (fun c23 => ?_) (fun c23 => ?_)
    · refine q_bipush (t := 41) F dX9_told_39 (by decide) rfl ?_
      refine q_iret F dX9_told_41 rfl ?_
      first
        | (exfalso; omega)
        | (refine ⟨_, rfl, im, lm, ?_, hR, agY_rfl im, lgQ_rfl lm, rfl⟩
           unfold tdR
           first
             | rw [if_neg (by omega)]
             | (rw [if_pos (by omega)]; repeat (first | rw [if_pos (by omega)] | rw [if_neg (by omega)])))
        | (refine ⟨_, rfl, im2, lm2, ?_, hR2, hag, hlg, rfl⟩
           unfold tdR
           rw [if_pos (by omega), if_neg (by omega), if_neg (by omega), if_neg (by omega), if_neg (by omega), if_neg (by omega), if_neg (by omega), if_neg (by omega), if_neg (by omega)]
           exact hx)
    · refine q_iload_n (t := 27) F dX9_told_26 rfl rfl rfl ?_
      refine q_iconst (t := 28) F dX9_told_27 rfl ?_
      refine q_icmp_le (t := 31) (u := 42) F dX9_told_28 (by first | exact hR _ _ _ | (constructor <;> omega)) (by first | exact hR _ _ _ | (constructor <;> omega)) (by decide) rfl (fun c28 => ?_) (fun c28 => ?_)
      · refine q_iload_n (t := 43) F dX9_told_42 rfl rfl rfl ?_
        refine q_iconst (t := 44) F dX9_told_43 rfl ?_
        refine q_icmp_ge (t := 47) (u := 104) F dX9_told_44 (by first | exact hR _ _ _ | (constructor <;> omega)) (by first | exact hR _ _ _ | (constructor <;> omega)) (by decide) rfl (fun c44 => ?_) (fun c44 => ?_)
        · refine q_bipush (t := 106) F dX9_told_104 (by decide) rfl ?_
          refine q_iload_n (t := 107) F dX9_told_106 rfl rfl rfl ?_
          refine q_imul (t := 108) F dX9_told_107 rfl ?_
          refine q_iload_n (t := 109) F dX9_told_108 rfl rfl rfl ?_
          refine q_bipush (t := 111) F dX9_told_109 (by decide) rfl ?_
          refine q_irem (t := 112) F dX9_told_111 (by first | exact hR _ _ _ | (constructor <;> omega)) (by first | exact hR _ _ _ | (constructor <;> omega)) (by omega) (by omega) rfl ?_
          refine q_iadd (t := 113) F dX9_told_112 rfl ?_
          rw [show (10 : Int) * p + w % 10 = ((10 * p.toNat + (w % 10).toNat : Nat) : Int) by omega]
          refine q_istore_n (t := 114) F dX9_told_113 rfl (by decide) rfl rfl ?_
          refine q_aload_n (t := 115) F dX9_told_114 rfl rfl rfl ?_
          refine g_X9_32 (t := 118) F dX9_told_115 rfl rfl ?_
          refine q_iload_n (t := 119) F dX9_told_118 rfl rfl rfl ?_
          first | refine ldN_36 (t := 120) F dX9_told_119 (by omega) rfl ?_ | refine ld_36 (t := 120) F dX9_told_119 (by omega) (by omega) rfl ?_
          try simp only [up_app, row_app, scr_app, cpy_app, Nat.reduceEqDiff, Int.reduceToNat, Int.toNat_natCast, and_true, true_and, and_false, false_and, and_self, reduceIte]
          refine q_iconst (t := 121) F dX9_told_120 rfl ?_
          refine q_icmp_ne (t := 124) (u := 126) F dX9_told_121 (by exact hR _ _ _) (by constructor <;> omega) (by decide) rfl (fun c121 => ?_) (fun c121 => ?_)
          · refine q_iload_n (t := 127) F dX9_told_126 rfl rfl rfl ?_
            refine q_bipush (t := 129) F dX9_told_127 (by decide) rfl ?_
            refine q_icmp_ge (t := 132) (u := 141) F dX9_told_129 (by first | exact hR _ _ _ | (constructor <;> omega)) (by first | exact hR _ _ _ | (constructor <;> omega)) (by decide) rfl (fun c129 => ?_) (fun c129 => ?_)
            · refine q_iload_n (t := 142) F dX9_told_141 rfl rfl rfl ?_
              refine q_bipush (t := 144) F dX9_told_142 (by decide) rfl ?_
              refine q_icmp_ge (t := 147) (u := 156) F dX9_told_144 (by first | exact hR _ _ _ | (constructor <;> omega)) (by first | exact hR _ _ _ | (constructor <;> omega)) (by decide) rfl (fun c144 => ?_) (fun c144 => ?_)
              · refine q_aload_n (t := 157) F dX9_told_156 rfl rfl rfl ?_
                refine q_iload_n (t := 158) F dX9_told_157 rfl rfl rfl ?_
                refine wp_callV (t := 161) [_] F dX9_told_158 k_X9_holdsIn v_X9_holdsIn ml_X9_135 rfl rfl rfl rfl (Nat.le_of_ble_eq_true rfl) (by decide) (m_30 (by omega)) (c_X9_holdsIn _ G im bt rt lm h (10 * p.toNat + (w % 10).toNat) (by omega)) rfl (kI ?_)
                rintro x158 m' ⟨im2, lm2, hx, hR2, hag, hlg, rfl⟩
                refine q_iret F dX9_told_161 rfl ?_
                first
                  | (exfalso; omega)
                  | (refine ⟨_, rfl, im, lm, ?_, hR, agY_rfl im, lgQ_rfl lm, rfl⟩
                     unfold tdR
                     first
                       | rw [if_neg (by omega)]
                       | (rw [if_pos (by omega)]; repeat (first | rw [if_pos (by omega)] | rw [if_neg (by omega)])))
                  | (refine ⟨_, rfl, im2, lm2, ?_, hR2, hag, hlg, rfl⟩
                     unfold tdR
                     rw [if_pos (by omega), if_neg (by omega), if_neg (by omega), if_neg (by omega), if_neg (by omega), if_neg (by omega), if_neg (by omega), if_neg (by omega), if_neg (by omega)]
                     exact hx)
              · refine q_aload_n (t := 148) F dX9_told_147 rfl rfl rfl ?_
                refine g_X9_35 (t := 151) F dX9_told_148 rfl rfl ?_
                refine q_iload_n (t := 152) F dX9_told_151 rfl rfl rfl ?_
                first | refine ldN_37 (t := 153) F dX9_told_152 (by omega) rfl ?_ | refine ld_37 (t := 153) F dX9_told_152 (by omega) (by omega) rfl ?_
                try simp only [up_app, row_app, scr_app, cpy_app, Nat.reduceEqDiff, Int.reduceToNat, Int.toNat_natCast, and_true, true_and, and_false, false_and, and_self, reduceIte]
                refine q_goto (t := 161) F dX9_told_153 (by decide) ?_
                refine q_iret F dX9_told_161 rfl ?_
                first
                  | (exfalso; omega)
                  | (refine ⟨_, rfl, im, lm, ?_, hR, agY_rfl im, lgQ_rfl lm, rfl⟩
                     unfold tdR
                     first
                       | rw [if_neg (by omega)]
                       | (rw [if_pos (by omega)]; repeat (first | rw [if_pos (by omega)] | rw [if_neg (by omega)])))
                  | (refine ⟨_, rfl, im2, lm2, ?_, hR2, hag, hlg, rfl⟩
                     unfold tdR
                     rw [if_pos (by omega), if_neg (by omega), if_neg (by omega), if_neg (by omega), if_neg (by omega), if_neg (by omega), if_neg (by omega), if_neg (by omega), if_neg (by omega)]
                     exact hx)
            · refine q_aload_n (t := 133) F dX9_told_132 rfl rfl rfl ?_
              refine g_X9_32 (t := 136) F dX9_told_133 rfl rfl ?_
              refine q_iload_n (t := 137) F dX9_told_136 rfl rfl rfl ?_
              first | refine ldN_36 (t := 138) F dX9_told_137 (by omega) rfl ?_ | refine ld_36 (t := 138) F dX9_told_137 (by omega) (by omega) rfl ?_
              try simp only [up_app, row_app, scr_app, cpy_app, Nat.reduceEqDiff, Int.reduceToNat, Int.toNat_natCast, and_true, true_and, and_false, false_and, and_self, reduceIte]
              refine q_goto (t := 161) F dX9_told_138 (by decide) ?_
              refine q_iret F dX9_told_161 rfl ?_
              first
                | (exfalso; omega)
                | (refine ⟨_, rfl, im, lm, ?_, hR, agY_rfl im, lgQ_rfl lm, rfl⟩
                   unfold tdR
                   first
                     | rw [if_neg (by omega)]
                     | (rw [if_pos (by omega)]; repeat (first | rw [if_pos (by omega)] | rw [if_neg (by omega)])))
                | (refine ⟨_, rfl, im2, lm2, ?_, hR2, hag, hlg, rfl⟩
                   unfold tdR
                   rw [if_pos (by omega), if_neg (by omega), if_neg (by omega), if_neg (by omega), if_neg (by omega), if_neg (by omega), if_neg (by omega), if_neg (by omega), if_neg (by omega)]
                   exact hx)
          · refine q_iconst (t := 125) F dX9_told_124 rfl ?_
            refine q_iret F dX9_told_125 rfl ?_
            first
              | (exfalso; omega)
              | (refine ⟨_, rfl, im, lm, ?_, hR, agY_rfl im, lgQ_rfl lm, rfl⟩
                 unfold tdR
                 first
                   | rw [if_neg (by omega)]
                   | (rw [if_pos (by omega)]; repeat (first | rw [if_pos (by omega)] | rw [if_neg (by omega)])))
              | (refine ⟨_, rfl, im2, lm2, ?_, hR2, hag, hlg, rfl⟩
                 unfold tdR
                 rw [if_pos (by omega), if_neg (by omega), if_neg (by omega), if_neg (by omega), if_neg (by omega), if_neg (by omega), if_neg (by omega), if_neg (by omega), if_neg (by omega)]
                 exact hx)
        · refine q_iload_n (t := 48) F dX9_told_47 rfl rfl rfl ?_
          refine q_if_ne (t := 51) (u := 58) F dX9_told_48 (by first | exact hR _ _ _ | (constructor <;> omega)) (by decide) rfl (fun c48 => ?_) (fun c48 => ?_)
          · refine q_iload_n (t := 59) F dX9_told_58 rfl rfl rfl ?_
            refine q_iconst (t := 60) F dX9_told_59 rfl ?_
            refine q_icmp_ne (t := 63) (u := 70) F dX9_told_60 (by first | exact hR _ _ _ | (constructor <;> omega)) (by first | exact hR _ _ _ | (constructor <;> omega)) (by decide) rfl (fun c60 => ?_) (fun c60 => ?_)
            · refine q_iload_n (t := 71) F dX9_told_70 rfl rfl rfl ?_
              refine q_iconst (t := 72) F dX9_told_71 rfl ?_
              refine q_icmp_ne (t := 75) (u := 84) F dX9_told_72 (by first | exact hR _ _ _ | (constructor <;> omega)) (by first | exact hR _ _ _ | (constructor <;> omega)) (by decide) rfl (fun c72 => ?_) (fun c72 => ?_)
              · refine q_iload_n (t := 85) F dX9_told_84 rfl rfl rfl ?_
                refine q_iconst (t := 86) F dX9_told_85 rfl ?_
                refine q_icmp_ne (t := 89) (u := 98) F dX9_told_86 (by first | exact hR _ _ _ | (constructor <;> omega)) (by first | exact hR _ _ _ | (constructor <;> omega)) (by decide) rfl (fun c86 => ?_) (fun c86 => ?_)
                · refine q_aload_n (t := 99) F dX9_told_98 rfl rfl rfl ?_
                  refine q_iload_n (t := 100) F dX9_told_99 rfl rfl rfl ?_
                  rw [show vI p = vI ((p.toNat : Nat) : Int) by rw [Int.toNat_of_nonneg (by omega)]]
                  refine wp_callV (t := 103) [_] F dX9_told_100 k_X9_stuckOf v_X9_stuckOf ml_X9_131 rfl rfl rfl rfl (Nat.le_of_ble_eq_true rfl) (by decide) (m_30 (by omega)) (c_X9_stuckOf _ G im bt rt lm hR p.toNat (by omega)) rfl (kI ?_)
                  rintro x100 m' ⟨rfl, rfl⟩
                  refine q_iret F dX9_told_103 rfl ?_
                  first
                    | (exfalso; omega)
                    | (refine ⟨_, rfl, im, lm, ?_, hR, agY_rfl im, lgQ_rfl lm, rfl⟩
                       unfold tdR
                       first
                         | rw [if_neg (by omega)]
                         | (rw [if_pos (by omega)]; repeat (first | rw [if_pos (by omega)] | rw [if_neg (by omega)])))
                    | (refine ⟨_, rfl, im2, lm2, ?_, hR2, hag, hlg, rfl⟩
                       unfold tdR
                       rw [if_pos (by omega), if_neg (by omega), if_neg (by omega), if_neg (by omega), if_neg (by omega), if_neg (by omega), if_neg (by omega), if_neg (by omega), if_neg (by omega)]
                       exact hx)
                · refine q_aload_n (t := 90) F dX9_told_89 rfl rfl rfl ?_
                  refine g_X9_26 (t := 93) F dX9_told_90 rfl rfl ?_
                  rw [show vI p = vI ((p.toNat : Nat) : Int) by rw [Int.toNat_of_nonneg (by omega)]]
                  refine q_iload_n (t := 94) F dX9_told_93 rfl rfl rfl ?_
                  first | refine ldN_34 (t := 95) F dX9_told_94 (by omega) rfl ?_ | refine ld_34 (t := 95) F dX9_told_94 (by omega) (by omega) rfl ?_
                  try simp only [up_app, row_app, scr_app, cpy_app, Nat.reduceEqDiff, Int.reduceToNat, Int.toNat_natCast, and_true, true_and, and_false, false_and, and_self, reduceIte]
                  refine q_goto (t := 103) F dX9_told_95 (by decide) ?_
                  refine q_iret F dX9_told_103 rfl ?_
                  first
                    | (exfalso; omega)
                    | (refine ⟨_, rfl, im, lm, ?_, hR, agY_rfl im, lgQ_rfl lm, rfl⟩
                       unfold tdR
                       first
                         | rw [if_neg (by omega)]
                         | (rw [if_pos (by omega)]; repeat (first | rw [if_pos (by omega)] | rw [if_neg (by omega)])))
                    | (refine ⟨_, rfl, im2, lm2, ?_, hR2, hag, hlg, rfl⟩
                       unfold tdR
                       rw [if_pos (by omega), if_neg (by omega), if_neg (by omega), if_neg (by omega), if_neg (by omega), if_neg (by omega), if_neg (by omega), if_neg (by omega), if_neg (by omega)]
                       exact hx)
              · refine q_aload_n (t := 76) F dX9_told_75 rfl rfl rfl ?_
                refine g_X9_29 (t := 79) F dX9_told_76 rfl rfl ?_
                rw [show vI p = vI ((p.toNat : Nat) : Int) by rw [Int.toNat_of_nonneg (by omega)]]
                refine q_iload_n (t := 80) F dX9_told_79 rfl rfl rfl ?_
                first | refine ldN_35 (t := 81) F dX9_told_80 (by omega) rfl ?_ | refine ld_35 (t := 81) F dX9_told_80 (by omega) (by omega) rfl ?_
                try simp only [up_app, row_app, scr_app, cpy_app, Nat.reduceEqDiff, Int.reduceToNat, Int.toNat_natCast, and_true, true_and, and_false, false_and, and_self, reduceIte]
                refine q_goto (t := 103) F dX9_told_81 (by decide) ?_
                refine q_iret F dX9_told_103 rfl ?_
                first
                  | (exfalso; omega)
                  | (refine ⟨_, rfl, im, lm, ?_, hR, agY_rfl im, lgQ_rfl lm, rfl⟩
                     unfold tdR
                     first
                       | rw [if_neg (by omega)]
                       | (rw [if_pos (by omega)]; repeat (first | rw [if_pos (by omega)] | rw [if_neg (by omega)])))
                  | (refine ⟨_, rfl, im2, lm2, ?_, hR2, hag, hlg, rfl⟩
                     unfold tdR
                     rw [if_pos (by omega), if_neg (by omega), if_neg (by omega), if_neg (by omega), if_neg (by omega), if_neg (by omega), if_neg (by omega), if_neg (by omega), if_neg (by omega)]
                     exact hx)
            · refine q_aload_n (t := 64) F dX9_told_63 rfl rfl rfl ?_
              refine g_X9_23 (t := 67) F dX9_told_64 rfl rfl ?_
              try simp only [up_app, row_app, scr_app, cpy_app, Nat.reduceEqDiff, Int.reduceToNat, Int.toNat_natCast, and_true, true_and, and_false, false_and, and_self, reduceIte]
              refine q_goto (t := 103) F dX9_told_67 (by decide) ?_
              refine q_iret F dX9_told_103 rfl ?_
              first
                | (exfalso; omega)
                | (refine ⟨_, rfl, im, lm, ?_, hR, agY_rfl im, lgQ_rfl lm, rfl⟩
                   unfold tdR
                   first
                     | rw [if_neg (by omega)]
                     | (rw [if_pos (by omega)]; repeat (first | rw [if_pos (by omega)] | rw [if_neg (by omega)])))
                | (refine ⟨_, rfl, im2, lm2, ?_, hR2, hag, hlg, rfl⟩
                   unfold tdR
                   rw [if_pos (by omega), if_neg (by omega), if_neg (by omega), if_neg (by omega), if_neg (by omega), if_neg (by omega), if_neg (by omega), if_neg (by omega), if_neg (by omega)]
                   exact hx)
          · refine q_aload_n (t := 52) F dX9_told_51 rfl rfl rfl ?_
            refine g_X9_117 (t := 55) F dX9_told_52 rfl rfl ?_
            try simp only [up_app, row_app, scr_app, cpy_app, Nat.reduceEqDiff, Int.reduceToNat, Int.toNat_natCast, and_true, true_and, and_false, false_and, and_self, reduceIte]
            refine q_goto (t := 103) F dX9_told_55 (by decide) ?_
            refine q_iret F dX9_told_103 rfl ?_
            first
              | (exfalso; omega)
              | (refine ⟨_, rfl, im, lm, ?_, hR, agY_rfl im, lgQ_rfl lm, rfl⟩
                 unfold tdR
                 first
                   | rw [if_neg (by omega)]
                   | (rw [if_pos (by omega)]; repeat (first | rw [if_pos (by omega)] | rw [if_neg (by omega)])))
              | (refine ⟨_, rfl, im2, lm2, ?_, hR2, hag, hlg, rfl⟩
                 unfold tdR
                 rw [if_pos (by omega), if_neg (by omega), if_neg (by omega), if_neg (by omega), if_neg (by omega), if_neg (by omega), if_neg (by omega), if_neg (by omega), if_neg (by omega)]
                 exact hx)
      · refine q_aload_n (t := 32) F dX9_told_31 rfl rfl rfl ?_
        refine q_iload_n (t := 33) F dX9_told_32 rfl rfl rfl ?_
        refine wp_callV (t := 36) [_] F dX9_told_33 k_X9_isOne v_X9_isOne ml_X9_101 rfl rfl rfl rfl (Nat.le_of_ble_eq_true rfl) (by decide) (m_30 (by omega)) (c_X9_isOne _ G im bt rt lm hR h12.1 h12.2 p (by constructor <;> omega)) rfl (kI ?_)
        rintro x33 m' ⟨hx33, rfl⟩
        have hx33 := if01 hx33
        refine q_if_ne (t := 39) (u := 42) F dX9_told_36 (by first | exact hR _ _ _ | (constructor <;> omega)) (by decide) rfl (fun c36 => ?_) (fun c36 => ?_)
        · refine q_iload_n (t := 43) F dX9_told_42 rfl rfl rfl ?_
          refine q_iconst (t := 44) F dX9_told_43 rfl ?_
          refine q_icmp_ge (t := 47) (u := 104) F dX9_told_44 (by first | exact hR _ _ _ | (constructor <;> omega)) (by first | exact hR _ _ _ | (constructor <;> omega)) (by decide) rfl (fun c44 => ?_) (fun c44 => ?_)
          · refine q_bipush (t := 106) F dX9_told_104 (by decide) rfl ?_
            refine q_iload_n (t := 107) F dX9_told_106 rfl rfl rfl ?_
            refine q_imul (t := 108) F dX9_told_107 rfl ?_
            refine q_iload_n (t := 109) F dX9_told_108 rfl rfl rfl ?_
            refine q_bipush (t := 111) F dX9_told_109 (by decide) rfl ?_
            refine q_irem (t := 112) F dX9_told_111 (by first | exact hR _ _ _ | (constructor <;> omega)) (by first | exact hR _ _ _ | (constructor <;> omega)) (by omega) (by omega) rfl ?_
            refine q_iadd (t := 113) F dX9_told_112 rfl ?_
            rw [show (10 : Int) * p + w % 10 = ((10 * p.toNat + (w % 10).toNat : Nat) : Int) by omega]
            refine q_istore_n (t := 114) F dX9_told_113 rfl (by decide) rfl rfl ?_
            refine q_aload_n (t := 115) F dX9_told_114 rfl rfl rfl ?_
            refine g_X9_32 (t := 118) F dX9_told_115 rfl rfl ?_
            refine q_iload_n (t := 119) F dX9_told_118 rfl rfl rfl ?_
            first | refine ldN_36 (t := 120) F dX9_told_119 (by omega) rfl ?_ | refine ld_36 (t := 120) F dX9_told_119 (by omega) (by omega) rfl ?_
            try simp only [up_app, row_app, scr_app, cpy_app, Nat.reduceEqDiff, Int.reduceToNat, Int.toNat_natCast, and_true, true_and, and_false, false_and, and_self, reduceIte]
            refine q_iconst (t := 121) F dX9_told_120 rfl ?_
            refine q_icmp_ne (t := 124) (u := 126) F dX9_told_121 (by exact hR _ _ _) (by constructor <;> omega) (by decide) rfl (fun c121 => ?_) (fun c121 => ?_)
            · refine q_iload_n (t := 127) F dX9_told_126 rfl rfl rfl ?_
              refine q_bipush (t := 129) F dX9_told_127 (by decide) rfl ?_
              refine q_icmp_ge (t := 132) (u := 141) F dX9_told_129 (by first | exact hR _ _ _ | (constructor <;> omega)) (by first | exact hR _ _ _ | (constructor <;> omega)) (by decide) rfl (fun c129 => ?_) (fun c129 => ?_)
              · refine q_iload_n (t := 142) F dX9_told_141 rfl rfl rfl ?_
                refine q_bipush (t := 144) F dX9_told_142 (by decide) rfl ?_
                refine q_icmp_ge (t := 147) (u := 156) F dX9_told_144 (by first | exact hR _ _ _ | (constructor <;> omega)) (by first | exact hR _ _ _ | (constructor <;> omega)) (by decide) rfl (fun c144 => ?_) (fun c144 => ?_)
                · refine q_aload_n (t := 157) F dX9_told_156 rfl rfl rfl ?_
                  refine q_iload_n (t := 158) F dX9_told_157 rfl rfl rfl ?_
                  refine wp_callV (t := 161) [_] F dX9_told_158 k_X9_holdsIn v_X9_holdsIn ml_X9_135 rfl rfl rfl rfl (Nat.le_of_ble_eq_true rfl) (by decide) (m_30 (by omega)) (c_X9_holdsIn _ G im bt rt lm h (10 * p.toNat + (w % 10).toNat) (by omega)) rfl (kI ?_)
                  rintro x158 m' ⟨im2, lm2, hx, hR2, hag, hlg, rfl⟩
                  refine q_iret F dX9_told_161 rfl ?_
                  first
                    | (exfalso; omega)
                    | (refine ⟨_, rfl, im, lm, ?_, hR, agY_rfl im, lgQ_rfl lm, rfl⟩
                       unfold tdR
                       first
                         | rw [if_neg (by omega)]
                         | (rw [if_pos (by omega)]; repeat (first | rw [if_pos (by omega)] | rw [if_neg (by omega)])))
                    | (refine ⟨_, rfl, im2, lm2, ?_, hR2, hag, hlg, rfl⟩
                       unfold tdR
                       rw [if_pos (by omega), if_neg (by omega), if_neg (by omega), if_neg (by omega), if_neg (by omega), if_neg (by omega), if_neg (by omega), if_neg (by omega), if_neg (by omega)]
                       exact hx)
                · refine q_aload_n (t := 148) F dX9_told_147 rfl rfl rfl ?_
                  refine g_X9_35 (t := 151) F dX9_told_148 rfl rfl ?_
                  refine q_iload_n (t := 152) F dX9_told_151 rfl rfl rfl ?_
                  first | refine ldN_37 (t := 153) F dX9_told_152 (by omega) rfl ?_ | refine ld_37 (t := 153) F dX9_told_152 (by omega) (by omega) rfl ?_
                  try simp only [up_app, row_app, scr_app, cpy_app, Nat.reduceEqDiff, Int.reduceToNat, Int.toNat_natCast, and_true, true_and, and_false, false_and, and_self, reduceIte]
                  refine q_goto (t := 161) F dX9_told_153 (by decide) ?_
                  refine q_iret F dX9_told_161 rfl ?_
                  first
                    | (exfalso; omega)
                    | (refine ⟨_, rfl, im, lm, ?_, hR, agY_rfl im, lgQ_rfl lm, rfl⟩
                       unfold tdR
                       first
                         | rw [if_neg (by omega)]
                         | (rw [if_pos (by omega)]; repeat (first | rw [if_pos (by omega)] | rw [if_neg (by omega)])))
                    | (refine ⟨_, rfl, im2, lm2, ?_, hR2, hag, hlg, rfl⟩
                       unfold tdR
                       rw [if_pos (by omega), if_neg (by omega), if_neg (by omega), if_neg (by omega), if_neg (by omega), if_neg (by omega), if_neg (by omega), if_neg (by omega), if_neg (by omega)]
                       exact hx)
              · refine q_aload_n (t := 133) F dX9_told_132 rfl rfl rfl ?_
                refine g_X9_32 (t := 136) F dX9_told_133 rfl rfl ?_
                refine q_iload_n (t := 137) F dX9_told_136 rfl rfl rfl ?_
                first | refine ldN_36 (t := 138) F dX9_told_137 (by omega) rfl ?_ | refine ld_36 (t := 138) F dX9_told_137 (by omega) (by omega) rfl ?_
                try simp only [up_app, row_app, scr_app, cpy_app, Nat.reduceEqDiff, Int.reduceToNat, Int.toNat_natCast, and_true, true_and, and_false, false_and, and_self, reduceIte]
                refine q_goto (t := 161) F dX9_told_138 (by decide) ?_
                refine q_iret F dX9_told_161 rfl ?_
                first
                  | (exfalso; omega)
                  | (refine ⟨_, rfl, im, lm, ?_, hR, agY_rfl im, lgQ_rfl lm, rfl⟩
                     unfold tdR
                     first
                       | rw [if_neg (by omega)]
                       | (rw [if_pos (by omega)]; repeat (first | rw [if_pos (by omega)] | rw [if_neg (by omega)])))
                  | (refine ⟨_, rfl, im2, lm2, ?_, hR2, hag, hlg, rfl⟩
                     unfold tdR
                     rw [if_pos (by omega), if_neg (by omega), if_neg (by omega), if_neg (by omega), if_neg (by omega), if_neg (by omega), if_neg (by omega), if_neg (by omega), if_neg (by omega)]
                     exact hx)
            · refine q_iconst (t := 125) F dX9_told_124 rfl ?_
              refine q_iret F dX9_told_125 rfl ?_
              first
                | (exfalso; omega)
                | (refine ⟨_, rfl, im, lm, ?_, hR, agY_rfl im, lgQ_rfl lm, rfl⟩
                   unfold tdR
                   first
                     | rw [if_neg (by omega)]
                     | (rw [if_pos (by omega)]; repeat (first | rw [if_pos (by omega)] | rw [if_neg (by omega)])))
                | (refine ⟨_, rfl, im2, lm2, ?_, hR2, hag, hlg, rfl⟩
                   unfold tdR
                   rw [if_pos (by omega), if_neg (by omega), if_neg (by omega), if_neg (by omega), if_neg (by omega), if_neg (by omega), if_neg (by omega), if_neg (by omega), if_neg (by omega)]
                   exact hx)
          · refine q_iload_n (t := 48) F dX9_told_47 rfl rfl rfl ?_
            refine q_if_ne (t := 51) (u := 58) F dX9_told_48 (by first | exact hR _ _ _ | (constructor <;> omega)) (by decide) rfl (fun c48 => ?_) (fun c48 => ?_)
            · refine q_iload_n (t := 59) F dX9_told_58 rfl rfl rfl ?_
              refine q_iconst (t := 60) F dX9_told_59 rfl ?_
              refine q_icmp_ne (t := 63) (u := 70) F dX9_told_60 (by first | exact hR _ _ _ | (constructor <;> omega)) (by first | exact hR _ _ _ | (constructor <;> omega)) (by decide) rfl (fun c60 => ?_) (fun c60 => ?_)
              · refine q_iload_n (t := 71) F dX9_told_70 rfl rfl rfl ?_
                refine q_iconst (t := 72) F dX9_told_71 rfl ?_
                refine q_icmp_ne (t := 75) (u := 84) F dX9_told_72 (by first | exact hR _ _ _ | (constructor <;> omega)) (by first | exact hR _ _ _ | (constructor <;> omega)) (by decide) rfl (fun c72 => ?_) (fun c72 => ?_)
                · refine q_iload_n (t := 85) F dX9_told_84 rfl rfl rfl ?_
                  refine q_iconst (t := 86) F dX9_told_85 rfl ?_
                  refine q_icmp_ne (t := 89) (u := 98) F dX9_told_86 (by first | exact hR _ _ _ | (constructor <;> omega)) (by first | exact hR _ _ _ | (constructor <;> omega)) (by decide) rfl (fun c86 => ?_) (fun c86 => ?_)
                  · refine q_aload_n (t := 99) F dX9_told_98 rfl rfl rfl ?_
                    refine q_iload_n (t := 100) F dX9_told_99 rfl rfl rfl ?_
                    rw [show vI p = vI ((p.toNat : Nat) : Int) by rw [Int.toNat_of_nonneg (by omega)]]
                    refine wp_callV (t := 103) [_] F dX9_told_100 k_X9_stuckOf v_X9_stuckOf ml_X9_131 rfl rfl rfl rfl (Nat.le_of_ble_eq_true rfl) (by decide) (m_30 (by omega)) (c_X9_stuckOf _ G im bt rt lm hR p.toNat (by omega)) rfl (kI ?_)
                    rintro x100 m' ⟨rfl, rfl⟩
                    refine q_iret F dX9_told_103 rfl ?_
                    first
                      | (exfalso; omega)
                      | (refine ⟨_, rfl, im, lm, ?_, hR, agY_rfl im, lgQ_rfl lm, rfl⟩
                         unfold tdR
                         first
                           | rw [if_neg (by omega)]
                           | (rw [if_pos (by omega)]; repeat (first | rw [if_pos (by omega)] | rw [if_neg (by omega)])))
                      | (refine ⟨_, rfl, im2, lm2, ?_, hR2, hag, hlg, rfl⟩
                         unfold tdR
                         rw [if_pos (by omega), if_neg (by omega), if_neg (by omega), if_neg (by omega), if_neg (by omega), if_neg (by omega), if_neg (by omega), if_neg (by omega), if_neg (by omega)]
                         exact hx)
                  · refine q_aload_n (t := 90) F dX9_told_89 rfl rfl rfl ?_
                    refine g_X9_26 (t := 93) F dX9_told_90 rfl rfl ?_
                    rw [show vI p = vI ((p.toNat : Nat) : Int) by rw [Int.toNat_of_nonneg (by omega)]]
                    refine q_iload_n (t := 94) F dX9_told_93 rfl rfl rfl ?_
                    first | refine ldN_34 (t := 95) F dX9_told_94 (by omega) rfl ?_ | refine ld_34 (t := 95) F dX9_told_94 (by omega) (by omega) rfl ?_
                    try simp only [up_app, row_app, scr_app, cpy_app, Nat.reduceEqDiff, Int.reduceToNat, Int.toNat_natCast, and_true, true_and, and_false, false_and, and_self, reduceIte]
                    refine q_goto (t := 103) F dX9_told_95 (by decide) ?_
                    refine q_iret F dX9_told_103 rfl ?_
                    first
                      | (exfalso; omega)
                      | (refine ⟨_, rfl, im, lm, ?_, hR, agY_rfl im, lgQ_rfl lm, rfl⟩
                         unfold tdR
                         first
                           | rw [if_neg (by omega)]
                           | (rw [if_pos (by omega)]; repeat (first | rw [if_pos (by omega)] | rw [if_neg (by omega)])))
                      | (refine ⟨_, rfl, im2, lm2, ?_, hR2, hag, hlg, rfl⟩
                         unfold tdR
                         rw [if_pos (by omega), if_neg (by omega), if_neg (by omega), if_neg (by omega), if_neg (by omega), if_neg (by omega), if_neg (by omega), if_neg (by omega), if_neg (by omega)]
                         exact hx)
                · refine q_aload_n (t := 76) F dX9_told_75 rfl rfl rfl ?_
                  refine g_X9_29 (t := 79) F dX9_told_76 rfl rfl ?_
                  rw [show vI p = vI ((p.toNat : Nat) : Int) by rw [Int.toNat_of_nonneg (by omega)]]
                  refine q_iload_n (t := 80) F dX9_told_79 rfl rfl rfl ?_
                  first | refine ldN_35 (t := 81) F dX9_told_80 (by omega) rfl ?_ | refine ld_35 (t := 81) F dX9_told_80 (by omega) (by omega) rfl ?_
                  try simp only [up_app, row_app, scr_app, cpy_app, Nat.reduceEqDiff, Int.reduceToNat, Int.toNat_natCast, and_true, true_and, and_false, false_and, and_self, reduceIte]
                  refine q_goto (t := 103) F dX9_told_81 (by decide) ?_
                  refine q_iret F dX9_told_103 rfl ?_
                  first
                    | (exfalso; omega)
                    | (refine ⟨_, rfl, im, lm, ?_, hR, agY_rfl im, lgQ_rfl lm, rfl⟩
                       unfold tdR
                       first
                         | rw [if_neg (by omega)]
                         | (rw [if_pos (by omega)]; repeat (first | rw [if_pos (by omega)] | rw [if_neg (by omega)])))
                    | (refine ⟨_, rfl, im2, lm2, ?_, hR2, hag, hlg, rfl⟩
                       unfold tdR
                       rw [if_pos (by omega), if_neg (by omega), if_neg (by omega), if_neg (by omega), if_neg (by omega), if_neg (by omega), if_neg (by omega), if_neg (by omega), if_neg (by omega)]
                       exact hx)
              · refine q_aload_n (t := 64) F dX9_told_63 rfl rfl rfl ?_
                refine g_X9_23 (t := 67) F dX9_told_64 rfl rfl ?_
                try simp only [up_app, row_app, scr_app, cpy_app, Nat.reduceEqDiff, Int.reduceToNat, Int.toNat_natCast, and_true, true_and, and_false, false_and, and_self, reduceIte]
                refine q_goto (t := 103) F dX9_told_67 (by decide) ?_
                refine q_iret F dX9_told_103 rfl ?_
                first
                  | (exfalso; omega)
                  | (refine ⟨_, rfl, im, lm, ?_, hR, agY_rfl im, lgQ_rfl lm, rfl⟩
                     unfold tdR
                     first
                       | rw [if_neg (by omega)]
                       | (rw [if_pos (by omega)]; repeat (first | rw [if_pos (by omega)] | rw [if_neg (by omega)])))
                  | (refine ⟨_, rfl, im2, lm2, ?_, hR2, hag, hlg, rfl⟩
                     unfold tdR
                     rw [if_pos (by omega), if_neg (by omega), if_neg (by omega), if_neg (by omega), if_neg (by omega), if_neg (by omega), if_neg (by omega), if_neg (by omega), if_neg (by omega)]
                     exact hx)
            · refine q_aload_n (t := 52) F dX9_told_51 rfl rfl rfl ?_
              refine g_X9_117 (t := 55) F dX9_told_52 rfl rfl ?_
              try simp only [up_app, row_app, scr_app, cpy_app, Nat.reduceEqDiff, Int.reduceToNat, Int.toNat_natCast, and_true, true_and, and_false, false_and, and_self, reduceIte]
              refine q_goto (t := 103) F dX9_told_55 (by decide) ?_
              refine q_iret F dX9_told_103 rfl ?_
              first
                | (exfalso; omega)
                | (refine ⟨_, rfl, im, lm, ?_, hR, agY_rfl im, lgQ_rfl lm, rfl⟩
                   unfold tdR
                   first
                     | rw [if_neg (by omega)]
                     | (rw [if_pos (by omega)]; repeat (first | rw [if_pos (by omega)] | rw [if_neg (by omega)])))
                | (refine ⟨_, rfl, im2, lm2, ?_, hR2, hag, hlg, rfl⟩
                   unfold tdR
                   rw [if_pos (by omega), if_neg (by omega), if_neg (by omega), if_neg (by omega), if_neg (by omega), if_neg (by omega), if_neg (by omega), if_neg (by omega), if_neg (by omega)]
                   exact hx)
        · refine q_bipush (t := 41) F dX9_told_39 (by decide) rfl ?_
          refine q_iret F dX9_told_41 rfl ?_
          first
            | (exfalso; omega)
            | (refine ⟨_, rfl, im, lm, ?_, hR, agY_rfl im, lgQ_rfl lm, rfl⟩
               unfold tdR
               first
                 | rw [if_neg (by omega)]
                 | (rw [if_pos (by omega)]; repeat (first | rw [if_pos (by omega)] | rw [if_neg (by omega)])))
            | (refine ⟨_, rfl, im2, lm2, ?_, hR2, hag, hlg, rfl⟩
               unfold tdR
               rw [if_pos (by omega), if_neg (by omega), if_neg (by omega), if_neg (by omega), if_neg (by omega), if_neg (by omega), if_neg (by omega), if_neg (by omega), if_neg (by omega)]
               exact hx)
end
section
/-! the reference: what a kiss hands on -/

def hnC (im : IM) (p q g : Nat) : Prop := im 36 0 (10 * p + g) ≠ -1 ∧ im 36 0 (10 * q + g) = -1
def hnR (im : IM) (p q n : Nat) : IM := fun k i s => if (k = 36 ∨ k = 37) ∧ i = 0 ∧ s / 10 = q ∧ s % 10 < n ∧ im 36 0 (10 * p + s % 10) ≠ -1 ∧ im 36 0 (10 * q + s % 10) = -1 then (if k = 36 then im 36 0 (10 * p + s % 10) else 0) else if k = 36 ∧ i = 0 ∧ s / 10 = p ∧ s % 10 < n ∧ im 36 0 (10 * p + s % 10) ≠ -1 ∧ im 36 0 (10 * q + s % 10) = -1 then -1 else im k i s
def hnN (im : IM) (p q : Nat) : Nat → Int
  | 0 => 0
  | n + 1 => hnN im p q n + (if im 36 0 (10 * p + n) ≠ -1 ∧ im 36 0 (10 * q + n) = -1 then 1 else 0)
theorem hnN_in (im : IM) (p q n : Nat) : 0 ≤ hnN im p q n ∧ hnN im p q n ≤ n := by
  induction n with
  | zero => exact ⟨Int.le_refl 0, Int.le_refl 0⟩
  | succ n ih =>
    have e : hnN im p q (n + 1) = hnN im p q n + (if im 36 0 (10 * p + n) ≠ -1 ∧ im 36 0 (10 * q + n) = -1 then 1 else 0) := rfl
    rw [e]
    split <;> omega
theorem hnR_0 (im : IM) (p q : Nat) : hnR im p q 0 = im := by
  funext k i s
  unfold hnR
  rw [if_neg (by omega), if_neg (by omega)]
theorem hnR_p {im : IM} {p q n : Nat} (hpq : p ≠ q) (hn : n < 10) : hnR im p q n 36 0 (10 * p + n) = im 36 0 (10 * p + n) ∧ hnR im p q n 36 0 (10 * q + n) = im 36 0 (10 * q + n) := by
  constructor <;> (unfold hnR; rw [if_neg (by omega), if_neg (by omega)])
theorem hnR_n {im : IM} {p q n : Nat} (hn : n < 10) (h : ¬ (im 36 0 (10 * p + n) ≠ -1 ∧ im 36 0 (10 * q + n) = -1)) : hnR im p q (n + 1) = hnR im p q n := by
  funext k i s
  unfold hnR
  by_cases hs : s % 10 = n
  · rw [hs]
    rw [if_neg (fun z => h ⟨z.2.2.2.2.1, z.2.2.2.2.2⟩), if_neg (fun z => h ⟨z.2.2.2.2.1, z.2.2.2.2.2⟩), if_neg (by omega), if_neg (by omega)]
  · have e : (s % 10 < n + 1) = (s % 10 < n) := propext ⟨fun z => by omega, fun z => by omega⟩
    simp only [e]
theorem hnR_y {im : IM} {p q n : Nat} (hpq : p ≠ q) (hn : n < 10) (h : im 36 0 (10 * p + n) ≠ -1 ∧ im 36 0 (10 * q + n) = -1) : up (up (up (hnR im p q n) 36 0 (10 * q + n) (im 36 0 (10 * p + n))) 37 0 (10 * q + n) 0) 36 0 (10 * p + n) (-1) = hnR im p q (n + 1) := by
  funext k i s
  rw [up_app, up_app, up_app]
  by_cases hs : s % 10 = n
  · by_cases hq : (k = 36 ∨ k = 37) ∧ i = 0 ∧ s / 10 = q
    · obtain ⟨hk, rfl, hsq⟩ := hq
      have es : s = 10 * q + n := by omega
      have e1 : hnR im p q (n + 1) k 0 s = (if k = 36 then im 36 0 (10 * p + n) else 0) := by
        unfold hnR
        rw [hs, if_pos ⟨hk, rfl, hsq, by omega, h.1, h.2⟩]
      rw [e1, if_neg (by omega)]
      rcases hk with rfl | rfl
      · rw [if_neg (by omega), if_pos ⟨rfl, rfl, es⟩, if_pos rfl]
      · rw [if_pos ⟨rfl, rfl, es⟩, if_neg (by omega)]
    · by_cases hp : k = 36 ∧ i = 0 ∧ s / 10 = p
      · obtain ⟨rfl, rfl, hsp⟩ := hp
        have es : s = 10 * p + n := by omega
        have e1 : hnR im p q (n + 1) 36 0 s = -1 := by
          unfold hnR
          rw [hs, if_neg (fun z => hq ⟨z.1, z.2.1, z.2.2.1⟩), if_pos ⟨rfl, rfl, hsp, by omega, h.1, h.2⟩]
        rw [e1, if_pos ⟨rfl, rfl, es⟩]
      · have e1 : ∀ m, hnR im p q m k i s = im k i s := fun m => by
          unfold hnR
          rw [if_neg (fun z => hq ⟨z.1, z.2.1, z.2.2.1⟩), if_neg (fun z => hp ⟨z.1, z.2.1, z.2.2.1⟩)]
        rw [if_neg (by omega), if_neg (by omega), if_neg (by omega), e1, e1]
  · rw [if_neg (by omega), if_neg (by omega), if_neg (by omega)]
    unfold hnR
    have e : (s % 10 < n + 1) = (s % 10 < n) := propext ⟨fun z => by omega, fun z => by omega⟩
    simp only [e]
theorem hnR_RI {im : IM} (h : RI im) (p q n : Nat) : RI (hnR im p q n) := by
  intro k i s
  unfold hnR
  (repeat' split) <;> first | exact h _ _ _ | (constructor <;> omega)

set_option maxHeartbeats 4000000 in
theorem c_X9_hands (l : Launch) (G : GS) (im : IM) (bt rt : Nat) (lm : IM) (hR : RI im) (p q : Nat) (hp : p < 5) (hq : q < 5) (hpq : p ≠ q) : Cn l (XR G) yX9_hands Y_X9_hands [vR 30 0, vI (p : Int), vI (q : Int)] (im, rs bt rt, lm) (pI fun x m' => x = hnN im p q 10 ∧ m' = (hnR im p q 10, rs bt rt, lm)) := by
  refine cn_of (by decide) (okR G) rfl (Nat.le_of_ble_eq_true rfl) ?_
  intro M ad hMl F
  subst hMl
  refine wp_pad 4 ?_
  show Wp M (XR G) ad Y_X9_hands (pI fun x m' => x = hnN im p q 10 ∧ m' = (hnR im p q 10, rs bt rt, lm)) 0 [some (vR 30 0), some (vI (p : Int)), some (vI (q : Int)), none, none, none, none] [] (im, rs bt rt, lm)
  refine q_iconst (t := 1) F dX9_hands_0 rfl ?_
  refine q_istore_n (t := 2) F dX9_hands_1 rfl (by decide) rfl rfl ?_
  refine q_iconst (t := 3) F dX9_hands_2 rfl ?_
  refine q_istore (t := 5) F dX9_hands_3 (by decide) rfl rfl ?_
  have L5 : ∀ (fz : Nat) (n : Nat), 10 - n < fz → n ≤ 10 → Wp M (XR G) ad Y_X9_hands (pI fun x m' => x = hnN im p q 10 ∧ m' = (hnR im p q 10, rs bt rt, lm)) 5 [some (vR 30 0), some (vI (p : Int)), some (vI (q : Int)), some (vI (hnN im p q n)), some (vI (n : Int)), none, none] [] (hnR im p q n, rs bt rt, lm) := by
    intro fz
    induction fz with
    | zero => intro n h; exact absurd h (Nat.not_lt_zero _)
    | succ fz ih =>
      have ih5 := ih
      intro n hmeas hn
      have hc := hnN_in im p q n
      have hRn := hnR_RI hR p q n
      have hs : hnN im p q (n + 1) = hnN im p q n + (if im 36 0 (10 * p + n) ≠ -1 ∧ im 36 0 (10 * q + n) = -1 then 1 else 0) := rfl
      refine q_iload (t := 7) F dX9_hands_5 rfl rfl ?_
      refine q_bipush (t := 9) F dX9_hands_7 (by decide) rfl ?_
      refine q_icmp_ge (t := 12) (u := 91) F dX9_hands_9 (by constructor <;> omega) (by constructor <;> omega) (by decide) rfl (fun c9 => ?_) (fun c9 => ?_)
      · refine q_iload_n (t := 92) F dX9_hands_91 rfl rfl rfl ?_
        refine q_iret F dX9_hands_92 rfl ?_
        obtain rfl : n = 10 := by omega
        exact ⟨_, rfl, rfl, rfl⟩
      · refine q_bipush (t := 14) F dX9_hands_12 (by decide) rfl ?_
        refine q_iload_n (t := 15) F dX9_hands_14 rfl rfl rfl ?_
        refine q_imul (t := 16) F dX9_hands_15 rfl ?_
        refine q_iload (t := 18) F dX9_hands_16 rfl rfl ?_
        refine q_iadd (t := 19) F dX9_hands_18 rfl ?_
        rw [show (10 : Int) * (p : Int) + (n : Int) = ((10 * p + n : Nat) : Int) by omega]
        refine q_istore (t := 21) F dX9_hands_19 (by decide) rfl rfl ?_
        refine q_bipush (t := 23) F dX9_hands_21 (by decide) rfl ?_
        refine q_iload_n (t := 24) F dX9_hands_23 rfl rfl rfl ?_
        refine q_imul (t := 25) F dX9_hands_24 rfl ?_
        refine q_iload (t := 27) F dX9_hands_25 rfl rfl ?_
        refine q_iadd (t := 28) F dX9_hands_27 rfl ?_
        rw [show (10 : Int) * (q : Int) + (n : Int) = ((10 * q + n : Nat) : Int) by omega]
        refine q_istore (t := 30) F dX9_hands_28 (by decide) rfl rfl ?_
        refine q_aload_n (t := 31) F dX9_hands_30 rfl rfl rfl ?_
        refine g_X9_32 (t := 34) F dX9_hands_31 rfl rfl ?_
        refine q_iload (t := 36) F dX9_hands_34 rfl rfl ?_
        first | refine ldN_36 (t := 37) F dX9_hands_36 (by omega) rfl ?_ | refine ld_36 (t := 37) F dX9_hands_36 (by omega) (by omega) rfl ?_
        refine q_iconst (t := 38) F dX9_hands_37 rfl ?_
        refine q_icmp_eq (t := 41) (u := 85) F dX9_hands_38 (by exact hRn _ _ _) (by constructor <;> omega) (by decide) rfl (fun c38 => ?_) (fun c38 => ?_)
        · refine q_iinc (t := 88) F dX9_hands_85 rfl (by decide) rfl rfl ?_
          refine q_goto (t := 5) F dX9_hands_88 (by decide) ?_
          refine wp_less 6 ?_
          refine wp_less 5 ?_
          have hnl : n < 10 := by omega
          have e2 := hnR_p (im := im) hpq hnl
          rw [show (n : Int) + 1 = ((n + 1 : Nat) : Int) by omega]
          first
            | (have hcc : im 36 0 (10 * p + n) ≠ -1 ∧ im 36 0 (10 * q + n) = -1 := by omega
               rw [show hnN im p q n + 1 = hnN im p q (n + 1) by rw [hs, if_pos hcc], e2.1, hnR_y hpq hnl hcc]
               exact ih5 (n + 1) (by omega) (by omega))
            | (have hcc : ¬ (im 36 0 (10 * p + n) ≠ -1 ∧ im 36 0 (10 * q + n) = -1) := by omega
               rw [show hnN im p q n = hnN im p q (n + 1) by rw [hs, if_neg hcc, Int.add_zero], ← hnR_n hnl hcc]
               exact ih5 (n + 1) (by omega) (by omega))
        · refine q_aload_n (t := 42) F dX9_hands_41 rfl rfl rfl ?_
          refine g_X9_32 (t := 45) F dX9_hands_42 rfl rfl ?_
          refine q_iload (t := 47) F dX9_hands_45 rfl rfl ?_
          first | refine ldN_36 (t := 48) F dX9_hands_47 (by omega) rfl ?_ | refine ld_36 (t := 48) F dX9_hands_47 (by omega) (by omega) rfl ?_
          refine q_iconst (t := 49) F dX9_hands_48 rfl ?_
          refine q_icmp_ne (t := 52) (u := 85) F dX9_hands_49 (by exact hRn _ _ _) (by constructor <;> omega) (by decide) rfl (fun c49 => ?_) (fun c49 => ?_)
          · refine q_iinc (t := 88) F dX9_hands_85 rfl (by decide) rfl rfl ?_
            refine q_goto (t := 5) F dX9_hands_88 (by decide) ?_
            refine wp_less 6 ?_
            refine wp_less 5 ?_
            have hnl : n < 10 := by omega
            have e2 := hnR_p (im := im) hpq hnl
            rw [show (n : Int) + 1 = ((n + 1 : Nat) : Int) by omega]
            first
              | (have hcc : im 36 0 (10 * p + n) ≠ -1 ∧ im 36 0 (10 * q + n) = -1 := by omega
                 rw [show hnN im p q n + 1 = hnN im p q (n + 1) by rw [hs, if_pos hcc], e2.1, hnR_y hpq hnl hcc]
                 exact ih5 (n + 1) (by omega) (by omega))
              | (have hcc : ¬ (im 36 0 (10 * p + n) ≠ -1 ∧ im 36 0 (10 * q + n) = -1) := by omega
                 rw [show hnN im p q n = hnN im p q (n + 1) by rw [hs, if_neg hcc, Int.add_zero], ← hnR_n hnl hcc]
                 exact ih5 (n + 1) (by omega) (by omega))
          · refine q_aload_n (t := 53) F dX9_hands_52 rfl rfl rfl ?_
            refine g_X9_32 (t := 56) F dX9_hands_53 rfl rfl ?_
            refine q_iload (t := 58) F dX9_hands_56 rfl rfl ?_
            refine q_aload_n (t := 59) F dX9_hands_58 rfl rfl rfl ?_
            refine g_X9_32 (t := 62) F dX9_hands_59 rfl rfl ?_
            refine q_iload (t := 64) F dX9_hands_62 rfl rfl ?_
            first | refine ldN_36 (t := 65) F dX9_hands_64 (by omega) rfl ?_ | refine ld_36 (t := 65) F dX9_hands_64 (by omega) (by omega) rfl ?_
            first | refine stN_36 (t := 66) F dX9_hands_65 (by omega) rfl ?_ | refine st_36 (t := 66) F dX9_hands_65 (by omega) (by omega) rfl ?_
            refine q_aload_n (t := 67) F dX9_hands_66 rfl rfl rfl ?_
            refine g_X9_35 (t := 70) F dX9_hands_67 rfl rfl ?_
            refine q_iload (t := 72) F dX9_hands_70 rfl rfl ?_
            refine q_iconst (t := 73) F dX9_hands_72 rfl ?_
            first | refine stN_37 (t := 74) F dX9_hands_73 (by omega) rfl ?_ | refine st_37 (t := 74) F dX9_hands_73 (by omega) (by omega) rfl ?_
            refine q_aload_n (t := 75) F dX9_hands_74 rfl rfl rfl ?_
            refine g_X9_32 (t := 78) F dX9_hands_75 rfl rfl ?_
            refine q_iload (t := 80) F dX9_hands_78 rfl rfl ?_
            refine q_iconst (t := 81) F dX9_hands_80 rfl ?_
            first | refine stN_36 (t := 82) F dX9_hands_81 (by omega) rfl ?_ | refine st_36 (t := 82) F dX9_hands_81 (by omega) (by omega) rfl ?_
            refine q_iinc (t := 85) F dX9_hands_82 rfl (by decide) rfl rfl ?_
            refine q_iinc (t := 88) F dX9_hands_85 rfl (by decide) rfl rfl ?_
            refine q_goto (t := 5) F dX9_hands_88 (by decide) ?_
            refine wp_less 6 ?_
            refine wp_less 5 ?_
            have hnl : n < 10 := by omega
            have e2 := hnR_p (im := im) hpq hnl
            rw [show (n : Int) + 1 = ((n + 1 : Nat) : Int) by omega]
            first
              | (have hcc : im 36 0 (10 * p + n) ≠ -1 ∧ im 36 0 (10 * q + n) = -1 := by omega
                 rw [show hnN im p q n + 1 = hnN im p q (n + 1) by rw [hs, if_pos hcc], e2.1, hnR_y hpq hnl hcc]
                 exact ih5 (n + 1) (by omega) (by omega))
              | (have hcc : ¬ (im 36 0 (10 * p + n) ≠ -1 ∧ im 36 0 (10 * q + n) = -1) := by omega
                 rw [show hnN im p q n = hnN im p q (n + 1) by rw [hs, if_neg hcc, Int.add_zero], ← hnR_n hnl hcc]
                 exact ih5 (n + 1) (by omega) (by omega))
  refine wp_less 6 ?_
  refine wp_less 5 ?_
  have L0 := L5 _ 0 (Nat.lt_succ_self _) (Nat.zero_le _)
  rw [hnR_0] at L0
  exact L0
end
section
/-! the reference: kiss, man -/

def fiR (im : IM) (a n : Nat) (v : Int) : IM := fun k i s => if k = 36 ∧ i = 0 ∧ a ≤ s ∧ s < a + n then v else im k i s
theorem fiR_0 (im : IM) (a : Nat) (v : Int) : fiR im a 0 v = im := by
  funext k i s
  unfold fiR
  rw [if_neg (by omega)]
theorem fiR_s (im : IM) (a n : Nat) (v : Int) : up (fiR im a n v) 36 0 (a + n) v = fiR im a (n + 1) v := by
  funext k i s
  rw [up_app]
  unfold fiR
  by_cases h : k = 36 ∧ i = 0 ∧ s = a + n
  · rw [if_pos h, if_pos (by omega)]
  · rw [if_neg h]
    by_cases h2 : k = 36 ∧ i = 0 ∧ a ≤ s ∧ s < a + n
    · rw [if_pos h2, if_pos (by omega)]
    · rw [if_neg h2, if_neg (by omega)]

set_option maxHeartbeats 4000000 in
theorem c_X9_kiss (l : Launch) (G : GS) (im : IM) (bt rt : Nat) (lm : IM) (h : RC im) (p q : Int) (hp : ri p) (hq : ri q) : Cn l (XR G) yX9_kiss Y_X9_kiss [vR 30 0, vI p, vI q] (im, rs bt rt, lm) (pI fun x m' => ((0 ≤ p ∧ p < im 30 0 12) ∧ (0 ≤ q ∧ q < im 30 0 12) ∧ p ≠ q → x = hnN im p.toNat q.toNat 10 ∧ m' = (hnR im p.toNat q.toNat 10, rs bt rt, lm)) ∧ (¬ ((0 ≤ p ∧ p < im 30 0 12) ∧ (0 ≤ q ∧ q < im 30 0 12) ∧ p ≠ q) → x = -2 ∧ m' = (im, rs bt rt, lm))) := by
  refine cn_of (by decide) (okR G) rfl (Nat.le_of_ble_eq_true rfl) ?_
  intro M ad hMl F
  subst hMl
  have hR := h.1
  have hX := h.2.1
  have h4 := h.2.2.1
  have h12 := h.2.2.2.1
  have h7 := h.2.2.2.2.1
  have h6 := hX.2.2.1
  have h3 := hX.2.2.2.1
  have hP := h.2.2.2.2.2.2
  have p1 := hp.1
  have p2 := hp.2
  have q1 := hq.1
  have q2 := hq.2
  refine wp_pad 0 ?_
  show Wp M (XR G) ad Y_X9_kiss (pI fun x m' => ((0 ≤ p ∧ p < im 30 0 12) ∧ (0 ≤ q ∧ q < im 30 0 12) ∧ p ≠ q → x = hnN im p.toNat q.toNat 10 ∧ m' = (hnR im p.toNat q.toNat 10, rs bt rt, lm)) ∧ (¬ ((0 ≤ p ∧ p < im 30 0 12) ∧ (0 ≤ q ∧ q < im 30 0 12) ∧ p ≠ q) → x = -2 ∧ m' = (im, rs bt rt, lm))) 0 [some (vR 30 0), some (vI p), some (vI q)] [] (im, rs bt rt, lm)
  refine q_aload_n (t := 1) F dX9_kiss_0 rfl rfl rfl ?_
  refine q_iload_n (t := 2) F dX9_kiss_1 rfl rfl rfl ?_
  refine wp_callV (t := 5) [_] F dX9_kiss_2 k_X9_isOne v_X9_isOne ml_X9_101 rfl rfl rfl rfl (Nat.le_of_ble_eq_true rfl) (by decide) (m_30 (by omega)) (c_X9_isOne _ G im bt rt lm hR h12.1 h12.2 p (by constructor <;> omega)) rfl (kI ?_)
  rintro x2 m' ⟨hx2, rfl⟩
  have hx2 := if01 hx2
  refine q_if_eq (t := 8) (u := 30) F dX9_kiss_5 (by first | exact hR _ _ _ | (constructor <;> omega)) (by decide) rfl (fun c5 => ?_) (fun c5 => ?_)
  · refine q_bipush (t := 32) F dX9_kiss_30 (by decide) rfl ?_
    refine q_iret F dX9_kiss_32 rfl ?_
    first
      | exact ⟨_, rfl, fun _ => ⟨rfl, rfl⟩, fun z => absurd (by omega) z⟩
      | exact ⟨_, rfl, fun z => absurd z (by omega), fun _ => ⟨rfl, rfl⟩⟩
  · refine q_aload_n (t := 9) F dX9_kiss_8 rfl rfl rfl ?_
    refine q_iload_n (t := 10) F dX9_kiss_9 rfl rfl rfl ?_
    refine wp_callV (t := 13) [_] F dX9_kiss_10 k_X9_isOne v_X9_isOne ml_X9_101 rfl rfl rfl rfl (Nat.le_of_ble_eq_true rfl) (by decide) (m_30 (by omega)) (c_X9_isOne _ G im bt rt lm hR h12.1 h12.2 q (by constructor <;> omega)) rfl (kI ?_)
    rintro x10 m' ⟨hx10, rfl⟩
    have hx10 := if01 hx10
    refine q_if_eq (t := 16) (u := 30) F dX9_kiss_13 (by first | exact hR _ _ _ | (constructor <;> omega)) (by decide) rfl (fun c13 => ?_) (fun c13 => ?_)
    · refine q_bipush (t := 32) F dX9_kiss_30 (by decide) rfl ?_
      refine q_iret F dX9_kiss_32 rfl ?_
      first
        | exact ⟨_, rfl, fun _ => ⟨rfl, rfl⟩, fun z => absurd (by omega) z⟩
        | exact ⟨_, rfl, fun z => absurd z (by omega), fun _ => ⟨rfl, rfl⟩⟩
    · refine q_iload_n (t := 17) F dX9_kiss_16 rfl rfl rfl ?_
      refine q_iload_n (t := 18) F dX9_kiss_17 rfl rfl rfl ?_
      refine q_icmp_eq (t := 21) (u := 30) F dX9_kiss_18 (by exact hp) (by exact hq) (by decide) rfl (fun c18 => ?_) (fun c18 => ?_)
      · refine q_bipush (t := 32) F dX9_kiss_30 (by decide) rfl ?_
        refine q_iret F dX9_kiss_32 rfl ?_
        first
          | exact ⟨_, rfl, fun _ => ⟨rfl, rfl⟩, fun z => absurd (by omega) z⟩
          | exact ⟨_, rfl, fun z => absurd z (by omega), fun _ => ⟨rfl, rfl⟩⟩
      · refine q_aload_n (t := 22) F dX9_kiss_21 rfl rfl rfl ?_
        refine q_iload_n (t := 23) F dX9_kiss_22 rfl rfl rfl ?_
        rw [show vI p = vI ((p.toNat : Nat) : Int) by rw [Int.toNat_of_nonneg (by omega)]]
        refine q_iload_n (t := 24) F dX9_kiss_23 rfl rfl rfl ?_
        rw [show vI q = vI ((q.toNat : Nat) : Int) by rw [Int.toNat_of_nonneg (by omega)]]
        refine wp_callV (t := 27) [_, _] F dX9_kiss_24 k_X9_hands v_X9_hands ml_X9_367 rfl rfl rfl rfl (Nat.le_of_ble_eq_true rfl) (by decide) (m_30 (by omega)) (c_X9_hands _ G im bt rt lm hR p.toNat q.toNat (by omega) (by omega) (by omega)) rfl (kI ?_)
        rintro x24 m' ⟨rfl, rfl⟩
        refine q_goto (t := 32) F dX9_kiss_27 (by decide) ?_
        refine q_iret F dX9_kiss_32 rfl ?_
        first
          | exact ⟨_, rfl, fun _ => ⟨rfl, rfl⟩, fun z => absurd (by omega) z⟩
          | exact ⟨_, rfl, fun z => absurd z (by omega), fun _ => ⟨rfl, rfl⟩⟩

set_option maxHeartbeats 4000000 in
theorem c_X9_man (l : Launch) (G : GS) (im : IM) (bt rt : Nat) (lm : IM) (h : RC im) (a c : Int) (ha : ri a) (hc : ri c) : Cn l (XR G) yX9_man Y_X9_man [vR 30 0, vI a, vI c] (im, rs bt rt, lm) (pI fun x m' => (¬ ((0 ≤ a ∧ a ≤ 5) ∧ (0 ≤ c ∧ c ≤ 9)) → x = -2 ∧ m' = (im, rs bt rt, lm)) ∧ ((0 ≤ a ∧ a ≤ 5) ∧ (0 ≤ c ∧ c ≤ 9) → im 30 0 12 = 5 → x = -4 ∧ m' = (im, rs bt rt, lm)) ∧ ((0 ≤ a ∧ a ≤ 5) ∧ (0 ≤ c ∧ c ≤ 9) → im 30 0 12 ≠ 5 → x = im 30 0 12 ∧ m' = (up (fiR (up (up im 34 0 (im 30 0 12).toNat a) 35 0 (im 30 0 12).toNat c) (10 * (im 30 0 12).toNat) 10 (-1)) 30 0 12 (im 30 0 12 + 1), rs bt rt, lm))) := by
  refine cn_of (by decide) (okR G) rfl (Nat.le_of_ble_eq_true rfl) ?_
  intro M ad hMl F
  subst hMl
  have hR := h.1
  have hX := h.2.1
  have h4 := h.2.2.1
  have h12 := h.2.2.2.1
  have h7 := h.2.2.2.2.1
  have h6 := hX.2.2.1
  have h3 := hX.2.2.2.1
  have hP := h.2.2.2.2.2.2
  have a1 := ha.1
  have a2 := ha.2
  have c1 := hc.1
  have c2 := hc.2
  obtain ⟨t, ht⟩ : ∃ t : Nat, im 30 0 12 = t := ⟨(im 30 0 12).toNat, by omega⟩
  have htt : (im 30 0 12).toNat = t := by omega
  refine wp_pad 1 ?_
  show Wp M (XR G) ad Y_X9_man (pI fun x m' => (¬ ((0 ≤ a ∧ a ≤ 5) ∧ (0 ≤ c ∧ c ≤ 9)) → x = -2 ∧ m' = (im, rs bt rt, lm)) ∧ ((0 ≤ a ∧ a ≤ 5) ∧ (0 ≤ c ∧ c ≤ 9) → im 30 0 12 = 5 → x = -4 ∧ m' = (im, rs bt rt, lm)) ∧ ((0 ≤ a ∧ a ≤ 5) ∧ (0 ≤ c ∧ c ≤ 9) → im 30 0 12 ≠ 5 → x = im 30 0 12 ∧ m' = (up (fiR (up (up im 34 0 (im 30 0 12).toNat a) 35 0 (im 30 0 12).toNat c) (10 * (im 30 0 12).toNat) 10 (-1)) 30 0 12 (im 30 0 12 + 1), rs bt rt, lm))) 0 [some (vR 30 0), some (vI a), some (vI c), none] [] (im, rs bt rt, lm)
  refine q_iload_n (t := 1) F dX9_man_0 rfl rfl rfl ?_
  refine q_i2l (t := 2) F dX9_man_1 (by first | exact hR _ _ _ | (constructor <;> omega)) rfl ?_
  refine q_lconst (t := 3) (x := 0) F dX9_man_2 (by decide) rfl ?_
  refine q_ldc2 (t := 6) (x := 5) F dX9_man_3 kl_X9_123 (by decide) rfl ?_
  refine wp_callS (t := 9) [_, _, _] F dX9_man_6 k_X9_in st_X9_in ml_X9_91 rfl rfl (Nat.le_of_ble_eq_true rfl) (by decide) (c_X9_in _ G _ _ _ _ _ _ _ (by constructor <;> omega) (by constructor <;> omega) (by constructor <;> omega)) rfl (kI ?_)
  rintro x6 m' ⟨hx6, rfl⟩
  have hx6 := if01 hx6
  refine q_if_eq (t := 12) (u := 24) F dX9_man_9 (by first | exact hR _ _ _ | (constructor <;> omega)) (by decide) rfl (fun c9 => ?_) (fun c9 => ?_)
  · refine q_bipush (t := 26) F dX9_man_24 (by decide) rfl ?_
    refine q_iret F dX9_man_26 rfl ?_
    first
      | exact ⟨_, rfl, fun _ => ⟨rfl, rfl⟩, fun z => absurd z (by omega), fun z => absurd z (by omega)⟩
      | exact ⟨_, rfl, fun z => absurd (by omega) z, fun _ _ => ⟨rfl, rfl⟩, fun _ z => absurd (by omega) z⟩
      | (obtain rfl : n = 10 := by omega
         refine ⟨_, rfl, fun z => absurd (by omega) z, fun _ z => absurd z (by omega), fun _ _ => ⟨?_, ?_⟩⟩
         · show _ = im 30 0 12
           rw [ht]
           omega
         · rw [htt, ht])
  · refine q_iload_n (t := 13) F dX9_man_12 rfl rfl rfl ?_
    refine q_i2l (t := 14) F dX9_man_13 (by first | exact hR _ _ _ | (constructor <;> omega)) rfl ?_
    refine q_lconst (t := 15) (x := 0) F dX9_man_14 (by decide) rfl ?_
    refine q_ldc2 (t := 18) (x := 9) F dX9_man_15 kl_X9_95 (by decide) rfl ?_
    refine wp_callS (t := 21) [_, _, _] F dX9_man_18 k_X9_in st_X9_in ml_X9_91 rfl rfl (Nat.le_of_ble_eq_true rfl) (by decide) (c_X9_in _ G _ _ _ _ _ _ _ (by constructor <;> omega) (by constructor <;> omega) (by constructor <;> omega)) rfl (kI ?_)
    rintro x18 m' ⟨hx18, rfl⟩
    have hx18 := if01 hx18
    refine q_if_ne (t := 24) (u := 27) F dX9_man_21 (by first | exact hR _ _ _ | (constructor <;> omega)) (by decide) rfl (fun c21 => ?_) (fun c21 => ?_)
    · refine q_aload_n (t := 28) F dX9_man_27 rfl rfl rfl ?_
      refine g_X9_88 (t := 31) F dX9_man_28 rfl rfl ?_
      try simp only [up_app, row_app, scr_app, cpy_app, Nat.reduceEqDiff, Int.reduceToNat, Int.toNat_natCast, and_true, true_and, and_false, false_and, and_self, reduceIte]
      refine q_iconst (t := 32) F dX9_man_31 rfl ?_
      refine q_icmp_ne (t := 35) (u := 38) F dX9_man_32 (by exact hR _ _ _) (by constructor <;> omega) (by decide) rfl (fun c32 => ?_) (fun c32 => ?_)
      · refine q_aload_n (t := 39) F dX9_man_38 rfl rfl rfl ?_
        refine g_X9_26 (t := 42) F dX9_man_39 rfl rfl ?_
        refine q_aload_n (t := 43) F dX9_man_42 rfl rfl rfl ?_
        refine g_X9_88 (t := 46) F dX9_man_43 rfl rfl ?_
        try simp only [up_app, row_app, scr_app, cpy_app, Nat.reduceEqDiff, Int.reduceToNat, Int.toNat_natCast, and_true, true_and, and_false, false_and, and_self, reduceIte]
        rw [show vI (im 30 0 12) = vI ((t : Nat) : Int) by rw [ht]]
        refine q_iload_n (t := 47) F dX9_man_46 rfl rfl rfl ?_
        first | refine stN_34 (t := 48) F dX9_man_47 (by omega) rfl ?_ | refine st_34 (t := 48) F dX9_man_47 (by omega) (by omega) rfl ?_
        refine q_aload_n (t := 49) F dX9_man_48 rfl rfl rfl ?_
        refine g_X9_29 (t := 52) F dX9_man_49 rfl rfl ?_
        refine q_aload_n (t := 53) F dX9_man_52 rfl rfl rfl ?_
        refine g_X9_88 (t := 56) F dX9_man_53 rfl rfl ?_
        try simp only [up_app, row_app, scr_app, cpy_app, Nat.reduceEqDiff, Int.reduceToNat, Int.toNat_natCast, and_true, true_and, and_false, false_and, and_self, reduceIte]
        rw [show vI (im 30 0 12) = vI ((t : Nat) : Int) by rw [ht]]
        refine q_iload_n (t := 57) F dX9_man_56 rfl rfl rfl ?_
        first | refine stN_35 (t := 58) F dX9_man_57 (by omega) rfl ?_ | refine st_35 (t := 58) F dX9_man_57 (by omega) (by omega) rfl ?_
        refine q_iconst (t := 59) F dX9_man_58 rfl ?_
        refine q_istore_n (t := 60) F dX9_man_59 rfl (by decide) rfl rfl ?_
        have L60 : ∀ (fz : Nat) (n : Nat), 10 - n < fz → n ≤ 10 → Wp M (XR G) ad Y_X9_man (pI fun x m' => (¬ ((0 ≤ a ∧ a ≤ 5) ∧ (0 ≤ c ∧ c ≤ 9)) → x = -2 ∧ m' = (im, rs bt rt, lm)) ∧ ((0 ≤ a ∧ a ≤ 5) ∧ (0 ≤ c ∧ c ≤ 9) → im 30 0 12 = 5 → x = -4 ∧ m' = (im, rs bt rt, lm)) ∧ ((0 ≤ a ∧ a ≤ 5) ∧ (0 ≤ c ∧ c ≤ 9) → im 30 0 12 ≠ 5 → x = im 30 0 12 ∧ m' = (up (fiR (up (up im 34 0 (im 30 0 12).toNat a) 35 0 (im 30 0 12).toNat c) (10 * (im 30 0 12).toNat) 10 (-1)) 30 0 12 (im 30 0 12 + 1), rs bt rt, lm))) 60 [some (vR 30 0), some (vI a), some (vI c), some (vI (n : Int))] [] (fiR (up (up im 34 0 t a) 35 0 t c) (10 * t) n (-1), rs bt rt, lm) := by
          intro fz
          induction fz with
          | zero => intro n h; exact absurd h (Nat.not_lt_zero _)
          | succ fz ih =>
            have ih60 := ih
            intro n hmeas hn
            have e12 : fiR (up (up im 34 0 t a) 35 0 t c) (10 * t) n (-1) 30 0 12 = (t : Int) := ht
            refine q_iload_n (t := 61) F dX9_man_60 rfl rfl rfl ?_
            refine q_bipush (t := 63) F dX9_man_61 (by decide) rfl ?_
            refine q_icmp_ge (t := 66) (u := 87) F dX9_man_63 (by constructor <;> omega) (by constructor <;> omega) (by decide) rfl (fun c63 => ?_) (fun c63 => ?_)
            · refine q_aload_n (t := 88) F dX9_man_87 rfl rfl rfl ?_
              refine q_dupR (t := 89) F dX9_man_88 rfl ?_
              refine g_X9_88 (t := 92) F dX9_man_89 rfl rfl ?_
              try simp only [up_app, row_app, scr_app, cpy_app, Nat.reduceEqDiff, Int.reduceToNat, Int.toNat_natCast, and_true, true_and, and_false, false_and, and_self, reduceIte]
              refine q_iconst (t := 93) F dX9_man_92 rfl ?_
              rw [e12]
              refine q_iadd (t := 94) F dX9_man_93 rfl ?_
              refine p_X9_88 (t := 97) F dX9_man_94 rfl rfl ?_
              refine q_aload_n (t := 98) F dX9_man_97 rfl rfl rfl ?_
              refine g_X9_88 (t := 101) F dX9_man_98 rfl rfl ?_
              try simp only [up_app, row_app, scr_app, cpy_app, Nat.reduceEqDiff, Int.reduceToNat, Int.toNat_natCast, and_true, true_and, and_false, false_and, and_self, reduceIte]
              refine q_iconst (t := 102) F dX9_man_101 rfl ?_
              refine q_isub (t := 103) F dX9_man_102 rfl ?_
              refine q_iret F dX9_man_103 rfl ?_
              first
                | exact ⟨_, rfl, fun _ => ⟨rfl, rfl⟩, fun z => absurd z (by omega), fun z => absurd z (by omega)⟩
                | exact ⟨_, rfl, fun z => absurd (by omega) z, fun _ _ => ⟨rfl, rfl⟩, fun _ z => absurd (by omega) z⟩
                | (obtain rfl : n = 10 := by omega
                   refine ⟨_, rfl, fun z => absurd (by omega) z, fun _ z => absurd z (by omega), fun _ _ => ⟨?_, ?_⟩⟩
                   · show _ = im 30 0 12
                     rw [ht]
                     omega
                   · rw [htt, ht])
            · refine q_aload_n (t := 67) F dX9_man_66 rfl rfl rfl ?_
              refine g_X9_32 (t := 70) F dX9_man_67 rfl rfl ?_
              refine q_bipush (t := 72) F dX9_man_70 (by decide) rfl ?_
              refine q_aload_n (t := 73) F dX9_man_72 rfl rfl rfl ?_
              refine g_X9_88 (t := 76) F dX9_man_73 rfl rfl ?_
              try simp only [up_app, row_app, scr_app, cpy_app, Nat.reduceEqDiff, Int.reduceToNat, Int.toNat_natCast, and_true, true_and, and_false, false_and, and_self, reduceIte]
              refine q_imul (t := 77) F dX9_man_76 rfl ?_
              refine q_iload_n (t := 78) F dX9_man_77 rfl rfl rfl ?_
              refine q_iadd (t := 79) F dX9_man_78 rfl ?_
              rw [e12, show (10 : Int) * (t : Int) + (n : Int) = ((10 * t + n : Nat) : Int) by omega]
              refine q_iconst (t := 80) F dX9_man_79 rfl ?_
              first | refine stN_36 (t := 81) F dX9_man_80 (by omega) rfl ?_ | refine st_36 (t := 81) F dX9_man_80 (by omega) (by omega) rfl ?_
              refine q_iinc (t := 84) F dX9_man_81 rfl (by decide) rfl rfl ?_
              refine q_goto (t := 60) F dX9_man_84 (by decide) ?_
              rw [show (n : Int) + 1 = ((n + 1 : Nat) : Int) by omega, fiR_s]
              exact ih60 (n + 1) (by omega) (by omega)
        have L0 := L60 _ 0 (Nat.lt_succ_self _) (Nat.zero_le _)
        rw [fiR_0] at L0
        exact L0
      · refine q_bipush (t := 37) F dX9_man_35 (by decide) rfl ?_
        refine q_iret F dX9_man_37 rfl ?_
        first
          | exact ⟨_, rfl, fun _ => ⟨rfl, rfl⟩, fun z => absurd z (by omega), fun z => absurd z (by omega)⟩
          | exact ⟨_, rfl, fun z => absurd (by omega) z, fun _ _ => ⟨rfl, rfl⟩, fun _ z => absurd (by omega) z⟩
          | (obtain rfl : n = 10 := by omega
             refine ⟨_, rfl, fun z => absurd (by omega) z, fun _ z => absurd z (by omega), fun _ _ => ⟨?_, ?_⟩⟩
             · show _ = im 30 0 12
               rw [ht]
               omega
             · rw [htt, ht])
    · refine q_bipush (t := 26) F dX9_man_24 (by decide) rfl ?_
      refine q_iret F dX9_man_26 rfl ?_
      first
        | exact ⟨_, rfl, fun _ => ⟨rfl, rfl⟩, fun z => absurd z (by omega), fun z => absurd z (by omega)⟩
        | exact ⟨_, rfl, fun z => absurd (by omega) z, fun _ _ => ⟨rfl, rfl⟩, fun _ z => absurd (by omega) z⟩
        | (obtain rfl : n = 10 := by omega
           refine ⟨_, rfl, fun z => absurd (by omega) z, fun _ z => absurd z (by omega), fun _ _ => ⟨?_, ?_⟩⟩
           · show _ = im 30 0 12
             rw [ht]
             omega
           · rw [htt, ht])
end
