/-! the reference: say -/

def spR (im im2 : IM) (p : Nat) (w fd : Int) : IM := if utR im p w fd = -1 then im2 else up (up im2 36 0 (10 * p + (utR im p w fd).toNat) w) 37 0 (10 * p + (utR im p w fd).toNat) 0
theorem utR_in {im : IM} {p : Nat} {w fd : Int} : -1 ≤ utR im p w fd ∧ utR im p w fd ≤ 9 := by
  have h := takesR_in (k := im 34 0 p) (sayR_in im (im 30 0 4).toNat 0 (nmA w fd (im 30 0 7) (im 35 0 p) 0 (cntW (stR im p) 10)))
  have e : gpR im p w fd = takesK (im 34 0 p) (sayR im (im 30 0 4).toNat 0 (nmA w fd (im 30 0 7) (im 35 0 p) 0 (cntW (stR im p) 10))) := rfl
  unfold utR
  split <;> omega

set_option maxHeartbeats 4000000 in
theorem c_X9_speaks (l : Launch) (G : GS) (im : IM) (bt rt : Nat) (lm : IM) (h : RC im) (p : Nat) (hp : (p : Int) < im 30 0 12) (w fd : Int) (hw : ri w) (hfd : ri fd) : Cn l (XR G) yX9_speaks Y_X9_speaks [vR 30 0, vI (p : Int), vI w, vI fd] (im, rs bt rt, lm) (pI fun x m' => ∃ im' lm', x = utR im p w fd ∧ RI im' ∧ agY im' im ∧ lgQ lm' lm ∧ m' = (spR im im' p w fd, rs bt rt, lm')) := by
  refine cn_of (by decide) (okR G) rfl (Nat.le_of_ble_eq_true rfl) ?_
  intro M ad hMl F
  subst hMl
  have h12 := h.2.2.2.1
  have hu := utR_in (im := im) (p := p) (w := w) (fd := fd)
  refine wp_pad 1 ?_
  show Wp M (XR G) ad Y_X9_speaks (pI fun x m' => ∃ im' lm', x = utR im p w fd ∧ RI im' ∧ agY im' im ∧ lgQ lm' lm ∧ m' = (spR im im' p w fd, rs bt rt, lm')) 0 [some (vR 30 0), some (vI (p : Int)), some (vI w), some (vI fd), none] [] (im, rs bt rt, lm)
  refine q_aload_n (t := 1) F dX9_speaks_0 rfl rfl rfl ?_
  refine q_iload_n (t := 2) F dX9_speaks_1 rfl rfl rfl ?_
  refine q_iload_n (t := 3) F dX9_speaks_2 rfl rfl rfl ?_
  refine q_iload_n (t := 4) F dX9_speaks_3 rfl rfl rfl ?_
  refine wp_callV (t := 7) [_, _, _] F dX9_speaks_4 k_X9_wouldStick v_X9_wouldStick ml_X9_361 rfl rfl rfl rfl (Nat.le_of_ble_eq_true rfl) (by decide) (m_30 (by omega)) (c_X9_wouldStick _ G im bt rt lm h p hp w fd hw hfd) rfl (kI ?_)
  rintro g m' ⟨im2, lm2, hg, hR2, hag, hlg, rfl⟩
  rw [← hg] at hu
  refine q_istore (t := 9) F dX9_speaks_7 (by decide) rfl rfl ?_
  refine q_iload (t := 11) F dX9_speaks_9 rfl rfl ?_
  refine q_iconst (t := 12) F dX9_speaks_11 rfl ?_
  refine q_icmp_eq (t := 15) (u := 41) F dX9_speaks_12 (by constructor <;> omega) (by constructor <;> omega) (by decide) rfl (fun c12 => ?_) (fun c12 => ?_)
  · refine q_iload (t := 43) F dX9_speaks_41 rfl rfl ?_
    refine q_iret F dX9_speaks_43 rfl ?_
    first
      | exact ⟨_, rfl, im2, lm2, hg, hR2, hag, hlg, by unfold spR; rw [← hg, if_pos (by omega)]⟩
      | exact ⟨_, rfl, im2, lm2, hg, hR2, hag, hlg, by unfold spR; rw [← hg, if_neg (by omega)]⟩
  · refine q_aload_n (t := 16) F dX9_speaks_15 rfl rfl rfl ?_
    refine g_X9_32 (t := 19) F dX9_speaks_16 rfl rfl ?_
    refine q_bipush (t := 21) F dX9_speaks_19 (by decide) rfl ?_
    refine q_iload_n (t := 22) F dX9_speaks_21 rfl rfl rfl ?_
    refine q_imul (t := 23) F dX9_speaks_22 rfl ?_
    refine q_iload (t := 25) F dX9_speaks_23 rfl rfl ?_
    refine q_iadd (t := 26) F dX9_speaks_25 rfl ?_
    rw [show (10 : Int) * (p : Int) + g = ((10 * p + g.toNat : Nat) : Int) by omega]
    refine q_iload_n (t := 27) F dX9_speaks_26 rfl rfl rfl ?_
    first | refine stN_36 (t := 28) F dX9_speaks_27 (by omega) rfl ?_ | refine st_36 (t := 28) F dX9_speaks_27 (by omega) (by omega) rfl ?_
    refine q_aload_n (t := 29) F dX9_speaks_28 rfl rfl rfl ?_
    refine g_X9_35 (t := 32) F dX9_speaks_29 rfl rfl ?_
    refine q_bipush (t := 34) F dX9_speaks_32 (by decide) rfl ?_
    refine q_iload_n (t := 35) F dX9_speaks_34 rfl rfl rfl ?_
    refine q_imul (t := 36) F dX9_speaks_35 rfl ?_
    refine q_iload (t := 38) F dX9_speaks_36 rfl rfl ?_
    refine q_iadd (t := 39) F dX9_speaks_38 rfl ?_
    rw [show (10 : Int) * (p : Int) + g = ((10 * p + g.toNat : Nat) : Int) by omega]
    refine q_iconst (t := 40) F dX9_speaks_39 rfl ?_
    first | refine stN_37 (t := 41) F dX9_speaks_40 (by omega) rfl ?_ | refine st_37 (t := 41) F dX9_speaks_40 (by omega) (by omega) rfl ?_
    refine q_iload (t := 43) F dX9_speaks_41 rfl rfl ?_
    refine q_iret F dX9_speaks_43 rfl ?_
    first
      | exact ⟨_, rfl, im2, lm2, hg, hR2, hag, hlg, by unfold spR; rw [← hg, if_pos (by omega)]⟩
      | exact ⟨_, rfl, im2, lm2, hg, hR2, hag, hlg, by unfold spR; rw [← hg, if_neg (by omega)]⟩

set_option maxHeartbeats 4000000 in
theorem c_X9_say (l : Launch) (G : GS) (im : IM) (bt rt : Nat) (lm : IM) (h : RC im) (p w fd : Int) (hp : ri p) (hw : ri w) (hfd : ri fd) : Cn l (XR G) yX9_say Y_X9_say [vR 30 0, vI p, vI w, vI fd] (im, rs bt rt, lm) (pI fun x m' => ∃ im' lm', RI im' ∧ agY im' im ∧ lgQ lm' lm ∧ ((0 ≤ p ∧ p < im 30 0 12) ∧ (0 ≤ w ∧ w ≤ 15) ∧ (0 ≤ fd ∧ fd ≤ 9) → x = utR im p.toNat w fd ∧ m' = (spR im im' p.toNat w fd, rs bt rt, lm')) ∧ (¬ ((0 ≤ p ∧ p < im 30 0 12) ∧ (0 ≤ w ∧ w ≤ 15) ∧ (0 ≤ fd ∧ fd ≤ 9)) → x = -2 ∧ m' = (im, rs bt rt, lm))) := by
  refine cn_of (by decide) (okR G) rfl (Nat.le_of_ble_eq_true rfl) ?_
  intro M ad hMl F
  subst hMl
  have hR := h.1
  have h12 := h.2.2.2.1
  have hp1 := hp.1
  have hp2 := hp.2
  have hw1 := hw.1
  have hw2 := hw.2
  have hf1 := hfd.1
  have hf2 := hfd.2
  refine wp_pad 0 ?_
  show Wp M (XR G) ad Y_X9_say (pI fun x m' => ∃ im' lm', RI im' ∧ agY im' im ∧ lgQ lm' lm ∧ ((0 ≤ p ∧ p < im 30 0 12) ∧ (0 ≤ w ∧ w ≤ 15) ∧ (0 ≤ fd ∧ fd ≤ 9) → x = utR im p.toNat w fd ∧ m' = (spR im im' p.toNat w fd, rs bt rt, lm')) ∧ (¬ ((0 ≤ p ∧ p < im 30 0 12) ∧ (0 ≤ w ∧ w ≤ 15) ∧ (0 ≤ fd ∧ fd ≤ 9)) → x = -2 ∧ m' = (im, rs bt rt, lm))) 0 [some (vR 30 0), some (vI p), some (vI w), some (vI fd)] [] (im, rs bt rt, lm)
  refine q_aload_n (t := 1) F dX9_say_0 rfl rfl rfl ?_
  refine q_iload_n (t := 2) F dX9_say_1 rfl rfl rfl ?_
  refine wp_callV (t := 5) [_] F dX9_say_2 k_X9_isOne v_X9_isOne ml_X9_101 rfl rfl rfl rfl (Nat.le_of_ble_eq_true rfl) (by decide) (m_30 (by omega)) (c_X9_isOne _ G im bt rt lm hR h12.1 h12.2 p hp) rfl (kI ?_)
  rintro x2 m' ⟨hx2, rfl⟩
  have hx2 := if01 hx2
  refine q_if_eq (t := 8) (u := 37) F dX9_say_5 (by first | exact hR _ _ _ | (constructor <;> omega)) (by decide) rfl (fun c5 => ?_) (fun c5 => ?_)
  · refine q_bipush (t := 39) F dX9_say_37 (by decide) rfl ?_
    refine q_iret F dX9_say_39 rfl ?_
    first
      | exact ⟨_, rfl, im2, lm2, hR2, hag, hlg, fun _ => ⟨hg, rfl⟩, fun q => absurd (by omega) q⟩
      | exact ⟨_, rfl, im, lm, hR, agY_rfl im, lgQ_rfl lm, fun q => absurd q (by omega), fun _ => ⟨rfl, rfl⟩⟩
  · refine q_iload_n (t := 9) F dX9_say_8 rfl rfl rfl ?_
    refine wp_callS (t := 12) [_] F dX9_say_9 k_X9_isWord st_X9_isWord ml_X9_141 rfl rfl (Nat.le_of_ble_eq_true rfl) (by decide) (c_X9_isWord _ G im bt rt lm w hw) rfl (kI ?_)
    rintro x9 m' ⟨hx9, rfl⟩
    have hx9 := if01 hx9
    refine q_if_eq (t := 15) (u := 37) F dX9_say_12 (by first | exact hR _ _ _ | (constructor <;> omega)) (by decide) rfl (fun c12 => ?_) (fun c12 => ?_)
    · refine q_bipush (t := 39) F dX9_say_37 (by decide) rfl ?_
      refine q_iret F dX9_say_39 rfl ?_
      first
        | exact ⟨_, rfl, im2, lm2, hR2, hag, hlg, fun _ => ⟨hg, rfl⟩, fun q => absurd (by omega) q⟩
        | exact ⟨_, rfl, im, lm, hR, agY_rfl im, lgQ_rfl lm, fun q => absurd q (by omega), fun _ => ⟨rfl, rfl⟩⟩
    · refine q_iload_n (t := 16) F dX9_say_15 rfl rfl rfl ?_
      refine q_i2l (t := 17) F dX9_say_16 (by first | exact hR _ _ _ | (constructor <;> omega)) rfl ?_
      refine q_lconst (t := 18) (x := 0) F dX9_say_17 (by decide) rfl ?_
      refine q_ldc2 (t := 21) (x := 9) F dX9_say_18 kl_X9_95 (by decide) rfl ?_
      refine wp_callS (t := 24) [_, _, _] F dX9_say_21 k_X9_in st_X9_in ml_X9_91 rfl rfl (Nat.le_of_ble_eq_true rfl) (by decide) (c_X9_in _ G _ _ _ _ _ _ _ (by constructor <;> omega) (by constructor <;> omega) (by constructor <;> omega)) rfl (kI ?_)
      rintro x21 m' ⟨hx21, rfl⟩
      have hx21 := if01 hx21
      refine q_if_eq (t := 27) (u := 37) F dX9_say_24 (by first | exact hR _ _ _ | (constructor <;> omega)) (by decide) rfl (fun c24 => ?_) (fun c24 => ?_)
      · refine q_bipush (t := 39) F dX9_say_37 (by decide) rfl ?_
        refine q_iret F dX9_say_39 rfl ?_
        first
          | exact ⟨_, rfl, im2, lm2, hR2, hag, hlg, fun _ => ⟨hg, rfl⟩, fun q => absurd (by omega) q⟩
          | exact ⟨_, rfl, im, lm, hR, agY_rfl im, lgQ_rfl lm, fun q => absurd q (by omega), fun _ => ⟨rfl, rfl⟩⟩
      · refine q_aload_n (t := 28) F dX9_say_27 rfl rfl rfl ?_
        refine q_iload_n (t := 29) F dX9_say_28 rfl rfl rfl ?_
        refine q_iload_n (t := 30) F dX9_say_29 rfl rfl rfl ?_
        rw [show vI p = vI ((p.toNat : Nat) : Int) by rw [Int.toNat_of_nonneg (by omega)]]
        refine q_iload_n (t := 31) F dX9_say_30 rfl rfl rfl ?_
        refine wp_callV (t := 34) [_, _, _] F dX9_say_31 k_X9_speaks v_X9_speaks ml_X9_364 rfl rfl rfl rfl (Nat.le_of_ble_eq_true rfl) (by decide) (m_30 (by omega)) (c_X9_speaks _ G im bt rt lm h p.toNat (by omega) w fd hw hfd) rfl (kI ?_)
        rintro x31 m' ⟨im2, lm2, hg, hR2, hag, hlg, rfl⟩
        refine q_goto (t := 39) F dX9_say_34 (by decide) ?_
        refine q_iret F dX9_say_39 rfl ?_
        first
          | exact ⟨_, rfl, im2, lm2, hR2, hag, hlg, fun _ => ⟨hg, rfl⟩, fun q => absurd (by omega) q⟩
          | exact ⟨_, rfl, im, lm, hR, agY_rfl im, lgQ_rfl lm, fun q => absurd q (by omega), fun _ => ⟨rfl, rfl⟩⟩
