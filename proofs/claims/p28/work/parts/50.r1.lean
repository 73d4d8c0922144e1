/-! the reference: is it in the range -/
set_option maxHeartbeats 4000000 in
theorem c_X9_in (l : Launch) (G : GS) (im : IM) (bt rt : Nat) (lm : IM) (v a b : Int) (hv : rl v) (ha : rl a) (hb : rl b) : Cn l (XR G) yX9_in Y_X9_in [vL v, vL a, vL b] (im, rs bt rt, lm) (pI fun x m' => x = (if a ≤ v ∧ v ≤ b then 1 else 0) ∧ m' = (im, rs bt rt, lm)) := by
  refine cn_of (by decide) (okR G) rfl (Nat.le_of_ble_eq_true rfl) ?_
  intro M ad hMl F
  subst hMl
  have hv1 := hv.1
  have hv2 := hv.2
  have ha1 := ha.1
  have ha2 := ha.2
  have hb1 := hb.1
  have hb2 := hb.2
  refine wp_pad 0 ?_
  show Wp M (XR G) ad Y_X9_in (pI fun x m' => x = (if a ≤ v ∧ v ≤ b then 1 else 0) ∧ m' = (im, rs bt rt, lm)) 0 [some (vL v), none, some (vL a), none, some (vL b), none] [] (im, rs bt rt, lm)
  refine q_lload_n (t := 1) F dX9_in_0 rfl rfl rfl ?_
  refine q_lload_n (t := 2) F dX9_in_1 rfl rfl rfl ?_
  refine q_lcmp (t := 3) F dX9_in_2 ⟨by omega, by omega⟩ ⟨by omega, by omega⟩ rfl ?_
  refine q_if_lt (t := 6) (u := 17) F dX9_in_3 (by exact cmpI_ri _ _) (by decide) rfl (fun c3 => ?_) (fun c3 => ?_)
  · refine q_iconst (t := 18) F dX9_in_17 rfl ?_
    refine q_zret F dX9_in_18 rfl (by decide) ?_
    refine ⟨_, rfl, ?_, rfl⟩
    have e1 : cmpI v a < 0 ↔ v < a := cmpI_lt
    have e2 : 0 < cmpI v b ↔ b < v := cmpI_gt
    first
      | rw [if_pos (by omega)]
      | rw [if_neg (by omega)]
  · refine q_lload_n (t := 7) F dX9_in_6 rfl rfl rfl ?_
    refine q_lload (t := 9) F dX9_in_7 rfl rfl ?_
    refine q_lcmp (t := 10) F dX9_in_9 ⟨by omega, by omega⟩ ⟨by omega, by omega⟩ rfl ?_
    refine q_if_gt (t := 13) (u := 17) F dX9_in_10 (by exact cmpI_ri _ _) (by decide) rfl (fun c10 => ?_) (fun c10 => ?_)
    · refine q_iconst (t := 18) F dX9_in_17 rfl ?_
      refine q_zret F dX9_in_18 rfl (by decide) ?_
      refine ⟨_, rfl, ?_, rfl⟩
      have e1 : cmpI v a < 0 ↔ v < a := cmpI_lt
      have e2 : 0 < cmpI v b ↔ b < v := cmpI_gt
      first
        | rw [if_pos (by omega)]
        | rw [if_neg (by omega)]
    · refine q_iconst (t := 14) F dX9_in_13 rfl ?_
      refine q_goto (t := 18) F dX9_in_14 (by decide) ?_
      refine q_zret F dX9_in_18 rfl (by decide) ?_
      refine ⟨_, rfl, ?_, rfl⟩
      have e1 : cmpI v a < 0 ↔ v < a := cmpI_lt
      have e2 : 0 < cmpI v b ↔ b < v := cmpI_gt
      first
        | rw [if_pos (by omega)]
        | rw [if_neg (by omega)]

set_option maxHeartbeats 4000000 in
theorem c_X9_isOne (l : Launch) (G : GS) (im : IM) (bt rt : Nat) (lm : IM) (hR : RI im) (h0 : 0 ≤ im 30 0 12) (h5 : im 30 0 12 ≤ 5) (p : Int) (hp : ri p) : Cn l (XR G) yX9_isOne Y_X9_isOne [vR 30 0, vI p] (im, rs bt rt, lm) (pI fun x m' => x = (if 0 ≤ p ∧ p < im 30 0 12 then 1 else 0) ∧ m' = (im, rs bt rt, lm)) := by
  refine cn_of (by decide) (okR G) rfl (Nat.le_of_ble_eq_true rfl) ?_
  intro M ad hMl F
  subst hMl
  have hp1 := hp.1
  have hp2 := hp.2
  refine wp_pad 0 ?_
  show Wp M (XR G) ad Y_X9_isOne (pI fun x m' => x = (if 0 ≤ p ∧ p < im 30 0 12 then 1 else 0) ∧ m' = (im, rs bt rt, lm)) 0 [some (vR 30 0), some (vI p)] [] (im, rs bt rt, lm)
  refine q_iload_n (t := 1) F dX9_isOne_0 rfl rfl rfl ?_
  refine q_i2l (t := 2) F dX9_isOne_1 (by first | exact hR _ _ _ | (constructor <;> omega)) rfl ?_
  refine q_lconst (t := 3) (x := 0) F dX9_isOne_2 (by decide) rfl ?_
  refine q_aload_n (t := 4) F dX9_isOne_3 rfl rfl rfl ?_
  refine g_X9_88 (t := 7) F dX9_isOne_4 rfl rfl ?_
  refine q_iconst (t := 8) F dX9_isOne_7 rfl ?_
  refine q_isub (t := 9) F dX9_isOne_8 rfl ?_
  refine q_i2l (t := 10) F dX9_isOne_9 (by first | exact hR _ _ _ | (constructor <;> omega)) rfl ?_
  refine wp_callS (t := 13) [_, _, _] F dX9_isOne_10 k_X9_in st_X9_in ml_X9_91 rfl rfl (Nat.le_of_ble_eq_true rfl) (by decide) (c_X9_in _ G _ _ _ _ (p) (0) (im 30 0 12 - 1) (by constructor <;> omega) (by constructor <;> omega) (by constructor <;> omega)) rfl (kI ?_)
  rintro x10 m' ⟨hx10, rfl⟩
  have hx10 := if01 hx10
  refine q_zret F dX9_isOne_13 rfl (by rcases hx10 with h | h <;> omega) ?_
  refine ⟨_, rfl, ?_, rfl⟩
  split <;> omega

set_option maxHeartbeats 4000000 in
theorem c_X9_isGap (l : Launch) (G : GS) (im : IM) (bt rt : Nat) (lm : IM) (g : Int) (hg : ri g) : Cn l (XR G) yX9_isGap Y_X9_isGap [vI g] (im, rs bt rt, lm) (pI fun x m' => x = (if 0 ≤ g ∧ g ≤ 9 then 1 else 0) ∧ m' = (im, rs bt rt, lm)) := by
  refine cn_of (by decide) (okR G) rfl (Nat.le_of_ble_eq_true rfl) ?_
  intro M ad hMl F
  subst hMl
  have hg1 := hg.1
  have hg2 := hg.2
  refine wp_pad 0 ?_
  show Wp M (XR G) ad Y_X9_isGap (pI fun x m' => x = (if 0 ≤ g ∧ g ≤ 9 then 1 else 0) ∧ m' = (im, rs bt rt, lm)) 0 [some (vI g)] [] (im, rs bt rt, lm)
  refine q_iload_n (t := 1) F dX9_isGap_0 rfl rfl rfl ?_
  refine q_i2l (t := 2) F dX9_isGap_1 (by first | exact hR _ _ _ | (constructor <;> omega)) rfl ?_
  refine q_lconst (t := 3) (x := 0) F dX9_isGap_2 (by decide) rfl ?_
  refine q_ldc2 (t := 6) (x := 9) F dX9_isGap_3 kl_X9_95 (by decide) rfl ?_
  refine wp_callS (t := 9) [_, _, _] F dX9_isGap_6 k_X9_in st_X9_in ml_X9_91 rfl rfl (Nat.le_of_ble_eq_true rfl) (by decide) (c_X9_in _ G _ _ _ _ (g) (0) (9) (by constructor <;> omega) (by constructor <;> omega) (by constructor <;> omega)) rfl (kI ?_)
  rintro x6 m' ⟨hx6, rfl⟩
  have hx6 := if01 hx6
  refine q_zret F dX9_isGap_9 rfl (by rcases hx6 with h | h <;> omega) ?_
  refine ⟨_, rfl, ?_, rfl⟩
  split <;> omega

set_option maxHeartbeats 4000000 in
theorem c_X9_isWord (l : Launch) (G : GS) (im : IM) (bt rt : Nat) (lm : IM) (g : Int) (hg : ri g) : Cn l (XR G) yX9_isWord Y_X9_isWord [vI g] (im, rs bt rt, lm) (pI fun x m' => x = (if 0 ≤ g ∧ g ≤ 15 then 1 else 0) ∧ m' = (im, rs bt rt, lm)) := by
  refine cn_of (by decide) (okR G) rfl (Nat.le_of_ble_eq_true rfl) ?_
  intro M ad hMl F
  subst hMl
  have hg1 := hg.1
  have hg2 := hg.2
  refine wp_pad 0 ?_
  show Wp M (XR G) ad Y_X9_isWord (pI fun x m' => x = (if 0 ≤ g ∧ g ≤ 15 then 1 else 0) ∧ m' = (im, rs bt rt, lm)) 0 [some (vI g)] [] (im, rs bt rt, lm)
  refine q_iload_n (t := 1) F dX9_isWord_0 rfl rfl rfl ?_
  refine q_i2l (t := 2) F dX9_isWord_1 (by first | exact hR _ _ _ | (constructor <;> omega)) rfl ?_
  refine q_lconst (t := 3) (x := 0) F dX9_isWord_2 (by decide) rfl ?_
  refine q_ldc2 (t := 6) (x := 15) F dX9_isWord_3 kl_X9_97 (by decide) rfl ?_
  refine wp_callS (t := 9) [_, _, _] F dX9_isWord_6 k_X9_in st_X9_in ml_X9_91 rfl rfl (Nat.le_of_ble_eq_true rfl) (by decide) (c_X9_in _ G _ _ _ _ (g) (0) (15) (by constructor <;> omega) (by constructor <;> omega) (by constructor <;> omega)) rfl (kI ?_)
  rintro x6 m' ⟨hx6, rfl⟩
  have hx6 := if01 hx6
  refine q_zret F dX9_isWord_9 rfl (by rcases hx6 with h | h <;> omega) ?_
  refine ⟨_, rfl, ?_, rfl⟩
  split <;> omega

set_option maxHeartbeats 4000000 in
theorem c_X9_isSheet (l : Launch) (G : GS) (im : IM) (bt rt : Nat) (lm : IM) (g : Int) (hg : ri g) : Cn l (XR G) yX9_isSheet Y_X9_isSheet [vI g] (im, rs bt rt, lm) (pI fun x m' => x = (if 0 ≤ g ∧ g ≤ 3 then 1 else 0) ∧ m' = (im, rs bt rt, lm)) := by
  refine cn_of (by decide) (okR G) rfl (Nat.le_of_ble_eq_true rfl) ?_
  intro M ad hMl F
  subst hMl
  have hg1 := hg.1
  have hg2 := hg.2
  refine wp_pad 0 ?_
  show Wp M (XR G) ad Y_X9_isSheet (pI fun x m' => x = (if 0 ≤ g ∧ g ≤ 3 then 1 else 0) ∧ m' = (im, rs bt rt, lm)) 0 [some (vI g)] [] (im, rs bt rt, lm)
  refine q_iload_n (t := 1) F dX9_isSheet_0 rfl rfl rfl ?_
  refine q_i2l (t := 2) F dX9_isSheet_1 (by first | exact hR _ _ _ | (constructor <;> omega)) rfl ?_
  refine q_lconst (t := 3) (x := 0) F dX9_isSheet_2 (by decide) rfl ?_
  refine q_ldc2 (t := 6) (x := 3) F dX9_isSheet_3 kl_X9_433 (by decide) rfl ?_
  refine wp_callS (t := 9) [_, _, _] F dX9_isSheet_6 k_X9_in st_X9_in ml_X9_91 rfl rfl (Nat.le_of_ble_eq_true rfl) (by decide) (c_X9_in _ G _ _ _ _ (g) (0) (3) (by constructor <;> omega) (by constructor <;> omega) (by constructor <;> omega)) rfl (kI ?_)
  rintro x6 m' ⟨hx6, rfl⟩
  have hx6 := if01 hx6
  refine q_zret F dX9_isSheet_9 rfl (by rcases hx6 with h | h <;> omega) ?_
  refine ⟨_, rfl, ?_, rfl⟩
  split <;> omega
