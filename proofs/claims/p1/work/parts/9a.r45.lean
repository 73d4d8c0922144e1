/-! the reference: set, fill, count, image, back -/

def lyI (im : IM) (what : Int) (p : Nat) (v : Int) : IM := if what = 0 then up im 30 0 7 v else if what = 1 then up im 30 0 8 v else if what = 2 then up im 35 0 p v else if what = 3 then up im 34 0 p v else up im 30 0 4 v
/-- one row laid over by another -/
def cp1 (im : IM) (a b n : Nat) : IM := fun k i s => if k = a ∧ i = 0 ∧ s < n then im b 0 s else im k i s
theorem cp1_app (im : IM) (a b n k i s : Nat) : cp1 im a b n k i s = if k = a ∧ i = 0 ∧ s < n then im b 0 s else im k i s := rfl
theorem cp1_0 (im : IM) (a b : Nat) : cp1 im a b 0 = im := by
  funext k i s
  rw [cp1_app, if_neg (by omega)]
theorem cp1_s (im : IM) (a b n : Nat) : up (cp1 im a b n) a 0 n (im b 0 n) = cp1 im a b (n + 1) := by
  funext k i s
  rw [up_app, cp1_app, cp1_app]
  by_cases hs : s = n
  · subst hs
    by_cases hi : k = a ∧ i = 0
    · rw [if_pos ⟨hi.1, hi.2, rfl⟩, if_pos ⟨hi.1, hi.2, by omega⟩]
    · rw [if_neg (by omega), if_neg (by omega), if_neg (by omega)]
  · rw [if_neg (by omega)]
    have e : (s < n + 1) = (s < n) := propext ⟨fun z => by omega, fun z => by omega⟩
    simp only [e]
theorem cp1_RI {im : IM} (h : RI im) (a b n : Nat) : RI (cp1 im a b n) := by
  intro k i s
  rw [cp1_app]
  split <;> exact h _ _ _

set_option maxHeartbeats 4000000 in
theorem c_X9_lays (l : Launch) (G : GS) (im : IM) (bt rt : Nat) (lm : IM) (what v : Int) (p : Nat) (hwhat : ri what) (hp : what = 2 ∨ what = 3 → p < 5) : Cn l (XR G) yX9_lays Y_X9_lays [vR 30 0, vI what, vI (p : Int), vI v] (im, rs bt rt, lm) (pV fun m' => m' = (lyI im what p v, rs bt rt, lm)) := by
  refine cn_of (by decide) (okR G) rfl (Nat.le_of_ble_eq_true rfl) ?_
  intro M ad hMl F
  subst hMl
  have hwhat1 := hwhat.1
  have hwhat2 := hwhat.2
  refine wp_pad 0 ?_
  show Wp M (XR G) ad Y_X9_lays (pV fun m' => m' = (lyI im what p v, rs bt rt, lm)) 0 [some (vR 30 0), some (vI what), some (vI (p : Int)), some (vI v)] [] (im, rs bt rt, lm)
  refine q_iload_n (t := 1) F dX9_lays_0 rfl rfl rfl ?_
  refine q_if_ne (t := 4) (u := 12) F dX9_lays_1 (by first | exact hR _ _ _ | (constructor <;> omega)) (by decide) rfl (fun c1 => ?_) (fun c1 => ?_)
  · refine q_iload_n (t := 13) F dX9_lays_12 rfl rfl rfl ?_
    refine q_iconst (t := 14) F dX9_lays_13 rfl ?_
    refine q_icmp_ne (t := 17) (u := 25) F dX9_lays_14 (by first | exact hR _ _ _ | (constructor <;> omega)) (by first | exact hR _ _ _ | (constructor <;> omega)) (by decide) rfl (fun c14 => ?_) (fun c14 => ?_)
    · refine q_iload_n (t := 26) F dX9_lays_25 rfl rfl rfl ?_
      refine q_iconst (t := 27) F dX9_lays_26 rfl ?_
      refine q_icmp_ne (t := 30) (u := 40) F dX9_lays_27 (by first | exact hR _ _ _ | (constructor <;> omega)) (by first | exact hR _ _ _ | (constructor <;> omega)) (by decide) rfl (fun c27 => ?_) (fun c27 => ?_)
      · refine q_iload_n (t := 41) F dX9_lays_40 rfl rfl rfl ?_
        refine q_iconst (t := 42) F dX9_lays_41 rfl ?_
        refine q_icmp_ne (t := 45) (u := 55) F dX9_lays_42 (by first | exact hR _ _ _ | (constructor <;> omega)) (by first | exact hR _ _ _ | (constructor <;> omega)) (by decide) rfl (fun c42 => ?_) (fun c42 => ?_)
        · refine q_aload_n (t := 56) F dX9_lays_55 rfl rfl rfl ?_
          refine q_iload_n (t := 57) F dX9_lays_56 rfl rfl rfl ?_
          refine p_X9_120 (t := 60) F dX9_lays_57 rfl rfl ?_
          refine q_vret F dX9_lays_60 rfl ?_
          refine ⟨rfl, ?_⟩
          unfold lyI
          first
            | rw [if_pos (by omega)]
            | rw [if_neg (by omega), if_pos (by omega)]
            | rw [if_neg (by omega), if_neg (by omega), if_pos (by omega)]
            | rw [if_neg (by omega), if_neg (by omega), if_neg (by omega), if_pos (by omega)]
            | rw [if_neg (by omega), if_neg (by omega), if_neg (by omega), if_neg (by omega)]
        · refine q_aload_n (t := 46) F dX9_lays_45 rfl rfl rfl ?_
          refine g_X9_26 (t := 49) F dX9_lays_46 rfl rfl ?_
          refine q_iload_n (t := 50) F dX9_lays_49 rfl rfl rfl ?_
          refine q_iload_n (t := 51) F dX9_lays_50 rfl rfl rfl ?_
          first | refine stN_34 (t := 52) F dX9_lays_51 (by omega) rfl ?_ | refine st_34 (t := 52) F dX9_lays_51 (by omega) (by omega) rfl ?_
          refine q_goto (t := 60) F dX9_lays_52 (by decide) ?_
          refine q_vret F dX9_lays_60 rfl ?_
          refine ⟨rfl, ?_⟩
          unfold lyI
          first
            | rw [if_pos (by omega)]
            | rw [if_neg (by omega), if_pos (by omega)]
            | rw [if_neg (by omega), if_neg (by omega), if_pos (by omega)]
            | rw [if_neg (by omega), if_neg (by omega), if_neg (by omega), if_pos (by omega)]
            | rw [if_neg (by omega), if_neg (by omega), if_neg (by omega), if_neg (by omega)]
      · refine q_aload_n (t := 31) F dX9_lays_30 rfl rfl rfl ?_
        refine g_X9_29 (t := 34) F dX9_lays_31 rfl rfl ?_
        refine q_iload_n (t := 35) F dX9_lays_34 rfl rfl rfl ?_
        refine q_iload_n (t := 36) F dX9_lays_35 rfl rfl rfl ?_
        first | refine stN_35 (t := 37) F dX9_lays_36 (by omega) rfl ?_ | refine st_35 (t := 37) F dX9_lays_36 (by omega) (by omega) rfl ?_
        refine q_goto (t := 60) F dX9_lays_37 (by decide) ?_
        refine q_vret F dX9_lays_60 rfl ?_
        refine ⟨rfl, ?_⟩
        unfold lyI
        first
          | rw [if_pos (by omega)]
          | rw [if_neg (by omega), if_pos (by omega)]
          | rw [if_neg (by omega), if_neg (by omega), if_pos (by omega)]
          | rw [if_neg (by omega), if_neg (by omega), if_neg (by omega), if_pos (by omega)]
          | rw [if_neg (by omega), if_neg (by omega), if_neg (by omega), if_neg (by omega)]
    · refine q_aload_n (t := 18) F dX9_lays_17 rfl rfl rfl ?_
      refine q_iload_n (t := 19) F dX9_lays_18 rfl rfl rfl ?_
      refine p_X9_23 (t := 22) F dX9_lays_19 rfl rfl ?_
      refine q_goto (t := 60) F dX9_lays_22 (by decide) ?_
      refine q_vret F dX9_lays_60 rfl ?_
      refine ⟨rfl, ?_⟩
      unfold lyI
      first
        | rw [if_pos (by omega)]
        | rw [if_neg (by omega), if_pos (by omega)]
        | rw [if_neg (by omega), if_neg (by omega), if_pos (by omega)]
        | rw [if_neg (by omega), if_neg (by omega), if_neg (by omega), if_pos (by omega)]
        | rw [if_neg (by omega), if_neg (by omega), if_neg (by omega), if_neg (by omega)]
  · refine q_aload_n (t := 5) F dX9_lays_4 rfl rfl rfl ?_
    refine q_iload_n (t := 6) F dX9_lays_5 rfl rfl rfl ?_
    refine p_X9_117 (t := 9) F dX9_lays_6 rfl rfl ?_
    refine q_goto (t := 60) F dX9_lays_9 (by decide) ?_
    refine q_vret F dX9_lays_60 rfl ?_
    refine ⟨rfl, ?_⟩
    unfold lyI
    first
      | rw [if_pos (by omega)]
      | rw [if_neg (by omega), if_pos (by omega)]
      | rw [if_neg (by omega), if_neg (by omega), if_pos (by omega)]
      | rw [if_neg (by omega), if_neg (by omega), if_neg (by omega), if_pos (by omega)]
      | rw [if_neg (by omega), if_neg (by omega), if_neg (by omega), if_neg (by omega)]

set_option maxHeartbeats 4000000 in
theorem g_X9_lays (l : Launch) (G : GS) (im : IM) (bt rt : Nat) (lm : IM) (what v of : Int) (hwhat : ri what) (hp : ¬ (what = 2 ∨ what = 3)) : Cn l (XR G) yX9_lays Y_X9_lays [vR 30 0, vI what, vI of, vI v] (im, rs bt rt, lm) (pV fun m' => m' = (lyI im what of.toNat v, rs bt rt, lm)) := by
  refine cn_of (by decide) (okR G) rfl (Nat.le_of_ble_eq_true rfl) ?_
  intro M ad hMl F
  subst hMl
  have hwhat1 := hwhat.1
  have hwhat2 := hwhat.2
  refine wp_pad 0 ?_
  show Wp M (XR G) ad Y_X9_lays (pV fun m' => m' = (lyI im what of.toNat v, rs bt rt, lm)) 0 [some (vR 30 0), some (vI what), some (vI of), some (vI v)] [] (im, rs bt rt, lm)
  refine q_iload_n (t := 1) F dX9_lays_0 rfl rfl rfl ?_
  refine q_if_ne (t := 4) (u := 12) F dX9_lays_1 (by first | exact hR _ _ _ | (constructor <;> omega)) (by decide) rfl (fun c1 => ?_) (fun c1 => ?_)
  · refine q_iload_n (t := 13) F dX9_lays_12 rfl rfl rfl ?_
    refine q_iconst (t := 14) F dX9_lays_13 rfl ?_
    refine q_icmp_ne (t := 17) (u := 25) F dX9_lays_14 (by first | exact hR _ _ _ | (constructor <;> omega)) (by first | exact hR _ _ _ | (constructor <;> omega)) (by decide) rfl (fun c14 => ?_) (fun c14 => ?_)
    · refine q_iload_n (t := 26) F dX9_lays_25 rfl rfl rfl ?_
      refine q_iconst (t := 27) F dX9_lays_26 rfl ?_
      refine q_icmp_ne (t := 30) (u := 40) F dX9_lays_27 (by first | exact hR _ _ _ | (constructor <;> omega)) (by first | exact hR _ _ _ | (constructor <;> omega)) (by decide) rfl (fun c27 => ?_) (fun c27 => ?_)
      · refine q_iload_n (t := 41) F dX9_lays_40 rfl rfl rfl ?_
        refine q_iconst (t := 42) F dX9_lays_41 rfl ?_
        refine q_icmp_ne (t := 45) (u := 55) F dX9_lays_42 (by first | exact hR _ _ _ | (constructor <;> omega)) (by first | exact hR _ _ _ | (constructor <;> omega)) (by decide) rfl (fun c42 => ?_) (fun c42 => ?_)
        · refine q_aload_n (t := 56) F dX9_lays_55 rfl rfl rfl ?_
          refine q_iload_n (t := 57) F dX9_lays_56 rfl rfl rfl ?_
          refine p_X9_120 (t := 60) F dX9_lays_57 rfl rfl ?_
          refine q_vret F dX9_lays_60 rfl ?_
          first
            | (exfalso; omega)
            | (refine ⟨rfl, ?_⟩
               unfold lyI
               first
                 | rw [if_pos (by omega)]
                 | rw [if_neg (by omega), if_pos (by omega)]
                 | rw [if_neg (by omega), if_neg (by omega), if_neg (by omega), if_neg (by omega)])
        · refine q_aload_n (t := 46) F dX9_lays_45 rfl rfl rfl ?_
          refine g_X9_26 (t := 49) F dX9_lays_46 rfl rfl ?_
          refine q_iload_n (t := 50) F dX9_lays_49 rfl rfl rfl ?_
          refine q_iload_n (t := 51) F dX9_lays_50 rfl rfl rfl ?_
          refine st_34 (t := 52) F dX9_lays_51 (by omega) (by omega) rfl ?_
          refine q_goto (t := 60) F dX9_lays_52 (by decide) ?_
          refine q_vret F dX9_lays_60 rfl ?_
          first
            | (exfalso; omega)
            | (refine ⟨rfl, ?_⟩
               unfold lyI
               first
                 | rw [if_pos (by omega)]
                 | rw [if_neg (by omega), if_pos (by omega)]
                 | rw [if_neg (by omega), if_neg (by omega), if_neg (by omega), if_neg (by omega)])
      · refine q_aload_n (t := 31) F dX9_lays_30 rfl rfl rfl ?_
        refine g_X9_29 (t := 34) F dX9_lays_31 rfl rfl ?_
        refine q_iload_n (t := 35) F dX9_lays_34 rfl rfl rfl ?_
        refine q_iload_n (t := 36) F dX9_lays_35 rfl rfl rfl ?_
        refine st_35 (t := 37) F dX9_lays_36 (by omega) (by omega) rfl ?_
        refine q_goto (t := 60) F dX9_lays_37 (by decide) ?_
        refine q_vret F dX9_lays_60 rfl ?_
        first
          | (exfalso; omega)
          | (refine ⟨rfl, ?_⟩
             unfold lyI
             first
               | rw [if_pos (by omega)]
               | rw [if_neg (by omega), if_pos (by omega)]
               | rw [if_neg (by omega), if_neg (by omega), if_neg (by omega), if_neg (by omega)])
    · refine q_aload_n (t := 18) F dX9_lays_17 rfl rfl rfl ?_
      refine q_iload_n (t := 19) F dX9_lays_18 rfl rfl rfl ?_
      refine p_X9_23 (t := 22) F dX9_lays_19 rfl rfl ?_
      refine q_goto (t := 60) F dX9_lays_22 (by decide) ?_
      refine q_vret F dX9_lays_60 rfl ?_
      first
        | (exfalso; omega)
        | (refine ⟨rfl, ?_⟩
           unfold lyI
           first
             | rw [if_pos (by omega)]
             | rw [if_neg (by omega), if_pos (by omega)]
             | rw [if_neg (by omega), if_neg (by omega), if_neg (by omega), if_neg (by omega)])
  · refine q_aload_n (t := 5) F dX9_lays_4 rfl rfl rfl ?_
    refine q_iload_n (t := 6) F dX9_lays_5 rfl rfl rfl ?_
    refine p_X9_117 (t := 9) F dX9_lays_6 rfl rfl ?_
    refine q_goto (t := 60) F dX9_lays_9 (by decide) ?_
    refine q_vret F dX9_lays_60 rfl ?_
    first
      | (exfalso; omega)
      | (refine ⟨rfl, ?_⟩
         unfold lyI
         first
           | rw [if_pos (by omega)]
           | rw [if_neg (by omega), if_pos (by omega)]
           | rw [if_neg (by omega), if_neg (by omega), if_neg (by omega), if_neg (by omega)])

theorem c_lays2 (l : Launch) (G : GS) (im : IM) (bt rt : Nat) (lm : IM) (what v of : Int) (hwhat : ri what) (hp : what = 2 ∨ what = 3 → 0 ≤ of ∧ of < 5) : Cn l (XR G) yX9_lays Y_X9_lays [vR 30 0, vI what, vI of, vI v] (im, rs bt rt, lm) (pV fun m' => m' = (lyI im what of.toNat v, rs bt rt, lm)) := by
  by_cases w : what = 2 ∨ what = 3
  · have hc := c_X9_lays l G im bt rt lm what v of.toNat hwhat (fun _ => by omega)
    rw [Int.toNat_of_nonneg (by omega)] at hc
    exact hc
  · exact g_X9_lays l G im bt rt lm what v of hwhat w

set_option maxHeartbeats 4000000 in
theorem c_X9_set (l : Launch) (G : GS) (im : IM) (bt rt : Nat) (lm : IM) (h : RC im) (what of v : Int) (hwhat : ri what) (hof : ri of) (hv : ri v) : Cn l (XR G) yX9_set Y_X9_set [vR 30 0, vI what, vI of, vI v] (im, rs bt rt, lm) (pI fun x m' => (¬ ((what = 0 ∧ 0 ≤ v ∧ v ≤ 999) ∨ (what = 1 ∧ 0 ≤ v ∧ v ≤ 16777215) ∨ (what = 2 ∧ (0 ≤ of ∧ of < im 30 0 12) ∧ 0 ≤ v ∧ v ≤ 9)) → x = -2 ∧ m' = (im, rs bt rt, lm)) ∧ (((what = 0 ∧ 0 ≤ v ∧ v ≤ 999) ∨ (what = 1 ∧ 0 ≤ v ∧ v ≤ 16777215) ∨ (what = 2 ∧ (0 ≤ of ∧ of < im 30 0 12) ∧ 0 ≤ v ∧ v ≤ 9)) → ∃ im' lm', x = tdR im of what ∧ RI im' ∧ agY im' im ∧ lgQ lm' lm ∧ m' = (lyI im' what of.toNat v, rs bt rt, lm'))) := by
  refine cn_of (by decide) (okR G) rfl (Nat.le_of_ble_eq_true rfl) ?_
  intro M ad hMl F
  subst hMl
  have hR := h.1
  have hX := h.2.1
  have h4 := h.2.2.1
  have h12 := h.2.2.2.1
  have h7 := h.2.2.2.2.1
  have h6 := hX.2.2.1
  have h3 := hX.2.2.2.1
  have hP := h.2.2.2.2.2.2
  have hR := h.1
  have what1 := hwhat.1
  have what2 := hwhat.2
  have of1 := hof.1
  have of2 := hof.2
  have v1 := hv.1
  have v2 := hv.2
  refine wp_pad 1 ?_
  show Wp M (XR G) ad Y_X9_set (pI fun x m' => (¬ ((what = 0 ∧ 0 ≤ v ∧ v ≤ 999) ∨ (what = 1 ∧ 0 ≤ v ∧ v ≤ 16777215) ∨ (what = 2 ∧ (0 ≤ of ∧ of < im 30 0 12) ∧ 0 ≤ v ∧ v ≤ 9)) → x = -2 ∧ m' = (im, rs bt rt, lm)) ∧ (((what = 0 ∧ 0 ≤ v ∧ v ≤ 999) ∨ (what = 1 ∧ 0 ≤ v ∧ v ≤ 16777215) ∨ (what = 2 ∧ (0 ≤ of ∧ of < im 30 0 12) ∧ 0 ≤ v ∧ v ≤ 9)) → ∃ im' lm', x = tdR im of what ∧ RI im' ∧ agY im' im ∧ lgQ lm' lm ∧ m' = (lyI im' what of.toNat v, rs bt rt, lm'))) 0 [some (vR 30 0), some (vI what), some (vI of), some (vI v), none] [] (im, rs bt rt, lm)
  refine q_iload_n (t := 1) F dX9_set_0 rfl rfl rfl ?_
  refine q_i2l (t := 2) F dX9_set_1 (by first | exact hR _ _ _ | (constructor <;> omega)) rfl ?_
  refine q_lconst (t := 3) (x := 0) F dX9_set_2 (by decide) rfl ?_
  refine q_ldc2 (t := 6) (x := 2) F dX9_set_3 kl_X9_99 (by decide) rfl ?_
  refine wp_callS (t := 9) [_, _, _] F dX9_set_6 k_X9_in st_X9_in ml_X9_91 rfl rfl (Nat.le_of_ble_eq_true rfl) (by decide) (c_X9_in _ G _ _ _ _ _ _ _ (by constructor <;> omega) (by constructor <;> omega) (by constructor <;> omega)) rfl (kI ?_)
  rintro x6 m' ⟨hx6, rfl⟩
  have hx6 := if01 hx6
  refine q_if_eq (t := 12) (u := 58) F dX9_set_9 (by first | exact hR _ _ _ | (constructor <;> omega)) (by decide) rfl (fun c9 => ?_) (fun c9 => ?_)
  · refine q_bipush (t := 60) F dX9_set_58 (by decide) rfl ?_
    refine q_iret F dX9_set_60 rfl ?_
    first
      | exact ⟨_, rfl, fun _ => ⟨rfl, rfl⟩, fun z => absurd z (by omega)⟩
      | exact ⟨_, rfl, fun z => absurd (by first | exact Or.inr (Or.inr ⟨by omega, by omega, by omega⟩) | exact Or.inr (Or.inl ⟨by omega, by omega, by omega⟩) | exact Or.inl ⟨by omega, by omega, by omega⟩ | omega) z, fun _ => ⟨im2, lm2, hx64, hR2, hag2, hlg2, rfl⟩⟩
      | omega
  · refine q_iload_n (t := 13) F dX9_set_12 rfl rfl rfl ?_
    refine q_iconst (t := 14) F dX9_set_13 rfl ?_
    refine q_icmp_ne (t := 17) (u := 25) F dX9_set_14 (by constructor <;> omega) (by constructor <;> omega) (by decide) rfl (fun c14 => ?_) (fun c14 => ?_)
    · refine q_iload_n (t := 26) F dX9_set_25 rfl rfl rfl ?_
      refine q_i2l (t := 27) F dX9_set_26 (by first | exact hR _ _ _ | (constructor <;> omega)) rfl ?_
      refine q_lconst (t := 28) (x := 0) F dX9_set_27 (by decide) rfl ?_
      refine q_iload_n (t := 29) F dX9_set_28 rfl rfl rfl ?_
      refine q_if_ne (t := 32) (u := 38) F dX9_set_29 (by first | exact hR _ _ _ | (constructor <;> omega)) (by decide) rfl (fun c29 => ?_) (fun c29 => ?_)
      · refine q_iload_n (t := 39) F dX9_set_38 rfl rfl rfl ?_
        refine q_iconst (t := 40) F dX9_set_39 rfl ?_
        refine q_icmp_ne (t := 43) (u := 49) F dX9_set_40 (by first | exact hR _ _ _ | (constructor <;> omega)) (by first | exact hR _ _ _ | (constructor <;> omega)) (by decide) rfl (fun c40 => ?_) (fun c40 => ?_)
        · refine q_ldc2 (t := 52) (x := 9) F dX9_set_49 kl_X9_95 (by decide) rfl ?_
          refine wp_callS (t := 55) [_, _, _] F dX9_set_52 k_X9_in st_X9_in ml_X9_91 rfl rfl (Nat.le_of_ble_eq_true rfl) (by decide) (c_X9_in _ G _ _ _ _ _ _ _ (by constructor <;> omega) (by constructor <;> omega) (by constructor <;> omega)) rfl (kI ?_)
          rintro x52 m' ⟨hx52, rfl⟩
          have hx52 := if01 hx52
          refine q_if_ne (t := 58) (u := 61) F dX9_set_55 (by first | exact hR _ _ _ | (constructor <;> omega)) (by decide) rfl (fun c55 => ?_) (fun c55 => ?_)
          · refine q_aload_n (t := 62) F dX9_set_61 rfl rfl rfl ?_
            refine q_iload_n (t := 63) F dX9_set_62 rfl rfl rfl ?_
            refine q_iload_n (t := 64) F dX9_set_63 rfl rfl rfl ?_
            refine wp_callV (t := 67) [_, _] F dX9_set_64 k_X9_told v_X9_told ml_X9_109 rfl rfl rfl rfl (Nat.le_of_ble_eq_true rfl) (by decide) (m_30 (by omega)) (c_X9_told _ G im bt rt lm h of what hof hwhat) rfl (kI ?_)
            rintro x64 m' ⟨im2, lm2, hx64, hR2, hag2, hlg2, rfl⟩
            refine q_istore (t := 69) F dX9_set_67 (by decide) rfl rfl ?_
            refine q_aload_n (t := 70) F dX9_set_69 rfl rfl rfl ?_
            refine q_iload_n (t := 71) F dX9_set_70 rfl rfl rfl ?_
            refine q_iload_n (t := 72) F dX9_set_71 rfl rfl rfl ?_
            refine q_iload_n (t := 73) F dX9_set_72 rfl rfl rfl ?_
            refine wp_callV (t := 76) [_, _, _] F dX9_set_73 k_X9_lays v_X9_lays ml_X9_113 rfl rfl rfl rfl (Nat.le_of_ble_eq_true rfl) (by decide) (m_30 (by omega)) (c_lays2 _ G im2 bt rt lm2 what v of hwhat (fun _ => by omega)) rfl (kV ?_)
            rintro m' rfl
            refine q_iload (t := 78) F dX9_set_76 rfl rfl ?_
            refine q_iret F dX9_set_78 rfl ?_
            first
              | exact ⟨_, rfl, fun _ => ⟨rfl, rfl⟩, fun z => absurd z (by omega)⟩
              | exact ⟨_, rfl, fun z => absurd (by first | exact Or.inr (Or.inr ⟨by omega, by omega, by omega⟩) | exact Or.inr (Or.inl ⟨by omega, by omega, by omega⟩) | exact Or.inl ⟨by omega, by omega, by omega⟩ | omega) z, fun _ => ⟨im2, lm2, hx64, hR2, hag2, hlg2, rfl⟩⟩
              | omega
          · refine q_bipush (t := 60) F dX9_set_58 (by decide) rfl ?_
            refine q_iret F dX9_set_60 rfl ?_
            first
              | exact ⟨_, rfl, fun _ => ⟨rfl, rfl⟩, fun z => absurd z (by omega)⟩
              | exact ⟨_, rfl, fun z => absurd (by first | exact Or.inr (Or.inr ⟨by omega, by omega, by omega⟩) | exact Or.inr (Or.inl ⟨by omega, by omega, by omega⟩) | exact Or.inl ⟨by omega, by omega, by omega⟩ | omega) z, fun _ => ⟨im2, lm2, hx64, hR2, hag2, hlg2, rfl⟩⟩
              | omega
        · refine q_ldc2 (t := 46) (x := 16777215) F dX9_set_43 kl_X9_107 (by decide) rfl ?_
          refine q_goto (t := 52) F dX9_set_46 (by decide) ?_
          refine wp_callS (t := 55) [_, _, _] F dX9_set_52 k_X9_in st_X9_in ml_X9_91 rfl rfl (Nat.le_of_ble_eq_true rfl) (by decide) (c_X9_in _ G _ _ _ _ _ _ _ (by constructor <;> omega) (by constructor <;> omega) (by constructor <;> omega)) rfl (kI ?_)
          rintro x52 m' ⟨hx52, rfl⟩
          have hx52 := if01 hx52
          refine q_if_ne (t := 58) (u := 61) F dX9_set_55 (by first | exact hR _ _ _ | (constructor <;> omega)) (by decide) rfl (fun c55 => ?_) (fun c55 => ?_)
          · refine q_aload_n (t := 62) F dX9_set_61 rfl rfl rfl ?_
            refine q_iload_n (t := 63) F dX9_set_62 rfl rfl rfl ?_
            refine q_iload_n (t := 64) F dX9_set_63 rfl rfl rfl ?_
            refine wp_callV (t := 67) [_, _] F dX9_set_64 k_X9_told v_X9_told ml_X9_109 rfl rfl rfl rfl (Nat.le_of_ble_eq_true rfl) (by decide) (m_30 (by omega)) (c_X9_told _ G im bt rt lm h of what hof hwhat) rfl (kI ?_)
            rintro x64 m' ⟨im2, lm2, hx64, hR2, hag2, hlg2, rfl⟩
            refine q_istore (t := 69) F dX9_set_67 (by decide) rfl rfl ?_
            refine q_aload_n (t := 70) F dX9_set_69 rfl rfl rfl ?_
            refine q_iload_n (t := 71) F dX9_set_70 rfl rfl rfl ?_
            refine q_iload_n (t := 72) F dX9_set_71 rfl rfl rfl ?_
            refine q_iload_n (t := 73) F dX9_set_72 rfl rfl rfl ?_
            refine wp_callV (t := 76) [_, _, _] F dX9_set_73 k_X9_lays v_X9_lays ml_X9_113 rfl rfl rfl rfl (Nat.le_of_ble_eq_true rfl) (by decide) (m_30 (by omega)) (c_lays2 _ G im2 bt rt lm2 what v of hwhat (fun _ => by omega)) rfl (kV ?_)
            rintro m' rfl
            refine q_iload (t := 78) F dX9_set_76 rfl rfl ?_
            refine q_iret F dX9_set_78 rfl ?_
            first
              | exact ⟨_, rfl, fun _ => ⟨rfl, rfl⟩, fun z => absurd z (by omega)⟩
              | exact ⟨_, rfl, fun z => absurd (by first | exact Or.inr (Or.inr ⟨by omega, by omega, by omega⟩) | exact Or.inr (Or.inl ⟨by omega, by omega, by omega⟩) | exact Or.inl ⟨by omega, by omega, by omega⟩ | omega) z, fun _ => ⟨im2, lm2, hx64, hR2, hag2, hlg2, rfl⟩⟩
              | omega
          · refine q_bipush (t := 60) F dX9_set_58 (by decide) rfl ?_
            refine q_iret F dX9_set_60 rfl ?_
            first
              | exact ⟨_, rfl, fun _ => ⟨rfl, rfl⟩, fun z => absurd z (by omega)⟩
              | exact ⟨_, rfl, fun z => absurd (by first | exact Or.inr (Or.inr ⟨by omega, by omega, by omega⟩) | exact Or.inr (Or.inl ⟨by omega, by omega, by omega⟩) | exact Or.inl ⟨by omega, by omega, by omega⟩ | omega) z, fun _ => ⟨im2, lm2, hx64, hR2, hag2, hlg2, rfl⟩⟩
              | omega
      · refine q_ldc2 (t := 35) (x := 999) F dX9_set_32 kl_X9_105 (by decide) rfl ?_
        refine q_goto (t := 52) F dX9_set_35 (by decide) ?_
        refine wp_callS (t := 55) [_, _, _] F dX9_set_52 k_X9_in st_X9_in ml_X9_91 rfl rfl (Nat.le_of_ble_eq_true rfl) (by decide) (c_X9_in _ G _ _ _ _ _ _ _ (by constructor <;> omega) (by constructor <;> omega) (by constructor <;> omega)) rfl (kI ?_)
        rintro x52 m' ⟨hx52, rfl⟩
        have hx52 := if01 hx52
        refine q_if_ne (t := 58) (u := 61) F dX9_set_55 (by first | exact hR _ _ _ | (constructor <;> omega)) (by decide) rfl (fun c55 => ?_) (fun c55 => ?_)
        · refine q_aload_n (t := 62) F dX9_set_61 rfl rfl rfl ?_
          refine q_iload_n (t := 63) F dX9_set_62 rfl rfl rfl ?_
          refine q_iload_n (t := 64) F dX9_set_63 rfl rfl rfl ?_
          refine wp_callV (t := 67) [_, _] F dX9_set_64 k_X9_told v_X9_told ml_X9_109 rfl rfl rfl rfl (Nat.le_of_ble_eq_true rfl) (by decide) (m_30 (by omega)) (c_X9_told _ G im bt rt lm h of what hof hwhat) rfl (kI ?_)
          rintro x64 m' ⟨im2, lm2, hx64, hR2, hag2, hlg2, rfl⟩
          refine q_istore (t := 69) F dX9_set_67 (by decide) rfl rfl ?_
          refine q_aload_n (t := 70) F dX9_set_69 rfl rfl rfl ?_
          refine q_iload_n (t := 71) F dX9_set_70 rfl rfl rfl ?_
          refine q_iload_n (t := 72) F dX9_set_71 rfl rfl rfl ?_
          refine q_iload_n (t := 73) F dX9_set_72 rfl rfl rfl ?_
          refine wp_callV (t := 76) [_, _, _] F dX9_set_73 k_X9_lays v_X9_lays ml_X9_113 rfl rfl rfl rfl (Nat.le_of_ble_eq_true rfl) (by decide) (m_30 (by omega)) (c_lays2 _ G im2 bt rt lm2 what v of hwhat (fun _ => by omega)) rfl (kV ?_)
          rintro m' rfl
          refine q_iload (t := 78) F dX9_set_76 rfl rfl ?_
          refine q_iret F dX9_set_78 rfl ?_
          first
            | exact ⟨_, rfl, fun _ => ⟨rfl, rfl⟩, fun z => absurd z (by omega)⟩
            | exact ⟨_, rfl, fun z => absurd (by first | exact Or.inr (Or.inr ⟨by omega, by omega, by omega⟩) | exact Or.inr (Or.inl ⟨by omega, by omega, by omega⟩) | exact Or.inl ⟨by omega, by omega, by omega⟩ | omega) z, fun _ => ⟨im2, lm2, hx64, hR2, hag2, hlg2, rfl⟩⟩
            | omega
        · refine q_bipush (t := 60) F dX9_set_58 (by decide) rfl ?_
          refine q_iret F dX9_set_60 rfl ?_
          first
            | exact ⟨_, rfl, fun _ => ⟨rfl, rfl⟩, fun z => absurd z (by omega)⟩
            | exact ⟨_, rfl, fun z => absurd (by first | exact Or.inr (Or.inr ⟨by omega, by omega, by omega⟩) | exact Or.inr (Or.inl ⟨by omega, by omega, by omega⟩) | exact Or.inl ⟨by omega, by omega, by omega⟩ | omega) z, fun _ => ⟨im2, lm2, hx64, hR2, hag2, hlg2, rfl⟩⟩
            | omega
    · refine q_aload_n (t := 18) F dX9_set_17 rfl rfl rfl ?_
      refine q_iload_n (t := 19) F dX9_set_18 rfl rfl rfl ?_
      refine wp_callV (t := 22) [_] F dX9_set_19 k_X9_isOne v_X9_isOne ml_X9_101 rfl rfl rfl rfl (Nat.le_of_ble_eq_true rfl) (by decide) (m_30 (by omega)) (c_X9_isOne _ G im bt rt lm hR h12.1 h12.2 of (by constructor <;> omega)) rfl (kI ?_)
      rintro x19 m' ⟨hx19, rfl⟩
      have hx19 := if01 hx19
      refine q_if_eq (t := 25) (u := 58) F dX9_set_22 (by first | exact hR _ _ _ | (constructor <;> omega)) (by decide) rfl (fun c22 => ?_) (fun c22 => ?_)
      · refine q_bipush (t := 60) F dX9_set_58 (by decide) rfl ?_
        refine q_iret F dX9_set_60 rfl ?_
        first
          | exact ⟨_, rfl, fun _ => ⟨rfl, rfl⟩, fun z => absurd z (by omega)⟩
          | exact ⟨_, rfl, fun z => absurd (by first | exact Or.inr (Or.inr ⟨by omega, by omega, by omega⟩) | exact Or.inr (Or.inl ⟨by omega, by omega, by omega⟩) | exact Or.inl ⟨by omega, by omega, by omega⟩ | omega) z, fun _ => ⟨im2, lm2, hx64, hR2, hag2, hlg2, rfl⟩⟩
          | omega
      · refine q_iload_n (t := 26) F dX9_set_25 rfl rfl rfl ?_
        refine q_i2l (t := 27) F dX9_set_26 (by first | exact hR _ _ _ | (constructor <;> omega)) rfl ?_
        refine q_lconst (t := 28) (x := 0) F dX9_set_27 (by decide) rfl ?_
        refine q_iload_n (t := 29) F dX9_set_28 rfl rfl rfl ?_
        refine q_if_ne (t := 32) (u := 38) F dX9_set_29 (by first | exact hR _ _ _ | (constructor <;> omega)) (by decide) rfl (fun c29 => ?_) (fun c29 => ?_)
        · refine q_iload_n (t := 39) F dX9_set_38 rfl rfl rfl ?_
          refine q_iconst (t := 40) F dX9_set_39 rfl ?_
          refine q_icmp_ne (t := 43) (u := 49) F dX9_set_40 (by first | exact hR _ _ _ | (constructor <;> omega)) (by first | exact hR _ _ _ | (constructor <;> omega)) (by decide) rfl (fun c40 => ?_) (fun c40 => ?_)
          · refine q_ldc2 (t := 52) (x := 9) F dX9_set_49 kl_X9_95 (by decide) rfl ?_
            refine wp_callS (t := 55) [_, _, _] F dX9_set_52 k_X9_in st_X9_in ml_X9_91 rfl rfl (Nat.le_of_ble_eq_true rfl) (by decide) (c_X9_in _ G _ _ _ _ _ _ _ (by constructor <;> omega) (by constructor <;> omega) (by constructor <;> omega)) rfl (kI ?_)
            rintro x52 m' ⟨hx52, rfl⟩
            have hx52 := if01 hx52
            refine q_if_ne (t := 58) (u := 61) F dX9_set_55 (by first | exact hR _ _ _ | (constructor <;> omega)) (by decide) rfl (fun c55 => ?_) (fun c55 => ?_)
            · refine q_aload_n (t := 62) F dX9_set_61 rfl rfl rfl ?_
              refine q_iload_n (t := 63) F dX9_set_62 rfl rfl rfl ?_
              refine q_iload_n (t := 64) F dX9_set_63 rfl rfl rfl ?_
              refine wp_callV (t := 67) [_, _] F dX9_set_64 k_X9_told v_X9_told ml_X9_109 rfl rfl rfl rfl (Nat.le_of_ble_eq_true rfl) (by decide) (m_30 (by omega)) (c_X9_told _ G im bt rt lm h of what hof hwhat) rfl (kI ?_)
              rintro x64 m' ⟨im2, lm2, hx64, hR2, hag2, hlg2, rfl⟩
              refine q_istore (t := 69) F dX9_set_67 (by decide) rfl rfl ?_
              refine q_aload_n (t := 70) F dX9_set_69 rfl rfl rfl ?_
              refine q_iload_n (t := 71) F dX9_set_70 rfl rfl rfl ?_
              refine q_iload_n (t := 72) F dX9_set_71 rfl rfl rfl ?_
              refine q_iload_n (t := 73) F dX9_set_72 rfl rfl rfl ?_
              refine wp_callV (t := 76) [_, _, _] F dX9_set_73 k_X9_lays v_X9_lays ml_X9_113 rfl rfl rfl rfl (Nat.le_of_ble_eq_true rfl) (by decide) (m_30 (by omega)) (c_lays2 _ G im2 bt rt lm2 what v of hwhat (fun _ => by omega)) rfl (kV ?_)
              rintro m' rfl
              refine q_iload (t := 78) F dX9_set_76 rfl rfl ?_
              refine q_iret F dX9_set_78 rfl ?_
              first
                | exact ⟨_, rfl, fun _ => ⟨rfl, rfl⟩, fun z => absurd z (by omega)⟩
                | exact ⟨_, rfl, fun z => absurd (by first | exact Or.inr (Or.inr ⟨by omega, by omega, by omega⟩) | exact Or.inr (Or.inl ⟨by omega, by omega, by omega⟩) | exact Or.inl ⟨by omega, by omega, by omega⟩ | omega) z, fun _ => ⟨im2, lm2, hx64, hR2, hag2, hlg2, rfl⟩⟩
                | omega
            · refine q_bipush (t := 60) F dX9_set_58 (by decide) rfl ?_
              refine q_iret F dX9_set_60 rfl ?_
              first
                | exact ⟨_, rfl, fun _ => ⟨rfl, rfl⟩, fun z => absurd z (by omega)⟩
                | exact ⟨_, rfl, fun z => absurd (by first | exact Or.inr (Or.inr ⟨by omega, by omega, by omega⟩) | exact Or.inr (Or.inl ⟨by omega, by omega, by omega⟩) | exact Or.inl ⟨by omega, by omega, by omega⟩ | omega) z, fun _ => ⟨im2, lm2, hx64, hR2, hag2, hlg2, rfl⟩⟩
                | omega
          · refine q_ldc2 (t := 46) (x := 16777215) F dX9_set_43 kl_X9_107 (by decide) rfl ?_
            refine q_goto (t := 52) F dX9_set_46 (by decide) ?_
            refine wp_callS (t := 55) [_, _, _] F dX9_set_52 k_X9_in st_X9_in ml_X9_91 rfl rfl (Nat.le_of_ble_eq_true rfl) (by decide) (c_X9_in _ G _ _ _ _ _ _ _ (by constructor <;> omega) (by constructor <;> omega) (by constructor <;> omega)) rfl (kI ?_)
            rintro x52 m' ⟨hx52, rfl⟩
            have hx52 := if01 hx52
            refine q_if_ne (t := 58) (u := 61) F dX9_set_55 (by first | exact hR _ _ _ | (constructor <;> omega)) (by decide) rfl (fun c55 => ?_) (fun c55 => ?_)
            · refine q_aload_n (t := 62) F dX9_set_61 rfl rfl rfl ?_
              refine q_iload_n (t := 63) F dX9_set_62 rfl rfl rfl ?_
              refine q_iload_n (t := 64) F dX9_set_63 rfl rfl rfl ?_
              refine wp_callV (t := 67) [_, _] F dX9_set_64 k_X9_told v_X9_told ml_X9_109 rfl rfl rfl rfl (Nat.le_of_ble_eq_true rfl) (by decide) (m_30 (by omega)) (c_X9_told _ G im bt rt lm h of what hof hwhat) rfl (kI ?_)
              rintro x64 m' ⟨im2, lm2, hx64, hR2, hag2, hlg2, rfl⟩
              refine q_istore (t := 69) F dX9_set_67 (by decide) rfl rfl ?_
              refine q_aload_n (t := 70) F dX9_set_69 rfl rfl rfl ?_
              refine q_iload_n (t := 71) F dX9_set_70 rfl rfl rfl ?_
              refine q_iload_n (t := 72) F dX9_set_71 rfl rfl rfl ?_
              refine q_iload_n (t := 73) F dX9_set_72 rfl rfl rfl ?_
              refine wp_callV (t := 76) [_, _, _] F dX9_set_73 k_X9_lays v_X9_lays ml_X9_113 rfl rfl rfl rfl (Nat.le_of_ble_eq_true rfl) (by decide) (m_30 (by omega)) (c_lays2 _ G im2 bt rt lm2 what v of hwhat (fun _ => by omega)) rfl (kV ?_)
              rintro m' rfl
              refine q_iload (t := 78) F dX9_set_76 rfl rfl ?_
              refine q_iret F dX9_set_78 rfl ?_
              first
                | exact ⟨_, rfl, fun _ => ⟨rfl, rfl⟩, fun z => absurd z (by omega)⟩
                | exact ⟨_, rfl, fun z => absurd (by first | exact Or.inr (Or.inr ⟨by omega, by omega, by omega⟩) | exact Or.inr (Or.inl ⟨by omega, by omega, by omega⟩) | exact Or.inl ⟨by omega, by omega, by omega⟩ | omega) z, fun _ => ⟨im2, lm2, hx64, hR2, hag2, hlg2, rfl⟩⟩
                | omega
            · refine q_bipush (t := 60) F dX9_set_58 (by decide) rfl ?_
              refine q_iret F dX9_set_60 rfl ?_
              first
                | exact ⟨_, rfl, fun _ => ⟨rfl, rfl⟩, fun z => absurd z (by omega)⟩
                | exact ⟨_, rfl, fun z => absurd (by first | exact Or.inr (Or.inr ⟨by omega, by omega, by omega⟩) | exact Or.inr (Or.inl ⟨by omega, by omega, by omega⟩) | exact Or.inl ⟨by omega, by omega, by omega⟩ | omega) z, fun _ => ⟨im2, lm2, hx64, hR2, hag2, hlg2, rfl⟩⟩
                | omega
        · refine q_ldc2 (t := 35) (x := 999) F dX9_set_32 kl_X9_105 (by decide) rfl ?_
          refine q_goto (t := 52) F dX9_set_35 (by decide) ?_
          refine wp_callS (t := 55) [_, _, _] F dX9_set_52 k_X9_in st_X9_in ml_X9_91 rfl rfl (Nat.le_of_ble_eq_true rfl) (by decide) (c_X9_in _ G _ _ _ _ _ _ _ (by constructor <;> omega) (by constructor <;> omega) (by constructor <;> omega)) rfl (kI ?_)
          rintro x52 m' ⟨hx52, rfl⟩
          have hx52 := if01 hx52
          refine q_if_ne (t := 58) (u := 61) F dX9_set_55 (by first | exact hR _ _ _ | (constructor <;> omega)) (by decide) rfl (fun c55 => ?_) (fun c55 => ?_)
          · refine q_aload_n (t := 62) F dX9_set_61 rfl rfl rfl ?_
            refine q_iload_n (t := 63) F dX9_set_62 rfl rfl rfl ?_
            refine q_iload_n (t := 64) F dX9_set_63 rfl rfl rfl ?_
            refine wp_callV (t := 67) [_, _] F dX9_set_64 k_X9_told v_X9_told ml_X9_109 rfl rfl rfl rfl (Nat.le_of_ble_eq_true rfl) (by decide) (m_30 (by omega)) (c_X9_told _ G im bt rt lm h of what hof hwhat) rfl (kI ?_)
            rintro x64 m' ⟨im2, lm2, hx64, hR2, hag2, hlg2, rfl⟩
            refine q_istore (t := 69) F dX9_set_67 (by decide) rfl rfl ?_
            refine q_aload_n (t := 70) F dX9_set_69 rfl rfl rfl ?_
            refine q_iload_n (t := 71) F dX9_set_70 rfl rfl rfl ?_
            refine q_iload_n (t := 72) F dX9_set_71 rfl rfl rfl ?_
            refine q_iload_n (t := 73) F dX9_set_72 rfl rfl rfl ?_
            refine wp_callV (t := 76) [_, _, _] F dX9_set_73 k_X9_lays v_X9_lays ml_X9_113 rfl rfl rfl rfl (Nat.le_of_ble_eq_true rfl) (by decide) (m_30 (by omega)) (c_lays2 _ G im2 bt rt lm2 what v of hwhat (fun _ => by omega)) rfl (kV ?_)
            rintro m' rfl
            refine q_iload (t := 78) F dX9_set_76 rfl rfl ?_
            refine q_iret F dX9_set_78 rfl ?_
            first
              | exact ⟨_, rfl, fun _ => ⟨rfl, rfl⟩, fun z => absurd z (by omega)⟩
              | exact ⟨_, rfl, fun z => absurd (by first | exact Or.inr (Or.inr ⟨by omega, by omega, by omega⟩) | exact Or.inr (Or.inl ⟨by omega, by omega, by omega⟩) | exact Or.inl ⟨by omega, by omega, by omega⟩ | omega) z, fun _ => ⟨im2, lm2, hx64, hR2, hag2, hlg2, rfl⟩⟩
              | omega
          · refine q_bipush (t := 60) F dX9_set_58 (by decide) rfl ?_
            refine q_iret F dX9_set_60 rfl ?_
            first
              | exact ⟨_, rfl, fun _ => ⟨rfl, rfl⟩, fun z => absurd z (by omega)⟩
              | exact ⟨_, rfl, fun z => absurd (by first | exact Or.inr (Or.inr ⟨by omega, by omega, by omega⟩) | exact Or.inr (Or.inl ⟨by omega, by omega, by omega⟩) | exact Or.inl ⟨by omega, by omega, by omega⟩ | omega) z, fun _ => ⟨im2, lm2, hx64, hR2, hag2, hlg2, rfl⟩⟩
              | omega

set_option maxHeartbeats 4000000 in
theorem c_X9_fill (l : Launch) (G : GS) (im : IM) (bt rt : Nat) (lm : IM) (h : RC im) (p g w hr : Int) (hp : ri p) (hg : ri g) (hw : ri w) (hhr : ri hr) : Cn l (XR G) yX9_fill Y_X9_fill [vR 30 0, vI p, vI g, vI w, vI hr] (im, rs bt rt, lm) (pI fun x m' => (¬ ((0 ≤ p ∧ p < im 30 0 12) ∧ (0 ≤ g ∧ g ≤ 9) ∧ (-1 ≤ w ∧ w ≤ 15) ∧ 0 ≤ hr ∧ hr ≤ 999) → x = -2 ∧ m' = (im, rs bt rt, lm)) ∧ (((0 ≤ p ∧ p < im 30 0 12) ∧ (0 ≤ g ∧ g ≤ 9) ∧ (-1 ≤ w ∧ w ≤ 15) ∧ 0 ≤ hr ∧ hr ≤ 999) → x = im 36 0 (10 * p.toNat + g.toNat) ∧ m' = (up (up im 36 0 (10 * p.toNat + g.toNat) w) 37 0 (10 * p.toNat + g.toNat) hr, rs bt rt, lm))) := by
  refine cn_of (by decide) (okR G) rfl (Nat.le_of_ble_eq_true rfl) ?_
  intro M ad hMl F
  subst hMl
  have hR := h.1
  have hX := h.2.1
  have h4 := h.2.2.1
  have h12 := h.2.2.2.1
  have h7 := h.2.2.2.2.1
  have h6 := hX.2.2.1
  have h3 := hX.2.2.2.1
  have hP := h.2.2.2.2.2.2
  have hR := h.1
  have p1 := hp.1
  have p2 := hp.2
  have g1 := hg.1
  have g2 := hg.2
  have w1 := hw.1
  have w2 := hw.2
  have hr1 := hhr.1
  have hr2 := hhr.2
  refine wp_pad 2 ?_
  show Wp M (XR G) ad Y_X9_fill (pI fun x m' => (¬ ((0 ≤ p ∧ p < im 30 0 12) ∧ (0 ≤ g ∧ g ≤ 9) ∧ (-1 ≤ w ∧ w ≤ 15) ∧ 0 ≤ hr ∧ hr ≤ 999) → x = -2 ∧ m' = (im, rs bt rt, lm)) ∧ (((0 ≤ p ∧ p < im 30 0 12) ∧ (0 ≤ g ∧ g ≤ 9) ∧ (-1 ≤ w ∧ w ≤ 15) ∧ 0 ≤ hr ∧ hr ≤ 999) → x = im 36 0 (10 * p.toNat + g.toNat) ∧ m' = (up (up im 36 0 (10 * p.toNat + g.toNat) w) 37 0 (10 * p.toNat + g.toNat) hr, rs bt rt, lm))) 0 [some (vR 30 0), some (vI p), some (vI g), some (vI w), some (vI hr), none, none] [] (im, rs bt rt, lm)
  refine q_aload_n (t := 1) F dX9_fill_0 rfl rfl rfl ?_
  refine q_iload_n (t := 2) F dX9_fill_1 rfl rfl rfl ?_
  refine wp_callV (t := 5) [_] F dX9_fill_2 k_X9_isOne v_X9_isOne ml_X9_101 rfl rfl rfl rfl (Nat.le_of_ble_eq_true rfl) (by decide) (m_30 (by omega)) (c_X9_isOne _ G im bt rt lm hR h12.1 h12.2 p (by constructor <;> omega)) rfl (kI ?_)
  rintro x2 m' ⟨hx2, rfl⟩
  have hx2 := if01 hx2
  refine q_if_eq (t := 8) (u := 40) F dX9_fill_5 (by first | exact hR _ _ _ | (constructor <;> omega)) (by decide) rfl (fun c5 => ?_) (fun c5 => ?_)
  · refine q_bipush (t := 42) F dX9_fill_40 (by decide) rfl ?_
    refine q_iret F dX9_fill_42 rfl ?_
    first
      | exact ⟨_, rfl, fun _ => ⟨rfl, rfl⟩, fun z => absurd z (by omega)⟩
      | exact ⟨_, rfl, fun z => absurd (by omega) z, fun _ => ⟨rfl, rfl⟩⟩
      | omega
  · refine q_iload_n (t := 9) F dX9_fill_8 rfl rfl rfl ?_
    refine wp_callS (t := 12) [_] F dX9_fill_9 k_X9_isGap st_X9_isGap ml_X9_138 rfl rfl (Nat.le_of_ble_eq_true rfl) (by decide) (c_X9_isGap _ G im bt rt lm g (by constructor <;> omega)) rfl (kI ?_)
    rintro x9 m' ⟨hx9, rfl⟩
    have hx9 := if01 hx9
    refine q_if_eq (t := 15) (u := 40) F dX9_fill_12 (by first | exact hR _ _ _ | (constructor <;> omega)) (by decide) rfl (fun c12 => ?_) (fun c12 => ?_)
    · refine q_bipush (t := 42) F dX9_fill_40 (by decide) rfl ?_
      refine q_iret F dX9_fill_42 rfl ?_
      first
        | exact ⟨_, rfl, fun _ => ⟨rfl, rfl⟩, fun z => absurd z (by omega)⟩
        | exact ⟨_, rfl, fun z => absurd (by omega) z, fun _ => ⟨rfl, rfl⟩⟩
        | omega
    · refine q_iload_n (t := 16) F dX9_fill_15 rfl rfl rfl ?_
      refine q_iconst (t := 17) F dX9_fill_16 rfl ?_
      refine q_icmp_eq (t := 20) (u := 27) F dX9_fill_17 (by constructor <;> omega) (by constructor <;> omega) (by decide) rfl (fun c17 => ?_) (fun c17 => ?_)
      · refine q_iload (t := 29) F dX9_fill_27 rfl rfl ?_
        refine q_i2l (t := 30) F dX9_fill_29 (by first | exact hR _ _ _ | (constructor <;> omega)) rfl ?_
        refine q_lconst (t := 31) (x := 0) F dX9_fill_30 (by decide) rfl ?_
        refine q_ldc2 (t := 34) (x := 999) F dX9_fill_31 kl_X9_105 (by decide) rfl ?_
        refine wp_callS (t := 37) [_, _, _] F dX9_fill_34 k_X9_in st_X9_in ml_X9_91 rfl rfl (Nat.le_of_ble_eq_true rfl) (by decide) (c_X9_in _ G _ _ _ _ _ _ _ (by constructor <;> omega) (by constructor <;> omega) (by constructor <;> omega)) rfl (kI ?_)
        rintro x34 m' ⟨hx34, rfl⟩
        have hx34 := if01 hx34
        refine q_if_ne (t := 40) (u := 43) F dX9_fill_37 (by first | exact hR _ _ _ | (constructor <;> omega)) (by decide) rfl (fun c37 => ?_) (fun c37 => ?_)
        · refine q_bipush (t := 45) F dX9_fill_43 (by decide) rfl ?_
          refine q_iload_n (t := 46) F dX9_fill_45 rfl rfl rfl ?_
          refine q_imul (t := 47) F dX9_fill_46 rfl ?_
          refine q_iload_n (t := 48) F dX9_fill_47 rfl rfl rfl ?_
          refine q_iadd (t := 49) F dX9_fill_48 rfl ?_
          rw [show (10 : Int) * p + g = (((10 * p.toNat + g.toNat) : Nat) : Int) by omega]
          refine q_istore (t := 51) F dX9_fill_49 (by decide) rfl rfl ?_
          refine q_aload_n (t := 52) F dX9_fill_51 rfl rfl rfl ?_
          refine g_X9_32 (t := 55) F dX9_fill_52 rfl rfl ?_
          refine q_iload (t := 57) F dX9_fill_55 rfl rfl ?_
          first | refine ldN_36 (t := 58) F dX9_fill_57 (by omega) rfl ?_ | refine ld_36 (t := 58) F dX9_fill_57 (by omega) (by omega) rfl ?_
          try simp only [up_app, row_app, scr_app, cpy_app, Nat.reduceEqDiff, Int.reduceToNat, Int.toNat_natCast, and_true, true_and, and_false, false_and, and_self, reduceIte]
          refine q_istore (t := 60) F dX9_fill_58 (by decide) rfl rfl ?_
          refine q_aload_n (t := 61) F dX9_fill_60 rfl rfl rfl ?_
          refine g_X9_32 (t := 64) F dX9_fill_61 rfl rfl ?_
          refine q_iload (t := 66) F dX9_fill_64 rfl rfl ?_
          refine q_iload_n (t := 67) F dX9_fill_66 rfl rfl rfl ?_
          first | refine stN_36 (t := 68) F dX9_fill_67 (by omega) rfl ?_ | refine st_36 (t := 68) F dX9_fill_67 (by omega) (by omega) rfl ?_
          refine q_aload_n (t := 69) F dX9_fill_68 rfl rfl rfl ?_
          refine g_X9_35 (t := 72) F dX9_fill_69 rfl rfl ?_
          refine q_iload (t := 74) F dX9_fill_72 rfl rfl ?_
          refine q_iload (t := 76) F dX9_fill_74 rfl rfl ?_
          first | refine stN_37 (t := 77) F dX9_fill_76 (by omega) rfl ?_ | refine st_37 (t := 77) F dX9_fill_76 (by omega) (by omega) rfl ?_
          refine q_iload (t := 79) F dX9_fill_77 rfl rfl ?_
          refine q_iret F dX9_fill_79 rfl ?_
          first
            | exact ⟨_, rfl, fun _ => ⟨rfl, rfl⟩, fun z => absurd z (by omega)⟩
            | exact ⟨_, rfl, fun z => absurd (by omega) z, fun _ => ⟨rfl, rfl⟩⟩
            | omega
        · refine q_bipush (t := 42) F dX9_fill_40 (by decide) rfl ?_
          refine q_iret F dX9_fill_42 rfl ?_
          first
            | exact ⟨_, rfl, fun _ => ⟨rfl, rfl⟩, fun z => absurd z (by omega)⟩
            | exact ⟨_, rfl, fun z => absurd (by omega) z, fun _ => ⟨rfl, rfl⟩⟩
            | omega
      · refine q_iload_n (t := 21) F dX9_fill_20 rfl rfl rfl ?_
        refine wp_callS (t := 24) [_] F dX9_fill_21 k_X9_isWord st_X9_isWord ml_X9_141 rfl rfl (Nat.le_of_ble_eq_true rfl) (by decide) (c_X9_isWord _ G im bt rt lm w (by constructor <;> omega)) rfl (kI ?_)
        rintro x21 m' ⟨hx21, rfl⟩
        have hx21 := if01 hx21
        refine q_if_eq (t := 27) (u := 40) F dX9_fill_24 (by first | exact hR _ _ _ | (constructor <;> omega)) (by decide) rfl (fun c24 => ?_) (fun c24 => ?_)
        · refine q_bipush (t := 42) F dX9_fill_40 (by decide) rfl ?_
          refine q_iret F dX9_fill_42 rfl ?_
          first
            | exact ⟨_, rfl, fun _ => ⟨rfl, rfl⟩, fun z => absurd z (by omega)⟩
            | exact ⟨_, rfl, fun z => absurd (by omega) z, fun _ => ⟨rfl, rfl⟩⟩
            | omega
        · refine q_iload (t := 29) F dX9_fill_27 rfl rfl ?_
          refine q_i2l (t := 30) F dX9_fill_29 (by first | exact hR _ _ _ | (constructor <;> omega)) rfl ?_
          refine q_lconst (t := 31) (x := 0) F dX9_fill_30 (by decide) rfl ?_
          refine q_ldc2 (t := 34) (x := 999) F dX9_fill_31 kl_X9_105 (by decide) rfl ?_
          refine wp_callS (t := 37) [_, _, _] F dX9_fill_34 k_X9_in st_X9_in ml_X9_91 rfl rfl (Nat.le_of_ble_eq_true rfl) (by decide) (c_X9_in _ G _ _ _ _ _ _ _ (by constructor <;> omega) (by constructor <;> omega) (by constructor <;> omega)) rfl (kI ?_)
          rintro x34 m' ⟨hx34, rfl⟩
          have hx34 := if01 hx34
          refine q_if_ne (t := 40) (u := 43) F dX9_fill_37 (by first | exact hR _ _ _ | (constructor <;> omega)) (by decide) rfl (fun c37 => ?_) (fun c37 => ?_)
          · refine q_bipush (t := 45) F dX9_fill_43 (by decide) rfl ?_
            refine q_iload_n (t := 46) F dX9_fill_45 rfl rfl rfl ?_
            refine q_imul (t := 47) F dX9_fill_46 rfl ?_
            refine q_iload_n (t := 48) F dX9_fill_47 rfl rfl rfl ?_
            refine q_iadd (t := 49) F dX9_fill_48 rfl ?_
            rw [show (10 : Int) * p + g = (((10 * p.toNat + g.toNat) : Nat) : Int) by omega]
            refine q_istore (t := 51) F dX9_fill_49 (by decide) rfl rfl ?_
            refine q_aload_n (t := 52) F dX9_fill_51 rfl rfl rfl ?_
            refine g_X9_32 (t := 55) F dX9_fill_52 rfl rfl ?_
            refine q_iload (t := 57) F dX9_fill_55 rfl rfl ?_
            first | refine ldN_36 (t := 58) F dX9_fill_57 (by omega) rfl ?_ | refine ld_36 (t := 58) F dX9_fill_57 (by omega) (by omega) rfl ?_
            try simp only [up_app, row_app, scr_app, cpy_app, Nat.reduceEqDiff, Int.reduceToNat, Int.toNat_natCast, and_true, true_and, and_false, false_and, and_self, reduceIte]
            refine q_istore (t := 60) F dX9_fill_58 (by decide) rfl rfl ?_
            refine q_aload_n (t := 61) F dX9_fill_60 rfl rfl rfl ?_
            refine g_X9_32 (t := 64) F dX9_fill_61 rfl rfl ?_
            refine q_iload (t := 66) F dX9_fill_64 rfl rfl ?_
            refine q_iload_n (t := 67) F dX9_fill_66 rfl rfl rfl ?_
            first | refine stN_36 (t := 68) F dX9_fill_67 (by omega) rfl ?_ | refine st_36 (t := 68) F dX9_fill_67 (by omega) (by omega) rfl ?_
            refine q_aload_n (t := 69) F dX9_fill_68 rfl rfl rfl ?_
            refine g_X9_35 (t := 72) F dX9_fill_69 rfl rfl ?_
            refine q_iload (t := 74) F dX9_fill_72 rfl rfl ?_
            refine q_iload (t := 76) F dX9_fill_74 rfl rfl ?_
            first | refine stN_37 (t := 77) F dX9_fill_76 (by omega) rfl ?_ | refine st_37 (t := 77) F dX9_fill_76 (by omega) (by omega) rfl ?_
            refine q_iload (t := 79) F dX9_fill_77 rfl rfl ?_
            refine q_iret F dX9_fill_79 rfl ?_
            first
              | exact ⟨_, rfl, fun _ => ⟨rfl, rfl⟩, fun z => absurd z (by omega)⟩
              | exact ⟨_, rfl, fun z => absurd (by omega) z, fun _ => ⟨rfl, rfl⟩⟩
              | omega
          · refine q_bipush (t := 42) F dX9_fill_40 (by decide) rfl ?_
            refine q_iret F dX9_fill_42 rfl ?_
            first
              | exact ⟨_, rfl, fun _ => ⟨rfl, rfl⟩, fun z => absurd z (by omega)⟩
              | exact ⟨_, rfl, fun z => absurd (by omega) z, fun _ => ⟨rfl, rfl⟩⟩
              | omega

def cuR (im : IM) (what : Int) : Int := if what = 0 then im 30 0 12 else if what = 1 then alR im (im 30 0 12).toNat else if what = 2 then im 30 0 9 else if what = 3 then im 30 0 3 else if what = 4 then im 30 0 6 else if what = 5 then im 30 0 4 else -2
set_option maxHeartbeats 4000000 in
theorem c_X9_count (l : Launch) (G : GS) (im : IM) (bt rt : Nat) (lm : IM) (h : RC im) (what : Int) (hwhat : ri what) : Cn l (XR G) yX9_count Y_X9_count [vR 30 0, vI what] (im, rs bt rt, lm) (pI fun x m' => x = cuR im what ∧ m' = (im, rs bt rt, lm)) := by
  refine cn_of (by decide) (okR G) rfl (Nat.le_of_ble_eq_true rfl) ?_
  intro M ad hMl F
  subst hMl
  have hR := h.1
  have hX := h.2.1
  have h4 := h.2.2.1
  have h12 := h.2.2.2.1
  have h7 := h.2.2.2.2.1
  have h6 := hX.2.2.1
  have h3 := hX.2.2.2.1
  have hP := h.2.2.2.2.2.2
  have hR := h.1
  have what1 := hwhat.1
  have what2 := hwhat.2
  refine wp_pad 0 ?_
  show Wp M (XR G) ad Y_X9_count (pI fun x m' => x = cuR im what ∧ m' = (im, rs bt rt, lm)) 0 [some (vR 30 0), some (vI what)] [] (im, rs bt rt, lm)
  refine q_iload_n (t := 1) F dX9_count_0 rfl rfl rfl ?_
  refine q_if_ne (t := 4) (u := 11) F dX9_count_1 (by first | exact hR _ _ _ | (constructor <;> omega)) (by decide) rfl (fun c1 => ?_) (fun c1 => ?_)
  · refine q_iload_n (t := 12) F dX9_count_11 rfl rfl rfl ?_
    refine q_iconst (t := 13) F dX9_count_12 rfl ?_
    refine q_icmp_ne (t := 16) (u := 23) F dX9_count_13 (by constructor <;> omega) (by constructor <;> omega) (by decide) rfl (fun c13 => ?_) (fun c13 => ?_)
    · refine q_iload_n (t := 24) F dX9_count_23 rfl rfl rfl ?_
      refine q_iconst (t := 25) F dX9_count_24 rfl ?_
      refine q_icmp_ne (t := 28) (u := 35) F dX9_count_25 (by constructor <;> omega) (by constructor <;> omega) (by decide) rfl (fun c25 => ?_) (fun c25 => ?_)
      · refine q_iload_n (t := 36) F dX9_count_35 rfl rfl rfl ?_
        refine q_iconst (t := 37) F dX9_count_36 rfl ?_
        refine q_icmp_ne (t := 40) (u := 47) F dX9_count_37 (by constructor <;> omega) (by constructor <;> omega) (by decide) rfl (fun c37 => ?_) (fun c37 => ?_)
        · refine q_iload_n (t := 48) F dX9_count_47 rfl rfl rfl ?_
          refine q_iconst (t := 49) F dX9_count_48 rfl ?_
          refine q_icmp_ne (t := 52) (u := 59) F dX9_count_49 (by constructor <;> omega) (by constructor <;> omega) (by decide) rfl (fun c49 => ?_) (fun c49 => ?_)
          · refine q_iload_n (t := 60) F dX9_count_59 rfl rfl rfl ?_
            refine q_iconst (t := 61) F dX9_count_60 rfl ?_
            refine q_icmp_ne (t := 64) (u := 71) F dX9_count_61 (by constructor <;> omega) (by constructor <;> omega) (by decide) rfl (fun c61 => ?_) (fun c61 => ?_)
            · refine q_bipush (t := 73) F dX9_count_71 (by decide) rfl ?_
              refine q_iret F dX9_count_73 rfl ?_
              refine ⟨_, rfl, ?_, rfl⟩
              unfold cuR
              first
                | rw [if_pos (by omega)]
                | rw [if_neg (by omega), if_pos (by omega)]
                | rw [if_neg (by omega), if_neg (by omega), if_pos (by omega)]
                | rw [if_neg (by omega), if_neg (by omega), if_neg (by omega), if_pos (by omega)]
                | rw [if_neg (by omega), if_neg (by omega), if_neg (by omega), if_neg (by omega), if_pos (by omega)]
                | rw [if_neg (by omega), if_neg (by omega), if_neg (by omega), if_neg (by omega), if_neg (by omega), if_pos (by omega)]
                | rw [if_neg (by omega), if_neg (by omega), if_neg (by omega), if_neg (by omega), if_neg (by omega), if_neg (by omega)]
            · refine q_aload_n (t := 65) F dX9_count_64 rfl rfl rfl ?_
              refine g_X9_120 (t := 68) F dX9_count_65 rfl rfl ?_
              refine q_goto (t := 73) F dX9_count_68 (by decide) ?_
              refine q_iret F dX9_count_73 rfl ?_
              refine ⟨_, rfl, ?_, rfl⟩
              unfold cuR
              first
                | rw [if_pos (by omega)]
                | rw [if_neg (by omega), if_pos (by omega)]
                | rw [if_neg (by omega), if_neg (by omega), if_pos (by omega)]
                | rw [if_neg (by omega), if_neg (by omega), if_neg (by omega), if_pos (by omega)]
                | rw [if_neg (by omega), if_neg (by omega), if_neg (by omega), if_neg (by omega), if_pos (by omega)]
                | rw [if_neg (by omega), if_neg (by omega), if_neg (by omega), if_neg (by omega), if_neg (by omega), if_pos (by omega)]
                | rw [if_neg (by omega), if_neg (by omega), if_neg (by omega), if_neg (by omega), if_neg (by omega), if_neg (by omega)]
          · refine q_aload_n (t := 53) F dX9_count_52 rfl rfl rfl ?_
            refine g_X9_146 (t := 56) F dX9_count_53 rfl rfl ?_
            refine q_goto (t := 73) F dX9_count_56 (by decide) ?_
            refine q_iret F dX9_count_73 rfl ?_
            refine ⟨_, rfl, ?_, rfl⟩
            unfold cuR
            first
              | rw [if_pos (by omega)]
              | rw [if_neg (by omega), if_pos (by omega)]
              | rw [if_neg (by omega), if_neg (by omega), if_pos (by omega)]
              | rw [if_neg (by omega), if_neg (by omega), if_neg (by omega), if_pos (by omega)]
              | rw [if_neg (by omega), if_neg (by omega), if_neg (by omega), if_neg (by omega), if_pos (by omega)]
              | rw [if_neg (by omega), if_neg (by omega), if_neg (by omega), if_neg (by omega), if_neg (by omega), if_pos (by omega)]
              | rw [if_neg (by omega), if_neg (by omega), if_neg (by omega), if_neg (by omega), if_neg (by omega), if_neg (by omega)]
        · refine q_aload_n (t := 41) F dX9_count_40 rfl rfl rfl ?_
          refine g_X9_85 (t := 44) F dX9_count_41 rfl rfl ?_
          refine q_goto (t := 73) F dX9_count_44 (by decide) ?_
          refine q_iret F dX9_count_73 rfl ?_
          refine ⟨_, rfl, ?_, rfl⟩
          unfold cuR
          first
            | rw [if_pos (by omega)]
            | rw [if_neg (by omega), if_pos (by omega)]
            | rw [if_neg (by omega), if_neg (by omega), if_pos (by omega)]
            | rw [if_neg (by omega), if_neg (by omega), if_neg (by omega), if_pos (by omega)]
            | rw [if_neg (by omega), if_neg (by omega), if_neg (by omega), if_neg (by omega), if_pos (by omega)]
            | rw [if_neg (by omega), if_neg (by omega), if_neg (by omega), if_neg (by omega), if_neg (by omega), if_pos (by omega)]
            | rw [if_neg (by omega), if_neg (by omega), if_neg (by omega), if_neg (by omega), if_neg (by omega), if_neg (by omega)]
      · refine q_aload_n (t := 29) F dX9_count_28 rfl rfl rfl ?_
        refine g_X9_385 (t := 32) F dX9_count_29 rfl rfl ?_
        refine q_goto (t := 73) F dX9_count_32 (by decide) ?_
        refine q_iret F dX9_count_73 rfl ?_
        refine ⟨_, rfl, ?_, rfl⟩
        unfold cuR
        first
          | rw [if_pos (by omega)]
          | rw [if_neg (by omega), if_pos (by omega)]
          | rw [if_neg (by omega), if_neg (by omega), if_pos (by omega)]
          | rw [if_neg (by omega), if_neg (by omega), if_neg (by omega), if_pos (by omega)]
          | rw [if_neg (by omega), if_neg (by omega), if_neg (by omega), if_neg (by omega), if_pos (by omega)]
          | rw [if_neg (by omega), if_neg (by omega), if_neg (by omega), if_neg (by omega), if_neg (by omega), if_pos (by omega)]
          | rw [if_neg (by omega), if_neg (by omega), if_neg (by omega), if_neg (by omega), if_neg (by omega), if_neg (by omega)]
    · refine q_aload_n (t := 17) F dX9_count_16 rfl rfl rfl ?_
      refine wp_callV (t := 20) [] F dX9_count_17 k_X9_stuckAll v_X9_stuckAll ml_X9_427 rfl rfl rfl rfl (Nat.le_of_ble_eq_true rfl) (by decide) (m_30 (by omega)) (c_X9_stuckAll _ G im bt rt lm h) rfl (kI ?_)
      rintro x17 m' ⟨rfl, rfl⟩
      refine q_goto (t := 73) F dX9_count_20 (by decide) ?_
      refine q_iret F dX9_count_73 rfl ?_
      refine ⟨_, rfl, ?_, rfl⟩
      unfold cuR
      first
        | rw [if_pos (by omega)]
        | rw [if_neg (by omega), if_pos (by omega)]
        | rw [if_neg (by omega), if_neg (by omega), if_pos (by omega)]
        | rw [if_neg (by omega), if_neg (by omega), if_neg (by omega), if_pos (by omega)]
        | rw [if_neg (by omega), if_neg (by omega), if_neg (by omega), if_neg (by omega), if_pos (by omega)]
        | rw [if_neg (by omega), if_neg (by omega), if_neg (by omega), if_neg (by omega), if_neg (by omega), if_pos (by omega)]
        | rw [if_neg (by omega), if_neg (by omega), if_neg (by omega), if_neg (by omega), if_neg (by omega), if_neg (by omega)]
  · refine q_aload_n (t := 5) F dX9_count_4 rfl rfl rfl ?_
    refine g_X9_88 (t := 8) F dX9_count_5 rfl rfl ?_
    refine q_goto (t := 73) F dX9_count_8 (by decide) ?_
    refine q_iret F dX9_count_73 rfl ?_
    refine ⟨_, rfl, ?_, rfl⟩
    unfold cuR
    first
      | rw [if_pos (by omega)]
      | rw [if_neg (by omega), if_pos (by omega)]
      | rw [if_neg (by omega), if_neg (by omega), if_pos (by omega)]
      | rw [if_neg (by omega), if_neg (by omega), if_neg (by omega), if_pos (by omega)]
      | rw [if_neg (by omega), if_neg (by omega), if_neg (by omega), if_neg (by omega), if_pos (by omega)]
      | rw [if_neg (by omega), if_neg (by omega), if_neg (by omega), if_neg (by omega), if_neg (by omega), if_pos (by omega)]
      | rw [if_neg (by omega), if_neg (by omega), if_neg (by omega), if_neg (by omega), if_neg (by omega), if_neg (by omega)]

def imgI (im : IM) : IM := up (up (up (up (up (cp2 (cp1 im 44 35 5) 45 36 46 37 50) 30 0 46 (im 30 0 12)) 30 0 47 (im 30 0 7)) 30 0 48 (im 30 0 8)) 30 0 49 (im 30 0 9)) 30 0 50 (im 30 0 4)
set_option maxHeartbeats 4000000 in
theorem c_X9_image (l : Launch) (G : GS) (im : IM) (bt rt : Nat) (lm : IM) (hR : RI im) : Cn l (XR G) yX9_image Y_X9_image [vR 30 0] (im, rs bt rt, lm) (pI fun x m' => x = im 30 0 12 ∧ m' = (imgI im, rs bt rt, lm)) := by
  refine cn_of (by decide) (okR G) rfl (Nat.le_of_ble_eq_true rfl) ?_
  intro M ad hMl F
  subst hMl
  refine wp_pad 1 ?_
  show Wp M (XR G) ad Y_X9_image (pI fun x m' => x = im 30 0 12 ∧ m' = (imgI im, rs bt rt, lm)) 0 [some (vR 30 0), none] [] (im, rs bt rt, lm)
  refine q_iconst (t := 1) F dX9_image_0 rfl ?_
  refine q_istore_n (t := 2) F dX9_image_1 rfl (by decide) rfl rfl ?_
  have L2 : ∀ (fz : Nat) (n : Nat), 5 - n < fz → n ≤ 5 → Wp M (XR G) ad Y_X9_image (pI fun x m' => x = im 30 0 12 ∧ m' = (imgI im, rs bt rt, lm)) 2 [some (vR 30 0), some (vI (n : Int))] [] (cp1 im 44 35 n, rs bt rt, lm) := by
    intro fz
    induction fz with
    | zero => intro n h; exact absurd h (Nat.not_lt_zero _)
    | succ fz ih =>
      have ih2 := ih
      intro n hmeas hn
      have c35 : cp1 im 44 35 n 35 0 n = im 35 0 n := rfl
      refine q_iload_n (t := 3) F dX9_image_2 rfl rfl rfl ?_
      refine q_iconst (t := 4) F dX9_image_3 rfl ?_
      refine q_icmp_ge (t := 7) (u := 25) F dX9_image_4 (by constructor <;> omega) (by constructor <;> omega) (by decide) rfl (fun c4 => ?_) (fun c4 => ?_)
      · obtain rfl : n = 5 := by omega
        refine q_iconst (t := 26) F dX9_image_25 rfl ?_
        refine q_istore_n (t := 27) F dX9_image_26 rfl (by decide) rfl rfl ?_
        have L27 : ∀ (fz : Nat) (n : Nat), 50 - n < fz → n ≤ 50 → Wp M (XR G) ad Y_X9_image (pI fun x m' => x = im 30 0 12 ∧ m' = (imgI im, rs bt rt, lm)) 27 [some (vR 30 0), some (vI (n : Int))] [] (cp2 (cp1 im 44 35 5) 45 36 46 37 n, rs bt rt, lm) := by
          intro fz
          induction fz with
          | zero => intro n h; exact absurd h (Nat.not_lt_zero _)
          | succ fz ih =>
            have ih27 := ih
            intro n hmeas hn
            have c36 : cp2 (cp1 im 44 35 5) 45 36 46 37 n 36 0 n = (cp1 im 44 35 5) 36 0 n := rfl
            have c37 : cp2 (cp1 im 44 35 5) 45 36 46 37 n 37 0 n = (cp1 im 44 35 5) 37 0 n := rfl
            have d12 : cp2 (cp1 im 44 35 5) 45 36 46 37 n 30 0 12 = im 30 0 12 := rfl
            have d7 : cp2 (cp1 im 44 35 5) 45 36 46 37 n 30 0 7 = im 30 0 7 := rfl
            have d8 : cp2 (cp1 im 44 35 5) 45 36 46 37 n 30 0 8 = im 30 0 8 := rfl
            have d9 : cp2 (cp1 im 44 35 5) 45 36 46 37 n 30 0 9 = im 30 0 9 := rfl
            have d4 : cp2 (cp1 im 44 35 5) 45 36 46 37 n 30 0 4 = im 30 0 4 := rfl
            refine q_iload_n (t := 28) F dX9_image_27 rfl rfl rfl ?_
            refine q_bipush (t := 30) F dX9_image_28 (by decide) rfl ?_
            refine q_icmp_ge (t := 33) (u := 63) F dX9_image_30 (by constructor <;> omega) (by constructor <;> omega) (by decide) rfl (fun c30 => ?_) (fun c30 => ?_)
            · refine q_aload_n (t := 64) F dX9_image_63 rfl rfl rfl ?_
              refine q_aload_n (t := 65) F dX9_image_64 rfl rfl rfl ?_
              refine g_X9_88 (t := 68) F dX9_image_65 rfl rfl ?_
              rw [d12]
              refine p_X9_65 (t := 71) F dX9_image_68 rfl rfl ?_
              refine q_aload_n (t := 72) F dX9_image_71 rfl rfl rfl ?_
              refine q_aload_n (t := 73) F dX9_image_72 rfl rfl rfl ?_
              refine g_X9_117 (t := 76) F dX9_image_73 rfl rfl ?_
              try simp only [up_app, row_app, scr_app, cpy_app, Nat.reduceEqDiff, Int.reduceToNat, Int.toNat_natCast, and_true, true_and, and_false, false_and, and_self, reduceIte]
              rw [d7]
              refine p_X9_459 (t := 79) F dX9_image_76 rfl rfl ?_
              refine q_aload_n (t := 80) F dX9_image_79 rfl rfl rfl ?_
              refine q_aload_n (t := 81) F dX9_image_80 rfl rfl rfl ?_
              refine g_X9_23 (t := 84) F dX9_image_81 rfl rfl ?_
              try simp only [up_app, row_app, scr_app, cpy_app, Nat.reduceEqDiff, Int.reduceToNat, Int.toNat_natCast, and_true, true_and, and_false, false_and, and_self, reduceIte]
              rw [d8]
              refine p_X9_462 (t := 87) F dX9_image_84 rfl rfl ?_
              refine q_aload_n (t := 88) F dX9_image_87 rfl rfl rfl ?_
              refine q_aload_n (t := 89) F dX9_image_88 rfl rfl rfl ?_
              refine g_X9_385 (t := 92) F dX9_image_89 rfl rfl ?_
              try simp only [up_app, row_app, scr_app, cpy_app, Nat.reduceEqDiff, Int.reduceToNat, Int.toNat_natCast, and_true, true_and, and_false, false_and, and_self, reduceIte]
              rw [d9]
              refine p_X9_465 (t := 95) F dX9_image_92 rfl rfl ?_
              refine q_aload_n (t := 96) F dX9_image_95 rfl rfl rfl ?_
              refine q_aload_n (t := 97) F dX9_image_96 rfl rfl rfl ?_
              refine g_X9_120 (t := 100) F dX9_image_97 rfl rfl ?_
              try simp only [up_app, row_app, scr_app, cpy_app, Nat.reduceEqDiff, Int.reduceToNat, Int.toNat_natCast, and_true, true_and, and_false, false_and, and_self, reduceIte]
              rw [d4]
              refine p_X9_468 (t := 103) F dX9_image_100 rfl rfl ?_
              refine q_aload_n (t := 104) F dX9_image_103 rfl rfl rfl ?_
              refine g_X9_88 (t := 107) F dX9_image_104 rfl rfl ?_
              try simp only [up_app, row_app, scr_app, cpy_app, Nat.reduceEqDiff, Int.reduceToNat, Int.toNat_natCast, and_true, true_and, and_false, false_and, and_self, reduceIte]
              rw [d12]
              refine q_iret F dX9_image_107 rfl ?_
              obtain rfl : n = 50 := by omega
              exact ⟨_, rfl, rfl, rfl⟩
            · refine q_aload_n (t := 34) F dX9_image_33 rfl rfl rfl ?_
              refine g_X9_59 (t := 37) F dX9_image_34 rfl rfl ?_
              refine q_iload_n (t := 38) F dX9_image_37 rfl rfl rfl ?_
              refine q_aload_n (t := 39) F dX9_image_38 rfl rfl rfl ?_
              refine g_X9_32 (t := 42) F dX9_image_39 rfl rfl ?_
              refine q_iload_n (t := 43) F dX9_image_42 rfl rfl rfl ?_
              first | refine ldN_36 (t := 44) F dX9_image_43 (by omega) rfl ?_ | refine ld_36 (t := 44) F dX9_image_43 (by omega) (by omega) rfl ?_
              rw [c36]
              first | refine stN_45 (t := 45) F dX9_image_44 (by omega) rfl ?_ | refine st_45 (t := 45) F dX9_image_44 (by omega) (by omega) rfl ?_
              refine q_aload_n (t := 46) F dX9_image_45 rfl rfl rfl ?_
              refine g_X9_62 (t := 49) F dX9_image_46 rfl rfl ?_
              refine q_iload_n (t := 50) F dX9_image_49 rfl rfl rfl ?_
              refine q_aload_n (t := 51) F dX9_image_50 rfl rfl rfl ?_
              refine g_X9_35 (t := 54) F dX9_image_51 rfl rfl ?_
              refine q_iload_n (t := 55) F dX9_image_54 rfl rfl rfl ?_
              first | refine ldN_37 (t := 56) F dX9_image_55 (by omega) rfl ?_ | refine ld_37 (t := 56) F dX9_image_55 (by omega) (by omega) rfl ?_
              try simp only [up_app, row_app, scr_app, cpy_app, Nat.reduceEqDiff, Int.reduceToNat, Int.toNat_natCast, and_true, true_and, and_false, false_and, and_self, reduceIte]
              rw [c37]
              first | refine stN_46 (t := 57) F dX9_image_56 (by omega) rfl ?_ | refine st_46 (t := 57) F dX9_image_56 (by omega) (by omega) rfl ?_
              refine q_iinc (t := 60) F dX9_image_57 rfl (by decide) rfl rfl ?_
              refine q_goto (t := 27) F dX9_image_60 (by decide) ?_
              rw [show (n : Int) + 1 = ((n + 1 : Nat) : Int) by omega, cp2_s (cp1 im 44 35 5) n (by omega)]
              exact ih27 (n + 1) (by omega) (by omega)
        have L0 := L27 _ 0 (Nat.lt_succ_self _) (Nat.zero_le _)
        rw [cp2_0] at L0
        exact L0
      · refine q_aload_n (t := 8) F dX9_image_7 rfl rfl rfl ?_
        refine g_X9_56 (t := 11) F dX9_image_8 rfl rfl ?_
        refine q_iload_n (t := 12) F dX9_image_11 rfl rfl rfl ?_
        refine q_aload_n (t := 13) F dX9_image_12 rfl rfl rfl ?_
        refine g_X9_29 (t := 16) F dX9_image_13 rfl rfl ?_
        refine q_iload_n (t := 17) F dX9_image_16 rfl rfl rfl ?_
        first | refine ldN_35 (t := 18) F dX9_image_17 (by omega) rfl ?_ | refine ld_35 (t := 18) F dX9_image_17 (by omega) (by omega) rfl ?_
        rw [c35]
        first | refine stN_44 (t := 19) F dX9_image_18 (by omega) rfl ?_ | refine st_44 (t := 19) F dX9_image_18 (by omega) (by omega) rfl ?_
        refine q_iinc (t := 22) F dX9_image_19 rfl (by decide) rfl rfl ?_
        refine q_goto (t := 2) F dX9_image_22 (by decide) ?_
        rw [show (n : Int) + 1 = ((n + 1 : Nat) : Int) by omega, cp1_s im 44 35 n]
        exact ih2 (n + 1) (by omega) (by omega)
  have L0 := L2 _ 0 (Nat.lt_succ_self _) (Nat.zero_le _)
  rw [cp1_0] at L0
  exact L0

def bckI (im : IM) : IM := up (up (up (up (up (cp2 (cp1 im 35 44 5) 36 45 37 46 50) 30 0 12 (im 30 0 46)) 30 0 7 (im 30 0 47)) 30 0 8 (im 30 0 48)) 30 0 9 (im 30 0 49)) 30 0 4 (im 30 0 50)
set_option maxHeartbeats 4000000 in
theorem c_X9_back (l : Launch) (G : GS) (im : IM) (bt rt : Nat) (lm : IM) (hR : RI im) : Cn l (XR G) yX9_back Y_X9_back [vR 30 0] (im, rs bt rt, lm) (pI fun x m' => (im 30 0 46 = -1 → x = -3 ∧ m' = (im, rs bt rt, lm)) ∧ (im 30 0 46 ≠ -1 → x = im 30 0 46 ∧ m' = (bckI im, rs bt rt, lm))) := by
  refine cn_of (by decide) (okR G) rfl (Nat.le_of_ble_eq_true rfl) ?_
  intro M ad hMl F
  subst hMl
  refine wp_pad 1 ?_
  show Wp M (XR G) ad Y_X9_back (pI fun x m' => (im 30 0 46 = -1 → x = -3 ∧ m' = (im, rs bt rt, lm)) ∧ (im 30 0 46 ≠ -1 → x = im 30 0 46 ∧ m' = (bckI im, rs bt rt, lm))) 0 [some (vR 30 0), none] [] (im, rs bt rt, lm)
  refine q_aload_n (t := 1) F dX9_back_0 rfl rfl rfl ?_
  refine g_X9_65 (t := 4) F dX9_back_1 rfl rfl ?_
  refine q_iconst (t := 5) F dX9_back_4 rfl ?_
  refine q_icmp_ne (t := 8) (u := 11) F dX9_back_5 (by exact hR _ _ _) (by constructor <;> omega) (by decide) rfl (fun c5 => ?_) (fun c5 => ?_)
  · refine q_iconst (t := 12) F dX9_back_11 rfl ?_
    refine q_istore_n (t := 13) F dX9_back_12 rfl (by decide) rfl rfl ?_
    have L13 : ∀ (fz : Nat) (n : Nat), 5 - n < fz → n ≤ 5 → Wp M (XR G) ad Y_X9_back (pI fun x m' => (im 30 0 46 = -1 → x = -3 ∧ m' = (im, rs bt rt, lm)) ∧ (im 30 0 46 ≠ -1 → x = im 30 0 46 ∧ m' = (bckI im, rs bt rt, lm))) 13 [some (vR 30 0), some (vI (n : Int))] [] (cp1 im 35 44 n, rs bt rt, lm) := by
      intro fz
      induction fz with
      | zero => intro n h; exact absurd h (Nat.not_lt_zero _)
      | succ fz ih =>
        have ih13 := ih
        intro n hmeas hn
        have c35 : cp1 im 35 44 n 44 0 n = im 44 0 n := rfl
        refine q_iload_n (t := 14) F dX9_back_13 rfl rfl rfl ?_
        refine q_iconst (t := 15) F dX9_back_14 rfl ?_
        refine q_icmp_ge (t := 18) (u := 36) F dX9_back_15 (by constructor <;> omega) (by constructor <;> omega) (by decide) rfl (fun c15 => ?_) (fun c15 => ?_)
        · obtain rfl : n = 5 := by omega
          refine q_iconst (t := 37) F dX9_back_36 rfl ?_
          refine q_istore_n (t := 38) F dX9_back_37 rfl (by decide) rfl rfl ?_
          have L38 : ∀ (fz : Nat) (n : Nat), 50 - n < fz → n ≤ 50 → Wp M (XR G) ad Y_X9_back (pI fun x m' => (im 30 0 46 = -1 → x = -3 ∧ m' = (im, rs bt rt, lm)) ∧ (im 30 0 46 ≠ -1 → x = im 30 0 46 ∧ m' = (bckI im, rs bt rt, lm))) 38 [some (vR 30 0), some (vI (n : Int))] [] (cp2 (cp1 im 35 44 5) 36 45 37 46 n, rs bt rt, lm) := by
            intro fz
            induction fz with
            | zero => intro n h; exact absurd h (Nat.not_lt_zero _)
            | succ fz ih =>
              have ih38 := ih
              intro n hmeas hn
              have c36 : cp2 (cp1 im 35 44 5) 36 45 37 46 n 45 0 n = (cp1 im 35 44 5) 45 0 n := rfl
              have c37 : cp2 (cp1 im 35 44 5) 36 45 37 46 n 46 0 n = (cp1 im 35 44 5) 46 0 n := rfl
              have d46 : cp2 (cp1 im 35 44 5) 36 45 37 46 n 30 0 46 = im 30 0 46 := rfl
              have d47 : cp2 (cp1 im 35 44 5) 36 45 37 46 n 30 0 47 = im 30 0 47 := rfl
              have d48 : cp2 (cp1 im 35 44 5) 36 45 37 46 n 30 0 48 = im 30 0 48 := rfl
              have d49 : cp2 (cp1 im 35 44 5) 36 45 37 46 n 30 0 49 = im 30 0 49 := rfl
              have d50 : cp2 (cp1 im 35 44 5) 36 45 37 46 n 30 0 50 = im 30 0 50 := rfl
              refine q_iload_n (t := 39) F dX9_back_38 rfl rfl rfl ?_
              refine q_bipush (t := 41) F dX9_back_39 (by decide) rfl ?_
              refine q_icmp_ge (t := 44) (u := 74) F dX9_back_41 (by constructor <;> omega) (by constructor <;> omega) (by decide) rfl (fun c41 => ?_) (fun c41 => ?_)
              · refine q_aload_n (t := 75) F dX9_back_74 rfl rfl rfl ?_
                refine q_aload_n (t := 76) F dX9_back_75 rfl rfl rfl ?_
                refine g_X9_65 (t := 79) F dX9_back_76 rfl rfl ?_
                rw [d46]
                refine p_X9_88 (t := 82) F dX9_back_79 rfl rfl ?_
                refine q_aload_n (t := 83) F dX9_back_82 rfl rfl rfl ?_
                refine q_aload_n (t := 84) F dX9_back_83 rfl rfl rfl ?_
                refine g_X9_459 (t := 87) F dX9_back_84 rfl rfl ?_
                try simp only [up_app, row_app, scr_app, cpy_app, Nat.reduceEqDiff, Int.reduceToNat, Int.toNat_natCast, and_true, true_and, and_false, false_and, and_self, reduceIte]
                rw [d47]
                refine p_X9_117 (t := 90) F dX9_back_87 rfl rfl ?_
                refine q_aload_n (t := 91) F dX9_back_90 rfl rfl rfl ?_
                refine q_aload_n (t := 92) F dX9_back_91 rfl rfl rfl ?_
                refine g_X9_462 (t := 95) F dX9_back_92 rfl rfl ?_
                try simp only [up_app, row_app, scr_app, cpy_app, Nat.reduceEqDiff, Int.reduceToNat, Int.toNat_natCast, and_true, true_and, and_false, false_and, and_self, reduceIte]
                rw [d48]
                refine p_X9_23 (t := 98) F dX9_back_95 rfl rfl ?_
                refine q_aload_n (t := 99) F dX9_back_98 rfl rfl rfl ?_
                refine q_aload_n (t := 100) F dX9_back_99 rfl rfl rfl ?_
                refine g_X9_465 (t := 103) F dX9_back_100 rfl rfl ?_
                try simp only [up_app, row_app, scr_app, cpy_app, Nat.reduceEqDiff, Int.reduceToNat, Int.toNat_natCast, and_true, true_and, and_false, false_and, and_self, reduceIte]
                rw [d49]
                refine p_X9_385 (t := 106) F dX9_back_103 rfl rfl ?_
                refine q_aload_n (t := 107) F dX9_back_106 rfl rfl rfl ?_
                refine q_aload_n (t := 108) F dX9_back_107 rfl rfl rfl ?_
                refine g_X9_468 (t := 111) F dX9_back_108 rfl rfl ?_
                try simp only [up_app, row_app, scr_app, cpy_app, Nat.reduceEqDiff, Int.reduceToNat, Int.toNat_natCast, and_true, true_and, and_false, false_and, and_self, reduceIte]
                rw [d50]
                refine p_X9_120 (t := 114) F dX9_back_111 rfl rfl ?_
                refine q_aload_n (t := 115) F dX9_back_114 rfl rfl rfl ?_
                refine g_X9_88 (t := 118) F dX9_back_115 rfl rfl ?_
                try simp only [up_app, row_app, scr_app, cpy_app, Nat.reduceEqDiff, Int.reduceToNat, Int.toNat_natCast, and_true, true_and, and_false, false_and, and_self, reduceIte]
                refine q_iret F dX9_back_118 rfl ?_
                first
                  | exact ⟨_, rfl, fun _ => ⟨rfl, rfl⟩, fun z => absurd (by omega) z⟩
                  | (obtain rfl : n = 50 := by omega
                     exact ⟨_, rfl, fun z => absurd z (by omega), fun _ => ⟨rfl, rfl⟩⟩)
                  | omega
              · refine q_aload_n (t := 45) F dX9_back_44 rfl rfl rfl ?_
                refine g_X9_32 (t := 48) F dX9_back_45 rfl rfl ?_
                refine q_iload_n (t := 49) F dX9_back_48 rfl rfl rfl ?_
                refine q_aload_n (t := 50) F dX9_back_49 rfl rfl rfl ?_
                refine g_X9_59 (t := 53) F dX9_back_50 rfl rfl ?_
                refine q_iload_n (t := 54) F dX9_back_53 rfl rfl rfl ?_
                first | refine ldN_45 (t := 55) F dX9_back_54 (by omega) rfl ?_ | refine ld_45 (t := 55) F dX9_back_54 (by omega) (by omega) rfl ?_
                rw [c36]
                first | refine stN_36 (t := 56) F dX9_back_55 (by omega) rfl ?_ | refine st_36 (t := 56) F dX9_back_55 (by omega) (by omega) rfl ?_
                refine q_aload_n (t := 57) F dX9_back_56 rfl rfl rfl ?_
                refine g_X9_35 (t := 60) F dX9_back_57 rfl rfl ?_
                refine q_iload_n (t := 61) F dX9_back_60 rfl rfl rfl ?_
                refine q_aload_n (t := 62) F dX9_back_61 rfl rfl rfl ?_
                refine g_X9_62 (t := 65) F dX9_back_62 rfl rfl ?_
                refine q_iload_n (t := 66) F dX9_back_65 rfl rfl rfl ?_
                first | refine ldN_46 (t := 67) F dX9_back_66 (by omega) rfl ?_ | refine ld_46 (t := 67) F dX9_back_66 (by omega) (by omega) rfl ?_
                try simp only [up_app, row_app, scr_app, cpy_app, Nat.reduceEqDiff, Int.reduceToNat, Int.toNat_natCast, and_true, true_and, and_false, false_and, and_self, reduceIte]
                rw [c37]
                first | refine stN_37 (t := 68) F dX9_back_67 (by omega) rfl ?_ | refine st_37 (t := 68) F dX9_back_67 (by omega) (by omega) rfl ?_
                refine q_iinc (t := 71) F dX9_back_68 rfl (by decide) rfl rfl ?_
                refine q_goto (t := 38) F dX9_back_71 (by decide) ?_
                rw [show (n : Int) + 1 = ((n + 1 : Nat) : Int) by omega, cp2_s (cp1 im 35 44 5) n (by omega)]
                exact ih38 (n + 1) (by omega) (by omega)
          have L0 := L38 _ 0 (Nat.lt_succ_self _) (Nat.zero_le _)
          rw [cp2_0] at L0
          exact L0
        · refine q_aload_n (t := 19) F dX9_back_18 rfl rfl rfl ?_
          refine g_X9_29 (t := 22) F dX9_back_19 rfl rfl ?_
          refine q_iload_n (t := 23) F dX9_back_22 rfl rfl rfl ?_
          refine q_aload_n (t := 24) F dX9_back_23 rfl rfl rfl ?_
          refine g_X9_56 (t := 27) F dX9_back_24 rfl rfl ?_
          refine q_iload_n (t := 28) F dX9_back_27 rfl rfl rfl ?_
          first | refine ldN_44 (t := 29) F dX9_back_28 (by omega) rfl ?_ | refine ld_44 (t := 29) F dX9_back_28 (by omega) (by omega) rfl ?_
          rw [c35]
          first | refine stN_35 (t := 30) F dX9_back_29 (by omega) rfl ?_ | refine st_35 (t := 30) F dX9_back_29 (by omega) (by omega) rfl ?_
          refine q_iinc (t := 33) F dX9_back_30 rfl (by decide) rfl rfl ?_
          refine q_goto (t := 13) F dX9_back_33 (by decide) ?_
          rw [show (n : Int) + 1 = ((n + 1 : Nat) : Int) by omega, cp1_s im 35 44 n]
          exact ih13 (n + 1) (by omega) (by omega)
    have L0 := L13 _ 0 (Nat.lt_succ_self _) (Nat.zero_le _)
    rw [cp1_0] at L0
    exact L0
  · refine q_bipush (t := 10) F dX9_back_8 (by decide) rfl ?_
    refine q_iret F dX9_back_10 rfl ?_
    first
      | exact ⟨_, rfl, fun _ => ⟨rfl, rfl⟩, fun z => absurd (by omega) z⟩
      | (obtain rfl : n = 50 := by omega
         exact ⟨_, rfl, fun z => absurd z (by omega), fun _ => ⟨rfl, rfl⟩⟩)
      | omega
