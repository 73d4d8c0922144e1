/-! the reference: a fault is noted -/
set_option maxHeartbeats 4000000 in
theorem f_X9_fail (l : Launch) (G : GS) (im : IM) (bt rt : Nat) (lm : IM) (hR : RI im) : Cn l (XR G) yX9_fail Y_X9_fail [vR 30 0] (im, rs bt rt, lm) (pV fun m' => m' = ((if im 30 0 28 = 0 then up (up im 30 0 28 1) 30 0 29 (im 30 0 25) else im), rs bt rt, lm)) := by
  refine cn_of (by decide) (okR G) rfl (Nat.le_of_ble_eq_true rfl) ?_
  intro M ad hMl F
  subst hMl
  refine wp_pad 0 ?_
  show Wp M (XR G) ad Y_X9_fail (pV fun m' => m' = ((if im 30 0 28 = 0 then up (up im 30 0 28 1) 30 0 29 (im 30 0 25) else im), rs bt rt, lm)) 0 [some (vR 30 0)] [] (im, rs bt rt, lm)
  refine q_aload_n (t := 1) F dX9_fail_0 rfl rfl rfl ?_
  refine g_X9_179 (t := 4) F dX9_fail_1 rfl rfl ?_
  refine q_if_ne (t := 7) (u := 20) F dX9_fail_4 (by first | exact hR _ _ _ | (constructor <;> omega)) (by decide) rfl (fun c4 => ?_) (fun c4 => ?_)
  · refine q_vret F dX9_fail_20 rfl ?_
    first
      | exact ⟨rfl, by rw [if_pos (by omega)]⟩
      | exact ⟨rfl, by rw [if_neg (by omega)]⟩
  · refine q_aload_n (t := 8) F dX9_fail_7 rfl rfl rfl ?_
    refine q_iconst (t := 9) F dX9_fail_8 rfl ?_
    refine p_X9_179 (t := 12) F dX9_fail_9 rfl (by omega) rfl ?_
    refine q_aload_n (t := 13) F dX9_fail_12 rfl rfl rfl ?_
    refine q_aload_n (t := 14) F dX9_fail_13 rfl rfl rfl ?_
    refine g_X9_161 (t := 17) F dX9_fail_14 rfl rfl ?_
    try simp only [up_app, row_app, scr_app, cpy_app, Nat.reduceEqDiff, Int.reduceToNat, Int.toNat_natCast, and_true, true_and, and_false, false_and, and_self, reduceIte]
    refine p_X9_183 (t := 20) F dX9_fail_17 rfl rfl ?_
    refine q_vret F dX9_fail_20 rfl ?_
    first
      | exact ⟨rfl, by rw [if_pos (by omega)]⟩
      | exact ⟨rfl, by rw [if_neg (by omega)]⟩

