/-! more of them -/
set_option maxHeartbeats 4000000 in
theorem f_X9_told (l : Launch) (G : GS) (im : IM) (bt rt : Nat) (lm : IM) (hF : FR im) (of what : Int) (hof : ri of) (hwhat : ri what) : Cn l (XR G) yX9_told Y_X9_told [vR 30 0, vI of, vI what] (im, rs bt rt, lm) (pI fun x m' => x = (if what = 0 then 0 else if what = 1 then 1024 else -2) ∧ m' = (im, rs bt rt, lm)) := by
  refine cn_of (by decide) (okR G) rfl (Nat.le_of_ble_eq_true rfl) ?_
  intro M ad hMl F
  subst hMl
  obtain ⟨hR, f3, f4, f6, f7, f8, f9, f12, f46, f47⟩ := hF
  have hof1 := hof.1
  have hof2 := hof.2
  have hwhat1 := hwhat.1
  have hwhat2 := hwhat.2
  refine wp_pad 1 ?_
  show Wp M (XR G) ad Y_X9_told (pI fun x m' => x = (if what = 0 then 0 else if what = 1 then 1024 else -2) ∧ m' = (im, rs bt rt, lm)) 0 [some (vR 30 0), some (vI of), some (vI what), none] [] (im, rs bt rt, lm)
  refine q_iload_n (t := 1) F dX9_told_0 rfl rfl rfl ?_
  refine q_i2l (t := 2) F dX9_told_1 (by first | exact hR _ _ _ | (constructor <;> omega)) rfl ?_
  refine q_lconst (t := 3) (x := 0) F dX9_told_2 (by decide) rfl ?_
  refine q_ldc2 (t := 6) (x := 4) F dX9_told_3 kl_X9_125 (by decide) rfl ?_
  refine wp_callS (t := 9) [_, _, _] F dX9_told_6 k_X9_in st_X9_in ml_X9_91 rfl rfl (Nat.le_of_ble_eq_true rfl) (by decide) (c_X9_in _ G _ _ _ _ _ _ _ (by constructor <;> omega) (by constructor <;> omega) (by constructor <;> omega)) rfl (kI ?_)
  rintro x6 m' ⟨hx6, rfl⟩
  have hx6 := if01 hx6
  refine q_if_ne (t := 12) (u := 26) F dX9_told_9 (by first | exact hR _ _ _ | (constructor <;> omega)) (by decide) rfl (fun c9 => ?_) (fun c9 => ?_)
  · refine q_iload_n (t := 27) F dX9_told_26 rfl rfl rfl ?_
    refine q_iconst (t := 28) F dX9_told_27 rfl ?_
    refine q_icmp_le (t := 31) (u := 42) F dX9_told_28 (by first | exact hR _ _ _ | (constructor <;> omega)) (by first | exact hR _ _ _ | (constructor <;> omega)) (by decide) rfl (fun c28 => ?_) (fun c28 => ?_)
    · refine q_iload_n (t := 43) F dX9_told_42 rfl rfl rfl ?_
      refine q_iconst (t := 44) F dX9_told_43 rfl ?_
      refine q_icmp_ge (t := 47) (u := 104) F dX9_told_44 (by first | exact hR _ _ _ | (constructor <;> omega)) (by first | exact hR _ _ _ | (constructor <;> omega)) (by decide) rfl (fun c44 => ?_) (fun c44 => ?_)
      · exfalso; omega
      · refine q_iload_n (t := 48) F dX9_told_47 rfl rfl rfl ?_
        refine q_if_ne (t := 51) (u := 58) F dX9_told_48 (by first | exact hR _ _ _ | (constructor <;> omega)) (by decide) rfl (fun c48 => ?_) (fun c48 => ?_)
        · refine q_iload_n (t := 59) F dX9_told_58 rfl rfl rfl ?_
          refine q_iconst (t := 60) F dX9_told_59 rfl ?_
          refine q_icmp_ne (t := 63) (u := 70) F dX9_told_60 (by first | exact hR _ _ _ | (constructor <;> omega)) (by first | exact hR _ _ _ | (constructor <;> omega)) (by decide) rfl (fun c60 => ?_) (fun c60 => ?_)
          · exfalso; omega
          · refine q_aload_n (t := 64) F dX9_told_63 rfl rfl rfl ?_
            refine g_X9_23 (t := 67) F dX9_told_64 rfl rfl ?_
            try simp only [up_app, row_app, scr_app, cpy_app, Nat.reduceEqDiff, Int.reduceToNat, Int.toNat_natCast, and_true, true_and, and_false, false_and, and_self, reduceIte]
            refine q_goto (t := 103) F dX9_told_67 (by decide) ?_
            refine q_iret F dX9_told_103 rfl ?_
            first
              | (refine ⟨_, rfl, ?_, rfl⟩
                 (repeat' split) <;> omega)
              | (exfalso; omega)
        · refine q_aload_n (t := 52) F dX9_told_51 rfl rfl rfl ?_
          refine g_X9_117 (t := 55) F dX9_told_52 rfl rfl ?_
          try simp only [up_app, row_app, scr_app, cpy_app, Nat.reduceEqDiff, Int.reduceToNat, Int.toNat_natCast, and_true, true_and, and_false, false_and, and_self, reduceIte]
          refine q_goto (t := 103) F dX9_told_55 (by decide) ?_
          refine q_iret F dX9_told_103 rfl ?_
          first
            | (refine ⟨_, rfl, ?_, rfl⟩
               (repeat' split) <;> omega)
            | (exfalso; omega)
    · refine q_aload_n (t := 32) F dX9_told_31 rfl rfl rfl ?_
      refine q_iload_n (t := 33) F dX9_told_32 rfl rfl rfl ?_
      refine wp_callV (t := 36) [_] F dX9_told_33 k_X9_isOne v_X9_isOne ml_X9_101 rfl rfl rfl rfl (Nat.le_of_ble_eq_true rfl) (by decide) (m_30 (by omega)) (c_X9_isOne _ G im bt rt lm hR (by omega) (by omega) of hof) rfl (kI ?_)
      rintro x33 m' ⟨hx33, rfl⟩
      have hx33 := if01 hx33
      refine q_if_ne (t := 39) (u := 42) F dX9_told_36 (by first | exact hR _ _ _ | (constructor <;> omega)) (by decide) rfl (fun c36 => ?_) (fun c36 => ?_)
      · exfalso; omega
      · refine q_bipush (t := 41) F dX9_told_39 (by decide) rfl ?_
        refine q_iret F dX9_told_41 rfl ?_
        first
          | (refine ⟨_, rfl, ?_, rfl⟩
             (repeat' split) <;> omega)
          | (exfalso; omega)
  · refine q_iload_n (t := 13) F dX9_told_12 rfl rfl rfl ?_
    refine q_i2l (t := 14) F dX9_told_13 (by first | exact hR _ _ _ | (constructor <;> omega)) rfl ?_
    refine q_ldc2 (t := 17) (x := 10) F dX9_told_14 kl_X9_127 (by decide) rfl ?_
    refine q_ldc2 (t := 20) (x := 39) F dX9_told_17 kl_X9_129 (by decide) rfl ?_
    refine wp_callS (t := 23) [_, _, _] F dX9_told_20 k_X9_in st_X9_in ml_X9_91 rfl rfl (Nat.le_of_ble_eq_true rfl) (by decide) (c_X9_in _ G _ _ _ _ _ _ _ (by constructor <;> omega) (by constructor <;> omega) (by constructor <;> omega)) rfl (kI ?_)
    rintro x20 m' ⟨hx20, rfl⟩
    have hx20 := if01 hx20
    refine q_if_eq (t := 26) (u := 39) F dX9_told_23 (by first | exact hR _ _ _ | (constructor <;> omega)) (by decide) rfl (fun c23 => ?_) (fun c23 => ?_)
    · refine q_bipush (t := 41) F dX9_told_39 (by decide) rfl ?_
      refine q_iret F dX9_told_41 rfl ?_
      first
        | (refine ⟨_, rfl, ?_, rfl⟩
           (repeat' split) <;> omega)
        | (exfalso; omega)
    · refine q_iload_n (t := 27) F dX9_told_26 rfl rfl rfl ?_
      refine q_iconst (t := 28) F dX9_told_27 rfl ?_
      refine q_icmp_le (t := 31) (u := 42) F dX9_told_28 (by first | exact hR _ _ _ | (constructor <;> omega)) (by first | exact hR _ _ _ | (constructor <;> omega)) (by decide) rfl (fun c28 => ?_) (fun c28 => ?_)
      · refine q_iload_n (t := 43) F dX9_told_42 rfl rfl rfl ?_
        refine q_iconst (t := 44) F dX9_told_43 rfl ?_
        refine q_icmp_ge (t := 47) (u := 104) F dX9_told_44 (by first | exact hR _ _ _ | (constructor <;> omega)) (by first | exact hR _ _ _ | (constructor <;> omega)) (by decide) rfl (fun c44 => ?_) (fun c44 => ?_)
        · exfalso; omega
        · refine q_iload_n (t := 48) F dX9_told_47 rfl rfl rfl ?_
          refine q_if_ne (t := 51) (u := 58) F dX9_told_48 (by first | exact hR _ _ _ | (constructor <;> omega)) (by decide) rfl (fun c48 => ?_) (fun c48 => ?_)
          · refine q_iload_n (t := 59) F dX9_told_58 rfl rfl rfl ?_
            refine q_iconst (t := 60) F dX9_told_59 rfl ?_
            refine q_icmp_ne (t := 63) (u := 70) F dX9_told_60 (by first | exact hR _ _ _ | (constructor <;> omega)) (by first | exact hR _ _ _ | (constructor <;> omega)) (by decide) rfl (fun c60 => ?_) (fun c60 => ?_)
            · exfalso; omega
            · refine q_aload_n (t := 64) F dX9_told_63 rfl rfl rfl ?_
              refine g_X9_23 (t := 67) F dX9_told_64 rfl rfl ?_
              try simp only [up_app, row_app, scr_app, cpy_app, Nat.reduceEqDiff, Int.reduceToNat, Int.toNat_natCast, and_true, true_and, and_false, false_and, and_self, reduceIte]
              refine q_goto (t := 103) F dX9_told_67 (by decide) ?_
              refine q_iret F dX9_told_103 rfl ?_
              first
                | (refine ⟨_, rfl, ?_, rfl⟩
                   (repeat' split) <;> omega)
                | (exfalso; omega)
          · refine q_aload_n (t := 52) F dX9_told_51 rfl rfl rfl ?_
            refine g_X9_117 (t := 55) F dX9_told_52 rfl rfl ?_
            try simp only [up_app, row_app, scr_app, cpy_app, Nat.reduceEqDiff, Int.reduceToNat, Int.toNat_natCast, and_true, true_and, and_false, false_and, and_self, reduceIte]
            refine q_goto (t := 103) F dX9_told_55 (by decide) ?_
            refine q_iret F dX9_told_103 rfl ?_
            first
              | (refine ⟨_, rfl, ?_, rfl⟩
                 (repeat' split) <;> omega)
              | (exfalso; omega)
      · refine q_aload_n (t := 32) F dX9_told_31 rfl rfl rfl ?_
        refine q_iload_n (t := 33) F dX9_told_32 rfl rfl rfl ?_
        refine wp_callV (t := 36) [_] F dX9_told_33 k_X9_isOne v_X9_isOne ml_X9_101 rfl rfl rfl rfl (Nat.le_of_ble_eq_true rfl) (by decide) (m_30 (by omega)) (c_X9_isOne _ G im bt rt lm hR (by omega) (by omega) of hof) rfl (kI ?_)
        rintro x33 m' ⟨hx33, rfl⟩
        have hx33 := if01 hx33
        refine q_if_ne (t := 39) (u := 42) F dX9_told_36 (by first | exact hR _ _ _ | (constructor <;> omega)) (by decide) rfl (fun c36 => ?_) (fun c36 => ?_)
        · exfalso; omega
        · refine q_bipush (t := 41) F dX9_told_39 (by decide) rfl ?_
          refine q_iret F dX9_told_41 rfl ?_
          first
            | (refine ⟨_, rfl, ?_, rfl⟩
               (repeat' split) <;> omega)
            | (exfalso; omega)

set_option maxHeartbeats 4000000 in
theorem f_X9_lays (l : Launch) (G : GS) (im : IM) (bt rt : Nat) (lm : IM) (what of v : Int) (hw : what = 0 ∨ what = 1) : Cn l (XR G) yX9_lays Y_X9_lays [vR 30 0, vI what, vI of, vI v] (im, rs bt rt, lm) (pV fun m' => ∃ im' lm', m' = (im', rs bt rt, lm')) := by
  refine cn_of (by decide) (okR G) rfl (Nat.le_of_ble_eq_true rfl) ?_
  intro M ad hMl F
  subst hMl
  refine wp_pad 0 ?_
  show Wp M (XR G) ad Y_X9_lays (pV fun m' => ∃ im' lm', m' = (im', rs bt rt, lm')) 0 [some (vR 30 0), some (vI what), some (vI of), some (vI v)] [] (im, rs bt rt, lm)
  refine q_iload_n (t := 1) F dX9_lays_0 rfl rfl rfl ?_
  refine q_if_ne (t := 4) (u := 12) F dX9_lays_1 (by first | exact hR _ _ _ | (constructor <;> omega)) (by decide) rfl (fun c1 => ?_) (fun c1 => ?_)
  · refine q_iload_n (t := 13) F dX9_lays_12 rfl rfl rfl ?_
    refine q_iconst (t := 14) F dX9_lays_13 rfl ?_
    refine q_icmp_ne (t := 17) (u := 25) F dX9_lays_14 (by first | exact hR _ _ _ | (constructor <;> omega)) (by first | exact hR _ _ _ | (constructor <;> omega)) (by decide) rfl (fun c14 => ?_) (fun c14 => ?_)
    · exfalso; omega
    · refine q_aload_n (t := 18) F dX9_lays_17 rfl rfl rfl ?_
      refine q_iload_n (t := 19) F dX9_lays_18 rfl rfl rfl ?_
      refine p_X9_23 (t := 22) F dX9_lays_19 rfl rfl ?_
      refine q_goto (t := 60) F dX9_lays_22 (by decide) ?_
      refine q_vret F dX9_lays_60 rfl ?_
      exact ⟨rfl, _, _, rfl⟩
  · refine q_aload_n (t := 5) F dX9_lays_4 rfl rfl rfl ?_
    refine q_iload_n (t := 6) F dX9_lays_5 rfl rfl rfl ?_
    refine p_X9_117 (t := 9) F dX9_lays_6 rfl rfl ?_
    refine q_goto (t := 60) F dX9_lays_9 (by decide) ?_
    refine q_vret F dX9_lays_60 rfl ?_
    exact ⟨rfl, _, _, rfl⟩

set_option maxHeartbeats 4000000 in
theorem f_X9_set (l : Launch) (G : GS) (im : IM) (bt rt : Nat) (lm : IM) (hF : FR im) (what : Int) (of : Int) (v : Int) (hwhat : ri what) (hof : ri of) (hv : ri v) : Cn l (XR G) yX9_set Y_X9_set [vR 30 0, vI what, vI of, vI v] (im, rs bt rt, lm) (pI fun x m' => x = (if what = 0 ∧ 0 ≤ v ∧ v ≤ 999 then 0 else if what = 1 ∧ 0 ≤ v ∧ v ≤ 16777215 then 1024 else -2) ∧ ∃ im' lm', m' = (im', rs bt rt, lm')) := by
  refine cn_of (by decide) (okR G) rfl (Nat.le_of_ble_eq_true rfl) ?_
  intro M ad hMl F
  subst hMl
  obtain ⟨hR, f3, f4, f6, f7, f8, f9, f12, f46, f47⟩ := hF
  have hwhat1 := hwhat.1
  have hwhat2 := hwhat.2
  have hof1 := hof.1
  have hof2 := hof.2
  have hv1 := hv.1
  have hv2 := hv.2
  refine wp_pad 1 ?_
  show Wp M (XR G) ad Y_X9_set (pI fun x m' => x = (if what = 0 ∧ 0 ≤ v ∧ v ≤ 999 then 0 else if what = 1 ∧ 0 ≤ v ∧ v ≤ 16777215 then 1024 else -2) ∧ ∃ im' lm', m' = (im', rs bt rt, lm')) 0 [some (vR 30 0), some (vI what), some (vI of), some (vI v), none] [] (im, rs bt rt, lm)
  refine q_iload_n (t := 1) F dX9_set_0 rfl rfl rfl ?_
  refine q_i2l (t := 2) F dX9_set_1 (by first | exact hR _ _ _ | (constructor <;> omega)) rfl ?_
  refine q_lconst (t := 3) (x := 0) F dX9_set_2 (by decide) rfl ?_
  refine q_ldc2 (t := 6) (x := 2) F dX9_set_3 kl_X9_99 (by decide) rfl ?_
  refine wp_callS (t := 9) [_, _, _] F dX9_set_6 k_X9_in st_X9_in ml_X9_91 rfl rfl (Nat.le_of_ble_eq_true rfl) (by decide) (c_X9_in _ G _ _ _ _ _ _ _ (by constructor <;> omega) (by constructor <;> omega) (by constructor <;> omega)) rfl (kI ?_)
  rintro x6 m' ⟨hx6, rfl⟩
  have hx6 := if01 hx6
  refine q_if_eq (t := 12) (u := 58) F dX9_set_9 (by first | exact hR _ _ _ | (constructor <;> omega)) (by decide) rfl (fun c9 => ?_) (fun c9 => ?_)
  · refine q_bipush (t := 60) F dX9_set_58 (by decide) rfl ?_
    refine q_iret F dX9_set_60 rfl ?_
    first
      | (refine ⟨_, rfl, ?_, _, _, rfl⟩
         rw [hx64]
         (repeat' split) <;> omega)
      | (refine ⟨_, rfl, ?_, _, _, rfl⟩
         (repeat' split) <;> omega)
      | (exfalso; omega)
  · refine q_iload_n (t := 13) F dX9_set_12 rfl rfl rfl ?_
    refine q_iconst (t := 14) F dX9_set_13 rfl ?_
    refine q_icmp_ne (t := 17) (u := 25) F dX9_set_14 (by first | exact hR _ _ _ | (constructor <;> omega)) (by first | exact hR _ _ _ | (constructor <;> omega)) (by decide) rfl (fun c14 => ?_) (fun c14 => ?_)
    · refine q_iload_n (t := 26) F dX9_set_25 rfl rfl rfl ?_
      refine q_i2l (t := 27) F dX9_set_26 (by first | exact hR _ _ _ | (constructor <;> omega)) rfl ?_
      refine q_lconst (t := 28) (x := 0) F dX9_set_27 (by decide) rfl ?_
      refine q_iload_n (t := 29) F dX9_set_28 rfl rfl rfl ?_
      refine q_if_ne (t := 32) (u := 38) F dX9_set_29 (by first | exact hR _ _ _ | (constructor <;> omega)) (by decide) rfl (fun c29 => ?_) (fun c29 => ?_)
      · refine q_iload_n (t := 39) F dX9_set_38 rfl rfl rfl ?_
        refine q_iconst (t := 40) F dX9_set_39 rfl ?_
        refine q_icmp_ne (t := 43) (u := 49) F dX9_set_40 (by first | exact hR _ _ _ | (constructor <;> omega)) (by first | exact hR _ _ _ | (constructor <;> omega)) (by decide) rfl (fun c40 => ?_) (fun c40 => ?_)
        · refine q_ldc2 (t := 52) (x := 9) F dX9_set_49 kl_X9_95 (by decide) rfl ?_
          refine wp_callS (t := 55) [_, _, _] F dX9_set_52 k_X9_in st_X9_in ml_X9_91 rfl rfl (Nat.le_of_ble_eq_true rfl) (by decide) (c_X9_in _ G _ _ _ _ _ _ _ (by constructor <;> omega) (by constructor <;> omega) (by constructor <;> omega)) rfl (kI ?_)
          rintro x52 m' ⟨hx52, rfl⟩
          have hx52 := if01 hx52
          refine q_if_ne (t := 58) (u := 61) F dX9_set_55 (by first | exact hR _ _ _ | (constructor <;> omega)) (by decide) rfl (fun c55 => ?_) (fun c55 => ?_)
          · refine q_aload_n (t := 62) F dX9_set_61 rfl rfl rfl ?_
            refine q_iload_n (t := 63) F dX9_set_62 rfl rfl rfl ?_
            refine q_iload_n (t := 64) F dX9_set_63 rfl rfl rfl ?_
            refine wp_callV (t := 67) [_, _] F dX9_set_64 k_X9_told v_X9_told ml_X9_109 rfl rfl rfl rfl (Nat.le_of_ble_eq_true rfl) (by decide) (m_30 (by omega)) (f_X9_told _ G im bt rt lm ⟨hR, f3, f4, f6, f7, f8, f9, f12, f46, f47⟩ of what hof hwhat) rfl (kI ?_)
            rintro x64 m' ⟨hx64, rfl⟩
            refine q_istore (t := 69) F dX9_set_67 (by decide) rfl rfl ?_
            refine q_aload_n (t := 70) F dX9_set_69 rfl rfl rfl ?_
            refine q_iload_n (t := 71) F dX9_set_70 rfl rfl rfl ?_
            refine q_iload_n (t := 72) F dX9_set_71 rfl rfl rfl ?_
            refine q_iload_n (t := 73) F dX9_set_72 rfl rfl rfl ?_
            refine wp_callV (t := 76) [_, _, _] F dX9_set_73 k_X9_lays v_X9_lays ml_X9_113 rfl rfl rfl rfl (Nat.le_of_ble_eq_true rfl) (by decide) (m_30 (by omega)) (f_X9_lays _ G im bt rt lm what of v (by omega)) rfl (kV ?_)
            rintro m' ⟨im1, lm1, rfl⟩
            refine q_iload (t := 78) F dX9_set_76 rfl rfl ?_
            refine q_iret F dX9_set_78 rfl ?_
            first
              | (refine ⟨_, rfl, ?_, _, _, rfl⟩
                 rw [hx64]
                 (repeat' split) <;> omega)
              | (refine ⟨_, rfl, ?_, _, _, rfl⟩
                 (repeat' split) <;> omega)
              | (exfalso; omega)
          · refine q_bipush (t := 60) F dX9_set_58 (by decide) rfl ?_
            refine q_iret F dX9_set_60 rfl ?_
            first
              | (refine ⟨_, rfl, ?_, _, _, rfl⟩
                 rw [hx64]
                 (repeat' split) <;> omega)
              | (refine ⟨_, rfl, ?_, _, _, rfl⟩
                 (repeat' split) <;> omega)
              | (exfalso; omega)
        · refine q_ldc2 (t := 46) (x := 16777215) F dX9_set_43 kl_X9_107 (by decide) rfl ?_
          refine q_goto (t := 52) F dX9_set_46 (by decide) ?_
          refine wp_callS (t := 55) [_, _, _] F dX9_set_52 k_X9_in st_X9_in ml_X9_91 rfl rfl (Nat.le_of_ble_eq_true rfl) (by decide) (c_X9_in _ G _ _ _ _ _ _ _ (by constructor <;> omega) (by constructor <;> omega) (by constructor <;> omega)) rfl (kI ?_)
          rintro x52 m' ⟨hx52, rfl⟩
          have hx52 := if01 hx52
          refine q_if_ne (t := 58) (u := 61) F dX9_set_55 (by first | exact hR _ _ _ | (constructor <;> omega)) (by decide) rfl (fun c55 => ?_) (fun c55 => ?_)
          · refine q_aload_n (t := 62) F dX9_set_61 rfl rfl rfl ?_
            refine q_iload_n (t := 63) F dX9_set_62 rfl rfl rfl ?_
            refine q_iload_n (t := 64) F dX9_set_63 rfl rfl rfl ?_
            refine wp_callV (t := 67) [_, _] F dX9_set_64 k_X9_told v_X9_told ml_X9_109 rfl rfl rfl rfl (Nat.le_of_ble_eq_true rfl) (by decide) (m_30 (by omega)) (f_X9_told _ G im bt rt lm ⟨hR, f3, f4, f6, f7, f8, f9, f12, f46, f47⟩ of what hof hwhat) rfl (kI ?_)
            rintro x64 m' ⟨hx64, rfl⟩
            refine q_istore (t := 69) F dX9_set_67 (by decide) rfl rfl ?_
            refine q_aload_n (t := 70) F dX9_set_69 rfl rfl rfl ?_
            refine q_iload_n (t := 71) F dX9_set_70 rfl rfl rfl ?_
            refine q_iload_n (t := 72) F dX9_set_71 rfl rfl rfl ?_
            refine q_iload_n (t := 73) F dX9_set_72 rfl rfl rfl ?_
            refine wp_callV (t := 76) [_, _, _] F dX9_set_73 k_X9_lays v_X9_lays ml_X9_113 rfl rfl rfl rfl (Nat.le_of_ble_eq_true rfl) (by decide) (m_30 (by omega)) (f_X9_lays _ G im bt rt lm what of v (by omega)) rfl (kV ?_)
            rintro m' ⟨im1, lm1, rfl⟩
            refine q_iload (t := 78) F dX9_set_76 rfl rfl ?_
            refine q_iret F dX9_set_78 rfl ?_
            first
              | (refine ⟨_, rfl, ?_, _, _, rfl⟩
                 rw [hx64]
                 (repeat' split) <;> omega)
              | (refine ⟨_, rfl, ?_, _, _, rfl⟩
                 (repeat' split) <;> omega)
              | (exfalso; omega)
          · refine q_bipush (t := 60) F dX9_set_58 (by decide) rfl ?_
            refine q_iret F dX9_set_60 rfl ?_
            first
              | (refine ⟨_, rfl, ?_, _, _, rfl⟩
                 rw [hx64]
                 (repeat' split) <;> omega)
              | (refine ⟨_, rfl, ?_, _, _, rfl⟩
                 (repeat' split) <;> omega)
              | (exfalso; omega)
      · refine q_ldc2 (t := 35) (x := 999) F dX9_set_32 kl_X9_105 (by decide) rfl ?_
        refine q_goto (t := 52) F dX9_set_35 (by decide) ?_
        refine wp_callS (t := 55) [_, _, _] F dX9_set_52 k_X9_in st_X9_in ml_X9_91 rfl rfl (Nat.le_of_ble_eq_true rfl) (by decide) (c_X9_in _ G _ _ _ _ _ _ _ (by constructor <;> omega) (by constructor <;> omega) (by constructor <;> omega)) rfl (kI ?_)
        rintro x52 m' ⟨hx52, rfl⟩
        have hx52 := if01 hx52
        refine q_if_ne (t := 58) (u := 61) F dX9_set_55 (by first | exact hR _ _ _ | (constructor <;> omega)) (by decide) rfl (fun c55 => ?_) (fun c55 => ?_)
        · refine q_aload_n (t := 62) F dX9_set_61 rfl rfl rfl ?_
          refine q_iload_n (t := 63) F dX9_set_62 rfl rfl rfl ?_
          refine q_iload_n (t := 64) F dX9_set_63 rfl rfl rfl ?_
          refine wp_callV (t := 67) [_, _] F dX9_set_64 k_X9_told v_X9_told ml_X9_109 rfl rfl rfl rfl (Nat.le_of_ble_eq_true rfl) (by decide) (m_30 (by omega)) (f_X9_told _ G im bt rt lm ⟨hR, f3, f4, f6, f7, f8, f9, f12, f46, f47⟩ of what hof hwhat) rfl (kI ?_)
          rintro x64 m' ⟨hx64, rfl⟩
          refine q_istore (t := 69) F dX9_set_67 (by decide) rfl rfl ?_
          refine q_aload_n (t := 70) F dX9_set_69 rfl rfl rfl ?_
          refine q_iload_n (t := 71) F dX9_set_70 rfl rfl rfl ?_
          refine q_iload_n (t := 72) F dX9_set_71 rfl rfl rfl ?_
          refine q_iload_n (t := 73) F dX9_set_72 rfl rfl rfl ?_
          refine wp_callV (t := 76) [_, _, _] F dX9_set_73 k_X9_lays v_X9_lays ml_X9_113 rfl rfl rfl rfl (Nat.le_of_ble_eq_true rfl) (by decide) (m_30 (by omega)) (f_X9_lays _ G im bt rt lm what of v (by omega)) rfl (kV ?_)
          rintro m' ⟨im1, lm1, rfl⟩
          refine q_iload (t := 78) F dX9_set_76 rfl rfl ?_
          refine q_iret F dX9_set_78 rfl ?_
          first
            | (refine ⟨_, rfl, ?_, _, _, rfl⟩
               rw [hx64]
               (repeat' split) <;> omega)
            | (refine ⟨_, rfl, ?_, _, _, rfl⟩
               (repeat' split) <;> omega)
            | (exfalso; omega)
        · refine q_bipush (t := 60) F dX9_set_58 (by decide) rfl ?_
          refine q_iret F dX9_set_60 rfl ?_
          first
            | (refine ⟨_, rfl, ?_, _, _, rfl⟩
               rw [hx64]
               (repeat' split) <;> omega)
            | (refine ⟨_, rfl, ?_, _, _, rfl⟩
               (repeat' split) <;> omega)
            | (exfalso; omega)
    · refine q_aload_n (t := 18) F dX9_set_17 rfl rfl rfl ?_
      refine q_iload_n (t := 19) F dX9_set_18 rfl rfl rfl ?_
      refine wp_callV (t := 22) [_] F dX9_set_19 k_X9_isOne v_X9_isOne ml_X9_101 rfl rfl rfl rfl (Nat.le_of_ble_eq_true rfl) (by decide) (m_30 (by omega)) (c_X9_isOne _ G im bt rt lm hR (by omega) (by omega) of hof) rfl (kI ?_)
      rintro x19 m' ⟨hx19, rfl⟩
      have hx19 := if01 hx19
      refine q_if_eq (t := 25) (u := 58) F dX9_set_22 (by first | exact hR _ _ _ | (constructor <;> omega)) (by decide) rfl (fun c22 => ?_) (fun c22 => ?_)
      · refine q_bipush (t := 60) F dX9_set_58 (by decide) rfl ?_
        refine q_iret F dX9_set_60 rfl ?_
        first
          | (refine ⟨_, rfl, ?_, _, _, rfl⟩
             rw [hx64]
             (repeat' split) <;> omega)
          | (refine ⟨_, rfl, ?_, _, _, rfl⟩
             (repeat' split) <;> omega)
          | (exfalso; omega)
      · exfalso; omega

set_option maxHeartbeats 4000000 in
theorem f_X9_man (l : Launch) (G : GS) (im : IM) (bt rt : Nat) (lm : IM) (hF : FR im) (kind : Int) (number : Int) (hkind : ri kind) (hnumber : ri number) : Cn l (XR G) yX9_man Y_X9_man [vR 30 0, vI kind, vI number] (im, rs bt rt, lm) (pI fun x m' => x = (if (0 ≤ kind ∧ kind ≤ 5) ∧ 0 ≤ number ∧ number ≤ 9 then 0 else -2) ∧ ∃ im' lm', m' = (im', rs bt rt, lm')) := by
  refine cn_of (by decide) (okR G) rfl (Nat.le_of_ble_eq_true rfl) ?_
  intro M ad hMl F
  subst hMl
  obtain ⟨hR, f3, f4, f6, f7, f8, f9, f12, f46, f47⟩ := hF
  have hkind1 := hkind.1
  have hkind2 := hkind.2
  have hnumber1 := hnumber.1
  have hnumber2 := hnumber.2
  refine wp_pad 1 ?_
  show Wp M (XR G) ad Y_X9_man (pI fun x m' => x = (if (0 ≤ kind ∧ kind ≤ 5) ∧ 0 ≤ number ∧ number ≤ 9 then 0 else -2) ∧ ∃ im' lm', m' = (im', rs bt rt, lm')) 0 [some (vR 30 0), some (vI kind), some (vI number), none] [] (im, rs bt rt, lm)
  refine q_iload_n (t := 1) F dX9_man_0 rfl rfl rfl ?_
  refine q_i2l (t := 2) F dX9_man_1 (by first | exact hR _ _ _ | (constructor <;> omega)) rfl ?_
  refine q_lconst (t := 3) (x := 0) F dX9_man_2 (by decide) rfl ?_
  refine q_ldc2 (t := 6) (x := 5) F dX9_man_3 kl_X9_123 (by decide) rfl ?_
  refine wp_callS (t := 9) [_, _, _] F dX9_man_6 k_X9_in st_X9_in ml_X9_91 rfl rfl (Nat.le_of_ble_eq_true rfl) (by decide) (c_X9_in _ G _ _ _ _ _ _ _ (by constructor <;> omega) (by constructor <;> omega) (by constructor <;> omega)) rfl (kI ?_)
  rintro x6 m' ⟨hx6, rfl⟩
  have hx6 := if01 hx6
  refine q_if_eq (t := 12) (u := 24) F dX9_man_9 (by first | exact hR _ _ _ | (constructor <;> omega)) (by decide) rfl (fun c9 => ?_) (fun c9 => ?_)
  · refine q_bipush (t := 26) F dX9_man_24 (by decide) rfl ?_
    refine q_iret F dX9_man_26 rfl ?_
    first
      | (refine ⟨_, rfl, ?_, _, _, rfl⟩
         (repeat' split) <;> omega)
      | (exfalso; omega)
  · refine q_iload_n (t := 13) F dX9_man_12 rfl rfl rfl ?_
    refine q_i2l (t := 14) F dX9_man_13 (by first | exact hR _ _ _ | (constructor <;> omega)) rfl ?_
    refine q_lconst (t := 15) (x := 0) F dX9_man_14 (by decide) rfl ?_
    refine q_ldc2 (t := 18) (x := 9) F dX9_man_15 kl_X9_95 (by decide) rfl ?_
    refine wp_callS (t := 21) [_, _, _] F dX9_man_18 k_X9_in st_X9_in ml_X9_91 rfl rfl (Nat.le_of_ble_eq_true rfl) (by decide) (c_X9_in _ G _ _ _ _ _ _ _ (by constructor <;> omega) (by constructor <;> omega) (by constructor <;> omega)) rfl (kI ?_)
    rintro x18 m' ⟨hx18, rfl⟩
    have hx18 := if01 hx18
    refine q_if_ne (t := 24) (u := 27) F dX9_man_21 (by first | exact hR _ _ _ | (constructor <;> omega)) (by decide) rfl (fun c21 => ?_) (fun c21 => ?_)
    · refine q_aload_n (t := 28) F dX9_man_27 rfl rfl rfl ?_
      refine g_X9_88 (t := 31) F dX9_man_28 rfl rfl ?_
      try simp only [up_app, row_app, scr_app, cpy_app, Nat.reduceEqDiff, Int.reduceToNat, Int.toNat_natCast, and_true, true_and, and_false, false_and, and_self, reduceIte]
      refine q_iconst (t := 32) F dX9_man_31 rfl ?_
      refine q_icmp_ne (t := 35) (u := 38) F dX9_man_32 (by first | exact hR _ _ _ | (constructor <;> omega)) (by first | exact hR _ _ _ | (constructor <;> omega)) (by decide) rfl (fun c32 => ?_) (fun c32 => ?_)
      · refine q_aload_n (t := 39) F dX9_man_38 rfl rfl rfl ?_
        refine g_X9_26 (t := 42) F dX9_man_39 rfl rfl ?_
        refine q_aload_n (t := 43) F dX9_man_42 rfl rfl rfl ?_
        refine g_X9_88 (t := 46) F dX9_man_43 rfl rfl ?_
        try simp only [up_app, row_app, scr_app, cpy_app, Nat.reduceEqDiff, Int.reduceToNat, Int.toNat_natCast, and_true, true_and, and_false, false_and, and_self, reduceIte]
        refine q_iload_n (t := 47) F dX9_man_46 rfl rfl rfl ?_
        first | refine stN_34 (t := 48) F dX9_man_47 (by omega) rfl ?_ | refine st_34 (t := 48) F dX9_man_47 (by omega) (by omega) rfl ?_
        refine q_aload_n (t := 49) F dX9_man_48 rfl rfl rfl ?_
        refine g_X9_29 (t := 52) F dX9_man_49 rfl rfl ?_
        refine q_aload_n (t := 53) F dX9_man_52 rfl rfl rfl ?_
        refine g_X9_88 (t := 56) F dX9_man_53 rfl rfl ?_
        try simp only [up_app, row_app, scr_app, cpy_app, Nat.reduceEqDiff, Int.reduceToNat, Int.toNat_natCast, and_true, true_and, and_false, false_and, and_self, reduceIte]
        refine q_iload_n (t := 57) F dX9_man_56 rfl rfl rfl ?_
        first | refine stN_35 (t := 58) F dX9_man_57 (by omega) rfl ?_ | refine st_35 (t := 58) F dX9_man_57 (by omega) (by omega) rfl ?_
        refine q_iconst (t := 59) F dX9_man_58 rfl ?_
        refine q_istore_n (t := 60) F dX9_man_59 rfl (by decide) rfl rfl ?_
        have L60 : ∀ (fz : Nat) (i : Nat) (im1 : IM), 10 - i < fz → i ≤ 10 → im1 30 0 12 = 0 → Wp M (XR G) ad Y_X9_man (pI fun x m' => x = (if (0 ≤ kind ∧ kind ≤ 5) ∧ 0 ≤ number ∧ number ≤ 9 then 0 else -2) ∧ ∃ im' lm', m' = (im', rs bt rt, lm')) 60 [some (vR 30 0), some (vI kind), some (vI number), some (vI (i : Int))] [] (im1, rs bt rt, lm) := by
          intro fz
          induction fz with
          | zero => intro i im1 h; exact absurd h (Nat.not_lt_zero _)
          | succ fz ih =>
            have ih60 := ih
            intro i im1 hmeas hi g12
            refine q_iload_n (t := 61) F dX9_man_60 rfl rfl rfl ?_
            refine q_bipush (t := 63) F dX9_man_61 (by decide) rfl ?_
            refine q_icmp_ge (t := 66) (u := 87) F dX9_man_63 (by constructor <;> omega) (by constructor <;> omega) (by decide) rfl (fun c63 => ?_) (fun c63 => ?_)
            · refine q_aload_n (t := 88) F dX9_man_87 rfl rfl rfl ?_
              refine q_dupR (t := 89) F dX9_man_88 rfl ?_
              refine g_X9_88 (t := 92) F dX9_man_89 rfl rfl ?_
              try simp only [up_app, row_app, scr_app, cpy_app, Nat.reduceEqDiff, Int.reduceToNat, Int.toNat_natCast, and_true, true_and, and_false, false_and, and_self, reduceIte]
              refine q_iconst (t := 93) F dX9_man_92 rfl ?_
              refine q_iadd (t := 94) F dX9_man_93 rfl ?_
              refine p_X9_88 (t := 97) F dX9_man_94 rfl rfl ?_
              refine q_aload_n (t := 98) F dX9_man_97 rfl rfl rfl ?_
              refine g_X9_88 (t := 101) F dX9_man_98 rfl rfl ?_
              try simp only [up_app, row_app, scr_app, cpy_app, Nat.reduceEqDiff, Int.reduceToNat, Int.toNat_natCast, and_true, true_and, and_false, false_and, and_self, reduceIte]
              refine q_iconst (t := 102) F dX9_man_101 rfl ?_
              refine q_isub (t := 103) F dX9_man_102 rfl ?_
              refine q_iret F dX9_man_103 rfl ?_
              first
                | (refine ⟨_, rfl, ?_, _, _, rfl⟩
                   (repeat' split) <;> omega)
                | (exfalso; omega)
            · refine q_aload_n (t := 67) F dX9_man_66 rfl rfl rfl ?_
              refine g_X9_32 (t := 70) F dX9_man_67 rfl rfl ?_
              refine q_bipush (t := 72) F dX9_man_70 (by decide) rfl ?_
              refine q_aload_n (t := 73) F dX9_man_72 rfl rfl rfl ?_
              refine g_X9_88 (t := 76) F dX9_man_73 rfl rfl ?_
              try simp only [up_app, row_app, scr_app, cpy_app, Nat.reduceEqDiff, Int.reduceToNat, Int.toNat_natCast, and_true, true_and, and_false, false_and, and_self, reduceIte]
              refine q_imul (t := 77) F dX9_man_76 rfl ?_
              refine q_iload_n (t := 78) F dX9_man_77 rfl rfl rfl ?_
              refine q_iadd (t := 79) F dX9_man_78 rfl ?_
              refine q_iconst (t := 80) F dX9_man_79 rfl ?_
              first | refine stN_36 (t := 81) F dX9_man_80 (by omega) rfl ?_ | refine st_36 (t := 81) F dX9_man_80 (by omega) (by omega) rfl ?_
              refine q_iinc (t := 84) F dX9_man_81 rfl (by decide) rfl rfl ?_
              refine q_goto (t := 60) F dX9_man_84 (by decide) ?_
              rw [show (i : Int) + 1 = ((i + 1 : Nat) : Int) by omega]
              exact ih60 (i + 1) _ (by omega) (by omega) (by rw [up_app, if_neg (by omega)]; exact g12)
        exact L60 _ 0 _ (Nat.lt_succ_self _) (by omega) (by simp only [up_app]; first | exact f12 | (repeat rw [if_neg (by omega)]; exact f12))
      · exfalso; omega
    · refine q_bipush (t := 26) F dX9_man_24 (by decide) rfl ?_
      refine q_iret F dX9_man_26 rfl ?_
      first
        | (refine ⟨_, rfl, ?_, _, _, rfl⟩
           (repeat' split) <;> omega)
        | (exfalso; omega)

set_option maxHeartbeats 4000000 in
theorem c_X9_begins (l : Launch) (G : GS) (im : IM) (bt rt : Nat) (lm : IM) (hR : RI im) : Cn l (XR G) yX9_begins Y_X9_begins [vR 30 0] (im, rs bt rt, lm) (pV fun m' => ∃ im', RI im' ∧ im' 30 0 30 = 0 ∧ im' 30 0 31 = -1 ∧ im' 30 0 32 = -1 ∧ im' 30 0 33 = -1 ∧ (∀ s, ¬ (30 ≤ s ∧ s ≤ 33) → im' 30 0 s = im 30 0 s) ∧ m' = (im', rs bt rt, lm)) := by
  refine cn_of (by decide) (okR G) rfl (Nat.le_of_ble_eq_true rfl) ?_
  intro M ad hMl F
  subst hMl
  refine wp_pad 1 ?_
  show Wp M (XR G) ad Y_X9_begins (pV fun m' => ∃ im', RI im' ∧ im' 30 0 30 = 0 ∧ im' 30 0 31 = -1 ∧ im' 30 0 32 = -1 ∧ im' 30 0 33 = -1 ∧ (∀ s, ¬ (30 ≤ s ∧ s ≤ 33) → im' 30 0 s = im 30 0 s) ∧ m' = (im', rs bt rt, lm)) 0 [some (vR 30 0), none] [] (im, rs bt rt, lm)
  refine q_aload_n (t := 1) F dX9_begins_0 rfl rfl rfl ?_
  refine q_iconst (t := 2) F dX9_begins_1 rfl ?_
  refine p_X9_370 (t := 5) F dX9_begins_2 rfl rfl ?_
  refine q_aload_n (t := 6) F dX9_begins_5 rfl rfl rfl ?_
  refine q_iconst (t := 7) F dX9_begins_6 rfl ?_
  refine p_X9_373 (t := 10) F dX9_begins_7 rfl rfl ?_
  refine q_aload_n (t := 11) F dX9_begins_10 rfl rfl rfl ?_
  refine q_iconst (t := 12) F dX9_begins_11 rfl ?_
  refine p_X9_376 (t := 15) F dX9_begins_12 rfl rfl ?_
  refine q_aload_n (t := 16) F dX9_begins_15 rfl rfl rfl ?_
  refine q_iconst (t := 17) F dX9_begins_16 rfl ?_
  refine p_X9_379 (t := 20) F dX9_begins_17 rfl rfl ?_
  refine q_iconst (t := 21) F dX9_begins_20 rfl ?_
  refine q_istore_n (t := 22) F dX9_begins_21 rfl (by decide) rfl rfl ?_
  have L22 : ∀ (fz : Nat) (i : Nat) (im1 : IM), 50 - i < fz → i ≤ 50 → RI im1 → (im1 30 0 30 = 0 ∧ im1 30 0 31 = -1 ∧ im1 30 0 32 = -1 ∧ im1 30 0 33 = -1) → (∀ s, ¬ (30 ≤ s ∧ s ≤ 33) → im1 30 0 s = im 30 0 s) → Wp M (XR G) ad Y_X9_begins (pV fun m' => ∃ im', RI im' ∧ im' 30 0 30 = 0 ∧ im' 30 0 31 = -1 ∧ im' 30 0 32 = -1 ∧ im' 30 0 33 = -1 ∧ (∀ s, ¬ (30 ≤ s ∧ s ≤ 33) → im' 30 0 s = im 30 0 s) ∧ m' = (im', rs bt rt, lm)) 22 [some (vR 30 0), some (vI (i : Int))] [] (im1, rs bt rt, lm) := by
    intro fz
    induction fz with
    | zero => intro i im1 h; exact absurd h (Nat.not_lt_zero _)
    | succ fz ih =>
      have ih22 := ih
      intro i im1 hmeas hi hR1 hk hs
      refine q_iload_n (t := 23) F dX9_begins_22 rfl rfl rfl ?_
      refine q_bipush (t := 25) F dX9_begins_23 (by decide) rfl ?_
      refine q_icmp_ge (t := 28) (u := 48) F dX9_begins_25 (by constructor <;> omega) (by constructor <;> omega) (by decide) rfl (fun c25 => ?_) (fun c25 => ?_)
      · refine q_vret F dX9_begins_48 rfl ?_
        exact ⟨rfl, im1, hR1, hk.1, hk.2.1, hk.2.2.1, hk.2.2.2, hs, rfl⟩
      · refine q_aload_n (t := 29) F dX9_begins_28 rfl rfl rfl ?_
        refine g_X9_38 (t := 32) F dX9_begins_29 rfl rfl ?_
        refine q_iload_n (t := 33) F dX9_begins_32 rfl rfl rfl ?_
        refine q_iconst (t := 34) F dX9_begins_33 rfl ?_
        first | refine stN_38 (t := 35) F dX9_begins_34 (by omega) rfl ?_ | refine st_38 (t := 35) F dX9_begins_34 (by omega) (by omega) rfl ?_
        refine q_aload_n (t := 36) F dX9_begins_35 rfl rfl rfl ?_
        refine g_X9_41 (t := 39) F dX9_begins_36 rfl rfl ?_
        refine q_iload_n (t := 40) F dX9_begins_39 rfl rfl rfl ?_
        refine q_iconst (t := 41) F dX9_begins_40 rfl ?_
        first | refine stN_39 (t := 42) F dX9_begins_41 (by omega) rfl ?_ | refine st_39 (t := 42) F dX9_begins_41 (by omega) (by omega) rfl ?_
        refine q_iinc (t := 45) F dX9_begins_42 rfl (by decide) rfl rfl ?_
        refine q_goto (t := 22) F dX9_begins_45 (by decide) ?_
        rw [show (i : Int) + 1 = ((i + 1 : Nat) : Int) by omega]
        exact ih22 (i + 1) _ (by omega) (by omega) (RI_up (RI_up hR1 (by constructor <;> omega)) (by constructor <;> omega)) hk (fun s h => hs s h)
  refine L22 _ 0 _ (Nat.lt_succ_self _) (by omega) ?_ ⟨?_, ?_, ?_, ?_⟩ (fun s h => ?_)
  · repeat (first | exact hR | refine RI_up ?_ (by constructor <;> omega))
  · simp only [up_app]; repeat (first | rfl | rw [if_neg (by omega)] | rw [if_pos (by omega)])
  · simp only [up_app]; repeat (first | rfl | rw [if_neg (by omega)] | rw [if_pos (by omega)])
  · simp only [up_app]; repeat (first | rfl | rw [if_neg (by omega)] | rw [if_pos (by omega)])
  · simp only [up_app]; repeat (first | rfl | rw [if_neg (by omega)] | rw [if_pos (by omega)])
  · simp only [up_app]; repeat rw [if_neg (by omega)]

set_option maxHeartbeats 4000000 in
theorem f_X9_lives (l : Launch) (G : GS) (im : IM) (bt rt : Nat) (lm : IM) (f12 : im 30 0 12 = 0) (t : Int) : Cn l (XR G) yX9_lives Y_X9_lives [vR 30 0, vI t] (im, rs bt rt, lm) (pV fun m' => m' = (up im 30 0 7 (im 30 0 7 + 1), rs bt rt, lm)) := by
  refine cn_of (by decide) (okR G) rfl (Nat.le_of_ble_eq_true rfl) ?_
  intro M ad hMl F
  subst hMl
  refine wp_pad 1 ?_
  show Wp M (XR G) ad Y_X9_lives (pV fun m' => m' = (up im 30 0 7 (im 30 0 7 + 1), rs bt rt, lm)) 0 [some (vR 30 0), some (vI t), none] [] (im, rs bt rt, lm)
  refine q_iconst (t := 1) F dX9_lives_0 rfl ?_
  refine q_istore_n (t := 2) F dX9_lives_1 rfl (by decide) rfl rfl ?_
  refine q_iload_n (t := 3) F dX9_lives_2 rfl rfl rfl ?_
  refine q_bipush (t := 5) F dX9_lives_3 (by decide) rfl ?_
  refine q_aload_n (t := 6) F dX9_lives_5 rfl rfl rfl ?_
  refine g_X9_88 (t := 9) F dX9_lives_6 rfl rfl ?_
  refine q_imul (t := 10) F dX9_lives_9 rfl ?_
  refine q_icmp_ge (t := 13) (u := 134) F dX9_lives_10 (by constructor <;> omega) (by rw [f12]; constructor <;> omega) (by decide) rfl (fun c10 => ?_) (fun c10 => ?_)
  · refine q_aload_n (t := 135) F dX9_lives_134 rfl rfl rfl ?_
    refine q_dupR (t := 136) F dX9_lives_135 rfl ?_
    refine g_X9_117 (t := 139) F dX9_lives_136 rfl rfl ?_
    refine q_iconst (t := 140) F dX9_lives_139 rfl ?_
    refine q_iadd (t := 141) F dX9_lives_140 rfl ?_
    refine p_X9_117 (t := 144) F dX9_lives_141 rfl rfl ?_
    refine q_vret F dX9_lives_144 rfl ?_
    exact ⟨rfl, rfl⟩
  · exfalso; omega

set_option maxHeartbeats 4000000 in
theorem f_X9_live (l : Launch) (G : GS) (im : IM) (bt rt : Nat) (lm : IM) (hF : FR im) : Cn l (XR G) yX9_live Y_X9_live [vR 30 0] (im, rs bt rt, lm) (pI fun x m' => x = (0) ∧ ∃ im' lm', m' = (im', rs bt rt, lm')) := by
  refine cn_of (by decide) (okR G) rfl (Nat.le_of_ble_eq_true rfl) ?_
  intro M ad hMl F
  subst hMl
  obtain ⟨hR, f3, f4, f6, f7, f8, f9, f12, f46, f47⟩ := hF
  refine wp_pad 0 ?_
  show Wp M (XR G) ad Y_X9_live (pI fun x m' => x = (0) ∧ ∃ im' lm', m' = (im', rs bt rt, lm')) 0 [some (vR 30 0)] [] (im, rs bt rt, lm)
  refine q_aload_n (t := 1) F dX9_live_0 rfl rfl rfl ?_
  refine g_X9_117 (t := 4) F dX9_live_1 rfl rfl ?_
  refine q_sipush (t := 7) F dX9_live_4 (by decide) rfl ?_
  refine q_icmp_ne (t := 10) (u := 13) F dX9_live_7 (by first | exact hR _ _ _ | (constructor <;> omega)) (by first | exact hR _ _ _ | (constructor <;> omega)) (by decide) rfl (fun c7 => ?_) (fun c7 => ?_)
  · refine q_aload_n (t := 14) F dX9_live_13 rfl rfl rfl ?_
    refine wp_callV (t := 17) [] F dX9_live_14 k_X9_begins v_X9_begins ml_X9_388 rfl rfl rfl rfl (Nat.le_of_ble_eq_true rfl) (by decide) (m_30 (by omega)) (c_X9_begins _ G im bt rt lm hR) rfl (kV ?_)
    rintro m' ⟨im1, hR1, g30, g31, g32, g33, gs, rfl⟩
    have g12 : im1 30 0 12 = 0 := (gs 12 (by omega)).trans f12
    refine q_aload_n (t := 18) F dX9_live_17 rfl rfl rfl ?_
    refine q_iconst (t := 19) F dX9_live_18 rfl ?_
    refine wp_callV (t := 22) [_] F dX9_live_19 k_X9_lives v_X9_lives ml_X9_391 rfl rfl rfl rfl (Nat.le_of_ble_eq_true rfl) (by decide) (m_30 (by omega)) (f_X9_lives _ G im1 bt rt lm g12 0) rfl (kV ?_)
    rintro m' rfl
    refine q_aload_n (t := 23) F dX9_live_22 rfl rfl rfl ?_
    refine g_X9_370 (t := 26) F dX9_live_23 rfl rfl ?_
    try simp only [up_app, row_app, scr_app, cpy_app, Nat.reduceEqDiff, Int.reduceToNat, Int.toNat_natCast, and_true, true_and, and_false, false_and, and_self, reduceIte]
    refine q_iret F dX9_live_26 rfl ?_
    first
      | (exfalso; omega)
      | exact ⟨_, rfl, g30, _, _, rfl⟩
  · exfalso; omega

set_option maxHeartbeats 4000000 in
theorem c_X9_laysAside (l : Launch) (G : GS) (im : IM) (bt rt : Nat) (lm : IM) (hR : RI im) : Cn l (XR G) yX9_laysAside Y_X9_laysAside [vR 30 0] (im, rs bt rt, lm) (pV fun m' => ∃ im', RI im' ∧ im' 30 0 30 = 0 ∧ im' 30 0 31 = -1 ∧ im' 30 0 32 = -1 ∧ im' 30 0 33 = -1 ∧ im' 30 0 38 = im 30 0 7 ∧ im' 30 0 39 = im 30 0 9 ∧ (∀ s, ¬ (30 ≤ s ∧ s ≤ 33) → s ≠ 38 → s ≠ 39 → im' 30 0 s = im 30 0 s) ∧ m' = (im', rs bt rt, lm)) := by
  refine cn_of (by decide) (okR G) rfl (Nat.le_of_ble_eq_true rfl) ?_
  intro M ad hMl F
  subst hMl
  refine wp_pad 1 ?_
  show Wp M (XR G) ad Y_X9_laysAside (pV fun m' => ∃ im', RI im' ∧ im' 30 0 30 = 0 ∧ im' 30 0 31 = -1 ∧ im' 30 0 32 = -1 ∧ im' 30 0 33 = -1 ∧ im' 30 0 38 = im 30 0 7 ∧ im' 30 0 39 = im 30 0 9 ∧ (∀ s, ¬ (30 ≤ s ∧ s ≤ 33) → s ≠ 38 → s ≠ 39 → im' 30 0 s = im 30 0 s) ∧ m' = (im', rs bt rt, lm)) 0 [some (vR 30 0), none] [] (im, rs bt rt, lm)
  refine q_iconst (t := 1) F dX9_laysAside_0 rfl ?_
  refine q_istore_n (t := 2) F dX9_laysAside_1 rfl (by decide) rfl rfl ?_
  have L2 : ∀ (fz : Nat) (i : Nat) (im1 : IM), 50 - i < fz → i ≤ 50 → RI im1 → (∀ s, im1 30 0 s = im 30 0 s) → Wp M (XR G) ad Y_X9_laysAside (pV fun m' => ∃ im', RI im' ∧ im' 30 0 30 = 0 ∧ im' 30 0 31 = -1 ∧ im' 30 0 32 = -1 ∧ im' 30 0 33 = -1 ∧ im' 30 0 38 = im 30 0 7 ∧ im' 30 0 39 = im 30 0 9 ∧ (∀ s, ¬ (30 ≤ s ∧ s ≤ 33) → s ≠ 38 → s ≠ 39 → im' 30 0 s = im 30 0 s) ∧ m' = (im', rs bt rt, lm)) 2 [some (vR 30 0), some (vI (i : Int))] [] (im1, rs bt rt, lm) := by
    intro fz
    induction fz with
    | zero => intro i im1 h; exact absurd h (Nat.not_lt_zero _)
    | succ fz ih =>
      have ih2 := ih
      intro i im1 hmeas hi hR1 hs
      refine q_iload_n (t := 3) F dX9_laysAside_2 rfl rfl rfl ?_
      refine q_bipush (t := 5) F dX9_laysAside_3 (by decide) rfl ?_
      refine q_icmp_ge (t := 8) (u := 38) F dX9_laysAside_5 (by constructor <;> omega) (by constructor <;> omega) (by decide) rfl (fun c5 => ?_) (fun c5 => ?_)
      · refine q_aload_n (t := 39) F dX9_laysAside_38 rfl rfl rfl ?_
        refine q_aload_n (t := 40) F dX9_laysAside_39 rfl rfl rfl ?_
        refine g_X9_117 (t := 43) F dX9_laysAside_40 rfl rfl ?_
        refine p_X9_395 (t := 46) F dX9_laysAside_43 rfl rfl ?_
        refine q_aload_n (t := 47) F dX9_laysAside_46 rfl rfl rfl ?_
        refine q_aload_n (t := 48) F dX9_laysAside_47 rfl rfl rfl ?_
        refine g_X9_385 (t := 51) F dX9_laysAside_48 rfl rfl ?_
        try simp only [up_app, row_app, scr_app, cpy_app, Nat.reduceEqDiff, Int.reduceToNat, Int.toNat_natCast, and_true, true_and, and_false, false_and, and_self, reduceIte]
        refine p_X9_398 (t := 54) F dX9_laysAside_51 rfl rfl ?_
        refine q_aload_n (t := 55) F dX9_laysAside_54 rfl rfl rfl ?_
        refine wp_callV (t := 58) [] F dX9_laysAside_55 k_X9_begins v_X9_begins ml_X9_388 rfl rfl rfl rfl (Nat.le_of_ble_eq_true rfl) (by decide) (m_30 (by omega)) (c_X9_begins _ G _ bt rt lm (RI_up (RI_up hR1 (hR1 _ _ _)) (hR1 _ _ _))) rfl (kV ?_)
        rintro m' ⟨im2, hR2, g30, g31, g32, g33, gs, rfl⟩
        refine q_vret F dX9_laysAside_58 rfl ?_
        refine ⟨rfl, im2, hR2, g30, g31, g32, g33, ?_, ?_, (fun s q1 q2 q3 => ?_), rfl⟩
        · rw [gs 38 (by omega), up_app, if_neg (by omega), up_app, if_pos ⟨rfl, rfl, rfl⟩]; exact hs 7
        · rw [gs 39 (by omega), up_app, if_pos ⟨rfl, rfl, rfl⟩]; exact hs 9
        · rw [gs s q1, up_app, if_neg (by omega), up_app, if_neg (by omega)]; exact hs s
      · refine q_aload_n (t := 9) F dX9_laysAside_8 rfl rfl rfl ?_
        refine g_X9_44 (t := 12) F dX9_laysAside_9 rfl rfl ?_
        refine q_iload_n (t := 13) F dX9_laysAside_12 rfl rfl rfl ?_
        refine q_aload_n (t := 14) F dX9_laysAside_13 rfl rfl rfl ?_
        refine g_X9_32 (t := 17) F dX9_laysAside_14 rfl rfl ?_
        refine q_iload_n (t := 18) F dX9_laysAside_17 rfl rfl rfl ?_
        first | refine ldN_36 (t := 19) F dX9_laysAside_18 (by omega) rfl ?_ | refine ld_36 (t := 19) F dX9_laysAside_18 (by omega) (by omega) rfl ?_
        first | refine stN_40 (t := 20) F dX9_laysAside_19 (by omega) rfl ?_ | refine st_40 (t := 20) F dX9_laysAside_19 (by omega) (by omega) rfl ?_
        refine q_aload_n (t := 21) F dX9_laysAside_20 rfl rfl rfl ?_
        refine g_X9_47 (t := 24) F dX9_laysAside_21 rfl rfl ?_
        refine q_iload_n (t := 25) F dX9_laysAside_24 rfl rfl rfl ?_
        refine q_aload_n (t := 26) F dX9_laysAside_25 rfl rfl rfl ?_
        refine g_X9_35 (t := 29) F dX9_laysAside_26 rfl rfl ?_
        refine q_iload_n (t := 30) F dX9_laysAside_29 rfl rfl rfl ?_
        first | refine ldN_37 (t := 31) F dX9_laysAside_30 (by omega) rfl ?_ | refine ld_37 (t := 31) F dX9_laysAside_30 (by omega) (by omega) rfl ?_
        try simp only [up_app, row_app, scr_app, cpy_app, Nat.reduceEqDiff, Int.reduceToNat, Int.toNat_natCast, and_true, true_and, and_false, false_and, and_self, reduceIte]
        first | refine stN_41 (t := 32) F dX9_laysAside_31 (by omega) rfl ?_ | refine st_41 (t := 32) F dX9_laysAside_31 (by omega) (by omega) rfl ?_
        refine q_iinc (t := 35) F dX9_laysAside_32 rfl (by decide) rfl rfl ?_
        refine q_goto (t := 2) F dX9_laysAside_35 (by decide) ?_
        rw [show (i : Int) + 1 = ((i + 1 : Nat) : Int) by omega]
        exact ih2 (i + 1) _ (by omega) (by omega) (RI_up (RI_up hR1 (by first | exact hR1 _ _ _ | (rw [up_app]; split <;> exact hR1 _ _ _))) (by first | exact hR1 _ _ _ | (rw [up_app]; split <;> exact hR1 _ _ _))) (fun s => hs s)
  exact L2 _ 0 _ (Nat.lt_succ_self _) (by omega) hR (fun s => rfl)

set_option maxHeartbeats 4000000 in
theorem f_X9_laysBack (l : Launch) (G : GS) (im : IM) (bt rt : Nat) (lm : IM) (hR : RI im) (h9 : im 30 0 9 = 0) (h39 : im 30 0 39 = 0) : Cn l (XR G) yX9_laysBack Y_X9_laysBack [vR 30 0] (im, rs bt rt, lm) (pV fun m' => ∃ im', RI im' ∧ im' 30 0 40 = 0 ∧ im' 30 0 7 = im 30 0 38 ∧ im' 30 0 9 = im 30 0 39 ∧ (∀ s, s ≠ 40 → s ≠ 7 → s ≠ 9 → im' 30 0 s = im 30 0 s) ∧ m' = (im', rs bt rt, lm)) := by
  refine cn_of (by decide) (okR G) rfl (Nat.le_of_ble_eq_true rfl) ?_
  intro M ad hMl F
  subst hMl
  refine wp_pad 1 ?_
  show Wp M (XR G) ad Y_X9_laysBack (pV fun m' => ∃ im', RI im' ∧ im' 30 0 40 = 0 ∧ im' 30 0 7 = im 30 0 38 ∧ im' 30 0 9 = im 30 0 39 ∧ (∀ s, s ≠ 40 → s ≠ 7 → s ≠ 9 → im' 30 0 s = im 30 0 s) ∧ m' = (im', rs bt rt, lm)) 0 [some (vR 30 0), none] [] (im, rs bt rt, lm)
  refine q_iconst (t := 1) F dX9_laysBack_0 rfl ?_
  refine q_istore_n (t := 2) F dX9_laysBack_1 rfl (by decide) rfl rfl ?_
  have L2 : ∀ (fz : Nat) (i : Nat) (im1 : IM), 50 - i < fz → i ≤ 50 → RI im1 → (∀ s, im1 30 0 s = im 30 0 s) → Wp M (XR G) ad Y_X9_laysBack (pV fun m' => ∃ im', RI im' ∧ im' 30 0 40 = 0 ∧ im' 30 0 7 = im 30 0 38 ∧ im' 30 0 9 = im 30 0 39 ∧ (∀ s, s ≠ 40 → s ≠ 7 → s ≠ 9 → im' 30 0 s = im 30 0 s) ∧ m' = (im', rs bt rt, lm)) 2 [some (vR 30 0), some (vI (i : Int))] [] (im1, rs bt rt, lm) := by
    intro fz
    induction fz with
    | zero => intro i im1 h; exact absurd h (Nat.not_lt_zero _)
    | succ fz ih =>
      have ih2 := ih
      intro i im1 hmeas hi hR1 hs
      refine q_iload_n (t := 3) F dX9_laysBack_2 rfl rfl rfl ?_
      refine q_bipush (t := 5) F dX9_laysBack_3 (by decide) rfl ?_
      refine q_icmp_ge (t := 8) (u := 38) F dX9_laysBack_5 (by constructor <;> omega) (by constructor <;> omega) (by decide) rfl (fun c5 => ?_) (fun c5 => ?_)
      · refine q_aload_n (t := 39) F dX9_laysBack_38 rfl rfl rfl ?_
        refine q_aload_n (t := 40) F dX9_laysBack_39 rfl rfl rfl ?_
        refine g_X9_385 (t := 43) F dX9_laysBack_40 rfl rfl ?_
        refine q_aload_n (t := 44) F dX9_laysBack_43 rfl rfl rfl ?_
        refine g_X9_398 (t := 47) F dX9_laysBack_44 rfl rfl ?_
        refine q_isub (t := 48) F dX9_laysBack_47 rfl ?_
        refine p_X9_401 (t := 51) F dX9_laysBack_48 rfl rfl ?_
        refine q_aload_n (t := 52) F dX9_laysBack_51 rfl rfl rfl ?_
        refine q_aload_n (t := 53) F dX9_laysBack_52 rfl rfl rfl ?_
        refine g_X9_395 (t := 56) F dX9_laysBack_53 rfl rfl ?_
        try simp only [up_app, row_app, scr_app, cpy_app, Nat.reduceEqDiff, Int.reduceToNat, Int.toNat_natCast, and_true, true_and, and_false, false_and, and_self, reduceIte]
        refine p_X9_117 (t := 59) F dX9_laysBack_56 rfl rfl ?_
        refine q_aload_n (t := 60) F dX9_laysBack_59 rfl rfl rfl ?_
        refine q_aload_n (t := 61) F dX9_laysBack_60 rfl rfl rfl ?_
        refine g_X9_398 (t := 64) F dX9_laysBack_61 rfl rfl ?_
        try simp only [up_app, row_app, scr_app, cpy_app, Nat.reduceEqDiff, Int.reduceToNat, Int.toNat_natCast, and_true, true_and, and_false, false_and, and_self, reduceIte]
        refine p_X9_385 (t := 67) F dX9_laysBack_64 rfl rfl ?_
        refine q_vret F dX9_laysBack_67 rfl ?_
        have e9 : im1 30 0 9 = 0 := (hs 9).trans h9
        have e39 : im1 30 0 39 = 0 := (hs 39).trans h39
        have e38 := hs 38
        refine ⟨rfl, _, RI_up (RI_up (RI_up hR1 (by rw [e9, e39]; constructor <;> omega)) (hR1 _ _ _)) (hR1 _ _ _), ?_, ?_, ?_, (fun s q1 q2 q3 => ?_), rfl⟩
        · rw [up_app, if_neg (by omega), up_app, if_neg (by omega), up_app, if_pos ⟨rfl, rfl, rfl⟩, e9, e39]; rfl
        · rw [up_app, if_neg (by omega), up_app, if_pos ⟨rfl, rfl, rfl⟩]; exact e38
        · rw [up_app, if_pos ⟨rfl, rfl, rfl⟩]; exact hs 39
        · rw [up_app, if_neg (by omega), up_app, if_neg (by omega), up_app, if_neg (by omega)]; exact hs s
      · refine q_aload_n (t := 9) F dX9_laysBack_8 rfl rfl rfl ?_
        refine g_X9_32 (t := 12) F dX9_laysBack_9 rfl rfl ?_
        refine q_iload_n (t := 13) F dX9_laysBack_12 rfl rfl rfl ?_
        refine q_aload_n (t := 14) F dX9_laysBack_13 rfl rfl rfl ?_
        refine g_X9_44 (t := 17) F dX9_laysBack_14 rfl rfl ?_
        refine q_iload_n (t := 18) F dX9_laysBack_17 rfl rfl rfl ?_
        first | refine ldN_40 (t := 19) F dX9_laysBack_18 (by omega) rfl ?_ | refine ld_40 (t := 19) F dX9_laysBack_18 (by omega) (by omega) rfl ?_
        first | refine stN_36 (t := 20) F dX9_laysBack_19 (by omega) rfl ?_ | refine st_36 (t := 20) F dX9_laysBack_19 (by omega) (by omega) rfl ?_
        refine q_aload_n (t := 21) F dX9_laysBack_20 rfl rfl rfl ?_
        refine g_X9_35 (t := 24) F dX9_laysBack_21 rfl rfl ?_
        refine q_iload_n (t := 25) F dX9_laysBack_24 rfl rfl rfl ?_
        refine q_aload_n (t := 26) F dX9_laysBack_25 rfl rfl rfl ?_
        refine g_X9_47 (t := 29) F dX9_laysBack_26 rfl rfl ?_
        refine q_iload_n (t := 30) F dX9_laysBack_29 rfl rfl rfl ?_
        first | refine ldN_41 (t := 31) F dX9_laysBack_30 (by omega) rfl ?_ | refine ld_41 (t := 31) F dX9_laysBack_30 (by omega) (by omega) rfl ?_
        try simp only [up_app, row_app, scr_app, cpy_app, Nat.reduceEqDiff, Int.reduceToNat, Int.toNat_natCast, and_true, true_and, and_false, false_and, and_self, reduceIte]
        first | refine stN_37 (t := 32) F dX9_laysBack_31 (by omega) rfl ?_ | refine st_37 (t := 32) F dX9_laysBack_31 (by omega) (by omega) rfl ?_
        refine q_iinc (t := 35) F dX9_laysBack_32 rfl (by decide) rfl rfl ?_
        refine q_goto (t := 2) F dX9_laysBack_35 (by decide) ?_
        rw [show (i : Int) + 1 = ((i + 1 : Nat) : Int) by omega]
        exact ih2 (i + 1) _ (by omega) (by omega) (RI_up (RI_up hR1 (by first | exact hR1 _ _ _ | (rw [up_app]; split <;> exact hR1 _ _ _))) (by first | exact hR1 _ _ _ | (rw [up_app]; split <;> exact hR1 _ _ _))) (fun s => hs s)
  exact L2 _ 0 _ (Nat.lt_succ_self _) (by omega) hR (fun s => rfl)

set_option maxHeartbeats 4000000 in
theorem f_X9_runs (l : Launch) (G : GS) (im : IM) (bt rt : Nat) (lm : IM) (hR : RI im) (f7 : im 30 0 7 = 0) (f9 : im 30 0 9 = 0) (f12 : im 30 0 12 = 0) (n : Int) (n0 : 0 ≤ n) (n6 : n ≤ 60) : Cn l (XR G) yX9_runs Y_X9_runs [vR 30 0, vI n] (im, rs bt rt, lm) (pV fun m' => ∃ im', RI im' ∧ im' 30 0 40 = 0 ∧ im' 30 0 30 = 0 ∧ im' 30 0 31 = -1 ∧ im' 30 0 32 = -1 ∧ im' 30 0 33 = -1 ∧ (∀ s, ¬ (30 ≤ s ∧ s ≤ 33) → ¬ (38 ≤ s ∧ s ≤ 40) → im' 30 0 s = im 30 0 s) ∧ m' = (im', rs bt rt, lm)) := by
  refine cn_of (by decide) (okR G) rfl (Nat.le_of_ble_eq_true rfl) ?_
  intro M ad hMl F
  subst hMl
  refine wp_pad 1 ?_
  show Wp M (XR G) ad Y_X9_runs (pV fun m' => ∃ im', RI im' ∧ im' 30 0 40 = 0 ∧ im' 30 0 30 = 0 ∧ im' 30 0 31 = -1 ∧ im' 30 0 32 = -1 ∧ im' 30 0 33 = -1 ∧ (∀ s, ¬ (30 ≤ s ∧ s ≤ 33) → ¬ (38 ≤ s ∧ s ≤ 40) → im' 30 0 s = im 30 0 s) ∧ m' = (im', rs bt rt, lm)) 0 [some (vR 30 0), some (vI n), none] [] (im, rs bt rt, lm)
  refine q_aload_n (t := 1) F dX9_runs_0 rfl rfl rfl ?_
  refine wp_callV (t := 4) [] F dX9_runs_1 k_X9_laysAside v_X9_laysAside ml_X9_404 rfl rfl rfl rfl (Nat.le_of_ble_eq_true rfl) (by decide) (m_30 (by omega)) (c_X9_laysAside _ G im bt rt lm hR) rfl (kV ?_)
  rintro m' ⟨im0, hR0, g30, g31, g32, g33, g38, g39, gs, rfl⟩
  refine q_iconst (t := 5) F dX9_runs_4 rfl ?_
  refine q_istore_n (t := 6) F dX9_runs_5 rfl (by decide) rfl rfl ?_
  have L6 : ∀ (fz : Nat) (i : Nat) (im1 : IM), 60 - i < fz → (i : Int) ≤ n → RI im1 → (im1 30 0 30 = 0 ∧ im1 30 0 31 = -1 ∧ im1 30 0 32 = -1 ∧ im1 30 0 33 = -1 ∧ im1 30 0 38 = 0 ∧ im1 30 0 39 = 0 ∧ im1 30 0 7 = i) → (∀ s, ¬ (30 ≤ s ∧ s ≤ 33) → ¬ (38 ≤ s ∧ s ≤ 40) → s ≠ 7 → im1 30 0 s = im 30 0 s) → Wp M (XR G) ad Y_X9_runs (pV fun m' => ∃ im', RI im' ∧ im' 30 0 40 = 0 ∧ im' 30 0 30 = 0 ∧ im' 30 0 31 = -1 ∧ im' 30 0 32 = -1 ∧ im' 30 0 33 = -1 ∧ (∀ s, ¬ (30 ≤ s ∧ s ≤ 33) → ¬ (38 ≤ s ∧ s ≤ 40) → im' 30 0 s = im 30 0 s) ∧ m' = (im', rs bt rt, lm)) 6 [some (vR 30 0), some (vI n), some (vI (i : Int))] [] (im1, rs bt rt, lm) := by
    intro fz
    induction fz with
    | zero => intro i im1 h; exact absurd h (Nat.not_lt_zero _)
    | succ fz ih =>
      have ih6 := ih
      intro i im1 hmeas hi hR1 hk hs
      have g12 : im1 30 0 12 = 0 := (hs 12 (by omega) (by omega) (by omega)).trans f12
      refine q_iload_n (t := 7) F dX9_runs_6 rfl rfl rfl ?_
      refine q_iload_n (t := 8) F dX9_runs_7 rfl rfl rfl ?_
      refine q_icmp_ge (t := 11) (u := 22) F dX9_runs_8 (by constructor <;> omega) (by constructor <;> omega) (by decide) rfl (fun c8 => ?_) (fun c8 => ?_)
      · refine q_aload_n (t := 23) F dX9_runs_22 rfl rfl rfl ?_
        refine wp_callV (t := 26) [] F dX9_runs_23 k_X9_laysBack v_X9_laysBack ml_X9_407 rfl rfl rfl rfl (Nat.le_of_ble_eq_true rfl) (by decide) (m_30 (by omega)) (f_X9_laysBack _ G im1 bt rt lm hR1 ((hs 9 (by omega) (by omega) (by omega)).trans f9) hk.2.2.2.2.2.1) rfl (kV ?_)
        rintro m' ⟨im2, hR2, b40, b7, b9, bs, rfl⟩
        refine q_vret F dX9_runs_26 rfl ?_
        obtain ⟨k1, k2, k3, k4, k5, k6, k7⟩ := hk
        refine ⟨rfl, im2, hR2, b40, (bs 30 (by omega) (by omega) (by omega)).trans k1, (bs 31 (by omega) (by omega) (by omega)).trans k2, (bs 32 (by omega) (by omega) (by omega)).trans k3, (bs 33 (by omega) (by omega) (by omega)).trans k4, (fun s q1 q2 => ?_), rfl⟩
        by_cases h7 : s = 7
        · subst h7; rw [b7, k5, f7]
        · by_cases h9 : s = 9
          · subst h9; rw [b9, k6, f9]
          · rw [bs s (by omega) h7 h9]; exact hs s q1 q2 h7
      · refine q_aload_n (t := 12) F dX9_runs_11 rfl rfl rfl ?_
        refine q_iload_n (t := 13) F dX9_runs_12 rfl rfl rfl ?_
        refine wp_callV (t := 16) [_] F dX9_runs_13 k_X9_lives v_X9_lives ml_X9_391 rfl rfl rfl rfl (Nat.le_of_ble_eq_true rfl) (by decide) (m_30 (by omega)) (f_X9_lives _ G im1 bt rt lm g12 _) rfl (kV ?_)
        rintro m' rfl
        refine q_iinc (t := 19) F dX9_runs_16 rfl (by decide) rfl rfl ?_
        refine q_goto (t := 6) F dX9_runs_19 (by decide) ?_
        rw [show (i : Int) + 1 = ((i + 1 : Nat) : Int) by omega]
        obtain ⟨k1, k2, k3, k4, k5, k6, k7⟩ := hk
        exact ih6 (i + 1) _ (by omega) (by omega) (RI_up hR1 (by rw [k7]; constructor <;> omega)) ⟨k1, k2, k3, k4, k5, k6, by rw [up_app, if_pos ⟨rfl, rfl, rfl⟩, k7]; omega⟩ (fun s q1 q2 q3 => by rw [up_app, if_neg (by omega)]; exact hs s q1 q2 q3)
  exact L6 _ 0 im0 (Nat.lt_succ_self _) (by omega) hR0 ⟨g30, g31, g32, g33, g38.trans f7, g39.trans f9, (gs 7 (by omega) (by omega) (by omega)).trans f7⟩ (fun s q1 q2 q3 => gs s q1 (by omega) (by omega))

set_option maxHeartbeats 4000000 in
theorem f_X9_run (l : Launch) (G : GS) (im : IM) (bt rt : Nat) (lm : IM) (hF : FR im) (n : Int) (what : Int) (hn : ri n) (hwhat : ri what) : Cn l (XR G) yX9_run Y_X9_run [vR 30 0, vI n, vI what] (im, rs bt rt, lm) (pI fun x m' => x = (if (0 ≤ n ∧ n ≤ 60) ∧ 0 ≤ what ∧ what ≤ 4 then (if what < 2 then 0 else -1) else -2) ∧ ∃ im' lm', m' = (im', rs bt rt, lm')) := by
  refine cn_of (by decide) (okR G) rfl (Nat.le_of_ble_eq_true rfl) ?_
  intro M ad hMl F
  subst hMl
  obtain ⟨hR, f3, f4, f6, f7, f8, f9, f12, f46, f47⟩ := hF
  have hn1 := hn.1
  have hn2 := hn.2
  have hwhat1 := hwhat.1
  have hwhat2 := hwhat.2
  refine wp_pad 0 ?_
  show Wp M (XR G) ad Y_X9_run (pI fun x m' => x = (if (0 ≤ n ∧ n ≤ 60) ∧ 0 ≤ what ∧ what ≤ 4 then (if what < 2 then 0 else -1) else -2) ∧ ∃ im' lm', m' = (im', rs bt rt, lm')) 0 [some (vR 30 0), some (vI n), some (vI what)] [] (im, rs bt rt, lm)
  refine q_iload_n (t := 1) F dX9_run_0 rfl rfl rfl ?_
  refine q_i2l (t := 2) F dX9_run_1 (by first | exact hR _ _ _ | (constructor <;> omega)) rfl ?_
  refine q_lconst (t := 3) (x := 0) F dX9_run_2 (by decide) rfl ?_
  refine q_ldc2 (t := 6) (x := 60) F dX9_run_3 kl_X9_242 (by decide) rfl ?_
  refine wp_callS (t := 9) [_, _, _] F dX9_run_6 k_X9_in st_X9_in ml_X9_91 rfl rfl (Nat.le_of_ble_eq_true rfl) (by decide) (c_X9_in _ G _ _ _ _ _ _ _ (by constructor <;> omega) (by constructor <;> omega) (by constructor <;> omega)) rfl (kI ?_)
  rintro x6 m' ⟨hx6, rfl⟩
  have hx6 := if01 hx6
  refine q_if_eq (t := 12) (u := 24) F dX9_run_9 (by first | exact hR _ _ _ | (constructor <;> omega)) (by decide) rfl (fun c9 => ?_) (fun c9 => ?_)
  · refine q_bipush (t := 26) F dX9_run_24 (by decide) rfl ?_
    refine q_iret F dX9_run_26 rfl ?_
    first
      | (refine ⟨_, rfl, ?_, _, _, rfl⟩
         (repeat' split) <;> omega)
      | (exfalso; omega)
  · refine q_iload_n (t := 13) F dX9_run_12 rfl rfl rfl ?_
    refine q_i2l (t := 14) F dX9_run_13 (by first | exact hR _ _ _ | (constructor <;> omega)) rfl ?_
    refine q_lconst (t := 15) (x := 0) F dX9_run_14 (by decide) rfl ?_
    refine q_ldc2 (t := 18) (x := 4) F dX9_run_15 kl_X9_125 (by decide) rfl ?_
    refine wp_callS (t := 21) [_, _, _] F dX9_run_18 k_X9_in st_X9_in ml_X9_91 rfl rfl (Nat.le_of_ble_eq_true rfl) (by decide) (c_X9_in _ G _ _ _ _ _ _ _ (by constructor <;> omega) (by constructor <;> omega) (by constructor <;> omega)) rfl (kI ?_)
    rintro x18 m' ⟨hx18, rfl⟩
    have hx18 := if01 hx18
    refine q_if_ne (t := 24) (u := 27) F dX9_run_21 (by first | exact hR _ _ _ | (constructor <;> omega)) (by decide) rfl (fun c21 => ?_) (fun c21 => ?_)
    · refine q_aload_n (t := 28) F dX9_run_27 rfl rfl rfl ?_
      refine q_iload_n (t := 29) F dX9_run_28 rfl rfl rfl ?_
      refine wp_callV (t := 32) [_] F dX9_run_29 k_X9_runs v_X9_runs ml_X9_410 rfl rfl rfl rfl (Nat.le_of_ble_eq_true rfl) (by decide) (m_30 (by omega)) (f_X9_runs _ G im bt rt lm hR f7 f9 f12 n (by omega) (by omega)) rfl (kV ?_)
      rintro m' ⟨im1, hR1, g40, g30, g31, g32, g33, gs, rfl⟩
      have g12 : im1 30 0 12 = 0 := (gs 12 (by omega) (by omega)).trans f12
      refine q_iload_n (t := 33) F dX9_run_32 rfl rfl rfl ?_
      refine q_iconst (t := 34) F dX9_run_33 rfl ?_
      refine q_icmp_ge (t := 37) (u := 53) F dX9_run_34 (by first | exact hR _ _ _ | (constructor <;> omega)) (by first | exact hR _ _ _ | (constructor <;> omega)) (by decide) rfl (fun c34 => ?_) (fun c34 => ?_)
      · refine q_iload_n (t := 54) F dX9_run_53 rfl rfl rfl ?_
        refine q_iconst (t := 55) F dX9_run_54 rfl ?_
        refine q_icmp_ne (t := 58) (u := 65) F dX9_run_55 (by first | exact hR _ _ _ | (constructor <;> omega)) (by first | exact hR _ _ _ | (constructor <;> omega)) (by decide) rfl (fun c55 => ?_) (fun c55 => ?_)
        · refine q_iload_n (t := 66) F dX9_run_65 rfl rfl rfl ?_
          refine q_iconst (t := 67) F dX9_run_66 rfl ?_
          refine q_icmp_ne (t := 70) (u := 77) F dX9_run_67 (by first | exact hR _ _ _ | (constructor <;> omega)) (by first | exact hR _ _ _ | (constructor <;> omega)) (by decide) rfl (fun c67 => ?_) (fun c67 => ?_)
          · refine q_aload_n (t := 78) F dX9_run_77 rfl rfl rfl ?_
            refine g_X9_379 (t := 81) F dX9_run_78 rfl rfl ?_
            try simp only [up_app, row_app, scr_app, cpy_app, Nat.reduceEqDiff, Int.reduceToNat, Int.toNat_natCast, and_true, true_and, and_false, false_and, and_self, reduceIte]
            refine q_iret F dX9_run_81 rfl ?_
            first
              | (refine ⟨_, rfl, ?_, _, _, rfl⟩
                 (repeat' split) <;> omega)
              | (exfalso; omega)
          · refine q_aload_n (t := 71) F dX9_run_70 rfl rfl rfl ?_
            refine g_X9_376 (t := 74) F dX9_run_71 rfl rfl ?_
            try simp only [up_app, row_app, scr_app, cpy_app, Nat.reduceEqDiff, Int.reduceToNat, Int.toNat_natCast, and_true, true_and, and_false, false_and, and_self, reduceIte]
            refine q_goto (t := 81) F dX9_run_74 (by decide) ?_
            refine q_iret F dX9_run_81 rfl ?_
            first
              | (refine ⟨_, rfl, ?_, _, _, rfl⟩
                 (repeat' split) <;> omega)
              | (exfalso; omega)
        · refine q_aload_n (t := 59) F dX9_run_58 rfl rfl rfl ?_
          refine g_X9_373 (t := 62) F dX9_run_59 rfl rfl ?_
          try simp only [up_app, row_app, scr_app, cpy_app, Nat.reduceEqDiff, Int.reduceToNat, Int.toNat_natCast, and_true, true_and, and_false, false_and, and_self, reduceIte]
          refine q_goto (t := 81) F dX9_run_62 (by decide) ?_
          refine q_iret F dX9_run_81 rfl ?_
          first
            | (refine ⟨_, rfl, ?_, _, _, rfl⟩
               (repeat' split) <;> omega)
            | (exfalso; omega)
      · refine q_iload_n (t := 38) F dX9_run_37 rfl rfl rfl ?_
        refine q_if_ne (t := 41) (u := 48) F dX9_run_38 (by first | exact hR _ _ _ | (constructor <;> omega)) (by decide) rfl (fun c38 => ?_) (fun c38 => ?_)
        · refine q_aload_n (t := 49) F dX9_run_48 rfl rfl rfl ?_
          refine g_X9_370 (t := 52) F dX9_run_49 rfl rfl ?_
          try simp only [up_app, row_app, scr_app, cpy_app, Nat.reduceEqDiff, Int.reduceToNat, Int.toNat_natCast, and_true, true_and, and_false, false_and, and_self, reduceIte]
          refine q_iret F dX9_run_52 rfl ?_
          first
            | (refine ⟨_, rfl, ?_, _, _, rfl⟩
               (repeat' split) <;> omega)
            | (exfalso; omega)
        · refine q_aload_n (t := 42) F dX9_run_41 rfl rfl rfl ?_
          refine g_X9_401 (t := 45) F dX9_run_42 rfl rfl ?_
          try simp only [up_app, row_app, scr_app, cpy_app, Nat.reduceEqDiff, Int.reduceToNat, Int.toNat_natCast, and_true, true_and, and_false, false_and, and_self, reduceIte]
          refine q_goto (t := 52) F dX9_run_45 (by decide) ?_
          refine q_iret F dX9_run_52 rfl ?_
          first
            | (refine ⟨_, rfl, ?_, _, _, rfl⟩
               (repeat' split) <;> omega)
            | (exfalso; omega)
    · refine q_bipush (t := 26) F dX9_run_24 (by decide) rfl ?_
      refine q_iret F dX9_run_26 rfl ?_
      first
        | (refine ⟨_, rfl, ?_, _, _, rfl⟩
           (repeat' split) <;> omega)
        | (exfalso; omega)

set_option maxHeartbeats 4000000 in
theorem f_X9_best (l : Launch) (G : GS) (im : IM) (bt rt : Nat) (lm : IM) (hF : FR im) (n : Int) (what : Int) (hn : ri n) (hwhat : ri what) : Cn l (XR G) yX9_best Y_X9_best [vR 30 0, vI n, vI what] (im, rs bt rt, lm) (pI fun x m' => x = (if (0 ≤ n ∧ n ≤ 60) ∧ 0 ≤ what ∧ what ≤ 1 then (if what = 0 then -1 else 0) else -2) ∧ ∃ im' lm', m' = (im', rs bt rt, lm')) := by
  refine cn_of (by decide) (okR G) rfl (Nat.le_of_ble_eq_true rfl) ?_
  intro M ad hMl F
  subst hMl
  obtain ⟨hR, f3, f4, f6, f7, f8, f9, f12, f46, f47⟩ := hF
  have hn1 := hn.1
  have hn2 := hn.2
  have hwhat1 := hwhat.1
  have hwhat2 := hwhat.2
  refine wp_pad 4 ?_
  show Wp M (XR G) ad Y_X9_best (pI fun x m' => x = (if (0 ≤ n ∧ n ≤ 60) ∧ 0 ≤ what ∧ what ≤ 1 then (if what = 0 then -1 else 0) else -2) ∧ ∃ im' lm', m' = (im', rs bt rt, lm')) 0 [some (vR 30 0), some (vI n), some (vI what), none, none, none, none] [] (im, rs bt rt, lm)
  refine q_iload_n (t := 1) F dX9_best_0 rfl rfl rfl ?_
  refine q_i2l (t := 2) F dX9_best_1 (by first | exact hR _ _ _ | (constructor <;> omega)) rfl ?_
  refine q_lconst (t := 3) (x := 0) F dX9_best_2 (by decide) rfl ?_
  refine q_ldc2 (t := 6) (x := 60) F dX9_best_3 kl_X9_242 (by decide) rfl ?_
  refine wp_callS (t := 9) [_, _, _] F dX9_best_6 k_X9_in st_X9_in ml_X9_91 rfl rfl (Nat.le_of_ble_eq_true rfl) (by decide) (c_X9_in _ G _ _ _ _ _ _ _ (by constructor <;> omega) (by constructor <;> omega) (by constructor <;> omega)) rfl (kI ?_)
  rintro x6 m' ⟨hx6, rfl⟩
  have hx6 := if01 hx6
  refine q_if_eq (t := 12) (u := 22) F dX9_best_9 (by first | exact hR _ _ _ | (constructor <;> omega)) (by decide) rfl (fun c9 => ?_) (fun c9 => ?_)
  · refine q_bipush (t := 24) F dX9_best_22 (by decide) rfl ?_
    refine q_iret F dX9_best_24 rfl ?_
    first
      | (refine ⟨_, rfl, ?_, _, _, rfl⟩
         (repeat' split) <;> omega)
      | (exfalso; omega)
  · refine q_iload_n (t := 13) F dX9_best_12 rfl rfl rfl ?_
    refine q_i2l (t := 14) F dX9_best_13 (by first | exact hR _ _ _ | (constructor <;> omega)) rfl ?_
    refine q_lconst (t := 15) (x := 0) F dX9_best_14 (by decide) rfl ?_
    refine q_lconst (t := 16) (x := 1) F dX9_best_15 (by decide) rfl ?_
    refine wp_callS (t := 19) [_, _, _] F dX9_best_16 k_X9_in st_X9_in ml_X9_91 rfl rfl (Nat.le_of_ble_eq_true rfl) (by decide) (c_X9_in _ G _ _ _ _ _ _ _ (by constructor <;> omega) (by constructor <;> omega) (by constructor <;> omega)) rfl (kI ?_)
    rintro x16 m' ⟨hx16, rfl⟩
    have hx16 := if01 hx16
    refine q_if_ne (t := 22) (u := 25) F dX9_best_19 (by first | exact hR _ _ _ | (constructor <;> omega)) (by decide) rfl (fun c19 => ?_) (fun c19 => ?_)
    · refine q_aload_n (t := 26) F dX9_best_25 rfl rfl rfl ?_
      refine q_iload_n (t := 27) F dX9_best_26 rfl rfl rfl ?_
      refine wp_callV (t := 30) [_] F dX9_best_27 k_X9_runs v_X9_runs ml_X9_410 rfl rfl rfl rfl (Nat.le_of_ble_eq_true rfl) (by decide) (m_30 (by omega)) (f_X9_runs _ G im bt rt lm hR f7 f9 f12 n (by omega) (by omega)) rfl (kV ?_)
      rintro m' ⟨im1, hR1, g40, g30, g31, g32, g33, gs, rfl⟩
      have g12 : im1 30 0 12 = 0 := (gs 12 (by omega) (by omega)).trans f12
      refine q_aload_n (t := 31) F dX9_best_30 rfl rfl rfl ?_
      refine g_X9_401 (t := 34) F dX9_best_31 rfl rfl ?_
      try simp only [up_app, row_app, scr_app, cpy_app, Nat.reduceEqDiff, Int.reduceToNat, Int.toNat_natCast, and_true, true_and, and_false, false_and, and_self, reduceIte]
      refine q_istore_n (t := 35) F dX9_best_34 rfl (by decide) rfl rfl ?_
      refine q_iload_n (t := 36) F dX9_best_35 rfl rfl rfl ?_
      refine q_istore (t := 38) F dX9_best_36 (by decide) rfl rfl ?_
      refine q_iconst (t := 39) F dX9_best_38 rfl ?_
      refine q_istore (t := 41) F dX9_best_39 (by decide) rfl rfl ?_
      refine q_iconst (t := 42) F dX9_best_41 rfl ?_
      refine q_istore (t := 44) F dX9_best_42 (by decide) rfl rfl ?_
      refine q_iload (t := 46) F dX9_best_44 rfl rfl ?_
      refine q_bipush (t := 48) F dX9_best_46 (by decide) rfl ?_
      refine q_aload_n (t := 49) F dX9_best_48 rfl rfl rfl ?_
      refine g_X9_88 (t := 52) F dX9_best_49 rfl rfl ?_
      try simp only [up_app, row_app, scr_app, cpy_app, Nat.reduceEqDiff, Int.reduceToNat, Int.toNat_natCast, and_true, true_and, and_false, false_and, and_self, reduceIte]
      refine q_imul (t := 53) F dX9_best_52 rfl ?_
      refine q_icmp_ge (t := 56) (u := 91) F dX9_best_53 (by constructor <;> omega) (by rw [g12]; constructor <;> omega) (by decide) rfl (fun c53 => ?_) (fun c53 => ?_)
      · refine q_iload_n (t := 92) F dX9_best_91 rfl rfl rfl ?_
        refine q_if_ne (t := 95) (u := 100) F dX9_best_92 (by first | exact hR _ _ _ | (constructor <;> omega)) (by decide) rfl (fun c92 => ?_) (fun c92 => ?_)
        · refine q_iload (t := 102) F dX9_best_100 rfl rfl ?_
          refine q_iret F dX9_best_102 rfl ?_
          first
            | (refine ⟨_, rfl, ?_, _, _, rfl⟩
               (repeat' split) <;> omega)
            | (exfalso; omega)
        · refine q_iload (t := 97) F dX9_best_95 rfl rfl ?_
          refine q_goto (t := 102) F dX9_best_97 (by decide) ?_
          refine q_iret F dX9_best_102 rfl ?_
          first
            | (refine ⟨_, rfl, ?_, _, _, rfl⟩
               (repeat' split) <;> omega)
            | (exfalso; omega)
      · exfalso; omega
    · refine q_bipush (t := 24) F dX9_best_22 (by decide) rfl ?_
      refine q_iret F dX9_best_24 rfl ?_
      first
        | (refine ⟨_, rfl, ?_, _, _, rfl⟩
           (repeat' split) <;> omega)
        | (exfalso; omega)

set_option maxHeartbeats 4000000 in
theorem f_X9_kissing (l : Launch) (G : GS) (im : IM) (bt rt : Nat) (lm : IM) (hF : FR im) (n : Int) (what : Int) (hn : ri n) (hwhat : ri what) : Cn l (XR G) yX9_kissing Y_X9_kissing [vR 30 0, vI n, vI what] (im, rs bt rt, lm) (pI fun x m' => x = (if (0 ≤ n ∧ n ≤ 60) ∧ 0 ≤ what ∧ what ≤ 1 then (if what = 0 then -1 else 0) else -2) ∧ ∃ im' lm', m' = (im', rs bt rt, lm')) := by
  refine cn_of (by decide) (okR G) rfl (Nat.le_of_ble_eq_true rfl) ?_
  intro M ad hMl F
  subst hMl
  obtain ⟨hR, f3, f4, f6, f7, f8, f9, f12, f46, f47⟩ := hF
  have hn1 := hn.1
  have hn2 := hn.2
  have hwhat1 := hwhat.1
  have hwhat2 := hwhat.2
  refine wp_pad 5 ?_
  show Wp M (XR G) ad Y_X9_kissing (pI fun x m' => x = (if (0 ≤ n ∧ n ≤ 60) ∧ 0 ≤ what ∧ what ≤ 1 then (if what = 0 then -1 else 0) else -2) ∧ ∃ im' lm', m' = (im', rs bt rt, lm')) 0 [some (vR 30 0), some (vI n), some (vI what), none, none, none, none, none] [] (im, rs bt rt, lm)
  refine q_iload_n (t := 1) F dX9_kissing_0 rfl rfl rfl ?_
  refine q_i2l (t := 2) F dX9_kissing_1 (by first | exact hR _ _ _ | (constructor <;> omega)) rfl ?_
  refine q_lconst (t := 3) (x := 0) F dX9_kissing_2 (by decide) rfl ?_
  refine q_ldc2 (t := 6) (x := 60) F dX9_kissing_3 kl_X9_242 (by decide) rfl ?_
  refine wp_callS (t := 9) [_, _, _] F dX9_kissing_6 k_X9_in st_X9_in ml_X9_91 rfl rfl (Nat.le_of_ble_eq_true rfl) (by decide) (c_X9_in _ G _ _ _ _ _ _ _ (by constructor <;> omega) (by constructor <;> omega) (by constructor <;> omega)) rfl (kI ?_)
  rintro x6 m' ⟨hx6, rfl⟩
  have hx6 := if01 hx6
  refine q_if_eq (t := 12) (u := 22) F dX9_kissing_9 (by first | exact hR _ _ _ | (constructor <;> omega)) (by decide) rfl (fun c9 => ?_) (fun c9 => ?_)
  · refine q_bipush (t := 24) F dX9_kissing_22 (by decide) rfl ?_
    refine q_iret F dX9_kissing_24 rfl ?_
    first
      | (refine ⟨_, rfl, ?_, _, _, rfl⟩
         (repeat' split) <;> omega)
      | (exfalso; omega)
  · refine q_iload_n (t := 13) F dX9_kissing_12 rfl rfl rfl ?_
    refine q_i2l (t := 14) F dX9_kissing_13 (by first | exact hR _ _ _ | (constructor <;> omega)) rfl ?_
    refine q_lconst (t := 15) (x := 0) F dX9_kissing_14 (by decide) rfl ?_
    refine q_lconst (t := 16) (x := 1) F dX9_kissing_15 (by decide) rfl ?_
    refine wp_callS (t := 19) [_, _, _] F dX9_kissing_16 k_X9_in st_X9_in ml_X9_91 rfl rfl (Nat.le_of_ble_eq_true rfl) (by decide) (c_X9_in _ G _ _ _ _ _ _ _ (by constructor <;> omega) (by constructor <;> omega) (by constructor <;> omega)) rfl (kI ?_)
    rintro x16 m' ⟨hx16, rfl⟩
    have hx16 := if01 hx16
    refine q_if_ne (t := 22) (u := 25) F dX9_kissing_19 (by first | exact hR _ _ _ | (constructor <;> omega)) (by decide) rfl (fun c19 => ?_) (fun c19 => ?_)
    · refine q_aload_n (t := 26) F dX9_kissing_25 rfl rfl rfl ?_
      refine q_iload_n (t := 27) F dX9_kissing_26 rfl rfl rfl ?_
      refine wp_callV (t := 30) [_] F dX9_kissing_27 k_X9_runs v_X9_runs ml_X9_410 rfl rfl rfl rfl (Nat.le_of_ble_eq_true rfl) (by decide) (m_30 (by omega)) (f_X9_runs _ G im bt rt lm hR f7 f9 f12 n (by omega) (by omega)) rfl (kV ?_)
      rintro m' ⟨im1, hR1, g40, g30, g31, g32, g33, gs, rfl⟩
      have g12 : im1 30 0 12 = 0 := (gs 12 (by omega) (by omega)).trans f12
      refine q_aload_n (t := 31) F dX9_kissing_30 rfl rfl rfl ?_
      refine g_X9_401 (t := 34) F dX9_kissing_31 rfl rfl ?_
      try simp only [up_app, row_app, scr_app, cpy_app, Nat.reduceEqDiff, Int.reduceToNat, Int.toNat_natCast, and_true, true_and, and_false, false_and, and_self, reduceIte]
      refine q_istore_n (t := 35) F dX9_kissing_34 rfl (by decide) rfl rfl ?_
      refine q_iconst (t := 36) F dX9_kissing_35 rfl ?_
      refine q_istore (t := 38) F dX9_kissing_36 (by decide) rfl rfl ?_
      refine q_iconst (t := 39) F dX9_kissing_38 rfl ?_
      refine q_istore (t := 41) F dX9_kissing_39 (by decide) rfl rfl ?_
      refine q_iload (t := 43) F dX9_kissing_41 rfl rfl ?_
      refine q_aload_n (t := 44) F dX9_kissing_43 rfl rfl rfl ?_
      refine g_X9_88 (t := 47) F dX9_kissing_44 rfl rfl ?_
      try simp only [up_app, row_app, scr_app, cpy_app, Nat.reduceEqDiff, Int.reduceToNat, Int.toNat_natCast, and_true, true_and, and_false, false_and, and_self, reduceIte]
      refine q_icmp_ge (t := 50) (u := 115) F dX9_kissing_47 (by constructor <;> omega) (by rw [g12]; constructor <;> omega) (by decide) rfl (fun c47 => ?_) (fun c47 => ?_)
      · refine q_iload_n (t := 116) F dX9_kissing_115 rfl rfl rfl ?_
        refine q_if_ne (t := 119) (u := 124) F dX9_kissing_116 (by first | exact hR _ _ _ | (constructor <;> omega)) (by decide) rfl (fun c116 => ?_) (fun c116 => ?_)
        · refine q_iload_n (t := 125) F dX9_kissing_124 rfl rfl rfl ?_
          refine q_iret F dX9_kissing_125 rfl ?_
          first
            | (refine ⟨_, rfl, ?_, _, _, rfl⟩
               (repeat' split) <;> omega)
            | (exfalso; omega)
        · refine q_iload (t := 121) F dX9_kissing_119 rfl rfl ?_
          refine q_goto (t := 125) F dX9_kissing_121 (by decide) ?_
          refine q_iret F dX9_kissing_125 rfl ?_
          first
            | (refine ⟨_, rfl, ?_, _, _, rfl⟩
               (repeat' split) <;> omega)
            | (exfalso; omega)
      · exfalso; omega
    · refine q_bipush (t := 24) F dX9_kissing_22 (by decide) rfl ?_
      refine q_iret F dX9_kissing_24 rfl ?_
      first
        | (refine ⟨_, rfl, ?_, _, _, rfl⟩
           (repeat' split) <;> omega)
        | (exfalso; omega)
