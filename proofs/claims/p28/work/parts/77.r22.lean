/-! the reference: how long it holds, how bad it is -/

set_option maxHeartbeats 4000000 in
theorem c_X9_holdsIn (l : Launch) (G : GS) (im : IM) (bt rt : Nat) (lm : IM) (h : RC im) (q : Nat) (hq : (q : Int) < 10 * im 30 0 12) : Cn l (XR G) yX9_holdsIn Y_X9_holdsIn [vR 30 0, vI (q : Int)] (im, rs bt rt, lm) (pI fun x m' => ∃ im' lm', x = holdsK (im 34 0 (q / 10)) (im 35 0 (q / 10)) (sayR im (im 30 0 4).toNat 1 (nmA (im 36 0 q) 0 (im 30 0 7) (im 35 0 (q / 10)) ((q % 10 : Nat) : Int) (im 37 0 q))) ∧ RI im' ∧ agY im' im ∧ lgQ lm' lm ∧ m' = (im', rs bt rt, lm')) := by
  refine cn_of (by decide) (okR G) rfl (Nat.le_of_ble_eq_true rfl) ?_
  intro M ad hMl F
  subst hMl
  obtain ⟨hR, hX, h4, h12, h7, h8, hP⟩ := id h
  have hq50 : q < 50 := by omega
  have hp := hP (q / 10) (by omega)
  obtain ⟨hk, hn, hg⟩ := hp
  have hg := hg (q % 10) (by omega)
  rw [show 10 * (q / 10) + q % 10 = q by omega] at hg
  refine wp_pad 4 ?_
  show Wp M (XR G) ad Y_X9_holdsIn (pI fun x m' => ∃ im' lm', x = holdsK (im 34 0 (q / 10)) (im 35 0 (q / 10)) (sayR im (im 30 0 4).toNat 1 (nmA (im 36 0 q) 0 (im 30 0 7) (im 35 0 (q / 10)) ((q % 10 : Nat) : Int) (im 37 0 q))) ∧ RI im' ∧ agY im' im ∧ lgQ lm' lm ∧ m' = (im', rs bt rt, lm')) 0 [some (vR 30 0), some (vI (q : Int)), none, none, none, none] [] (im, rs bt rt, lm)
  refine q_iload_n (t := 1) F dX9_holdsIn_0 rfl rfl rfl ?_
  refine q_bipush (t := 3) F dX9_holdsIn_1 (by decide) rfl ?_
  refine q_idiv (t := 4) F dX9_holdsIn_3 (by first | exact hR _ _ _ | (constructor <;> omega)) (by first | exact hR _ _ _ | (constructor <;> omega)) (by omega) (by omega) rfl ?_
  rw [show (q : Int) / 10 = ((q / 10 : Nat) : Int) by omega]
  refine q_istore_n (t := 5) F dX9_holdsIn_4 rfl (by decide) rfl rfl ?_
  refine q_aload_n (t := 6) F dX9_holdsIn_5 rfl rfl rfl ?_
  refine g_X9_26 (t := 9) F dX9_holdsIn_6 rfl rfl ?_
  refine q_iload_n (t := 10) F dX9_holdsIn_9 rfl rfl rfl ?_
  first | refine ldN_34 (t := 11) F dX9_holdsIn_10 (by omega) rfl ?_ | refine ld_34 (t := 11) F dX9_holdsIn_10 (by omega) (by omega) rfl ?_
  refine q_istore_n (t := 12) F dX9_holdsIn_11 rfl (by decide) rfl rfl ?_
  refine q_aload_n (t := 13) F dX9_holdsIn_12 rfl rfl rfl ?_
  refine q_iconst (t := 14) F dX9_holdsIn_13 rfl ?_
  refine q_iload_n (t := 15) F dX9_holdsIn_14 rfl rfl rfl ?_
  refine q_aload_n (t := 16) F dX9_holdsIn_15 rfl rfl rfl ?_
  refine g_X9_32 (t := 19) F dX9_holdsIn_16 rfl rfl ?_
  refine q_iload_n (t := 20) F dX9_holdsIn_19 rfl rfl rfl ?_
  first | refine ldN_36 (t := 21) F dX9_holdsIn_20 (by omega) rfl ?_ | refine ld_36 (t := 21) F dX9_holdsIn_20 (by omega) (by omega) rfl ?_
  refine q_iconst (t := 22) F dX9_holdsIn_21 rfl ?_
  refine q_iload_n (t := 23) F dX9_holdsIn_22 rfl rfl rfl ?_
  refine q_bipush (t := 25) F dX9_holdsIn_23 (by decide) rfl ?_
  refine q_irem (t := 26) F dX9_holdsIn_25 (by first | exact hR _ _ _ | (constructor <;> omega)) (by first | exact hR _ _ _ | (constructor <;> omega)) (by omega) (by omega) rfl ?_
  rw [show (q : Int) % 10 = ((q % 10 : Nat) : Int) by omega]
  refine q_aload_n (t := 27) F dX9_holdsIn_26 rfl rfl rfl ?_
  refine g_X9_35 (t := 30) F dX9_holdsIn_27 rfl rfl ?_
  refine q_iload_n (t := 31) F dX9_holdsIn_30 rfl rfl rfl ?_
  first | refine ldN_37 (t := 32) F dX9_holdsIn_31 (by omega) rfl ?_ | refine ld_37 (t := 32) F dX9_holdsIn_31 (by omega) (by omega) rfl ?_
  refine wp_callV (t := 35) [_, _, _, _, _, _] F dX9_holdsIn_32 k_X9_asks v_X9_asks ml_X9_354 rfl rfl rfl rfl (Nat.le_of_ble_eq_true rfl) (by decide) (m_30 (by omega)) (c_asksC _ G im bt rt lm h 1 (q / 10) (by omega) (by omega) _ _ _ _ (by exact hR _ _ _) (by constructor <;> omega) (by constructor <;> omega) (by exact hR _ _ _)) rfl (kI ?_)
  rintro v m' ⟨im2, lm2, hv, hR2, hag, hlg, rfl⟩
  have hv1 := sayR_in im (im 30 0 4).toNat 1 (nmA (im 36 0 q) 0 (im 30 0 7) (im 35 0 (q / 10)) ((q % 10 : Nat) : Int) (im 37 0 q))
  rw [← hv] at hv1
  refine q_istore (t := 37) F dX9_holdsIn_35 (by decide) rfl rfl ?_
  refine q_iload_n (t := 38) F dX9_holdsIn_37 rfl rfl rfl ?_
  refine q_iconst (t := 39) F dX9_holdsIn_38 rfl ?_
  refine q_icmp_ne (t := 42) (u := 54) F dX9_holdsIn_39 (by first | exact hR _ _ _ | (constructor <;> omega)) (by first | exact hR _ _ _ | (constructor <;> omega)) (by decide) rfl (fun c39 => ?_) (fun c39 => ?_)
  · refine q_iload_n (t := 55) F dX9_holdsIn_54 rfl rfl rfl ?_
    refine q_iconst (t := 56) F dX9_holdsIn_55 rfl ?_
    refine q_icmp_ne (t := 59) (u := 73) F dX9_holdsIn_56 (by first | exact hR _ _ _ | (constructor <;> omega)) (by first | exact hR _ _ _ | (constructor <;> omega)) (by decide) rfl (fun c56 => ?_) (fun c56 => ?_)
    · refine q_iload_n (t := 74) F dX9_holdsIn_73 rfl rfl rfl ?_
      refine q_iconst (t := 75) F dX9_holdsIn_74 rfl ?_
      refine q_icmp_eq (t := 78) (u := 83) F dX9_holdsIn_75 (by first | exact hR _ _ _ | (constructor <;> omega)) (by first | exact hR _ _ _ | (constructor <;> omega)) (by decide) rfl (fun c75 => ?_) (fun c75 => ?_)
      · refine q_iload (t := 85) F dX9_holdsIn_83 rfl rfl ?_
        refine q_iconst (t := 86) F dX9_holdsIn_85 rfl ?_
        refine q_idiv (t := 87) F dX9_holdsIn_86 (by first | exact hR _ _ _ | (constructor <;> omega)) (by first | exact hR _ _ _ | (constructor <;> omega)) (by omega) (by omega) rfl ?_
        refine q_goto (t := 108) F dX9_holdsIn_87 (by decide) ?_
        refine q_istore (t := 110) F dX9_holdsIn_108 (by decide) rfl rfl ?_
        refine q_iload (t := 112) F dX9_holdsIn_110 rfl rfl ?_
        refine q_iconst (t := 113) F dX9_holdsIn_112 rfl ?_
        refine q_icmp_ge (t := 116) (u := 120) F dX9_holdsIn_113 (by constructor <;> omega) (by constructor <;> omega) (by decide) rfl (fun c113 => ?_) (fun c113 => ?_)
        · refine q_iload (t := 122) F dX9_holdsIn_120 rfl rfl ?_
          refine q_iret F dX9_holdsIn_122 rfl ?_
          refine ⟨_, rfl, im2, lm2, ?_, hR2, hag, hlg, rfl⟩
          rw [← hv]
          unfold holdsK heldK
          try rw [hx100]
          (repeat' split) <;> first | rfl | omega
        · refine q_iconst (t := 117) F dX9_holdsIn_116 rfl ?_
          refine q_goto (t := 122) F dX9_holdsIn_117 (by decide) ?_
          refine q_iret F dX9_holdsIn_122 rfl ?_
          refine ⟨_, rfl, im2, lm2, ?_, hR2, hag, hlg, rfl⟩
          rw [← hv]
          unfold holdsK heldK
          try rw [hx100]
          (repeat' split) <;> first | rfl | omega
      · refine q_iload_n (t := 79) F dX9_holdsIn_78 rfl rfl rfl ?_
        refine q_iconst (t := 80) F dX9_holdsIn_79 rfl ?_
        refine q_icmp_ne (t := 83) (u := 90) F dX9_holdsIn_80 (by first | exact hR _ _ _ | (constructor <;> omega)) (by first | exact hR _ _ _ | (constructor <;> omega)) (by decide) rfl (fun c80 => ?_) (fun c80 => ?_)
        · refine q_iload_n (t := 91) F dX9_holdsIn_90 rfl rfl rfl ?_
          refine q_iconst (t := 92) F dX9_holdsIn_91 rfl ?_
          refine q_icmp_ne (t := 95) (u := 106) F dX9_holdsIn_92 (by first | exact hR _ _ _ | (constructor <;> omega)) (by first | exact hR _ _ _ | (constructor <;> omega)) (by decide) rfl (fun c92 => ?_) (fun c92 => ?_)
          · refine q_iload (t := 108) F dX9_holdsIn_106 rfl rfl ?_
            refine q_istore (t := 110) F dX9_holdsIn_108 (by decide) rfl rfl ?_
            refine q_iload (t := 112) F dX9_holdsIn_110 rfl rfl ?_
            refine q_iconst (t := 113) F dX9_holdsIn_112 rfl ?_
            refine q_icmp_ge (t := 116) (u := 120) F dX9_holdsIn_113 (by constructor <;> omega) (by constructor <;> omega) (by decide) rfl (fun c113 => ?_) (fun c113 => ?_)
            · refine q_iload (t := 122) F dX9_holdsIn_120 rfl rfl ?_
              refine q_iret F dX9_holdsIn_122 rfl ?_
              refine ⟨_, rfl, im2, lm2, ?_, hR2, hag, hlg, rfl⟩
              rw [← hv]
              unfold holdsK heldK
              try rw [hx100]
              (repeat' split) <;> first | rfl | omega
            · refine q_iconst (t := 117) F dX9_holdsIn_116 rfl ?_
              refine q_goto (t := 122) F dX9_holdsIn_117 (by decide) ?_
              refine q_iret F dX9_holdsIn_122 rfl ?_
              refine ⟨_, rfl, im2, lm2, ?_, hR2, hag, hlg, rfl⟩
              rw [← hv]
              unfold holdsK heldK
              try rw [hx100]
              (repeat' split) <;> first | rfl | omega
          · refine q_iload (t := 97) F dX9_holdsIn_95 rfl rfl ?_
            refine q_iconst (t := 98) F dX9_holdsIn_97 rfl ?_
            refine q_bipush (t := 100) F dX9_holdsIn_98 (by decide) rfl ?_
            refine wp_callS (t := 103) [_, _, _] F dX9_holdsIn_100 k_X9_within st_X9_within ml_X9_350 rfl rfl (Nat.le_of_ble_eq_true rfl) (by decide) (c_X9_within _ G im2 bt rt lm2 v 0 9 (by constructor <;> omega) (by constructor <;> omega) (by constructor <;> omega)) rfl (kI ?_)
            rintro x100 m' ⟨hx100, rfl⟩
            have hx1 : 0 ≤ x100 ∧ x100 ≤ 9 := by rw [hx100]; (repeat' split) <;> omega
            refine q_goto (t := 108) F dX9_holdsIn_103 (by decide) ?_
            refine q_istore (t := 110) F dX9_holdsIn_108 (by decide) rfl rfl ?_
            refine q_iload (t := 112) F dX9_holdsIn_110 rfl rfl ?_
            refine q_iconst (t := 113) F dX9_holdsIn_112 rfl ?_
            refine q_icmp_ge (t := 116) (u := 120) F dX9_holdsIn_113 (by constructor <;> omega) (by constructor <;> omega) (by decide) rfl (fun c113 => ?_) (fun c113 => ?_)
            · refine q_iload (t := 122) F dX9_holdsIn_120 rfl rfl ?_
              refine q_iret F dX9_holdsIn_122 rfl ?_
              refine ⟨_, rfl, im2, lm2, ?_, hR2, hag, hlg, rfl⟩
              rw [← hv]
              unfold holdsK heldK
              try rw [hx100]
              (repeat' split) <;> first | rfl | omega
            · refine q_iconst (t := 117) F dX9_holdsIn_116 rfl ?_
              refine q_goto (t := 122) F dX9_holdsIn_117 (by decide) ?_
              refine q_iret F dX9_holdsIn_122 rfl ?_
              refine ⟨_, rfl, im2, lm2, ?_, hR2, hag, hlg, rfl⟩
              rw [← hv]
              unfold holdsK heldK
              try rw [hx100]
              (repeat' split) <;> first | rfl | omega
        · refine q_iload (t := 85) F dX9_holdsIn_83 rfl rfl ?_
          refine q_iconst (t := 86) F dX9_holdsIn_85 rfl ?_
          refine q_idiv (t := 87) F dX9_holdsIn_86 (by first | exact hR _ _ _ | (constructor <;> omega)) (by first | exact hR _ _ _ | (constructor <;> omega)) (by omega) (by omega) rfl ?_
          refine q_goto (t := 108) F dX9_holdsIn_87 (by decide) ?_
          refine q_istore (t := 110) F dX9_holdsIn_108 (by decide) rfl rfl ?_
          refine q_iload (t := 112) F dX9_holdsIn_110 rfl rfl ?_
          refine q_iconst (t := 113) F dX9_holdsIn_112 rfl ?_
          refine q_icmp_ge (t := 116) (u := 120) F dX9_holdsIn_113 (by constructor <;> omega) (by constructor <;> omega) (by decide) rfl (fun c113 => ?_) (fun c113 => ?_)
          · refine q_iload (t := 122) F dX9_holdsIn_120 rfl rfl ?_
            refine q_iret F dX9_holdsIn_122 rfl ?_
            refine ⟨_, rfl, im2, lm2, ?_, hR2, hag, hlg, rfl⟩
            rw [← hv]
            unfold holdsK heldK
            try rw [hx100]
            (repeat' split) <;> first | rfl | omega
          · refine q_iconst (t := 117) F dX9_holdsIn_116 rfl ?_
            refine q_goto (t := 122) F dX9_holdsIn_117 (by decide) ?_
            refine q_iret F dX9_holdsIn_122 rfl ?_
            refine ⟨_, rfl, im2, lm2, ?_, hR2, hag, hlg, rfl⟩
            rw [← hv]
            unfold holdsK heldK
            try rw [hx100]
            (repeat' split) <;> first | rfl | omega
    · refine q_iload (t := 61) F dX9_holdsIn_59 rfl rfl ?_
      refine q_aload_n (t := 62) F dX9_holdsIn_61 rfl rfl rfl ?_
      refine g_X9_29 (t := 65) F dX9_holdsIn_62 rfl rfl ?_
      refine q_iload_n (t := 66) F dX9_holdsIn_65 rfl rfl rfl ?_
      first | refine ldN_35 (t := 67) F dX9_holdsIn_66 (by omega) rfl ?_ | refine ld_35 (t := 67) F dX9_holdsIn_66 (by omega) (by omega) rfl ?_
      try simp only [up_app, row_app, scr_app, cpy_app, Nat.reduceEqDiff, Int.reduceToNat, Int.toNat_natCast, and_true, true_and, and_false, false_and, and_self, reduceIte]
      rw [hag 35 0 _ (by omega)]
      refine q_iadd (t := 68) F dX9_holdsIn_67 rfl ?_
      refine q_iconst (t := 69) F dX9_holdsIn_68 rfl ?_
      refine q_isub (t := 70) F dX9_holdsIn_69 rfl ?_
      refine q_goto (t := 108) F dX9_holdsIn_70 (by decide) ?_
      refine q_istore (t := 110) F dX9_holdsIn_108 (by decide) rfl rfl ?_
      refine q_iload (t := 112) F dX9_holdsIn_110 rfl rfl ?_
      refine q_iconst (t := 113) F dX9_holdsIn_112 rfl ?_
      refine q_icmp_ge (t := 116) (u := 120) F dX9_holdsIn_113 (by constructor <;> omega) (by constructor <;> omega) (by decide) rfl (fun c113 => ?_) (fun c113 => ?_)
      · refine q_iload (t := 122) F dX9_holdsIn_120 rfl rfl ?_
        refine q_iret F dX9_holdsIn_122 rfl ?_
        refine ⟨_, rfl, im2, lm2, ?_, hR2, hag, hlg, rfl⟩
        rw [← hv]
        unfold holdsK heldK
        try rw [hx100]
        (repeat' split) <;> first | rfl | omega
      · refine q_iconst (t := 117) F dX9_holdsIn_116 rfl ?_
        refine q_goto (t := 122) F dX9_holdsIn_117 (by decide) ?_
        refine q_iret F dX9_holdsIn_122 rfl ?_
        refine ⟨_, rfl, im2, lm2, ?_, hR2, hag, hlg, rfl⟩
        rw [← hv]
        unfold holdsK heldK
        try rw [hx100]
        (repeat' split) <;> first | rfl | omega
  · refine q_iload (t := 44) F dX9_holdsIn_42 rfl rfl ?_
    refine q_aload_n (t := 45) F dX9_holdsIn_44 rfl rfl rfl ?_
    refine g_X9_29 (t := 48) F dX9_holdsIn_45 rfl rfl ?_
    refine q_iload_n (t := 49) F dX9_holdsIn_48 rfl rfl rfl ?_
    first | refine ldN_35 (t := 50) F dX9_holdsIn_49 (by omega) rfl ?_ | refine ld_35 (t := 50) F dX9_holdsIn_49 (by omega) (by omega) rfl ?_
    try simp only [up_app, row_app, scr_app, cpy_app, Nat.reduceEqDiff, Int.reduceToNat, Int.toNat_natCast, and_true, true_and, and_false, false_and, and_self, reduceIte]
    rw [hag 35 0 _ (by omega)]
    refine q_iadd (t := 51) F dX9_holdsIn_50 rfl ?_
    refine q_goto (t := 108) F dX9_holdsIn_51 (by decide) ?_
    refine q_istore (t := 110) F dX9_holdsIn_108 (by decide) rfl rfl ?_
    refine q_iload (t := 112) F dX9_holdsIn_110 rfl rfl ?_
    refine q_iconst (t := 113) F dX9_holdsIn_112 rfl ?_
    refine q_icmp_ge (t := 116) (u := 120) F dX9_holdsIn_113 (by constructor <;> omega) (by constructor <;> omega) (by decide) rfl (fun c113 => ?_) (fun c113 => ?_)
    · refine q_iload (t := 122) F dX9_holdsIn_120 rfl rfl ?_
      refine q_iret F dX9_holdsIn_122 rfl ?_
      refine ⟨_, rfl, im2, lm2, ?_, hR2, hag, hlg, rfl⟩
      rw [← hv]
      unfold holdsK heldK
      try rw [hx100]
      (repeat' split) <;> first | rfl | omega
    · refine q_iconst (t := 117) F dX9_holdsIn_116 rfl ?_
      refine q_goto (t := 122) F dX9_holdsIn_117 (by decide) ?_
      refine q_iret F dX9_holdsIn_122 rfl ?_
      refine ⟨_, rfl, im2, lm2, ?_, hR2, hag, hlg, rfl⟩
      rw [← hv]
      unfold holdsK heldK
      try rw [hx100]
      (repeat' split) <;> first | rfl | omega
