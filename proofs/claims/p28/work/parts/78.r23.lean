/-! the reference: how bad it is -/

theorem chI_R {ch hr : Int} (h0 : 0 ≤ ch) (h1 : ch < 16777216) : chI ch hr = if ch / 2 ^ (hr % 24).toNat % 2 = 0 then 0 else 1 := by
  unfold chI
  rw [Int.emod_eq_of_lt h0 (by omega)]

set_option maxHeartbeats 4000000 in
theorem c_X9_bearsIn (l : Launch) (G : GS) (im : IM) (bt rt : Nat) (lm : IM) (h : RC im) (q : Nat) (hq : (q : Int) < 10 * im 30 0 12) : Cn l (XR G) yX9_bearsIn Y_X9_bearsIn [vR 30 0, vI (q : Int)] (im, rs bt rt, lm) (pI fun x m' => ∃ im' lm', x = bearsK (im 34 0 (q / 10)) (im 35 0 (q / 10)) (sayR im (im 30 0 4).toNat 2 (nmA (im 36 0 q) 0 (im 30 0 7) (im 35 0 (q / 10)) ((q % 10 : Nat) : Int) (im 37 0 q))) (chI (im 30 0 8) (im 30 0 7)) ∧ RI im' ∧ agY im' im ∧ lgQ lm' lm ∧ m' = (im', rs bt rt, lm')) := by
  refine cn_of (by decide) (okR G) rfl (Nat.le_of_ble_eq_true rfl) ?_
  intro M ad hMl F
  subst hMl
  obtain ⟨hR, hX, h4, h12, h7, h8, hP⟩ := id h
  have hq50 : q < 50 := by omega
  have hp := hP (q / 10) (by omega)
  obtain ⟨hk, hn, hg⟩ := hp
  have hg := hg (q % 10) (by omega)
  rw [show 10 * (q / 10) + q % 10 = q by omega] at hg
  have hch := chI_R (hr := im 30 0 7) h8.1 h8.2
  refine wp_pad 6 ?_
  show Wp M (XR G) ad Y_X9_bearsIn (pI fun x m' => ∃ im' lm', x = bearsK (im 34 0 (q / 10)) (im 35 0 (q / 10)) (sayR im (im 30 0 4).toNat 2 (nmA (im 36 0 q) 0 (im 30 0 7) (im 35 0 (q / 10)) ((q % 10 : Nat) : Int) (im 37 0 q))) (chI (im 30 0 8) (im 30 0 7)) ∧ RI im' ∧ agY im' im ∧ lgQ lm' lm ∧ m' = (im', rs bt rt, lm')) 0 [some (vR 30 0), some (vI (q : Int)), none, none, none, none, none, none] [] (im, rs bt rt, lm)
  refine q_iload_n (t := 1) F dX9_bearsIn_0 rfl rfl rfl ?_
  refine q_bipush (t := 3) F dX9_bearsIn_1 (by decide) rfl ?_
  refine q_idiv (t := 4) F dX9_bearsIn_3 (by first | exact hR _ _ _ | (constructor <;> omega)) (by first | exact hR _ _ _ | (constructor <;> omega)) (by omega) (by omega) rfl ?_
  rw [show (q : Int) / 10 = ((q / 10 : Nat) : Int) by omega]
  refine q_istore_n (t := 5) F dX9_bearsIn_4 rfl (by decide) rfl rfl ?_
  refine q_aload_n (t := 6) F dX9_bearsIn_5 rfl rfl rfl ?_
  refine g_X9_26 (t := 9) F dX9_bearsIn_6 rfl rfl ?_
  refine q_iload_n (t := 10) F dX9_bearsIn_9 rfl rfl rfl ?_
  first | refine ldN_34 (t := 11) F dX9_bearsIn_10 (by omega) rfl ?_ | refine ld_34 (t := 11) F dX9_bearsIn_10 (by omega) (by omega) rfl ?_
  refine q_istore_n (t := 12) F dX9_bearsIn_11 rfl (by decide) rfl rfl ?_
  refine q_iload_n (t := 13) F dX9_bearsIn_12 rfl rfl rfl ?_
  refine q_iconst (t := 14) F dX9_bearsIn_13 rfl ?_
  refine q_icmp_ne (t := 17) (u := 19) F dX9_bearsIn_14 (by first | exact hR _ _ _ | (constructor <;> omega)) (by first | exact hR _ _ _ | (constructor <;> omega)) (by decide) rfl (fun c14 => ?_) (fun c14 => ?_)
  · refine q_aload_n (t := 20) F dX9_bearsIn_19 rfl rfl rfl ?_
    refine g_X9_23 (t := 23) F dX9_bearsIn_20 rfl rfl ?_
    refine q_aload_n (t := 24) F dX9_bearsIn_23 rfl rfl rfl ?_
    refine g_X9_117 (t := 27) F dX9_bearsIn_24 rfl rfl ?_
    refine q_bipush (t := 29) F dX9_bearsIn_27 (by decide) rfl ?_
    refine q_irem (t := 30) F dX9_bearsIn_29 (by exact hR _ _ _) (by constructor <;> omega) (by omega) (by omega) rfl ?_
    refine q_ishr (t := 31) F dX9_bearsIn_30 (by exact hR _ _ _) (by omega) (by omega) (by omega) rfl ?_
    refine q_iconst (t := 32) F dX9_bearsIn_31 rfl ?_
    refine q_iand1 (t := 33) F dX9_bearsIn_32 rfl ?_
    refine q_iconst (t := 34) F dX9_bearsIn_33 rfl ?_
    obtain ⟨cz, hcz⟩ : ∃ cz, cz = im 30 0 8 / 2 ^ (im 30 0 7 % 24).toNat % 2 := ⟨_, rfl⟩
    have hcz1 : 0 ≤ cz ∧ cz ≤ 1 := by omega
    rw [← hcz]
    rw [← hcz] at hch
    refine q_icmp_ne (t := 37) (u := 41) F dX9_bearsIn_34 (by constructor <;> omega) (by constructor <;> omega) (by decide) rfl (fun c34 => ?_) (fun c34 => ?_)
    · refine q_iconst (t := 42) F dX9_bearsIn_41 rfl ?_
      refine q_istore (t := 44) F dX9_bearsIn_42 (by decide) rfl rfl ?_
      refine q_aload_n (t := 45) F dX9_bearsIn_44 rfl rfl rfl ?_
      refine q_iconst (t := 46) F dX9_bearsIn_45 rfl ?_
      refine q_iload_n (t := 47) F dX9_bearsIn_46 rfl rfl rfl ?_
      refine q_aload_n (t := 48) F dX9_bearsIn_47 rfl rfl rfl ?_
      refine g_X9_32 (t := 51) F dX9_bearsIn_48 rfl rfl ?_
      refine q_iload_n (t := 52) F dX9_bearsIn_51 rfl rfl rfl ?_
      first | refine ldN_36 (t := 53) F dX9_bearsIn_52 (by omega) rfl ?_ | refine ld_36 (t := 53) F dX9_bearsIn_52 (by omega) (by omega) rfl ?_
      refine q_iconst (t := 54) F dX9_bearsIn_53 rfl ?_
      refine q_iload_n (t := 55) F dX9_bearsIn_54 rfl rfl rfl ?_
      refine q_bipush (t := 57) F dX9_bearsIn_55 (by decide) rfl ?_
      refine q_irem (t := 58) F dX9_bearsIn_57 (by first | exact hR _ _ _ | (constructor <;> omega)) (by first | exact hR _ _ _ | (constructor <;> omega)) (by omega) (by omega) rfl ?_
      rw [show (q : Int) % 10 = ((q % 10 : Nat) : Int) by omega]
      refine q_aload_n (t := 59) F dX9_bearsIn_58 rfl rfl rfl ?_
      refine g_X9_35 (t := 62) F dX9_bearsIn_59 rfl rfl ?_
      refine q_iload_n (t := 63) F dX9_bearsIn_62 rfl rfl rfl ?_
      first | refine ldN_37 (t := 64) F dX9_bearsIn_63 (by omega) rfl ?_ | refine ld_37 (t := 64) F dX9_bearsIn_63 (by omega) (by omega) rfl ?_
      refine wp_callV (t := 67) [_, _, _, _, _, _] F dX9_bearsIn_64 k_X9_asks v_X9_asks ml_X9_354 rfl rfl rfl rfl (Nat.le_of_ble_eq_true rfl) (by decide) (m_30 (by omega)) (c_asksC _ G im bt rt lm h 2 (q / 10) (by omega) (by omega) _ _ _ _ (by exact hR _ _ _) (by constructor <;> omega) (by constructor <;> omega) (by exact hR _ _ _)) rfl (kI ?_)
      rintro v m' ⟨im2, lm2, hv, hR2, hag, hlg, rfl⟩
      have hv1 := sayR_in im (im 30 0 4).toNat 2 (nmA (im 36 0 q) 0 (im 30 0 7) (im 35 0 (q / 10)) ((q % 10 : Nat) : Int) (im 37 0 q))
      rw [← hv] at hv1
      refine q_istore (t := 69) F dX9_bearsIn_67 (by decide) rfl rfl ?_
      refine q_iload (t := 71) F dX9_bearsIn_69 rfl rfl ?_
      refine q_if_eq (t := 74) (u := 81) F dX9_bearsIn_71 (by first | exact hR _ _ _ | (constructor <;> omega)) (by decide) rfl (fun c71 => ?_) (fun c71 => ?_)
      · refine q_iload (t := 83) F dX9_bearsIn_81 rfl rfl ?_
        refine q_istore (t := 85) F dX9_bearsIn_83 (by decide) rfl rfl ?_
        refine q_iload (t := 87) F dX9_bearsIn_85 rfl rfl ?_
        refine q_aload_n (t := 88) F dX9_bearsIn_87 rfl rfl rfl ?_
        refine g_X9_29 (t := 91) F dX9_bearsIn_88 rfl rfl ?_
        refine q_iload_n (t := 92) F dX9_bearsIn_91 rfl rfl rfl ?_
        first | refine ldN_35 (t := 93) F dX9_bearsIn_92 (by omega) rfl ?_ | refine ld_35 (t := 93) F dX9_bearsIn_92 (by omega) (by omega) rfl ?_
        try simp only [up_app, row_app, scr_app, cpy_app, Nat.reduceEqDiff, Int.reduceToNat, Int.toNat_natCast, and_true, true_and, and_false, false_and, and_self, reduceIte]
        rw [hag 35 0 _ (by omega)]
        refine q_iadd (t := 94) F dX9_bearsIn_93 rfl ?_
        refine q_istore (t := 96) F dX9_bearsIn_94 (by decide) rfl rfl ?_
        refine q_iload_n (t := 97) F dX9_bearsIn_96 rfl rfl rfl ?_
        refine q_iconst (t := 98) F dX9_bearsIn_97 rfl ?_
        refine q_icmp_ne (t := 101) (u := 106) F dX9_bearsIn_98 (by constructor <;> omega) (by constructor <;> omega) (by decide) rfl (fun c98 => ?_) (fun c98 => ?_)
        · refine q_iload_n (t := 107) F dX9_bearsIn_106 rfl rfl rfl ?_
          refine q_iconst (t := 108) F dX9_bearsIn_107 rfl ?_
          refine q_icmp_ne (t := 111) (u := 128) F dX9_bearsIn_108 (by first | exact hR _ _ _ | (constructor <;> omega)) (by first | exact hR _ _ _ | (constructor <;> omega)) (by decide) rfl (fun c108 => ?_) (fun c108 => ?_)
          · refine q_iload (t := 130) F dX9_bearsIn_128 rfl rfl ?_
            refine q_iret F dX9_bearsIn_130 rfl ?_
            refine ⟨_, rfl, im2, lm2, ?_, hR2, hag, hlg, rfl⟩
            rw [← hv, hch]
            unfold bearsK
            (repeat' split) <;> first | rfl | omega
          · refine q_iload (t := 113) F dX9_bearsIn_111 rfl rfl ?_
            refine q_if_eq (t := 116) (u := 123) F dX9_bearsIn_113 (by first | exact hR _ _ _ | (constructor <;> omega)) (by decide) rfl (fun c113 => ?_) (fun c113 => ?_)
            · refine q_iload (t := 125) F dX9_bearsIn_123 rfl rfl ?_
              refine q_goto (t := 130) F dX9_bearsIn_125 (by decide) ?_
              refine q_iret F dX9_bearsIn_130 rfl ?_
              refine ⟨_, rfl, im2, lm2, ?_, hR2, hag, hlg, rfl⟩
              rw [← hv, hch]
              unfold bearsK
              (repeat' split) <;> first | rfl | omega
            · refine q_iconst (t := 117) F dX9_bearsIn_116 rfl ?_
              refine q_iload (t := 119) F dX9_bearsIn_117 rfl rfl ?_
              refine q_imul (t := 120) F dX9_bearsIn_119 rfl ?_
              refine q_goto (t := 130) F dX9_bearsIn_120 (by decide) ?_
              refine q_iret F dX9_bearsIn_130 rfl ?_
              refine ⟨_, rfl, im2, lm2, ?_, hR2, hag, hlg, rfl⟩
              rw [← hv, hch]
              unfold bearsK
              (repeat' split) <;> first | rfl | omega
        · refine q_iload (t := 103) F dX9_bearsIn_101 rfl rfl ?_
          refine q_goto (t := 130) F dX9_bearsIn_103 (by decide) ?_
          refine q_iret F dX9_bearsIn_130 rfl ?_
          refine ⟨_, rfl, im2, lm2, ?_, hR2, hag, hlg, rfl⟩
          rw [← hv, hch]
          unfold bearsK
          (repeat' split) <;> first | rfl | omega
      · refine q_iconst (t := 75) F dX9_bearsIn_74 rfl ?_
        refine q_iload (t := 77) F dX9_bearsIn_75 rfl rfl ?_
        refine q_imul (t := 78) F dX9_bearsIn_77 rfl ?_
        refine q_goto (t := 83) F dX9_bearsIn_78 (by decide) ?_
        refine q_istore (t := 85) F dX9_bearsIn_83 (by decide) rfl rfl ?_
        refine q_iload (t := 87) F dX9_bearsIn_85 rfl rfl ?_
        refine q_aload_n (t := 88) F dX9_bearsIn_87 rfl rfl rfl ?_
        refine g_X9_29 (t := 91) F dX9_bearsIn_88 rfl rfl ?_
        refine q_iload_n (t := 92) F dX9_bearsIn_91 rfl rfl rfl ?_
        first | refine ldN_35 (t := 93) F dX9_bearsIn_92 (by omega) rfl ?_ | refine ld_35 (t := 93) F dX9_bearsIn_92 (by omega) (by omega) rfl ?_
        try simp only [up_app, row_app, scr_app, cpy_app, Nat.reduceEqDiff, Int.reduceToNat, Int.toNat_natCast, and_true, true_and, and_false, false_and, and_self, reduceIte]
        rw [hag 35 0 _ (by omega)]
        refine q_iadd (t := 94) F dX9_bearsIn_93 rfl ?_
        refine q_istore (t := 96) F dX9_bearsIn_94 (by decide) rfl rfl ?_
        refine q_iload_n (t := 97) F dX9_bearsIn_96 rfl rfl rfl ?_
        refine q_iconst (t := 98) F dX9_bearsIn_97 rfl ?_
        refine q_icmp_ne (t := 101) (u := 106) F dX9_bearsIn_98 (by constructor <;> omega) (by constructor <;> omega) (by decide) rfl (fun c98 => ?_) (fun c98 => ?_)
        · refine q_iload_n (t := 107) F dX9_bearsIn_106 rfl rfl rfl ?_
          refine q_iconst (t := 108) F dX9_bearsIn_107 rfl ?_
          refine q_icmp_ne (t := 111) (u := 128) F dX9_bearsIn_108 (by first | exact hR _ _ _ | (constructor <;> omega)) (by first | exact hR _ _ _ | (constructor <;> omega)) (by decide) rfl (fun c108 => ?_) (fun c108 => ?_)
          · refine q_iload (t := 130) F dX9_bearsIn_128 rfl rfl ?_
            refine q_iret F dX9_bearsIn_130 rfl ?_
            refine ⟨_, rfl, im2, lm2, ?_, hR2, hag, hlg, rfl⟩
            rw [← hv, hch]
            unfold bearsK
            (repeat' split) <;> first | rfl | omega
          · refine q_iload (t := 113) F dX9_bearsIn_111 rfl rfl ?_
            refine q_if_eq (t := 116) (u := 123) F dX9_bearsIn_113 (by first | exact hR _ _ _ | (constructor <;> omega)) (by decide) rfl (fun c113 => ?_) (fun c113 => ?_)
            · refine q_iload (t := 125) F dX9_bearsIn_123 rfl rfl ?_
              refine q_goto (t := 130) F dX9_bearsIn_125 (by decide) ?_
              refine q_iret F dX9_bearsIn_130 rfl ?_
              refine ⟨_, rfl, im2, lm2, ?_, hR2, hag, hlg, rfl⟩
              rw [← hv, hch]
              unfold bearsK
              (repeat' split) <;> first | rfl | omega
            · refine q_iconst (t := 117) F dX9_bearsIn_116 rfl ?_
              refine q_iload (t := 119) F dX9_bearsIn_117 rfl rfl ?_
              refine q_imul (t := 120) F dX9_bearsIn_119 rfl ?_
              refine q_goto (t := 130) F dX9_bearsIn_120 (by decide) ?_
              refine q_iret F dX9_bearsIn_130 rfl ?_
              refine ⟨_, rfl, im2, lm2, ?_, hR2, hag, hlg, rfl⟩
              rw [← hv, hch]
              unfold bearsK
              (repeat' split) <;> first | rfl | omega
        · refine q_iload (t := 103) F dX9_bearsIn_101 rfl rfl ?_
          refine q_goto (t := 130) F dX9_bearsIn_103 (by decide) ?_
          refine q_iret F dX9_bearsIn_130 rfl ?_
          refine ⟨_, rfl, im2, lm2, ?_, hR2, hag, hlg, rfl⟩
          rw [← hv, hch]
          unfold bearsK
          (repeat' split) <;> first | rfl | omega
    · refine q_iconst (t := 38) F dX9_bearsIn_37 rfl ?_
      refine q_goto (t := 42) F dX9_bearsIn_38 (by decide) ?_
      refine q_istore (t := 44) F dX9_bearsIn_42 (by decide) rfl rfl ?_
      refine q_aload_n (t := 45) F dX9_bearsIn_44 rfl rfl rfl ?_
      refine q_iconst (t := 46) F dX9_bearsIn_45 rfl ?_
      refine q_iload_n (t := 47) F dX9_bearsIn_46 rfl rfl rfl ?_
      refine q_aload_n (t := 48) F dX9_bearsIn_47 rfl rfl rfl ?_
      refine g_X9_32 (t := 51) F dX9_bearsIn_48 rfl rfl ?_
      refine q_iload_n (t := 52) F dX9_bearsIn_51 rfl rfl rfl ?_
      first | refine ldN_36 (t := 53) F dX9_bearsIn_52 (by omega) rfl ?_ | refine ld_36 (t := 53) F dX9_bearsIn_52 (by omega) (by omega) rfl ?_
      refine q_iconst (t := 54) F dX9_bearsIn_53 rfl ?_
      refine q_iload_n (t := 55) F dX9_bearsIn_54 rfl rfl rfl ?_
      refine q_bipush (t := 57) F dX9_bearsIn_55 (by decide) rfl ?_
      refine q_irem (t := 58) F dX9_bearsIn_57 (by first | exact hR _ _ _ | (constructor <;> omega)) (by first | exact hR _ _ _ | (constructor <;> omega)) (by omega) (by omega) rfl ?_
      rw [show (q : Int) % 10 = ((q % 10 : Nat) : Int) by omega]
      refine q_aload_n (t := 59) F dX9_bearsIn_58 rfl rfl rfl ?_
      refine g_X9_35 (t := 62) F dX9_bearsIn_59 rfl rfl ?_
      refine q_iload_n (t := 63) F dX9_bearsIn_62 rfl rfl rfl ?_
      first | refine ldN_37 (t := 64) F dX9_bearsIn_63 (by omega) rfl ?_ | refine ld_37 (t := 64) F dX9_bearsIn_63 (by omega) (by omega) rfl ?_
      refine wp_callV (t := 67) [_, _, _, _, _, _] F dX9_bearsIn_64 k_X9_asks v_X9_asks ml_X9_354 rfl rfl rfl rfl (Nat.le_of_ble_eq_true rfl) (by decide) (m_30 (by omega)) (c_asksC _ G im bt rt lm h 2 (q / 10) (by omega) (by omega) _ _ _ _ (by exact hR _ _ _) (by constructor <;> omega) (by constructor <;> omega) (by exact hR _ _ _)) rfl (kI ?_)
      rintro v m' ⟨im2, lm2, hv, hR2, hag, hlg, rfl⟩
      have hv1 := sayR_in im (im 30 0 4).toNat 2 (nmA (im 36 0 q) 0 (im 30 0 7) (im 35 0 (q / 10)) ((q % 10 : Nat) : Int) (im 37 0 q))
      rw [← hv] at hv1
      refine q_istore (t := 69) F dX9_bearsIn_67 (by decide) rfl rfl ?_
      refine q_iload (t := 71) F dX9_bearsIn_69 rfl rfl ?_
      refine q_if_eq (t := 74) (u := 81) F dX9_bearsIn_71 (by first | exact hR _ _ _ | (constructor <;> omega)) (by decide) rfl (fun c71 => ?_) (fun c71 => ?_)
      · refine q_iload (t := 83) F dX9_bearsIn_81 rfl rfl ?_
        refine q_istore (t := 85) F dX9_bearsIn_83 (by decide) rfl rfl ?_
        refine q_iload (t := 87) F dX9_bearsIn_85 rfl rfl ?_
        refine q_aload_n (t := 88) F dX9_bearsIn_87 rfl rfl rfl ?_
        refine g_X9_29 (t := 91) F dX9_bearsIn_88 rfl rfl ?_
        refine q_iload_n (t := 92) F dX9_bearsIn_91 rfl rfl rfl ?_
        first | refine ldN_35 (t := 93) F dX9_bearsIn_92 (by omega) rfl ?_ | refine ld_35 (t := 93) F dX9_bearsIn_92 (by omega) (by omega) rfl ?_
        try simp only [up_app, row_app, scr_app, cpy_app, Nat.reduceEqDiff, Int.reduceToNat, Int.toNat_natCast, and_true, true_and, and_false, false_and, and_self, reduceIte]
        rw [hag 35 0 _ (by omega)]
        refine q_iadd (t := 94) F dX9_bearsIn_93 rfl ?_
        refine q_istore (t := 96) F dX9_bearsIn_94 (by decide) rfl rfl ?_
        refine q_iload_n (t := 97) F dX9_bearsIn_96 rfl rfl rfl ?_
        refine q_iconst (t := 98) F dX9_bearsIn_97 rfl ?_
        refine q_icmp_ne (t := 101) (u := 106) F dX9_bearsIn_98 (by constructor <;> omega) (by constructor <;> omega) (by decide) rfl (fun c98 => ?_) (fun c98 => ?_)
        · refine q_iload_n (t := 107) F dX9_bearsIn_106 rfl rfl rfl ?_
          refine q_iconst (t := 108) F dX9_bearsIn_107 rfl ?_
          refine q_icmp_ne (t := 111) (u := 128) F dX9_bearsIn_108 (by first | exact hR _ _ _ | (constructor <;> omega)) (by first | exact hR _ _ _ | (constructor <;> omega)) (by decide) rfl (fun c108 => ?_) (fun c108 => ?_)
          · refine q_iload (t := 130) F dX9_bearsIn_128 rfl rfl ?_
            refine q_iret F dX9_bearsIn_130 rfl ?_
            refine ⟨_, rfl, im2, lm2, ?_, hR2, hag, hlg, rfl⟩
            rw [← hv, hch]
            unfold bearsK
            (repeat' split) <;> first | rfl | omega
          · refine q_iload (t := 113) F dX9_bearsIn_111 rfl rfl ?_
            refine q_if_eq (t := 116) (u := 123) F dX9_bearsIn_113 (by first | exact hR _ _ _ | (constructor <;> omega)) (by decide) rfl (fun c113 => ?_) (fun c113 => ?_)
            · refine q_iload (t := 125) F dX9_bearsIn_123 rfl rfl ?_
              refine q_goto (t := 130) F dX9_bearsIn_125 (by decide) ?_
              refine q_iret F dX9_bearsIn_130 rfl ?_
              refine ⟨_, rfl, im2, lm2, ?_, hR2, hag, hlg, rfl⟩
              rw [← hv, hch]
              unfold bearsK
              (repeat' split) <;> first | rfl | omega
            · refine q_iconst (t := 117) F dX9_bearsIn_116 rfl ?_
              refine q_iload (t := 119) F dX9_bearsIn_117 rfl rfl ?_
              refine q_imul (t := 120) F dX9_bearsIn_119 rfl ?_
              refine q_goto (t := 130) F dX9_bearsIn_120 (by decide) ?_
              refine q_iret F dX9_bearsIn_130 rfl ?_
              refine ⟨_, rfl, im2, lm2, ?_, hR2, hag, hlg, rfl⟩
              rw [← hv, hch]
              unfold bearsK
              (repeat' split) <;> first | rfl | omega
        · refine q_iload (t := 103) F dX9_bearsIn_101 rfl rfl ?_
          refine q_goto (t := 130) F dX9_bearsIn_103 (by decide) ?_
          refine q_iret F dX9_bearsIn_130 rfl ?_
          refine ⟨_, rfl, im2, lm2, ?_, hR2, hag, hlg, rfl⟩
          rw [← hv, hch]
          unfold bearsK
          (repeat' split) <;> first | rfl | omega
      · refine q_iconst (t := 75) F dX9_bearsIn_74 rfl ?_
        refine q_iload (t := 77) F dX9_bearsIn_75 rfl rfl ?_
        refine q_imul (t := 78) F dX9_bearsIn_77 rfl ?_
        refine q_goto (t := 83) F dX9_bearsIn_78 (by decide) ?_
        refine q_istore (t := 85) F dX9_bearsIn_83 (by decide) rfl rfl ?_
        refine q_iload (t := 87) F dX9_bearsIn_85 rfl rfl ?_
        refine q_aload_n (t := 88) F dX9_bearsIn_87 rfl rfl rfl ?_
        refine g_X9_29 (t := 91) F dX9_bearsIn_88 rfl rfl ?_
        refine q_iload_n (t := 92) F dX9_bearsIn_91 rfl rfl rfl ?_
        first | refine ldN_35 (t := 93) F dX9_bearsIn_92 (by omega) rfl ?_ | refine ld_35 (t := 93) F dX9_bearsIn_92 (by omega) (by omega) rfl ?_
        try simp only [up_app, row_app, scr_app, cpy_app, Nat.reduceEqDiff, Int.reduceToNat, Int.toNat_natCast, and_true, true_and, and_false, false_and, and_self, reduceIte]
        rw [hag 35 0 _ (by omega)]
        refine q_iadd (t := 94) F dX9_bearsIn_93 rfl ?_
        refine q_istore (t := 96) F dX9_bearsIn_94 (by decide) rfl rfl ?_
        refine q_iload_n (t := 97) F dX9_bearsIn_96 rfl rfl rfl ?_
        refine q_iconst (t := 98) F dX9_bearsIn_97 rfl ?_
        refine q_icmp_ne (t := 101) (u := 106) F dX9_bearsIn_98 (by constructor <;> omega) (by constructor <;> omega) (by decide) rfl (fun c98 => ?_) (fun c98 => ?_)
        · refine q_iload_n (t := 107) F dX9_bearsIn_106 rfl rfl rfl ?_
          refine q_iconst (t := 108) F dX9_bearsIn_107 rfl ?_
          refine q_icmp_ne (t := 111) (u := 128) F dX9_bearsIn_108 (by first | exact hR _ _ _ | (constructor <;> omega)) (by first | exact hR _ _ _ | (constructor <;> omega)) (by decide) rfl (fun c108 => ?_) (fun c108 => ?_)
          · refine q_iload (t := 130) F dX9_bearsIn_128 rfl rfl ?_
            refine q_iret F dX9_bearsIn_130 rfl ?_
            refine ⟨_, rfl, im2, lm2, ?_, hR2, hag, hlg, rfl⟩
            rw [← hv, hch]
            unfold bearsK
            (repeat' split) <;> first | rfl | omega
          · refine q_iload (t := 113) F dX9_bearsIn_111 rfl rfl ?_
            refine q_if_eq (t := 116) (u := 123) F dX9_bearsIn_113 (by first | exact hR _ _ _ | (constructor <;> omega)) (by decide) rfl (fun c113 => ?_) (fun c113 => ?_)
            · refine q_iload (t := 125) F dX9_bearsIn_123 rfl rfl ?_
              refine q_goto (t := 130) F dX9_bearsIn_125 (by decide) ?_
              refine q_iret F dX9_bearsIn_130 rfl ?_
              refine ⟨_, rfl, im2, lm2, ?_, hR2, hag, hlg, rfl⟩
              rw [← hv, hch]
              unfold bearsK
              (repeat' split) <;> first | rfl | omega
            · refine q_iconst (t := 117) F dX9_bearsIn_116 rfl ?_
              refine q_iload (t := 119) F dX9_bearsIn_117 rfl rfl ?_
              refine q_imul (t := 120) F dX9_bearsIn_119 rfl ?_
              refine q_goto (t := 130) F dX9_bearsIn_120 (by decide) ?_
              refine q_iret F dX9_bearsIn_130 rfl ?_
              refine ⟨_, rfl, im2, lm2, ?_, hR2, hag, hlg, rfl⟩
              rw [← hv, hch]
              unfold bearsK
              (repeat' split) <;> first | rfl | omega
        · refine q_iload (t := 103) F dX9_bearsIn_101 rfl rfl ?_
          refine q_goto (t := 130) F dX9_bearsIn_103 (by decide) ?_
          refine q_iret F dX9_bearsIn_130 rfl ?_
          refine ⟨_, rfl, im2, lm2, ?_, hR2, hag, hlg, rfl⟩
          rw [← hv, hch]
          unfold bearsK
          (repeat' split) <;> first | rfl | omega
  · refine q_iconst (t := 18) F dX9_bearsIn_17 rfl ?_
    refine q_iret F dX9_bearsIn_18 rfl ?_
    refine ⟨_, rfl, im, lm, ?_, hR, agY_rfl im, lgQ_rfl lm, rfl⟩
    unfold bearsK
    (repeat' split) <;> first | rfl | omega
