/-! the reference: told -/

def hoR (im : IM) (q : Nat) : Int := holdsK (im 34 0 (q / 10)) (im 35 0 (q / 10)) (sayR im (im 30 0 4).toNat 1 (nmA (im 36 0 q) 0 (im 30 0 7) (im 35 0 (q / 10)) ((q % 10 : Nat) : Int) (im 37 0 q)))
def tdR (im : IM) (p : Int) (w : Int) : Int := if ((0 ≤ w ∧ w ≤ 4) ∨ (10 ≤ w ∧ w ≤ 39)) ∧ (1 < w → 0 ≤ p ∧ p < im 30 0 12) then (if w = 0 then im 30 0 7 else if w = 1 then im 30 0 8 else if w = 2 then im 35 0 p.toNat else if w = 3 then im 34 0 p.toNat else if w = 4 then cntW (stR im p.toNat) 10 else if im 36 0 (10 * p.toNat + (w % 10).toNat) = -1 then -1 else if w < 20 then im 36 0 (10 * p.toNat + (w % 10).toNat) else if w < 30 then im 37 0 (10 * p.toNat + (w % 10).toNat) else hoR im (10 * p.toNat + (w % 10).toNat)) else -2

set_option maxHeartbeats 4000000 in
theorem c_X9_told (l : Launch) (G : GS) (im : IM) (bt rt : Nat) (lm : IM) (h : RC im) (p w : Int) (hp : ri p) (hw : ri w) : Cn l (XR G) yX9_told Y_X9_told [vR 30 0, vI p, vI w] (im, rs bt rt, lm) (pI fun x m' => ∃ im' lm', x = tdR im p w ∧ RI im' ∧ agY im' im ∧ lgQ lm' lm ∧ m' = (im', rs bt rt, lm')) := by
  refine cn_of (by decide) (okR G) rfl (Nat.le_of_ble_eq_true rfl) ?_
  intro M ad hMl F
  subst hMl
  have hR := h.1
  have hX := h.2.1
  have h4 := h.2.2.1
  have h12 := h.2.2.2.1
  have h7 := h.2.2.2.2.1
  have h6 := hX.2.2.1
  have h3 := hX.2.2.2.1
  have hP := h.2.2.2.2.2.2
  have p1 := hp.1
  have p2 := hp.2
  have w1 := hw.1
  have w2 := hw.2
  refine wp_pad 1 ?_
  show Wp M (XR G) ad Y_X9_told (pI fun x m' => ∃ im' lm', x = tdR im p w ∧ RI im' ∧ agY im' im ∧ lgQ lm' lm ∧ m' = (im', rs bt rt, lm')) 0 [some (vR 30 0), some (vI p), some (vI w), none] [] (im, rs bt rt, lm)
  refine q_iload_n (t := 1) F dX9_told_0 rfl rfl rfl ?_
  refine q_i2l (t := 2) F dX9_told_1 (by first | exact hR _ _ _ | (constructor <;> omega)) rfl ?_
  refine q_lconst (t := 3) (x := 0) F dX9_told_2 (by decide) rfl ?_
  refine q_ldc2 (t := 6) (x := 4) F dX9_told_3 kl_X9_125 (by decide) rfl ?_
  refine wp_callS (t := 9) [_, _, _] F dX9_told_6 k_X9_in st_X9_in ml_X9_91 rfl rfl (Nat.le_of_ble_eq_true rfl) (by decide) (c_X9_in _ G _ _ _ _ _ _ _ (by constructor <;> omega) (by constructor <;> omega) (by constructor <;> omega)) rfl (kI ?_)
  rintro x6 m' ⟨hx6, rfl⟩
  have hx6 := if01 hx6
  refine q_if_ne (t := 12) (u := 26) F dX9_told_9 (by first | exact hR _ _ _ | (constructor <;> omega)) (by decide) rfl (fun c9 => ?_) (fun c9 => ?_)
  · refine q_iload_n (t := 27) F dX9_told_26 rfl rfl rfl ?_
    refine q_iconst (t := 28) F dX9_told_27 rfl ?_
    refine q_icmp_le (t := 31) (u := 42) F dX9_told_28 (by first | exact hR _ _ _ | (constructor <;> omega)) (by first | exact hR _ _ _ | (constructor <;> omega)) (by decide) rfl (fun c28 => ?_) (fun c28 => ?_)
    · refine q_iload_n (t := 43) F dX9_told_42 rfl rfl rfl ?_
      refine q_iconst (t := 44) F dX9_told_43 rfl ?_
      refine q_icmp_ge (t := 47) (u := 104) F dX9_told_44 (by first | exact hR _ _ _ | (constructor <;> omega)) (by first | exact hR _ _ _ | (constructor <;> omega)) (by decide) rfl (fun c44 => ?_) (fun c44 => ?_)
      · refine q_bipush (t := 106) F dX9_told_104 (by decide) rfl ?_
        refine q_iload_n (t := 107) F dX9_told_106 rfl rfl rfl ?_
        refine q_imul (t := 108) F dX9_told_107 rfl ?_
        refine q_iload_n (t := 109) F dX9_told_108 rfl rfl rfl ?_
        refine q_bipush (t := 111) F dX9_told_109 (by decide) rfl ?_
        refine q_irem (t := 112) F dX9_told_111 (by first | exact hR _ _ _ | (constructor <;> omega)) (by first | exact hR _ _ _ | (constructor <;> omega)) (by omega) (by omega) rfl ?_
        refine q_iadd (t := 113) F dX9_told_112 rfl ?_
        rw [show (10 : Int) * p + w % 10 = ((10 * p.toNat + (w % 10).toNat : Nat) : Int) by omega]
        refine q_istore_n (t := 114) F dX9_told_113 rfl (by decide) rfl rfl ?_
        refine q_aload_n (t := 115) F dX9_told_114 rfl rfl rfl ?_
        refine g_X9_32 (t := 118) F dX9_told_115 rfl rfl ?_
        refine q_iload_n (t := 119) F dX9_told_118 rfl rfl rfl ?_
        first | refine ldN_36 (t := 120) F dX9_told_119 (by omega) rfl ?_ | refine ld_36 (t := 120) F dX9_told_119 (by omega) (by omega) rfl ?_
        try simp only [up_app, row_app, scr_app, cpy_app, Nat.reduceEqDiff, Int.reduceToNat, Int.toNat_natCast, and_true, true_and, and_false, false_and, and_self, reduceIte]
        refine q_iconst (t := 121) F dX9_told_120 rfl ?_
        refine q_icmp_ne (t := 124) (u := 126) F dX9_told_121 (by exact hR _ _ _) (by constructor <;> omega) (by decide) rfl (fun c121 => ?_) (fun c121 => ?_)
        · refine q_iload_n (t := 127) F dX9_told_126 rfl rfl rfl ?_
          refine q_bipush (t := 129) F dX9_told_127 (by decide) rfl ?_
          refine q_icmp_ge (t := 132) (u := 141) F dX9_told_129 (by first | exact hR _ _ _ | (constructor <;> omega)) (by first | exact hR _ _ _ | (constructor <;> omega)) (by decide) rfl (fun c129 => ?_) (fun c129 => ?_)
          · refine q_iload_n (t := 142) F dX9_told_141 rfl rfl rfl ?_
            refine q_bipush (t := 144) F dX9_told_142 (by decide) rfl ?_
            refine q_icmp_ge (t := 147) (u := 156) F dX9_told_144 (by first | exact hR _ _ _ | (constructor <;> omega)) (by first | exact hR _ _ _ | (constructor <;> omega)) (by decide) rfl (fun c144 => ?_) (fun c144 => ?_)
            · refine q_aload_n (t := 157) F dX9_told_156 rfl rfl rfl ?_
              refine q_iload_n (t := 158) F dX9_told_157 rfl rfl rfl ?_
              refine wp_callV (t := 161) [_] F dX9_told_158 k_X9_holdsIn v_X9_holdsIn ml_X9_135 rfl rfl rfl rfl (Nat.le_of_ble_eq_true rfl) (by decide) (m_30 (by omega)) (c_X9_holdsIn _ G im bt rt lm h (10 * p.toNat + (w % 10).toNat) (by omega)) rfl (kI ?_)
              rintro x158 m' ⟨im2, lm2, hx, hR2, hag, hlg, rfl⟩
              refine q_iret F dX9_told_161 rfl ?_
              first
                | (exfalso; omega)
                | (refine ⟨_, rfl, im, lm, ?_, hR, agY_rfl im, lgQ_rfl lm, rfl⟩
                   unfold tdR
                   first
                     | rw [if_neg (by omega)]
                     | (rw [if_pos (by omega)]; repeat (first | rw [if_pos (by omega)] | rw [if_neg (by omega)])))
                | (refine ⟨_, rfl, im2, lm2, ?_, hR2, hag, hlg, rfl⟩
                   unfold tdR
                   rw [if_pos (by omega), if_neg (by omega), if_neg (by omega), if_neg (by omega), if_neg (by omega), if_neg (by omega), if_neg (by omega), if_neg (by omega), if_neg (by omega)]
                   exact hx)
            · refine q_aload_n (t := 148) F dX9_told_147 rfl rfl rfl ?_
              refine g_X9_35 (t := 151) F dX9_told_148 rfl rfl ?_
              refine q_iload_n (t := 152) F dX9_told_151 rfl rfl rfl ?_
              first | refine ldN_37 (t := 153) F dX9_told_152 (by omega) rfl ?_ | refine ld_37 (t := 153) F dX9_told_152 (by omega) (by omega) rfl ?_
              try simp only [up_app, row_app, scr_app, cpy_app, Nat.reduceEqDiff, Int.reduceToNat, Int.toNat_natCast, and_true, true_and, and_false, false_and, and_self, reduceIte]
              refine q_goto (t := 161) F dX9_told_153 (by decide) ?_
              refine q_iret F dX9_told_161 rfl ?_
              first
                | (exfalso; omega)
                | (refine ⟨_, rfl, im, lm, ?_, hR, agY_rfl im, lgQ_rfl lm, rfl⟩
                   unfold tdR
                   first
                     | rw [if_neg (by omega)]
                     | (rw [if_pos (by omega)]; repeat (first | rw [if_pos (by omega)] | rw [if_neg (by omega)])))
                | (refine ⟨_, rfl, im2, lm2, ?_, hR2, hag, hlg, rfl⟩
                   unfold tdR
                   rw [if_pos (by omega), if_neg (by omega), if_neg (by omega), if_neg (by omega), if_neg (by omega), if_neg (by omega), if_neg (by omega), if_neg (by omega), if_neg (by omega)]
                   exact hx)
          · refine q_aload_n (t := 133) F dX9_told_132 rfl rfl rfl ?_
            refine g_X9_32 (t := 136) F dX9_told_133 rfl rfl ?_
            refine q_iload_n (t := 137) F dX9_told_136 rfl rfl rfl ?_
            first | refine ldN_36 (t := 138) F dX9_told_137 (by omega) rfl ?_ | refine ld_36 (t := 138) F dX9_told_137 (by omega) (by omega) rfl ?_
            try simp only [up_app, row_app, scr_app, cpy_app, Nat.reduceEqDiff, Int.reduceToNat, Int.toNat_natCast, and_true, true_and, and_false, false_and, and_self, reduceIte]
            refine q_goto (t := 161) F dX9_told_138 (by decide) ?_
            refine q_iret F dX9_told_161 rfl ?_
            first
              | (exfalso; omega)
              | (refine ⟨_, rfl, im, lm, ?_, hR, agY_rfl im, lgQ_rfl lm, rfl⟩
                 unfold tdR
                 first
                   | rw [if_neg (by omega)]
                   | (rw [if_pos (by omega)]; repeat (first | rw [if_pos (by omega)] | rw [if_neg (by omega)])))
              | (refine ⟨_, rfl, im2, lm2, ?_, hR2, hag, hlg, rfl⟩
                 unfold tdR
                 rw [if_pos (by omega), if_neg (by omega), if_neg (by omega), if_neg (by omega), if_neg (by omega), if_neg (by omega), if_neg (by omega), if_neg (by omega), if_neg (by omega)]
                 exact hx)
        · refine q_iconst (t := 125) F dX9_told_124 rfl ?_
          refine q_iret F dX9_told_125 rfl ?_
          first
            | (exfalso; omega)
            | (refine ⟨_, rfl, im, lm, ?_, hR, agY_rfl im, lgQ_rfl lm, rfl⟩
               unfold tdR
               first
                 | rw [if_neg (by omega)]
                 | (rw [if_pos (by omega)]; repeat (first | rw [if_pos (by omega)] | rw [if_neg (by omega)])))
            | (refine ⟨_, rfl, im2, lm2, ?_, hR2, hag, hlg, rfl⟩
               unfold tdR
               rw [if_pos (by omega), if_neg (by omega), if_neg (by omega), if_neg (by omega), if_neg (by omega), if_neg (by omega), if_neg (by omega), if_neg (by omega), if_neg (by omega)]
               exact hx)
      · refine q_iload_n (t := 48) F dX9_told_47 rfl rfl rfl ?_
        refine q_if_ne (t := 51) (u := 58) F dX9_told_48 (by first | exact hR _ _ _ | (constructor <;> omega)) (by decide) rfl (fun c48 => ?_) (fun c48 => ?_)
        · refine q_iload_n (t := 59) F dX9_told_58 rfl rfl rfl ?_
          refine q_iconst (t := 60) F dX9_told_59 rfl ?_
          refine q_icmp_ne (t := 63) (u := 70) F dX9_told_60 (by first | exact hR _ _ _ | (constructor <;> omega)) (by first | exact hR _ _ _ | (constructor <;> omega)) (by decide) rfl (fun c60 => ?_) (fun c60 => ?_)
          · refine q_iload_n (t := 71) F dX9_told_70 rfl rfl rfl ?_
            refine q_iconst (t := 72) F dX9_told_71 rfl ?_
            refine q_icmp_ne (t := 75) (u := 84) F dX9_told_72 (by first | exact hR _ _ _ | (constructor <;> omega)) (by first | exact hR _ _ _ | (constructor <;> omega)) (by decide) rfl (fun c72 => ?_) (fun c72 => ?_)
            · refine q_iload_n (t := 85) F dX9_told_84 rfl rfl rfl ?_
              refine q_iconst (t := 86) F dX9_told_85 rfl ?_
              refine q_icmp_ne (t := 89) (u := 98) F dX9_told_86 (by first | exact hR _ _ _ | (constructor <;> omega)) (by first | exact hR _ _ _ | (constructor <;> omega)) (by decide) rfl (fun c86 => ?_) (fun c86 => ?_)
              · refine q_aload_n (t := 99) F dX9_told_98 rfl rfl rfl ?_
                refine q_iload_n (t := 100) F dX9_told_99 rfl rfl rfl ?_
                rw [show vI p = vI ((p.toNat : Nat) : Int) by rw [Int.toNat_of_nonneg (by omega)]]
                refine wp_callV (t := 103) [_] F dX9_told_100 k_X9_stuckOf v_X9_stuckOf ml_X9_131 rfl rfl rfl rfl (Nat.le_of_ble_eq_true rfl) (by decide) (m_30 (by omega)) (c_X9_stuckOf _ G im bt rt lm hR p.toNat (by omega)) rfl (kI ?_)
                rintro x100 m' ⟨rfl, rfl⟩
                refine q_iret F dX9_told_103 rfl ?_
                first
                  | (exfalso; omega)
                  | (refine ⟨_, rfl, im, lm, ?_, hR, agY_rfl im, lgQ_rfl lm, rfl⟩
                     unfold tdR
                     first
                       | rw [if_neg (by omega)]
                       | (rw [if_pos (by omega)]; repeat (first | rw [if_pos (by omega)] | rw [if_neg (by omega)])))
                  | (refine ⟨_, rfl, im2, lm2, ?_, hR2, hag, hlg, rfl⟩
                     unfold tdR
                     rw [if_pos (by omega), if_neg (by omega), if_neg (by omega), if_neg (by omega), if_neg (by omega), if_neg (by omega), if_neg (by omega), if_neg (by omega), if_neg (by omega)]
                     exact hx)
              · refine q_aload_n (t := 90) F dX9_told_89 rfl rfl rfl ?_
                refine g_X9_26 (t := 93) F dX9_told_90 rfl rfl ?_
                rw [show vI p = vI ((p.toNat : Nat) : Int) by rw [Int.toNat_of_nonneg (by omega)]]
                refine q_iload_n (t := 94) F dX9_told_93 rfl rfl rfl ?_
                first | refine ldN_34 (t := 95) F dX9_told_94 (by omega) rfl ?_ | refine ld_34 (t := 95) F dX9_told_94 (by omega) (by omega) rfl ?_
                try simp only [up_app, row_app, scr_app, cpy_app, Nat.reduceEqDiff, Int.reduceToNat, Int.toNat_natCast, and_true, true_and, and_false, false_and, and_self, reduceIte]
                refine q_goto (t := 103) F dX9_told_95 (by decide) ?_
                refine q_iret F dX9_told_103 rfl ?_
                first
                  | (exfalso; omega)
                  | (refine ⟨_, rfl, im, lm, ?_, hR, agY_rfl im, lgQ_rfl lm, rfl⟩
                     unfold tdR
                     first
                       | rw [if_neg (by omega)]
                       | (rw [if_pos (by omega)]; repeat (first | rw [if_pos (by omega)] | rw [if_neg (by omega)])))
                  | (refine ⟨_, rfl, im2, lm2, ?_, hR2, hag, hlg, rfl⟩
                     unfold tdR
                     rw [if_pos (by omega), if_neg (by omega), if_neg (by omega), if_neg (by omega), if_neg (by omega), if_neg (by omega), if_neg (by omega), if_neg (by omega), if_neg (by omega)]
                     exact hx)
            · refine q_aload_n (t := 76) F dX9_told_75 rfl rfl rfl ?_
              refine g_X9_29 (t := 79) F dX9_told_76 rfl rfl ?_
              rw [show vI p = vI ((p.toNat : Nat) : Int) by rw [Int.toNat_of_nonneg (by omega)]]
              refine q_iload_n (t := 80) F dX9_told_79 rfl rfl rfl ?_
              first | refine ldN_35 (t := 81) F dX9_told_80 (by omega) rfl ?_ | refine ld_35 (t := 81) F dX9_told_80 (by omega) (by omega) rfl ?_
              try simp only [up_app, row_app, scr_app, cpy_app, Nat.reduceEqDiff, Int.reduceToNat, Int.toNat_natCast, and_true, true_and, and_false, false_and, and_self, reduceIte]
              refine q_goto (t := 103) F dX9_told_81 (by decide) ?_
              refine q_iret F dX9_told_103 rfl ?_
              first
                | (exfalso; omega)
                | (refine ⟨_, rfl, im, lm, ?_, hR, agY_rfl im, lgQ_rfl lm, rfl⟩
                   unfold tdR
                   first
                     | rw [if_neg (by omega)]
                     | (rw [if_pos (by omega)]; repeat (first | rw [if_pos (by omega)] | rw [if_neg (by omega)])))
                | (refine ⟨_, rfl, im2, lm2, ?_, hR2, hag, hlg, rfl⟩
                   unfold tdR
                   rw [if_pos (by omega), if_neg (by omega), if_neg (by omega), if_neg (by omega), if_neg (by omega), if_neg (by omega), if_neg (by omega), if_neg (by omega), if_neg (by omega)]
                   exact hx)
          · refine q_aload_n (t := 64) F dX9_told_63 rfl rfl rfl ?_
            refine g_X9_23 (t := 67) F dX9_told_64 rfl rfl ?_
            try simp only [up_app, row_app, scr_app, cpy_app, Nat.reduceEqDiff, Int.reduceToNat, Int.toNat_natCast, and_true, true_and, and_false, false_and, and_self, reduceIte]
            refine q_goto (t := 103) F dX9_told_67 (by decide) ?_
            refine q_iret F dX9_told_103 rfl ?_
            first
              | (exfalso; omega)
              | (refine ⟨_, rfl, im, lm, ?_, hR, agY_rfl im, lgQ_rfl lm, rfl⟩
                 unfold tdR
                 first
                   | rw [if_neg (by omega)]
                   | (rw [if_pos (by omega)]; repeat (first | rw [if_pos (by omega)] | rw [if_neg (by omega)])))
              | (refine ⟨_, rfl, im2, lm2, ?_, hR2, hag, hlg, rfl⟩
                 unfold tdR
                 rw [if_pos (by omega), if_neg (by omega), if_neg (by omega), if_neg (by omega), if_neg (by omega), if_neg (by omega), if_neg (by omega), if_neg (by omega), if_neg (by omega)]
                 exact hx)
        · refine q_aload_n (t := 52) F dX9_told_51 rfl rfl rfl ?_
          refine g_X9_117 (t := 55) F dX9_told_52 rfl rfl ?_
          try simp only [up_app, row_app, scr_app, cpy_app, Nat.reduceEqDiff, Int.reduceToNat, Int.toNat_natCast, and_true, true_and, and_false, false_and, and_self, reduceIte]
          refine q_goto (t := 103) F dX9_told_55 (by decide) ?_
          refine q_iret F dX9_told_103 rfl ?_
          first
            | (exfalso; omega)
            | (refine ⟨_, rfl, im, lm, ?_, hR, agY_rfl im, lgQ_rfl lm, rfl⟩
               unfold tdR
               first
                 | rw [if_neg (by omega)]
                 | (rw [if_pos (by omega)]; repeat (first | rw [if_pos (by omega)] | rw [if_neg (by omega)])))
            | (refine ⟨_, rfl, im2, lm2, ?_, hR2, hag, hlg, rfl⟩
               unfold tdR
               rw [if_pos (by omega), if_neg (by omega), if_neg (by omega), if_neg (by omega), if_neg (by omega), if_neg (by omega), if_neg (by omega), if_neg (by omega), if_neg (by omega)]
               exact hx)
    · refine q_aload_n (t := 32) F dX9_told_31 rfl rfl rfl ?_
      refine q_iload_n (t := 33) F dX9_told_32 rfl rfl rfl ?_
      refine wp_callV (t := 36) [_] F dX9_told_33 k_X9_isOne v_X9_isOne ml_X9_101 rfl rfl rfl rfl (Nat.le_of_ble_eq_true rfl) (by decide) (m_30 (by omega)) (c_X9_isOne _ G im bt rt lm hR h12.1 h12.2 p (by constructor <;> omega)) rfl (kI ?_)
      rintro x33 m' ⟨hx33, rfl⟩
      have hx33 := if01 hx33
      refine q_if_ne (t := 39) (u := 42) F dX9_told_36 (by first | exact hR _ _ _ | (constructor <;> omega)) (by decide) rfl (fun c36 => ?_) (fun c36 => ?_)
      · refine q_iload_n (t := 43) F dX9_told_42 rfl rfl rfl ?_
        refine q_iconst (t := 44) F dX9_told_43 rfl ?_
        refine q_icmp_ge (t := 47) (u := 104) F dX9_told_44 (by first | exact hR _ _ _ | (constructor <;> omega)) (by first | exact hR _ _ _ | (constructor <;> omega)) (by decide) rfl (fun c44 => ?_) (fun c44 => ?_)
        · refine q_bipush (t := 106) F dX9_told_104 (by decide) rfl ?_
          refine q_iload_n (t := 107) F dX9_told_106 rfl rfl rfl ?_
          refine q_imul (t := 108) F dX9_told_107 rfl ?_
          refine q_iload_n (t := 109) F dX9_told_108 rfl rfl rfl ?_
          refine q_bipush (t := 111) F dX9_told_109 (by decide) rfl ?_
          refine q_irem (t := 112) F dX9_told_111 (by first | exact hR _ _ _ | (constructor <;> omega)) (by first | exact hR _ _ _ | (constructor <;> omega)) (by omega) (by omega) rfl ?_
          refine q_iadd (t := 113) F dX9_told_112 rfl ?_
          rw [show (10 : Int) * p + w % 10 = ((10 * p.toNat + (w % 10).toNat : Nat) : Int) by omega]
          refine q_istore_n (t := 114) F dX9_told_113 rfl (by decide) rfl rfl ?_
          refine q_aload_n (t := 115) F dX9_told_114 rfl rfl rfl ?_
          refine g_X9_32 (t := 118) F dX9_told_115 rfl rfl ?_
          refine q_iload_n (t := 119) F dX9_told_118 rfl rfl rfl ?_
          first | refine ldN_36 (t := 120) F dX9_told_119 (by omega) rfl ?_ | refine ld_36 (t := 120) F dX9_told_119 (by omega) (by omega) rfl ?_
          try simp only [up_app, row_app, scr_app, cpy_app, Nat.reduceEqDiff, Int.reduceToNat, Int.toNat_natCast, and_true, true_and, and_false, false_and, and_self, reduceIte]
          refine q_iconst (t := 121) F dX9_told_120 rfl ?_
          refine q_icmp_ne (t := 124) (u := 126) F dX9_told_121 (by exact hR _ _ _) (by constructor <;> omega) (by decide) rfl (fun c121 => ?_) (fun c121 => ?_)
          · refine q_iload_n (t := 127) F dX9_told_126 rfl rfl rfl ?_
            refine q_bipush (t := 129) F dX9_told_127 (by decide) rfl ?_
            refine q_icmp_ge (t := 132) (u := 141) F dX9_told_129 (by first | exact hR _ _ _ | (constructor <;> omega)) (by first | exact hR _ _ _ | (constructor <;> omega)) (by decide) rfl (fun c129 => ?_) (fun c129 => ?_)
            · refine q_iload_n (t := 142) F dX9_told_141 rfl rfl rfl ?_
              refine q_bipush (t := 144) F dX9_told_142 (by decide) rfl ?_
              refine q_icmp_ge (t := 147) (u := 156) F dX9_told_144 (by first | exact hR _ _ _ | (constructor <;> omega)) (by first | exact hR _ _ _ | (constructor <;> omega)) (by decide) rfl (fun c144 => ?_) (fun c144 => ?_)
              · refine q_aload_n (t := 157) F dX9_told_156 rfl rfl rfl ?_
                refine q_iload_n (t := 158) F dX9_told_157 rfl rfl rfl ?_
                refine wp_callV (t := 161) [_] F dX9_told_158 k_X9_holdsIn v_X9_holdsIn ml_X9_135 rfl rfl rfl rfl (Nat.le_of_ble_eq_true rfl) (by decide) (m_30 (by omega)) (c_X9_holdsIn _ G im bt rt lm h (10 * p.toNat + (w % 10).toNat) (by omega)) rfl (kI ?_)
                rintro x158 m' ⟨im2, lm2, hx, hR2, hag, hlg, rfl⟩
                refine q_iret F dX9_told_161 rfl ?_
                first
                  | (exfalso; omega)
                  | (refine ⟨_, rfl, im, lm, ?_, hR, agY_rfl im, lgQ_rfl lm, rfl⟩
                     unfold tdR
                     first
                       | rw [if_neg (by omega)]
                       | (rw [if_pos (by omega)]; repeat (first | rw [if_pos (by omega)] | rw [if_neg (by omega)])))
                  | (refine ⟨_, rfl, im2, lm2, ?_, hR2, hag, hlg, rfl⟩
                     unfold tdR
                     rw [if_pos (by omega), if_neg (by omega), if_neg (by omega), if_neg (by omega), if_neg (by omega), if_neg (by omega), if_neg (by omega), if_neg (by omega), if_neg (by omega)]
                     exact hx)
              · refine q_aload_n (t := 148) F dX9_told_147 rfl rfl rfl ?_
                refine g_X9_35 (t := 151) F dX9_told_148 rfl rfl ?_
                refine q_iload_n (t := 152) F dX9_told_151 rfl rfl rfl ?_
                first | refine ldN_37 (t := 153) F dX9_told_152 (by omega) rfl ?_ | refine ld_37 (t := 153) F dX9_told_152 (by omega) (by omega) rfl ?_
                try simp only [up_app, row_app, scr_app, cpy_app, Nat.reduceEqDiff, Int.reduceToNat, Int.toNat_natCast, and_true, true_and, and_false, false_and, and_self, reduceIte]
                refine q_goto (t := 161) F dX9_told_153 (by decide) ?_
                refine q_iret F dX9_told_161 rfl ?_
                first
                  | (exfalso; omega)
                  | (refine ⟨_, rfl, im, lm, ?_, hR, agY_rfl im, lgQ_rfl lm, rfl⟩
                     unfold tdR
                     first
                       | rw [if_neg (by omega)]
                       | (rw [if_pos (by omega)]; repeat (first | rw [if_pos (by omega)] | rw [if_neg (by omega)])))
                  | (refine ⟨_, rfl, im2, lm2, ?_, hR2, hag, hlg, rfl⟩
                     unfold tdR
                     rw [if_pos (by omega), if_neg (by omega), if_neg (by omega), if_neg (by omega), if_neg (by omega), if_neg (by omega), if_neg (by omega), if_neg (by omega), if_neg (by omega)]
                     exact hx)
            · refine q_aload_n (t := 133) F dX9_told_132 rfl rfl rfl ?_
              refine g_X9_32 (t := 136) F dX9_told_133 rfl rfl ?_
              refine q_iload_n (t := 137) F dX9_told_136 rfl rfl rfl ?_
              first | refine ldN_36 (t := 138) F dX9_told_137 (by omega) rfl ?_ | refine ld_36 (t := 138) F dX9_told_137 (by omega) (by omega) rfl ?_
              try simp only [up_app, row_app, scr_app, cpy_app, Nat.reduceEqDiff, Int.reduceToNat, Int.toNat_natCast, and_true, true_and, and_false, false_and, and_self, reduceIte]
              refine q_goto (t := 161) F dX9_told_138 (by decide) ?_
              refine q_iret F dX9_told_161 rfl ?_
              first
                | (exfalso; omega)
                | (refine ⟨_, rfl, im, lm, ?_, hR, agY_rfl im, lgQ_rfl lm, rfl⟩
                   unfold tdR
                   first
                     | rw [if_neg (by omega)]
                     | (rw [if_pos (by omega)]; repeat (first | rw [if_pos (by omega)] | rw [if_neg (by omega)])))
                | (refine ⟨_, rfl, im2, lm2, ?_, hR2, hag, hlg, rfl⟩
                   unfold tdR
                   rw [if_pos (by omega), if_neg (by omega), if_neg (by omega), if_neg (by omega), if_neg (by omega), if_neg (by omega), if_neg (by omega), if_neg (by omega), if_neg (by omega)]
                   exact hx)
          · refine q_iconst (t := 125) F dX9_told_124 rfl ?_
            refine q_iret F dX9_told_125 rfl ?_
            first
              | (exfalso; omega)
              | (refine ⟨_, rfl, im, lm, ?_, hR, agY_rfl im, lgQ_rfl lm, rfl⟩
                 unfold tdR
                 first
                   | rw [if_neg (by omega)]
                   | (rw [if_pos (by omega)]; repeat (first | rw [if_pos (by omega)] | rw [if_neg (by omega)])))
              | (refine ⟨_, rfl, im2, lm2, ?_, hR2, hag, hlg, rfl⟩
                 unfold tdR
                 rw [if_pos (by omega), if_neg (by omega), if_neg (by omega), if_neg (by omega), if_neg (by omega), if_neg (by omega), if_neg (by omega), if_neg (by omega), if_neg (by omega)]
                 exact hx)
        · refine q_iload_n (t := 48) F dX9_told_47 rfl rfl rfl ?_
          refine q_if_ne (t := 51) (u := 58) F dX9_told_48 (by first | exact hR _ _ _ | (constructor <;> omega)) (by decide) rfl (fun c48 => ?_) (fun c48 => ?_)
          · refine q_iload_n (t := 59) F dX9_told_58 rfl rfl rfl ?_
            refine q_iconst (t := 60) F dX9_told_59 rfl ?_
            refine q_icmp_ne (t := 63) (u := 70) F dX9_told_60 (by first | exact hR _ _ _ | (constructor <;> omega)) (by first | exact hR _ _ _ | (constructor <;> omega)) (by decide) rfl (fun c60 => ?_) (fun c60 => ?_)
            · refine q_iload_n (t := 71) F dX9_told_70 rfl rfl rfl ?_
              refine q_iconst (t := 72) F dX9_told_71 rfl ?_
              refine q_icmp_ne (t := 75) (u := 84) F dX9_told_72 (by first | exact hR _ _ _ | (constructor <;> omega)) (by first | exact hR _ _ _ | (constructor <;> omega)) (by decide) rfl (fun c72 => ?_) (fun c72 => ?_)
              · refine q_iload_n (t := 85) F dX9_told_84 rfl rfl rfl ?_
                refine q_iconst (t := 86) F dX9_told_85 rfl ?_
                refine q_icmp_ne (t := 89) (u := 98) F dX9_told_86 (by first | exact hR _ _ _ | (constructor <;> omega)) (by first | exact hR _ _ _ | (constructor <;> omega)) (by decide) rfl (fun c86 => ?_) (fun c86 => ?_)
                · refine q_aload_n (t := 99) F dX9_told_98 rfl rfl rfl ?_
                  refine q_iload_n (t := 100) F dX9_told_99 rfl rfl rfl ?_
                  rw [show vI p = vI ((p.toNat : Nat) : Int) by rw [Int.toNat_of_nonneg (by omega)]]
                  refine wp_callV (t := 103) [_] F dX9_told_100 k_X9_stuckOf v_X9_stuckOf ml_X9_131 rfl rfl rfl rfl (Nat.le_of_ble_eq_true rfl) (by decide) (m_30 (by omega)) (c_X9_stuckOf _ G im bt rt lm hR p.toNat (by omega)) rfl (kI ?_)
                  rintro x100 m' ⟨rfl, rfl⟩
                  refine q_iret F dX9_told_103 rfl ?_
                  first
                    | (exfalso; omega)
                    | (refine ⟨_, rfl, im, lm, ?_, hR, agY_rfl im, lgQ_rfl lm, rfl⟩
                       unfold tdR
                       first
                         | rw [if_neg (by omega)]
                         | (rw [if_pos (by omega)]; repeat (first | rw [if_pos (by omega)] | rw [if_neg (by omega)])))
                    | (refine ⟨_, rfl, im2, lm2, ?_, hR2, hag, hlg, rfl⟩
                       unfold tdR
                       rw [if_pos (by omega), if_neg (by omega), if_neg (by omega), if_neg (by omega), if_neg (by omega), if_neg (by omega), if_neg (by omega), if_neg (by omega), if_neg (by omega)]
                       exact hx)
                · refine q_aload_n (t := 90) F dX9_told_89 rfl rfl rfl ?_
                  refine g_X9_26 (t := 93) F dX9_told_90 rfl rfl ?_
                  rw [show vI p = vI ((p.toNat : Nat) : Int) by rw [Int.toNat_of_nonneg (by omega)]]
                  refine q_iload_n (t := 94) F dX9_told_93 rfl rfl rfl ?_
                  first | refine ldN_34 (t := 95) F dX9_told_94 (by omega) rfl ?_ | refine ld_34 (t := 95) F dX9_told_94 (by omega) (by omega) rfl ?_
                  try simp only [up_app, row_app, scr_app, cpy_app, Nat.reduceEqDiff, Int.reduceToNat, Int.toNat_natCast, and_true, true_and, and_false, false_and, and_self, reduceIte]
                  refine q_goto (t := 103) F dX9_told_95 (by decide) ?_
                  refine q_iret F dX9_told_103 rfl ?_
                  first
                    | (exfalso; omega)
                    | (refine ⟨_, rfl, im, lm, ?_, hR, agY_rfl im, lgQ_rfl lm, rfl⟩
                       unfold tdR
                       first
                         | rw [if_neg (by omega)]
                         | (rw [if_pos (by omega)]; repeat (first | rw [if_pos (by omega)] | rw [if_neg (by omega)])))
                    | (refine ⟨_, rfl, im2, lm2, ?_, hR2, hag, hlg, rfl⟩
                       unfold tdR
                       rw [if_pos (by omega), if_neg (by omega), if_neg (by omega), if_neg (by omega), if_neg (by omega), if_neg (by omega), if_neg (by omega), if_neg (by omega), if_neg (by omega)]
                       exact hx)
              · refine q_aload_n (t := 76) F dX9_told_75 rfl rfl rfl ?_
                refine g_X9_29 (t := 79) F dX9_told_76 rfl rfl ?_
                rw [show vI p = vI ((p.toNat : Nat) : Int) by rw [Int.toNat_of_nonneg (by omega)]]
                refine q_iload_n (t := 80) F dX9_told_79 rfl rfl rfl ?_
                first | refine ldN_35 (t := 81) F dX9_told_80 (by omega) rfl ?_ | refine ld_35 (t := 81) F dX9_told_80 (by omega) (by omega) rfl ?_
                try simp only [up_app, row_app, scr_app, cpy_app, Nat.reduceEqDiff, Int.reduceToNat, Int.toNat_natCast, and_true, true_and, and_false, false_and, and_self, reduceIte]
                refine q_goto (t := 103) F dX9_told_81 (by decide) ?_
                refine q_iret F dX9_told_103 rfl ?_
                first
                  | (exfalso; omega)
                  | (refine ⟨_, rfl, im, lm, ?_, hR, agY_rfl im, lgQ_rfl lm, rfl⟩
                     unfold tdR
                     first
                       | rw [if_neg (by omega)]
                       | (rw [if_pos (by omega)]; repeat (first | rw [if_pos (by omega)] | rw [if_neg (by omega)])))
                  | (refine ⟨_, rfl, im2, lm2, ?_, hR2, hag, hlg, rfl⟩
                     unfold tdR
                     rw [if_pos (by omega), if_neg (by omega), if_neg (by omega), if_neg (by omega), if_neg (by omega), if_neg (by omega), if_neg (by omega), if_neg (by omega), if_neg (by omega)]
                     exact hx)
            · refine q_aload_n (t := 64) F dX9_told_63 rfl rfl rfl ?_
              refine g_X9_23 (t := 67) F dX9_told_64 rfl rfl ?_
              try simp only [up_app, row_app, scr_app, cpy_app, Nat.reduceEqDiff, Int.reduceToNat, Int.toNat_natCast, and_true, true_and, and_false, false_and, and_self, reduceIte]
              refine q_goto (t := 103) F dX9_told_67 (by decide) ?_
              refine q_iret F dX9_told_103 rfl ?_
              first
                | (exfalso; omega)
                | (refine ⟨_, rfl, im, lm, ?_, hR, agY_rfl im, lgQ_rfl lm, rfl⟩
                   unfold tdR
                   first
                     | rw [if_neg (by omega)]
                     | (rw [if_pos (by omega)]; repeat (first | rw [if_pos (by omega)] | rw [if_neg (by omega)])))
                | (refine ⟨_, rfl, im2, lm2, ?_, hR2, hag, hlg, rfl⟩
                   unfold tdR
                   rw [if_pos (by omega), if_neg (by omega), if_neg (by omega), if_neg (by omega), if_neg (by omega), if_neg (by omega), if_neg (by omega), if_neg (by omega), if_neg (by omega)]
                   exact hx)
          · refine q_aload_n (t := 52) F dX9_told_51 rfl rfl rfl ?_
            refine g_X9_117 (t := 55) F dX9_told_52 rfl rfl ?_
            try simp only [up_app, row_app, scr_app, cpy_app, Nat.reduceEqDiff, Int.reduceToNat, Int.toNat_natCast, and_true, true_and, and_false, false_and, and_self, reduceIte]
            refine q_goto (t := 103) F dX9_told_55 (by decide) ?_
            refine q_iret F dX9_told_103 rfl ?_
            first
              | (exfalso; omega)
              | (refine ⟨_, rfl, im, lm, ?_, hR, agY_rfl im, lgQ_rfl lm, rfl⟩
                 unfold tdR
                 first
                   | rw [if_neg (by omega)]
                   | (rw [if_pos (by omega)]; repeat (first | rw [if_pos (by omega)] | rw [if_neg (by omega)])))
              | (refine ⟨_, rfl, im2, lm2, ?_, hR2, hag, hlg, rfl⟩
                 unfold tdR
                 rw [if_pos (by omega), if_neg (by omega), if_neg (by omega), if_neg (by omega), if_neg (by omega), if_neg (by omega), if_neg (by omega), if_neg (by omega), if_neg (by omega)]
                 exact hx)
      · refine q_bipush (t := 41) F dX9_told_39 (by decide) rfl ?_
        refine q_iret F dX9_told_41 rfl ?_
        first
          | (exfalso; omega)
          | (refine ⟨_, rfl, im, lm, ?_, hR, agY_rfl im, lgQ_rfl lm, rfl⟩
             unfold tdR
             first
               | rw [if_neg (by omega)]
               | (rw [if_pos (by omega)]; repeat (first | rw [if_pos (by omega)] | rw [if_neg (by omega)])))
          | (refine ⟨_, rfl, im2, lm2, ?_, hR2, hag, hlg, rfl⟩
             unfold tdR
             rw [if_pos (by omega), if_neg (by omega), if_neg (by omega), if_neg (by omega), if_neg (by omega), if_neg (by omega), if_neg (by omega), if_neg (by omega), if_neg (by omega)]
             exact hx)
  · refine q_iload_n (t := 13) F dX9_told_12 rfl rfl rfl ?_
    refine q_i2l (t := 14) F dX9_told_13 (by first | exact hR _ _ _ | (constructor <;> omega)) rfl ?_
    refine q_ldc2 (t := 17) (x := 10) F dX9_told_14 kl_X9_127 (by decide) rfl ?_
    refine q_ldc2 (t := 20) (x := 39) F dX9_told_17 kl_X9_129 (by decide) rfl ?_
    refine wp_callS (t := 23) [_, _, _] F dX9_told_20 k_X9_in st_X9_in ml_X9_91 rfl rfl (Nat.le_of_ble_eq_true rfl) (by decide) (c_X9_in _ G _ _ _ _ _ _ _ (by constructor <;> omega) (by constructor <;> omega) (by constructor <;> omega)) rfl (kI ?_)
    rintro x20 m' ⟨hx20, rfl⟩
    have hx20 := if01 hx20
    refine q_if_eq (t := 26) (u := 39) F dX9_told_23 (by first | exact hR _ _ _ | (constructor <;> omega)) (by decide) rfl (fun c23 => ?_) (fun c23 => ?_)
    · refine q_bipush (t := 41) F dX9_told_39 (by decide) rfl ?_
      refine q_iret F dX9_told_41 rfl ?_
      first
        | (exfalso; omega)
        | (refine ⟨_, rfl, im, lm, ?_, hR, agY_rfl im, lgQ_rfl lm, rfl⟩
           unfold tdR
           first
             | rw [if_neg (by omega)]
             | (rw [if_pos (by omega)]; repeat (first | rw [if_pos (by omega)] | rw [if_neg (by omega)])))
        | (refine ⟨_, rfl, im2, lm2, ?_, hR2, hag, hlg, rfl⟩
           unfold tdR
           rw [if_pos (by omega), if_neg (by omega), if_neg (by omega), if_neg (by omega), if_neg (by omega), if_neg (by omega), if_neg (by omega), if_neg (by omega), if_neg (by omega)]
           exact hx)
    · refine q_iload_n (t := 27) F dX9_told_26 rfl rfl rfl ?_
      refine q_iconst (t := 28) F dX9_told_27 rfl ?_
      refine q_icmp_le (t := 31) (u := 42) F dX9_told_28 (by first | exact hR _ _ _ | (constructor <;> omega)) (by first | exact hR _ _ _ | (constructor <;> omega)) (by decide) rfl (fun c28 => ?_) (fun c28 => ?_)
      · refine q_iload_n (t := 43) F dX9_told_42 rfl rfl rfl ?_
        refine q_iconst (t := 44) F dX9_told_43 rfl ?_
        refine q_icmp_ge (t := 47) (u := 104) F dX9_told_44 (by first | exact hR _ _ _ | (constructor <;> omega)) (by first | exact hR _ _ _ | (constructor <;> omega)) (by decide) rfl (fun c44 => ?_) (fun c44 => ?_)
        · refine q_bipush (t := 106) F dX9_told_104 (by decide) rfl ?_
          refine q_iload_n (t := 107) F dX9_told_106 rfl rfl rfl ?_
          refine q_imul (t := 108) F dX9_told_107 rfl ?_
          refine q_iload_n (t := 109) F dX9_told_108 rfl rfl rfl ?_
          refine q_bipush (t := 111) F dX9_told_109 (by decide) rfl ?_
          refine q_irem (t := 112) F dX9_told_111 (by first | exact hR _ _ _ | (constructor <;> omega)) (by first | exact hR _ _ _ | (constructor <;> omega)) (by omega) (by omega) rfl ?_
          refine q_iadd (t := 113) F dX9_told_112 rfl ?_
          rw [show (10 : Int) * p + w % 10 = ((10 * p.toNat + (w % 10).toNat : Nat) : Int) by omega]
          refine q_istore_n (t := 114) F dX9_told_113 rfl (by decide) rfl rfl ?_
          refine q_aload_n (t := 115) F dX9_told_114 rfl rfl rfl ?_
          refine g_X9_32 (t := 118) F dX9_told_115 rfl rfl ?_
          refine q_iload_n (t := 119) F dX9_told_118 rfl rfl rfl ?_
          first | refine ldN_36 (t := 120) F dX9_told_119 (by omega) rfl ?_ | refine ld_36 (t := 120) F dX9_told_119 (by omega) (by omega) rfl ?_
          try simp only [up_app, row_app, scr_app, cpy_app, Nat.reduceEqDiff, Int.reduceToNat, Int.toNat_natCast, and_true, true_and, and_false, false_and, and_self, reduceIte]
          refine q_iconst (t := 121) F dX9_told_120 rfl ?_
          refine q_icmp_ne (t := 124) (u := 126) F dX9_told_121 (by exact hR _ _ _) (by constructor <;> omega) (by decide) rfl (fun c121 => ?_) (fun c121 => ?_)
          · refine q_iload_n (t := 127) F dX9_told_126 rfl rfl rfl ?_
            refine q_bipush (t := 129) F dX9_told_127 (by decide) rfl ?_
            refine q_icmp_ge (t := 132) (u := 141) F dX9_told_129 (by first | exact hR _ _ _ | (constructor <;> omega)) (by first | exact hR _ _ _ | (constructor <;> omega)) (by decide) rfl (fun c129 => ?_) (fun c129 => ?_)
            · refine q_iload_n (t := 142) F dX9_told_141 rfl rfl rfl ?_
              refine q_bipush (t := 144) F dX9_told_142 (by decide) rfl ?_
              refine q_icmp_ge (t := 147) (u := 156) F dX9_told_144 (by first | exact hR _ _ _ | (constructor <;> omega)) (by first | exact hR _ _ _ | (constructor <;> omega)) (by decide) rfl (fun c144 => ?_) (fun c144 => ?_)
              · refine q_aload_n (t := 157) F dX9_told_156 rfl rfl rfl ?_
                refine q_iload_n (t := 158) F dX9_told_157 rfl rfl rfl ?_
                refine wp_callV (t := 161) [_] F dX9_told_158 k_X9_holdsIn v_X9_holdsIn ml_X9_135 rfl rfl rfl rfl (Nat.le_of_ble_eq_true rfl) (by decide) (m_30 (by omega)) (c_X9_holdsIn _ G im bt rt lm h (10 * p.toNat + (w % 10).toNat) (by omega)) rfl (kI ?_)
                rintro x158 m' ⟨im2, lm2, hx, hR2, hag, hlg, rfl⟩
                refine q_iret F dX9_told_161 rfl ?_
                first
                  | (exfalso; omega)
                  | (refine ⟨_, rfl, im, lm, ?_, hR, agY_rfl im, lgQ_rfl lm, rfl⟩
                     unfold tdR
                     first
                       | rw [if_neg (by omega)]
                       | (rw [if_pos (by omega)]; repeat (first | rw [if_pos (by omega)] | rw [if_neg (by omega)])))
                  | (refine ⟨_, rfl, im2, lm2, ?_, hR2, hag, hlg, rfl⟩
                     unfold tdR
                     rw [if_pos (by omega), if_neg (by omega), if_neg (by omega), if_neg (by omega), if_neg (by omega), if_neg (by omega), if_neg (by omega), if_neg (by omega), if_neg (by omega)]
                     exact hx)
              · refine q_aload_n (t := 148) F dX9_told_147 rfl rfl rfl ?_
                refine g_X9_35 (t := 151) F dX9_told_148 rfl rfl ?_
                refine q_iload_n (t := 152) F dX9_told_151 rfl rfl rfl ?_
                first | refine ldN_37 (t := 153) F dX9_told_152 (by omega) rfl ?_ | refine ld_37 (t := 153) F dX9_told_152 (by omega) (by omega) rfl ?_
                try simp only [up_app, row_app, scr_app, cpy_app, Nat.reduceEqDiff, Int.reduceToNat, Int.toNat_natCast, and_true, true_and, and_false, false_and, and_self, reduceIte]
                refine q_goto (t := 161) F dX9_told_153 (by decide) ?_
                refine q_iret F dX9_told_161 rfl ?_
                first
                  | (exfalso; omega)
                  | (refine ⟨_, rfl, im, lm, ?_, hR, agY_rfl im, lgQ_rfl lm, rfl⟩
                     unfold tdR
                     first
                       | rw [if_neg (by omega)]
                       | (rw [if_pos (by omega)]; repeat (first | rw [if_pos (by omega)] | rw [if_neg (by omega)])))
                  | (refine ⟨_, rfl, im2, lm2, ?_, hR2, hag, hlg, rfl⟩
                     unfold tdR
                     rw [if_pos (by omega), if_neg (by omega), if_neg (by omega), if_neg (by omega), if_neg (by omega), if_neg (by omega), if_neg (by omega), if_neg (by omega), if_neg (by omega)]
                     exact hx)
            · refine q_aload_n (t := 133) F dX9_told_132 rfl rfl rfl ?_
              refine g_X9_32 (t := 136) F dX9_told_133 rfl rfl ?_
              refine q_iload_n (t := 137) F dX9_told_136 rfl rfl rfl ?_
              first | refine ldN_36 (t := 138) F dX9_told_137 (by omega) rfl ?_ | refine ld_36 (t := 138) F dX9_told_137 (by omega) (by omega) rfl ?_
              try simp only [up_app, row_app, scr_app, cpy_app, Nat.reduceEqDiff, Int.reduceToNat, Int.toNat_natCast, and_true, true_and, and_false, false_and, and_self, reduceIte]
              refine q_goto (t := 161) F dX9_told_138 (by decide) ?_
              refine q_iret F dX9_told_161 rfl ?_
              first
                | (exfalso; omega)
                | (refine ⟨_, rfl, im, lm, ?_, hR, agY_rfl im, lgQ_rfl lm, rfl⟩
                   unfold tdR
                   first
                     | rw [if_neg (by omega)]
                     | (rw [if_pos (by omega)]; repeat (first | rw [if_pos (by omega)] | rw [if_neg (by omega)])))
                | (refine ⟨_, rfl, im2, lm2, ?_, hR2, hag, hlg, rfl⟩
                   unfold tdR
                   rw [if_pos (by omega), if_neg (by omega), if_neg (by omega), if_neg (by omega), if_neg (by omega), if_neg (by omega), if_neg (by omega), if_neg (by omega), if_neg (by omega)]
                   exact hx)
          · refine q_iconst (t := 125) F dX9_told_124 rfl ?_
            refine q_iret F dX9_told_125 rfl ?_
            first
              | (exfalso; omega)
              | (refine ⟨_, rfl, im, lm, ?_, hR, agY_rfl im, lgQ_rfl lm, rfl⟩
                 unfold tdR
                 first
                   | rw [if_neg (by omega)]
                   | (rw [if_pos (by omega)]; repeat (first | rw [if_pos (by omega)] | rw [if_neg (by omega)])))
              | (refine ⟨_, rfl, im2, lm2, ?_, hR2, hag, hlg, rfl⟩
                 unfold tdR
                 rw [if_pos (by omega), if_neg (by omega), if_neg (by omega), if_neg (by omega), if_neg (by omega), if_neg (by omega), if_neg (by omega), if_neg (by omega), if_neg (by omega)]
                 exact hx)
        · refine q_iload_n (t := 48) F dX9_told_47 rfl rfl rfl ?_
          refine q_if_ne (t := 51) (u := 58) F dX9_told_48 (by first | exact hR _ _ _ | (constructor <;> omega)) (by decide) rfl (fun c48 => ?_) (fun c48 => ?_)
          · refine q_iload_n (t := 59) F dX9_told_58 rfl rfl rfl ?_
            refine q_iconst (t := 60) F dX9_told_59 rfl ?_
            refine q_icmp_ne (t := 63) (u := 70) F dX9_told_60 (by first | exact hR _ _ _ | (constructor <;> omega)) (by first | exact hR _ _ _ | (constructor <;> omega)) (by decide) rfl (fun c60 => ?_) (fun c60 => ?_)
            · refine q_iload_n (t := 71) F dX9_told_70 rfl rfl rfl ?_
              refine q_iconst (t := 72) F dX9_told_71 rfl ?_
              refine q_icmp_ne (t := 75) (u := 84) F dX9_told_72 (by first | exact hR _ _ _ | (constructor <;> omega)) (by first | exact hR _ _ _ | (constructor <;> omega)) (by decide) rfl (fun c72 => ?_) (fun c72 => ?_)
              · refine q_iload_n (t := 85) F dX9_told_84 rfl rfl rfl ?_
                refine q_iconst (t := 86) F dX9_told_85 rfl ?_
                refine q_icmp_ne (t := 89) (u := 98) F dX9_told_86 (by first | exact hR _ _ _ | (constructor <;> omega)) (by first | exact hR _ _ _ | (constructor <;> omega)) (by decide) rfl (fun c86 => ?_) (fun c86 => ?_)
                · refine q_aload_n (t := 99) F dX9_told_98 rfl rfl rfl ?_
                  refine q_iload_n (t := 100) F dX9_told_99 rfl rfl rfl ?_
                  rw [show vI p = vI ((p.toNat : Nat) : Int) by rw [Int.toNat_of_nonneg (by omega)]]
                  refine wp_callV (t := 103) [_] F dX9_told_100 k_X9_stuckOf v_X9_stuckOf ml_X9_131 rfl rfl rfl rfl (Nat.le_of_ble_eq_true rfl) (by decide) (m_30 (by omega)) (c_X9_stuckOf _ G im bt rt lm hR p.toNat (by omega)) rfl (kI ?_)
                  rintro x100 m' ⟨rfl, rfl⟩
                  refine q_iret F dX9_told_103 rfl ?_
                  first
                    | (exfalso; omega)
                    | (refine ⟨_, rfl, im, lm, ?_, hR, agY_rfl im, lgQ_rfl lm, rfl⟩
                       unfold tdR
                       first
                         | rw [if_neg (by omega)]
                         | (rw [if_pos (by omega)]; repeat (first | rw [if_pos (by omega)] | rw [if_neg (by omega)])))
                    | (refine ⟨_, rfl, im2, lm2, ?_, hR2, hag, hlg, rfl⟩
                       unfold tdR
                       rw [if_pos (by omega), if_neg (by omega), if_neg (by omega), if_neg (by omega), if_neg (by omega), if_neg (by omega), if_neg (by omega), if_neg (by omega), if_neg (by omega)]
                       exact hx)
                · refine q_aload_n (t := 90) F dX9_told_89 rfl rfl rfl ?_
                  refine g_X9_26 (t := 93) F dX9_told_90 rfl rfl ?_
                  rw [show vI p = vI ((p.toNat : Nat) : Int) by rw [Int.toNat_of_nonneg (by omega)]]
                  refine q_iload_n (t := 94) F dX9_told_93 rfl rfl rfl ?_
                  first | refine ldN_34 (t := 95) F dX9_told_94 (by omega) rfl ?_ | refine ld_34 (t := 95) F dX9_told_94 (by omega) (by omega) rfl ?_
                  try simp only [up_app, row_app, scr_app, cpy_app, Nat.reduceEqDiff, Int.reduceToNat, Int.toNat_natCast, and_true, true_and, and_false, false_and, and_self, reduceIte]
                  refine q_goto (t := 103) F dX9_told_95 (by decide) ?_
                  refine q_iret F dX9_told_103 rfl ?_
                  first
                    | (exfalso; omega)
                    | (refine ⟨_, rfl, im, lm, ?_, hR, agY_rfl im, lgQ_rfl lm, rfl⟩
                       unfold tdR
                       first
                         | rw [if_neg (by omega)]
                         | (rw [if_pos (by omega)]; repeat (first | rw [if_pos (by omega)] | rw [if_neg (by omega)])))
                    | (refine ⟨_, rfl, im2, lm2, ?_, hR2, hag, hlg, rfl⟩
                       unfold tdR
                       rw [if_pos (by omega), if_neg (by omega), if_neg (by omega), if_neg (by omega), if_neg (by omega), if_neg (by omega), if_neg (by omega), if_neg (by omega), if_neg (by omega)]
                       exact hx)
              · refine q_aload_n (t := 76) F dX9_told_75 rfl rfl rfl ?_
                refine g_X9_29 (t := 79) F dX9_told_76 rfl rfl ?_
                rw [show vI p = vI ((p.toNat : Nat) : Int) by rw [Int.toNat_of_nonneg (by omega)]]
                refine q_iload_n (t := 80) F dX9_told_79 rfl rfl rfl ?_
                first | refine ldN_35 (t := 81) F dX9_told_80 (by omega) rfl ?_ | refine ld_35 (t := 81) F dX9_told_80 (by omega) (by omega) rfl ?_
                try simp only [up_app, row_app, scr_app, cpy_app, Nat.reduceEqDiff, Int.reduceToNat, Int.toNat_natCast, and_true, true_and, and_false, false_and, and_self, reduceIte]
                refine q_goto (t := 103) F dX9_told_81 (by decide) ?_
                refine q_iret F dX9_told_103 rfl ?_
                first
                  | (exfalso; omega)
                  | (refine ⟨_, rfl, im, lm, ?_, hR, agY_rfl im, lgQ_rfl lm, rfl⟩
                     unfold tdR
                     first
                       | rw [if_neg (by omega)]
                       | (rw [if_pos (by omega)]; repeat (first | rw [if_pos (by omega)] | rw [if_neg (by omega)])))
                  | (refine ⟨_, rfl, im2, lm2, ?_, hR2, hag, hlg, rfl⟩
                     unfold tdR
                     rw [if_pos (by omega), if_neg (by omega), if_neg (by omega), if_neg (by omega), if_neg (by omega), if_neg (by omega), if_neg (by omega), if_neg (by omega), if_neg (by omega)]
                     exact hx)
            · refine q_aload_n (t := 64) F dX9_told_63 rfl rfl rfl ?_
              refine g_X9_23 (t := 67) F dX9_told_64 rfl rfl ?_
              try simp only [up_app, row_app, scr_app, cpy_app, Nat.reduceEqDiff, Int.reduceToNat, Int.toNat_natCast, and_true, true_and, and_false, false_and, and_self, reduceIte]
              refine q_goto (t := 103) F dX9_told_67 (by decide) ?_
              refine q_iret F dX9_told_103 rfl ?_
              first
                | (exfalso; omega)
                | (refine ⟨_, rfl, im, lm, ?_, hR, agY_rfl im, lgQ_rfl lm, rfl⟩
                   unfold tdR
                   first
                     | rw [if_neg (by omega)]
                     | (rw [if_pos (by omega)]; repeat (first | rw [if_pos (by omega)] | rw [if_neg (by omega)])))
                | (refine ⟨_, rfl, im2, lm2, ?_, hR2, hag, hlg, rfl⟩
                   unfold tdR
                   rw [if_pos (by omega), if_neg (by omega), if_neg (by omega), if_neg (by omega), if_neg (by omega), if_neg (by omega), if_neg (by omega), if_neg (by omega), if_neg (by omega)]
                   exact hx)
          · refine q_aload_n (t := 52) F dX9_told_51 rfl rfl rfl ?_
            refine g_X9_117 (t := 55) F dX9_told_52 rfl rfl ?_
            try simp only [up_app, row_app, scr_app, cpy_app, Nat.reduceEqDiff, Int.reduceToNat, Int.toNat_natCast, and_true, true_and, and_false, false_and, and_self, reduceIte]
            refine q_goto (t := 103) F dX9_told_55 (by decide) ?_
            refine q_iret F dX9_told_103 rfl ?_
            first
              | (exfalso; omega)
              | (refine ⟨_, rfl, im, lm, ?_, hR, agY_rfl im, lgQ_rfl lm, rfl⟩
                 unfold tdR
                 first
                   | rw [if_neg (by omega)]
                   | (rw [if_pos (by omega)]; repeat (first | rw [if_pos (by omega)] | rw [if_neg (by omega)])))
              | (refine ⟨_, rfl, im2, lm2, ?_, hR2, hag, hlg, rfl⟩
                 unfold tdR
                 rw [if_pos (by omega), if_neg (by omega), if_neg (by omega), if_neg (by omega), if_neg (by omega), if_neg (by omega), if_neg (by omega), if_neg (by omega), if_neg (by omega)]
                 exact hx)
      · refine q_aload_n (t := 32) F dX9_told_31 rfl rfl rfl ?_
        refine q_iload_n (t := 33) F dX9_told_32 rfl rfl rfl ?_
        refine wp_callV (t := 36) [_] F dX9_told_33 k_X9_isOne v_X9_isOne ml_X9_101 rfl rfl rfl rfl (Nat.le_of_ble_eq_true rfl) (by decide) (m_30 (by omega)) (c_X9_isOne _ G im bt rt lm hR h12.1 h12.2 p (by constructor <;> omega)) rfl (kI ?_)
        rintro x33 m' ⟨hx33, rfl⟩
        have hx33 := if01 hx33
        refine q_if_ne (t := 39) (u := 42) F dX9_told_36 (by first | exact hR _ _ _ | (constructor <;> omega)) (by decide) rfl (fun c36 => ?_) (fun c36 => ?_)
        · refine q_iload_n (t := 43) F dX9_told_42 rfl rfl rfl ?_
          refine q_iconst (t := 44) F dX9_told_43 rfl ?_
          refine q_icmp_ge (t := 47) (u := 104) F dX9_told_44 (by first | exact hR _ _ _ | (constructor <;> omega)) (by first | exact hR _ _ _ | (constructor <;> omega)) (by decide) rfl (fun c44 => ?_) (fun c44 => ?_)
          · refine q_bipush (t := 106) F dX9_told_104 (by decide) rfl ?_
            refine q_iload_n (t := 107) F dX9_told_106 rfl rfl rfl ?_
            refine q_imul (t := 108) F dX9_told_107 rfl ?_
            refine q_iload_n (t := 109) F dX9_told_108 rfl rfl rfl ?_
            refine q_bipush (t := 111) F dX9_told_109 (by decide) rfl ?_
            refine q_irem (t := 112) F dX9_told_111 (by first | exact hR _ _ _ | (constructor <;> omega)) (by first | exact hR _ _ _ | (constructor <;> omega)) (by omega) (by omega) rfl ?_
            refine q_iadd (t := 113) F dX9_told_112 rfl ?_
            rw [show (10 : Int) * p + w % 10 = ((10 * p.toNat + (w % 10).toNat : Nat) : Int) by omega]
            refine q_istore_n (t := 114) F dX9_told_113 rfl (by decide) rfl rfl ?_
            refine q_aload_n (t := 115) F dX9_told_114 rfl rfl rfl ?_
            refine g_X9_32 (t := 118) F dX9_told_115 rfl rfl ?_
            refine q_iload_n (t := 119) F dX9_told_118 rfl rfl rfl ?_
            first | refine ldN_36 (t := 120) F dX9_told_119 (by omega) rfl ?_ | refine ld_36 (t := 120) F dX9_told_119 (by omega) (by omega) rfl ?_
            try simp only [up_app, row_app, scr_app, cpy_app, Nat.reduceEqDiff, Int.reduceToNat, Int.toNat_natCast, and_true, true_and, and_false, false_and, and_self, reduceIte]
            refine q_iconst (t := 121) F dX9_told_120 rfl ?_
            refine q_icmp_ne (t := 124) (u := 126) F dX9_told_121 (by exact hR _ _ _) (by constructor <;> omega) (by decide) rfl (fun c121 => ?_) (fun c121 => ?_)
            · refine q_iload_n (t := 127) F dX9_told_126 rfl rfl rfl ?_
              refine q_bipush (t := 129) F dX9_told_127 (by decide) rfl ?_
              refine q_icmp_ge (t := 132) (u := 141) F dX9_told_129 (by first | exact hR _ _ _ | (constructor <;> omega)) (by first | exact hR _ _ _ | (constructor <;> omega)) (by decide) rfl (fun c129 => ?_) (fun c129 => ?_)
              · refine q_iload_n (t := 142) F dX9_told_141 rfl rfl rfl ?_
                refine q_bipush (t := 144) F dX9_told_142 (by decide) rfl ?_
                refine q_icmp_ge (t := 147) (u := 156) F dX9_told_144 (by first | exact hR _ _ _ | (constructor <;> omega)) (by first | exact hR _ _ _ | (constructor <;> omega)) (by decide) rfl (fun c144 => ?_) (fun c144 => ?_)
                · refine q_aload_n (t := 157) F dX9_told_156 rfl rfl rfl ?_
                  refine q_iload_n (t := 158) F dX9_told_157 rfl rfl rfl ?_
                  refine wp_callV (t := 161) [_] F dX9_told_158 k_X9_holdsIn v_X9_holdsIn ml_X9_135 rfl rfl rfl rfl (Nat.le_of_ble_eq_true rfl) (by decide) (m_30 (by omega)) (c_X9_holdsIn _ G im bt rt lm h (10 * p.toNat + (w % 10).toNat) (by omega)) rfl (kI ?_)
                  rintro x158 m' ⟨im2, lm2, hx, hR2, hag, hlg, rfl⟩
                  refine q_iret F dX9_told_161 rfl ?_
                  first
                    | (exfalso; omega)
                    | (refine ⟨_, rfl, im, lm, ?_, hR, agY_rfl im, lgQ_rfl lm, rfl⟩
                       unfold tdR
                       first
                         | rw [if_neg (by omega)]
                         | (rw [if_pos (by omega)]; repeat (first | rw [if_pos (by omega)] | rw [if_neg (by omega)])))
                    | (refine ⟨_, rfl, im2, lm2, ?_, hR2, hag, hlg, rfl⟩
                       unfold tdR
                       rw [if_pos (by omega), if_neg (by omega), if_neg (by omega), if_neg (by omega), if_neg (by omega), if_neg (by omega), if_neg (by omega), if_neg (by omega), if_neg (by omega)]
                       exact hx)
                · refine q_aload_n (t := 148) F dX9_told_147 rfl rfl rfl ?_
                  refine g_X9_35 (t := 151) F dX9_told_148 rfl rfl ?_
                  refine q_iload_n (t := 152) F dX9_told_151 rfl rfl rfl ?_
                  first | refine ldN_37 (t := 153) F dX9_told_152 (by omega) rfl ?_ | refine ld_37 (t := 153) F dX9_told_152 (by omega) (by omega) rfl ?_
                  try simp only [up_app, row_app, scr_app, cpy_app, Nat.reduceEqDiff, Int.reduceToNat, Int.toNat_natCast, and_true, true_and, and_false, false_and, and_self, reduceIte]
                  refine q_goto (t := 161) F dX9_told_153 (by decide) ?_
                  refine q_iret F dX9_told_161 rfl ?_
                  first
                    | (exfalso; omega)
                    | (refine ⟨_, rfl, im, lm, ?_, hR, agY_rfl im, lgQ_rfl lm, rfl⟩
                       unfold tdR
                       first
                         | rw [if_neg (by omega)]
                         | (rw [if_pos (by omega)]; repeat (first | rw [if_pos (by omega)] | rw [if_neg (by omega)])))
                    | (refine ⟨_, rfl, im2, lm2, ?_, hR2, hag, hlg, rfl⟩
                       unfold tdR
                       rw [if_pos (by omega), if_neg (by omega), if_neg (by omega), if_neg (by omega), if_neg (by omega), if_neg (by omega), if_neg (by omega), if_neg (by omega), if_neg (by omega)]
                       exact hx)
              · refine q_aload_n (t := 133) F dX9_told_132 rfl rfl rfl ?_
                refine g_X9_32 (t := 136) F dX9_told_133 rfl rfl ?_
                refine q_iload_n (t := 137) F dX9_told_136 rfl rfl rfl ?_
                first | refine ldN_36 (t := 138) F dX9_told_137 (by omega) rfl ?_ | refine ld_36 (t := 138) F dX9_told_137 (by omega) (by omega) rfl ?_
                try simp only [up_app, row_app, scr_app, cpy_app, Nat.reduceEqDiff, Int.reduceToNat, Int.toNat_natCast, and_true, true_and, and_false, false_and, and_self, reduceIte]
                refine q_goto (t := 161) F dX9_told_138 (by decide) ?_
                refine q_iret F dX9_told_161 rfl ?_
                first
                  | (exfalso; omega)
                  | (refine ⟨_, rfl, im, lm, ?_, hR, agY_rfl im, lgQ_rfl lm, rfl⟩
                     unfold tdR
                     first
                       | rw [if_neg (by omega)]
                       | (rw [if_pos (by omega)]; repeat (first | rw [if_pos (by omega)] | rw [if_neg (by omega)])))
                  | (refine ⟨_, rfl, im2, lm2, ?_, hR2, hag, hlg, rfl⟩
                     unfold tdR
                     rw [if_pos (by omega), if_neg (by omega), if_neg (by omega), if_neg (by omega), if_neg (by omega), if_neg (by omega), if_neg (by omega), if_neg (by omega), if_neg (by omega)]
                     exact hx)
            · refine q_iconst (t := 125) F dX9_told_124 rfl ?_
              refine q_iret F dX9_told_125 rfl ?_
              first
                | (exfalso; omega)
                | (refine ⟨_, rfl, im, lm, ?_, hR, agY_rfl im, lgQ_rfl lm, rfl⟩
                   unfold tdR
                   first
                     | rw [if_neg (by omega)]
                     | (rw [if_pos (by omega)]; repeat (first | rw [if_pos (by omega)] | rw [if_neg (by omega)])))
                | (refine ⟨_, rfl, im2, lm2, ?_, hR2, hag, hlg, rfl⟩
                   unfold tdR
                   rw [if_pos (by omega), if_neg (by omega), if_neg (by omega), if_neg (by omega), if_neg (by omega), if_neg (by omega), if_neg (by omega), if_neg (by omega), if_neg (by omega)]
                   exact hx)
          · refine q_iload_n (t := 48) F dX9_told_47 rfl rfl rfl ?_
            refine q_if_ne (t := 51) (u := 58) F dX9_told_48 (by first | exact hR _ _ _ | (constructor <;> omega)) (by decide) rfl (fun c48 => ?_) (fun c48 => ?_)
            · refine q_iload_n (t := 59) F dX9_told_58 rfl rfl rfl ?_
              refine q_iconst (t := 60) F dX9_told_59 rfl ?_
              refine q_icmp_ne (t := 63) (u := 70) F dX9_told_60 (by first | exact hR _ _ _ | (constructor <;> omega)) (by first | exact hR _ _ _ | (constructor <;> omega)) (by decide) rfl (fun c60 => ?_) (fun c60 => ?_)
              · refine q_iload_n (t := 71) F dX9_told_70 rfl rfl rfl ?_
                refine q_iconst (t := 72) F dX9_told_71 rfl ?_
                refine q_icmp_ne (t := 75) (u := 84) F dX9_told_72 (by first | exact hR _ _ _ | (constructor <;> omega)) (by first | exact hR _ _ _ | (constructor <;> omega)) (by decide) rfl (fun c72 => ?_) (fun c72 => ?_)
                · refine q_iload_n (t := 85) F dX9_told_84 rfl rfl rfl ?_
                  refine q_iconst (t := 86) F dX9_told_85 rfl ?_
                  refine q_icmp_ne (t := 89) (u := 98) F dX9_told_86 (by first | exact hR _ _ _ | (constructor <;> omega)) (by first | exact hR _ _ _ | (constructor <;> omega)) (by decide) rfl (fun c86 => ?_) (fun c86 => ?_)
                  · refine q_aload_n (t := 99) F dX9_told_98 rfl rfl rfl ?_
                    refine q_iload_n (t := 100) F dX9_told_99 rfl rfl rfl ?_
                    rw [show vI p = vI ((p.toNat : Nat) : Int) by rw [Int.toNat_of_nonneg (by omega)]]
                    refine wp_callV (t := 103) [_] F dX9_told_100 k_X9_stuckOf v_X9_stuckOf ml_X9_131 rfl rfl rfl rfl (Nat.le_of_ble_eq_true rfl) (by decide) (m_30 (by omega)) (c_X9_stuckOf _ G im bt rt lm hR p.toNat (by omega)) rfl (kI ?_)
                    rintro x100 m' ⟨rfl, rfl⟩
                    refine q_iret F dX9_told_103 rfl ?_
                    first
                      | (exfalso; omega)
                      | (refine ⟨_, rfl, im, lm, ?_, hR, agY_rfl im, lgQ_rfl lm, rfl⟩
                         unfold tdR
                         first
                           | rw [if_neg (by omega)]
                           | (rw [if_pos (by omega)]; repeat (first | rw [if_pos (by omega)] | rw [if_neg (by omega)])))
                      | (refine ⟨_, rfl, im2, lm2, ?_, hR2, hag, hlg, rfl⟩
                         unfold tdR
                         rw [if_pos (by omega), if_neg (by omega), if_neg (by omega), if_neg (by omega), if_neg (by omega), if_neg (by omega), if_neg (by omega), if_neg (by omega), if_neg (by omega)]
                         exact hx)
                  · refine q_aload_n (t := 90) F dX9_told_89 rfl rfl rfl ?_
                    refine g_X9_26 (t := 93) F dX9_told_90 rfl rfl ?_
                    rw [show vI p = vI ((p.toNat : Nat) : Int) by rw [Int.toNat_of_nonneg (by omega)]]
                    refine q_iload_n (t := 94) F dX9_told_93 rfl rfl rfl ?_
                    first | refine ldN_34 (t := 95) F dX9_told_94 (by omega) rfl ?_ | refine ld_34 (t := 95) F dX9_told_94 (by omega) (by omega) rfl ?_
                    try simp only [up_app, row_app, scr_app, cpy_app, Nat.reduceEqDiff, Int.reduceToNat, Int.toNat_natCast, and_true, true_and, and_false, false_and, and_self, reduceIte]
                    refine q_goto (t := 103) F dX9_told_95 (by decide) ?_
                    refine q_iret F dX9_told_103 rfl ?_
                    first
                      | (exfalso; omega)
                      | (refine ⟨_, rfl, im, lm, ?_, hR, agY_rfl im, lgQ_rfl lm, rfl⟩
                         unfold tdR
                         first
                           | rw [if_neg (by omega)]
                           | (rw [if_pos (by omega)]; repeat (first | rw [if_pos (by omega)] | rw [if_neg (by omega)])))
                      | (refine ⟨_, rfl, im2, lm2, ?_, hR2, hag, hlg, rfl⟩
                         unfold tdR
                         rw [if_pos (by omega), if_neg (by omega), if_neg (by omega), if_neg (by omega), if_neg (by omega), if_neg (by omega), if_neg (by omega), if_neg (by omega), if_neg (by omega)]
                         exact hx)
                · refine q_aload_n (t := 76) F dX9_told_75 rfl rfl rfl ?_
                  refine g_X9_29 (t := 79) F dX9_told_76 rfl rfl ?_
                  rw [show vI p = vI ((p.toNat : Nat) : Int) by rw [Int.toNat_of_nonneg (by omega)]]
                  refine q_iload_n (t := 80) F dX9_told_79 rfl rfl rfl ?_
                  first | refine ldN_35 (t := 81) F dX9_told_80 (by omega) rfl ?_ | refine ld_35 (t := 81) F dX9_told_80 (by omega) (by omega) rfl ?_
                  try simp only [up_app, row_app, scr_app, cpy_app, Nat.reduceEqDiff, Int.reduceToNat, Int.toNat_natCast, and_true, true_and, and_false, false_and, and_self, reduceIte]
                  refine q_goto (t := 103) F dX9_told_81 (by decide) ?_
                  refine q_iret F dX9_told_103 rfl ?_
                  first
                    | (exfalso; omega)
                    | (refine ⟨_, rfl, im, lm, ?_, hR, agY_rfl im, lgQ_rfl lm, rfl⟩
                       unfold tdR
                       first
                         | rw [if_neg (by omega)]
                         | (rw [if_pos (by omega)]; repeat (first | rw [if_pos (by omega)] | rw [if_neg (by omega)])))
                    | (refine ⟨_, rfl, im2, lm2, ?_, hR2, hag, hlg, rfl⟩
                       unfold tdR
                       rw [if_pos (by omega), if_neg (by omega), if_neg (by omega), if_neg (by omega), if_neg (by omega), if_neg (by omega), if_neg (by omega), if_neg (by omega), if_neg (by omega)]
                       exact hx)
              · refine q_aload_n (t := 64) F dX9_told_63 rfl rfl rfl ?_
                refine g_X9_23 (t := 67) F dX9_told_64 rfl rfl ?_
                try simp only [up_app, row_app, scr_app, cpy_app, Nat.reduceEqDiff, Int.reduceToNat, Int.toNat_natCast, and_true, true_and, and_false, false_and, and_self, reduceIte]
                refine q_goto (t := 103) F dX9_told_67 (by decide) ?_
                refine q_iret F dX9_told_103 rfl ?_
                first
                  | (exfalso; omega)
                  | (refine ⟨_, rfl, im, lm, ?_, hR, agY_rfl im, lgQ_rfl lm, rfl⟩
                     unfold tdR
                     first
                       | rw [if_neg (by omega)]
                       | (rw [if_pos (by omega)]; repeat (first | rw [if_pos (by omega)] | rw [if_neg (by omega)])))
                  | (refine ⟨_, rfl, im2, lm2, ?_, hR2, hag, hlg, rfl⟩
                     unfold tdR
                     rw [if_pos (by omega), if_neg (by omega), if_neg (by omega), if_neg (by omega), if_neg (by omega), if_neg (by omega), if_neg (by omega), if_neg (by omega), if_neg (by omega)]
                     exact hx)
            · refine q_aload_n (t := 52) F dX9_told_51 rfl rfl rfl ?_
              refine g_X9_117 (t := 55) F dX9_told_52 rfl rfl ?_
              try simp only [up_app, row_app, scr_app, cpy_app, Nat.reduceEqDiff, Int.reduceToNat, Int.toNat_natCast, and_true, true_and, and_false, false_and, and_self, reduceIte]
              refine q_goto (t := 103) F dX9_told_55 (by decide) ?_
              refine q_iret F dX9_told_103 rfl ?_
              first
                | (exfalso; omega)
                | (refine ⟨_, rfl, im, lm, ?_, hR, agY_rfl im, lgQ_rfl lm, rfl⟩
                   unfold tdR
                   first
                     | rw [if_neg (by omega)]
                     | (rw [if_pos (by omega)]; repeat (first | rw [if_pos (by omega)] | rw [if_neg (by omega)])))
                | (refine ⟨_, rfl, im2, lm2, ?_, hR2, hag, hlg, rfl⟩
                   unfold tdR
                   rw [if_pos (by omega), if_neg (by omega), if_neg (by omega), if_neg (by omega), if_neg (by omega), if_neg (by omega), if_neg (by omega), if_neg (by omega), if_neg (by omega)]
                   exact hx)
        · refine q_bipush (t := 41) F dX9_told_39 (by decide) rfl ?_
          refine q_iret F dX9_told_41 rfl ?_
          first
            | (exfalso; omega)
            | (refine ⟨_, rfl, im, lm, ?_, hR, agY_rfl im, lgQ_rfl lm, rfl⟩
               unfold tdR
               first
                 | rw [if_neg (by omega)]
                 | (rw [if_pos (by omega)]; repeat (first | rw [if_pos (by omega)] | rw [if_neg (by omega)])))
            | (refine ⟨_, rfl, im2, lm2, ?_, hR2, hag, hlg, rfl⟩
               unfold tdR
               rw [if_pos (by omega), if_neg (by omega), if_neg (by omega), if_neg (by omega), if_neg (by omega), if_neg (by omega), if_neg (by omega), if_neg (by omega), if_neg (by omega)]
               exact hx)
