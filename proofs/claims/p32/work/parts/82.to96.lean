section
/-! the reference: told -/

def hoR (im : IM) (q : Nat) : Int := holdsK (im 34 0 (q / 10)) (im 35 0 (q / 10)) (sayR im (im 30 0 4).toNat 1 (nmA (im 36 0 q) 0 (im 30 0 7) (im 35 0 (q / 10)) ((q % 10 : Nat) : Int) (im 37 0 q)))
def tdR (im : IM) (p : Int) (w : Int) : Int := if ((0 ≤ w ∧ w ≤ 4) ∨ (10 ≤ w ∧ w ≤ 39)) ∧ (1 < w → 0 ≤ p ∧ p < im 30 0 12) then (if w = 0 then im 30 0 7 else if w = 1 then im 30 0 8 else if w = 2 then im 35 0 p.toNat else if w = 3 then im 34 0 p.toNat else if w = 4 then cntW (stR im p.toNat) 10 else if im 36 0 (10 * p.toNat + (w % 10).toNat) = -1 then -1 else if w < 20 then im 36 0 (10 * p.toNat + (w % 10).toNat) else if w < 30 then im 37 0 (10 * p.toNat + (w % 10).toNat) else hoR im (10 * p.toNat + (w % 10).toNat)) else -2

set_option maxHeartbeats 4000000 in
theorem c_X9_told (l : Launch) (G : GS) (im : IM) (bt rt : Nat) (lm : IM) (h : RC im) (p w : Int) (hp : ri p) (hw : ri w) : Cn l (XR G) yX9_told Y_X9_told [vR 30 0, vI p, vI w] (im, rs bt rt, lm) (pI fun x m' => ∃ im' lm', x = tdR im p w ∧ RI im' ∧ agY im' im ∧ lgQ lm' lm ∧ m' = (im', rs bt rt, lm')) := by
  refine cn_of (by decide) (okR G) rfl (Nat.le_of_ble_eq_true rfl) ?_
  intro M ad hMl F
  subst hMl
  have hR := h.1
  have hX := h.2.1
  have h4 := h.2.2.1
  have h12 := h.2.2.2.1
  have h7 := h.2.2.2.2.1
  have h6 := hX.2.2.1
  have h3 := hX.2.2.2.1
  have hP := h.2.2.2.2.2.2
  have p1 := hp.1
  have p2 := hp.2
  have w1 := hw.1
  have w2 := hw.2
  refine wp_pad 1 ?_
  show Wp M (XR G) ad Y_X9_told (pI fun x m' => ∃ im' lm', x = tdR im p w ∧ RI im' ∧ agY im' im ∧ lgQ lm' lm ∧ m' = (im', rs bt rt, lm')) 0 [some (vR 30 0), some (vI p), some (vI w), none] [] (im, rs bt rt, lm)
  refine q_iload_n (t := 1) F dX9_told_0 rfl rfl rfl ?_
  refine q_i2l (t := 2) F dX9_told_1 (by first | exact hR _ _ _ | (constructor <;> omega)) rfl ?_
  refine q_lconst (t := 3) (x := 0) F dX9_told_2 (by decide) rfl ?_
  refine q_ldc2 (t := 6) (x := 4) F dX9_told_3 kl_X9_125 (by decide) rfl ?_
  refine wp_callS (t := 9) [_, _, _] F dX9_told_6 k_X9_in st_X9_in ml_X9_91 rfl rfl (Nat.le_of_ble_eq_true rfl) (by decide) (c_X9_in _ G _ _ _ _ _ _ _ (by constructor <;> omega) (by constructor <;> omega) (by constructor <;> omega)) rfl (kI ?_)
  rintro x6 m' ⟨hx6, rfl⟩
  have hx6 := if01 hx6
  refine q_if_ne (t := 12) (u := 26) F dX9_told_9 (by first | exact hR _ _ _ | (constructor <;> omega)) (by decide) rfl (fun c9 => ?_) (fun c9 => ?_)
  · refine q_iload_n (t := 27) F dX9_told_26 rfl rfl rfl ?_
    refine q_iconst (t := 28) F dX9_told_27 rfl ?_
    refine q_icmp_le (t := 31) (u := 42) F dX9_told_28 (by first | exact hR _ _ _ | (constructor <;> omega)) (by first | exact hR _ _ _ | (constructor <;> omega)) (by decide) rfl (fun c28 => ?_) (fun c28 => ?_)
    · refine q_iload_n (t := 43) F dX9_told_42 rfl rfl rfl ?_
      refine q_iconst (t := 44) F dX9_told_43 rfl ?_
      refine q_icmp_ge (t := 47) (u := 104) F dX9_told_44 (by first | exact hR _ _ _ | (constructor <;> omega)) (by first | exact hR _ _ _ | (constructor <;> omega)) (by decide) rfl (fun c44 => ?_) (fun c44 => ?_)
      · refine q_bipush (t := 106) F dX9_told_104 (by decide) rfl ?_
        refine q_iload_n (t := 107) F dX9_told_106 rfl rfl rfl ?_
        refine q_imul (t := 108) F dX9_told_107 rfl ?_
        refine q_iload_n (t := 109) F dX9_told_108 rfl rfl rfl ?_
        refine q_bipush (t := 111) F dX9_told_109 (by decide) rfl ?_
        refine q_irem (t := 112) F dX9_told_111 (by first | exact hR _ _ _ | (constructor <;> omega)) (by first | exact hR _ _ _ | (constructor <;> omega)) (by omega) (by omega) rfl ?_
        refine q_iadd (t := 113) F dX9_told_112 rfl ?_
        rw [show (10 : Int) * p + w % 10 = ((10 * p.toNat + (w % 10).toNat : Nat) : Int) by omega]
        refine q_istore_n (t := 114) F dX9_told_113 rfl (by decide) rfl rfl ?_
        refine q_aload_n (t := 115) F dX9_told_114 rfl rfl rfl ?_
        refine g_X9_32 (t := 118) F dX9_told_115 rfl rfl ?_
        refine q_iload_n (t := 119) F dX9_told_118 rfl rfl rfl ?_
        first | refine ldN_36 (t := 120) F dX9_told_119 (by omega) rfl ?_ | refine ld_36 (t := 120) F dX9_told_119 (by omega) (by omega) rfl ?_
        try simp only [up_app, row_app, scr_app, cpy_app, Nat.reduceEqDiff, Int.reduceToNat, Int.toNat_natCast, and_true, true_and, and_false, false_and, and_self, reduceIte]
        refine q_iconst (t := 121) F dX9_told_120 rfl ?_
        refine q_icmp_ne (t := 124) (u := 126) F dX9_told_121 (by exact hR _ _ _) (by constructor <;> omega) (by decide) rfl (fun c121 => ?_) (fun c121 => ?_)
        · refine q_iload_n (t := 127) F dX9_told_126 rfl rfl rfl ?_
          refine q_bipush (t := 129) F dX9_told_127 (by decide) rfl ?_
          refine q_icmp_ge (t := 132) (u := 141) F dX9_told_129 (by first | exact hR _ _ _ | (constructor <;> omega)) (by first | exact hR _ _ _ | (constructor <;> omega)) (by decide) rfl (fun c129 => ?_) (fun c129 => ?_)
          · refine q_iload_n (t := 142) F dX9_told_141 rfl rfl rfl ?_
            refine q_bipush (t := 144) F dX9_told_142 (by decide) rfl ?_
            refine q_icmp_ge (t := 147) (u := 156) F dX9_told_144 (by first | exact hR _ _ _ | (constructor <;> omega)) (by first | exact hR _ _ _ | (constructor <;> omega)) (by decide) rfl (fun c144 => ?_) (fun c144 => ?_)
            · refine q_aload_n (t := 157) F dX9_told_156 rfl rfl rfl ?_
              refine q_iload_n (t := 158) F dX9_told_157 rfl rfl rfl ?_
              refine wp_callV (t := 161) [_] F dX9_told_158 k_X9_holdsIn v_X9_holdsIn ml_X9_135 rfl rfl rfl rfl (Nat.le_of_ble_eq_true rfl) (by decide) (m_30 (by omega)) (c_X9_holdsIn _ G im bt rt lm h (10 * p.toNat + (w % 10).toNat) (by omega)) rfl (kI ?_)
              rintro x158 m' ⟨im2, lm2, hx, hR2, hag, hlg, rfl⟩
              refine q_iret F dX9_told_161 rfl ?_
              first
                | (exfalso; omega)
                | (refine ⟨_, rfl, im, lm, ?_, hR, agY_rfl im, lgQ_rfl lm, rfl⟩
                   unfold tdR
                   first
                     | rw [if_neg (by omega)]
                     | (rw [if_pos (by omega)]; repeat (first | rw [if_pos (by omega)] | rw [if_neg (by omega)])))
                | (refine ⟨_, rfl, im2, lm2, ?_, hR2, hag, hlg, rfl⟩
                   unfold tdR
                   rw [if_pos (by omega), if_neg (by omega), if_neg (by omega), if_neg (by omega), if_neg (by omega), if_neg (by omega), if_neg (by omega), if_neg (by omega), if_neg (by omega)]
                   exact hx)
            · refine q_aload_n (t := 148) F dX9_told_147 rfl rfl rfl ?_
              refine g_X9_35 (t := 151) F dX9_told_148 rfl rfl ?_
              refine q_iload_n (t := 152) F dX9_told_151 rfl rfl rfl ?_
              first | refine ldN_37 (t := 153) F dX9_told_152 (by omega) rfl ?_ | refine ld_37 (t := 153) F dX9_told_152 (by omega) (by omega) rfl ?_
              try simp only [up_app, row_app, scr_app, cpy_app, Nat.reduceEqDiff, Int.reduceToNat, Int.toNat_natCast, and_true, true_and, and_false, false_and, and_self, reduceIte]
              refine q_goto (t := 161) F dX9_told_153 (by decide) ?_
              refine q_iret F dX9_told_161 rfl ?_
              first
                | (exfalso; omega)
                | (refine ⟨_, rfl, im, lm, ?_, hR, agY_rfl im, lgQ_rfl lm, rfl⟩
                   unfold tdR
                   first
                     | rw [if_neg (by omega)]
                     | (rw [if_pos (by omega)]; repeat (first | rw [if_pos (by omega)] | rw [if_neg (by omega)])))
                | (refine ⟨_, rfl, im2, lm2, ?_, hR2, hag, hlg, rfl⟩
                   unfold tdR
                   rw [if_pos (by omega), if_neg (by omega), if_neg (by omega), if_neg (by omega), if_neg (by omega), if_neg (by omega), if_neg (by omega), if_neg (by omega), if_neg (by omega)]
                   exact hx)
          · refine q_aload_n (t := 133) F dX9_told_132 rfl rfl rfl ?_
            refine g_X9_32 (t := 136) F dX9_told_133 rfl rfl ?_
            refine q_iload_n (t := 137) F dX9_told_136 rfl rfl rfl ?_
            first | refine ldN_36 (t := 138) F dX9_told_137 (by omega) rfl ?_ | refine ld_36 (t := 138) F dX9_told_137 (by omega) (by omega) rfl ?_
            try simp only [up_app, row_app, scr_app, cpy_app, Nat.reduceEqDiff, Int.reduceToNat, Int.toNat_natCast, and_true, true_and, and_false, false_and, and_self, reduceIte]
            refine q_goto (t := 161) F dX9_told_138 (by decide) ?_
            refine q_iret F dX9_told_161 rfl ?_
            first
              | (exfalso; omega)
              | (refine ⟨_, rfl, im, lm, ?_, hR, agY_rfl im, lgQ_rfl lm, rfl⟩
                 unfold tdR
                 first
                   | rw [if_neg (by omega)]
                   | (rw [if_pos (by omega)]; repeat (first | rw [if_pos (by omega)] | rw [if_neg (by omega)])))
              | (refine ⟨_, rfl, im2, lm2, ?_, hR2, hag, hlg, rfl⟩
                 unfold tdR
                 rw [if_pos (by omega), if_neg (by omega), if_neg (by omega), if_neg (by omega), if_neg (by omega), if_neg (by omega), if_neg (by omega), if_neg (by omega), if_neg (by omega)]
                 exact hx)
        · refine q_iconst (t := 125) F dX9_told_124 rfl ?_
          refine q_iret F dX9_told_125 rfl ?_
          first
            | (exfalso; omega)
            | (refine ⟨_, rfl, im, lm, ?_, hR, agY_rfl im, lgQ_rfl lm, rfl⟩
               unfold tdR
               first
                 | rw [if_neg (by omega)]
                 | (rw [if_pos (by omega)]; repeat (first | rw [if_pos (by omega)] | rw [if_neg (by omega)])))
            | (refine ⟨_, rfl, im2, lm2, ?_, hR2, hag, hlg, rfl⟩
               unfold tdR
               rw [if_pos (by omega), if_neg (by omega), if_neg (by omega), if_neg (by omega), if_neg (by omega), if_neg (by omega), if_neg (by omega), if_neg (by omega), if_neg (by omega)]
               exact hx)
      · refine q_iload_n (t := 48) F dX9_told_47 rfl rfl rfl ?_
        refine q_if_ne (t := 51) (u := 58) F dX9_told_48 (by first | exact hR _ _ _ | (constructor <;> omega)) (by decide) rfl (fun c48 => ?_) (fun c48 => ?_)
        · refine q_iload_n (t := 59) F dX9_told_58 rfl rfl rfl ?_
          refine q_iconst (t := 60) F dX9_told_59 rfl ?_
          refine q_icmp_ne (t := 63) (u := 70) F dX9_told_60 (by first | exact hR _ _ _ | (constructor <;> omega)) (by first | exact hR _ _ _ | (constructor <;> omega)) (by decide) rfl (fun c60 => ?_) (fun c60 => ?_)
          · refine q_iload_n (t := 71) F dX9_told_70 rfl rfl rfl ?_
            refine q_iconst (t := 72) F dX9_told_71 rfl ?_
            refine q_icmp_ne (t := 75) (u := 84) F dX9_told_72 (by first | exact hR _ _ _ | (constructor <;> omega)) (by first | exact hR _ _ _ | (constructor <;> omega)) (by decide) rfl (fun c72 => ?_) (fun c72 => ?_)
            · refine q_iload_n (t := 85) F dX9_told_84 rfl rfl rfl ?_
              refine q_iconst (t := 86) F dX9_told_85 rfl ?_
              refine q_icmp_ne (t := 89) (u := 98) F dX9_told_86 (by first | exact hR _ _ _ | (constructor <;> omega)) (by first | exact hR _ _ _ | (constructor <;> omega)) (by decide) rfl (fun c86 => ?_) (fun c86 => ?_)
              · refine q_aload_n (t := 99) F dX9_told_98 rfl rfl rfl ?_
                refine q_iload_n (t := 100) F dX9_told_99 rfl rfl rfl ?_
                rw [show vI p = vI ((p.toNat : Nat) : Int) by rw [Int.toNat_of_nonneg (by omega)]]
                refine wp_callV (t := 103) [_] F dX9_told_100 k_X9_stuckOf v_X9_stuckOf ml_X9_131 rfl rfl rfl rfl (Nat.le_of_ble_eq_true rfl) (by decide) (m_30 (by omega)) (c_X9_stuckOf _ G im bt rt lm hR p.toNat (by omega)) rfl (kI ?_)
                rintro x100 m' ⟨rfl, rfl⟩
                refine q_iret F dX9_told_103 rfl ?_
                first
                  | (exfalso; omega)
                  | (refine ⟨_, rfl, im, lm, ?_, hR, agY_rfl im, lgQ_rfl lm, rfl⟩
                     unfold tdR
                     first
                       | rw [if_neg (by omega)]
                       | (rw [if_pos (by omega)]; repeat (first | rw [if_pos (by omega)] | rw [if_neg (by omega)])))
                  | (refine ⟨_, rfl, im2, lm2, ?_, hR2, hag, hlg, rfl⟩
                     unfold tdR
                     rw [if_pos (by omega), if_neg (by omega), if_neg (by omega), if_neg (by omega), if_neg (by omega), if_neg (by omega), if_neg (by omega), if_neg (by omega), if_neg (by omega)]
                     exact hx)
              · refine q_aload_n (t := 90) F dX9_told_89 rfl rfl rfl ?_
                refine g_X9_26 (t := 93) F dX9_told_90 rfl rfl ?_
                rw [show vI p = vI ((p.toNat : Nat) : Int) by rw [Int.toNat_of_nonneg (by omega)]]
                refine q_iload_n (t := 94) F dX9_told_93 rfl rfl rfl ?_
                first | refine ldN_34 (t := 95) F dX9_told_94 (by omega) rfl ?_ | refine ld_34 (t := 95) F dX9_told_94 (by omega) (by omega) rfl ?_
                try simp only [up_app, row_app, scr_app, cpy_app, Nat.reduceEqDiff, Int.reduceToNat, Int.toNat_natCast, and_true, true_and, and_false, false_and, and_self, reduceIte]
                refine q_goto (t := 103) F dX9_told_95 (by decide) ?_
                refine q_iret F dX9_told_103 rfl ?_
                first
                  | (exfalso; omega)
                  | (refine ⟨_, rfl, im, lm, ?_, hR, agY_rfl im, lgQ_rfl lm, rfl⟩
                     unfold tdR
                     first
                       | rw [if_neg (by omega)]
                       | (rw [if_pos (by omega)]; repeat (first | rw [if_pos (by omega)] | rw [if_neg (by omega)])))
                  | (refine ⟨_, rfl, im2, lm2, ?_, hR2, hag, hlg, rfl⟩
                     unfold tdR
                     rw [if_pos (by omega), if_neg (by omega), if_neg (by omega), if_neg (by omega), if_neg (by omega), if_neg (by omega), if_neg (by omega), if_neg (by omega), if_neg (by omega)]
                     exact hx)
            · refine q_aload_n (t := 76) F dX9_told_75 rfl rfl rfl ?_
              refine g_X9_29 (t := 79) F dX9_told_76 rfl rfl ?_
              rw [show vI p = vI ((p.toNat : Nat) : Int) by rw [Int.toNat_of_nonneg (by omega)]]
              refine q_iload_n (t := 80) F dX9_told_79 rfl rfl rfl ?_
              first | refine ldN_35 (t := 81) F dX9_told_80 (by omega) rfl ?_ | refine ld_35 (t := 81) F dX9_told_80 (by omega) (by omega) rfl ?_
              try simp only [up_app, row_app, scr_app, cpy_app, Nat.reduceEqDiff, Int.reduceToNat, Int.toNat_natCast, and_true, true_and, and_false, false_and, and_self, reduceIte]
              refine q_goto (t := 103) F dX9_told_81 (by decide) ?_
              refine q_iret F dX9_told_103 rfl ?_
              first
                | (exfalso; omega)
                | (refine ⟨_, rfl, im, lm, ?_, hR, agY_rfl im, lgQ_rfl lm, rfl⟩
                   unfold tdR
                   first
                     | rw [if_neg (by omega)]
                     | (rw [if_pos (by omega)]; repeat (first | rw [if_pos (by omega)] | rw [if_neg (by omega)])))
                | (refine ⟨_, rfl, im2, lm2, ?_, hR2, hag, hlg, rfl⟩
                   unfold tdR
                   rw [if_pos (by omega), if_neg (by omega), if_neg (by omega), if_neg (by omega), if_neg (by omega), if_neg (by omega), if_neg (by omega), if_neg (by omega), if_neg (by omega)]
                   exact hx)
          · refine q_aload_n (t := 64) F dX9_told_63 rfl rfl rfl ?_
            refine g_X9_23 (t := 67) F dX9_told_64 rfl rfl ?_
            try simp only [up_app, row_app, scr_app, cpy_app, Nat.reduceEqDiff, Int.reduceToNat, Int.toNat_natCast, and_true, true_and, and_false, false_and, and_self, reduceIte]
            refine q_goto (t := 103) F dX9_told_67 (by decide) ?_
            refine q_iret F dX9_told_103 rfl ?_
            first
              | (exfalso; omega)
              | (refine ⟨_, rfl, im, lm, ?_, hR, agY_rfl im, lgQ_rfl lm, rfl⟩
                 unfold tdR
                 first
                   | rw [if_neg (by omega)]
                   | (rw [if_pos (by omega)]; repeat (first | rw [if_pos (by omega)] | rw [if_neg (by omega)])))
              | (refine ⟨_, rfl, im2, lm2, ?_, hR2, hag, hlg, rfl⟩
                 unfold tdR
                 rw [if_pos (by omega), if_neg (by omega), if_neg (by omega), if_neg (by omega), if_neg (by omega), if_neg (by omega), if_neg (by omega), if_neg (by omega), if_neg (by omega)]
                 exact hx)
        · refine q_aload_n (t := 52) F dX9_told_51 rfl rfl rfl ?_
          refine g_X9_117 (t := 55) F dX9_told_52 rfl rfl ?_
          try simp only [up_app, row_app, scr_app, cpy_app, Nat.reduceEqDiff, Int.reduceToNat, Int.toNat_natCast, and_true, true_and, and_false, false_and, and_self, reduceIte]
          refine q_goto (t := 103) F dX9_told_55 (by decide) ?_
          refine q_iret F dX9_told_103 rfl ?_
          first
            | (exfalso; omega)
            | (refine ⟨_, rfl, im, lm, ?_, hR, agY_rfl im, lgQ_rfl lm, rfl⟩
               unfold tdR
               first
                 | rw [if_neg (by omega)]
                 | (rw [if_pos (by omega)]; repeat (first | rw [if_pos (by omega)] | rw [if_neg (by omega)])))
            | (refine ⟨_, rfl, im2, lm2, ?_, hR2, hag, hlg, rfl⟩
               unfold tdR
               rw [if_pos (by omega), if_neg (by omega), if_neg (by omega), if_neg (by omega), if_neg (by omega), if_neg (by omega), if_neg (by omega), if_neg (by omega), if_neg (by omega)]
               exact hx)
    · refine q_aload_n (t := 32) F dX9_told_31 rfl rfl rfl ?_
      refine q_iload_n (t := 33) F dX9_told_32 rfl rfl rfl ?_
      refine wp_callV (t := 36) [_] F dX9_told_33 k_X9_isOne v_X9_isOne ml_X9_101 rfl rfl rfl rfl (Nat.le_of_ble_eq_true rfl) (by decide) (m_30 (by omega)) (c_X9_isOne _ G im bt rt lm hR h12.1 h12.2 p (by constructor <;> omega)) rfl (kI ?_)
      rintro x33 m' ⟨hx33, rfl⟩
      have hx33 := if01 hx33
      refine q_if_ne (t := 39) (u := 42) F dX9_told_36 (by first | exact hR _ _ _ | (constructor <;> omega)) (by decide) rfl (fun c36 => ?_) (fun c36 => ?_)
      · refine q_iload_n (t := 43) F dX9_told_42 rfl rfl rfl ?_
        refine q_iconst (t := 44) F dX9_told_43 rfl ?_
        refine q_icmp_ge (t := 47) (u := 104) F dX9_told_44 (by first | exact hR _ _ _ | (constructor <;> omega)) (by first | exact hR _ _ _ | (constructor <;> omega)) (by decide) rfl (fun c44 => ?_) (fun c44 => ?_)
        · refine q_bipush (t := 106) F dX9_told_104 (by decide) rfl ?_
          refine q_iload_n (t := 107) F dX9_told_106 rfl rfl rfl ?_
          refine q_imul (t := 108) F dX9_told_107 rfl ?_
          refine q_iload_n (t := 109) F dX9_told_108 rfl rfl rfl ?_
          refine q_bipush (t := 111) F dX9_told_109 (by decide) rfl ?_
          refine q_irem (t := 112) F dX9_told_111 (by first | exact hR _ _ _ | (constructor <;> omega)) (by first | exact hR _ _ _ | (constructor <;> omega)) (by omega) (by omega) rfl ?_
          refine q_iadd (t := 113) F dX9_told_112 rfl ?_
          rw [show (10 : Int) * p + w % 10 = ((10 * p.toNat + (w % 10).toNat : Nat) : Int) by omega]
          refine q_istore_n (t := 114) F dX9_told_113 rfl (by decide) rfl rfl ?_
          refine q_aload_n (t := 115) F dX9_told_114 rfl rfl rfl ?_
          refine g_X9_32 (t := 118) F dX9_told_115 rfl rfl ?_
          refine q_iload_n (t := 119) F dX9_told_118 rfl rfl rfl ?_
          first | refine ldN_36 (t := 120) F dX9_told_119 (by omega) rfl ?_ | refine ld_36 (t := 120) F dX9_told_119 (by omega) (by omega) rfl ?_
          try simp only [up_app, row_app, scr_app, cpy_app, Nat.reduceEqDiff, Int.reduceToNat, Int.toNat_natCast, and_true, true_and, and_false, false_and, and_self, reduceIte]
          refine q_iconst (t := 121) F dX9_told_120 rfl ?_
          refine q_icmp_ne (t := 124) (u := 126) F dX9_told_121 (by exact hR _ _ _) (by constructor <;> omega) (by decide) rfl (fun c121 => ?_) (fun c121 => ?_)
          · refine q_iload_n (t := 127) F dX9_told_126 rfl rfl rfl ?_
            refine q_bipush (t := 129) F dX9_told_127 (by decide) rfl ?_
            refine q_icmp_ge (t := 132) (u := 141) F dX9_told_129 (by first | exact hR _ _ _ | (constructor <;> omega)) (by first | exact hR _ _ _ | (constructor <;> omega)) (by decide) rfl (fun c129 => ?_) (fun c129 => ?_)
            · refine q_iload_n (t := 142) F dX9_told_141 rfl rfl rfl ?_
              refine q_bipush (t := 144) F dX9_told_142 (by decide) rfl ?_
              refine q_icmp_ge (t := 147) (u := 156) F dX9_told_144 (by first | exact hR _ _ _ | (constructor <;> omega)) (by first | exact hR _ _ _ | (constructor <;> omega)) (by decide) rfl (fun c144 => ?_) (fun c144 => ?_)
              · refine q_aload_n (t := 157) F dX9_told_156 rfl rfl rfl ?_
                refine q_iload_n (t := 158) F dX9_told_157 rfl rfl rfl ?_
                refine wp_callV (t := 161) [_] F dX9_told_158 k_X9_holdsIn v_X9_holdsIn ml_X9_135 rfl rfl rfl rfl (Nat.le_of_ble_eq_true rfl) (by decide) (m_30 (by omega)) (c_X9_holdsIn _ G im bt rt lm h (10 * p.toNat + (w % 10).toNat) (by omega)) rfl (kI ?_)
                rintro x158 m' ⟨im2, lm2, hx, hR2, hag, hlg, rfl⟩
                refine q_iret F dX9_told_161 rfl ?_
                first
                  | (exfalso; omega)
                  | (refine ⟨_, rfl, im, lm, ?_, hR, agY_rfl im, lgQ_rfl lm, rfl⟩
                     unfold tdR
                     first
                       | rw [if_neg (by omega)]
                       | (rw [if_pos (by omega)]; repeat (first | rw [if_pos (by omega)] | rw [if_neg (by omega)])))
                  | (refine ⟨_, rfl, im2, lm2, ?_, hR2, hag, hlg, rfl⟩
                     unfold tdR
                     rw [if_pos (by omega), if_neg (by omega), if_neg (by omega), if_neg (by omega), if_neg (by omega), if_neg (by omega), if_neg (by omega), if_neg (by omega), if_neg (by omega)]
                     exact hx)
              · refine q_aload_n (t := 148) F dX9_told_147 rfl rfl rfl ?_
                refine g_X9_35 (t := 151) F dX9_told_148 rfl rfl ?_
                refine q_iload_n (t := 152) F dX9_told_151 rfl rfl rfl ?_
                first | refine ldN_37 (t := 153) F dX9_told_152 (by omega) rfl ?_ | refine ld_37 (t := 153) F dX9_told_152 (by omega) (by omega) rfl ?_
                try simp only [up_app, row_app, scr_app, cpy_app, Nat.reduceEqDiff, Int.reduceToNat, Int.toNat_natCast, and_true, true_and, and_false, false_and, and_self, reduceIte]
                refine q_goto (t := 161) F dX9_told_153 (by decide) ?_
                refine q_iret F dX9_told_161 rfl ?_
                first
                  | (exfalso; omega)
                  | (refine ⟨_, rfl, im, lm, ?_, hR, agY_rfl im, lgQ_rfl lm, rfl⟩
                     unfold tdR
                     first
                       | rw [if_neg (by omega)]
                       | (rw [if_pos (by omega)]; repeat (first | rw [if_pos (by omega)] | rw [if_neg (by omega)])))
                  | (refine ⟨_, rfl, im2, lm2, ?_, hR2, hag, hlg, rfl⟩
                     unfold tdR
                     rw [if_pos (by omega), if_neg (by omega), if_neg (by omega), if_neg (by omega), if_neg (by omega), if_neg (by omega), if_neg (by omega), if_neg (by omega), if_neg (by omega)]
                     exact hx)
            · refine q_aload_n (t := 133) F dX9_told_132 rfl rfl rfl ?_
              refine g_X9_32 (t := 136) F dX9_told_133 rfl rfl ?_
              refine q_iload_n (t := 137) F dX9_told_136 rfl rfl rfl ?_
              first | refine ldN_36 (t := 138) F dX9_told_137 (by omega) rfl ?_ | refine ld_36 (t := 138) F dX9_told_137 (by omega) (by omega) rfl ?_
              try simp only [up_app, row_app, scr_app, cpy_app, Nat.reduceEqDiff, Int.reduceToNat, Int.toNat_natCast, and_true, true_and, and_false, false_and, and_self, reduceIte]
              refine q_goto (t := 161) F dX9_told_138 (by decide) ?_
              refine q_iret F dX9_told_161 rfl ?_
              first
                | (exfalso; omega)
                | (refine ⟨_, rfl, im, lm, ?_, hR, agY_rfl im, lgQ_rfl lm, rfl⟩
                   unfold tdR
                   first
                     | rw [if_neg (by omega)]
                     | (rw [if_pos (by omega)]; repeat (first | rw [if_pos (by omega)] | rw [if_neg (by omega)])))
                | (refine ⟨_, rfl, im2, lm2, ?_, hR2, hag, hlg, rfl⟩
                   unfold tdR
                   rw [if_pos (by omega), if_neg (by omega), if_neg (by omega), if_neg (by omega), if_neg (by omega), if_neg (by omega), if_neg (by omega), if_neg (by omega), if_neg (by omega)]
                   exact hx)
          · refine q_iconst (t := 125) F dX9_told_124 rfl ?_
            refine q_iret F dX9_told_125 rfl ?_
            first
              | (exfalso; omega)
              | (refine ⟨_, rfl, im, lm, ?_, hR, agY_rfl im, lgQ_rfl lm, rfl⟩
                 unfold tdR
                 first
                   | rw [if_neg (by omega)]
                   | (rw [if_pos (by omega)]; repeat (first | rw [if_pos (by omega)] | rw [if_neg (by omega)])))
              | (refine ⟨_, rfl, im2, lm2, ?_, hR2, hag, hlg, rfl⟩
                 unfold tdR
                 rw [if_pos (by omega), if_neg (by omega), if_neg (by omega), if_neg (by omega), if_neg (by omega), if_neg (by omega), if_neg (by omega), if_neg (by omega), if_neg (by omega)]
                 exact hx)
        · refine q_iload_n (t := 48) F dX9_told_47 rfl rfl rfl ?_
          refine q_if_ne (t := 51) (u := 58) F dX9_told_48 (by first | exact hR _ _ _ | (constructor <;> omega)) (by decide) rfl (fun c48 => ?_) (fun c48 => ?_)
          · refine q_iload_n (t := 59) F dX9_told_58 rfl rfl rfl ?_
            refine q_iconst (t := 60) F dX9_told_59 rfl ?_
            refine q_icmp_ne (t := 63) (u := 70) F dX9_told_60 (by first | exact hR _ _ _ | (constructor <;> omega)) (by first | exact hR _ _ _ | (constructor <;> omega)) (by decide) rfl (fun c60 => ?_) (fun c60 => ?_)
            · refine q_iload_n (t := 71) F dX9_told_70 rfl rfl rfl ?_
              refine q_iconst (t := 72) F dX9_told_71 rfl ?_
              refine q_icmp_ne (t := 75) (u := 84) F dX9_told_72 (by first | exact hR _ _ _ | (constructor <;> omega)) (by first | exact hR _ _ _ | (constructor <;> omega)) (by decide) rfl (fun c72 => ?_) (fun c72 => ?_)
              · refine q_iload_n (t := 85) F dX9_told_84 rfl rfl rfl ?_
                refine q_iconst (t := 86) F dX9_told_85 rfl ?_
                refine q_icmp_ne (t := 89) (u := 98) F dX9_told_86 (by first | exact hR _ _ _ | (constructor <;> omega)) (by first | exact hR _ _ _ | (constructor <;> omega)) (by decide) rfl (fun c86 => ?_) (fun c86 => ?_)
                · refine q_aload_n (t := 99) F dX9_told_98 rfl rfl rfl ?_
                  refine q_iload_n (t := 100) F dX9_told_99 rfl rfl rfl ?_
                  rw [show vI p = vI ((p.toNat : Nat) : Int) by rw [Int.toNat_of_nonneg (by omega)]]
                  refine wp_callV (t := 103) [_] F dX9_told_100 k_X9_stuckOf v_X9_stuckOf ml_X9_131 rfl rfl rfl rfl (Nat.le_of_ble_eq_true rfl) (by decide) (m_30 (by omega)) (c_X9_stuckOf _ G im bt rt lm hR p.toNat (by omega)) rfl (kI ?_)
                  rintro x100 m' ⟨rfl, rfl⟩
                  refine q_iret F dX9_told_103 rfl ?_
                  first
                    | (exfalso; omega)
                    | (refine ⟨_, rfl, im, lm, ?_, hR, agY_rfl im, lgQ_rfl lm, rfl⟩
                       unfold tdR
                       first
                         | rw [if_neg (by omega)]
                         | (rw [if_pos (by omega)]; repeat (first | rw [if_pos (by omega)] | rw [if_neg (by omega)])))
                    | (refine ⟨_, rfl, im2, lm2, ?_, hR2, hag, hlg, rfl⟩
                       unfold tdR
                       rw [if_pos (by omega), if_neg (by omega), if_neg (by omega), if_neg (by omega), if_neg (by omega), if_neg (by omega), if_neg (by omega), if_neg (by omega), if_neg (by omega)]
                       exact hx)
                · refine q_aload_n (t := 90) F dX9_told_89 rfl rfl rfl ?_
                  refine g_X9_26 (t := 93) F dX9_told_90 rfl rfl ?_
                  rw [show vI p = vI ((p.toNat : Nat) : Int) by rw [Int.toNat_of_nonneg (by omega)]]
                  refine q_iload_n (t := 94) F dX9_told_93 rfl rfl rfl ?_
                  first | refine ldN_34 (t := 95) F dX9_told_94 (by omega) rfl ?_ | refine ld_34 (t := 95) F dX9_told_94 (by omega) (by omega) rfl ?_
                  try simp only [up_app, row_app, scr_app, cpy_app, Nat.reduceEqDiff, Int.reduceToNat, Int.toNat_natCast, and_true, true_and, and_false, false_and, and_self, reduceIte]
                  refine q_goto (t := 103) F dX9_told_95 (by decide) ?_
                  refine q_iret F dX9_told_103 rfl ?_
                  first
                    | (exfalso; omega)
                    | (refine ⟨_, rfl, im, lm, ?_, hR, agY_rfl im, lgQ_rfl lm, rfl⟩
                       unfold tdR
                       first
                         | rw [if_neg (by omega)]
                         | (rw [if_pos (by omega)]; repeat (first | rw [if_pos (by omega)] | rw [if_neg (by omega)])))
                    | (refine ⟨_, rfl, im2, lm2, ?_, hR2, hag, hlg, rfl⟩
                       unfold tdR
                       rw [if_pos (by omega), if_neg (by omega), if_neg (by omega), if_neg (by omega), if_neg (by omega), if_neg (by omega), if_neg (by omega), if_neg (by omega), if_neg (by omega)]
                       exact hx)
              · refine q_aload_n (t := 76) F dX9_told_75 rfl rfl rfl ?_
                refine g_X9_29 (t := 79) F dX9_told_76 rfl rfl ?_
                rw [show vI p = vI ((p.toNat : Nat) : Int) by rw [Int.toNat_of_nonneg (by omega)]]
                refine q_iload_n (t := 80) F dX9_told_79 rfl rfl rfl ?_
                first | refine ldN_35 (t := 81) F dX9_told_80 (by omega) rfl ?_ | refine ld_35 (t := 81) F dX9_told_80 (by omega) (by omega) rfl ?_
                try simp only [up_app, row_app, scr_app, cpy_app, Nat.reduceEqDiff, Int.reduceToNat, Int.toNat_natCast, and_true, true_and, and_false, false_and, and_self, reduceIte]
                refine q_goto (t := 103) F dX9_told_81 (by decide) ?_
                refine q_iret F dX9_told_103 rfl ?_
                first
                  | (exfalso; omega)
                  | (refine ⟨_, rfl, im, lm, ?_, hR, agY_rfl im, lgQ_rfl lm, rfl⟩
                     unfold tdR
                     first
                       | rw [if_neg (by omega)]
                       | (rw [if_pos (by omega)]; repeat (first | rw [if_pos (by omega)] | rw [if_neg (by omega)])))
                  | (refine ⟨_, rfl, im2, lm2, ?_, hR2, hag, hlg, rfl⟩
                     unfold tdR
                     rw [if_pos (by omega), if_neg (by omega), if_neg (by omega), if_neg (by omega), if_neg (by omega), if_neg (by omega), if_neg (by omega), if_neg (by omega), if_neg (by omega)]
                     exact hx)
            · refine q_aload_n (t := 64) F dX9_told_63 rfl rfl rfl ?_
              refine g_X9_23 (t := 67) F dX9_told_64 rfl rfl ?_
              try simp only [up_app, row_app, scr_app, cpy_app, Nat.reduceEqDiff, Int.reduceToNat, Int.toNat_natCast, and_true, true_and, and_false, false_and, and_self, reduceIte]
              refine q_goto (t := 103) F dX9_told_67 (by decide) ?_
              refine q_iret F dX9_told_103 rfl ?_
              first
                | (exfalso; omega)
                | (refine ⟨_, rfl, im, lm, ?_, hR, agY_rfl im, lgQ_rfl lm, rfl⟩
                   unfold tdR
                   first
                     | rw [if_neg (by omega)]
                     | (rw [if_pos (by omega)]; repeat (first | rw [if_pos (by omega)] | rw [if_neg (by omega)])))
                | (refine ⟨_, rfl, im2, lm2, ?_, hR2, hag, hlg, rfl⟩
                   unfold tdR
                   rw [if_pos (by omega), if_neg (by omega), if_neg (by omega), if_neg (by omega), if_neg (by omega), if_neg (by omega), if_neg (by omega), if_neg (by omega), if_neg (by omega)]
                   exact hx)
          · refine q_aload_n (t := 52) F dX9_told_51 rfl rfl rfl ?_
            refine g_X9_117 (t := 55) F dX9_told_52 rfl rfl ?_
            try simp only [up_app, row_app, scr_app, cpy_app, Nat.reduceEqDiff, Int.reduceToNat, Int.toNat_natCast, and_true, true_and, and_false, false_and, and_self, reduceIte]
            refine q_goto (t := 103) F dX9_told_55 (by decide) ?_
            refine q_iret F dX9_told_103 rfl ?_
            first
              | (exfalso; omega)
              | (refine ⟨_, rfl, im, lm, ?_, hR, agY_rfl im, lgQ_rfl lm, rfl⟩
                 unfold tdR
                 first
                   | rw [if_neg (by omega)]
                   | (rw [if_pos (by omega)]; repeat (first | rw [if_pos (by omega)] | rw [if_neg (by omega)])))
              | (refine ⟨_, rfl, im2, lm2, ?_, hR2, hag, hlg, rfl⟩
                 unfold tdR
                 rw [if_pos (by omega), if_neg (by omega), if_neg (by omega), if_neg (by omega), if_neg (by omega), if_neg (by omega), if_neg (by omega), if_neg (by omega), if_neg (by omega)]
                 exact hx)
      · refine q_bipush (t := 41) F dX9_told_39 (by decide) rfl ?_
        refine q_iret F dX9_told_41 rfl ?_
        first
          | (exfalso; omega)
          | (refine ⟨_, rfl, im, lm, ?_, hR, agY_rfl im, lgQ_rfl lm, rfl⟩
             unfold tdR
             first
               | rw [if_neg (by omega)]
               | (rw [if_pos (by omega)]; repeat (first | rw [if_pos (by omega)] | rw [if_neg (by omega)])))
          | (refine ⟨_, rfl, im2, lm2, ?_, hR2, hag, hlg, rfl⟩
             unfold tdR
             rw [if_pos (by omega), if_neg (by omega), if_neg (by omega), if_neg (by omega), if_neg (by omega), if_neg (by omega), if_neg (by omega), if_neg (by omega), if_neg (by omega)]
             exact hx)
  · refine q_iload_n (t := 13) F dX9_told_12 rfl rfl rfl ?_
    refine q_i2l (t := 14) F dX9_told_13 (by first | exact hR _ _ _ | (constructor <;> omega)) rfl ?_
    refine q_ldc2 (t := 17) (x := 10) F dX9_told_14 kl_X9_127 (by decide) rfl ?_
    refine q_ldc2 (t := 20) (x := 39) F dX9_told_17 kl_X9_129 (by decide) rfl ?_
    refine wp_callS (t := 23) [_, _, _] F dX9_told_20 k_X9_in st_X9_in ml_X9_91 rfl rfl (Nat.le_of_ble_eq_true rfl) (by decide) (c_X9_in _ G _ _ _ _ _ _ _ (by constructor <;> omega) (by constructor <;> omega) (by constructor <;> omega)) rfl (kI ?_)
    rintro x20 m' ⟨hx20, rfl⟩
    have hx20 := if01 hx20
    refine q_if_eq (t := 26) (u := 39) F dX9_told_23 (by first | exact hR _ _ _ | (constructor <;> omega)) (by decide) rfl (fun c23 => ?_) (fun c23 => ?_)
    · refine q_bipush (t := 41) F dX9_told_39 (by decide) rfl ?_
      refine q_iret F dX9_told_41 rfl ?_
      first
        | (exfalso; omega)
        | (refine ⟨_, rfl, im, lm, ?_, hR, agY_rfl im, lgQ_rfl lm, rfl⟩
           unfold tdR
           first
             | rw [if_neg (by omega)]
             | (rw [if_pos (by omega)]; repeat (first | rw [if_pos (by omega)] | rw [if_neg (by omega)])))
        | (refine ⟨_, rfl, im2, lm2, ?_, hR2, hag, hlg, rfl⟩
           unfold tdR
           rw [if_pos (by omega), if_neg (by omega), if_neg (by omega), if_neg (by omega), if_neg (by omega), if_neg (by omega), if_neg (by omega), if_neg (by omega), if_neg (by omega)]
           exact hx)
    · refine q_iload_n (t := 27) F dX9_told_26 rfl rfl rfl ?_
      refine q_iconst (t := 28) F dX9_told_27 rfl ?_
      refine q_icmp_le (t := 31) (u := 42) F dX9_told_28 (by first | exact hR _ _ _ | (constructor <;> omega)) (by first | exact hR _ _ _ | (constructor <;> omega)) (by decide) rfl (fun c28 => ?_) (fun c28 => ?_)
      · refine q_iload_n (t := 43) F dX9_told_42 rfl rfl rfl ?_
        refine q_iconst (t := 44) F dX9_told_43 rfl ?_
        refine q_icmp_ge (t := 47) (u := 104) F dX9_told_44 (by first | exact hR _ _ _ | (constructor <;> omega)) (by first | exact hR _ _ _ | (constructor <;> omega)) (by decide) rfl (fun c44 => ?_) (fun c44 => ?_)
        · refine q_bipush (t := 106) F dX9_told_104 (by decide) rfl ?_
          refine q_iload_n (t := 107) F dX9_told_106 rfl rfl rfl ?_
          refine q_imul (t := 108) F dX9_told_107 rfl ?_
          refine q_iload_n (t := 109) F dX9_told_108 rfl rfl rfl ?_
          refine q_bipush (t := 111) F dX9_told_109 (by decide) rfl ?_
          refine q_irem (t := 112) F dX9_told_111 (by first | exact hR _ _ _ | (constructor <;> omega)) (by first | exact hR _ _ _ | (constructor <;> omega)) (by omega) (by omega) rfl ?_
          refine q_iadd (t := 113) F dX9_told_112 rfl ?_
          rw [show (10 : Int) * p + w % 10 = ((10 * p.toNat + (w % 10).toNat : Nat) : Int) by omega]
          refine q_istore_n (t := 114) F dX9_told_113 rfl (by decide) rfl rfl ?_
          refine q_aload_n (t := 115) F dX9_told_114 rfl rfl rfl ?_
          refine g_X9_32 (t := 118) F dX9_told_115 rfl rfl ?_
          refine q_iload_n (t := 119) F dX9_told_118 rfl rfl rfl ?_
          first | refine ldN_36 (t := 120) F dX9_told_119 (by omega) rfl ?_ | refine ld_36 (t := 120) F dX9_told_119 (by omega) (by omega) rfl ?_
          try simp only [up_app, row_app, scr_app, cpy_app, Nat.reduceEqDiff, Int.reduceToNat, Int.toNat_natCast, and_true, true_and, and_false, false_and, and_self, reduceIte]
          refine q_iconst (t := 121) F dX9_told_120 rfl ?_
          refine q_icmp_ne (t := 124) (u := 126) F dX9_told_121 (by exact hR _ _ _) (by constructor <;> omega) (by decide) rfl (fun c121 => ?_) (fun c121 => ?_)
          · refine q_iload_n (t := 127) F dX9_told_126 rfl rfl rfl ?_
            refine q_bipush (t := 129) F dX9_told_127 (by decide) rfl ?_
            refine q_icmp_ge (t := 132) (u := 141) F dX9_told_129 (by first | exact hR _ _ _ | (constructor <;> omega)) (by first | exact hR _ _ _ | (constructor <;> omega)) (by decide) rfl (fun c129 => ?_) (fun c129 => ?_)
            · refine q_iload_n (t := 142) F dX9_told_141 rfl rfl rfl ?_
              refine q_bipush (t := 144) F dX9_told_142 (by decide) rfl ?_
              refine q_icmp_ge (t := 147) (u := 156) F dX9_told_144 (by first | exact hR _ _ _ | (constructor <;> omega)) (by first | exact hR _ _ _ | (constructor <;> omega)) (by decide) rfl (fun c144 => ?_) (fun c144 => ?_)
              · refine q_aload_n (t := 157) F dX9_told_156 rfl rfl rfl ?_
                refine q_iload_n (t := 158) F dX9_told_157 rfl rfl rfl ?_
                refine wp_callV (t := 161) [_] F dX9_told_158 k_X9_holdsIn v_X9_holdsIn ml_X9_135 rfl rfl rfl rfl (Nat.le_of_ble_eq_true rfl) (by decide) (m_30 (by omega)) (c_X9_holdsIn _ G im bt rt lm h (10 * p.toNat + (w % 10).toNat) (by omega)) rfl (kI ?_)
                rintro x158 m' ⟨im2, lm2, hx, hR2, hag, hlg, rfl⟩
                refine q_iret F dX9_told_161 rfl ?_
                first
                  | (exfalso; omega)
                  | (refine ⟨_, rfl, im, lm, ?_, hR, agY_rfl im, lgQ_rfl lm, rfl⟩
                     unfold tdR
                     first
                       | rw [if_neg (by omega)]
                       | (rw [if_pos (by omega)]; repeat (first | rw [if_pos (by omega)] | rw [if_neg (by omega)])))
                  | (refine ⟨_, rfl, im2, lm2, ?_, hR2, hag, hlg, rfl⟩
                     unfold tdR
                     rw [if_pos (by omega), if_neg (by omega), if_neg (by omega), if_neg (by omega), if_neg (by omega), if_neg (by omega), if_neg (by omega), if_neg (by omega), if_neg (by omega)]
                     exact hx)
              · refine q_aload_n (t := 148) F dX9_told_147 rfl rfl rfl ?_
                refine g_X9_35 (t := 151) F dX9_told_148 rfl rfl ?_
                refine q_iload_n (t := 152) F dX9_told_151 rfl rfl rfl ?_
                first | refine ldN_37 (t := 153) F dX9_told_152 (by omega) rfl ?_ | refine ld_37 (t := 153) F dX9_told_152 (by omega) (by omega) rfl ?_
                try simp only [up_app, row_app, scr_app, cpy_app, Nat.reduceEqDiff, Int.reduceToNat, Int.toNat_natCast, and_true, true_and, and_false, false_and, and_self, reduceIte]
                refine q_goto (t := 161) F dX9_told_153 (by decide) ?_
                refine q_iret F dX9_told_161 rfl ?_
                first
                  | (exfalso; omega)
                  | (refine ⟨_, rfl, im, lm, ?_, hR, agY_rfl im, lgQ_rfl lm, rfl⟩
                     unfold tdR
                     first
                       | rw [if_neg (by omega)]
                       | (rw [if_pos (by omega)]; repeat (first | rw [if_pos (by omega)] | rw [if_neg (by omega)])))
                  | (refine ⟨_, rfl, im2, lm2, ?_, hR2, hag, hlg, rfl⟩
                     unfold tdR
                     rw [if_pos (by omega), if_neg (by omega), if_neg (by omega), if_neg (by omega), if_neg (by omega), if_neg (by omega), if_neg (by omega), if_neg (by omega), if_neg (by omega)]
                     exact hx)
            · refine q_aload_n (t := 133) F dX9_told_132 rfl rfl rfl ?_
              refine g_X9_32 (t := 136) F dX9_told_133 rfl rfl ?_
              refine q_iload_n (t := 137) F dX9_told_136 rfl rfl rfl ?_
              first | refine ldN_36 (t := 138) F dX9_told_137 (by omega) rfl ?_ | refine ld_36 (t := 138) F dX9_told_137 (by omega) (by omega) rfl ?_
              try simp only [up_app, row_app, scr_app, cpy_app, Nat.reduceEqDiff, Int.reduceToNat, Int.toNat_natCast, and_true, true_and, and_false, false_and, and_self, reduceIte]
              refine q_goto (t := 161) F dX9_told_138 (by decide) ?_
              refine q_iret F dX9_told_161 rfl ?_
              first
                | (exfalso; omega)
                | (refine ⟨_, rfl, im, lm, ?_, hR, agY_rfl im, lgQ_rfl lm, rfl⟩
                   unfold tdR
                   first
                     | rw [if_neg (by omega)]
                     | (rw [if_pos (by omega)]; repeat (first | rw [if_pos (by omega)] | rw [if_neg (by omega)])))
                | (refine ⟨_, rfl, im2, lm2, ?_, hR2, hag, hlg, rfl⟩
                   unfold tdR
                   rw [if_pos (by omega), if_neg (by omega), if_neg (by omega), if_neg (by omega), if_neg (by omega), if_neg (by omega), if_neg (by omega), if_neg (by omega), if_neg (by omega)]
                   exact hx)
          · refine q_iconst (t := 125) F dX9_told_124 rfl ?_
            refine q_iret F dX9_told_125 rfl ?_
            first
              | (exfalso; omega)
              | (refine ⟨_, rfl, im, lm, ?_, hR, agY_rfl im, lgQ_rfl lm, rfl⟩
                 unfold tdR
                 first
                   | rw [if_neg (by omega)]
                   | (rw [if_pos (by omega)]; repeat (first | rw [if_pos (by omega)] | rw [if_neg (by omega)])))
              | (refine ⟨_, rfl, im2, lm2, ?_, hR2, hag, hlg, rfl⟩
                 unfold tdR
                 rw [if_pos (by omega), if_neg (by omega), if_neg (by omega), if_neg (by omega), if_neg (by omega), if_neg (by omega), if_neg (by omega), if_neg (by omega), if_neg (by omega)]
                 exact hx)
        · refine q_iload_n (t := 48) F dX9_told_47 rfl rfl rfl ?_
          refine q_if_ne (t := 51) (u := 58) F dX9_told_48 (by first | exact hR _ _ _ | (constructor <;> omega)) (by decide) rfl (fun c48 => ?_) (fun c48 => ?_)
          · refine q_iload_n (t := 59) F dX9_told_58 rfl rfl rfl ?_
            refine q_iconst (t := 60) F dX9_told_59 rfl ?_
            refine q_icmp_ne (t := 63) (u := 70) F dX9_told_60 (by first | exact hR _ _ _ | (constructor <;> omega)) (by first | exact hR _ _ _ | (constructor <;> omega)) (by decide) rfl (fun c60 => ?_) (fun c60 => ?_)
            · refine q_iload_n (t := 71) F dX9_told_70 rfl rfl rfl ?_
              refine q_iconst (t := 72) F dX9_told_71 rfl ?_
              refine q_icmp_ne (t := 75) (u := 84) F dX9_told_72 (by first | exact hR _ _ _ | (constructor <;> omega)) (by first | exact hR _ _ _ | (constructor <;> omega)) (by decide) rfl (fun c72 => ?_) (fun c72 => ?_)
              · refine q_iload_n (t := 85) F dX9_told_84 rfl rfl rfl ?_
                refine q_iconst (t := 86) F dX9_told_85 rfl ?_
                refine q_icmp_ne (t := 89) (u := 98) F dX9_told_86 (by first | exact hR _ _ _ | (constructor <;> omega)) (by first | exact hR _ _ _ | (constructor <;> omega)) (by decide) rfl (fun c86 => ?_) (fun c86 => ?_)
                · refine q_aload_n (t := 99) F dX9_told_98 rfl rfl rfl ?_
                  refine q_iload_n (t := 100) F dX9_told_99 rfl rfl rfl ?_
                  rw [show vI p = vI ((p.toNat : Nat) : Int) by rw [Int.toNat_of_nonneg (by omega)]]
                  refine wp_callV (t := 103) [_] F dX9_told_100 k_X9_stuckOf v_X9_stuckOf ml_X9_131 rfl rfl rfl rfl (Nat.le_of_ble_eq_true rfl) (by decide) (m_30 (by omega)) (c_X9_stuckOf _ G im bt rt lm hR p.toNat (by omega)) rfl (kI ?_)
                  rintro x100 m' ⟨rfl, rfl⟩
                  refine q_iret F dX9_told_103 rfl ?_
                  first
                    | (exfalso; omega)
                    | (refine ⟨_, rfl, im, lm, ?_, hR, agY_rfl im, lgQ_rfl lm, rfl⟩
                       unfold tdR
                       first
                         | rw [if_neg (by omega)]
                         | (rw [if_pos (by omega)]; repeat (first | rw [if_pos (by omega)] | rw [if_neg (by omega)])))
                    | (refine ⟨_, rfl, im2, lm2, ?_, hR2, hag, hlg, rfl⟩
                       unfold tdR
                       rw [if_pos (by omega), if_neg (by omega), if_neg (by omega), if_neg (by omega), if_neg (by omega), if_neg (by omega), if_neg (by omega), if_neg (by omega), if_neg (by omega)]
                       exact hx)
                · refine q_aload_n (t := 90) F dX9_told_89 rfl rfl rfl ?_
                  refine g_X9_26 (t := 93) F dX9_told_90 rfl rfl ?_
                  rw [show vI p = vI ((p.toNat : Nat) : Int) by rw [Int.toNat_of_nonneg (by omega)]]
                  refine q_iload_n (t := 94) F dX9_told_93 rfl rfl rfl ?_
                  first | refine ldN_34 (t := 95) F dX9_told_94 (by omega) rfl ?_ | refine ld_34 (t := 95) F dX9_told_94 (by omega) (by omega) rfl ?_
                  try simp only [up_app, row_app, scr_app, cpy_app, Nat.reduceEqDiff, Int.reduceToNat, Int.toNat_natCast, and_true, true_and, and_false, false_and, and_self, reduceIte]
                  refine q_goto (t := 103) F dX9_told_95 (by decide) ?_
                  refine q_iret F dX9_told_103 rfl ?_
                  first
                    | (exfalso; omega)
                    | (refine ⟨_, rfl, im, lm, ?_, hR, agY_rfl im, lgQ_rfl lm, rfl⟩
                       unfold tdR
                       first
                         | rw [if_neg (by omega)]
                         | (rw [if_pos (by omega)]; repeat (first | rw [if_pos (by omega)] | rw [if_neg (by omega)])))
                    | (refine ⟨_, rfl, im2, lm2, ?_, hR2, hag, hlg, rfl⟩
                       unfold tdR
                       rw [if_pos (by omega), if_neg (by omega), if_neg (by omega), if_neg (by omega), if_neg (by omega), if_neg (by omega), if_neg (by omega), if_neg (by omega), if_neg (by omega)]
                       exact hx)
              · refine q_aload_n (t := 76) F dX9_told_75 rfl rfl rfl ?_
                refine g_X9_29 (t := 79) F dX9_told_76 rfl rfl ?_
                rw [show vI p = vI ((p.toNat : Nat) : Int) by rw [Int.toNat_of_nonneg (by omega)]]
                refine q_iload_n (t := 80) F dX9_told_79 rfl rfl rfl ?_
                first | refine ldN_35 (t := 81) F dX9_told_80 (by omega) rfl ?_ | refine ld_35 (t := 81) F dX9_told_80 (by omega) (by omega) rfl ?_
                try simp only [up_app, row_app, scr_app, cpy_app, Nat.reduceEqDiff, Int.reduceToNat, Int.toNat_natCast, and_true, true_and, and_false, false_and, and_self, reduceIte]
                refine q_goto (t := 103) F dX9_told_81 (by decide) ?_
                refine q_iret F dX9_told_103 rfl ?_
                first
                  | (exfalso; omega)
                  | (refine ⟨_, rfl, im, lm, ?_, hR, agY_rfl im, lgQ_rfl lm, rfl⟩
                     unfold tdR
                     first
                       | rw [if_neg (by omega)]
                       | (rw [if_pos (by omega)]; repeat (first | rw [if_pos (by omega)] | rw [if_neg (by omega)])))
                  | (refine ⟨_, rfl, im2, lm2, ?_, hR2, hag, hlg, rfl⟩
                     unfold tdR
                     rw [if_pos (by omega), if_neg (by omega), if_neg (by omega), if_neg (by omega), if_neg (by omega), if_neg (by omega), if_neg (by omega), if_neg (by omega), if_neg (by omega)]
                     exact hx)
            · refine q_aload_n (t := 64) F dX9_told_63 rfl rfl rfl ?_
              refine g_X9_23 (t := 67) F dX9_told_64 rfl rfl ?_
              try simp only [up_app, row_app, scr_app, cpy_app, Nat.reduceEqDiff, Int.reduceToNat, Int.toNat_natCast, and_true, true_and, and_false, false_and, and_self, reduceIte]
              refine q_goto (t := 103) F dX9_told_67 (by decide) ?_
              refine q_iret F dX9_told_103 rfl ?_
              first
                | (exfalso; omega)
                | (refine ⟨_, rfl, im, lm, ?_, hR, agY_rfl im, lgQ_rfl lm, rfl⟩
                   unfold tdR
                   first
                     | rw [if_neg (by omega)]
                     | (rw [if_pos (by omega)]; repeat (first | rw [if_pos (by omega)] | rw [if_neg (by omega)])))
                | (refine ⟨_, rfl, im2, lm2, ?_, hR2, hag, hlg, rfl⟩
                   unfold tdR
                   rw [if_pos (by omega), if_neg (by omega), if_neg (by omega), if_neg (by omega), if_neg (by omega), if_neg (by omega), if_neg (by omega), if_neg (by omega), if_neg (by omega)]
                   exact hx)
          · refine q_aload_n (t := 52) F dX9_told_51 rfl rfl rfl ?_
            refine g_X9_117 (t := 55) F dX9_told_52 rfl rfl ?_
            try simp only [up_app, row_app, scr_app, cpy_app, Nat.reduceEqDiff, Int.reduceToNat, Int.toNat_natCast, and_true, true_and, and_false, false_and, and_self, reduceIte]
            refine q_goto (t := 103) F dX9_told_55 (by decide) ?_
            refine q_iret F dX9_told_103 rfl ?_
            first
              | (exfalso; omega)
              | (refine ⟨_, rfl, im, lm, ?_, hR, agY_rfl im, lgQ_rfl lm, rfl⟩
                 unfold tdR
                 first
                   | rw [if_neg (by omega)]
                   | (rw [if_pos (by omega)]; repeat (first | rw [if_pos (by omega)] | rw [if_neg (by omega)])))
              | (refine ⟨_, rfl, im2, lm2, ?_, hR2, hag, hlg, rfl⟩
                 unfold tdR
                 rw [if_pos (by omega), if_neg (by omega), if_neg (by omega), if_neg (by omega), if_neg (by omega), if_neg (by omega), if_neg (by omega), if_neg (by omega), if_neg (by omega)]
                 exact hx)
      · refine q_aload_n (t := 32) F dX9_told_31 rfl rfl rfl ?_
        refine q_iload_n (t := 33) F dX9_told_32 rfl rfl rfl ?_
        refine wp_callV (t := 36) [_] F dX9_told_33 k_X9_isOne v_X9_isOne ml_X9_101 rfl rfl rfl rfl (Nat.le_of_ble_eq_true rfl) (by decide) (m_30 (by omega)) (c_X9_isOne _ G im bt rt lm hR h12.1 h12.2 p (by constructor <;> omega)) rfl (kI ?_)
        rintro x33 m' ⟨hx33, rfl⟩
        have hx33 := if01 hx33
        refine q_if_ne (t := 39) (u := 42) F dX9_told_36 (by first | exact hR _ _ _ | (constructor <;> omega)) (by decide) rfl (fun c36 => ?_) (fun c36 => ?_)
        · refine q_iload_n (t := 43) F dX9_told_42 rfl rfl rfl ?_
          refine q_iconst (t := 44) F dX9_told_43 rfl ?_
          refine q_icmp_ge (t := 47) (u := 104) F dX9_told_44 (by first | exact hR _ _ _ | (constructor <;> omega)) (by first | exact hR _ _ _ | (constructor <;> omega)) (by decide) rfl (fun c44 => ?_) (fun c44 => ?_)
          · refine q_bipush (t := 106) F dX9_told_104 (by decide) rfl ?_
            refine q_iload_n (t := 107) F dX9_told_106 rfl rfl rfl ?_
            refine q_imul (t := 108) F dX9_told_107 rfl ?_
            refine q_iload_n (t := 109) F dX9_told_108 rfl rfl rfl ?_
            refine q_bipush (t := 111) F dX9_told_109 (by decide) rfl ?_
            refine q_irem (t := 112) F dX9_told_111 (by first | exact hR _ _ _ | (constructor <;> omega)) (by first | exact hR _ _ _ | (constructor <;> omega)) (by omega) (by omega) rfl ?_
            refine q_iadd (t := 113) F dX9_told_112 rfl ?_
            rw [show (10 : Int) * p + w % 10 = ((10 * p.toNat + (w % 10).toNat : Nat) : Int) by omega]
            refine q_istore_n (t := 114) F dX9_told_113 rfl (by decide) rfl rfl ?_
            refine q_aload_n (t := 115) F dX9_told_114 rfl rfl rfl ?_
            refine g_X9_32 (t := 118) F dX9_told_115 rfl rfl ?_
            refine q_iload_n (t := 119) F dX9_told_118 rfl rfl rfl ?_
            first | refine ldN_36 (t := 120) F dX9_told_119 (by omega) rfl ?_ | refine ld_36 (t := 120) F dX9_told_119 (by omega) (by omega) rfl ?_
            try simp only [up_app, row_app, scr_app, cpy_app, Nat.reduceEqDiff, Int.reduceToNat, Int.toNat_natCast, and_true, true_and, and_false, false_and, and_self, reduceIte]
            refine q_iconst (t := 121) F dX9_told_120 rfl ?_
            refine q_icmp_ne (t := 124) (u := 126) F dX9_told_121 (by exact hR _ _ _) (by constructor <;> omega) (by decide) rfl (fun c121 => ?_) (fun c121 => ?_)
            · refine q_iload_n (t := 127) F dX9_told_126 rfl rfl rfl ?_
              refine q_bipush (t := 129) F dX9_told_127 (by decide) rfl ?_
              refine q_icmp_ge (t := 132) (u := 141) F dX9_told_129 (by first | exact hR _ _ _ | (constructor <;> omega)) (by first | exact hR _ _ _ | (constructor <;> omega)) (by decide) rfl (fun c129 => ?_) (fun c129 => ?_)
              · refine q_iload_n (t := 142) F dX9_told_141 rfl rfl rfl ?_
                refine q_bipush (t := 144) F dX9_told_142 (by decide) rfl ?_
                refine q_icmp_ge (t := 147) (u := 156) F dX9_told_144 (by first | exact hR _ _ _ | (constructor <;> omega)) (by first | exact hR _ _ _ | (constructor <;> omega)) (by decide) rfl (fun c144 => ?_) (fun c144 => ?_)
                · refine q_aload_n (t := 157) F dX9_told_156 rfl rfl rfl ?_
                  refine q_iload_n (t := 158) F dX9_told_157 rfl rfl rfl ?_
                  refine wp_callV (t := 161) [_] F dX9_told_158 k_X9_holdsIn v_X9_holdsIn ml_X9_135 rfl rfl rfl rfl (Nat.le_of_ble_eq_true rfl) (by decide) (m_30 (by omega)) (c_X9_holdsIn _ G im bt rt lm h (10 * p.toNat + (w % 10).toNat) (by omega)) rfl (kI ?_)
                  rintro x158 m' ⟨im2, lm2, hx, hR2, hag, hlg, rfl⟩
                  refine q_iret F dX9_told_161 rfl ?_
                  first
                    | (exfalso; omega)
                    | (refine ⟨_, rfl, im, lm, ?_, hR, agY_rfl im, lgQ_rfl lm, rfl⟩
                       unfold tdR
                       first
                         | rw [if_neg (by omega)]
                         | (rw [if_pos (by omega)]; repeat (first | rw [if_pos (by omega)] | rw [if_neg (by omega)])))
                    | (refine ⟨_, rfl, im2, lm2, ?_, hR2, hag, hlg, rfl⟩
                       unfold tdR
                       rw [if_pos (by omega), if_neg (by omega), if_neg (by omega), if_neg (by omega), if_neg (by omega), if_neg (by omega), if_neg (by omega), if_neg (by omega), if_neg (by omega)]
                       exact hx)
                · refine q_aload_n (t := 148) F dX9_told_147 rfl rfl rfl ?_
                  refine g_X9_35 (t := 151) F dX9_told_148 rfl rfl ?_
                  refine q_iload_n (t := 152) F dX9_told_151 rfl rfl rfl ?_
                  first | refine ldN_37 (t := 153) F dX9_told_152 (by omega) rfl ?_ | refine ld_37 (t := 153) F dX9_told_152 (by omega) (by omega) rfl ?_
                  try simp only [up_app, row_app, scr_app, cpy_app, Nat.reduceEqDiff, Int.reduceToNat, Int.toNat_natCast, and_true, true_and, and_false, false_and, and_self, reduceIte]
                  refine q_goto (t := 161) F dX9_told_153 (by decide) ?_
                  refine q_iret F dX9_told_161 rfl ?_
                  first
                    | (exfalso; omega)
                    | (refine ⟨_, rfl, im, lm, ?_, hR, agY_rfl im, lgQ_rfl lm, rfl⟩
                       unfold tdR
                       first
                         | rw [if_neg (by omega)]
                         | (rw [if_pos (by omega)]; repeat (first | rw [if_pos (by omega)] | rw [if_neg (by omega)])))
                    | (refine ⟨_, rfl, im2, lm2, ?_, hR2, hag, hlg, rfl⟩
                       unfold tdR
                       rw [if_pos (by omega), if_neg (by omega), if_neg (by omega), if_neg (by omega), if_neg (by omega), if_neg (by omega), if_neg (by omega), if_neg (by omega), if_neg (by omega)]
                       exact hx)
              · refine q_aload_n (t := 133) F dX9_told_132 rfl rfl rfl ?_
                refine g_X9_32 (t := 136) F dX9_told_133 rfl rfl ?_
                refine q_iload_n (t := 137) F dX9_told_136 rfl rfl rfl ?_
                first | refine ldN_36 (t := 138) F dX9_told_137 (by omega) rfl ?_ | refine ld_36 (t := 138) F dX9_told_137 (by omega) (by omega) rfl ?_
                try simp only [up_app, row_app, scr_app, cpy_app, Nat.reduceEqDiff, Int.reduceToNat, Int.toNat_natCast, and_true, true_and, and_false, false_and, and_self, reduceIte]
                refine q_goto (t := 161) F dX9_told_138 (by decide) ?_
                refine q_iret F dX9_told_161 rfl ?_
                first
                  | (exfalso; omega)
                  | (refine ⟨_, rfl, im, lm, ?_, hR, agY_rfl im, lgQ_rfl lm, rfl⟩
                     unfold tdR
                     first
                       | rw [if_neg (by omega)]
                       | (rw [if_pos (by omega)]; repeat (first | rw [if_pos (by omega)] | rw [if_neg (by omega)])))
                  | (refine ⟨_, rfl, im2, lm2, ?_, hR2, hag, hlg, rfl⟩
                     unfold tdR
                     rw [if_pos (by omega), if_neg (by omega), if_neg (by omega), if_neg (by omega), if_neg (by omega), if_neg (by omega), if_neg (by omega), if_neg (by omega), if_neg (by omega)]
                     exact hx)
            · refine q_iconst (t := 125) F dX9_told_124 rfl ?_
              refine q_iret F dX9_told_125 rfl ?_
              first
                | (exfalso; omega)
                | (refine ⟨_, rfl, im, lm, ?_, hR, agY_rfl im, lgQ_rfl lm, rfl⟩
                   unfold tdR
                   first
                     | rw [if_neg (by omega)]
                     | (rw [if_pos (by omega)]; repeat (first | rw [if_pos (by omega)] | rw [if_neg (by omega)])))
                | (refine ⟨_, rfl, im2, lm2, ?_, hR2, hag, hlg, rfl⟩
                   unfold tdR
                   rw [if_pos (by omega), if_neg (by omega), if_neg (by omega), if_neg (by omega), if_neg (by omega), if_neg (by omega), if_neg (by omega), if_neg (by omega), if_neg (by omega)]
                   exact hx)
          · refine q_iload_n (t := 48) F dX9_told_47 rfl rfl rfl ?_
            refine q_if_ne (t := 51) (u := 58) F dX9_told_48 (by first | exact hR _ _ _ | (constructor <;> omega)) (by decide) rfl (fun c48 => ?_) (fun c48 => ?_)
            · refine q_iload_n (t := 59) F dX9_told_58 rfl rfl rfl ?_
              refine q_iconst (t := 60) F dX9_told_59 rfl ?_
              refine q_icmp_ne (t := 63) (u := 70) F dX9_told_60 (by first | exact hR _ _ _ | (constructor <;> omega)) (by first | exact hR _ _ _ | (constructor <;> omega)) (by decide) rfl (fun c60 => ?_) (fun c60 => ?_)
              · refine q_iload_n (t := 71) F dX9_told_70 rfl rfl rfl ?_
                refine q_iconst (t := 72) F dX9_told_71 rfl ?_
                refine q_icmp_ne (t := 75) (u := 84) F dX9_told_72 (by first | exact hR _ _ _ | (constructor <;> omega)) (by first | exact hR _ _ _ | (constructor <;> omega)) (by decide) rfl (fun c72 => ?_) (fun c72 => ?_)
                · refine q_iload_n (t := 85) F dX9_told_84 rfl rfl rfl ?_
                  refine q_iconst (t := 86) F dX9_told_85 rfl ?_
                  refine q_icmp_ne (t := 89) (u := 98) F dX9_told_86 (by first | exact hR _ _ _ | (constructor <;> omega)) (by first | exact hR _ _ _ | (constructor <;> omega)) (by decide) rfl (fun c86 => ?_) (fun c86 => ?_)
                  · refine q_aload_n (t := 99) F dX9_told_98 rfl rfl rfl ?_
                    refine q_iload_n (t := 100) F dX9_told_99 rfl rfl rfl ?_
                    rw [show vI p = vI ((p.toNat : Nat) : Int) by rw [Int.toNat_of_nonneg (by omega)]]
                    refine wp_callV (t := 103) [_] F dX9_told_100 k_X9_stuckOf v_X9_stuckOf ml_X9_131 rfl rfl rfl rfl (Nat.le_of_ble_eq_true rfl) (by decide) (m_30 (by omega)) (c_X9_stuckOf _ G im bt rt lm hR p.toNat (by omega)) rfl (kI ?_)
                    rintro x100 m' ⟨rfl, rfl⟩
                    refine q_iret F dX9_told_103 rfl ?_
                    first
                      | (exfalso; omega)
                      | (refine ⟨_, rfl, im, lm, ?_, hR, agY_rfl im, lgQ_rfl lm, rfl⟩
                         unfold tdR
                         first
                           | rw [if_neg (by omega)]
                           | (rw [if_pos (by omega)]; repeat (first | rw [if_pos (by omega)] | rw [if_neg (by omega)])))
                      | (refine ⟨_, rfl, im2, lm2, ?_, hR2, hag, hlg, rfl⟩
                         unfold tdR
                         rw [if_pos (by omega), if_neg (by omega), if_neg (by omega), if_neg (by omega), if_neg (by omega), if_neg (by omega), if_neg (by omega), if_neg (by omega), if_neg (by omega)]
                         exact hx)
                  · refine q_aload_n (t := 90) F dX9_told_89 rfl rfl rfl ?_
                    refine g_X9_26 (t := 93) F dX9_told_90 rfl rfl ?_
                    rw [show vI p = vI ((p.toNat : Nat) : Int) by rw [Int.toNat_of_nonneg (by omega)]]
                    refine q_iload_n (t := 94) F dX9_told_93 rfl rfl rfl ?_
                    first | refine ldN_34 (t := 95) F dX9_told_94 (by omega) rfl ?_ | refine ld_34 (t := 95) F dX9_told_94 (by omega) (by omega) rfl ?_
                    try simp only [up_app, row_app, scr_app, cpy_app, Nat.reduceEqDiff, Int.reduceToNat, Int.toNat_natCast, and_true, true_and, and_false, false_and, and_self, reduceIte]
                    refine q_goto (t := 103) F dX9_told_95 (by decide) ?_
                    refine q_iret F dX9_told_103 rfl ?_
                    first
                      | (exfalso; omega)
                      | (refine ⟨_, rfl, im, lm, ?_, hR, agY_rfl im, lgQ_rfl lm, rfl⟩
                         unfold tdR
                         first
                           | rw [if_neg (by omega)]
                           | (rw [if_pos (by omega)]; repeat (first | rw [if_pos (by omega)] | rw [if_neg (by omega)])))
                      | (refine ⟨_, rfl, im2, lm2, ?_, hR2, hag, hlg, rfl⟩
                         unfold tdR
                         rw [if_pos (by omega), if_neg (by omega), if_neg (by omega), if_neg (by omega), if_neg (by omega), if_neg (by omega), if_neg (by omega), if_neg (by omega), if_neg (by omega)]
                         exact hx)
                · refine q_aload_n (t := 76) F dX9_told_75 rfl rfl rfl ?_
                  refine g_X9_29 (t := 79) F dX9_told_76 rfl rfl ?_
                  rw [show vI p = vI ((p.toNat : Nat) : Int) by rw [Int.toNat_of_nonneg (by omega)]]
                  refine q_iload_n (t := 80) F dX9_told_79 rfl rfl rfl ?_
                  first | refine ldN_35 (t := 81) F dX9_told_80 (by omega) rfl ?_ | refine ld_35 (t := 81) F dX9_told_80 (by omega) (by omega) rfl ?_
                  try simp only [up_app, row_app, scr_app, cpy_app, Nat.reduceEqDiff, Int.reduceToNat, Int.toNat_natCast, and_true, true_and, and_false, false_and, and_self, reduceIte]
                  refine q_goto (t := 103) F dX9_told_81 (by decide) ?_
                  refine q_iret F dX9_told_103 rfl ?_
                  first
                    | (exfalso; omega)
                    | (refine ⟨_, rfl, im, lm, ?_, hR, agY_rfl im, lgQ_rfl lm, rfl⟩
                       unfold tdR
                       first
                         | rw [if_neg (by omega)]
                         | (rw [if_pos (by omega)]; repeat (first | rw [if_pos (by omega)] | rw [if_neg (by omega)])))
                    | (refine ⟨_, rfl, im2, lm2, ?_, hR2, hag, hlg, rfl⟩
                       unfold tdR
                       rw [if_pos (by omega), if_neg (by omega), if_neg (by omega), if_neg (by omega), if_neg (by omega), if_neg (by omega), if_neg (by omega), if_neg (by omega), if_neg (by omega)]
                       exact hx)
              · refine q_aload_n (t := 64) F dX9_told_63 rfl rfl rfl ?_
                refine g_X9_23 (t := 67) F dX9_told_64 rfl rfl ?_
                try simp only [up_app, row_app, scr_app, cpy_app, Nat.reduceEqDiff, Int.reduceToNat, Int.toNat_natCast, and_true, true_and, and_false, false_and, and_self, reduceIte]
                refine q_goto (t := 103) F dX9_told_67 (by decide) ?_
                refine q_iret F dX9_told_103 rfl ?_
                first
                  | (exfalso; omega)
                  | (refine ⟨_, rfl, im, lm, ?_, hR, agY_rfl im, lgQ_rfl lm, rfl⟩
                     unfold tdR
                     first
                       | rw [if_neg (by omega)]
                       | (rw [if_pos (by omega)]; repeat (first | rw [if_pos (by omega)] | rw [if_neg (by omega)])))
                  | (refine ⟨_, rfl, im2, lm2, ?_, hR2, hag, hlg, rfl⟩
                     unfold tdR
                     rw [if_pos (by omega), if_neg (by omega), if_neg (by omega), if_neg (by omega), if_neg (by omega), if_neg (by omega), if_neg (by omega), if_neg (by omega), if_neg (by omega)]
                     exact hx)
            · refine q_aload_n (t := 52) F dX9_told_51 rfl rfl rfl ?_
              refine g_X9_117 (t := 55) F dX9_told_52 rfl rfl ?_
              try simp only [up_app, row_app, scr_app, cpy_app, Nat.reduceEqDiff, Int.reduceToNat, Int.toNat_natCast, and_true, true_and, and_false, false_and, and_self, reduceIte]
              refine q_goto (t := 103) F dX9_told_55 (by decide) ?_
              refine q_iret F dX9_told_103 rfl ?_
              first
                | (exfalso; omega)
                | (refine ⟨_, rfl, im, lm, ?_, hR, agY_rfl im, lgQ_rfl lm, rfl⟩
                   unfold tdR
                   first
                     | rw [if_neg (by omega)]
                     | (rw [if_pos (by omega)]; repeat (first | rw [if_pos (by omega)] | rw [if_neg (by omega)])))
                | (refine ⟨_, rfl, im2, lm2, ?_, hR2, hag, hlg, rfl⟩
                   unfold tdR
                   rw [if_pos (by omega), if_neg (by omega), if_neg (by omega), if_neg (by omega), if_neg (by omega), if_neg (by omega), if_neg (by omega), if_neg (by omega), if_neg (by omega)]
                   exact hx)
        · refine q_bipush (t := 41) F dX9_told_39 (by decide) rfl ?_
          refine q_iret F dX9_told_41 rfl ?_
          first
            | (exfalso; omega)
            | (refine ⟨_, rfl, im, lm, ?_, hR, agY_rfl im, lgQ_rfl lm, rfl⟩
               unfold tdR
               first
                 | rw [if_neg (by omega)]
                 | (rw [if_pos (by omega)]; repeat (first | rw [if_pos (by omega)] | rw [if_neg (by omega)])))
            | (refine ⟨_, rfl, im2, lm2, ?_, hR2, hag, hlg, rfl⟩
               unfold tdR
               rw [if_pos (by omega), if_neg (by omega), if_neg (by omega), if_neg (by omega), if_neg (by omega), if_neg (by omega), if_neg (by omega), if_neg (by omega), if_neg (by omega)]
               exact hx)
end
section
/-! the reference: what a kiss hands on -/

def hnR (im : IM) (p q n : Nat) : IM := fun k i s => if (k = 36 ∨ k = 37) ∧ i = 0 ∧ s / 10 = q ∧ s % 10 < n ∧ im 36 0 (10 * p + s % 10) ≠ -1 ∧ im 36 0 (10 * q + s % 10) = -1 then (if k = 36 then im 36 0 (10 * p + s % 10) else 0) else if k = 36 ∧ i = 0 ∧ s / 10 = p ∧ s % 10 < n ∧ im 36 0 (10 * p + s % 10) ≠ -1 ∧ im 36 0 (10 * q + s % 10) = -1 then -1 else im k i s
def hnN (im : IM) (p q : Nat) : Nat → Int
  | 0 => 0
  | n + 1 => hnN im p q n + (if im 36 0 (10 * p + n) ≠ -1 ∧ im 36 0 (10 * q + n) = -1 then 1 else 0)
theorem hnN_in (im : IM) (p q n : Nat) : 0 ≤ hnN im p q n ∧ hnN im p q n ≤ n := by
  induction n with
  | zero => exact ⟨Int.le_refl 0, Int.le_refl 0⟩
  | succ n ih =>
    have e : hnN im p q (n + 1) = hnN im p q n + (if im 36 0 (10 * p + n) ≠ -1 ∧ im 36 0 (10 * q + n) = -1 then 1 else 0) := rfl
    rw [e]
    split <;> omega
theorem hnR_0 (im : IM) (p q : Nat) : hnR im p q 0 = im := by
  funext k i s
  unfold hnR
  rw [if_neg (by omega), if_neg (by omega)]
theorem hnR_p {im : IM} {p q n : Nat} (hpq : p ≠ q) (hn : n < 10) : hnR im p q n 36 0 (10 * p + n) = im 36 0 (10 * p + n) ∧ hnR im p q n 36 0 (10 * q + n) = im 36 0 (10 * q + n) := by
  constructor <;> (unfold hnR; rw [if_neg (by omega), if_neg (by omega)])
theorem hnR_n {im : IM} {p q n : Nat} (hn : n < 10) (h : ¬ (im 36 0 (10 * p + n) ≠ -1 ∧ im 36 0 (10 * q + n) = -1)) : hnR im p q (n + 1) = hnR im p q n := by
  funext k i s
  unfold hnR
  by_cases hs : s % 10 = n
  · rw [hs]
    rw [if_neg (fun z => h ⟨z.2.2.2.2.1, z.2.2.2.2.2⟩), if_neg (fun z => h ⟨z.2.2.2.2.1, z.2.2.2.2.2⟩), if_neg (by omega), if_neg (by omega)]
  · have e : (s % 10 < n + 1) = (s % 10 < n) := propext ⟨fun z => by omega, fun z => by omega⟩
    simp only [e]
theorem hnR_y {im : IM} {p q n : Nat} (hpq : p ≠ q) (hn : n < 10) (h : im 36 0 (10 * p + n) ≠ -1 ∧ im 36 0 (10 * q + n) = -1) : up (up (up (hnR im p q n) 36 0 (10 * q + n) (im 36 0 (10 * p + n))) 37 0 (10 * q + n) 0) 36 0 (10 * p + n) (-1) = hnR im p q (n + 1) := by
  funext k i s
  rw [up_app, up_app, up_app]
  by_cases hs : s % 10 = n
  · by_cases hq : (k = 36 ∨ k = 37) ∧ i = 0 ∧ s / 10 = q
    · obtain ⟨hk, rfl, hsq⟩ := hq
      have es : s = 10 * q + n := by omega
      have e1 : hnR im p q (n + 1) k 0 s = (if k = 36 then im 36 0 (10 * p + n) else 0) := by
        unfold hnR
        rw [hs, if_pos ⟨hk, rfl, hsq, by omega, h.1, h.2⟩]
      rw [e1, if_neg (by omega)]
      rcases hk with rfl | rfl
      · rw [if_neg (by omega), if_pos ⟨rfl, rfl, es⟩, if_pos rfl]
      · rw [if_pos ⟨rfl, rfl, es⟩, if_neg (by omega)]
    · by_cases hp : k = 36 ∧ i = 0 ∧ s / 10 = p
      · obtain ⟨rfl, rfl, hsp⟩ := hp
        have es : s = 10 * p + n := by omega
        have e1 : hnR im p q (n + 1) 36 0 s = -1 := by
          unfold hnR
          rw [hs, if_neg (fun z => hq ⟨z.1, z.2.1, z.2.2.1⟩), if_pos ⟨rfl, rfl, hsp, by omega, h.1, h.2⟩]
        rw [e1, if_pos ⟨rfl, rfl, es⟩]
      · have e1 : ∀ m, hnR im p q m k i s = im k i s := fun m => by
          unfold hnR
          rw [if_neg (fun z => hq ⟨z.1, z.2.1, z.2.2.1⟩), if_neg (fun z => hp ⟨z.1, z.2.1, z.2.2.1⟩)]
        rw [if_neg (by omega), if_neg (by omega), if_neg (by omega), e1, e1]
  · rw [if_neg (by omega), if_neg (by omega), if_neg (by omega)]
    unfold hnR
    have e : (s % 10 < n + 1) = (s % 10 < n) := propext ⟨fun z => by omega, fun z => by omega⟩
    simp only [e]
theorem hnR_RI {im : IM} (h : RI im) (p q n : Nat) : RI (hnR im p q n) := by
  intro k i s
  unfold hnR
  (repeat' split) <;> first | exact h _ _ _ | (constructor <;> omega)

set_option maxHeartbeats 4000000 in
theorem c_X9_hands (l : Launch) (G : GS) (im : IM) (bt rt : Nat) (lm : IM) (hR : RI im) (p q : Nat) (hp : p < 5) (hq : q < 5) (hpq : p ≠ q) : Cn l (XR G) yX9_hands Y_X9_hands [vR 30 0, vI (p : Int), vI (q : Int)] (im, rs bt rt, lm) (pI fun x m' => x = hnN im p q 10 ∧ m' = (hnR im p q 10, rs bt rt, lm)) := by
  refine cn_of (by decide) (okR G) rfl (Nat.le_of_ble_eq_true rfl) ?_
  intro M ad hMl F
  subst hMl
  refine wp_pad 4 ?_
  show Wp M (XR G) ad Y_X9_hands (pI fun x m' => x = hnN im p q 10 ∧ m' = (hnR im p q 10, rs bt rt, lm)) 0 [some (vR 30 0), some (vI (p : Int)), some (vI (q : Int)), none, none, none, none] [] (im, rs bt rt, lm)
  refine q_iconst (t := 1) F dX9_hands_0 rfl ?_
  refine q_istore_n (t := 2) F dX9_hands_1 rfl (by decide) rfl rfl ?_
  refine q_iconst (t := 3) F dX9_hands_2 rfl ?_
  refine q_istore (t := 5) F dX9_hands_3 (by decide) rfl rfl ?_
  have L5 : ∀ (fz : Nat) (n : Nat), 10 - n < fz → n ≤ 10 → Wp M (XR G) ad Y_X9_hands (pI fun x m' => x = hnN im p q 10 ∧ m' = (hnR im p q 10, rs bt rt, lm)) 5 [some (vR 30 0), some (vI (p : Int)), some (vI (q : Int)), some (vI (hnN im p q n)), some (vI (n : Int)), none, none] [] (hnR im p q n, rs bt rt, lm) := by
    intro fz
    induction fz with
    | zero => intro n h; exact absurd h (Nat.not_lt_zero _)
    | succ fz ih =>
      have ih5 := ih
      intro n hmeas hn
      have hc := hnN_in im p q n
      have hRn := hnR_RI hR p q n
      have hs : hnN im p q (n + 1) = hnN im p q n + (if im 36 0 (10 * p + n) ≠ -1 ∧ im 36 0 (10 * q + n) = -1 then 1 else 0) := rfl
      refine q_iload (t := 7) F dX9_hands_5 rfl rfl ?_
      refine q_bipush (t := 9) F dX9_hands_7 (by decide) rfl ?_
      refine q_icmp_ge (t := 12) (u := 91) F dX9_hands_9 (by constructor <;> omega) (by constructor <;> omega) (by decide) rfl (fun c9 => ?_) (fun c9 => ?_)
      · refine q_iload_n (t := 92) F dX9_hands_91 rfl rfl rfl ?_
        refine q_iret F dX9_hands_92 rfl ?_
        obtain rfl : n = 10 := by omega
        exact ⟨_, rfl, rfl, rfl⟩
      · refine q_bipush (t := 14) F dX9_hands_12 (by decide) rfl ?_
        refine q_iload_n (t := 15) F dX9_hands_14 rfl rfl rfl ?_
        refine q_imul (t := 16) F dX9_hands_15 rfl ?_
        refine q_iload (t := 18) F dX9_hands_16 rfl rfl ?_
        refine q_iadd (t := 19) F dX9_hands_18 rfl ?_
        rw [show (10 : Int) * (p : Int) + (n : Int) = ((10 * p + n : Nat) : Int) by omega]
        refine q_istore (t := 21) F dX9_hands_19 (by decide) rfl rfl ?_
        refine q_bipush (t := 23) F dX9_hands_21 (by decide) rfl ?_
        refine q_iload_n (t := 24) F dX9_hands_23 rfl rfl rfl ?_
        refine q_imul (t := 25) F dX9_hands_24 rfl ?_
        refine q_iload (t := 27) F dX9_hands_25 rfl rfl ?_
        refine q_iadd (t := 28) F dX9_hands_27 rfl ?_
        rw [show (10 : Int) * (q : Int) + (n : Int) = ((10 * q + n : Nat) : Int) by omega]
        refine q_istore (t := 30) F dX9_hands_28 (by decide) rfl rfl ?_
        refine q_aload_n (t := 31) F dX9_hands_30 rfl rfl rfl ?_
        refine g_X9_32 (t := 34) F dX9_hands_31 rfl rfl ?_
        refine q_iload (t := 36) F dX9_hands_34 rfl rfl ?_
        first | refine ldN_36 (t := 37) F dX9_hands_36 (by omega) rfl ?_ | refine ld_36 (t := 37) F dX9_hands_36 (by omega) (by omega) rfl ?_
        refine q_iconst (t := 38) F dX9_hands_37 rfl ?_
        refine q_icmp_eq (t := 41) (u := 85) F dX9_hands_38 (by exact hRn _ _ _) (by constructor <;> omega) (by decide) rfl (fun c38 => ?_) (fun c38 => ?_)
        · refine q_iinc (t := 88) F dX9_hands_85 rfl (by decide) rfl rfl ?_
          refine q_goto (t := 5) F dX9_hands_88 (by decide) ?_
          refine wp_less 6 ?_
          refine wp_less 5 ?_
          have hnl : n < 10 := by omega
          have e2 := hnR_p (im := im) hpq hnl
          rw [show (n : Int) + 1 = ((n + 1 : Nat) : Int) by omega]
          first
            | (have hcc : im 36 0 (10 * p + n) ≠ -1 ∧ im 36 0 (10 * q + n) = -1 := by omega
               rw [show hnN im p q n + 1 = hnN im p q (n + 1) by rw [hs, if_pos hcc], e2.1, hnR_y hpq hnl hcc]
               exact ih5 (n + 1) (by omega) (by omega))
            | (have hcc : ¬ (im 36 0 (10 * p + n) ≠ -1 ∧ im 36 0 (10 * q + n) = -1) := by omega
               rw [show hnN im p q n = hnN im p q (n + 1) by rw [hs, if_neg hcc, Int.add_zero], ← hnR_n hnl hcc]
               exact ih5 (n + 1) (by omega) (by omega))
        · refine q_aload_n (t := 42) F dX9_hands_41 rfl rfl rfl ?_
          refine g_X9_32 (t := 45) F dX9_hands_42 rfl rfl ?_
          refine q_iload (t := 47) F dX9_hands_45 rfl rfl ?_
          first | refine ldN_36 (t := 48) F dX9_hands_47 (by omega) rfl ?_ | refine ld_36 (t := 48) F dX9_hands_47 (by omega) (by omega) rfl ?_
          refine q_iconst (t := 49) F dX9_hands_48 rfl ?_
          refine q_icmp_ne (t := 52) (u := 85) F dX9_hands_49 (by exact hRn _ _ _) (by constructor <;> omega) (by decide) rfl (fun c49 => ?_) (fun c49 => ?_)
          · refine q_iinc (t := 88) F dX9_hands_85 rfl (by decide) rfl rfl ?_
            refine q_goto (t := 5) F dX9_hands_88 (by decide) ?_
            refine wp_less 6 ?_
            refine wp_less 5 ?_
            have hnl : n < 10 := by omega
            have e2 := hnR_p (im := im) hpq hnl
            rw [show (n : Int) + 1 = ((n + 1 : Nat) : Int) by omega]
            first
              | (have hcc : im 36 0 (10 * p + n) ≠ -1 ∧ im 36 0 (10 * q + n) = -1 := by omega
                 rw [show hnN im p q n + 1 = hnN im p q (n + 1) by rw [hs, if_pos hcc], e2.1, hnR_y hpq hnl hcc]
                 exact ih5 (n + 1) (by omega) (by omega))
              | (have hcc : ¬ (im 36 0 (10 * p + n) ≠ -1 ∧ im 36 0 (10 * q + n) = -1) := by omega
                 rw [show hnN im p q n = hnN im p q (n + 1) by rw [hs, if_neg hcc, Int.add_zero], ← hnR_n hnl hcc]
                 exact ih5 (n + 1) (by omega) (by omega))
          · refine q_aload_n (t := 53) F dX9_hands_52 rfl rfl rfl ?_
            refine g_X9_32 (t := 56) F dX9_hands_53 rfl rfl ?_
            refine q_iload (t := 58) F dX9_hands_56 rfl rfl ?_
            refine q_aload_n (t := 59) F dX9_hands_58 rfl rfl rfl ?_
            refine g_X9_32 (t := 62) F dX9_hands_59 rfl rfl ?_
            refine q_iload (t := 64) F dX9_hands_62 rfl rfl ?_
            first | refine ldN_36 (t := 65) F dX9_hands_64 (by omega) rfl ?_ | refine ld_36 (t := 65) F dX9_hands_64 (by omega) (by omega) rfl ?_
            first | refine stN_36 (t := 66) F dX9_hands_65 (by omega) rfl ?_ | refine st_36 (t := 66) F dX9_hands_65 (by omega) (by omega) rfl ?_
            refine q_aload_n (t := 67) F dX9_hands_66 rfl rfl rfl ?_
            refine g_X9_35 (t := 70) F dX9_hands_67 rfl rfl ?_
            refine q_iload (t := 72) F dX9_hands_70 rfl rfl ?_
            refine q_iconst (t := 73) F dX9_hands_72 rfl ?_
            first | refine stN_37 (t := 74) F dX9_hands_73 (by omega) rfl ?_ | refine st_37 (t := 74) F dX9_hands_73 (by omega) (by omega) rfl ?_
            refine q_aload_n (t := 75) F dX9_hands_74 rfl rfl rfl ?_
            refine g_X9_32 (t := 78) F dX9_hands_75 rfl rfl ?_
            refine q_iload (t := 80) F dX9_hands_78 rfl rfl ?_
            refine q_iconst (t := 81) F dX9_hands_80 rfl ?_
            first | refine stN_36 (t := 82) F dX9_hands_81 (by omega) rfl ?_ | refine st_36 (t := 82) F dX9_hands_81 (by omega) (by omega) rfl ?_
            refine q_iinc (t := 85) F dX9_hands_82 rfl (by decide) rfl rfl ?_
            refine q_iinc (t := 88) F dX9_hands_85 rfl (by decide) rfl rfl ?_
            refine q_goto (t := 5) F dX9_hands_88 (by decide) ?_
            refine wp_less 6 ?_
            refine wp_less 5 ?_
            have hnl : n < 10 := by omega
            have e2 := hnR_p (im := im) hpq hnl
            rw [show (n : Int) + 1 = ((n + 1 : Nat) : Int) by omega]
            first
              | (have hcc : im 36 0 (10 * p + n) ≠ -1 ∧ im 36 0 (10 * q + n) = -1 := by omega
                 rw [show hnN im p q n + 1 = hnN im p q (n + 1) by rw [hs, if_pos hcc], e2.1, hnR_y hpq hnl hcc]
                 exact ih5 (n + 1) (by omega) (by omega))
              | (have hcc : ¬ (im 36 0 (10 * p + n) ≠ -1 ∧ im 36 0 (10 * q + n) = -1) := by omega
                 rw [show hnN im p q n = hnN im p q (n + 1) by rw [hs, if_neg hcc, Int.add_zero], ← hnR_n hnl hcc]
                 exact ih5 (n + 1) (by omega) (by omega))
  refine wp_less 6 ?_
  refine wp_less 5 ?_
  have L0 := L5 _ 0 (Nat.lt_succ_self _) (Nat.zero_le _)
  rw [hnR_0] at L0
  exact L0
end
section
/-! the reference: kiss, man -/

def fiR (im : IM) (a n : Nat) (v : Int) : IM := fun k i s => if k = 36 ∧ i = 0 ∧ a ≤ s ∧ s < a + n then v else im k i s
theorem fiR_0 (im : IM) (a : Nat) (v : Int) : fiR im a 0 v = im := by
  funext k i s
  unfold fiR
  rw [if_neg (by omega)]
theorem fiR_s (im : IM) (a n : Nat) (v : Int) : up (fiR im a n v) 36 0 (a + n) v = fiR im a (n + 1) v := by
  funext k i s
  rw [up_app]
  unfold fiR
  by_cases h : k = 36 ∧ i = 0 ∧ s = a + n
  · rw [if_pos h, if_pos (by omega)]
  · rw [if_neg h]
    by_cases h2 : k = 36 ∧ i = 0 ∧ a ≤ s ∧ s < a + n
    · rw [if_pos h2, if_pos (by omega)]
    · rw [if_neg h2, if_neg (by omega)]

set_option maxHeartbeats 4000000 in
theorem c_X9_kiss (l : Launch) (G : GS) (im : IM) (bt rt : Nat) (lm : IM) (h : RC im) (p q : Int) (hp : ri p) (hq : ri q) : Cn l (XR G) yX9_kiss Y_X9_kiss [vR 30 0, vI p, vI q] (im, rs bt rt, lm) (pI fun x m' => ((0 ≤ p ∧ p < im 30 0 12) ∧ (0 ≤ q ∧ q < im 30 0 12) ∧ p ≠ q → x = hnN im p.toNat q.toNat 10 ∧ m' = (hnR im p.toNat q.toNat 10, rs bt rt, lm)) ∧ (¬ ((0 ≤ p ∧ p < im 30 0 12) ∧ (0 ≤ q ∧ q < im 30 0 12) ∧ p ≠ q) → x = -2 ∧ m' = (im, rs bt rt, lm))) := by
  refine cn_of (by decide) (okR G) rfl (Nat.le_of_ble_eq_true rfl) ?_
  intro M ad hMl F
  subst hMl
  have hR := h.1
  have hX := h.2.1
  have h4 := h.2.2.1
  have h12 := h.2.2.2.1
  have h7 := h.2.2.2.2.1
  have h6 := hX.2.2.1
  have h3 := hX.2.2.2.1
  have hP := h.2.2.2.2.2.2
  have p1 := hp.1
  have p2 := hp.2
  have q1 := hq.1
  have q2 := hq.2
  refine wp_pad 0 ?_
  show Wp M (XR G) ad Y_X9_kiss (pI fun x m' => ((0 ≤ p ∧ p < im 30 0 12) ∧ (0 ≤ q ∧ q < im 30 0 12) ∧ p ≠ q → x = hnN im p.toNat q.toNat 10 ∧ m' = (hnR im p.toNat q.toNat 10, rs bt rt, lm)) ∧ (¬ ((0 ≤ p ∧ p < im 30 0 12) ∧ (0 ≤ q ∧ q < im 30 0 12) ∧ p ≠ q) → x = -2 ∧ m' = (im, rs bt rt, lm))) 0 [some (vR 30 0), some (vI p), some (vI q)] [] (im, rs bt rt, lm)
  refine q_aload_n (t := 1) F dX9_kiss_0 rfl rfl rfl ?_
  refine q_iload_n (t := 2) F dX9_kiss_1 rfl rfl rfl ?_
  refine wp_callV (t := 5) [_] F dX9_kiss_2 k_X9_isOne v_X9_isOne ml_X9_101 rfl rfl rfl rfl (Nat.le_of_ble_eq_true rfl) (by decide) (m_30 (by omega)) (c_X9_isOne _ G im bt rt lm hR h12.1 h12.2 p (by constructor <;> omega)) rfl (kI ?_)
  rintro x2 m' ⟨hx2, rfl⟩
  have hx2 := if01 hx2
  refine q_if_eq (t := 8) (u := 30) F dX9_kiss_5 (by first | exact hR _ _ _ | (constructor <;> omega)) (by decide) rfl (fun c5 => ?_) (fun c5 => ?_)
  · refine q_bipush (t := 32) F dX9_kiss_30 (by decide) rfl ?_
    refine q_iret F dX9_kiss_32 rfl ?_
    first
      | exact ⟨_, rfl, fun _ => ⟨rfl, rfl⟩, fun z => absurd (by omega) z⟩
      | exact ⟨_, rfl, fun z => absurd z (by omega), fun _ => ⟨rfl, rfl⟩⟩
  · refine q_aload_n (t := 9) F dX9_kiss_8 rfl rfl rfl ?_
    refine q_iload_n (t := 10) F dX9_kiss_9 rfl rfl rfl ?_
    refine wp_callV (t := 13) [_] F dX9_kiss_10 k_X9_isOne v_X9_isOne ml_X9_101 rfl rfl rfl rfl (Nat.le_of_ble_eq_true rfl) (by decide) (m_30 (by omega)) (c_X9_isOne _ G im bt rt lm hR h12.1 h12.2 q (by constructor <;> omega)) rfl (kI ?_)
    rintro x10 m' ⟨hx10, rfl⟩
    have hx10 := if01 hx10
    refine q_if_eq (t := 16) (u := 30) F dX9_kiss_13 (by first | exact hR _ _ _ | (constructor <;> omega)) (by decide) rfl (fun c13 => ?_) (fun c13 => ?_)
    · refine q_bipush (t := 32) F dX9_kiss_30 (by decide) rfl ?_
      refine q_iret F dX9_kiss_32 rfl ?_
      first
        | exact ⟨_, rfl, fun _ => ⟨rfl, rfl⟩, fun z => absurd (by omega) z⟩
        | exact ⟨_, rfl, fun z => absurd z (by omega), fun _ => ⟨rfl, rfl⟩⟩
    · refine q_iload_n (t := 17) F dX9_kiss_16 rfl rfl rfl ?_
      refine q_iload_n (t := 18) F dX9_kiss_17 rfl rfl rfl ?_
      refine q_icmp_eq (t := 21) (u := 30) F dX9_kiss_18 (by exact hp) (by exact hq) (by decide) rfl (fun c18 => ?_) (fun c18 => ?_)
      · refine q_bipush (t := 32) F dX9_kiss_30 (by decide) rfl ?_
        refine q_iret F dX9_kiss_32 rfl ?_
        first
          | exact ⟨_, rfl, fun _ => ⟨rfl, rfl⟩, fun z => absurd (by omega) z⟩
          | exact ⟨_, rfl, fun z => absurd z (by omega), fun _ => ⟨rfl, rfl⟩⟩
      · refine q_aload_n (t := 22) F dX9_kiss_21 rfl rfl rfl ?_
        refine q_iload_n (t := 23) F dX9_kiss_22 rfl rfl rfl ?_
        rw [show vI p = vI ((p.toNat : Nat) : Int) by rw [Int.toNat_of_nonneg (by omega)]]
        refine q_iload_n (t := 24) F dX9_kiss_23 rfl rfl rfl ?_
        rw [show vI q = vI ((q.toNat : Nat) : Int) by rw [Int.toNat_of_nonneg (by omega)]]
        refine wp_callV (t := 27) [_, _] F dX9_kiss_24 k_X9_hands v_X9_hands ml_X9_367 rfl rfl rfl rfl (Nat.le_of_ble_eq_true rfl) (by decide) (m_30 (by omega)) (c_X9_hands _ G im bt rt lm hR p.toNat q.toNat (by omega) (by omega) (by omega)) rfl (kI ?_)
        rintro x24 m' ⟨rfl, rfl⟩
        refine q_goto (t := 32) F dX9_kiss_27 (by decide) ?_
        refine q_iret F dX9_kiss_32 rfl ?_
        first
          | exact ⟨_, rfl, fun _ => ⟨rfl, rfl⟩, fun z => absurd (by omega) z⟩
          | exact ⟨_, rfl, fun z => absurd z (by omega), fun _ => ⟨rfl, rfl⟩⟩

set_option maxHeartbeats 4000000 in
theorem c_X9_man (l : Launch) (G : GS) (im : IM) (bt rt : Nat) (lm : IM) (h : RC im) (a c : Int) (ha : ri a) (hc : ri c) : Cn l (XR G) yX9_man Y_X9_man [vR 30 0, vI a, vI c] (im, rs bt rt, lm) (pI fun x m' => (¬ ((0 ≤ a ∧ a ≤ 5) ∧ (0 ≤ c ∧ c ≤ 9)) → x = -2 ∧ m' = (im, rs bt rt, lm)) ∧ ((0 ≤ a ∧ a ≤ 5) ∧ (0 ≤ c ∧ c ≤ 9) → im 30 0 12 = 5 → x = -4 ∧ m' = (im, rs bt rt, lm)) ∧ ((0 ≤ a ∧ a ≤ 5) ∧ (0 ≤ c ∧ c ≤ 9) → im 30 0 12 ≠ 5 → x = im 30 0 12 ∧ m' = (up (fiR (up (up im 34 0 (im 30 0 12).toNat a) 35 0 (im 30 0 12).toNat c) (10 * (im 30 0 12).toNat) 10 (-1)) 30 0 12 (im 30 0 12 + 1), rs bt rt, lm))) := by
  refine cn_of (by decide) (okR G) rfl (Nat.le_of_ble_eq_true rfl) ?_
  intro M ad hMl F
  subst hMl
  have hR := h.1
  have hX := h.2.1
  have h4 := h.2.2.1
  have h12 := h.2.2.2.1
  have h7 := h.2.2.2.2.1
  have h6 := hX.2.2.1
  have h3 := hX.2.2.2.1
  have hP := h.2.2.2.2.2.2
  have a1 := ha.1
  have a2 := ha.2
  have c1 := hc.1
  have c2 := hc.2
  obtain ⟨t, ht⟩ : ∃ t : Nat, im 30 0 12 = t := ⟨(im 30 0 12).toNat, by omega⟩
  have htt : (im 30 0 12).toNat = t := by omega
  refine wp_pad 1 ?_
  show Wp M (XR G) ad Y_X9_man (pI fun x m' => (¬ ((0 ≤ a ∧ a ≤ 5) ∧ (0 ≤ c ∧ c ≤ 9)) → x = -2 ∧ m' = (im, rs bt rt, lm)) ∧ ((0 ≤ a ∧ a ≤ 5) ∧ (0 ≤ c ∧ c ≤ 9) → im 30 0 12 = 5 → x = -4 ∧ m' = (im, rs bt rt, lm)) ∧ ((0 ≤ a ∧ a ≤ 5) ∧ (0 ≤ c ∧ c ≤ 9) → im 30 0 12 ≠ 5 → x = im 30 0 12 ∧ m' = (up (fiR (up (up im 34 0 (im 30 0 12).toNat a) 35 0 (im 30 0 12).toNat c) (10 * (im 30 0 12).toNat) 10 (-1)) 30 0 12 (im 30 0 12 + 1), rs bt rt, lm))) 0 [some (vR 30 0), some (vI a), some (vI c), none] [] (im, rs bt rt, lm)
  refine q_iload_n (t := 1) F dX9_man_0 rfl rfl rfl ?_
  refine q_i2l (t := 2) F dX9_man_1 (by first | exact hR _ _ _ | (constructor <;> omega)) rfl ?_
  refine q_lconst (t := 3) (x := 0) F dX9_man_2 (by decide) rfl ?_
  refine q_ldc2 (t := 6) (x := 5) F dX9_man_3 kl_X9_123 (by decide) rfl ?_
  refine wp_callS (t := 9) [_, _, _] F dX9_man_6 k_X9_in st_X9_in ml_X9_91 rfl rfl (Nat.le_of_ble_eq_true rfl) (by decide) (c_X9_in _ G _ _ _ _ _ _ _ (by constructor <;> omega) (by constructor <;> omega) (by constructor <;> omega)) rfl (kI ?_)
  rintro x6 m' ⟨hx6, rfl⟩
  have hx6 := if01 hx6
  refine q_if_eq (t := 12) (u := 24) F dX9_man_9 (by first | exact hR _ _ _ | (constructor <;> omega)) (by decide) rfl (fun c9 => ?_) (fun c9 => ?_)
  · refine q_bipush (t := 26) F dX9_man_24 (by decide) rfl ?_
    refine q_iret F dX9_man_26 rfl ?_
    first
      | exact ⟨_, rfl, fun _ => ⟨rfl, rfl⟩, fun z => absurd z (by omega), fun z => absurd z (by omega)⟩
      | exact ⟨_, rfl, fun z => absurd (by omega) z, fun _ _ => ⟨rfl, rfl⟩, fun _ z => absurd (by omega) z⟩
      | (obtain rfl : n = 10 := by omega
         refine ⟨_, rfl, fun z => absurd (by omega) z, fun _ z => absurd z (by omega), fun _ _ => ⟨?_, ?_⟩⟩
         · show _ = im 30 0 12
           rw [ht]
           omega
         · rw [htt, ht])
  · refine q_iload_n (t := 13) F dX9_man_12 rfl rfl rfl ?_
    refine q_i2l (t := 14) F dX9_man_13 (by first | exact hR _ _ _ | (constructor <;> omega)) rfl ?_
    refine q_lconst (t := 15) (x := 0) F dX9_man_14 (by decide) rfl ?_
    refine q_ldc2 (t := 18) (x := 9) F dX9_man_15 kl_X9_95 (by decide) rfl ?_
    refine wp_callS (t := 21) [_, _, _] F dX9_man_18 k_X9_in st_X9_in ml_X9_91 rfl rfl (Nat.le_of_ble_eq_true rfl) (by decide) (c_X9_in _ G _ _ _ _ _ _ _ (by constructor <;> omega) (by constructor <;> omega) (by constructor <;> omega)) rfl (kI ?_)
    rintro x18 m' ⟨hx18, rfl⟩
    have hx18 := if01 hx18
    refine q_if_ne (t := 24) (u := 27) F dX9_man_21 (by first | exact hR _ _ _ | (constructor <;> omega)) (by decide) rfl (fun c21 => ?_) (fun c21 => ?_)
    · refine q_aload_n (t := 28) F dX9_man_27 rfl rfl rfl ?_
      refine g_X9_88 (t := 31) F dX9_man_28 rfl rfl ?_
      try simp only [up_app, row_app, scr_app, cpy_app, Nat.reduceEqDiff, Int.reduceToNat, Int.toNat_natCast, and_true, true_and, and_false, false_and, and_self, reduceIte]
      refine q_iconst (t := 32) F dX9_man_31 rfl ?_
      refine q_icmp_ne (t := 35) (u := 38) F dX9_man_32 (by exact hR _ _ _) (by constructor <;> omega) (by decide) rfl (fun c32 => ?_) (fun c32 => ?_)
      · refine q_aload_n (t := 39) F dX9_man_38 rfl rfl rfl ?_
        refine g_X9_26 (t := 42) F dX9_man_39 rfl rfl ?_
        refine q_aload_n (t := 43) F dX9_man_42 rfl rfl rfl ?_
        refine g_X9_88 (t := 46) F dX9_man_43 rfl rfl ?_
        try simp only [up_app, row_app, scr_app, cpy_app, Nat.reduceEqDiff, Int.reduceToNat, Int.toNat_natCast, and_true, true_and, and_false, false_and, and_self, reduceIte]
        rw [show vI (im 30 0 12) = vI ((t : Nat) : Int) by rw [ht]]
        refine q_iload_n (t := 47) F dX9_man_46 rfl rfl rfl ?_
        first | refine stN_34 (t := 48) F dX9_man_47 (by omega) rfl ?_ | refine st_34 (t := 48) F dX9_man_47 (by omega) (by omega) rfl ?_
        refine q_aload_n (t := 49) F dX9_man_48 rfl rfl rfl ?_
        refine g_X9_29 (t := 52) F dX9_man_49 rfl rfl ?_
        refine q_aload_n (t := 53) F dX9_man_52 rfl rfl rfl ?_
        refine g_X9_88 (t := 56) F dX9_man_53 rfl rfl ?_
        try simp only [up_app, row_app, scr_app, cpy_app, Nat.reduceEqDiff, Int.reduceToNat, Int.toNat_natCast, and_true, true_and, and_false, false_and, and_self, reduceIte]
        rw [show vI (im 30 0 12) = vI ((t : Nat) : Int) by rw [ht]]
        refine q_iload_n (t := 57) F dX9_man_56 rfl rfl rfl ?_
        first | refine stN_35 (t := 58) F dX9_man_57 (by omega) rfl ?_ | refine st_35 (t := 58) F dX9_man_57 (by omega) (by omega) rfl ?_
        refine q_iconst (t := 59) F dX9_man_58 rfl ?_
        refine q_istore_n (t := 60) F dX9_man_59 rfl (by decide) rfl rfl ?_
        have L60 : ∀ (fz : Nat) (n : Nat), 10 - n < fz → n ≤ 10 → Wp M (XR G) ad Y_X9_man (pI fun x m' => (¬ ((0 ≤ a ∧ a ≤ 5) ∧ (0 ≤ c ∧ c ≤ 9)) → x = -2 ∧ m' = (im, rs bt rt, lm)) ∧ ((0 ≤ a ∧ a ≤ 5) ∧ (0 ≤ c ∧ c ≤ 9) → im 30 0 12 = 5 → x = -4 ∧ m' = (im, rs bt rt, lm)) ∧ ((0 ≤ a ∧ a ≤ 5) ∧ (0 ≤ c ∧ c ≤ 9) → im 30 0 12 ≠ 5 → x = im 30 0 12 ∧ m' = (up (fiR (up (up im 34 0 (im 30 0 12).toNat a) 35 0 (im 30 0 12).toNat c) (10 * (im 30 0 12).toNat) 10 (-1)) 30 0 12 (im 30 0 12 + 1), rs bt rt, lm))) 60 [some (vR 30 0), some (vI a), some (vI c), some (vI (n : Int))] [] (fiR (up (up im 34 0 t a) 35 0 t c) (10 * t) n (-1), rs bt rt, lm) := by
          intro fz
          induction fz with
          | zero => intro n h; exact absurd h (Nat.not_lt_zero _)
          | succ fz ih =>
            have ih60 := ih
            intro n hmeas hn
            have e12 : fiR (up (up im 34 0 t a) 35 0 t c) (10 * t) n (-1) 30 0 12 = (t : Int) := ht
            refine q_iload_n (t := 61) F dX9_man_60 rfl rfl rfl ?_
            refine q_bipush (t := 63) F dX9_man_61 (by decide) rfl ?_
            refine q_icmp_ge (t := 66) (u := 87) F dX9_man_63 (by constructor <;> omega) (by constructor <;> omega) (by decide) rfl (fun c63 => ?_) (fun c63 => ?_)
            · refine q_aload_n (t := 88) F dX9_man_87 rfl rfl rfl ?_
              refine q_dupR (t := 89) F dX9_man_88 rfl ?_
              refine g_X9_88 (t := 92) F dX9_man_89 rfl rfl ?_
              try simp only [up_app, row_app, scr_app, cpy_app, Nat.reduceEqDiff, Int.reduceToNat, Int.toNat_natCast, and_true, true_and, and_false, false_and, and_self, reduceIte]
              refine q_iconst (t := 93) F dX9_man_92 rfl ?_
              rw [e12]
              refine q_iadd (t := 94) F dX9_man_93 rfl ?_
              refine p_X9_88 (t := 97) F dX9_man_94 rfl rfl ?_
              refine q_aload_n (t := 98) F dX9_man_97 rfl rfl rfl ?_
              refine g_X9_88 (t := 101) F dX9_man_98 rfl rfl ?_
              try simp only [up_app, row_app, scr_app, cpy_app, Nat.reduceEqDiff, Int.reduceToNat, Int.toNat_natCast, and_true, true_and, and_false, false_and, and_self, reduceIte]
              refine q_iconst (t := 102) F dX9_man_101 rfl ?_
              refine q_isub (t := 103) F dX9_man_102 rfl ?_
              refine q_iret F dX9_man_103 rfl ?_
              first
                | exact ⟨_, rfl, fun _ => ⟨rfl, rfl⟩, fun z => absurd z (by omega), fun z => absurd z (by omega)⟩
                | exact ⟨_, rfl, fun z => absurd (by omega) z, fun _ _ => ⟨rfl, rfl⟩, fun _ z => absurd (by omega) z⟩
                | (obtain rfl : n = 10 := by omega
                   refine ⟨_, rfl, fun z => absurd (by omega) z, fun _ z => absurd z (by omega), fun _ _ => ⟨?_, ?_⟩⟩
                   · show _ = im 30 0 12
                     rw [ht]
                     omega
                   · rw [htt, ht])
            · refine q_aload_n (t := 67) F dX9_man_66 rfl rfl rfl ?_
              refine g_X9_32 (t := 70) F dX9_man_67 rfl rfl ?_
              refine q_bipush (t := 72) F dX9_man_70 (by decide) rfl ?_
              refine q_aload_n (t := 73) F dX9_man_72 rfl rfl rfl ?_
              refine g_X9_88 (t := 76) F dX9_man_73 rfl rfl ?_
              try simp only [up_app, row_app, scr_app, cpy_app, Nat.reduceEqDiff, Int.reduceToNat, Int.toNat_natCast, and_true, true_and, and_false, false_and, and_self, reduceIte]
              refine q_imul (t := 77) F dX9_man_76 rfl ?_
              refine q_iload_n (t := 78) F dX9_man_77 rfl rfl rfl ?_
              refine q_iadd (t := 79) F dX9_man_78 rfl ?_
              rw [e12, show (10 : Int) * (t : Int) + (n : Int) = ((10 * t + n : Nat) : Int) by omega]
              refine q_iconst (t := 80) F dX9_man_79 rfl ?_
              first | refine stN_36 (t := 81) F dX9_man_80 (by omega) rfl ?_ | refine st_36 (t := 81) F dX9_man_80 (by omega) (by omega) rfl ?_
              refine q_iinc (t := 84) F dX9_man_81 rfl (by decide) rfl rfl ?_
              refine q_goto (t := 60) F dX9_man_84 (by decide) ?_
              rw [show (n : Int) + 1 = ((n + 1 : Nat) : Int) by omega, fiR_s]
              exact ih60 (n + 1) (by omega) (by omega)
        have L0 := L60 _ 0 (Nat.lt_succ_self _) (Nat.zero_le _)
        rw [fiR_0] at L0
        exact L0
      · refine q_bipush (t := 37) F dX9_man_35 (by decide) rfl ?_
        refine q_iret F dX9_man_37 rfl ?_
        first
          | exact ⟨_, rfl, fun _ => ⟨rfl, rfl⟩, fun z => absurd z (by omega), fun z => absurd z (by omega)⟩
          | exact ⟨_, rfl, fun z => absurd (by omega) z, fun _ _ => ⟨rfl, rfl⟩, fun _ z => absurd (by omega) z⟩
          | (obtain rfl : n = 10 := by omega
             refine ⟨_, rfl, fun z => absurd (by omega) z, fun _ z => absurd z (by omega), fun _ _ => ⟨?_, ?_⟩⟩
             · show _ = im 30 0 12
               rw [ht]
               omega
             · rw [htt, ht])
    · refine q_bipush (t := 26) F dX9_man_24 (by decide) rfl ?_
      refine q_iret F dX9_man_26 rfl ?_
      first
        | exact ⟨_, rfl, fun _ => ⟨rfl, rfl⟩, fun z => absurd z (by omega), fun z => absurd z (by omega)⟩
        | exact ⟨_, rfl, fun z => absurd (by omega) z, fun _ _ => ⟨rfl, rfl⟩, fun _ z => absurd (by omega) z⟩
        | (obtain rfl : n = 10 := by omega
           refine ⟨_, rfl, fun z => absurd (by omega) z, fun _ z => absurd z (by omega), fun _ _ => ⟨?_, ?_⟩⟩
           · show _ = im 30 0 12
             rw [ht]
             omega
           · rw [htt, ht])
end
section
/-! the reference: a text is kept -/

/-- the tape copied to a row -/
def cpR (im : IM) (t n : Nat) : IM := fun k i s => if k = 31 ∧ i = 0 ∧ 160 * t ≤ s ∧ s < 160 * t + n then im 33 0 (s - 160 * t) else im k i s
theorem cpR_0 (im : IM) (t : Nat) : cpR im t 0 = im := by
  funext k i s
  unfold cpR
  rw [if_neg (by omega)]
theorem cpR_s (im : IM) (t n : Nat) : up (cpR im t n) 31 0 (160 * t + n) (im 33 0 n) = cpR im t (n + 1) := by
  funext k i s
  rw [up_app]
  unfold cpR
  by_cases h : k = 31 ∧ i = 0 ∧ s = 160 * t + n
  · rw [if_pos h, if_pos (by omega), show s - 160 * t = n by omega]
  · rw [if_neg h]
    by_cases h2 : k = 31 ∧ i = 0 ∧ 160 * t ≤ s ∧ s < 160 * t + n
    · rw [if_pos h2, if_pos (by omega)]
    · rw [if_neg h2, if_neg (by omega)]
theorem cpR_RI {im : IM} (h : RI im) (t n : Nat) : RI (cpR im t n) := by
  intro k i s
  unfold cpR
  split <;> exact h _ _ _
/-- the tape in the row, its size, the tape empty -/
def txI (im : IM) : IM := up (up (cpR im (im 30 0 3).toNat (im 30 0 6).toNat) 32 0 (im 30 0 3).toNat (im 30 0 6)) 30 0 6 0
/-- what stands in that row then -/
def txB (im : IM) : Nat → Int := rowR (txI im) (im 30 0 3).toNat

set_option maxHeartbeats 4000000 in
theorem c_X9_text (l : Launch) (G : GS) (im : IM) (bt rt : Nat) (lm : IM) (h : RC im) : Cn l (XR G) yX9_text Y_X9_text [vR 30 0] (im, rs bt rt, lm) (pI fun x m' => (im 30 0 3 = 6 → x = -4 ∧ m' = (im, rs bt rt, lm)) ∧ (im 30 0 3 ≠ 6 → ∃ im' lm', RI im' ∧ agZ im' (txI im) ∧ lgQ lm' lm ∧ (rdF (txB im) (im 30 0 6).toNat = -1 → x = im 30 0 3 ∧ m' = (up im' 30 0 3 (im 30 0 3 + 1), rs bt rt, lm')) ∧ (rdF (txB im) (im 30 0 6).toNat ≠ -1 → x = -100 - rdF (txB im) (im 30 0 6).toNat ∧ m' = (im', rs bt rt, lm')))) := by
  refine cn_of (by decide) (okR G) rfl (Nat.le_of_ble_eq_true rfl) ?_
  intro M ad hMl F
  subst hMl
  have hR := h.1
  have hX := h.2.1
  have h4 := h.2.2.1
  have h12 := h.2.2.2.1
  have h7 := h.2.2.2.2.1
  have h6 := hX.2.2.1
  have h3 := hX.2.2.2.1
  have hP := h.2.2.2.2.2.2
  obtain ⟨t, ht⟩ : ∃ t : Nat, im 30 0 3 = t := ⟨(im 30 0 3).toNat, by omega⟩
  have htt : (im 30 0 3).toNat = t := by omega
  obtain ⟨z, hz⟩ : ∃ z : Nat, im 30 0 6 = z := ⟨(im 30 0 6).toNat, by omega⟩
  have hzz : (im 30 0 6).toNat = z := by omega
  have hI : txI im = (up (up (cpR im t z) 32 0 t (z : Int)) 30 0 6 0) := by unfold txI; rw [htt, hzz, hz]
  have hRt : ri ((t : Nat) : Int) := by constructor <;> omega
  refine wp_pad 1 ?_
  show Wp M (XR G) ad Y_X9_text (pI fun x m' => (im 30 0 3 = 6 → x = -4 ∧ m' = (im, rs bt rt, lm)) ∧ (im 30 0 3 ≠ 6 → ∃ im' lm', RI im' ∧ agZ im' (txI im) ∧ lgQ lm' lm ∧ (rdF (txB im) (im 30 0 6).toNat = -1 → x = im 30 0 3 ∧ m' = (up im' 30 0 3 (im 30 0 3 + 1), rs bt rt, lm')) ∧ (rdF (txB im) (im 30 0 6).toNat ≠ -1 → x = -100 - rdF (txB im) (im 30 0 6).toNat ∧ m' = (im', rs bt rt, lm')))) 0 [some (vR 30 0), none] [] (im, rs bt rt, lm)
  refine q_aload_n (t := 1) F dX9_text_0 rfl rfl rfl ?_
  refine g_X9_85 (t := 4) F dX9_text_1 rfl rfl ?_
  refine q_bipush (t := 6) F dX9_text_4 (by decide) rfl ?_
  refine q_icmp_ne (t := 9) (u := 12) F dX9_text_6 (by exact hR _ _ _) (by constructor <;> omega) (by decide) rfl (fun c6 => ?_) (fun c6 => ?_)
  · refine q_iconst (t := 13) F dX9_text_12 rfl ?_
    refine q_istore_n (t := 14) F dX9_text_13 rfl (by decide) rfl rfl ?_
    have L14 : ∀ (fz : Nat) (n : Nat), 160 - n < fz → n ≤ z → Wp M (XR G) ad Y_X9_text (pI fun x m' => (im 30 0 3 = 6 → x = -4 ∧ m' = (im, rs bt rt, lm)) ∧ (im 30 0 3 ≠ 6 → ∃ im' lm', RI im' ∧ agZ im' (txI im) ∧ lgQ lm' lm ∧ (rdF (txB im) (im 30 0 6).toNat = -1 → x = im 30 0 3 ∧ m' = (up im' 30 0 3 (im 30 0 3 + 1), rs bt rt, lm')) ∧ (rdF (txB im) (im 30 0 6).toNat ≠ -1 → x = -100 - rdF (txB im) (im 30 0 6).toNat ∧ m' = (im', rs bt rt, lm')))) 14 [some (vR 30 0), some (vI (n : Int))] [] (cpR im t n, rs bt rt, lm) := by
      intro fz
      induction fz with
      | zero => intro n h; exact absurd h (Nat.not_lt_zero _)
      | succ fz ih =>
        have ih14 := ih
        intro n hmeas hn
        have e6 : cpR im t n 30 0 6 = (z : Int) := hz
        have e3 : cpR im t n 30 0 3 = (t : Int) := ht
        have hRn := cpR_RI hR t n
        refine q_iload_n (t := 15) F dX9_text_14 rfl rfl rfl ?_
        refine q_aload_n (t := 16) F dX9_text_15 rfl rfl rfl ?_
        refine g_X9_146 (t := 19) F dX9_text_16 rfl rfl ?_
        refine q_icmp_ge (t := 22) (u := 49) F dX9_text_19 (by constructor <;> omega) (by exact hRn _ _ _) (by decide) rfl (fun c19 => ?_) (fun c19 => ?_)
        · refine q_aload_n (t := 50) F dX9_text_49 rfl rfl rfl ?_
          refine g_X9_17 (t := 53) F dX9_text_50 rfl rfl ?_
          refine q_aload_n (t := 54) F dX9_text_53 rfl rfl rfl ?_
          refine g_X9_85 (t := 57) F dX9_text_54 rfl rfl ?_
          rw [show vI (cpR im t n 30 0 3) = vI ((t : Nat) : Int) by rw [e3]]
          refine q_aload_n (t := 58) F dX9_text_57 rfl rfl rfl ?_
          refine g_X9_146 (t := 61) F dX9_text_58 rfl rfl ?_
          obtain rfl : n = z := by omega
          rw [show vI (cpR im t n 30 0 6) = vI ((n : Nat) : Int) by rw [e6]]
          first | refine stN_32 (t := 62) F dX9_text_61 (by omega) rfl ?_ | refine st_32 (t := 62) F dX9_text_61 (by omega) (by omega) rfl ?_
          refine q_aload_n (t := 63) F dX9_text_62 rfl rfl rfl ?_
          refine q_iconst (t := 64) F dX9_text_63 rfl ?_
          refine p_X9_146 (t := 67) F dX9_text_64 rfl rfl ?_
          rw [← hI]
          have e3t : txI im 30 0 3 = (t : Int) := by rw [hI]; exact ht
          have hRI : RI (txI im) := by rw [hI]; exact RI_up (RI_up (cpR_RI hR t n) (by constructor <;> omega)) (by constructor <;> omega)
          have f32 : txI im 32 0 t = (n : Int) := by rw [hI, up_app, if_neg (by omega), up_app, if_pos ⟨rfl, rfl, rfl⟩]
          have f31 : ∀ i, i < 160 → txI im 31 0 (160 * t + i) = txB im i := fun i _ => by unfold txB rowR; rw [htt]
          have hby : byt (txB im) n := ⟨by omega, fun i hi => by
            rw [← f31 i hi, hI, up_app, if_neg (by omega), up_app, if_neg (by omega)]
            unfold cpR
            split
            · exact hX.1 _ (by omega)
            · exact hX.2.1 _ (by omega)⟩
          refine q_aload_n (t := 68) F dX9_text_67 rfl rfl rfl ?_
          refine q_aload_n (t := 69) F dX9_text_68 rfl rfl rfl ?_
          refine g_X9_85 (t := 72) F dX9_text_69 rfl rfl ?_
          try simp only [up_app, row_app, scr_app, cpy_app, Nat.reduceEqDiff, Int.reduceToNat, Int.toNat_natCast, and_true, true_and, and_false, false_and, and_self, reduceIte]
          rw [show vI (txI im 30 0 3) = vI ((t : Nat) : Int) by rw [e3t]]
          refine q_iconst (t := 73) F dX9_text_72 rfl ?_
          refine wp_callV (t := 76) [_, _] F dX9_text_73 k_X9_read v_X9_read ml_X9_347 rfl rfl rfl rfl (Nat.le_of_ble_eq_true rfl) (by decide) (m_30 (by omega)) (c_X9_read _ G bt rt _ n hby ((c_gramR _ G bt rt _ n hby).1) (txI im) lm hRI t (by omega) f32 f31 (fun i => txI im 30 0 (15 + i)) (fun i hi => rfl) 0 (by constructor <;> omega)) rfl (kI ?_)
          rintro x73 m' ⟨im2, lm2, hrx, hR2, hag, hlg, hy, hno, rfl⟩
          have f3 : im2 30 0 3 = (t : Int) := (hag 30 0 3 (by omega)).trans e3t
          refine q_istore_n (t := 77) F dX9_text_76 rfl (by decide) rfl rfl ?_
          refine q_aload_n (t := 78) F dX9_text_77 rfl rfl rfl ?_
          refine g_X9_179 (t := 81) F dX9_text_78 rfl rfl ?_
          try simp only [up_app, row_app, scr_app, cpy_app, Nat.reduceEqDiff, Int.reduceToNat, Int.toNat_natCast, and_true, true_and, and_false, false_and, and_self, reduceIte]
          refine q_if_eq (t := 84) (u := 92) F dX9_text_81 (by exact hR2 _ _ _) (by decide) rfl (fun c81 => ?_) (fun c81 => ?_)
          · refine q_aload_n (t := 93) F dX9_text_92 rfl rfl rfl ?_
            refine q_dupR (t := 94) F dX9_text_93 rfl ?_
            refine g_X9_85 (t := 97) F dX9_text_94 rfl rfl ?_
            try simp only [up_app, row_app, scr_app, cpy_app, Nat.reduceEqDiff, Int.reduceToNat, Int.toNat_natCast, and_true, true_and, and_false, false_and, and_self, reduceIte]
            refine q_iconst (t := 98) F dX9_text_97 rfl ?_
            refine q_iadd (t := 99) F dX9_text_98 rfl ?_
            refine p_X9_85 (t := 102) F dX9_text_99 rfl rfl ?_
            refine q_aload_n (t := 103) F dX9_text_102 rfl rfl rfl ?_
            refine g_X9_85 (t := 106) F dX9_text_103 rfl rfl ?_
            try simp only [up_app, row_app, scr_app, cpy_app, Nat.reduceEqDiff, Int.reduceToNat, Int.toNat_natCast, and_true, true_and, and_false, false_and, and_self, reduceIte]
            refine q_iconst (t := 107) F dX9_text_106 rfl ?_
            refine q_isub (t := 108) F dX9_text_107 rfl ?_
            refine q_iret F dX9_text_108 rfl ?_
            have hF : rdF (txB im) n = -1 := by
              refine Decidable.byContradiction (fun q => ?_)
              have := (hno q).1
              omega
            refine ⟨_, rfl, fun q => absurd q (by omega), fun _ => ⟨im2, lm2, hR2, hag, hlg, fun _ => ⟨?_, ?_⟩, fun q => absurd (by rw [hzz]; exact hF) q⟩⟩
            · show (im2 30 0 3 + 1) - 1 = im 30 0 3
              omega
            · rw [f3, ht]
          · refine q_bipush (t := 86) F dX9_text_84 (by decide) rfl ?_
            refine q_aload_n (t := 87) F dX9_text_86 rfl rfl rfl ?_
            refine g_X9_183 (t := 90) F dX9_text_87 rfl rfl ?_
            try simp only [up_app, row_app, scr_app, cpy_app, Nat.reduceEqDiff, Int.reduceToNat, Int.toNat_natCast, and_true, true_and, and_false, false_and, and_self, reduceIte]
            refine q_isub (t := 91) F dX9_text_90 rfl ?_
            refine q_iret F dX9_text_91 rfl ?_
            have hF : rdF (txB im) n ≠ -1 := fun q => by have := (hy q).1; omega
            refine ⟨_, rfl, fun q => absurd q (by omega), fun _ => ⟨im2, lm2, hR2, hag, hlg, fun q => absurd (by rw [← hzz]; exact q) hF, fun _ => ⟨?_, rfl⟩⟩⟩
            rw [hzz, (hno hF).2]
        · refine q_aload_n (t := 23) F dX9_text_22 rfl rfl rfl ?_
          refine g_X9_13 (t := 26) F dX9_text_23 rfl rfl ?_
          refine q_sipush (t := 29) F dX9_text_26 (by decide) rfl ?_
          refine q_aload_n (t := 30) F dX9_text_29 rfl rfl rfl ?_
          refine g_X9_85 (t := 33) F dX9_text_30 rfl rfl ?_
          refine q_imul (t := 34) F dX9_text_33 rfl ?_
          rw [e3]
          refine q_iload_n (t := 35) F dX9_text_34 rfl rfl rfl ?_
          refine q_iadd (t := 36) F dX9_text_35 rfl ?_
          rw [show (160 : Int) * (t : Int) + (n : Int) = ((160 * t + n : Nat) : Int) by omega]
          refine q_aload_n (t := 37) F dX9_text_36 rfl rfl rfl ?_
          refine g_X9_20 (t := 40) F dX9_text_37 rfl rfl ?_
          refine q_iload_n (t := 41) F dX9_text_40 rfl rfl rfl ?_
          first | refine ldN_33 (t := 42) F dX9_text_41 (by omega) rfl ?_ | refine ld_33 (t := 42) F dX9_text_41 (by omega) (by omega) rfl ?_
          first | refine stN_31 (t := 43) F dX9_text_42 (by omega) rfl ?_ | refine st_31 (t := 43) F dX9_text_42 (by omega) (by omega) rfl ?_
          refine q_iinc (t := 46) F dX9_text_43 rfl (by decide) rfl rfl ?_
          refine q_goto (t := 14) F dX9_text_46 (by decide) ?_
          rw [show (n : Int) + 1 = ((n + 1 : Nat) : Int) by omega, show cpR im t n 33 0 n = im 33 0 n from rfl, cpR_s]
          exact ih14 (n + 1) (by omega) (by omega)
    have L0 := L14 _ 0 (Nat.lt_succ_self _) (Nat.zero_le _)
    rw [cpR_0] at L0
    exact L0
  · refine q_bipush (t := 11) F dX9_text_9 (by decide) rfl ?_
    refine q_iret F dX9_text_11 rfl ?_
    exact ⟨_, rfl, fun _ => ⟨rfl, rfl⟩, fun q => absurd (by omega) q⟩
end
section
/-! the reference: what holds of it is kept -/

theorem RX.same {im im' : IM} (h : RX im) (h31 : ∀ s, im' 31 0 s = im 31 0 s) (h32 : ∀ s, im' 32 0 s = im 32 0 s) (h33 : ∀ s, im' 33 0 s = im 33 0 s) (e3 : im' 30 0 3 = im 30 0 3) (e6 : im' 30 0 6 = im 30 0 6) : RX im' := by
  obtain ⟨h1, h2, h3, h4, h5⟩ := h
  refine ⟨fun i hi => by rw [h33]; exact h1 i hi, fun i hi => by rw [h31]; exact h2 i hi, by rw [e6]; exact h3, by rw [e3]; exact h4, fun t ht => ?_⟩
  rw [e3] at ht
  have e31 : rowR im' t = rowR im t := funext fun i => h31 _
  rw [h32, e31]
  exact h5 t ht
theorem RC_force {im : IM} (h : RC im) {t : Int} (h0 : 0 ≤ t) (h1 : t < im 30 0 3) : RC (up im 30 0 4 t) := by
  obtain ⟨hR, hX, h4, h12, h7, h8, hP⟩ := h
  have h3 := hX.2.2.2.1
  exact ⟨RI_up hR (by constructor <;> omega), hX.same (fun _ => rfl) (fun _ => rfl) (fun _ => rfl) rfl rfl, ⟨h0, h1⟩, h12, h7, h8, hP⟩
theorem RC_feed {im : IM} (h : RC im) {c : Int} (h0 : 0 ≤ c) (h1 : c ≤ 255) (h6 : im 30 0 6 ≠ 160) : RC (up (up im 33 0 (im 30 0 6).toNat c) 30 0 6 (im 30 0 6 + 1)) := by
  obtain ⟨hR, hX, h4, h12, h7, h8, hP⟩ := h
  obtain ⟨x1, x2, x3, x4, x5⟩ := hX
  refine ⟨RI_up (RI_up hR (by constructor <;> omega)) (by constructor <;> omega), ⟨fun i hi => ?_, x2, ?_, x4, x5⟩, h4, h12, h7, h8, hP⟩
  · rw [up_app, if_neg (by omega), up_app]
    split
    · exact ⟨h0, h1⟩
    · exact x1 i hi
  · show 0 ≤ im 30 0 6 + 1 ∧ im 30 0 6 + 1 ≤ 160
    omega
theorem RP_put {im : IM} {p s : Nat} {w a : Int} (h : RP im p) (hw : -1 ≤ w ∧ w < 16) (ha : 0 ≤ a ∧ a ≤ 1100) : RP (up (up im 36 0 s w) 37 0 s a) p := by
  obtain ⟨h1, h2, h3⟩ := h
  refine ⟨h1, h2, fun g hg => ?_⟩
  have e := h3 g hg
  have e1 : up (up im 36 0 s w) 37 0 s a 36 0 (10 * p + g) = if 10 * p + g = s then w else im 36 0 (10 * p + g) := by
    rw [up_app, if_neg (by omega), up_app]
    by_cases hc : 10 * p + g = s
    · rw [if_pos ⟨rfl, rfl, hc⟩, if_pos hc]
    · rw [if_neg (fun z => hc z.2.2), if_neg hc]
  have e2 : up (up im 36 0 s w) 37 0 s a 37 0 (10 * p + g) = if 10 * p + g = s then a else im 37 0 (10 * p + g) := by
    rw [up_app]
    by_cases hc : 10 * p + g = s
    · rw [if_pos ⟨rfl, rfl, hc⟩, if_pos hc]
    · rw [if_neg (fun z => hc z.2.2), if_neg hc, up_app, if_neg (by omega)]
  rw [e1, e2]
  split
  · exact ⟨hw.1, hw.2, fun _ => ha⟩
  · exact e
theorem RC_put {im : IM} (h : RC im) {s : Nat} {w a : Int} (hw : -1 ≤ w ∧ w < 16) (ha : 0 ≤ a ∧ a ≤ 1100) : RC (up (up im 36 0 s w) 37 0 s a) := by
  obtain ⟨hR, hX, h4, h12, h7, h8, hP⟩ := h
  exact ⟨RI_up (RI_up hR (by constructor <;> omega)) (by constructor <;> omega), hX.same (fun _ => rfl) (fun _ => rfl) (fun _ => rfl) rfl rfl, h4, h12, h7, h8, fun p hp => RP_put (hP p hp) hw ha⟩
theorem RC_say {im im2 : IM} (h : RC im) (hR : RI im2) (hag : agY im2 im) {p : Nat} {w fd : Int} (hw : 0 ≤ w ∧ w ≤ 15) : RC (spR im im2 p w fd) := by
  have h2 := h.ag hR hag
  unfold spR
  split
  · exact h2
  · exact RC_put h2 (by omega) (by omega)
theorem RC_out {im : IM} (h : RC im) {s : Nat} : RC (up im 36 0 s (-1)) := by
  obtain ⟨hR, hX, h4, h12, h7, h8, hP⟩ := h
  refine ⟨RI_up hR (by constructor <;> omega), hX.same (fun _ => rfl) (fun _ => rfl) (fun _ => rfl) rfl rfl, h4, h12, h7, h8, fun p hp => ?_⟩
  obtain ⟨h1, h2, h3⟩ := hP p hp
  refine ⟨h1, h2, fun g hg => ?_⟩
  have e := h3 g hg
  have e2 : up im 36 0 s (-1) 37 0 (10 * p + g) = im 37 0 (10 * p + g) := by rw [up_app, if_neg (by omega)]
  rw [e2, up_app]
  split
  · exact ⟨by omega, by omega, fun q => absurd rfl q⟩
  · exact e
theorem RC_hn {im : IM} (h : RC im) {p q : Nat} (hp : (p : Int) < im 30 0 12) (hq : (q : Int) < im 30 0 12) : RC (hnR im p q 10) := by
  obtain ⟨hR, hX, h4, h12, h7, h8, hP⟩ := h
  refine ⟨hnR_RI hR p q 10, hX.same (fun _ => rfl) (fun _ => rfl) (fun _ => rfl) rfl rfl, h4, h12, h7, h8, fun m hm => ?_⟩
  obtain ⟨h1, h2, h3⟩ := hP m hm
  refine ⟨h1, h2, fun g hg => ?_⟩
  have e := h3 g hg
  have ep := (hP p hp).2.2 g hg
  have e10 : (10 * m + g) % 10 = g := by omega
  have e11 : (10 * m + g) / 10 = m := by omega
  have x1 : hnR im p q 10 36 0 (10 * m + g) = if m = q ∧ im 36 0 (10 * p + g) ≠ -1 ∧ im 36 0 (10 * q + g) = -1 then im 36 0 (10 * p + g) else if m = p ∧ im 36 0 (10 * p + g) ≠ -1 ∧ im 36 0 (10 * q + g) = -1 then -1 else im 36 0 (10 * m + g) := by
    unfold hnR
    rw [e10, e11]
    simp [hg]
  have x2 : hnR im p q 10 37 0 (10 * m + g) = if m = q ∧ im 36 0 (10 * p + g) ≠ -1 ∧ im 36 0 (10 * q + g) = -1 then 0 else im 37 0 (10 * m + g) := by
    unfold hnR
    rw [e10, e11]
    simp [hg]
  rw [x1, x2]
  split
  · exact ⟨ep.1, ep.2.1, fun _ => by omega⟩
  · split
    · exact ⟨by omega, by omega, fun z => absurd rfl z⟩
    · exact e
end
section
/-! reading: only the letters count -/

def agB (b c : Nat → Int) (n : Nat) : Prop := ∀ i, i < n → b i = c i
theorem span_cg {P : Int → Bool} {b c : Nat → Int} {n : Nat} (h : agB b c n) : ∀ (k p : Nat), n - p = k → span P b n p = span P c n p := by
  intro k
  induction k with
  | zero => intro p hk; rw [span_n (by omega), span_n (by omega)]
  | succ k ih =>
    intro p hk
    have e := h p (by omega)
    by_cases hp : P (b p) = true
    · rw [span_y (by omega) hp, span_y (b := c) (p := p) (by omega) (by rw [← e]; exact hp)]
      exact ih (p + 1) (by omega)
    · rw [span_n (fun q => hp q.2), span_n (fun q => hp (by rw [e]; exact q.2))]
theorem wIx_cg {b c : Nat → Int} {n p q : Nat} (h : agB b c n) (hq : q ≤ n) : ∀ i, wIx b p q i = wIx c p q i := by
  intro i
  induction i with
  | zero => rfl
  | succ i ih =>
    rw [wIx_s, wIx_s, ih]
    have e : stdS b p q i ↔ stdS c p q i := by
      constructor
      · intro z
        refine ⟨z.1, fun j hj => ?_⟩
        rw [← h (p + j) (by have := z.1; omega)]
        exact z.2 j hj
      · intro z
        refine ⟨z.1, fun j hj => ?_⟩
        rw [h (p + j) (by have := z.1; omega)]
        exact z.2 j hj
    by_cases hs : stdS b p q i
    · rw [if_pos hs, if_pos (e.mp hs)]
    · rw [if_neg hs, if_neg (fun z => hs (e.mpr z))]
theorem numF_cg {b c : Nat → Int} {n p : Nat} (h : agB b c n) : ∀ k, p + k ≤ n → numF b p k = numF c p k := by
  intro k
  induction k with
  | zero => intro _; rfl
  | succ k ih =>
    intro hk
    show bm (numF b p k * 10 + b (p + k) - 48) = bm (numF c p k * 10 + c (p + k) - 48)
    rw [ih (by omega), h (p + k) (by omega)]
theorem tk_cg {b c : Nat → Int} {n : Nat} (h : agB b c n) : tk b n = tk c n := by
  funext p
  unfold tk
  by_cases hp : n ≤ p
  · rw [if_pos hp, if_pos hp]
  · rw [if_neg hp, if_neg hp, h p (by omega), span_cg h _ p rfl, span_cg h _ p rfl, wIx_cg h ((span_in isL c n _ p rfl).2 (by omega))]
theorem nx_cg {b c : Nat → Int} {n : Nat} (h : agB b c n) : nx b n = nx c n := by
  funext p
  unfold nx
  by_cases hp : n ≤ p
  · rw [if_pos hp, if_pos hp]
  · rw [if_neg hp, if_neg hp, h p (by omega), span_cg h _ p rfl, span_cg h _ p rfl]
theorem adv_cg {b c : Nat → Int} {n : Nat} (h : agB b c n) : adv b n = adv c n := by
  funext p
  unfold adv
  rw [nx_cg h, span_cg h _ _ rfl]
theorem vl_cg {b c : Nat → Int} {n p : Nat} (h : agB b c n) (hp : p < n) : vl b n p = vl c n p := by
  unfold vl
  have h2 := (span_in isD c n _ p rfl).2 (by omega)
  have h1 := (span_in isD c n _ p rfl).1
  rw [h p hp, span_cg h _ p rfl, span_cg h _ p rfl, wIx_cg h ((span_in isL c n _ p rfl).2 (by omega)), numF_cg h _ (by omega)]
theorem loopP_cg {b c : Nat → Int} {n : Nat} (h : agB b c n) (op : Int → Int) (sub : Nat → PT) : ∀ (f : Nat) (r : PT), loopP b n op sub f r = loopP c n op sub f r := by
  intro f
  induction f with
  | zero => intro r; rfl
  | succ f ih =>
    intro r
    show (if r.2.1 = -1 ∧ op (tk b n r.1) ≠ 0 then loopP b n op sub f _ else r) = (if r.2.1 = -1 ∧ op (tk c n r.1) ≠ 0 then loopP c n op sub f _ else r)
    rw [tk_cg h, adv_cg h, ih]
theorem atomX_cg {b c : Nat → Int} {n m : Nat} (h : agB b c n) (nE : Nat → PT) : atomX b n m nE = atomX c n m nE := by
  funext p
  unfold atomX
  rw [tk_cg h, adv_cg h]
  by_cases hp : p < n
  · rw [vl_cg h hp]
  · rw [tk_0 (b := c) (n := n) (p := p) (by omega), if_neg (by omega), if_neg (by omega), if_neg (by omega), if_neg (by omega), if_neg (by omega), if_neg (by omega)]
theorem atomP_cg {b c : Nat → Int} {n m : Nat} (h : agB b c n) (n1 nE : Nat → PT) : atomP b n m n1 nE = atomP c n m n1 nE := by
  funext p
  unfold atomP
  rw [tk_cg h, adv_cg h, atomX_cg h]
theorem termP_cg {b c : Nat → Int} {n : Nat} (h : agB b c n) (one : Nat → PT) : termP b n one = termP c n one := by
  funext p
  unfold termP
  rw [loopP_cg h]
theorem sumP_cg {b c : Nat → Int} {n : Nat} (h : agB b c n) (one : Nat → PT) : sumP b n one = sumP c n one := by
  funext p
  unfold sumP
  rw [termP_cg h, loopP_cg h]
theorem denP_cg {b c : Nat → Int} {n m : Nat} (h : agB b c n) (one nD : Nat → PT) : denP b n m one nD = denP c n m one nD := by
  funext p
  unfold denP denX
  rw [tk_cg h, adv_cg h, sumP_cg h, loopP_cg h]
theorem eitP_cg {b c : Nat → Int} {n : Nat} (h : agB b c n) (den : Nat → PT) : eitP b n den = eitP c n den := by
  funext p
  have e : bothP b n den = bothP c n den := by
    funext q
    unfold bothP
    rw [loopP_cg h]
  unfold eitP
  rw [e, loopP_cg h]
theorem lvl_cg {b c : Nat → Int} {n : Nat} (h : agB b c n) : ∀ m, lvl b n m = lvl c n m := by
  intro m
  induction m with
  | zero =>
    show (atomP b n 0 pFail pFail, denP b n 0 (atomP b n 0 pFail pFail) pFail) = (atomP c n 0 pFail pFail, denP c n 0 (atomP c n 0 pFail pFail) pFail)
    rw [atomP_cg h, denP_cg h]
  | succ m ih =>
    show (atomP b n (m + 1) (lvl b n m).1 (eitP b n (lvl b n m).2), denP b n (m + 1) (atomP b n (m + 1) (lvl b n m).1 (eitP b n (lvl b n m).2)) (lvl b n m).2) = (atomP c n (m + 1) (lvl c n m).1 (eitP c n (lvl c n m).2), denP c n (m + 1) (atomP c n (m + 1) (lvl c n m).1 (eitP c n (lvl c n m).2)) (lvl c n m).2)
    rw [ih, eitP_cg h, atomP_cg h, denP_cg h]
theorem partP_cg {b c : Nat → Int} {n : Nat} (h : agB b c n) (key : Int) : partP b n key = partP c n key := by
  have e : eitL b n 5 = eitL c n 5 := by
    unfold eitL denL
    rw [lvl_cg h, eitP_cg h]
  funext p
  unfold partP
  rw [tk_cg h, adv_cg h, e]
theorem rdk_cg {b c : Nat → Int} {n : Nat} (h : agB b c n) : ∀ k, rdk b n k = rdk c n k := by
  intro k
  induction k with
  | zero =>
    show (span isW b n 0, (-1 : Int), ([] : List Int), fun _ => (0 : Int)) = (span isW c n 0, -1, [], fun _ => 0)
    rw [span_cg h _ 0 rfl]
  | succ k ih =>
    show stP (partP b n (4 + (k : Int))) (rdk b n k).1 (rdk b n k).2.1 = stP (partP c n (4 + (k : Int))) (rdk c n k).1 (rdk c n k).2.1
    rw [ih, partP_cg h]
theorem rdF_cg {b c : Nat → Int} {n : Nat} (h : agB b c n) : rdF b n = rdF c n := by
  rw [rdF_eq, rdF_eq, rdk_cg h, tk_cg h]
theorem valT_cg {b c : Nat → Int} {n : Nat} (h : agB b c n) (part : Nat) (nm : Nat → Int) : valT b n part nm = valT c n part nm := by
  unfold valT
  rw [rdk_cg h]
end
section
/-! the reference: a new text, a new man -/

theorem agZ.Y {a b : IM} (h : agZ a b) : agY a b := fun k i s hs => h k i s (by omega)
theorem txI_31 {im : IM} {s i : Nat} (hs : (s : Int) < im 30 0 3) (hi : i < 160) : txI im 31 0 (160 * s + i) = im 31 0 (160 * s + i) := by
  unfold txI
  rw [up_app, if_neg (by omega), up_app, if_neg (by omega)]
  unfold cpR
  rw [if_neg (by omega)]
theorem txI_32 {im : IM} {s : Nat} (hs : (s : Int) < im 30 0 3) : txI im 32 0 s = im 32 0 s := by
  unfold txI
  rw [up_app, if_neg (by omega), up_app, if_neg (by omega)]
  unfold cpR
  rw [if_neg (by omega)]
theorem txI_row {im : IM} (h : RX im) {s : Nat} (hs : (s : Int) < im 30 0 3) : 0 ≤ txI im 32 0 s ∧ txI im 32 0 s ≤ 160 ∧ rdF (rowR (txI im) s) (txI im 32 0 s).toNat = -1 := by
  have e := h.2.2.2.2 s hs
  rw [txI_32 hs]
  refine ⟨e.1, e.2.1, ?_⟩
  rw [rdF_cg (b := rowR (txI im) s) (c := rowR im s) (n := (im 32 0 s).toNat) (fun i hi => txI_31 hs (by omega))]
  exact e.2.2
theorem txI_b {im : IM} (h : RX im) : ∀ i, i < 960 → 0 ≤ txI im 31 0 i ∧ txI im 31 0 i ≤ 255 := by
  intro i hi
  have h6 := h.2.2.1
  unfold txI
  rw [up_app, if_neg (by omega), up_app, if_neg (by omega)]
  unfold cpR
  split
  · exact h.1 _ (by omega)
  · exact h.2.1 i hi
theorem txI_RI {im : IM} (h : RI im) : RI (txI im) := RI_up (RI_up (cpR_RI h _ _) (h _ _ _)) (by constructor <;> omega)
theorem RC_txI {im : IM} (h : RC im) : RC (txI im) := by
  obtain ⟨hR, hX, h4, h12, h7, h8, hP⟩ := h
  exact ⟨txI_RI hR, ⟨hX.1, txI_b hX, ⟨Int.le_refl 0, by show (0 : Int) ≤ 160; omega⟩, hX.2.2.2.1, fun s hs => txI_row hX hs⟩, h4, h12, h7, h8, hP⟩
theorem RC_txJ {im : IM} (h : RC im) (h3 : im 30 0 3 ≠ 6) (hF : rdF (txB im) (im 30 0 6).toNat = -1) : RC (up (txI im) 30 0 3 (im 30 0 3 + 1)) := by
  obtain ⟨hR, hX, h4, h12, h7, h8, hP⟩ := h
  have h3' := hX.2.2.2.1
  have h6 := hX.2.2.1
  refine ⟨RI_up (txI_RI hR) (by constructor <;> omega), ⟨hX.1, txI_b hX, ⟨Int.le_refl 0, by show (0 : Int) ≤ 160; omega⟩, ?_, fun s hs => ?_⟩, ⟨h4.1, ?_⟩, h12, h7, h8, hP⟩
  · show 0 ≤ im 30 0 3 + 1 ∧ im 30 0 3 + 1 ≤ 6
    omega
  · have hs2 : (s : Int) < im 30 0 3 + 1 := hs
    by_cases hc : (s : Int) < im 30 0 3
    · exact txI_row hX hc
    · have e : s = (im 30 0 3).toNat := by omega
      subst e
      have e32 : txI im 32 0 (im 30 0 3).toNat = im 30 0 6 := by
        unfold txI
        rw [up_app, if_neg (by omega), up_app, if_pos ⟨rfl, rfl, rfl⟩]
      show 0 ≤ txI im 32 0 (im 30 0 3).toNat ∧ txI im 32 0 (im 30 0 3).toNat ≤ 160 ∧ rdF (rowR (txI im) (im 30 0 3).toNat) (txI im 32 0 (im 30 0 3).toNat).toNat = -1
      rw [e32]
      exact ⟨h6.1, h6.2, hF⟩
  · show im 30 0 4 < im 30 0 3 + 1
    omega
theorem RC_text0 {im im' : IM} (h : RC im) (hR : RI im') (ha : agZ im' (txI im)) : RC im' := (RC_txI h).ag hR ha.Y
theorem RC_text1 {im im' : IM} (h : RC im) (h3 : im 30 0 3 ≠ 6) (hF : rdF (txB im) (im 30 0 6).toNat = -1) (hR : RI im') (ha : agZ im' (txI im)) : RC (up im' 30 0 3 (im 30 0 3 + 1)) := by
  have h3' := h.2.1.2.2.2.1
  refine (RC_txJ h h3 hF).ag (RI_up hR (by constructor <;> omega)) (fun k i s hs => ?_)
  rw [up_app, up_app, ha k i s (by omega)]
end
section
/-! the reference: a new man -/

theorem RC_man {im : IM} (h : RC im) {a c : Int} (ha : 0 ≤ a ∧ a ≤ 5) (hc : 0 ≤ c ∧ c ≤ 9) (h5 : im 30 0 12 ≠ 5) : RC (up (fiR (up (up im 34 0 (im 30 0 12).toNat a) 35 0 (im 30 0 12).toNat c) (10 * (im 30 0 12).toNat) 10 (-1)) 30 0 12 (im 30 0 12 + 1)) := by
  obtain ⟨hR, hX, h4, h12, h7, h8, hP⟩ := h
  have hRf : RI (fiR (up (up im 34 0 (im 30 0 12).toNat a) 35 0 (im 30 0 12).toNat c) (10 * (im 30 0 12).toNat) 10 (-1)) := by
    intro k i s
    unfold fiR
    split
    · constructor <;> omega
    · exact RI_up (RI_up hR (by constructor <;> omega)) (by constructor <;> omega) k i s
  refine ⟨RI_up hRf (by constructor <;> omega), hX.same (fun _ => rfl) (fun _ => rfl) (fun _ => rfl) rfl rfl, h4, ?_, h7, h8, fun p hp => ?_⟩
  · show 0 ≤ im 30 0 12 + 1 ∧ im 30 0 12 + 1 ≤ 5
    omega
  · have hp2 : (p : Int) < im 30 0 12 + 1 := hp
    generalize ht : (im 30 0 12).toNat = t
    have e34 : up (fiR (up (up im 34 0 t a) 35 0 t c) (10 * t) 10 (-1)) 30 0 12 (im 30 0 12 + 1) 34 0 p = if p = t then a else im 34 0 p := by
      rw [up_app, if_neg (by omega)]
      unfold fiR
      rw [if_neg (by omega), up_app, if_neg (by omega), up_app]
      by_cases q : p = t
      · rw [if_pos ⟨rfl, rfl, q⟩, if_pos q]
      · rw [if_neg (fun z => q z.2.2), if_neg q]
    have e35 : up (fiR (up (up im 34 0 t a) 35 0 t c) (10 * t) 10 (-1)) 30 0 12 (im 30 0 12 + 1) 35 0 p = if p = t then c else im 35 0 p := by
      rw [up_app, if_neg (by omega)]
      unfold fiR
      rw [if_neg (by omega), up_app]
      by_cases q : p = t
      · rw [if_pos ⟨rfl, rfl, q⟩, if_pos q]
      · rw [if_neg (fun z => q z.2.2), if_neg q, up_app, if_neg (by omega)]
    have e36 : ∀ g, g < 10 → up (fiR (up (up im 34 0 t a) 35 0 t c) (10 * t) 10 (-1)) 30 0 12 (im 30 0 12 + 1) 36 0 (10 * p + g) = if p = t then -1 else im 36 0 (10 * p + g) := by
      intro g hg
      rw [up_app, if_neg (by omega)]
      unfold fiR
      by_cases q : p = t
      · rw [if_pos (by omega), if_pos q]
      · rw [if_neg (by omega), if_neg q, up_app, if_neg (by omega), up_app, if_neg (by omega)]
    have e37 : ∀ g, up (fiR (up (up im 34 0 t a) 35 0 t c) (10 * t) 10 (-1)) 30 0 12 (im 30 0 12 + 1) 37 0 (10 * p + g) = im 37 0 (10 * p + g) := by
      intro g
      rw [up_app, if_neg (by omega)]
      unfold fiR
      rw [if_neg (by omega), up_app, if_neg (by omega), up_app, if_neg (by omega)]
    unfold RP
    rw [e34, e35]
    by_cases q : p = t
    · rw [if_pos q, if_pos q]
      refine ⟨by omega, by omega, fun g hg => ?_⟩
      rw [e36 g hg, if_pos q]
      exact ⟨by omega, by omega, fun z => absurd rfl z⟩
    · rw [if_neg q, if_neg q]
      have e := hP p (by omega)
      refine ⟨e.1, e.2.1, fun g hg => ?_⟩
      rw [e36 g hg, if_neg q, e37]
      exact e.2.2 g hg
end
section
/-! the reference: an hour, gap by gap -/

def beR (im : IM) (q : Nat) : Int := bearsK (im 34 0 (q / 10)) (im 35 0 (q / 10)) (sayR im (im 30 0 4).toNat 2 (nmA (im 36 0 q) 0 (im 30 0 7) (im 35 0 (q / 10)) ((q % 10 : Nat) : Int) (im 37 0 q))) (chI (im 30 0 8) (im 30 0 7))
theorem hoR_ag {im im' : IM} (h : agY im' im) (q : Nat) : hoR im' q = hoR im q := by
  unfold hoR
  rw [sayR_ag h, h 34 0 _ (by omega), h 35 0 _ (by omega), h 36 0 _ (by omega), h 37 0 _ (by omega), h 30 0 4 (by omega), h 30 0 7 (by omega)]
theorem beR_ag {im im' : IM} (h : agY im' im) (q : Nat) : beR im' q = beR im q := by
  unfold beR
  rw [sayR_ag h, h 34 0 _ (by omega), h 35 0 _ (by omega), h 36 0 _ (by omega), h 37 0 _ (by omega), h 30 0 4 (by omega), h 30 0 7 (by omega), h 30 0 8 (by omega)]
theorem hoR_in {im : IM} {q : Nat} (hk : 0 ≤ im 35 0 (q / 10) ∧ im 35 0 (q / 10) < 10) : 1 ≤ hoR im q ∧ hoR im q ≤ 108 := by
  have h := sayR_in im (im 30 0 4).toNat 1 (nmA (im 36 0 q) 0 (im 30 0 7) (im 35 0 (q / 10)) ((q % 10 : Nat) : Int) (im 37 0 q))
  unfold hoR holdsK heldK
  (repeat' split) <;> omega
theorem beR_in {im : IM} {q : Nat} (hk : 0 ≤ im 35 0 (q / 10) ∧ im 35 0 (q / 10) < 10) : 0 ≤ beR im q ∧ beR im q ≤ 621 := by
  have h := sayR_in im (im 30 0 4).toNat 2 (nmA (im 36 0 q) 0 (im 30 0 7) (im 35 0 (q / 10)) ((q % 10 : Nat) : Int) (im 37 0 q))
  unfold beR bearsK
  (repeat' split) <;> omega
theorem agY.up {a b : IM} (h : agY a b) {k i s : Nat} {x y : Int} (e : x = y) : agY (up a k i s x) (up b k i s y) := by
  intro k' i' s' hn
  rw [up_app, up_app, e]
  split
  · rfl
  · exact h k' i' s' hn
theorem agY.at {a b : IM} (h : agY a b) {k i s : Nat} (hs : ¬ (k = 30 ∧ 15 ≤ s ∧ s ≤ 29)) : a k i s = b k i s := h k i s hs
/-- one gap's hour, t hours from now -/
def lvA (im : IM) (q : Nat) : IM := up im 37 0 q (im 37 0 q + 1)
def lvB (im : IM) (t : Int) (q : Nat) : IM := up (up (up (lvA im q) 39 0 q (beR (lvA im q) q)) 38 0 q t) 30 0 9 (bm (im 30 0 9 + beR (lvA im q) q))
def lvF (im : IM) (t : Int) (q : Nat) : IM := if im 30 0 33 = -1 then up (up (up im 30 0 31 (im 36 0 q)) 30 0 32 ((q / 10 : Nat) : Int)) 30 0 33 t else im
def lvC (im : IM) (t : Int) (q : Nat) : IM := up (up (lvF (lvB im t q) t q) 30 0 30 (bm (im 30 0 30 + 1))) 36 0 q (-1)
def lv1 (im : IM) (t : Int) (q : Nat) : IM := if im 36 0 q = -1 then im else if im 37 0 q + 1 < hoR (lvA im q) q then lvA im q else lvC im t q
def lvN (im : IM) (t : Int) : Nat → IM
  | 0 => im
  | n + 1 => lv1 (lvN im t n) t n
end
section
/-! the reference: what an hour does, gap by gap -/

/-- it would go off in this hour; how bad then -/
def ho1 (im : IM) (q : Nat) : Int := holdsK (im 34 0 (q / 10)) (im 35 0 (q / 10)) (sayR im (im 30 0 4).toNat 1 (nmA (im 36 0 q) 0 (im 30 0 7) (im 35 0 (q / 10)) ((q % 10 : Nat) : Int) (im 37 0 q + 1)))
def be1 (im : IM) (q : Nat) : Int := bearsK (im 34 0 (q / 10)) (im 35 0 (q / 10)) (sayR im (im 30 0 4).toNat 2 (nmA (im 36 0 q) 0 (im 30 0 7) (im 35 0 (q / 10)) ((q % 10 : Nat) : Int) (im 37 0 q + 1))) (chI (im 30 0 8) (im 30 0 7))
abbrev ofI (im : IM) (q : Nat) : Prop := im 36 0 q ≠ -1 ∧ ho1 im q ≤ im 37 0 q + 1
/-- all but what an hour goes through -/
def agH (a b : IM) : Prop := ∀ k i s, ¬ (36 ≤ k ∧ k ≤ 39) → ¬ (k = 30 ∧ (s = 9 ∨ 30 ≤ s ∧ s ≤ 33)) → a k i s = b k i s
theorem agH_rfl (a : IM) : agH a a := fun _ _ _ _ _ => rfl
theorem agH.trans {a b c : IM} (h : agH a b) (h2 : agH b c) : agH a c := fun k i s x y => (h k i s x y).trans (h2 k i s x y)
theorem agH_up {a b : IM} (h : agH a b) {k i s : Nat} {x : Int} (hk : (36 ≤ k ∧ k ≤ 39) ∨ (k = 30 ∧ (s = 9 ∨ 30 ≤ s ∧ s ≤ 33))) : agH (up a k i s x) b := by
  intro k' i' s' h1 h2
  rw [up_app, if_neg (by omega)]
  exact h k' i' s' h1 h2
theorem sayR_H {a b : IM} (h : agH a b) (t part : Nat) (nm : Nat → Int) : sayR a t part nm = sayR b t part nm := by
  unfold sayR
  have e31 : rowR a t = rowR b t := funext fun i => h 31 0 _ (by omega) (by omega)
  rw [h 32 0 t (by omega) (by omega), e31]
theorem ho1_H {a b : IM} (h : agH a b) {q : Nat} (h36 : a 36 0 q = b 36 0 q) (h37 : a 37 0 q = b 37 0 q) : ho1 a q = ho1 b q := by
  unfold ho1
  rw [sayR_H h, h 34 0 _ (by omega) (by omega), h 35 0 _ (by omega) (by omega), h36, h37, h 30 0 4 (by omega) (by omega), h 30 0 7 (by omega) (by omega)]
theorem be1_H {a b : IM} (h : agH a b) {q : Nat} (h36 : a 36 0 q = b 36 0 q) (h37 : a 37 0 q = b 37 0 q) : be1 a q = be1 b q := by
  unfold be1
  rw [sayR_H h, h 34 0 _ (by omega) (by omega), h 35 0 _ (by omega) (by omega), h36, h37, h 30 0 4 (by omega) (by omega), h 30 0 7 (by omega) (by omega), h 30 0 8 (by omega) (by omega)]
theorem hoA (im : IM) (q : Nat) : hoR (lvA im q) q = ho1 im q := by
  have e : lvA im q 37 0 q = im 37 0 q + 1 := by unfold lvA; rw [up_app, if_pos ⟨rfl, rfl, rfl⟩]
  have eH : agH (lvA im q) im := agH_up (agH_rfl im) (Or.inl (by omega))
  unfold hoR ho1
  rw [e, sayR_H eH, eH 34 0 _ (by omega) (by omega), eH 35 0 _ (by omega) (by omega), eH 30 0 4 (by omega) (by omega), eH 30 0 7 (by omega) (by omega)]
  rfl
theorem beA (im : IM) (q : Nat) : beR (lvA im q) q = be1 im q := by
  have e : lvA im q 37 0 q = im 37 0 q + 1 := by unfold lvA; rw [up_app, if_pos ⟨rfl, rfl, rfl⟩]
  have eH : agH (lvA im q) im := agH_up (agH_rfl im) (Or.inl (by omega))
  unfold beR be1
  rw [e, sayR_H eH, eH 34 0 _ (by omega) (by omega), eH 35 0 _ (by omega) (by omega), eH 30 0 4 (by omega) (by omega), eH 30 0 7 (by omega) (by omega), eH 30 0 8 (by omega) (by omega)]
  rfl
/-- the sum and the number of those that go off, the first of them -/
def shI (im : IM) : Nat → Int
  | 0 => im 30 0 9
  | n + 1 => if ofI im n then bm (shI im n + be1 im n) else shI im n
def cnI (im : IM) : Nat → Int
  | 0 => im 30 0 30
  | n + 1 => if ofI im n then bm (cnI im n + 1) else cnI im n
/-- behind n gaps of an hour -/
def LV (im : IM) (t : Int) (n : Nat) (F : IM) : Prop := agH F im ∧ (∀ s, n ≤ s → F 36 0 s = im 36 0 s ∧ F 37 0 s = im 37 0 s ∧ F 38 0 s = im 38 0 s ∧ F 39 0 s = im 39 0 s) ∧ (∀ s, s < n → (ofI im s → F 36 0 s = -1 ∧ F 38 0 s = t ∧ F 39 0 s = be1 im s) ∧ (¬ ofI im s → F 36 0 s = im 36 0 s ∧ (im 36 0 s ≠ -1 → F 37 0 s = im 37 0 s + 1) ∧ (im 36 0 s = -1 → F 37 0 s = im 37 0 s) ∧ F 38 0 s = im 38 0 s ∧ F 39 0 s = im 39 0 s)) ∧ F 30 0 9 = shI im n ∧ F 30 0 30 = cnI im n ∧ (im 30 0 33 ≠ -1 → F 30 0 31 = im 30 0 31 ∧ F 30 0 32 = im 30 0 32 ∧ F 30 0 33 = im 30 0 33) ∧ (im 30 0 33 = -1 → (∀ s, s < n → ¬ ofI im s) → F 30 0 31 = im 30 0 31 ∧ F 30 0 32 = im 30 0 32 ∧ F 30 0 33 = im 30 0 33) ∧ (im 30 0 33 = -1 → ∀ s, s < n → ofI im s → (∀ j, j < s → ¬ ofI im j) → F 30 0 31 = im 36 0 s ∧ F 30 0 32 = ((s / 10 : Nat) : Int) ∧ F 30 0 33 = t)
theorem LV_0 (im : IM) (t : Int) : LV im t 0 im := ⟨agH_rfl im, fun _ _ => ⟨rfl, rfl, rfl, rfl⟩, fun s hs => absurd hs (Nat.not_lt_zero s), rfl, rfl, fun _ => ⟨rfl, rfl, rfl⟩, fun _ _ => ⟨rfl, rfl, rfl⟩, fun _ s hs => absurd hs (Nat.not_lt_zero s)⟩
theorem lvC_app (F : IM) (t : Int) (n k i s : Nat) : lvC F t n k i s = if k = 36 ∧ i = 0 ∧ s = n then -1 else if k = 30 ∧ i = 0 ∧ s = 30 then bm (F 30 0 30 + 1) else if F 30 0 33 = -1 ∧ k = 30 ∧ i = 0 ∧ s = 33 then t else if F 30 0 33 = -1 ∧ k = 30 ∧ i = 0 ∧ s = 32 then ((n / 10 : Nat) : Int) else if F 30 0 33 = -1 ∧ k = 30 ∧ i = 0 ∧ s = 31 then F 36 0 n else if k = 30 ∧ i = 0 ∧ s = 9 then bm (F 30 0 9 + be1 F n) else if k = 38 ∧ i = 0 ∧ s = n then t else if k = 39 ∧ i = 0 ∧ s = n then be1 F n else if k = 37 ∧ i = 0 ∧ s = n then F 37 0 n + 1 else F k i s := by
  unfold lvC
  rw [up_app, up_app]
  have e33 : lvB F t n 30 0 33 = F 30 0 33 := rfl
  have e36 : lvB F t n 36 0 n = F 36 0 n := by
    unfold lvB lvA
    rw [up_app, if_neg (by omega), up_app, if_neg (by omega), up_app, if_neg (by omega), up_app, if_neg (by omega)]
  have eB : lvB F t n k i s = if k = 30 ∧ i = 0 ∧ s = 9 then bm (F 30 0 9 + be1 F n) else if k = 38 ∧ i = 0 ∧ s = n then t else if k = 39 ∧ i = 0 ∧ s = n then be1 F n else if k = 37 ∧ i = 0 ∧ s = n then F 37 0 n + 1 else F k i s := by
    unfold lvB
    rw [beA, up_app, up_app, up_app]
    unfold lvA
    rw [up_app]
  unfold lvF
  rw [e33]
  by_cases h : F 30 0 33 = -1
  · rw [if_pos h, up_app, up_app, up_app, eB, e36]
    simp only [h, true_and]
  · rw [if_neg h, eB]
    simp only [h, false_and, if_false]
theorem LV_s {im F : IM} {t : Int} {n : Nat} (htt : t ≠ -1) (h : LV im t n F) : LV im t (n + 1) (lv1 F t n) := by
  obtain ⟨hH, hge, hlt, h9, h30, hn0, hn1, hn2⟩ := h
  have hn := hge n (Nat.le_refl n)
  have ho : ho1 F n = ho1 im n := ho1_H hH hn.1 hn.2.1
  have hb : be1 F n = be1 im n := be1_H hH hn.1 hn.2.1
  have s9 : shI im (n + 1) = if ofI im n then bm (shI im n + be1 im n) else shI im n := rfl
  have s30 : cnI im (n + 1) = if ofI im n then bm (cnI im n + 1) else cnI im n := rfl
  by_cases hw : im 36 0 n = -1
  · have hno : ¬ ofI im n := fun z => z.1 hw
    have e : lv1 F t n = F := if_pos (hn.1.trans hw)
    rw [e]
    refine ⟨hH, fun s hs => hge s (by omega), fun s hs => ?_, by rw [s9, if_neg hno]; exact h9, by rw [s30, if_neg hno]; exact h30, hn0, fun h33 hs => hn1 h33 (fun s hs2 => hs s (by omega)), fun h33 s hs hos hj => hn2 h33 s ?_ hos hj⟩
    · by_cases q : s = n
      · subst q
        exact ⟨fun z => absurd z hno, fun _ => ⟨hn.1, fun z => absurd hw z, fun _ => hn.2.1, hn.2.2.1, hn.2.2.2⟩⟩
      · exact hlt s (by omega)
    · have : s ≠ n := fun e => hno (e ▸ hos)
      omega
  · by_cases hof : ho1 im n ≤ im 37 0 n + 1
    · have hyes : ofI im n := ⟨hw, hof⟩
      have e : lv1 F t n = lvC F t n := by
        unfold lv1
        rw [if_neg (by rw [hn.1]; exact hw), if_neg (by rw [hoA, ho, hn.2.1]; omega)]
      rw [e]
      refine ⟨fun k i s x y => ?_, fun s hs => ?_, fun s hs => ?_, ?_, ?_, fun h33 => ?_, fun h33 hs => absurd hyes (hs n (by omega)), fun h33 s hs hos hj => ?_⟩
      · rw [lvC_app, if_neg (by omega), if_neg (by omega), if_neg (by omega), if_neg (by omega), if_neg (by omega), if_neg (by omega), if_neg (by omega), if_neg (by omega), if_neg (by omega)]
        exact hH k i s x y
      · have q := hge s (by omega)
        refine ⟨?_, ?_, ?_, ?_⟩ <;> rw [lvC_app, if_neg (by omega), if_neg (by omega), if_neg (by omega), if_neg (by omega), if_neg (by omega), if_neg (by omega), if_neg (by omega), if_neg (by omega), if_neg (by omega)]
        · exact q.1
        · exact q.2.1
        · exact q.2.2.1
        · exact q.2.2.2
      · by_cases q : s = n
        · subst q
          refine ⟨fun _ => ⟨?_, ?_, ?_⟩, fun z => absurd hyes z⟩
          · rw [lvC_app, if_pos ⟨rfl, rfl, rfl⟩]
          · rw [lvC_app, if_neg (by omega), if_neg (by omega), if_neg (by omega), if_neg (by omega), if_neg (by omega), if_neg (by omega), if_pos ⟨rfl, rfl, rfl⟩]
          · rw [lvC_app, if_neg (by omega), if_neg (by omega), if_neg (by omega), if_neg (by omega), if_neg (by omega), if_neg (by omega), if_neg (by omega), if_pos ⟨rfl, rfl, rfl⟩, hb]
        · have c : ∀ k, 36 ≤ k → k ≤ 39 → lvC F t n k 0 s = F k 0 s := fun k _ _ => by
            rw [lvC_app, if_neg (by omega), if_neg (by omega), if_neg (by omega), if_neg (by omega), if_neg (by omega), if_neg (by omega), if_neg (by omega), if_neg (by omega), if_neg (by omega)]
          rw [c 36 (by omega) (by omega), c 37 (by omega) (by omega), c 38 (by omega) (by omega), c 39 (by omega) (by omega)]
          exact hlt s (by omega)
      · rw [lvC_app, if_neg (by omega), if_neg (by omega), if_neg (by omega), if_neg (by omega), if_neg (by omega), if_pos ⟨rfl, rfl, rfl⟩, s9, if_pos hyes, h9, hb]
      · rw [lvC_app, if_neg (by omega), if_pos ⟨rfl, rfl, rfl⟩, s30, if_pos hyes, h30]
      · have e33 := (hn0 h33).2.2
        have c : ∀ s, 31 ≤ s → s ≤ 33 → lvC F t n 30 0 s = F 30 0 s := fun s _ _ => by
          rw [lvC_app, if_neg (by omega), if_neg (by omega), if_neg (fun z => h33 (e33 ▸ z.1)), if_neg (fun z => h33 (e33 ▸ z.1)), if_neg (fun z => h33 (e33 ▸ z.1)), if_neg (by omega), if_neg (by omega), if_neg (by omega), if_neg (by omega)]
        rw [c 31 (by omega) (by omega), c 32 (by omega) (by omega), c 33 (by omega) (by omega)]
        exact hn0 h33
      · by_cases q : s = n
        · subst q
          have e33 := (hn1 h33 hj).2.2
          have z33 : F 30 0 33 = -1 := e33.trans h33
          refine ⟨?_, ?_, ?_⟩
          · rw [lvC_app, if_neg (by omega), if_neg (by omega), if_neg (by omega), if_neg (by omega), if_pos ⟨z33, rfl, rfl, rfl⟩]
            exact hn.1
          · rw [lvC_app, if_neg (by omega), if_neg (by omega), if_neg (by omega), if_pos ⟨z33, rfl, rfl, rfl⟩]
          · rw [lvC_app, if_neg (by omega), if_neg (by omega), if_pos ⟨z33, rfl, rfl, rfl⟩]
        · have old := hn2 h33 s (by omega) hos hj
          have c : F 30 0 33 ≠ -1 → ∀ s, 31 ≤ s → s ≤ 33 → lvC F t n 30 0 s = F 30 0 s := fun z s _ _ => by
            rw [lvC_app, if_neg (by omega), if_neg (by omega), if_neg (fun w => z w.1), if_neg (fun w => z w.1), if_neg (fun w => z w.1), if_neg (by omega), if_neg (by omega), if_neg (by omega), if_neg (by omega)]
          have ht : t ≠ -1 := htt
          have z : F 30 0 33 ≠ -1 := by rw [old.2.2]; exact ht
          rw [c z 31 (by omega) (by omega), c z 32 (by omega) (by omega), c z 33 (by omega) (by omega)]
          exact old
    · have hno : ¬ ofI im n := fun z => hof z.2
      have e : lv1 F t n = lvA F n := by
        unfold lv1
        rw [if_neg (by rw [hn.1]; exact hw), if_pos (by rw [hoA, ho, hn.2.1]; omega)]
      rw [e]
      have c : ∀ k i s, ¬ (k = 37 ∧ i = 0 ∧ s = n) → lvA F n k i s = F k i s := fun k i s z => by
        unfold lvA
        rw [up_app, if_neg z]
      have c30 : ∀ s, lvA F n 30 0 s = F 30 0 s := fun s => c 30 0 s (by omega)
      refine ⟨fun k i s x y => (c k i s (by omega)).trans (hH k i s x y), fun s hs => ?_, fun s hs => ?_, by rw [s9, if_neg hno, c30]; exact h9, by rw [s30, if_neg hno, c30]; exact h30, by rw [c30, c30, c30]; exact hn0, fun h33 hs => by rw [c30, c30, c30]; exact hn1 h33 (fun s hs2 => hs s (by omega)), fun h33 s hs hos hj => ?_⟩
      · rw [c 36 0 s (by omega), c 37 0 s (by omega), c 38 0 s (by omega), c 39 0 s (by omega)]
        exact hge s (by omega)
      · by_cases q : s = n
        · subst q
          rw [c 36 0 s (by omega), c 38 0 s (by omega), c 39 0 s (by omega)]
          refine ⟨fun z => absurd z hno, fun _ => ⟨hn.1, fun _ => ?_, fun z => absurd z hw, hn.2.2.1, hn.2.2.2⟩⟩
          unfold lvA
          rw [up_app, if_pos ⟨rfl, rfl, rfl⟩, hn.2.1]
        · rw [c 36 0 s (by omega), c 37 0 s (by omega), c 38 0 s (by omega), c 39 0 s (by omega)]
          exact hlt s (by omega)
      · rw [c30, c30, c30]
        have : s ≠ n := fun e => hno (e ▸ hos)
        exact hn2 h33 s (by omega) hos hj
theorem LV_N (im : IM) {t : Int} (htt : t ≠ -1) (n : Nat) : LV im t n (lvN im t n) := by
  induction n with
  | zero => exact LV_0 im t
  | succ n ih => exact LV_s htt ih
end
section
/-! the reference: an hour of all -/

/-- the ages where a word is stuck are no more than that -/
def AG (im : IM) (a : Int) : Prop := ∀ q : Nat, (q : Int) < 10 * im 30 0 12 → im 36 0 q ≠ -1 → im 37 0 q ≤ a
theorem RC_lv {im F S : IM} {t : Int} {n : Nat} (h : RC im) (hA : AG im 1000) (hR : RI S) (hag : agY S F) (hL : LV im t n F) : RC S ∧ (∀ q : Nat, (q : Int) < 10 * im 30 0 12 → S 36 0 q ≠ -1 → S 37 0 q ≤ im 37 0 q + 1) := by
  obtain ⟨hRi, hX, h4, h12, h7, h8, hP⟩ := h
  obtain ⟨hH, hge, hlt, h9, h30, hn0, hn1, hn2⟩ := hL
  have e30 : ∀ s, ¬ (s = 9 ∨ 30 ≤ s ∧ s ≤ 33) → ¬ (15 ≤ s ∧ s ≤ 29) → S 30 0 s = im 30 0 s := fun s a b => (hag 30 0 s (by omega)).trans (hH 30 0 s (by omega) (by omega))
  have hXF : RX F := hX.same (fun s => hH 31 0 s (by omega) (by omega)) (fun s => hH 32 0 s (by omega) (by omega)) (fun s => hH 33 0 s (by omega) (by omega)) (hH 30 0 3 (by omega) (by omega)) (hH 30 0 6 (by omega) (by omega))
  have hw : ∀ s, (S 36 0 s = im 36 0 s ∨ S 36 0 s = -1) ∧ (S 36 0 s ≠ -1 → im 36 0 s ≠ -1 ∧ (S 37 0 s = im 37 0 s ∨ S 37 0 s = im 37 0 s + 1)) := by
    intro s
    rw [hag 36 0 s (by omega), hag 37 0 s (by omega)]
    by_cases q : s < n
    · have := hlt s q
      by_cases ho : ofI im s
      · have e := (this.1 ho).1
        rw [e]
        exact ⟨Or.inr rfl, fun z => absurd rfl z⟩
      · have e := this.2 ho
        rw [e.1]
        exact ⟨Or.inl rfl, fun z => ⟨z, Or.inr (e.2.1 z)⟩⟩
    · have := hge s (by omega)
      rw [this.1, this.2.1]
      exact ⟨Or.inl rfl, fun z => ⟨z, Or.inl rfl⟩⟩
  refine ⟨⟨hR, hXF.ag hag, by rw [e30 4 (by omega) (by omega), e30 3 (by omega) (by omega)]; exact h4, by rw [e30 12 (by omega) (by omega)]; exact h12, by rw [e30 7 (by omega) (by omega)]; exact h7, by rw [e30 8 (by omega) (by omega)]; exact h8, fun p hp => ?_⟩, fun q hq hne => ?_⟩
  · rw [e30 12 (by omega) (by omega)] at hp
    have hp0 := hP p hp
    unfold RP at hp0 ⊢
    rw [hag 34 0 p (by omega), hag 35 0 p (by omega), hH 34 0 p (by omega) (by omega), hH 35 0 p (by omega) (by omega)]
    refine ⟨hp0.1, hp0.2.1, fun g hg => ?_⟩
    have a := hw (10 * p + g)
    have b := hp0.2.2 g hg
    refine ⟨by omega, by omega, fun z => ?_⟩
    have c := a.2 z
    have d := b.2.2 c.1
    have e := hA (10 * p + g) (by omega) c.1
    omega
  · have c := (hw q).2 hne
    omega

set_option maxHeartbeats 4000000 in
theorem c_X9_lives (l : Launch) (G : GS) (im : IM) (bt rt : Nat) (lm : IM) (h : RC im) (hA : AG im 1000) (t : Int) (ht : ri t) (htt : t ≠ -1) : Cn l (XR G) yX9_lives Y_X9_lives [vR 30 0, vI t] (im, rs bt rt, lm) (pV fun m' => ∃ im' lm', RI im' ∧ agY im' (up (lvN im t (10 * im 30 0 12).toNat) 30 0 7 (im 30 0 7 + 1)) ∧ lgQ lm' lm ∧ m' = (im', rs bt rt, lm')) := by
  refine cn_of (by decide) (okR G) rfl (Nat.le_of_ble_eq_true rfl) ?_
  intro M ad hMl F
  subst hMl
  obtain ⟨hRi, hX, h4, h12, h7a, h8, hP⟩ := id h
  have hR := hRi
  refine wp_pad 1 ?_
  show Wp M (XR G) ad Y_X9_lives (pV fun m' => ∃ im' lm', RI im' ∧ agY im' (up (lvN im t (10 * im 30 0 12).toNat) 30 0 7 (im 30 0 7 + 1)) ∧ lgQ lm' lm ∧ m' = (im', rs bt rt, lm')) 0 [some (vR 30 0), some (vI t), none] [] (im, rs bt rt, lm)
  refine q_iconst (t := 1) F dX9_lives_0 rfl ?_
  refine q_istore_n (t := 2) F dX9_lives_1 rfl (by decide) rfl rfl ?_
  have L2 : ∀ (fz : Nat) (q : Nat) (S lg : IM), 51 - q < fz → ((q : Int) ≤ 10 * im 30 0 12 ∧ RI S ∧ agY S (lvN im t q) ∧ lgQ lg lm) → Wp M (XR G) ad Y_X9_lives (pV fun m' => ∃ im' lm', RI im' ∧ agY im' (up (lvN im t (10 * im 30 0 12).toNat) 30 0 7 (im 30 0 7 + 1)) ∧ lgQ lm' lm ∧ m' = (im', rs bt rt, lm')) 2 [some (vR 30 0), some (vI t), some (vI (q : Int))] [] (S, rs bt rt, lg) := by
    intro fz
    induction fz with
    | zero => intro q S lg h; exact absurd h (Nat.not_lt_zero _)
    | succ fz ih =>
      have ih2 := ih
      intro q S lg hmeas ⟨hq, hR, hag, hlg⟩
      have hL := LV_N im htt q
      generalize hPd : lvN im t q = P
      rw [hPd] at hL hag
      have e12 : S 30 0 12 = im 30 0 12 := (hag 30 0 12 (by omega)).trans (hL.1 30 0 12 (by omega) (by omega))
      have hRS := RC_lv h hA hR hag hL
      have hq50 : q ≤ 50 := by omega
      have hs1 : lvN im t (q + 1) = lv1 P t q := by rw [← hPd]; rfl
      refine q_iload_n (t := 3) F dX9_lives_2 rfl rfl rfl ?_
      refine q_bipush (t := 5) F dX9_lives_3 (by decide) rfl ?_
      refine q_aload_n (t := 6) F dX9_lives_5 rfl rfl rfl ?_
      refine g_X9_88 (t := 9) F dX9_lives_6 rfl rfl ?_
      rw [e12]
      refine q_imul (t := 10) F dX9_lives_9 rfl ?_
      refine q_icmp_ge (t := 13) (u := 134) F dX9_lives_10 (by first | exact hR _ _ _ | (constructor <;> omega)) (by first | exact hR _ _ _ | (constructor <;> omega)) (by decide) rfl (fun c10 => ?_) (fun c10 => ?_)
      · obtain rfl : q = (10 * im 30 0 12).toNat := by omega
        have e7 : S 30 0 7 = im 30 0 7 := (hag 30 0 7 (by omega)).trans (hL.1 30 0 7 (by omega) (by omega))
        refine q_aload_n (t := 135) F dX9_lives_134 rfl rfl rfl ?_
        refine q_dupR (t := 136) F dX9_lives_135 rfl ?_
        refine g_X9_117 (t := 139) F dX9_lives_136 rfl rfl ?_
        refine q_iconst (t := 140) F dX9_lives_139 rfl ?_
        refine q_iadd (t := 141) F dX9_lives_140 rfl ?_
        refine p_X9_117 (t := 144) F dX9_lives_141 rfl rfl ?_
        refine q_vret F dX9_lives_144 rfl ?_
        refine ⟨rfl, _, lg, ?_, ?_, hlg, rfl⟩
        · refine RI_up hR (by constructor <;> omega)
        · rw [hPd]
          exact hag.up (by rw [e7])
      · refine q_aload_n (t := 14) F dX9_lives_13 rfl rfl rfl ?_
        refine g_X9_32 (t := 17) F dX9_lives_14 rfl rfl ?_
        refine q_iload_n (t := 18) F dX9_lives_17 rfl rfl rfl ?_
        first | refine ldN_36 (t := 19) F dX9_lives_18 (by omega) rfl ?_ | refine ld_36 (t := 19) F dX9_lives_18 (by omega) (by omega) rfl ?_
        refine q_iconst (t := 20) F dX9_lives_19 rfl ?_
        refine q_icmp_eq (t := 23) (u := 128) F dX9_lives_20 (by exact hR _ _ _) (by constructor <;> omega) (by decide) rfl (fun c20 => ?_) (fun c20 => ?_)
        · refine q_iinc (t := 131) F dX9_lives_128 rfl (by decide) rfl rfl ?_
          refine q_goto (t := 2) F dX9_lives_131 (by decide) ?_
          rw [show (q : Int) + 1 = ((q + 1 : Nat) : Int) by omega]
          first
            | (exfalso; omega)
            | (refine ih2 (q + 1) S lg (by omega) ⟨by omega, hR, ?_, hlg⟩
               rw [hs1]
               unfold lv1
               rw [if_pos (by rw [← hag 36 0 q (by omega)]; exact c20)]
               exact hag)
            | (refine ih2 (q + 1) im2 lg2 (by omega) ⟨by omega, hR2, ?_, hlg2.trans hlg⟩
               rw [hs1]
               unfold lv1
               rw [if_neg (by rw [← hag 36 0 q (by omega)]; exact w36), if_pos (by rw [← hx2, ← hag 37 0 q (by omega)]; omega)]
               exact hag2)
            | (refine ih2 (q + 1) _ lg3 (by omega) ⟨by omega, ?_, ?_, hlg3.trans (hlg2.trans hlg)⟩
               · (repeat' first | exact hR3 | refine RI_up ?_ ?_ | exact ri_b _ | assumption | exact hR3 _ _ _ | (constructor <;> omega))
               · rw [hs1]
                 unfold lv1
                 rw [if_neg (by rw [← hag 36 0 q (by omega)]; exact w36), if_neg (by rw [← hx2, ← hag 37 0 q (by omega)]; omega)]
                 unfold lvC lvF
                 rw [if_pos (by exact z33)]
                 exact (((((hB.up e36).up rfl).up rfl).up e30).up rfl))
            | (refine ih2 (q + 1) _ lg3 (by omega) ⟨by omega, ?_, ?_, hlg3.trans (hlg2.trans hlg)⟩
               · (repeat' first | exact hR3 | refine RI_up ?_ ?_ | exact ri_b _ | assumption | exact hR3 _ _ _ | (constructor <;> omega))
               · rw [hs1]
                 unfold lv1
                 rw [if_neg (by rw [← hag 36 0 q (by omega)]; exact w36), if_neg (by rw [← hx2, ← hag 37 0 q (by omega)]; omega)]
                 unfold lvC lvF
                 rw [if_neg (by exact z33)]
                 exact ((hB.up e30).up rfl))
            | omega
        · have w36 : S 36 0 q ≠ -1 := c20
          have hq5 : (q : Int) < 10 * im 30 0 12 := by omega
          have hrp := hRS.1.2.2.2.2.2.2 (q / 10) (by omega)
          have hg := hrp.2.2 (q % 10) (by omega)
          rw [show 10 * (q / 10) + q % 10 = q by omega] at hg
          have h37 := hg.2.2 w36
          have h37b : S 37 0 q ≤ 1000 := by
            have e := (hL.2.1 q (Nat.le_refl q))
            have e2 := hag 36 0 q (by omega)
            have e3 := hag 37 0 q (by omega)
            have e4 := hA q hq5 (by rw [← e.1, ← e2]; exact w36)
            omega
          have hRC1 : RC (up S 37 0 q (S 37 0 q + 1)) := by
            have hh := hRS.1
            obtain ⟨a1, a2, a3, a4, a5, a6, a7⟩ := hh
            refine ⟨RI_up a1 (by constructor <;> omega), a2.same (fun _ => rfl) (fun _ => rfl) (fun _ => rfl) rfl rfl, a3, a4, a5, a6, fun p hp => ?_⟩
            have b := a7 p hp
            refine ⟨b.1, b.2.1, fun g hgg => ?_⟩
            have c := b.2.2 g hgg
            refine ⟨c.1, c.2.1, fun z => ?_⟩
            rw [up_app]
            split
            · omega
            · exact c.2.2 z
          have hagA : agY (up S 37 0 q (S 37 0 q + 1)) (lvA P q) := hag.up (by rw [hag 37 0 q (by omega)])
          have hk35 : 0 ≤ (up S 37 0 q (S 37 0 q + 1)) 35 0 (q / 10) ∧ (up S 37 0 q (S 37 0 q + 1)) 35 0 (q / 10) < 10 := hrp.2.1
          refine q_aload_n (t := 24) F dX9_lives_23 rfl rfl rfl ?_
          refine g_X9_35 (t := 27) F dX9_lives_24 rfl rfl ?_
          refine q_iload_n (t := 28) F dX9_lives_27 rfl rfl rfl ?_
          refine q_dup2 (t := 29) F dX9_lives_28 rfl ?_
          first | refine ldN_37 (t := 30) F dX9_lives_29 (by omega) rfl ?_ | refine ld_37 (t := 30) F dX9_lives_29 (by omega) (by omega) rfl ?_
          refine q_iconst (t := 31) F dX9_lives_30 rfl ?_
          refine q_iadd (t := 32) F dX9_lives_31 rfl ?_
          first | refine stN_37 (t := 33) F dX9_lives_32 (by omega) rfl ?_ | refine st_37 (t := 33) F dX9_lives_32 (by omega) (by omega) rfl ?_
          refine q_aload_n (t := 34) F dX9_lives_33 rfl rfl rfl ?_
          refine g_X9_35 (t := 37) F dX9_lives_34 rfl rfl ?_
          refine q_iload_n (t := 38) F dX9_lives_37 rfl rfl rfl ?_
          first | refine ldN_37 (t := 39) F dX9_lives_38 (by omega) rfl ?_ | refine ld_37 (t := 39) F dX9_lives_38 (by omega) (by omega) rfl ?_
          try simp only [up_app, row_app, scr_app, cpy_app, Nat.reduceEqDiff, Int.reduceToNat, Int.toNat_natCast, and_true, true_and, and_false, false_and, and_self, reduceIte]
          refine q_aload_n (t := 40) F dX9_lives_39 rfl rfl rfl ?_
          refine q_iload_n (t := 41) F dX9_lives_40 rfl rfl rfl ?_
          refine wp_callV (t := 44) [_] F dX9_lives_41 k_X9_holdsIn v_X9_holdsIn ml_X9_135 rfl rfl rfl rfl (Nat.le_of_ble_eq_true rfl) (by decide) (m_30 (by omega)) (c_X9_holdsIn _ G (up S 37 0 q (S 37 0 q + 1)) bt rt lg hRC1 q (by show (q : Int) < 10 * S 30 0 12; omega)) rfl (kI ?_)
          rintro x41 m' ⟨im2, lg2, hx41, hR2, hag2, hlg2, rfl⟩
          have hag2 : agY im2 (lvA P q) := hag2.trans hagA
          have hx1 : x41 = hoR (up S 37 0 q (S 37 0 q + 1)) q := hx41
          have hx2 : x41 = hoR (lvA P q) q := hx1.trans (hoR_ag hagA q)
          have hx3 := hoR_in (im := (up S 37 0 q (S 37 0 q + 1))) (q := q) hk35
          rw [← hx1] at hx3
          have hRC2 : RC im2 := hRC1.ag hR2 (fun k i s z => (hag2 k i s z).trans (hagA k i s z).symm)
          have e12b : im2 30 0 12 = im 30 0 12 := by
            rw [hag2 30 0 12 (by omega), ← hagA 30 0 12 (by omega)]
            exact e12
          refine q_icmp_lt (t := 47) (u := 128) F dX9_lives_44 (by constructor <;> omega) (by constructor <;> omega) (by decide) rfl (fun c44 => ?_) (fun c44 => ?_)
          · refine q_iinc (t := 131) F dX9_lives_128 rfl (by decide) rfl rfl ?_
            refine q_goto (t := 2) F dX9_lives_131 (by decide) ?_
            rw [show (q : Int) + 1 = ((q + 1 : Nat) : Int) by omega]
            first
              | (exfalso; omega)
              | (refine ih2 (q + 1) S lg (by omega) ⟨by omega, hR, ?_, hlg⟩
                 rw [hs1]
                 unfold lv1
                 rw [if_pos (by rw [← hag 36 0 q (by omega)]; exact c20)]
                 exact hag)
              | (refine ih2 (q + 1) im2 lg2 (by omega) ⟨by omega, hR2, ?_, hlg2.trans hlg⟩
                 rw [hs1]
                 unfold lv1
                 rw [if_neg (by rw [← hag 36 0 q (by omega)]; exact w36), if_pos (by rw [← hx2, ← hag 37 0 q (by omega)]; omega)]
                 exact hag2)
              | (refine ih2 (q + 1) _ lg3 (by omega) ⟨by omega, ?_, ?_, hlg3.trans (hlg2.trans hlg)⟩
                 · (repeat' first | exact hR3 | refine RI_up ?_ ?_ | exact ri_b _ | assumption | exact hR3 _ _ _ | (constructor <;> omega))
                 · rw [hs1]
                   unfold lv1
                   rw [if_neg (by rw [← hag 36 0 q (by omega)]; exact w36), if_neg (by rw [← hx2, ← hag 37 0 q (by omega)]; omega)]
                   unfold lvC lvF
                   rw [if_pos (by exact z33)]
                   exact (((((hB.up e36).up rfl).up rfl).up e30).up rfl))
              | (refine ih2 (q + 1) _ lg3 (by omega) ⟨by omega, ?_, ?_, hlg3.trans (hlg2.trans hlg)⟩
                 · (repeat' first | exact hR3 | refine RI_up ?_ ?_ | exact ri_b _ | assumption | exact hR3 _ _ _ | (constructor <;> omega))
                 · rw [hs1]
                   unfold lv1
                   rw [if_neg (by rw [← hag 36 0 q (by omega)]; exact w36), if_neg (by rw [← hx2, ← hag 37 0 q (by omega)]; omega)]
                   unfold lvC lvF
                   rw [if_neg (by exact z33)]
                   exact ((hB.up e30).up rfl))
              | omega
          · refine q_aload_n (t := 48) F dX9_lives_47 rfl rfl rfl ?_
            refine g_X9_41 (t := 51) F dX9_lives_48 rfl rfl ?_
            refine q_iload_n (t := 52) F dX9_lives_51 rfl rfl rfl ?_
            refine q_aload_n (t := 53) F dX9_lives_52 rfl rfl rfl ?_
            refine q_iload_n (t := 54) F dX9_lives_53 rfl rfl rfl ?_
            refine wp_callV (t := 57) [_] F dX9_lives_54 k_X9_bearsIn v_X9_bearsIn ml_X9_382 rfl rfl rfl rfl (Nat.le_of_ble_eq_true rfl) (by decide) (m_30 (by omega)) (c_X9_bearsIn _ G im2 bt rt lg2 hRC2 q (by omega)) rfl (kI ?_)
            rintro x54 m' ⟨im3, lg3, hx54, hR3, hag3, hlg3, rfl⟩
            have hx5 : x54 = beR im2 q := hx54
            have hx4 : x54 = beR (lvA P q) q := hx5.trans (beR_ag hag2 q)
            have hx6 := beR_in (im := im2) (q := q) (hRC2.2.2.2.2.2.2 (q / 10) (by omega)).2.1
            rw [← hx5] at hx6
            have hag3 : agY im3 (lvA P q) := hag3.trans hag2
            first | refine stN_39 (t := 58) F dX9_lives_57 (by omega) rfl ?_ | refine st_39 (t := 58) F dX9_lives_57 (by omega) (by omega) rfl ?_
            refine q_aload_n (t := 59) F dX9_lives_58 rfl rfl rfl ?_
            refine g_X9_38 (t := 62) F dX9_lives_59 rfl rfl ?_
            refine q_iload_n (t := 63) F dX9_lives_62 rfl rfl rfl ?_
            refine q_iload_n (t := 64) F dX9_lives_63 rfl rfl rfl ?_
            first | refine stN_38 (t := 65) F dX9_lives_64 (by omega) rfl ?_ | refine st_38 (t := 65) F dX9_lives_64 (by omega) (by omega) rfl ?_
            refine q_aload_n (t := 66) F dX9_lives_65 rfl rfl rfl ?_
            refine q_dupR (t := 67) F dX9_lives_66 rfl ?_
            refine g_X9_385 (t := 70) F dX9_lives_67 rfl rfl ?_
            try simp only [up_app, row_app, scr_app, cpy_app, Nat.reduceEqDiff, Int.reduceToNat, Int.toNat_natCast, and_true, true_and, and_false, false_and, and_self, reduceIte]
            refine q_aload_n (t := 71) F dX9_lives_70 rfl rfl rfl ?_
            refine g_X9_41 (t := 74) F dX9_lives_71 rfl rfl ?_
            refine q_iload_n (t := 75) F dX9_lives_74 rfl rfl rfl ?_
            first | refine ldN_39 (t := 76) F dX9_lives_75 (by omega) rfl ?_ | refine ld_39 (t := 76) F dX9_lives_75 (by omega) (by omega) rfl ?_
            try simp only [up_app, row_app, scr_app, cpy_app, Nat.reduceEqDiff, Int.reduceToNat, Int.toNat_natCast, and_true, true_and, and_false, false_and, and_self, reduceIte]
            refine q_iadd (t := 77) F dX9_lives_76 rfl ?_
            refine q_norm ?_
            refine p_X9_385 (t := 80) F dX9_lives_77 rfl rfl ?_
            refine q_aload_n (t := 81) F dX9_lives_80 rfl rfl rfl ?_
            have hB : agY (up (up (up im3 39 0 q x54) 38 0 q t) 30 0 9 (bm (im3 30 0 9 + x54))) (lvB P t q) := by
              unfold lvB
              exact ((hag3.up hx4).up rfl).up (by rw [hx4, hag3 30 0 9 (by omega)]; rfl)
            have h33 : im3 30 0 33 = lvB P t q 30 0 33 := hag3 30 0 33 (by omega)
            have e30 : bm (im3 30 0 30 + 1) = bm (P 30 0 30 + 1) := by rw [hag3 30 0 30 (by omega)]; rfl
            have e36 : im3 36 0 q = lvB P t q 36 0 q := by
              rw [hag3 36 0 q (by omega)]
              unfold lvB
              rw [up_app, if_neg (by omega), up_app, if_neg (by omega), up_app, if_neg (by omega)]
            refine g_X9_379 (t := 84) F dX9_lives_81 rfl rfl ?_
            try simp only [up_app, row_app, scr_app, cpy_app, Nat.reduceEqDiff, Int.reduceToNat, Int.toNat_natCast, and_true, true_and, and_false, false_and, and_self, reduceIte]
            refine q_iconst (t := 85) F dX9_lives_84 rfl ?_
            refine q_icmp_ne (t := 88) (u := 111) F dX9_lives_85 (by exact hR3 _ _ _) (by constructor <;> omega) (by decide) rfl (fun c85 => ?_) (fun c85 => ?_)
            · try (have z33 : lvB P t q 30 0 33 ≠ -1 := by omega)
              refine q_aload_n (t := 112) F dX9_lives_111 rfl rfl rfl ?_
              refine q_dupR (t := 113) F dX9_lives_112 rfl ?_
              refine g_X9_370 (t := 116) F dX9_lives_113 rfl rfl ?_
              try simp only [up_app, row_app, scr_app, cpy_app, Nat.reduceEqDiff, Int.reduceToNat, Int.toNat_natCast, and_true, true_and, and_false, false_and, and_self, reduceIte]
              refine q_iconst (t := 117) F dX9_lives_116 rfl ?_
              refine q_iadd (t := 118) F dX9_lives_117 rfl ?_
              refine q_norm ?_
              refine p_X9_370 (t := 121) F dX9_lives_118 rfl rfl ?_
              refine q_aload_n (t := 122) F dX9_lives_121 rfl rfl rfl ?_
              refine g_X9_32 (t := 125) F dX9_lives_122 rfl rfl ?_
              refine q_iload_n (t := 126) F dX9_lives_125 rfl rfl rfl ?_
              refine q_iconst (t := 127) F dX9_lives_126 rfl ?_
              first | refine stN_36 (t := 128) F dX9_lives_127 (by omega) rfl ?_ | refine st_36 (t := 128) F dX9_lives_127 (by omega) (by omega) rfl ?_
              refine q_iinc (t := 131) F dX9_lives_128 rfl (by decide) rfl rfl ?_
              refine q_goto (t := 2) F dX9_lives_131 (by decide) ?_
              rw [show (q : Int) + 1 = ((q + 1 : Nat) : Int) by omega]
              first
                | (exfalso; omega)
                | (refine ih2 (q + 1) S lg (by omega) ⟨by omega, hR, ?_, hlg⟩
                   rw [hs1]
                   unfold lv1
                   rw [if_pos (by rw [← hag 36 0 q (by omega)]; exact c20)]
                   exact hag)
                | (refine ih2 (q + 1) im2 lg2 (by omega) ⟨by omega, hR2, ?_, hlg2.trans hlg⟩
                   rw [hs1]
                   unfold lv1
                   rw [if_neg (by rw [← hag 36 0 q (by omega)]; exact w36), if_pos (by rw [← hx2, ← hag 37 0 q (by omega)]; omega)]
                   exact hag2)
                | (refine ih2 (q + 1) _ lg3 (by omega) ⟨by omega, ?_, ?_, hlg3.trans (hlg2.trans hlg)⟩
                   · (repeat' first | exact hR3 | refine RI_up ?_ ?_ | exact ri_b _ | assumption | exact hR3 _ _ _ | (constructor <;> omega))
                   · rw [hs1]
                     unfold lv1
                     rw [if_neg (by rw [← hag 36 0 q (by omega)]; exact w36), if_neg (by rw [← hx2, ← hag 37 0 q (by omega)]; omega)]
                     unfold lvC lvF
                     rw [if_pos (by exact z33)]
                     exact (((((hB.up e36).up rfl).up rfl).up e30).up rfl))
                | (refine ih2 (q + 1) _ lg3 (by omega) ⟨by omega, ?_, ?_, hlg3.trans (hlg2.trans hlg)⟩
                   · (repeat' first | exact hR3 | refine RI_up ?_ ?_ | exact ri_b _ | assumption | exact hR3 _ _ _ | (constructor <;> omega))
                   · rw [hs1]
                     unfold lv1
                     rw [if_neg (by rw [← hag 36 0 q (by omega)]; exact w36), if_neg (by rw [← hx2, ← hag 37 0 q (by omega)]; omega)]
                     unfold lvC lvF
                     rw [if_neg (by exact z33)]
                     exact ((hB.up e30).up rfl))
                | omega
            · have z33 : lvB P t q 30 0 33 = -1 := by omega
              refine q_aload_n (t := 89) F dX9_lives_88 rfl rfl rfl ?_
              refine q_aload_n (t := 90) F dX9_lives_89 rfl rfl rfl ?_
              refine g_X9_32 (t := 93) F dX9_lives_90 rfl rfl ?_
              refine q_iload_n (t := 94) F dX9_lives_93 rfl rfl rfl ?_
              first | refine ldN_36 (t := 95) F dX9_lives_94 (by omega) rfl ?_ | refine ld_36 (t := 95) F dX9_lives_94 (by omega) (by omega) rfl ?_
              try simp only [up_app, row_app, scr_app, cpy_app, Nat.reduceEqDiff, Int.reduceToNat, Int.toNat_natCast, and_true, true_and, and_false, false_and, and_self, reduceIte]
              refine p_X9_373 (t := 98) F dX9_lives_95 rfl rfl ?_
              refine q_aload_n (t := 99) F dX9_lives_98 rfl rfl rfl ?_
              refine q_iload_n (t := 100) F dX9_lives_99 rfl rfl rfl ?_
              refine q_bipush (t := 102) F dX9_lives_100 (by decide) rfl ?_
              refine q_idiv (t := 103) F dX9_lives_102 (by first | exact hR _ _ _ | (constructor <;> omega)) (by first | exact hR _ _ _ | (constructor <;> omega)) (by omega) (by omega) rfl ?_
              rw [show (q : Int) / 10 = ((q / 10 : Nat) : Int) by omega]
              refine p_X9_376 (t := 106) F dX9_lives_103 rfl rfl ?_
              refine q_aload_n (t := 107) F dX9_lives_106 rfl rfl rfl ?_
              refine q_iload_n (t := 108) F dX9_lives_107 rfl rfl rfl ?_
              refine p_X9_379 (t := 111) F dX9_lives_108 rfl rfl ?_
              try (have z33 : lvB P t q 30 0 33 ≠ -1 := by omega)
              refine q_aload_n (t := 112) F dX9_lives_111 rfl rfl rfl ?_
              refine q_dupR (t := 113) F dX9_lives_112 rfl ?_
              refine g_X9_370 (t := 116) F dX9_lives_113 rfl rfl ?_
              try simp only [up_app, row_app, scr_app, cpy_app, Nat.reduceEqDiff, Int.reduceToNat, Int.toNat_natCast, and_true, true_and, and_false, false_and, and_self, reduceIte]
              refine q_iconst (t := 117) F dX9_lives_116 rfl ?_
              refine q_iadd (t := 118) F dX9_lives_117 rfl ?_
              refine q_norm ?_
              refine p_X9_370 (t := 121) F dX9_lives_118 rfl rfl ?_
              refine q_aload_n (t := 122) F dX9_lives_121 rfl rfl rfl ?_
              refine g_X9_32 (t := 125) F dX9_lives_122 rfl rfl ?_
              refine q_iload_n (t := 126) F dX9_lives_125 rfl rfl rfl ?_
              refine q_iconst (t := 127) F dX9_lives_126 rfl ?_
              first | refine stN_36 (t := 128) F dX9_lives_127 (by omega) rfl ?_ | refine st_36 (t := 128) F dX9_lives_127 (by omega) (by omega) rfl ?_
              refine q_iinc (t := 131) F dX9_lives_128 rfl (by decide) rfl rfl ?_
              refine q_goto (t := 2) F dX9_lives_131 (by decide) ?_
              rw [show (q : Int) + 1 = ((q + 1 : Nat) : Int) by omega]
              first
                | (exfalso; omega)
                | (refine ih2 (q + 1) S lg (by omega) ⟨by omega, hR, ?_, hlg⟩
                   rw [hs1]
                   unfold lv1
                   rw [if_pos (by rw [← hag 36 0 q (by omega)]; exact c20)]
                   exact hag)
                | (refine ih2 (q + 1) im2 lg2 (by omega) ⟨by omega, hR2, ?_, hlg2.trans hlg⟩
                   rw [hs1]
                   unfold lv1
                   rw [if_neg (by rw [← hag 36 0 q (by omega)]; exact w36), if_pos (by rw [← hx2, ← hag 37 0 q (by omega)]; omega)]
                   exact hag2)
                | (refine ih2 (q + 1) _ lg3 (by omega) ⟨by omega, ?_, ?_, hlg3.trans (hlg2.trans hlg)⟩
                   · (repeat' first | exact hR3 | refine RI_up ?_ ?_ | exact ri_b _ | assumption | exact hR3 _ _ _ | (constructor <;> omega))
                   · rw [hs1]
                     unfold lv1
                     rw [if_neg (by rw [← hag 36 0 q (by omega)]; exact w36), if_neg (by rw [← hx2, ← hag 37 0 q (by omega)]; omega)]
                     unfold lvC lvF
                     rw [if_pos (by exact z33)]
                     exact (((((hB.up e36).up rfl).up rfl).up e30).up rfl))
                | (refine ih2 (q + 1) _ lg3 (by omega) ⟨by omega, ?_, ?_, hlg3.trans (hlg2.trans hlg)⟩
                   · (repeat' first | exact hR3 | refine RI_up ?_ ?_ | exact ri_b _ | assumption | exact hR3 _ _ _ | (constructor <;> omega))
                   · rw [hs1]
                     unfold lv1
                     rw [if_neg (by rw [← hag 36 0 q (by omega)]; exact w36), if_neg (by rw [← hx2, ← hag 37 0 q (by omega)]; omega)]
                     unfold lvC lvF
                     rw [if_neg (by exact z33)]
                     exact ((hB.up e30).up rfl))
                | omega
  have L0 := L2 _ 0 im lm (Nat.lt_succ_self _) ⟨by omega, hRi, agY_rfl im, lgQ_rfl lm⟩
  exact L0
end
section
/-! the reference: it begins, all is laid aside and back; live -/

/-- two rows laid over by two others -/
def cp2 (im : IM) (a b c d n : Nat) : IM := fun k i s => if k = a ∧ i = 0 ∧ s < n then im b 0 s else if k = c ∧ i = 0 ∧ s < n then im d 0 s else im k i s
theorem cp2_app (im : IM) (a b c d n k i s : Nat) : cp2 im a b c d n k i s = if k = a ∧ i = 0 ∧ s < n then im b 0 s else if k = c ∧ i = 0 ∧ s < n then im d 0 s else im k i s := rfl
theorem cp2_0 (im : IM) (a b c d : Nat) : cp2 im a b c d 0 = im := by
  funext k i s
  rw [cp2_app, if_neg (by omega), if_neg (by omega)]
theorem cp2_s (im : IM) {a b c d : Nat} (n : Nat) (h : a ≠ c) : up (up (cp2 im a b c d n) a 0 n (im b 0 n)) c 0 n (im d 0 n) = cp2 im a b c d (n + 1) := by
  funext k i s
  rw [up_app, up_app, cp2_app, cp2_app]
  by_cases hs : s = n
  · subst hs
    by_cases hi : i = 0
    · subst hi
      by_cases hc : k = c
      · subst hc
        rw [if_pos ⟨rfl, rfl, rfl⟩, if_neg (by omega), if_pos ⟨rfl, rfl, by omega⟩]
      · by_cases ha : k = a
        · subst ha
          rw [if_neg (by omega), if_pos ⟨rfl, rfl, rfl⟩, if_pos ⟨rfl, rfl, by omega⟩]
        · rw [if_neg (by omega), if_neg (by omega), if_neg (by omega), if_neg (by omega), if_neg (by omega), if_neg (by omega)]
    · rw [if_neg (by omega), if_neg (by omega), if_neg (by omega), if_neg (by omega), if_neg (by omega), if_neg (by omega)]
  · rw [if_neg (by omega), if_neg (by omega)]
    have e : (s < n + 1) = (s < n) := propext ⟨fun z => by omega, fun z => by omega⟩
    simp only [e]
theorem cp2_RI {im : IM} (h : RI im) (a b c d n : Nat) : RI (cp2 im a b c d n) := by
  intro k i s
  rw [cp2_app]
  (repeat' split) <;> exact h _ _ _
def bgI (im : IM) (n : Nat) : IM := fun k i s => if k = 38 ∧ i = 0 ∧ s < n then -1 else if k = 39 ∧ i = 0 ∧ s < n then 0 else if k = 30 ∧ i = 0 ∧ s = 30 then 0 else if k = 30 ∧ i = 0 ∧ (31 ≤ s ∧ s ≤ 33) then -1 else im k i s
theorem bgI_app (im : IM) (n k i s : Nat) : bgI im n k i s = if k = 38 ∧ i = 0 ∧ s < n then -1 else if k = 39 ∧ i = 0 ∧ s < n then 0 else if k = 30 ∧ i = 0 ∧ s = 30 then 0 else if k = 30 ∧ i = 0 ∧ (31 ≤ s ∧ s ≤ 33) then -1 else im k i s := rfl
theorem bgI_0 (im : IM) : up (up (up (up im 30 0 30 0) 30 0 31 (-1)) 30 0 32 (-1)) 30 0 33 (-1) = bgI im 0 := by
  funext k i s
  rw [up_app, up_app, up_app, up_app, bgI_app, if_neg (show ¬ (k = 38 ∧ i = 0 ∧ s < 0) by omega), if_neg (show ¬ (k = 39 ∧ i = 0 ∧ s < 0) by omega)]
  by_cases h : k = 30 ∧ i = 0 ∧ 30 ≤ s ∧ s ≤ 33
  · obtain ⟨rfl, rfl, h1, h2⟩ := h
    rcases (show s = 30 ∨ s = 31 ∨ s = 32 ∨ s = 33 by omega) with rfl | rfl | rfl | rfl <;> rfl
  · rw [if_neg (by omega), if_neg (by omega), if_neg (by omega), if_neg (by omega), if_neg (by omega), if_neg (by omega)]
theorem bgI_s (im : IM) (n : Nat) : up (up (bgI im n) 38 0 n (-1)) 39 0 n 0 = bgI im (n + 1) := by
  funext k i s
  rw [up_app, up_app, bgI_app, bgI_app]
  by_cases hs : s = n
  · subst hs
    by_cases hc : k = 39 ∧ i = 0
    · obtain ⟨rfl, rfl⟩ := hc
      rw [if_pos ⟨rfl, rfl, rfl⟩, if_neg (by omega), if_pos ⟨rfl, rfl, by omega⟩]
    · by_cases ha : k = 38 ∧ i = 0
      · obtain ⟨rfl, rfl⟩ := ha
        rw [if_neg (by omega), if_pos ⟨rfl, rfl, rfl⟩, if_pos ⟨rfl, rfl, by omega⟩]
      · rw [if_neg (by omega), if_neg (by omega), if_neg (show ¬ (k = 38 ∧ i = 0 ∧ s < s) by omega), if_neg (show ¬ (k = 39 ∧ i = 0 ∧ s < s) by omega), if_neg (show ¬ (k = 38 ∧ i = 0 ∧ s < s + 1) by omega), if_neg (show ¬ (k = 39 ∧ i = 0 ∧ s < s + 1) by omega)]
  · rw [if_neg (by omega), if_neg (by omega)]
    have e : (s < n + 1) = (s < n) := propext ⟨fun z => by omega, fun z => by omega⟩
    simp only [e]
theorem bgI_RI {im : IM} (h : RI im) (n : Nat) : RI (bgI im n) := by
  intro k i s
  rw [bgI_app]
  (repeat' split) <;> first | exact h _ _ _ | (constructor <;> omega)
theorem bgI_c {im : IM} (n : Nat) {k i s : Nat} (h : ¬ (k = 38 ∨ k = 39)) (h2 : ¬ (k = 30 ∧ 30 ≤ s ∧ s ≤ 33)) : bgI im n k i s = im k i s := by
  rw [bgI_app, if_neg (by omega), if_neg (by omega), if_neg (by omega), if_neg (by omega)]

set_option maxHeartbeats 4000000 in
theorem g_X9_begins (l : Launch) (G : GS) (im : IM) (bt rt : Nat) (lm : IM) (hR : RI im) : Cn l (XR G) yX9_begins Y_X9_begins [vR 30 0] (im, rs bt rt, lm) (pV fun m' => m' = (bgI im 50, rs bt rt, lm)) := by
  refine cn_of (by decide) (okR G) rfl (Nat.le_of_ble_eq_true rfl) ?_
  intro M ad hMl F
  subst hMl
  refine wp_pad 1 ?_
  show Wp M (XR G) ad Y_X9_begins (pV fun m' => m' = (bgI im 50, rs bt rt, lm)) 0 [some (vR 30 0), none] [] (im, rs bt rt, lm)
  refine q_aload_n (t := 1) F dX9_begins_0 rfl rfl rfl ?_
  refine q_iconst (t := 2) F dX9_begins_1 rfl ?_
  refine p_X9_370 (t := 5) F dX9_begins_2 rfl rfl ?_
  refine q_aload_n (t := 6) F dX9_begins_5 rfl rfl rfl ?_
  refine q_iconst (t := 7) F dX9_begins_6 rfl ?_
  refine p_X9_373 (t := 10) F dX9_begins_7 rfl rfl ?_
  refine q_aload_n (t := 11) F dX9_begins_10 rfl rfl rfl ?_
  refine q_iconst (t := 12) F dX9_begins_11 rfl ?_
  refine p_X9_376 (t := 15) F dX9_begins_12 rfl rfl ?_
  refine q_aload_n (t := 16) F dX9_begins_15 rfl rfl rfl ?_
  refine q_iconst (t := 17) F dX9_begins_16 rfl ?_
  refine p_X9_379 (t := 20) F dX9_begins_17 rfl rfl ?_
  refine q_iconst (t := 21) F dX9_begins_20 rfl ?_
  refine q_istore_n (t := 22) F dX9_begins_21 rfl (by decide) rfl rfl ?_
  have L22 : ∀ (fz : Nat) (n : Nat), 50 - n < fz → n ≤ 50 → Wp M (XR G) ad Y_X9_begins (pV fun m' => m' = (bgI im 50, rs bt rt, lm)) 22 [some (vR 30 0), some (vI (n : Int))] [] (bgI im n, rs bt rt, lm) := by
    intro fz
    induction fz with
    | zero => intro n h; exact absurd h (Nat.not_lt_zero _)
    | succ fz ih =>
      have ih22 := ih
      intro n hmeas hn
      refine q_iload_n (t := 23) F dX9_begins_22 rfl rfl rfl ?_
      refine q_bipush (t := 25) F dX9_begins_23 (by decide) rfl ?_
      refine q_icmp_ge (t := 28) (u := 48) F dX9_begins_25 (by constructor <;> omega) (by constructor <;> omega) (by decide) rfl (fun c25 => ?_) (fun c25 => ?_)
      · refine q_vret F dX9_begins_48 rfl ?_
        obtain rfl : n = 50 := by omega
        exact ⟨rfl, rfl⟩
      · refine q_aload_n (t := 29) F dX9_begins_28 rfl rfl rfl ?_
        refine g_X9_38 (t := 32) F dX9_begins_29 rfl rfl ?_
        refine q_iload_n (t := 33) F dX9_begins_32 rfl rfl rfl ?_
        refine q_iconst (t := 34) F dX9_begins_33 rfl ?_
        first | refine stN_38 (t := 35) F dX9_begins_34 (by omega) rfl ?_ | refine st_38 (t := 35) F dX9_begins_34 (by omega) (by omega) rfl ?_
        refine q_aload_n (t := 36) F dX9_begins_35 rfl rfl rfl ?_
        refine g_X9_41 (t := 39) F dX9_begins_36 rfl rfl ?_
        refine q_iload_n (t := 40) F dX9_begins_39 rfl rfl rfl ?_
        refine q_iconst (t := 41) F dX9_begins_40 rfl ?_
        first | refine stN_39 (t := 42) F dX9_begins_41 (by omega) rfl ?_ | refine st_39 (t := 42) F dX9_begins_41 (by omega) (by omega) rfl ?_
        refine q_iinc (t := 45) F dX9_begins_42 rfl (by decide) rfl rfl ?_
        refine q_goto (t := 22) F dX9_begins_45 (by decide) ?_
        rw [show (n : Int) + 1 = ((n + 1 : Nat) : Int) by omega, bgI_s]
        exact ih22 (n + 1) (by omega) (by omega)
  have L0 := L22 _ 0 (Nat.lt_succ_self _) (Nat.zero_le _)
  rw [← bgI_0] at L0
  exact L0

def asideI (im : IM) : IM := (bgI (up (up (cp2 im 40 36 41 37 50) 30 0 38 (im 30 0 7)) 30 0 39 (im 30 0 9)) 50)
set_option maxHeartbeats 4000000 in
theorem g_X9_laysAside (l : Launch) (G : GS) (im : IM) (bt rt : Nat) (lm : IM) (hR : RI im) : Cn l (XR G) yX9_laysAside Y_X9_laysAside [vR 30 0] (im, rs bt rt, lm) (pV fun m' => m' = (asideI im, rs bt rt, lm)) := by
  refine cn_of (by decide) (okR G) rfl (Nat.le_of_ble_eq_true rfl) ?_
  intro M ad hMl F
  subst hMl
  refine wp_pad 1 ?_
  show Wp M (XR G) ad Y_X9_laysAside (pV fun m' => m' = (asideI im, rs bt rt, lm)) 0 [some (vR 30 0), none] [] (im, rs bt rt, lm)
  refine q_iconst (t := 1) F dX9_laysAside_0 rfl ?_
  refine q_istore_n (t := 2) F dX9_laysAside_1 rfl (by decide) rfl rfl ?_
  have L2 : ∀ (fz : Nat) (n : Nat), 50 - n < fz → n ≤ 50 → Wp M (XR G) ad Y_X9_laysAside (pV fun m' => m' = (asideI im, rs bt rt, lm)) 2 [some (vR 30 0), some (vI (n : Int))] [] (cp2 im 40 36 41 37 n, rs bt rt, lm) := by
    intro fz
    induction fz with
    | zero => intro n h; exact absurd h (Nat.not_lt_zero _)
    | succ fz ih =>
      have ih2 := ih
      intro n hmeas hn
      have c36 : cp2 im 40 36 41 37 n 36 0 n = im 36 0 n := rfl
      have c37 : cp2 im 40 36 41 37 n 37 0 n = im 37 0 n := rfl
      have c7 : cp2 im 40 36 41 37 n 30 0 7 = im 30 0 7 := rfl
      have c9 : cp2 im 40 36 41 37 n 30 0 9 = im 30 0 9 := rfl
      refine q_iload_n (t := 3) F dX9_laysAside_2 rfl rfl rfl ?_
      refine q_bipush (t := 5) F dX9_laysAside_3 (by decide) rfl ?_
      refine q_icmp_ge (t := 8) (u := 38) F dX9_laysAside_5 (by constructor <;> omega) (by constructor <;> omega) (by decide) rfl (fun c5 => ?_) (fun c5 => ?_)
      · refine q_aload_n (t := 39) F dX9_laysAside_38 rfl rfl rfl ?_
        refine q_aload_n (t := 40) F dX9_laysAside_39 rfl rfl rfl ?_
        refine g_X9_117 (t := 43) F dX9_laysAside_40 rfl rfl ?_
        rw [c7]
        refine p_X9_395 (t := 46) F dX9_laysAside_43 rfl rfl ?_
        refine q_aload_n (t := 47) F dX9_laysAside_46 rfl rfl rfl ?_
        refine q_aload_n (t := 48) F dX9_laysAside_47 rfl rfl rfl ?_
        refine g_X9_385 (t := 51) F dX9_laysAside_48 rfl rfl ?_
        try simp only [up_app, row_app, scr_app, cpy_app, Nat.reduceEqDiff, Int.reduceToNat, Int.toNat_natCast, and_true, true_and, and_false, false_and, and_self, reduceIte]
        rw [c9]
        refine p_X9_398 (t := 54) F dX9_laysAside_51 rfl rfl ?_
        refine q_aload_n (t := 55) F dX9_laysAside_54 rfl rfl rfl ?_
        refine wp_callV (t := 58) [] F dX9_laysAside_55 k_X9_begins v_X9_begins ml_X9_388 rfl rfl rfl rfl (Nat.le_of_ble_eq_true rfl) (by decide) (m_30 (by omega)) (g_X9_begins _ G _ bt rt lm (RI_up (RI_up (cp2_RI hR 40 36 41 37 n) (hR 30 0 7)) (hR 30 0 9))) rfl (kV ?_)
        rintro m' rfl
        refine q_vret F dX9_laysAside_58 rfl ?_
        obtain rfl : n = 50 := by omega
        exact ⟨rfl, rfl⟩
      · refine q_aload_n (t := 9) F dX9_laysAside_8 rfl rfl rfl ?_
        refine g_X9_44 (t := 12) F dX9_laysAside_9 rfl rfl ?_
        refine q_iload_n (t := 13) F dX9_laysAside_12 rfl rfl rfl ?_
        refine q_aload_n (t := 14) F dX9_laysAside_13 rfl rfl rfl ?_
        refine g_X9_32 (t := 17) F dX9_laysAside_14 rfl rfl ?_
        refine q_iload_n (t := 18) F dX9_laysAside_17 rfl rfl rfl ?_
        first | refine ldN_36 (t := 19) F dX9_laysAside_18 (by omega) rfl ?_ | refine ld_36 (t := 19) F dX9_laysAside_18 (by omega) (by omega) rfl ?_
        rw [c36]
        first | refine stN_40 (t := 20) F dX9_laysAside_19 (by omega) rfl ?_ | refine st_40 (t := 20) F dX9_laysAside_19 (by omega) (by omega) rfl ?_
        refine q_aload_n (t := 21) F dX9_laysAside_20 rfl rfl rfl ?_
        refine g_X9_47 (t := 24) F dX9_laysAside_21 rfl rfl ?_
        refine q_iload_n (t := 25) F dX9_laysAside_24 rfl rfl rfl ?_
        refine q_aload_n (t := 26) F dX9_laysAside_25 rfl rfl rfl ?_
        refine g_X9_35 (t := 29) F dX9_laysAside_26 rfl rfl ?_
        refine q_iload_n (t := 30) F dX9_laysAside_29 rfl rfl rfl ?_
        first | refine ldN_37 (t := 31) F dX9_laysAside_30 (by omega) rfl ?_ | refine ld_37 (t := 31) F dX9_laysAside_30 (by omega) (by omega) rfl ?_
        try simp only [up_app, row_app, scr_app, cpy_app, Nat.reduceEqDiff, Int.reduceToNat, Int.toNat_natCast, and_true, true_and, and_false, false_and, and_self, reduceIte]
        rw [c37]
        first | refine stN_41 (t := 32) F dX9_laysAside_31 (by omega) rfl ?_ | refine st_41 (t := 32) F dX9_laysAside_31 (by omega) (by omega) rfl ?_
        refine q_iinc (t := 35) F dX9_laysAside_32 rfl (by decide) rfl rfl ?_
        refine q_goto (t := 2) F dX9_laysAside_35 (by decide) ?_
        rw [show (n : Int) + 1 = ((n + 1 : Nat) : Int) by omega, cp2_s im n (by omega)]
        exact ih2 (n + 1) (by omega) (by omega)
  have L0 := L2 _ 0 (Nat.lt_succ_self _) (Nat.zero_le _)
  rw [cp2_0] at L0
  exact L0

def backI (im : IM) : IM := up (up (up (cp2 im 36 40 37 41 50) 30 0 40 (bm (im 30 0 9 - im 30 0 39))) 30 0 7 (im 30 0 38)) 30 0 9 (im 30 0 39)
set_option maxHeartbeats 4000000 in
theorem g_X9_laysBack (l : Launch) (G : GS) (im : IM) (bt rt : Nat) (lm : IM) (hR : RI im) : Cn l (XR G) yX9_laysBack Y_X9_laysBack [vR 30 0] (im, rs bt rt, lm) (pV fun m' => m' = (backI im, rs bt rt, lm)) := by
  refine cn_of (by decide) (okR G) rfl (Nat.le_of_ble_eq_true rfl) ?_
  intro M ad hMl F
  subst hMl
  refine wp_pad 1 ?_
  show Wp M (XR G) ad Y_X9_laysBack (pV fun m' => m' = (backI im, rs bt rt, lm)) 0 [some (vR 30 0), none] [] (im, rs bt rt, lm)
  refine q_iconst (t := 1) F dX9_laysBack_0 rfl ?_
  refine q_istore_n (t := 2) F dX9_laysBack_1 rfl (by decide) rfl rfl ?_
  have L2 : ∀ (fz : Nat) (n : Nat), 50 - n < fz → n ≤ 50 → Wp M (XR G) ad Y_X9_laysBack (pV fun m' => m' = (backI im, rs bt rt, lm)) 2 [some (vR 30 0), some (vI (n : Int))] [] (cp2 im 36 40 37 41 n, rs bt rt, lm) := by
    intro fz
    induction fz with
    | zero => intro n h; exact absurd h (Nat.not_lt_zero _)
    | succ fz ih =>
      have ih2 := ih
      intro n hmeas hn
      have c40 : cp2 im 36 40 37 41 n 40 0 n = im 40 0 n := rfl
      have c41 : cp2 im 36 40 37 41 n 41 0 n = im 41 0 n := rfl
      have c9 : cp2 im 36 40 37 41 n 30 0 9 = im 30 0 9 := rfl
      have c39 : cp2 im 36 40 37 41 n 30 0 39 = im 30 0 39 := rfl
      have c38 : cp2 im 36 40 37 41 n 30 0 38 = im 30 0 38 := rfl
      refine q_iload_n (t := 3) F dX9_laysBack_2 rfl rfl rfl ?_
      refine q_bipush (t := 5) F dX9_laysBack_3 (by decide) rfl ?_
      refine q_icmp_ge (t := 8) (u := 38) F dX9_laysBack_5 (by constructor <;> omega) (by constructor <;> omega) (by decide) rfl (fun c5 => ?_) (fun c5 => ?_)
      · refine q_aload_n (t := 39) F dX9_laysBack_38 rfl rfl rfl ?_
        refine q_aload_n (t := 40) F dX9_laysBack_39 rfl rfl rfl ?_
        refine g_X9_385 (t := 43) F dX9_laysBack_40 rfl rfl ?_
        rw [c9]
        refine q_aload_n (t := 44) F dX9_laysBack_43 rfl rfl rfl ?_
        refine g_X9_398 (t := 47) F dX9_laysBack_44 rfl rfl ?_
        rw [c39]
        refine q_isub (t := 48) F dX9_laysBack_47 rfl ?_
        refine q_norm ?_
        refine p_X9_401 (t := 51) F dX9_laysBack_48 rfl rfl ?_
        refine q_aload_n (t := 52) F dX9_laysBack_51 rfl rfl rfl ?_
        refine q_aload_n (t := 53) F dX9_laysBack_52 rfl rfl rfl ?_
        refine g_X9_395 (t := 56) F dX9_laysBack_53 rfl rfl ?_
        try simp only [up_app, row_app, scr_app, cpy_app, Nat.reduceEqDiff, Int.reduceToNat, Int.toNat_natCast, and_true, true_and, and_false, false_and, and_self, reduceIte]
        rw [c38]
        refine p_X9_117 (t := 59) F dX9_laysBack_56 rfl rfl ?_
        refine q_aload_n (t := 60) F dX9_laysBack_59 rfl rfl rfl ?_
        refine q_aload_n (t := 61) F dX9_laysBack_60 rfl rfl rfl ?_
        refine g_X9_398 (t := 64) F dX9_laysBack_61 rfl rfl ?_
        try simp only [up_app, row_app, scr_app, cpy_app, Nat.reduceEqDiff, Int.reduceToNat, Int.toNat_natCast, and_true, true_and, and_false, false_and, and_self, reduceIte]
        rw [c39]
        refine p_X9_385 (t := 67) F dX9_laysBack_64 rfl rfl ?_
        refine q_vret F dX9_laysBack_67 rfl ?_
        obtain rfl : n = 50 := by omega
        exact ⟨rfl, rfl⟩
      · refine q_aload_n (t := 9) F dX9_laysBack_8 rfl rfl rfl ?_
        refine g_X9_32 (t := 12) F dX9_laysBack_9 rfl rfl ?_
        refine q_iload_n (t := 13) F dX9_laysBack_12 rfl rfl rfl ?_
        refine q_aload_n (t := 14) F dX9_laysBack_13 rfl rfl rfl ?_
        refine g_X9_44 (t := 17) F dX9_laysBack_14 rfl rfl ?_
        refine q_iload_n (t := 18) F dX9_laysBack_17 rfl rfl rfl ?_
        first | refine ldN_40 (t := 19) F dX9_laysBack_18 (by omega) rfl ?_ | refine ld_40 (t := 19) F dX9_laysBack_18 (by omega) (by omega) rfl ?_
        rw [c40]
        first | refine stN_36 (t := 20) F dX9_laysBack_19 (by omega) rfl ?_ | refine st_36 (t := 20) F dX9_laysBack_19 (by omega) (by omega) rfl ?_
        refine q_aload_n (t := 21) F dX9_laysBack_20 rfl rfl rfl ?_
        refine g_X9_35 (t := 24) F dX9_laysBack_21 rfl rfl ?_
        refine q_iload_n (t := 25) F dX9_laysBack_24 rfl rfl rfl ?_
        refine q_aload_n (t := 26) F dX9_laysBack_25 rfl rfl rfl ?_
        refine g_X9_47 (t := 29) F dX9_laysBack_26 rfl rfl ?_
        refine q_iload_n (t := 30) F dX9_laysBack_29 rfl rfl rfl ?_
        first | refine ldN_41 (t := 31) F dX9_laysBack_30 (by omega) rfl ?_ | refine ld_41 (t := 31) F dX9_laysBack_30 (by omega) (by omega) rfl ?_
        try simp only [up_app, row_app, scr_app, cpy_app, Nat.reduceEqDiff, Int.reduceToNat, Int.toNat_natCast, and_true, true_and, and_false, false_and, and_self, reduceIte]
        rw [c41]
        first | refine stN_37 (t := 32) F dX9_laysBack_31 (by omega) rfl ?_ | refine st_37 (t := 32) F dX9_laysBack_31 (by omega) (by omega) rfl ?_
        refine q_iinc (t := 35) F dX9_laysBack_32 rfl (by decide) rfl rfl ?_
        refine q_goto (t := 2) F dX9_laysBack_35 (by decide) ?_
        rw [show (n : Int) + 1 = ((n + 1 : Nat) : Int) by omega, cp2_s im n (by omega)]
        exact ih2 (n + 1) (by omega) (by omega)
  have L0 := L2 _ 0 (Nat.lt_succ_self _) (Nat.zero_le _)
  rw [cp2_0] at L0
  exact L0

/-- what RC looks at -/
def agC (a b : IM) : Prop := (∀ k s, 31 ≤ k → k ≤ 37 → a k 0 s = b k 0 s) ∧ a 30 0 3 = b 30 0 3 ∧ a 30 0 4 = b 30 0 4 ∧ a 30 0 6 = b 30 0 6 ∧ a 30 0 8 = b 30 0 8 ∧ a 30 0 12 = b 30 0 12
theorem RC.C {a b : IM} (h : RC b) (hR : RI a) (hc : agC a b) (h7 : 0 ≤ a 30 0 7 ∧ a 30 0 7 ≤ 1100) : RC a := by
  obtain ⟨-, hX, h4, h12, -, h8, hP⟩ := h
  obtain ⟨c, e3, e4, e6, e8, e12⟩ := hc
  refine ⟨hR, hX.same (fun s => c 31 s (by omega) (by omega)) (fun s => c 32 s (by omega) (by omega)) (fun s => c 33 s (by omega) (by omega)) e3 e6, by rw [e4, e3]; exact h4, by rw [e12]; exact h12, h7, by rw [e8]; exact h8, fun p hp => ?_⟩
  rw [e12] at hp
  have hp0 := hP p hp
  unfold RP at hp0 ⊢
  rw [c 34 p (by omega) (by omega), c 35 p (by omega) (by omega)]
  refine ⟨hp0.1, hp0.2.1, fun g hg => ?_⟩
  rw [c 36 _ (by omega) (by omega), c 37 _ (by omega) (by omega)]
  exact hp0.2.2 g hg
theorem AG.C {a b : IM} {x : Int} (h : AG b x) (hc : agC a b) : AG a x := by
  intro q hq hne
  obtain ⟨c, e3, e4, e6, e8, e12⟩ := hc
  rw [e12] at hq
  rw [c 36 _ (by omega) (by omega)] at hne
  rw [c 37 _ (by omega) (by omega)]
  exact h q hq hne
theorem bgI_C (im : IM) (n : Nat) : agC (bgI im n) im := ⟨fun k s h1 h2 => bgI_c n (by omega) (by omega), bgI_c n (by omega) (by omega), bgI_c n (by omega) (by omega), bgI_c n (by omega) (by omega), bgI_c n (by omega) (by omega), bgI_c n (by omega) (by omega)⟩
theorem AG.mono {im : IM} {x y : Int} (h : AG im x) (hxy : x ≤ y) : AG im y := fun q hq hn => Int.le_trans (h q hq hn) hxy

set_option maxHeartbeats 4000000 in
theorem c_X9_live (l : Launch) (G : GS) (im : IM) (bt rt : Nat) (lm : IM) (h : RC im) (hA : AG im 1000) : Cn l (XR G) yX9_live Y_X9_live [vR 30 0] (im, rs bt rt, lm) (pI fun x m' => (im 30 0 7 = 999 → x = -3 ∧ m' = (im, rs bt rt, lm)) ∧ (im 30 0 7 ≠ 999 → ∃ im' lm', x = cnI (bgI im 50) (10 * im 30 0 12).toNat ∧ RI im' ∧ agY im' (up (lvN (bgI im 50) 0 (10 * im 30 0 12).toNat) 30 0 7 (im 30 0 7 + 1)) ∧ lgQ lm' lm ∧ m' = (im', rs bt rt, lm'))) := by
  refine cn_of (by decide) (okR G) rfl (Nat.le_of_ble_eq_true rfl) ?_
  intro M ad hMl F
  subst hMl
  have hR := h.1
  have hRb := bgI_RI hR 50
  have hRCb : RC (bgI im 50) := h.C hRb (bgI_C im 50) h.2.2.2.2.1
  have hAb : AG (bgI im 50) 1000 := hA.C (bgI_C im 50)
  have b12 : bgI im 50 30 0 12 = im 30 0 12 := rfl
  have b7 : bgI im 50 30 0 7 = im 30 0 7 := rfl
  refine wp_pad 0 ?_
  show Wp M (XR G) ad Y_X9_live (pI fun x m' => (im 30 0 7 = 999 → x = -3 ∧ m' = (im, rs bt rt, lm)) ∧ (im 30 0 7 ≠ 999 → ∃ im' lm', x = cnI (bgI im 50) (10 * im 30 0 12).toNat ∧ RI im' ∧ agY im' (up (lvN (bgI im 50) 0 (10 * im 30 0 12).toNat) 30 0 7 (im 30 0 7 + 1)) ∧ lgQ lm' lm ∧ m' = (im', rs bt rt, lm'))) 0 [some (vR 30 0)] [] (im, rs bt rt, lm)
  refine q_aload_n (t := 1) F dX9_live_0 rfl rfl rfl ?_
  refine g_X9_117 (t := 4) F dX9_live_1 rfl rfl ?_
  refine q_sipush (t := 7) F dX9_live_4 (by decide) rfl ?_
  refine q_icmp_ne (t := 10) (u := 13) F dX9_live_7 (by exact hR _ _ _) (by constructor <;> omega) (by decide) rfl (fun c7 => ?_) (fun c7 => ?_)
  · refine q_aload_n (t := 14) F dX9_live_13 rfl rfl rfl ?_
    refine wp_callV (t := 17) [] F dX9_live_14 k_X9_begins v_X9_begins ml_X9_388 rfl rfl rfl rfl (Nat.le_of_ble_eq_true rfl) (by decide) (m_30 (by omega)) (g_X9_begins _ G im bt rt lm hR) rfl (kV ?_)
    rintro m' rfl
    refine q_aload_n (t := 18) F dX9_live_17 rfl rfl rfl ?_
    refine q_iconst (t := 19) F dX9_live_18 rfl ?_
    refine wp_callV (t := 22) [_] F dX9_live_19 k_X9_lives v_X9_lives ml_X9_391 rfl rfl rfl rfl (Nat.le_of_ble_eq_true rfl) (by decide) (m_30 (by omega)) (c_X9_lives _ G (bgI im 50) bt rt lm hRCb hAb 0 (by constructor <;> omega) (by omega)) rfl (kV ?_)
    rintro m' ⟨im2, lm2, hR2, hag2, hlg2, rfl⟩
    have hL := LV_N (bgI im 50) (t := 0) (by omega) (10 * im 30 0 12).toNat
    refine q_aload_n (t := 23) F dX9_live_22 rfl rfl rfl ?_
    refine g_X9_370 (t := 26) F dX9_live_23 rfl rfl ?_
    try simp only [up_app, row_app, scr_app, cpy_app, Nat.reduceEqDiff, Int.reduceToNat, Int.toNat_natCast, and_true, true_and, and_false, false_and, and_self, reduceIte]
    refine q_iret F dX9_live_26 rfl ?_
    first
      | exact ⟨_, rfl, fun _ => ⟨rfl, rfl⟩, fun z => absurd (by omega) z⟩
      | (refine ⟨_, rfl, fun z => absurd z (by omega), fun _ => ⟨im2, lm2, ?_, hR2, hag2, hlg2, rfl⟩⟩
         rw [hag2 30 0 30 (by omega), up_app, if_neg (by omega)]
         exact hL.2.2.2.2.1)
  · refine q_bipush (t := 12) F dX9_live_10 (by decide) rfl ?_
    refine q_iret F dX9_live_12 rfl ?_
    first
      | exact ⟨_, rfl, fun _ => ⟨rfl, rfl⟩, fun z => absurd (by omega) z⟩
      | (refine ⟨_, rfl, fun z => absurd z (by omega), fun _ => ⟨im2, lm2, ?_, hR2, hag2, hlg2, rfl⟩⟩
         rw [hag2 30 0 30 (by omega), up_app, if_neg (by omega)]
         exact hL.2.2.2.2.1)
end
section
/-! the reference: hours, one behind the other -/

theorem findF_snoc (P : Nat → Bool) (n : Nat) : ∀ i, findF P i (n + 1) = if findF P i n = -1 then (if P (i + n) = true then ((i + n : Nat) : Int) else -1) else findF P i n := by
  induction n with
  | zero =>
    intro i
    show (if P i = true then (i : Int) else -1) = if (-1 : Int) = -1 then (if P (i + 0) = true then ((i + 0 : Nat) : Int) else -1) else -1
    rw [if_pos rfl, Nat.add_zero]
  | succ n ih =>
    intro i
    rw [findF_s P i (n + 1), findF_s P i n]
    by_cases h : P i = true
    · rw [if_pos h, if_pos h, if_neg (by omega)]
    · rw [if_neg h, if_neg h, ih (i + 1), show i + 1 + n = i + (n + 1) by omega]
theorem goK_s (T : Nat → (Nat → Int) → Int) (k nb w a g h : Int) (n : Nat) : goK T k nb w a g h (n + 1) = if goK T k nb w a g h n = -1 then (if w ≠ -1 ∧ hoK T k nb w g (h + n) (a + n + 1) ≤ a + n + 1 then (n : Int) else -1) else goK T k nb w a g h n := by
  unfold goK
  by_cases hw : w = -1
  · rw [if_pos hw, if_pos hw, if_pos rfl, if_neg (fun z => z.1 hw)]
  · rw [if_neg hw, if_neg hw, findF_snoc, Nat.zero_add]
    by_cases hf : findF (offK T k nb w a g h) 0 n = -1
    · rw [if_pos hf, if_pos hf]
      unfold offK
      by_cases hh : hoK T k nb w g (h + n) (a + n + 1) ≤ a + n + 1
      · rw [if_pos (decide_eq_true hh), if_pos ⟨hw, hh⟩]
      · rw [if_neg (fun z => hh (of_decide_eq_true z)), if_neg (fun z => hh z.2)]
    · rw [if_neg hf, if_neg hf]
theorem goK_0 (T : Nat → (Nat → Int) → Int) (k nb w a g h : Int) : goK T k nb w a g h 0 = -1 := by
  unfold goK
  split <;> rfl
theorem goK_in (T : Nat → (Nat → Int) → Int) (k nb w a g h : Int) (n : Nat) : goK T k nb w a g h n = -1 ∨ 0 ≤ goK T k nb w a g h n ∧ goK T k nb w a g h n < n := by
  unfold goK
  split
  · exact Or.inl rfl
  · have := findF_in (offK T k nb w a g h) n 0
    omega
def TR (im : IM) : Nat → (Nat → Int) → Int := sayR im (im 30 0 4).toNat
def goR (im : IM) (q n : Nat) : Int := goK (TR im) (im 34 0 (q / 10)) (im 35 0 (q / 10)) (im 36 0 q) (im 37 0 q) ((q % 10 : Nat) : Int) (im 30 0 7) n
def beT (im : IM) (q : Nat) (later : Int) : Int := beK (TR im) (im 34 0 (q / 10)) (im 35 0 (q / 10)) (im 36 0 q) (im 37 0 q) ((q % 10 : Nat) : Int) (im 30 0 7) later (chI (im 30 0 8) (im 30 0 7 + later))
def whenR (im : IM) (n q : Nat) : Int := if ((q / 10 : Nat) : Int) < im 30 0 12 then goR im q n else -1
def costR (im : IM) (n q : Nat) : Int := if whenR im n q = -1 then 0 else beT im q (whenR im n q)
def smF (f : Nat → Int) : Nat → Int
  | 0 => 0
  | N + 1 => smF f N + f N
def fstG (f : Nat → Int) : Nat → Int
  | 0 => -1
  | N + 1 => if f N ≠ -1 ∧ (fstG f N = -1 ∨ f N < f (fstG f N).toNat) then (N : Int) else fstG f N
def cnR (im : IM) (n q : Nat) : Int := if whenR im n q = -1 then 0 else 1
theorem smF_c {f g : Nat → Int} {N : Nat} (h : ∀ q, q < N → f q = g q) : smF f N = smF g N := by
  induction N with
  | zero => rfl
  | succ N ih =>
    show smF f N + f N = smF g N + g N
    rw [ih (fun q hq => h q (by omega)), h N (by omega)]
theorem smF_add (f g : Nat → Int) (N : Nat) : smF (fun q => f q + g q) N = smF f N + smF g N := by
  induction N with
  | zero => rfl
  | succ N ih =>
    show smF (fun q => f q + g q) N + (f N + g N) = smF f N + f N + (smF g N + g N)
    rw [ih]
    omega
theorem smF_ext {f : Nat → Int} {N : Nat} (m : Nat) (h : ∀ q, N ≤ q → f q = 0) : smF f (N + m) = smF f N := by
  induction m with
  | zero => rfl
  | succ m ih =>
    show smF f (N + m) + f (N + m) = smF f N
    rw [ih, h (N + m) (by omega)]
    omega
theorem smF_in {f : Nat → Int} {a b : Int} {N : Nat} (h : ∀ q, q < N → a ≤ f q ∧ f q ≤ b) (ha : a ≤ 0) (hb : 0 ≤ b) : a * N ≤ smF f N ∧ smF f N ≤ b * N := by
  induction N with
  | zero => exact ⟨by show a * ((0 : Nat) : Int) ≤ 0; simp, by show 0 ≤ b * ((0 : Nat) : Int); simp⟩
  | succ N ih =>
    have h1 := ih (fun q hq => h q (by omega))
    have h2 := h N (by omega)
    show a * ((N + 1 : Nat) : Int) ≤ smF f N + f N ∧ smF f N + f N ≤ b * ((N + 1 : Nat) : Int)
    rw [Int.natCast_add, Int.mul_add, Int.mul_add]
    simp only [Int.natCast_one, Int.mul_one]
    omega
theorem fstG_in (f : Nat → Int) (N : Nat) : ((∀ q, q < N → f q = -1) ∧ fstG f N = -1) ∨ ∃ s, s < N ∧ fstG f N = s ∧ f s ≠ -1 ∧ ∀ j, j < N → f j ≠ -1 → f s < f j ∨ f s = f j ∧ s ≤ j := by
  induction N with
  | zero => exact Or.inl ⟨fun q hq => absurd hq (Nat.not_lt_zero q), rfl⟩
  | succ N ih =>
    have e : fstG f (N + 1) = if f N ≠ -1 ∧ (fstG f N = -1 ∨ f N < f (fstG f N).toNat) then (N : Int) else fstG f N := rfl
    rw [e]
    rcases ih with ⟨h1, h2⟩ | ⟨s, hs, h2, h3, h4⟩
    · by_cases hN : f N = -1
      · left
        rw [if_neg (fun z => z.1 hN)]
        refine ⟨fun q hq => ?_, h2⟩
        by_cases e : q = N
        · rw [e]; exact hN
        · exact h1 q (by omega)
      · right
        rw [if_pos ⟨hN, Or.inl h2⟩]
        refine ⟨N, by omega, rfl, hN, fun j hj hne => ?_⟩
        by_cases e : j = N
        · rw [e]; right; exact ⟨rfl, Nat.le_refl N⟩
        · exact absurd (h1 j (by omega)) hne
    · right
      have e2 : (fstG f N).toNat = s := by rw [h2]; rfl
      by_cases hN : f N ≠ -1 ∧ f N < f s
      · rw [if_pos ⟨hN.1, Or.inr (by rw [e2]; exact hN.2)⟩]
        refine ⟨N, by omega, rfl, hN.1, fun j hj hne => ?_⟩
        by_cases e : j = N
        · rw [e]; right; exact ⟨rfl, Nat.le_refl N⟩
        · have := h4 j (by omega) hne
          omega
      · rw [if_neg (fun z => hN ⟨z.1, by rcases z.2 with q | q; (· exfalso; omega); (· rw [e2] at q; exact q)⟩)]
        refine ⟨s, by omega, h2, h3, fun j hj hne => ?_⟩
        by_cases e : j = N
        · rw [e] at hne ⊢
          have : ¬ f N < f s := fun q => hN ⟨hne, q⟩
          omega
        · exact h4 j (by omega) hne
theorem bm_add (x y : Int) : bm (bm x + y) = bm (x + y) := by
  unfold bm
  first
    | exact Int.bmod_add_bmod
    | exact Int.bmod_add_bmod_congr
    | simp
theorem bm_sub (x y : Int) : bm (bm x - y) = bm (x - y) := by
  rw [Int.sub_eq_add_neg, bm_add, ← Int.sub_eq_add_neg]
theorem bm_idd {x : Int} (h : ri x) : bm x = x := bm_id h
theorem shI_sm {im : IM} {x : Int} (h : im 30 0 9 = bm x) (n : Nat) : shI im n = bm (x + smF (fun q => if ofI im q then be1 im q else 0) n) := by
  induction n with
  | zero =>
    show im 30 0 9 = bm (x + 0)
    rw [h, Int.add_zero]
  | succ n ih =>
    show (if ofI im n then bm (shI im n + be1 im n) else shI im n) = bm (x + (smF (fun q => if ofI im q then be1 im q else 0) n + if ofI im n then be1 im n else 0))
    by_cases ho : ofI im n
    · rw [if_pos ho, if_pos ho, ih, bm_add, Int.add_assoc]
    · rw [if_neg ho, if_neg ho, ih, Int.add_zero]
theorem cnI_sm {im : IM} (h0 : 0 ≤ im 30 0 30) (h1 : im 30 0 30 ≤ 1000) {n : Nat} (hn : n ≤ 50) : cnI im n = im 30 0 30 + smF (fun q => if ofI im q then 1 else 0) n := by
  induction n with
  | zero => exact (Int.add_zero _).symm
  | succ n ih =>
    have ih := ih (by omega)
    have hb := smF_in (f := fun q => if ofI im q then (1 : Int) else 0) (a := 0) (b := 1) (N := n) (fun q _ => by show 0 ≤ (if ofI im q then (1 : Int) else 0) ∧ (if ofI im q then (1 : Int) else 0) ≤ 1; split <;> omega) (by omega) (by omega)
    show (if ofI im n then bm (cnI im n + 1) else cnI im n) = im 30 0 30 + (smF (fun q => if ofI im q then 1 else 0) n + if ofI im n then 1 else 0)
    by_cases ho : ofI im n
    · rw [if_pos ho, if_pos ho, ih, bm_idd (by constructor <;> omega)]
      omega
    · rw [if_neg ho, if_neg ho, ih, Int.add_zero]
/-- all but what hours go through -/
def agE (a b : IM) : Prop := ∀ k i s, ¬ (36 ≤ k ∧ k ≤ 39) → ¬ (k = 30 ∧ (s = 7 ∨ s = 9 ∨ 15 ≤ s ∧ s ≤ 33)) → a k i s = b k i s
theorem sayR_E {a b : IM} (h : agE a b) (t part : Nat) (nm : Nat → Int) : sayR a t part nm = sayR b t part nm := by
  unfold sayR
  have e31 : rowR a t = rowR b t := funext fun i => h 31 0 _ (by omega) (by omega)
  rw [h 32 0 t (by omega) (by omega), e31]
/-- behind t hours -/
def RN (B : IM) (t : Nat) (F : IM) : Prop := agE F B ∧ F 30 0 7 = B 30 0 7 + t ∧ (∀ q : Nat, (q : Int) < 10 * B 30 0 12 → (whenR B t q = -1 → F 36 0 q = B 36 0 q ∧ (B 36 0 q ≠ -1 → F 37 0 q = B 37 0 q + t)) ∧ (whenR B t q ≠ -1 → F 36 0 q = -1) ∧ F 38 0 q = whenR B t q ∧ F 39 0 q = costR B t q) ∧ (∀ q : Nat, 10 * B 30 0 12 ≤ (q : Int) → F 36 0 q = B 36 0 q ∧ F 37 0 q = B 37 0 q ∧ F 38 0 q = B 38 0 q ∧ F 39 0 q = B 39 0 q) ∧ F 30 0 9 = bm (B 30 0 9 + smF (costR B t) (10 * B 30 0 12).toNat) ∧ F 30 0 30 = smF (cnR B t) (10 * B 30 0 12).toNat ∧ ((∀ q : Nat, (q : Int) < 10 * B 30 0 12 → whenR B t q = -1) → F 30 0 31 = -1 ∧ F 30 0 32 = -1 ∧ F 30 0 33 = -1) ∧ (∀ s : Nat, (s : Int) < 10 * B 30 0 12 → whenR B t s ≠ -1 → (∀ j : Nat, (j : Int) < 10 * B 30 0 12 → whenR B t j ≠ -1 → whenR B t s < whenR B t j ∨ whenR B t s = whenR B t j ∧ s ≤ j) → F 30 0 31 = B 36 0 s ∧ F 30 0 32 = ((s / 10 : Nat) : Int) ∧ F 30 0 33 = whenR B t s)
theorem whenR_0 (B : IM) (q : Nat) : whenR B 0 q = -1 := by
  unfold whenR goR
  rw [goK_0]
  split <;> rfl
theorem whenR_in (B : IM) (n q : Nat) : whenR B n q = -1 ∨ 0 ≤ whenR B n q ∧ whenR B n q < n := by
  unfold whenR goR
  split
  · exact goK_in _ _ _ _ _ _ _ _
  · exact Or.inl rfl
theorem RN_0 {B : IM} (h38 : ∀ q : Nat, (q : Int) < 10 * B 30 0 12 → B 38 0 q = -1 ∧ B 39 0 q = 0) (h9 : ri (B 30 0 9)) (h30 : B 30 0 30 = 0) (h31 : B 30 0 31 = -1 ∧ B 30 0 32 = -1 ∧ B 30 0 33 = -1) : RN B 0 B := by
  have hz : ∀ f : Nat → Int, (∀ q, f q = 0) → ∀ N, smF f N = 0 := by
    intro f hf N
    induction N with
    | zero => rfl
    | succ N ih => show smF f N + f N = 0; rw [ih, hf]; rfl
  have hc : ∀ q, costR B 0 q = 0 := fun q => by unfold costR; rw [if_pos (whenR_0 B q)]
  have hn : ∀ q, cnR B 0 q = 0 := fun q => by unfold cnR; rw [if_pos (whenR_0 B q)]
  refine ⟨fun _ _ _ _ _ => rfl, by omega, fun q hq => ⟨fun _ => ⟨rfl, fun _ => by omega⟩, fun z => absurd (whenR_0 B q) z, ?_, ?_⟩, fun q hq => ⟨rfl, rfl, rfl, rfl⟩, ?_, ?_, fun _ => h31, fun s hs z => absurd (whenR_0 B s) z⟩
  · rw [whenR_0]; exact (h38 q hq).1
  · rw [hc]; exact (h38 q hq).2
  · rw [hz _ hc, Int.add_zero, bm_idd h9]
  · rw [hz _ hn]; exact h30
theorem RN_q {B F : IM} {t : Nat} (h : RN B t F) {q : Nat} (hq : (q : Int) < 10 * B 30 0 12) : (ofI F q ∧ whenR B t q = -1 ∧ whenR B (t + 1) q = t ∧ be1 F q = beT B q t) ∨ (¬ ofI F q ∧ whenR B (t + 1) q = whenR B t q) := by
  obtain ⟨hE, h7, hc, hge, h9, h30, hn1, hn2⟩ := h
  have hp : ((q / 10 : Nat) : Int) < B 30 0 12 := by omega
  have ew : ∀ n, whenR B n q = goR B q n := fun n => by unfold whenR; rw [if_pos hp]
  have es : goR B q (t + 1) = if goR B q t = -1 then (if B 36 0 q ≠ -1 ∧ hoK (TR B) (B 34 0 (q / 10)) (B 35 0 (q / 10)) (B 36 0 q) ((q % 10 : Nat) : Int) (B 30 0 7 + t) (B 37 0 q + t + 1) ≤ B 37 0 q + t + 1 then (t : Int) else -1) else goR B q t := goK_s _ _ _ _ _ _ _ _
  have hcq := hc q hq
  rw [ew, ew]
  rw [ew] at hcq
  by_cases hg : goR B q t = -1
  · have e36 := (hcq.1 hg).1
    rw [if_pos hg] at es
    by_cases hw : B 36 0 q = -1
    · right
      rw [if_neg (fun z => z.1 hw)] at es
      exact ⟨fun z => z.1 (e36.trans hw), by rw [es, hg]⟩
    · have e37 := (hcq.1 hg).2 hw
      have eho : ho1 F q = hoK (TR B) (B 34 0 (q / 10)) (B 35 0 (q / 10)) (B 36 0 q) ((q % 10 : Nat) : Int) (B 30 0 7 + t) (B 37 0 q + t + 1) := by
        unfold ho1
        rw [sayR_E hE, hE 34 0 _ (by omega) (by omega), hE 35 0 _ (by omega) (by omega), e36, e37, h7, hE 30 0 4 (by omega) (by omega)]
        rfl
      have ebe : be1 F q = beT B q t := by
        unfold be1
        rw [sayR_E hE, hE 34 0 _ (by omega) (by omega), hE 35 0 _ (by omega) (by omega), e36, e37, h7, hE 30 0 4 (by omega) (by omega), hE 30 0 8 (by omega) (by omega)]
        rfl
      by_cases ho : hoK (TR B) (B 34 0 (q / 10)) (B 35 0 (q / 10)) (B 36 0 q) ((q % 10 : Nat) : Int) (B 30 0 7 + t) (B 37 0 q + t + 1) ≤ B 37 0 q + t + 1
      · left
        rw [if_pos ⟨hw, ho⟩] at es
        exact ⟨⟨by rw [e36]; exact hw, by rw [eho, e37]; exact ho⟩, hg, es, ebe⟩
      · right
        rw [if_neg (fun z => ho z.2)] at es
        exact ⟨fun z => ho (by have := z.2; rw [eho, e37] at this; exact this), by rw [es, hg]⟩
  · right
    rw [if_neg hg] at es
    exact ⟨fun z => z.1 (hcq.2.1 hg), es⟩
theorem RN_s {B F F1 : IM} {t : Nat} (h12 : 0 ≤ B 30 0 12 ∧ B 30 0 12 ≤ 5) (h : RN B t F) (hL : LV F t (10 * B 30 0 12).toNat F1) : RN B (t + 1) (up F1 30 0 7 (F 30 0 7 + 1)) := by
  have hq := fun q hq => RN_q h (q := q) hq
  obtain ⟨hE, h7, hc, hge, h9, h30, hn1, hn2⟩ := h
  obtain ⟨lH, lge, llt, l9, l30, ln0, ln1, ln2⟩ := hL
  have u : ∀ k s, ¬ (k = 30 ∧ s = 7) → up F1 30 0 7 (F 30 0 7 + 1) k 0 s = F1 k 0 s := fun k s z => by rw [up_app, if_neg (by omega)]
  have hcnt := smF_in (f := cnR B t) (a := 0) (b := 1) (N := (10 * B 30 0 12).toNat) (fun q _ => by unfold cnR; split <;> omega) (by omega) (by omega)
  refine ⟨fun k i s a b => ?_, ?_, fun q hqq => ?_, fun q hqq => ?_, ?_, ?_, fun hall => ?_, fun s hs hne hmin => ?_⟩
  · rw [up_app, if_neg (by omega), lH k i s a (by omega)]
    exact hE k i s a b
  · rw [up_app, if_pos ⟨rfl, rfl, rfl⟩, h7]
    omega
  · rw [u 36 q (by omega), u 37 q (by omega), u 38 q (by omega), u 39 q (by omega)]
    have hcq := hc q hqq
    have hl := llt q (by omega)
    rcases hq q hqq with ⟨a1, a2, a3, a4⟩ | ⟨a1, a2⟩
    · have l := hl.1 a1
      refine ⟨fun z => absurd z (by omega), fun _ => l.1, by rw [a3]; exact l.2.1, ?_⟩
      unfold costR
      rw [if_neg (by omega), a3, ← a4]
      exact l.2.2
    · have l := hl.2 a1
      have ec : costR B (t + 1) q = costR B t q := by unfold costR; rw [a2]
      rw [a2, ec]
      refine ⟨fun z => ⟨l.1.trans (hcq.1 z).1, fun w => ?_⟩, fun z => ?_, l.2.2.2.1.trans hcq.2.2.1, l.2.2.2.2.trans hcq.2.2.2⟩
      · rw [l.2.1 (by rw [(hcq.1 z).1]; exact w), (hcq.1 z).2 w]
        omega
      · rw [l.1]; exact hcq.2.1 z
  · rw [u 36 q (by omega), u 37 q (by omega), u 38 q (by omega), u 39 q (by omega)]
    have l := lge q (by omega)
    have g := hge q hqq
    exact ⟨l.1.trans g.1, l.2.1.trans g.2.1, l.2.2.1.trans g.2.2.1, l.2.2.2.trans g.2.2.2⟩
  · rw [u 30 9 (by omega), l9, shI_sm h9, Int.add_assoc, ← smF_add]
    refine congrArg (fun z => bm (B 30 0 9 + z)) (smF_c fun q hqq => ?_)
    rcases hq q (by omega) with ⟨a1, a2, a3, a4⟩ | ⟨a1, a2⟩
    · show costR B t q + (if ofI F q then be1 F q else 0) = costR B (t + 1) q
      unfold costR
      rw [if_pos a1, if_pos a2, if_neg (by omega), a3, a4]
      omega
    · show costR B t q + (if ofI F q then be1 F q else 0) = costR B (t + 1) q
      unfold costR
      rw [if_neg a1, a2]
      omega
  · rw [u 30 30 (by omega), l30, cnI_sm (by omega) (by omega) (by omega), h30, ← smF_add]
    refine smF_c fun q hqq => ?_
    rcases hq q (by omega) with ⟨a1, a2, a3, a4⟩ | ⟨a1, a2⟩
    · show cnR B t q + (if ofI F q then 1 else 0) = cnR B (t + 1) q
      unfold cnR
      rw [if_pos a1, if_pos a2, if_neg (by omega)]
      omega
    · show cnR B t q + (if ofI F q then 1 else 0) = cnR B (t + 1) q
      unfold cnR
      rw [if_neg a1, a2]
      omega
  · rw [u 30 31 (by omega), u 30 32 (by omega), u 30 33 (by omega)]
    have hno : ∀ q : Nat, (q : Int) < 10 * B 30 0 12 → ¬ ofI F q ∧ whenR B t q = -1 := fun q hqq => by
      rcases hq q hqq with ⟨a1, a2, a3, a4⟩ | ⟨a1, a2⟩
      · have := hall q hqq
        omega
      · exact ⟨a1, a2 ▸ hall q hqq⟩
    have g := hn1 (fun q hqq => (hno q hqq).2)
    have l := ln1 g.2.2 (fun q hqq => (hno q (by omega)).1)
    exact ⟨l.1.trans g.1, l.2.1.trans g.2.1, l.2.2.trans g.2.2⟩
  · rw [u 30 31 (by omega), u 30 32 (by omega), u 30 33 (by omega)]
    have hst : ∀ j : Nat, (j : Int) < 10 * B 30 0 12 → whenR B t j ≠ -1 → whenR B (t + 1) j = whenR B t j := fun j hj z => by
      rcases hq j hj with ⟨a1, a2, a3, a4⟩ | ⟨a1, a2⟩
      · exact absurd a2 z
      · exact a2
    by_cases hs1 : whenR B t s = -1
    · have hall : ∀ j : Nat, (j : Int) < 10 * B 30 0 12 → whenR B t j = -1 := fun j hj => by
        refine Decidable.byContradiction fun z => ?_
        have e := hst j hj z
        have m := hmin j hj (by rw [e]; exact z)
        have i := whenR_in B t j
        rcases hq s hs with ⟨a1, a2, a3, a4⟩ | ⟨a1, a2⟩
        · omega
        · omega
      have g := hn1 hall
      rcases hq s hs with ⟨a1, a2, a3, a4⟩ | ⟨a1, a2⟩
      · have l := ln2 g.2.2 s (by omega) a1 (fun j hj z => by
          rcases hq j (by omega) with ⟨b1, b2, b3, b4⟩ | ⟨b1, b2⟩
          · have m := hmin j (by omega) (by omega)
            omega
          · exact b1 z)
        rw [a3]
        exact ⟨l.1.trans ((hc s hs).1 hs1).1, l.2.1, l.2.2⟩
      · exact absurd (a2.trans hs1) hne
    · have e := hst s hs hs1
      have g := hn2 s hs hs1 (fun j hj z => by
        have m := hmin j hj (by rw [hst j hj z]; exact z)
        rw [hst j hj z, e] at m
        exact m)
      have l := ln0 (by rw [g.2.2]; exact hs1)
      rw [e]
      exact ⟨l.1.trans g.1, l.2.1.trans g.2.1, l.2.2.trans g.2.2⟩
end
section
/-! the reference: runs, run, off -/

theorem RN.ag {B F S : IM} {t : Nat} (h : RN B t F) (ha : agY S F) : RN B t S := by
  obtain ⟨hE, h7, hc, hge, h9, h30, hn1, hn2⟩ := h
  have r : ∀ k s, 36 ≤ k → S k 0 s = F k 0 s := fun k s _ => ha k 0 s (by omega)
  have e : ∀ s, (s < 15 ∨ 29 < s) → S 30 0 s = F 30 0 s := fun s _ => ha 30 0 s (by omega)
  refine ⟨fun k i s a b => (ha k i s (by omega)).trans (hE k i s a b), by rw [e 7 (by omega)]; exact h7, fun q hq => ?_, fun q hq => ?_, by rw [e 9 (by omega)]; exact h9, by rw [e 30 (by omega)]; exact h30, ?_, ?_⟩
  · rw [r 36 q (by omega), r 37 q (by omega), r 38 q (by omega), r 39 q (by omega)]
    exact hc q hq
  · rw [r 36 q (by omega), r 37 q (by omega), r 38 q (by omega), r 39 q (by omega)]
    exact hge q hq
  · rw [e 31 (by omega), e 32 (by omega), e 33 (by omega)]
    exact hn1
  · rw [e 31 (by omega), e 32 (by omega), e 33 (by omega)]
    exact hn2
theorem ho1_in {im : IM} {q : Nat} (hk : 0 ≤ im 35 0 (q / 10) ∧ im 35 0 (q / 10) < 10) : 1 ≤ ho1 im q ∧ ho1 im q ≤ 108 := by
  have h := sayR_in im (im 30 0 4).toNat 1 (nmA (im 36 0 q) 0 (im 30 0 7) (im 35 0 (q / 10)) ((q % 10 : Nat) : Int) (im 37 0 q + 1))
  unfold ho1 holdsK heldK
  (repeat' split) <;> omega
theorem beT_in {im : IM} {q : Nat} (hk : 0 ≤ im 35 0 (q / 10) ∧ im 35 0 (q / 10) < 10) (x : Int) : 0 ≤ beT im q x ∧ beT im q x ≤ 700 := beK_in (fun a b => sayR_in im _ a b) hk.1 hk.2
/-- an hour keeps it -/
theorem RC_hr {S S1 : IM} {t : Int} (ht : t ≠ -1) (h : RC S) (hA : AG S 1000) (h7 : S 30 0 7 ≤ 1099) (hR : RI S1) (ha : agY S1 (up (lvN S t (10 * S 30 0 12).toNat) 30 0 7 (S 30 0 7 + 1))) : RC S1 ∧ AG S1 1000 := by
  have hL := LV_N S ht (10 * S 30 0 12).toNat
  have h12 := h.2.2.2.1
  have h7b := h.2.2.2.2.1
  have e7 : lvN S t (10 * S 30 0 12).toNat 30 0 7 = S 30 0 7 := hL.1 30 0 7 (by omega) (by omega)
  have hR0 : RI (up S1 30 0 7 (S 30 0 7)) := RI_up hR (h.1 _ _ _)
  have ha0 : agY (up S1 30 0 7 (S 30 0 7)) (lvN S t (10 * S 30 0 12).toNat) := by
    intro k i s hs
    rw [up_app]
    split
    · rename_i e
      obtain ⟨rfl, rfl, rfl⟩ := e
      exact e7.symm
    · rename_i e
      rw [ha k i s hs, up_app, if_neg e]
  have g := RC_lv h hA hR0 ha0 hL
  have s7 : S1 30 0 7 = S 30 0 7 + 1 := (ha 30 0 7 (by omega)).trans (by rw [up_app, if_pos ⟨rfl, rfl, rfl⟩])
  have s12 : S1 30 0 12 = S 30 0 12 := ((ha 30 0 12 (by omega)).trans (by rw [up_app, if_neg (by omega)])).trans (hL.1 30 0 12 (by omega) (by omega))
  refine ⟨g.1.C hR ⟨fun k s h1 h2 => ?_, ?_, ?_, ?_, ?_, ?_⟩ (by omega), fun q hq hne => ?_⟩
  · rw [up_app, if_neg (by omega)]
  · rw [up_app, if_neg (by omega)]
  · rw [up_app, if_neg (by omega)]
  · rw [up_app, if_neg (by omega)]
  · rw [up_app, if_neg (by omega)]
  · rw [up_app, if_neg (by omega)]
  · rw [s12] at hq
    have e36 : S1 36 0 q = lvN S t (10 * S 30 0 12).toNat 36 0 q := (ha 36 0 q (by omega)).trans (by rw [up_app, if_neg (by omega)])
    have e37 : S1 37 0 q = lvN S t (10 * S 30 0 12).toNat 37 0 q := (ha 37 0 q (by omega)).trans (by rw [up_app, if_neg (by omega)])
    rw [e36] at hne
    rw [e37]
    have l := hL.2.2.1 q (by omega)
    by_cases ho : ofI S q
    · exact absurd (l.1 ho).1 hne
    · have l2 := l.2 ho
      have hw : S 36 0 q ≠ -1 := by rw [← l2.1]; exact hne
      rw [l2.2.1 hw]
      have hp := (h.2.2.2.2.2.2 (q / 10) (by omega)).2.1
      have i := ho1_in (im := S) (q := q) hp
      have : ¬ ho1 S q ≤ S 37 0 q + 1 := fun z => ho ⟨hw, z⟩
      omega
theorem TR_C {a b : IM} (h : agC a b) : TR a = TR b := by
  obtain ⟨c, e3, e4, e6, e8, e12⟩ := h
  funext part nm
  unfold TR sayR
  have e31 : rowR a (a 30 0 4).toNat = rowR b (b 30 0 4).toNat := by
    rw [e4]
    exact funext fun i => c 31 _ (by omega) (by omega)
  rw [e31, e4, c 32 _ (by omega) (by omega)]
theorem when_C {a b : IM} (h : agC a b) (h7 : a 30 0 7 = b 30 0 7) : whenR a = whenR b ∧ costR a = costR b ∧ cnR a = cnR b := by
  have hT := TR_C h
  obtain ⟨c, e3, e4, e6, e8, e12⟩ := h
  have ew : whenR a = whenR b := by
    funext n q
    unfold whenR goR
    rw [e12, hT, c 34 _ (by omega) (by omega), c 35 _ (by omega) (by omega), c 36 _ (by omega) (by omega), c 37 _ (by omega) (by omega), h7]
  refine ⟨ew, ?_, ?_⟩
  · funext n q
    unfold costR beT
    rw [ew, hT, c 34 _ (by omega) (by omega), c 35 _ (by omega) (by omega), c 36 _ (by omega) (by omega), c 37 _ (by omega) (by omega), h7, e8]
  · funext n q
    unfold cnR
    rw [ew]
/-- all but what a run may leave another -/
def agO (a b : IM) : Prop := ∀ k s, ¬ (38 ≤ k ∧ k ≤ 41) → ¬ (k = 30 ∧ (15 ≤ s ∧ s ≤ 33 ∨ 38 ≤ s ∧ s ≤ 40)) → a k 0 s = b k 0 s
theorem agO.trans {a b c : IM} (h : agO a b) (h2 : agO b c) : agO a c := fun k s x y => (h k s x y).trans (h2 k s x y)
theorem agO.C {a b : IM} (h : agO a b) : agC a b ∧ a 30 0 7 = b 30 0 7 := ⟨⟨fun k s _ _ => h k s (by omega) (by omega), h 30 3 (by omega) (by omega), h 30 4 (by omega) (by omega), h 30 6 (by omega) (by omega), h 30 8 (by omega) (by omega), h 30 12 (by omega) (by omega)⟩, h 30 7 (by omega) (by omega)⟩
theorem RC.O {a b : IM} (h : RC b) (hR : RI a) (ha : agO a b) : RC a := h.C hR ha.C.1 (by rw [ha.C.2]; exact h.2.2.2.2.1)
theorem agY.O {a b : IM} (h : agY a b) : agO a b := fun k s _ _ => h k 0 s (by omega)
/-- what a run leaves to be asked -/
def RU (im : IM) (n : Nat) (a : IM) : Prop := agO a im ∧ (∀ q, q < 50 → a 38 0 q = whenR im n q ∧ a 39 0 q = costR im n q) ∧ a 30 0 40 = smF (costR im n) 50 ∧ a 30 0 30 = smF (cnR im n) 50 ∧ a 30 0 31 = (if fstG (whenR im n) 50 = -1 then -1 else im 36 0 (fstG (whenR im n) 50).toNat) ∧ a 30 0 32 = (if fstG (whenR im n) 50 = -1 then -1 else fstG (whenR im n) 50 / 10) ∧ a 30 0 33 = (if fstG (whenR im n) 50 = -1 then -1 else whenR im n (fstG (whenR im n) 50).toNat)
theorem asideI_c (im : IM) {k i s : Nat} (h : ¬ (38 ≤ k ∧ k ≤ 41)) (h2 : ¬ (k = 30 ∧ (30 ≤ s ∧ s ≤ 33 ∨ s = 38 ∨ s = 39))) : asideI im k i s = im k i s := by
  unfold asideI
  rw [bgI_c 50 (by omega) (by omega), up_app, if_neg (by omega), up_app, if_neg (by omega), cp2_app, if_neg (by omega), if_neg (by omega)]
theorem asideI_C (im : IM) : agC (asideI im) im := ⟨fun k s _ _ => asideI_c im (by omega) (by omega), asideI_c im (by omega) (by omega), asideI_c im (by omega) (by omega), asideI_c im (by omega) (by omega), asideI_c im (by omega) (by omega), asideI_c im (by omega) (by omega)⟩
theorem asideI_RI {im : IM} (h : RI im) : RI (asideI im) := bgI_RI (RI_up (RI_up (cp2_RI h _ _ _ _ _) (h _ _ _)) (h _ _ _)) _
theorem asideI_k (im : IM) {s : Nat} (hs : s < 50) : asideI im 38 0 s = -1 ∧ asideI im 39 0 s = 0 ∧ asideI im 40 0 s = im 36 0 s ∧ asideI im 41 0 s = im 37 0 s := by
  unfold asideI
  refine ⟨?_, ?_, ?_, ?_⟩
  · rw [bgI_app, if_pos ⟨rfl, rfl, hs⟩]
  · rw [bgI_app, if_neg (by omega), if_pos ⟨rfl, rfl, hs⟩]
  · rw [bgI_c 50 (by omega) (by omega), up_app, if_neg (by omega), up_app, if_neg (by omega), cp2_app, if_pos ⟨rfl, rfl, hs⟩]
  · rw [bgI_c 50 (by omega) (by omega), up_app, if_neg (by omega), up_app, if_neg (by omega), cp2_app, if_neg (by omega), if_pos ⟨rfl, rfl, hs⟩]
theorem asideI_RN {im : IM} (h : RC im) : RN (asideI im) 0 (asideI im) := by
  have h12 := h.2.2.2.1
  have e12 : asideI im 30 0 12 = im 30 0 12 := rfl
  refine RN_0 (fun q hq => ?_) (h.1 30 0 9) rfl ⟨rfl, rfl, rfl⟩
  have := asideI_k im (s := q) (by omega)
  exact ⟨this.1, this.2.1⟩
theorem backI_c (im : IM) {k i s : Nat} (h : ¬ (k = 36 ∨ k = 37)) (h2 : ¬ (k = 30 ∧ (s = 40 ∨ s = 7 ∨ s = 9))) : backI im k i s = im k i s := by
  unfold backI
  rw [up_app, if_neg (by omega), up_app, if_neg (by omega), up_app, if_neg (by omega), cp2_app, if_neg (by omega), if_neg (by omega)]
theorem backI_RI {im : IM} (h : RI im) : RI (backI im) := RI_up (RI_up (RI_up (cp2_RI h _ _ _ _ _) (ri_b _)) (h _ _ _)) (h _ _ _)
theorem backI_R {im S : IM} (hS : ∀ k s, ¬ (36 ≤ k ∧ k ≤ 39) → ¬ (k = 30 ∧ (s = 7 ∨ s = 9 ∨ 15 ≤ s ∧ s ≤ 33)) → S k 0 s = asideI im k 0 s) (hx : ∀ k s, (k = 36 ∨ k = 37) → 50 ≤ s → S k 0 s = im k 0 s) : agO (backI S) im := by
  intro k s a b
  by_cases h36 : k = 36 ∨ k = 37
  · by_cases hs : s < 50
    · have k4 := asideI_k im hs
      have e40 : S 40 0 s = im 36 0 s := (hS 40 s (by omega) (by omega)).trans k4.2.2.1
      have e41 : S 41 0 s = im 37 0 s := (hS 41 s (by omega) (by omega)).trans k4.2.2.2
      unfold backI
      rw [up_app, if_neg (by omega), up_app, if_neg (by omega), up_app, if_neg (by omega), cp2_app]
      rcases h36 with rfl | rfl
      · rw [if_pos ⟨rfl, rfl, hs⟩]; exact e40
      · rw [if_neg (by omega), if_pos ⟨rfl, rfl, hs⟩]; exact e41
    · unfold backI
      rw [up_app, if_neg (by omega), up_app, if_neg (by omega), up_app, if_neg (by omega), cp2_app, if_neg (by omega), if_neg (by omega)]
      exact hx k s h36 (by omega)
  · by_cases h7 : k = 30 ∧ (s = 7 ∨ s = 9)
    · obtain ⟨rfl, h7⟩ := h7
      have e38 : S 30 0 38 = im 30 0 7 := hS 30 38 (by omega) (by omega)
      have e39 : S 30 0 39 = im 30 0 9 := hS 30 39 (by omega) (by omega)
      rcases h7 with rfl | rfl
      · exact e38
      · exact e39
    · rw [backI_c S h36 (by omega), hS k s (by omega) (by omega)]
      exact asideI_c im (by omega) (by omega)
/-- hours over: what a run answers -/
theorem RU_of {im S : IM} {n : Nat} (h : RC im) (hN : RN (asideI im) n S) (hxx : ∀ k s, (k = 36 ∨ k = 37) → 50 ≤ s → asideI im k 0 s = im k 0 s) : RU im n (backI S) := by
  have h12 := h.2.2.2.1
  have hP := h.2.2.2.2.2.2
  have e12 : asideI im 30 0 12 = im 30 0 12 := rfl
  have eW := when_C (asideI_C im) rfl
  obtain ⟨hE, h7, hc, hge, h9, h30, hn1, hn2⟩ := hN
  rw [e12] at hc hge h9 h30 hn1 hn2
  rw [eW.1] at hc hn1 hn2
  rw [eW.2.1] at hc h9
  rw [eW.2.2] at h30
  have hm : ∀ n q : Nat, 10 * im 30 0 12 ≤ (q : Int) → whenR im n q = -1 := fun n q hq => by
    unfold whenR
    rw [if_neg (by omega)]
  have hm2 : ∀ q : Nat, 10 * im 30 0 12 ≤ (q : Int) → costR im n q = 0 := fun q hq => by
    unfold costR
    rw [if_pos (hm n q hq)]
  have hm3 : ∀ q : Nat, 10 * im 30 0 12 ≤ (q : Int) → cnR im n q = 0 := fun q hq => by
    unfold cnR
    rw [if_pos (hm n q hq)]
  have e50 : (10 * im 30 0 12).toNat + (50 - (10 * im 30 0 12).toNat) = 50 := by omega
  have s9 := smF_ext (f := costR im n) (N := (10 * im 30 0 12).toNat) (50 - (10 * im 30 0 12).toNat) (fun q hq => hm2 q (by omega))
  have s30 := smF_ext (f := cnR im n) (N := (10 * im 30 0 12).toNat) (50 - (10 * im 30 0 12).toNat) (fun q hq => hm3 q (by omega))
  rw [e50] at s9 s30
  have hb := smF_in (f := costR im n) (a := 0) (b := 700) (N := 50) (fun q hq => by
    unfold costR
    split
    · omega
    · rename_i z
      have hq2 : ((q / 10 : Nat) : Int) < im 30 0 12 := Decidable.byContradiction fun y => z (by unfold whenR; rw [if_neg y])
      exact beT_in (hP (q / 10) hq2).2.1 _) (by omega) (by omega)
  have c : ∀ s, ¬ (s = 40 ∨ s = 7 ∨ s = 9) → backI S 30 0 s = S 30 0 s := fun s hs => backI_c S (by omega) (by omega)
  have hr : ∀ q, q < 50 → S 38 0 q = whenR im n q ∧ S 39 0 q = costR im n q := fun q hq => by
    by_cases y : (q : Int) < 10 * im 30 0 12
    · exact (hc q y).2.2
    · have g := hge q (by omega)
      have a := asideI_k im hq
      rw [hm n q (by omega), hm2 q (by omega), g.2.2.1, g.2.2.2]
      exact ⟨a.1, a.2.1⟩
  refine ⟨backI_R (fun k s a b => hE k 0 s a (by omega)) (fun k s hk hs => ?_), fun q hq => ?_, ?_, ?_, ?_⟩
  · have g := hge s (by omega)
    rw [← hxx k s hk hs]
    rcases hk with rfl | rfl
    · exact g.1
    · exact g.2.1
  · rw [backI_c S (by omega) (by omega), backI_c S (by omega) (by omega)]
    exact hr q hq
  · show bm (S 30 0 9 - S 30 0 39) = smF (costR im n) 50
    have e39 : S 30 0 39 = im 30 0 9 := hE 30 0 39 (by omega) (by omega)
    have e9 : asideI im 30 0 9 = im 30 0 9 := rfl
    rw [h9, e39, e9, bm_sub, ← s9, Int.add_comm, Int.add_sub_cancel]
    exact bm_idd (by constructor <;> omega)
  · rw [c 30 (by omega), h30, s30]
  · rw [c 31 (by omega), c 32 (by omega), c 33 (by omega)]
    rcases fstG_in (whenR im n) 50 with ⟨a1, a2⟩ | ⟨s, hs, a2, a3, a4⟩
    · rw [a2, if_pos rfl, if_pos rfl, if_pos rfl]
      exact hn1 (fun q hq => a1 q (by omega))
    · have e : (fstG (whenR im n) 50).toNat = s := by omega
      rw [e, if_neg (by omega), if_neg (by omega), if_neg (by omega), a2]
      have hs2 : (s : Int) < 10 * im 30 0 12 := Decidable.byContradiction fun y => a3 (hm n s (by omega))
      have g := hn2 s hs2 a3 (fun j hj => a4 j (by omega))
      exact ⟨g.1, g.2.1, g.2.2⟩
theorem RU.cost {im a : IM} {n : Nat} (h : RC im) (hU : RU im n a) : (∀ q, 0 ≤ costR im n q ∧ costR im n q ≤ 700) ∧ (0 ≤ smF (costR im n) 50 ∧ smF (costR im n) 50 ≤ 35000) := by
  have hP := h.2.2.2.2.2.2
  have hc : ∀ q, 0 ≤ costR im n q ∧ costR im n q ≤ 700 := fun q => by
    unfold costR
    split
    · omega
    · rename_i z
      have hq2 : ((q / 10 : Nat) : Int) < im 30 0 12 := Decidable.byContradiction fun y => z (by unfold whenR; rw [if_neg y])
      exact beT_in (hP (q / 10) hq2).2.1 _
  have := smF_in (f := costR im n) (a := 0) (b := 700) (N := 50) (fun q _ => hc q) (by omega) (by omega)
  exact ⟨hc, by omega, by omega⟩
end
section
/-! the reference: runs, run, off: the walks -/

set_option maxHeartbeats 4000000 in
theorem c_X9_runs (l : Launch) (G : GS) (im : IM) (bt rt : Nat) (lm : IM) (h : RC im) (hA : AG im 1000) (h7 : im 30 0 7 ≤ 999) (n : Nat) (hn : n ≤ 60) : Cn l (XR G) yX9_runs Y_X9_runs [vR 30 0, vI (n : Int)] (im, rs bt rt, lm) (pV fun m' => ∃ im' lm', RI im' ∧ RU im n im' ∧ lgQ lm' lm ∧ m' = (im', rs bt rt, lm')) := by
  refine cn_of (by decide) (okR G) rfl (Nat.le_of_ble_eq_true rfl) ?_
  intro M ad hMl F
  subst hMl
  have hR := h.1
  have hRa := asideI_RI h.1
  have hRCa : RC (asideI im) := h.C hRa (asideI_C im) h.2.2.2.2.1
  have hAa : AG (asideI im) 1000 := hA.C (asideI_C im)
  have h70 := h.2.2.2.2.1
  have h12 := h.2.2.2.1
  have hN0 := asideI_RN h
  have ea7 : asideI im 30 0 7 = im 30 0 7 := rfl
  have ea12 : asideI im 30 0 12 = im 30 0 12 := rfl
  refine wp_pad 1 ?_
  show Wp M (XR G) ad Y_X9_runs (pV fun m' => ∃ im' lm', RI im' ∧ RU im n im' ∧ lgQ lm' lm ∧ m' = (im', rs bt rt, lm')) 0 [some (vR 30 0), some (vI (n : Int)), none] [] (im, rs bt rt, lm)
  refine q_aload_n (t := 1) F dX9_runs_0 rfl rfl rfl ?_
  refine wp_callV (t := 4) [] F dX9_runs_1 k_X9_laysAside v_X9_laysAside ml_X9_404 rfl rfl rfl rfl (Nat.le_of_ble_eq_true rfl) (by decide) (m_30 (by omega)) (g_X9_laysAside _ G im bt rt lm hR) rfl (kV ?_)
  rintro m' rfl
  refine q_iconst (t := 5) F dX9_runs_4 rfl ?_
  refine q_istore_n (t := 6) F dX9_runs_5 rfl (by decide) rfl rfl ?_
  have L6 : ∀ (fz : Nat) (t : Nat) (S lg : IM), 61 - t < fz → (t ≤ n ∧ RI S ∧ RC S ∧ AG S 1000 ∧ RN (asideI im) t S ∧ lgQ lg lm) → Wp M (XR G) ad Y_X9_runs (pV fun m' => ∃ im' lm', RI im' ∧ RU im n im' ∧ lgQ lm' lm ∧ m' = (im', rs bt rt, lm')) 6 [some (vR 30 0), some (vI (n : Int)), some (vI (t : Int))] [] (S, rs bt rt, lg) := by
    intro fz
    induction fz with
    | zero => intro t S lg h; exact absurd h (Nat.not_lt_zero _)
    | succ fz ih =>
      have ih6 := ih
      intro t S lg hmeas ⟨ht, hR, hRC, hAS, hN, hlg⟩
      refine q_iload_n (t := 7) F dX9_runs_6 rfl rfl rfl ?_
      refine q_iload_n (t := 8) F dX9_runs_7 rfl rfl rfl ?_
      refine q_icmp_ge (t := 11) (u := 22) F dX9_runs_8 (by constructor <;> omega) (by constructor <;> omega) (by decide) rfl (fun c8 => ?_) (fun c8 => ?_)
      · refine q_aload_n (t := 23) F dX9_runs_22 rfl rfl rfl ?_
        refine wp_callV (t := 26) [] F dX9_runs_23 k_X9_laysBack v_X9_laysBack ml_X9_407 rfl rfl rfl rfl (Nat.le_of_ble_eq_true rfl) (by decide) (m_30 (by omega)) (g_X9_laysBack _ G S bt rt lg hR) rfl (kV ?_)
        rintro m' rfl
        refine q_vret F dX9_runs_26 rfl ?_
        obtain rfl : t = n := by omega
        exact ⟨rfl, _, lg, backI_RI hR, RU_of h hN (fun k s hk hs => asideI_c im (by omega) (by omega)), hlg, rfl⟩
      · refine q_aload_n (t := 12) F dX9_runs_11 rfl rfl rfl ?_
        refine q_iload_n (t := 13) F dX9_runs_12 rfl rfl rfl ?_
        refine wp_callV (t := 16) [_] F dX9_runs_13 k_X9_lives v_X9_lives ml_X9_391 rfl rfl rfl rfl (Nat.le_of_ble_eq_true rfl) (by decide) (m_30 (by omega)) (c_X9_lives _ G S bt rt lg hRC hAS (t : Int) (by constructor <;> omega) (by omega)) rfl (kV ?_)
        rintro m' ⟨im2, lg2, hR2, hag2, hlg2, rfl⟩
        have eS12 : S 30 0 12 = im 30 0 12 := (hN.1 30 0 12 (by omega) (by omega)).trans ea12
        have eS7 := hN.2.1
        have hk := RC_hr (t := (t : Int)) (by omega) hRC hAS (by omega) hR2 hag2
        have hN2 : RN (asideI im) (t + 1) im2 := (RN_s (F1 := lvN S (t : Int) (10 * S 30 0 12).toNat) (by rw [ea12]; exact h12) hN (by rw [ea12, ← eS12]; exact LV_N S (t := (t : Int)) (by omega) _)).ag hag2
        refine q_iinc (t := 19) F dX9_runs_16 rfl (by decide) rfl rfl ?_
        refine q_goto (t := 6) F dX9_runs_19 (by decide) ?_
        rw [show (t : Int) + 1 = ((t + 1 : Nat) : Int) by omega]
        exact ih6 (t + 1) im2 lg2 (by omega) ⟨by omega, hR2, hk.1, hk.2, hN2, hlg2.trans hlg⟩
  exact L6 _ 0 (asideI im) lm (Nat.lt_succ_self _) ⟨by omega, hRa, hRCa, hAa, hN0, lgQ_rfl lm⟩

set_option maxHeartbeats 4000000 in
theorem c_X9_run (l : Launch) (G : GS) (im : IM) (bt rt : Nat) (lm : IM) (h : RC im) (hA : AG im 1000) (h79 : im 30 0 7 ≤ 999) (n what : Int) (hn : ri n) (hwhat : ri what) : Cn l (XR G) yX9_run Y_X9_run [vR 30 0, vI n, vI what] (im, rs bt rt, lm) (pI fun x m' => (¬ ((0 ≤ n ∧ n ≤ 60) ∧ 0 ≤ what ∧ what ≤ 4) → x = -2 ∧ m' = (im, rs bt rt, lm)) ∧ ((0 ≤ n ∧ n ≤ 60) ∧ 0 ≤ what ∧ what ≤ 4 → ∃ im' lm', x = (if what = 0 then im' 30 0 40 else if what = 1 then im' 30 0 30 else if what = 2 then im' 30 0 31 else if what = 3 then im' 30 0 32 else im' 30 0 33) ∧ RI im' ∧ RU im n.toNat im' ∧ lgQ lm' lm ∧ m' = (im', rs bt rt, lm'))) := by
  refine cn_of (by decide) (okR G) rfl (Nat.le_of_ble_eq_true rfl) ?_
  intro M ad hMl F
  subst hMl
  have hR := h.1
  have hX := h.2.1
  have h4 := h.2.2.1
  have h12 := h.2.2.2.1
  have h7 := h.2.2.2.2.1
  have h6 := hX.2.2.1
  have h3 := hX.2.2.2.1
  have hP := h.2.2.2.2.2.2
  have hR := h.1
  have n1 := hn.1
  have n2 := hn.2
  have what1 := hwhat.1
  have what2 := hwhat.2
  refine wp_pad 0 ?_
  show Wp M (XR G) ad Y_X9_run (pI fun x m' => (¬ ((0 ≤ n ∧ n ≤ 60) ∧ 0 ≤ what ∧ what ≤ 4) → x = -2 ∧ m' = (im, rs bt rt, lm)) ∧ ((0 ≤ n ∧ n ≤ 60) ∧ 0 ≤ what ∧ what ≤ 4 → ∃ im' lm', x = (if what = 0 then im' 30 0 40 else if what = 1 then im' 30 0 30 else if what = 2 then im' 30 0 31 else if what = 3 then im' 30 0 32 else im' 30 0 33) ∧ RI im' ∧ RU im n.toNat im' ∧ lgQ lm' lm ∧ m' = (im', rs bt rt, lm'))) 0 [some (vR 30 0), some (vI n), some (vI what)] [] (im, rs bt rt, lm)
  refine q_iload_n (t := 1) F dX9_run_0 rfl rfl rfl ?_
  refine q_i2l (t := 2) F dX9_run_1 (by first | exact hR _ _ _ | (constructor <;> omega)) rfl ?_
  refine q_lconst (t := 3) (x := 0) F dX9_run_2 (by decide) rfl ?_
  refine q_ldc2 (t := 6) (x := 60) F dX9_run_3 kl_X9_242 (by decide) rfl ?_
  refine wp_callS (t := 9) [_, _, _] F dX9_run_6 k_X9_in st_X9_in ml_X9_91 rfl rfl (Nat.le_of_ble_eq_true rfl) (by decide) (c_X9_in _ G _ _ _ _ _ _ _ (by constructor <;> omega) (by constructor <;> omega) (by constructor <;> omega)) rfl (kI ?_)
  rintro x6 m' ⟨hx6, rfl⟩
  have hx6 := if01 hx6
  refine q_if_eq (t := 12) (u := 24) F dX9_run_9 (by first | exact hR _ _ _ | (constructor <;> omega)) (by decide) rfl (fun c9 => ?_) (fun c9 => ?_)
  · refine q_bipush (t := 26) F dX9_run_24 (by decide) rfl ?_
    refine q_iret F dX9_run_26 rfl ?_
    first
      | exact ⟨_, rfl, fun _ => ⟨rfl, rfl⟩, fun z => absurd z (by omega)⟩
      | (refine ⟨_, rfl, fun z => absurd (by omega) z, fun _ => ⟨im2, lm2, ?_, hR2, hU, hlg2, rfl⟩⟩
         (repeat' split) <;> first | rfl | (exfalso; omega))
  · refine q_iload_n (t := 13) F dX9_run_12 rfl rfl rfl ?_
    refine q_i2l (t := 14) F dX9_run_13 (by first | exact hR _ _ _ | (constructor <;> omega)) rfl ?_
    refine q_lconst (t := 15) (x := 0) F dX9_run_14 (by decide) rfl ?_
    refine q_ldc2 (t := 18) (x := 4) F dX9_run_15 kl_X9_125 (by decide) rfl ?_
    refine wp_callS (t := 21) [_, _, _] F dX9_run_18 k_X9_in st_X9_in ml_X9_91 rfl rfl (Nat.le_of_ble_eq_true rfl) (by decide) (c_X9_in _ G _ _ _ _ _ _ _ (by constructor <;> omega) (by constructor <;> omega) (by constructor <;> omega)) rfl (kI ?_)
    rintro x18 m' ⟨hx18, rfl⟩
    have hx18 := if01 hx18
    refine q_if_ne (t := 24) (u := 27) F dX9_run_21 (by first | exact hR _ _ _ | (constructor <;> omega)) (by decide) rfl (fun c21 => ?_) (fun c21 => ?_)
    · refine q_aload_n (t := 28) F dX9_run_27 rfl rfl rfl ?_
      refine q_iload_n (t := 29) F dX9_run_28 rfl rfl rfl ?_
      rw [show vI n = vI ((n.toNat : Nat) : Int) by rw [Int.toNat_of_nonneg (by omega)]]
      refine wp_callV (t := 32) [_] F dX9_run_29 k_X9_runs v_X9_runs ml_X9_410 rfl rfl rfl rfl (Nat.le_of_ble_eq_true rfl) (by decide) (m_30 (by omega)) (c_X9_runs _ G im bt rt lm h hA h79 n.toNat (by omega)) rfl (kV ?_)
      rintro m' ⟨im2, lm2, hR2, hU, hlg2, rfl⟩
      rw [show vI ((n.toNat : Nat) : Int) = vI n by rw [Int.toNat_of_nonneg (by omega)]]
      refine q_iload_n (t := 33) F dX9_run_32 rfl rfl rfl ?_
      refine q_iconst (t := 34) F dX9_run_33 rfl ?_
      refine q_icmp_ge (t := 37) (u := 53) F dX9_run_34 (by first | exact hR _ _ _ | (constructor <;> omega)) (by first | exact hR _ _ _ | (constructor <;> omega)) (by decide) rfl (fun c34 => ?_) (fun c34 => ?_)
      · refine q_iload_n (t := 54) F dX9_run_53 rfl rfl rfl ?_
        refine q_iconst (t := 55) F dX9_run_54 rfl ?_
        refine q_icmp_ne (t := 58) (u := 65) F dX9_run_55 (by first | exact hR _ _ _ | (constructor <;> omega)) (by first | exact hR _ _ _ | (constructor <;> omega)) (by decide) rfl (fun c55 => ?_) (fun c55 => ?_)
        · refine q_iload_n (t := 66) F dX9_run_65 rfl rfl rfl ?_
          refine q_iconst (t := 67) F dX9_run_66 rfl ?_
          refine q_icmp_ne (t := 70) (u := 77) F dX9_run_67 (by first | exact hR _ _ _ | (constructor <;> omega)) (by first | exact hR _ _ _ | (constructor <;> omega)) (by decide) rfl (fun c67 => ?_) (fun c67 => ?_)
          · refine q_aload_n (t := 78) F dX9_run_77 rfl rfl rfl ?_
            refine g_X9_379 (t := 81) F dX9_run_78 rfl rfl ?_
            try simp only [up_app, row_app, scr_app, cpy_app, Nat.reduceEqDiff, Int.reduceToNat, Int.toNat_natCast, and_true, true_and, and_false, false_and, and_self, reduceIte]
            refine q_iret F dX9_run_81 rfl ?_
            first
              | exact ⟨_, rfl, fun _ => ⟨rfl, rfl⟩, fun z => absurd z (by omega)⟩
              | (refine ⟨_, rfl, fun z => absurd (by omega) z, fun _ => ⟨im2, lm2, ?_, hR2, hU, hlg2, rfl⟩⟩
                 (repeat' split) <;> first | rfl | (exfalso; omega))
          · refine q_aload_n (t := 71) F dX9_run_70 rfl rfl rfl ?_
            refine g_X9_376 (t := 74) F dX9_run_71 rfl rfl ?_
            try simp only [up_app, row_app, scr_app, cpy_app, Nat.reduceEqDiff, Int.reduceToNat, Int.toNat_natCast, and_true, true_and, and_false, false_and, and_self, reduceIte]
            refine q_goto (t := 81) F dX9_run_74 (by decide) ?_
            refine q_iret F dX9_run_81 rfl ?_
            first
              | exact ⟨_, rfl, fun _ => ⟨rfl, rfl⟩, fun z => absurd z (by omega)⟩
              | (refine ⟨_, rfl, fun z => absurd (by omega) z, fun _ => ⟨im2, lm2, ?_, hR2, hU, hlg2, rfl⟩⟩
                 (repeat' split) <;> first | rfl | (exfalso; omega))
        · refine q_aload_n (t := 59) F dX9_run_58 rfl rfl rfl ?_
          refine g_X9_373 (t := 62) F dX9_run_59 rfl rfl ?_
          try simp only [up_app, row_app, scr_app, cpy_app, Nat.reduceEqDiff, Int.reduceToNat, Int.toNat_natCast, and_true, true_and, and_false, false_and, and_self, reduceIte]
          refine q_goto (t := 81) F dX9_run_62 (by decide) ?_
          refine q_iret F dX9_run_81 rfl ?_
          first
            | exact ⟨_, rfl, fun _ => ⟨rfl, rfl⟩, fun z => absurd z (by omega)⟩
            | (refine ⟨_, rfl, fun z => absurd (by omega) z, fun _ => ⟨im2, lm2, ?_, hR2, hU, hlg2, rfl⟩⟩
               (repeat' split) <;> first | rfl | (exfalso; omega))
      · refine q_iload_n (t := 38) F dX9_run_37 rfl rfl rfl ?_
        refine q_if_ne (t := 41) (u := 48) F dX9_run_38 (by first | exact hR _ _ _ | (constructor <;> omega)) (by decide) rfl (fun c38 => ?_) (fun c38 => ?_)
        · refine q_aload_n (t := 49) F dX9_run_48 rfl rfl rfl ?_
          refine g_X9_370 (t := 52) F dX9_run_49 rfl rfl ?_
          try simp only [up_app, row_app, scr_app, cpy_app, Nat.reduceEqDiff, Int.reduceToNat, Int.toNat_natCast, and_true, true_and, and_false, false_and, and_self, reduceIte]
          refine q_iret F dX9_run_52 rfl ?_
          first
            | exact ⟨_, rfl, fun _ => ⟨rfl, rfl⟩, fun z => absurd z (by omega)⟩
            | (refine ⟨_, rfl, fun z => absurd (by omega) z, fun _ => ⟨im2, lm2, ?_, hR2, hU, hlg2, rfl⟩⟩
               (repeat' split) <;> first | rfl | (exfalso; omega))
        · refine q_aload_n (t := 42) F dX9_run_41 rfl rfl rfl ?_
          refine g_X9_401 (t := 45) F dX9_run_42 rfl rfl ?_
          try simp only [up_app, row_app, scr_app, cpy_app, Nat.reduceEqDiff, Int.reduceToNat, Int.toNat_natCast, and_true, true_and, and_false, false_and, and_self, reduceIte]
          refine q_goto (t := 52) F dX9_run_45 (by decide) ?_
          refine q_iret F dX9_run_52 rfl ?_
          first
            | exact ⟨_, rfl, fun _ => ⟨rfl, rfl⟩, fun z => absurd z (by omega)⟩
            | (refine ⟨_, rfl, fun z => absurd (by omega) z, fun _ => ⟨im2, lm2, ?_, hR2, hU, hlg2, rfl⟩⟩
               (repeat' split) <;> first | rfl | (exfalso; omega))
    · refine q_bipush (t := 26) F dX9_run_24 (by decide) rfl ?_
      refine q_iret F dX9_run_26 rfl ?_
      first
        | exact ⟨_, rfl, fun _ => ⟨rfl, rfl⟩, fun z => absurd z (by omega)⟩
        | (refine ⟨_, rfl, fun z => absurd (by omega) z, fun _ => ⟨im2, lm2, ?_, hR2, hU, hlg2, rfl⟩⟩
           (repeat' split) <;> first | rfl | (exfalso; omega))

set_option maxHeartbeats 4000000 in
theorem c_X9_off (l : Launch) (G : GS) (im : IM) (bt rt : Nat) (lm : IM) (h : RC im) (hA : AG im 1000) (h79 : im 30 0 7 ≤ 999) (p g n : Int) (hp : ri p) (hg : ri g) (hn : ri n) : Cn l (XR G) yX9_off Y_X9_off [vR 30 0, vI p, vI g, vI n] (im, rs bt rt, lm) (pI fun x m' => (¬ ((0 ≤ p ∧ p < im 30 0 12) ∧ (0 ≤ g ∧ g ≤ 9) ∧ 0 ≤ n ∧ n ≤ 60) → x = -2 ∧ m' = (im, rs bt rt, lm)) ∧ ((0 ≤ p ∧ p < im 30 0 12) ∧ (0 ≤ g ∧ g ≤ 9) ∧ 0 ≤ n ∧ n ≤ 60 → ∃ im' lm', x = whenR im n.toNat (10 * p.toNat + g.toNat) ∧ RI im' ∧ RU im n.toNat im' ∧ lgQ lm' lm ∧ m' = (im', rs bt rt, lm'))) := by
  refine cn_of (by decide) (okR G) rfl (Nat.le_of_ble_eq_true rfl) ?_
  intro M ad hMl F
  subst hMl
  have hR := h.1
  have hX := h.2.1
  have h4 := h.2.2.1
  have h12 := h.2.2.2.1
  have h7 := h.2.2.2.2.1
  have h6 := hX.2.2.1
  have h3 := hX.2.2.2.1
  have hP := h.2.2.2.2.2.2
  have hR := h.1
  have p1 := hp.1
  have p2 := hp.2
  have g1 := hg.1
  have g2 := hg.2
  have n1 := hn.1
  have n2 := hn.2
  refine wp_pad 0 ?_
  show Wp M (XR G) ad Y_X9_off (pI fun x m' => (¬ ((0 ≤ p ∧ p < im 30 0 12) ∧ (0 ≤ g ∧ g ≤ 9) ∧ 0 ≤ n ∧ n ≤ 60) → x = -2 ∧ m' = (im, rs bt rt, lm)) ∧ ((0 ≤ p ∧ p < im 30 0 12) ∧ (0 ≤ g ∧ g ≤ 9) ∧ 0 ≤ n ∧ n ≤ 60 → ∃ im' lm', x = whenR im n.toNat (10 * p.toNat + g.toNat) ∧ RI im' ∧ RU im n.toNat im' ∧ lgQ lm' lm ∧ m' = (im', rs bt rt, lm'))) 0 [some (vR 30 0), some (vI p), some (vI g), some (vI n)] [] (im, rs bt rt, lm)
  refine q_aload_n (t := 1) F dX9_off_0 rfl rfl rfl ?_
  refine q_iload_n (t := 2) F dX9_off_1 rfl rfl rfl ?_
  refine wp_callV (t := 5) [_] F dX9_off_2 k_X9_isOne v_X9_isOne ml_X9_101 rfl rfl rfl rfl (Nat.le_of_ble_eq_true rfl) (by decide) (m_30 (by omega)) (c_X9_isOne _ G im bt rt lm hR h12.1 h12.2 p (by constructor <;> omega)) rfl (kI ?_)
  rintro x2 m' ⟨hx2, rfl⟩
  have hx2 := if01 hx2
  refine q_if_eq (t := 8) (u := 27) F dX9_off_5 (by first | exact hR _ _ _ | (constructor <;> omega)) (by decide) rfl (fun c5 => ?_) (fun c5 => ?_)
  · refine q_bipush (t := 29) F dX9_off_27 (by decide) rfl ?_
    refine q_iret F dX9_off_29 rfl ?_
    first
      | exact ⟨_, rfl, fun _ => ⟨rfl, rfl⟩, fun z => absurd z (by omega)⟩
      | (refine ⟨_, rfl, fun z => absurd (by omega) z, fun _ => ⟨im2, lm2, ?_, hR2, hU, hlg2, rfl⟩⟩
         exact (hU.2.1 (10 * p.toNat + g.toNat) (by omega)).1)
  · refine q_iload_n (t := 9) F dX9_off_8 rfl rfl rfl ?_
    refine wp_callS (t := 12) [_] F dX9_off_9 k_X9_isGap st_X9_isGap ml_X9_138 rfl rfl (Nat.le_of_ble_eq_true rfl) (by decide) (c_X9_isGap _ G im bt rt lm g (by constructor <;> omega)) rfl (kI ?_)
    rintro x9 m' ⟨hx9, rfl⟩
    have hx9 := if01 hx9
    refine q_if_eq (t := 15) (u := 27) F dX9_off_12 (by first | exact hR _ _ _ | (constructor <;> omega)) (by decide) rfl (fun c12 => ?_) (fun c12 => ?_)
    · refine q_bipush (t := 29) F dX9_off_27 (by decide) rfl ?_
      refine q_iret F dX9_off_29 rfl ?_
      first
        | exact ⟨_, rfl, fun _ => ⟨rfl, rfl⟩, fun z => absurd z (by omega)⟩
        | (refine ⟨_, rfl, fun z => absurd (by omega) z, fun _ => ⟨im2, lm2, ?_, hR2, hU, hlg2, rfl⟩⟩
           exact (hU.2.1 (10 * p.toNat + g.toNat) (by omega)).1)
    · refine q_iload_n (t := 16) F dX9_off_15 rfl rfl rfl ?_
      refine q_i2l (t := 17) F dX9_off_16 (by first | exact hR _ _ _ | (constructor <;> omega)) rfl ?_
      refine q_lconst (t := 18) (x := 0) F dX9_off_17 (by decide) rfl ?_
      refine q_ldc2 (t := 21) (x := 60) F dX9_off_18 kl_X9_242 (by decide) rfl ?_
      refine wp_callS (t := 24) [_, _, _] F dX9_off_21 k_X9_in st_X9_in ml_X9_91 rfl rfl (Nat.le_of_ble_eq_true rfl) (by decide) (c_X9_in _ G _ _ _ _ _ _ _ (by constructor <;> omega) (by constructor <;> omega) (by constructor <;> omega)) rfl (kI ?_)
      rintro x21 m' ⟨hx21, rfl⟩
      have hx21 := if01 hx21
      refine q_if_ne (t := 27) (u := 30) F dX9_off_24 (by first | exact hR _ _ _ | (constructor <;> omega)) (by decide) rfl (fun c24 => ?_) (fun c24 => ?_)
      · refine q_aload_n (t := 31) F dX9_off_30 rfl rfl rfl ?_
        refine q_iload_n (t := 32) F dX9_off_31 rfl rfl rfl ?_
        rw [show vI n = vI ((n.toNat : Nat) : Int) by rw [Int.toNat_of_nonneg (by omega)]]
        refine wp_callV (t := 35) [_] F dX9_off_32 k_X9_runs v_X9_runs ml_X9_410 rfl rfl rfl rfl (Nat.le_of_ble_eq_true rfl) (by decide) (m_30 (by omega)) (c_X9_runs _ G im bt rt lm h hA h79 n.toNat (by omega)) rfl (kV ?_)
        rintro m' ⟨im2, lm2, hR2, hU, hlg2, rfl⟩
        rw [show vI ((n.toNat : Nat) : Int) = vI n by rw [Int.toNat_of_nonneg (by omega)]]
        refine q_aload_n (t := 36) F dX9_off_35 rfl rfl rfl ?_
        refine g_X9_38 (t := 39) F dX9_off_36 rfl rfl ?_
        refine q_bipush (t := 41) F dX9_off_39 (by decide) rfl ?_
        refine q_iload_n (t := 42) F dX9_off_41 rfl rfl rfl ?_
        refine q_imul (t := 43) F dX9_off_42 rfl ?_
        refine q_iload_n (t := 44) F dX9_off_43 rfl rfl rfl ?_
        refine q_iadd (t := 45) F dX9_off_44 rfl ?_
        rw [show (10 : Int) * p + g = ((10 * p.toNat + g.toNat : Nat) : Int) by omega]
        first | refine ldN_38 (t := 46) F dX9_off_45 (by omega) rfl ?_ | refine ld_38 (t := 46) F dX9_off_45 (by omega) (by omega) rfl ?_
        try simp only [up_app, row_app, scr_app, cpy_app, Nat.reduceEqDiff, Int.reduceToNat, Int.toNat_natCast, and_true, true_and, and_false, false_and, and_self, reduceIte]
        refine q_iret F dX9_off_46 rfl ?_
        first
          | exact ⟨_, rfl, fun _ => ⟨rfl, rfl⟩, fun z => absurd z (by omega)⟩
          | (refine ⟨_, rfl, fun z => absurd (by omega) z, fun _ => ⟨im2, lm2, ?_, hR2, hU, hlg2, rfl⟩⟩
             exact (hU.2.1 (10 * p.toNat + g.toNat) (by omega)).1)
      · refine q_bipush (t := 29) F dX9_off_27 (by decide) rfl ?_
        refine q_iret F dX9_off_29 rfl ?_
        first
          | exact ⟨_, rfl, fun _ => ⟨rfl, rfl⟩, fun z => absurd z (by omega)⟩
          | (refine ⟨_, rfl, fun z => absurd (by omega) z, fun _ => ⟨im2, lm2, ?_, hR2, hU, hlg2, rfl⟩⟩
             exact (hU.2.1 (10 * p.toNat + g.toNat) (by omega)).1)
end
