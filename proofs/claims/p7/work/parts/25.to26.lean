section
/-! run, off, foods, best, few -/
def runA (im : IM) (n what : Int) : Int := if (0 ≤ n ∧ n ≤ 60) ∧ 0 ≤ what ∧ what < 5 then (if what = 0 then sumF im 0 n.toNat 50 else if what = 1 then cntF im 0 n.toNat 50 else if firstF im 0 n.toNat 50 = -1 then -1 else if what = 2 then im 22 (5 * 0 + (firstF im 0 n.toNat 50 / 10).toNat) (firstF im 0 n.toNat 50 % 10).toNat else if what = 3 then firstF im 0 n.toNat 50 / 10 else whenF im 0 n.toNat (firstF im 0 n.toNat 50).toNat) else -2
theorem FI_agP {im im2 : IM} {w n N : Nat} (h : FI im im2 w n N) : agP im2 im := agP_of (h.1.mono (by decide))

set_option maxHeartbeats 4000000 in
theorem c_X8_run (l : Launch) (G : GS) (im : IM) (bt rt : Nat) (lm : IM) (hbt : bt < 6) (hrt : rt < 6) (hS : SC im) (n : Int) (what : Int) (hn : ri n) (hwhat : ri what) : Cn l (XC G) yX8_run Y_X8_run [vR 0 0, vI n, vI what] (im, rs bt rt, lm) (pI fun x m' => x = runA im n what ∧ stC lm im m') := by
  refine cn_of (by decide) (okC G) rfl (Nat.le_of_ble_eq_true rfl) ?_
  intro M ad hMl F
  subst hMl
  obtain ⟨hR, hW, hh, htc, hru, hgt, hz, hrd, hsh, him, htp⟩ := hS
  have w1 := hW.1
  have w2 := hW.2.1
  have w3 := hW.2.2.1
  have w4 := hW.2.2.2.1
  have w5 := hW.2.2.2.2.1
  have hn1 := hn.1
  have hn2 := hn.2
  have hwhat1 := hwhat.1
  have hwhat2 := hwhat.2
  refine wp_pad 1 ?_
  show Wp M (XC G) ad Y_X8_run (pI fun x m' => x = runA im n what ∧ stC lm im m') 0 [some (vR 0 0), some (vI n), some (vI what), none] [] (im, rs bt rt, lm)
  refine q_iload_n (t := 1) F dX8_run_0 rfl rfl rfl ?_
  refine wp_callS (t := 4) [_] F dX8_run_1 k_X8_isSpan st_X8_isSpan ml_X8_163 rfl rfl (Nat.le_of_ble_eq_true rfl) (by decide) (c_X8_isSpan _ G _ bt rt lm n hn) rfl (kI ?_)
  rintro x1 m' ⟨hx1, rfl⟩
  have hx1 := if01 hx1
  refine q_if_eq (t := 7) (u := 15) F dX8_run_4 (by first | exact hR _ _ _ | (constructor <;> omega)) (by decide) rfl (fun c4 => ?_) (fun c4 => ?_)
  · refine q_bipush (t := 17) F dX8_run_15 (by decide) rfl ?_
    refine q_iret F dX8_run_17 rfl ?_
    refine ⟨_, rfl, ?_, _, bt, rt, hbt, hrt, (by repeat' first | exact hR | refine RI_up ?_ ?_ | assumption | exact hR _ _ _ | (constructor <;> omega)), ?_, rfl⟩
    · unfold runA
      (repeat' split) <;> omega
    · exact agP_rfl _
  · refine q_iload_n (t := 8) F dX8_run_7 rfl rfl rfl ?_
    refine q_iconst (t := 9) F dX8_run_8 rfl ?_
    refine wp_callS (t := 12) [_, _] F dX8_run_9 k_X8_within st_X8_within ml_X8_95 rfl rfl (Nat.le_of_ble_eq_true rfl) (by decide) (c_X8_within _ G _ bt rt lm what 5 hwhat (by constructor <;> omega)) rfl (kI ?_)
    rintro x9 m' ⟨hx9, rfl⟩
    have hx9 := if01 hx9
    refine q_if_ne (t := 15) (u := 18) F dX8_run_12 (by first | exact hR _ _ _ | (constructor <;> omega)) (by decide) rfl (fun c12 => ?_) (fun c12 => ?_)
    · obtain ⟨n, rfl⟩ : ∃ k : Nat, n = (k : Int) := ⟨n.toNat, by omega⟩
      refine q_aload_n (t := 19) F dX8_run_18 rfl rfl rfl ?_
      refine g_X8_24 (t := 22) F dX8_run_19 rfl rfl ?_
      refine q_aload_n (t := 23) F dX8_run_22 rfl rfl rfl ?_
      refine g_X8_51 (t := 26) F dX8_run_23 rfl rfl ?_
      refine q_aload_n (t := 27) F dX8_run_26 rfl rfl rfl ?_
      refine g_X8_42 (t := 30) F dX8_run_27 rfl rfl ?_
      refine q_iload_n (t := 31) F dX8_run_30 rfl rfl rfl ?_
      refine wp_callV (t := 34) [_, _, _] F dX8_run_31 k_X1_look v_X1_look ml_X8_166 rfl rfl rfl rfl (Nat.le_of_ble_eq_true rfl) (by decide) (m_9 (by omega)) (c_X1_look _ G im bt rt lm 0 (by omega) hbt hR hW n (by omega)) rfl (kV ?_)
      rintro m' ⟨im2, bt2, hbt2, hR2, hFI, rfl⟩
      have hq1 : im2 9 0 4 = sumF im 0 n 50 := hFI.2.2.1
      have hq2 : im2 9 0 5 = cntF im 0 n 50 := hFI.2.2.2.1
      have hq3 : im2 9 0 6 = firstF im 0 n 50 := hFI.2.2.2.2
      have hq4 := firstF_in im 0 n 50
      have hq5 := sumF_in (n := n) hW 50
      refine q_iload_n (t := 35) F dX8_run_34 rfl rfl rfl ?_
      refine q_if_ne (t := 38) (u := 46) F dX8_run_35 (by first | exact hR _ _ _ | (constructor <;> omega)) (by decide) rfl (fun c35 => ?_) (fun c35 => ?_)
      · refine q_iload_n (t := 47) F dX8_run_46 rfl rfl rfl ?_
        refine q_iconst (t := 48) F dX8_run_47 rfl ?_
        refine q_icmp_ne (t := 51) (u := 59) F dX8_run_48 (by first | exact hR _ _ _ | (constructor <;> omega)) (by first | exact hR _ _ _ | (constructor <;> omega)) (by decide) rfl (fun c48 => ?_) (fun c48 => ?_)
        · refine q_aload_n (t := 60) F dX8_run_59 rfl rfl rfl ?_
          refine g_X8_24 (t := 63) F dX8_run_60 rfl rfl ?_
          refine g_X8_175 (t := 66) F dX8_run_63 rfl rfl ?_
          try simp only [up_app, row_app, scr_app, cpy_app, Nat.reduceEqDiff, Int.reduceToNat, Int.toNat_natCast, and_true, true_and, and_false, false_and, and_self, reduceIte]
          refine q_istore_n (t := 67) F dX8_run_66 rfl (by decide) rfl rfl ?_
          refine q_iload_n (t := 68) F dX8_run_67 rfl rfl rfl ?_
          refine q_bipush (t := 70) F dX8_run_68 (by decide) rfl ?_
          refine wp_callS (t := 73) [_, _] F dX8_run_70 k_X8_within st_X8_within ml_X8_95 rfl rfl (Nat.le_of_ble_eq_true rfl) (by decide) (c_X8_within _ G _ _ rt lm (im2 9 0 6) 50 (hR2 _ _ _) (by constructor <;> omega)) rfl (kI ?_)
          rintro x70 m' ⟨hx70, rfl⟩
          have hx70 := if01 hx70
          refine q_if_ne (t := 76) (u := 78) F dX8_run_73 (by first | exact hR _ _ _ | (constructor <;> omega)) (by decide) rfl (fun c73 => ?_) (fun c73 => ?_)
          · refine q_iload_n (t := 79) F dX8_run_78 rfl rfl rfl ?_
            refine q_iconst (t := 80) F dX8_run_79 rfl ?_
            refine q_icmp_ne (t := 83) (u := 104) F dX8_run_80 (by first | exact hR _ _ _ | (constructor <;> omega)) (by first | exact hR _ _ _ | (constructor <;> omega)) (by decide) rfl (fun c80 => ?_) (fun c80 => ?_)
            · refine q_iload_n (t := 105) F dX8_run_104 rfl rfl rfl ?_
              refine q_iconst (t := 106) F dX8_run_105 rfl ?_
              refine q_icmp_ne (t := 109) (u := 116) F dX8_run_106 (by first | exact hR _ _ _ | (constructor <;> omega)) (by first | exact hR _ _ _ | (constructor <;> omega)) (by decide) rfl (fun c106 => ?_) (fun c106 => ?_)
              · refine q_aload_n (t := 117) F dX8_run_116 rfl rfl rfl ?_
                refine g_X8_24 (t := 120) F dX8_run_117 rfl rfl ?_
                refine g_X8_178 (t := 123) F dX8_run_120 rfl rfl ?_
                refine q_iload_n (t := 124) F dX8_run_123 rfl rfl rfl ?_
                first | refine ldN_10 (t := 125) F dX8_run_124 (by omega) rfl ?_ | refine ld_10 (t := 125) F dX8_run_124 (by omega) (by omega) rfl ?_
                try simp only [up_app, row_app, scr_app, cpy_app, Nat.reduceEqDiff, Int.reduceToNat, Int.toNat_natCast, and_true, true_and, and_false, false_and, and_self, reduceIte]
                refine q_iret F dX8_run_125 rfl ?_
                refine ⟨_, rfl, ?_, im2, bt2, rt, hbt2, hrt, hR2, FI_agP hFI, rfl⟩
                unfold runA
                try simp only [Int.toNat_natCast]
                first
                  | (rw [if_pos (by omega), if_neg (by omega), if_neg (by omega), if_neg (by omega), if_neg (by omega), if_pos (by omega), hq3])
                  | (rw [if_pos (by omega), if_neg (by omega), if_neg (by omega), if_neg (by omega), if_neg (by omega), if_neg (by omega), hq3]
                     exact (hFI.2.1 _ (by omega)).1)
              · refine q_iload_n (t := 110) F dX8_run_109 rfl rfl rfl ?_
                refine q_bipush (t := 112) F dX8_run_110 (by decide) rfl ?_
                refine q_idiv (t := 113) F dX8_run_112 (by exact hR2 _ _ _) (by constructor <;> omega) (by omega) (by omega) rfl ?_
                refine q_goto (t := 125) F dX8_run_113 (by decide) ?_
                refine q_iret F dX8_run_125 rfl ?_
                refine ⟨_, rfl, ?_, im2, bt2, rt, hbt2, hrt, hR2, FI_agP hFI, rfl⟩
                unfold runA
                try simp only [Int.toNat_natCast]
                first
                  | (rw [if_pos (by omega), if_neg (by omega), if_neg (by omega), if_neg (by omega), if_neg (by omega), if_pos (by omega), hq3])
                  | (rw [if_pos (by omega), if_neg (by omega), if_neg (by omega), if_neg (by omega), if_neg (by omega), if_neg (by omega), hq3]
                     exact (hFI.2.1 _ (by omega)).1)
            · refine q_aload_n (t := 84) F dX8_run_83 rfl rfl rfl ?_
              refine g_X8_51 (t := 87) F dX8_run_84 rfl rfl ?_
              refine g_X8_99 (t := 90) F dX8_run_87 rfl (by omega) rfl ?_
              refine q_iload_n (t := 91) F dX8_run_90 rfl rfl rfl ?_
              refine q_bipush (t := 93) F dX8_run_91 (by decide) rfl ?_
              refine q_idiv (t := 94) F dX8_run_93 (by exact hR2 _ _ _) (by constructor <;> omega) (by omega) (by omega) rfl ?_
              first | refine laN_19 (t := 95) F dX8_run_94 (by omega) (by omega) rfl ?_ | refine la_19 (t := 95) F dX8_run_94 (by omega) (by omega) (by omega) rfl ?_
              refine g_X8_132 (t := 98) F dX8_run_95 rfl (by omega) rfl ?_
              refine q_iload_n (t := 99) F dX8_run_98 rfl rfl rfl ?_
              refine q_bipush (t := 101) F dX8_run_99 (by decide) rfl ?_
              refine q_irem (t := 102) F dX8_run_101 (by exact hR2 _ _ _) (by constructor <;> omega) (by omega) (by omega) rfl ?_
              first | refine ldN_22 (t := 103) F dX8_run_102 (by omega) (by omega) rfl ?_ | refine ld_22 (t := 103) F dX8_run_102 (by omega) (by omega) (by omega) rfl ?_
              try simp only [up_app, row_app, scr_app, cpy_app, Nat.reduceEqDiff, Int.reduceToNat, Int.toNat_natCast, and_true, true_and, and_false, false_and, and_self, reduceIte]
              refine q_iret F dX8_run_103 rfl ?_
              refine ⟨_, rfl, ?_, im2, bt2, rt, hbt2, hrt, hR2, FI_agP hFI, rfl⟩
              unfold runA
              try simp only [Int.toNat_natCast]
              rw [if_pos (by omega), if_neg (by omega), if_neg (by omega), if_neg (by omega), if_pos (by omega), hq3]
              exact hFI.1 22 (by decide) _ _
          · refine q_iconst (t := 77) F dX8_run_76 rfl ?_
            refine q_iret F dX8_run_77 rfl ?_
            refine ⟨_, rfl, ?_, im2, bt2, rt, hbt2, hrt, hR2, FI_agP hFI, rfl⟩
            unfold runA
            try simp only [Int.toNat_natCast]
            rw [if_pos (by omega), if_neg (by omega), if_neg (by omega), if_pos (by omega)]
        · refine q_aload_n (t := 52) F dX8_run_51 rfl rfl rfl ?_
          refine g_X8_24 (t := 55) F dX8_run_52 rfl rfl ?_
          refine g_X8_172 (t := 58) F dX8_run_55 rfl rfl ?_
          try simp only [up_app, row_app, scr_app, cpy_app, Nat.reduceEqDiff, Int.reduceToNat, Int.toNat_natCast, and_true, true_and, and_false, false_and, and_self, reduceIte]
          refine q_iret F dX8_run_58 rfl ?_
          refine ⟨_, rfl, ?_, im2, bt2, rt, hbt2, hrt, hR2, FI_agP hFI, rfl⟩
          unfold runA
          try simp only [Int.toNat_natCast]
          rw [if_pos (by omega), if_neg (by omega), if_pos (by omega), hq2]
      · refine q_aload_n (t := 39) F dX8_run_38 rfl rfl rfl ?_
        refine g_X8_24 (t := 42) F dX8_run_39 rfl rfl ?_
        refine g_X8_169 (t := 45) F dX8_run_42 rfl rfl ?_
        try simp only [up_app, row_app, scr_app, cpy_app, Nat.reduceEqDiff, Int.reduceToNat, Int.toNat_natCast, and_true, true_and, and_false, false_and, and_self, reduceIte]
        refine q_iret F dX8_run_45 rfl ?_
        refine ⟨_, rfl, ?_, im2, bt2, rt, hbt2, hrt, hR2, FI_agP hFI, rfl⟩
        unfold runA
        try simp only [Int.toNat_natCast]
        rw [if_pos (by omega), if_pos (by omega), hq1]
    · refine q_bipush (t := 17) F dX8_run_15 (by decide) rfl ?_
      refine q_iret F dX8_run_17 rfl ?_
      refine ⟨_, rfl, ?_, _, bt, rt, hbt, hrt, (by repeat' first | exact hR | refine RI_up ?_ ?_ | assumption | exact hR _ _ _ | (constructor <;> omega)), ?_, rfl⟩
      · unfold runA
        (repeat' split) <;> omega
      · exact agP_rfl _

def offA (im : IM) (man gap n : Int) : Int := if (0 ≤ man ∧ man < im 18 0 3) ∧ (0 ≤ gap ∧ gap < 10) ∧ 0 ≤ n ∧ n ≤ 60 then goesW im 0 man.toNat gap.toNat n.toNat else -2

set_option maxHeartbeats 4000000 in
theorem c_X8_off (l : Launch) (G : GS) (im : IM) (bt rt : Nat) (lm : IM) (hbt : bt < 6) (hrt : rt < 6) (hS : SC im) (man : Int) (gap : Int) (n : Int) (hman : ri man) (hgap : ri gap) (hn : ri n) : Cn l (XC G) yX8_off Y_X8_off [vR 0 0, vI man, vI gap, vI n] (im, rs bt rt, lm) (pI fun x m' => x = offA im man gap n ∧ stC lm im m') := by
  refine cn_of (by decide) (okC G) rfl (Nat.le_of_ble_eq_true rfl) ?_
  intro M ad hMl F
  subst hMl
  obtain ⟨hR, hW, hh, htc, hru, hgt, hz, hrd, hsh, him, htp⟩ := hS
  have w1 := hW.1
  have w2 := hW.2.1
  have w3 := hW.2.2.1
  have w4 := hW.2.2.2.1
  have w5 := hW.2.2.2.2.1
  have hman1 := hman.1
  have hman2 := hman.2
  have hgap1 := hgap.1
  have hgap2 := hgap.2
  have hn1 := hn.1
  have hn2 := hn.2
  refine wp_pad 0 ?_
  show Wp M (XC G) ad Y_X8_off (pI fun x m' => x = offA im man gap n ∧ stC lm im m') 0 [some (vR 0 0), some (vI man), some (vI gap), some (vI n)] [] (im, rs bt rt, lm)
  refine q_aload_n (t := 1) F dX8_off_0 rfl rfl rfl ?_
  refine q_iload_n (t := 2) F dX8_off_1 rfl rfl rfl ?_
  refine wp_callV (t := 5) [_] F dX8_off_2 k_X8_isOne v_X8_isOne ml_X8_91 rfl rfl rfl rfl (Nat.le_of_ble_eq_true rfl) (by decide) (m_0 (by omega)) (c_X8_isOne _ G _ bt rt lm man hman hR) rfl (kI ?_)
  rintro x2 m' ⟨hx2, rfl⟩
  have hx2 := if01 hx2
  refine q_if_eq (t := 8) (u := 24) F dX8_off_5 (by first | exact hR _ _ _ | (constructor <;> omega)) (by decide) rfl (fun c5 => ?_) (fun c5 => ?_)
  · refine q_bipush (t := 26) F dX8_off_24 (by decide) rfl ?_
    refine q_iret F dX8_off_26 rfl ?_
    refine ⟨_, rfl, ?_, _, bt, rt, hbt, hrt, (by repeat' first | exact hR | refine RI_up ?_ ?_ | assumption | exact hR _ _ _ | (constructor <;> omega)), ?_, rfl⟩
    · unfold offA
      (repeat' split) <;> omega
    · exact agP_rfl _
  · refine q_iload_n (t := 9) F dX8_off_8 rfl rfl rfl ?_
    refine q_bipush (t := 11) F dX8_off_9 (by decide) rfl ?_
    refine wp_callS (t := 14) [_, _] F dX8_off_11 k_X8_within st_X8_within ml_X8_95 rfl rfl (Nat.le_of_ble_eq_true rfl) (by decide) (c_X8_within _ G _ bt rt lm gap 10 hgap (by constructor <;> omega)) rfl (kI ?_)
    rintro x11 m' ⟨hx11, rfl⟩
    have hx11 := if01 hx11
    refine q_if_eq (t := 17) (u := 24) F dX8_off_14 (by first | exact hR _ _ _ | (constructor <;> omega)) (by decide) rfl (fun c14 => ?_) (fun c14 => ?_)
    · refine q_bipush (t := 26) F dX8_off_24 (by decide) rfl ?_
      refine q_iret F dX8_off_26 rfl ?_
      refine ⟨_, rfl, ?_, _, bt, rt, hbt, hrt, (by repeat' first | exact hR | refine RI_up ?_ ?_ | assumption | exact hR _ _ _ | (constructor <;> omega)), ?_, rfl⟩
      · unfold offA
        (repeat' split) <;> omega
      · exact agP_rfl _
    · refine q_iload_n (t := 18) F dX8_off_17 rfl rfl rfl ?_
      refine wp_callS (t := 21) [_] F dX8_off_18 k_X8_isSpan st_X8_isSpan ml_X8_163 rfl rfl (Nat.le_of_ble_eq_true rfl) (by decide) (c_X8_isSpan _ G _ bt rt lm n hn) rfl (kI ?_)
      rintro x18 m' ⟨hx18, rfl⟩
      have hx18 := if01 hx18
      refine q_if_ne (t := 24) (u := 27) F dX8_off_21 (by first | exact hR _ _ _ | (constructor <;> omega)) (by decide) rfl (fun c21 => ?_) (fun c21 => ?_)
      · obtain ⟨man, rfl⟩ : ∃ k : Nat, man = (k : Int) := ⟨man.toNat, by omega⟩
        obtain ⟨gap, rfl⟩ : ∃ k : Nat, gap = (k : Int) := ⟨gap.toNat, by omega⟩
        obtain ⟨n, rfl⟩ : ∃ k : Nat, n = (k : Int) := ⟨n.toNat, by omega⟩
        obtain ⟨r0, r1, hT, k0, k1, n0, n1, hga, hh0, hh1, hm5⟩ := cell_of hW (man := man) (by omega)
        refine q_aload_n (t := 28) F dX8_off_27 rfl rfl rfl ?_
        refine g_X8_42 (t := 31) F dX8_off_28 rfl rfl ?_
        refine q_aload_n (t := 32) F dX8_off_31 rfl rfl rfl ?_
        refine g_X8_51 (t := 35) F dX8_off_32 rfl rfl ?_
        refine q_iload_n (t := 36) F dX8_off_35 rfl rfl rfl ?_
        refine q_iload_n (t := 37) F dX8_off_36 rfl rfl rfl ?_
        refine wp_callV (t := 40) [_, _, _] F dX8_off_37 k_X0_look v_X0_look ml_X8_139 rfl rfl rfl rfl (Nat.le_of_ble_eq_true rfl) (by decide) (m_16 (by omega)) (c_X0_look _ G im bt rt lm 0 man gap (by omega) hm5 (by omega) r0 r1) rfl (kV ?_)
        rintro m' rfl
        have hRl := RI_look (w := 0) (p := man) (g := gap) hR (by omega)
        have hb4 : (im 18 0 7).toNat < 6 := by omega
        refine q_aload_n (t := 41) F dX8_off_40 rfl rfl rfl ?_
        refine g_X8_42 (t := 44) F dX8_off_41 rfl rfl ?_
        refine q_iload_n (t := 45) F dX8_off_44 rfl rfl rfl ?_
        refine wp_callV (t := 48) [_] F dX8_off_45 k_X0_goesOffIn v_X0_goesOffIn ml_X8_181 rfl rfl rfl rfl (Nat.le_of_ble_eq_true rfl) (by decide) (m_16 (by omega)) (c_X0_goesOffIn _ G (lookM im 0 man gap) (im 18 0 7).toNat rt lm n (by omega) hb4 hRl (goodT_congr (fun s => rfl) (fun s => rfl) hT) k0 k1 n0 n1 (hga gap (by omega)) hh0 hh1) rfl (kI ?_)
        rintro x45 m' ⟨hx, hgb⟩
        obtain ⟨im3, hR3, hag3, rfl⟩ := garb_ag hgb hRl
        rw [look_goes] at hx
        refine q_iret F dX8_off_48 rfl ?_
        refine ⟨_, rfl, ?_, im3, _, rt, hb4, hrt, hR3, agP_of ((hag3.mono (by decide)).trans ((look_ag im 0 man gap).mono (by decide))), rfl⟩
        unfold offA
        simp only [Int.toNat_natCast]
        rw [if_pos (by omega), hx]
      · refine q_bipush (t := 26) F dX8_off_24 (by decide) rfl ?_
        refine q_iret F dX8_off_26 rfl ?_
        refine ⟨_, rfl, ?_, _, bt, rt, hbt, hrt, (by repeat' first | exact hR | refine RI_up ?_ ?_ | assumption | exact hR _ _ _ | (constructor <;> omega)), ?_, rfl⟩
        · unfold offA
          (repeat' split) <;> omega
        · exact agP_rfl _

def fdF (im : IM) (man : Nat) (w gap : Int) : Nat → Nat
  | 0 => 0
  | f + 1 => if takesW im 0 man w f = gap then fdF im man w gap f ||| 2 ^ f else fdF im man w gap f
theorem fdF_s (im : IM) (man : Nat) (w gap : Int) (f : Nat) : fdF im man w gap (f + 1) = if takesW im 0 man w f = gap then fdF im man w gap f ||| 2 ^ f else fdF im man w gap f := rfl
def foodsA (im : IM) (man w gap : Int) : Int := if (0 ≤ man ∧ man < im 18 0 3) ∧ (0 ≤ w ∧ w < 16) ∧ 0 ≤ gap ∧ gap < 10 then (if im 22 (5 * 0 + man.toNat) gap.toNat = -1 then ((fdF im man.toNat w gap 10 : Nat) : Int) else 0) else -2
theorem pow_cast (g : Nat) : (1 : Int) * 2 ^ (g : Int).toNat = ((2 ^ g : Nat) : Int) := by
  rw [Int.toNat_natCast, Int.one_mul]
  exact (Int.natCast_pow 2 g).symm

set_option maxHeartbeats 4000000 in
theorem c_X8_foods (l : Launch) (G : GS) (im : IM) (bt rt : Nat) (lm : IM) (hbt : bt < 6) (hrt : rt < 6) (hS : SC im) (man : Int) (w : Int) (gap : Int) (hman : ri man) (hw : ri w) (hgap : ri gap) : Cn l (XC G) yX8_foods Y_X8_foods [vR 0 0, vI man, vI w, vI gap] (im, rs bt rt, lm) (pI fun x m' => x = foodsA im man w gap ∧ stC lm im m') := by
  refine cn_of (by decide) (okC G) rfl (Nat.le_of_ble_eq_true rfl) ?_
  intro M ad hMl F
  subst hMl
  obtain ⟨hR, hW, hh, htc, hru, hgt, hz, hrd, hsh, him, htp⟩ := hS
  have w1 := hW.1
  have w2 := hW.2.1
  have w3 := hW.2.2.1
  have w4 := hW.2.2.2.1
  have w5 := hW.2.2.2.2.1
  have hman1 := hman.1
  have hman2 := hman.2
  have hw1 := hw.1
  have hw2 := hw.2
  have hgap1 := hgap.1
  have hgap2 := hgap.2
  refine wp_pad 2 ?_
  show Wp M (XC G) ad Y_X8_foods (pI fun x m' => x = foodsA im man w gap ∧ stC lm im m') 0 [some (vR 0 0), some (vI man), some (vI w), some (vI gap), none, none] [] (im, rs bt rt, lm)
  refine q_aload_n (t := 1) F dX8_foods_0 rfl rfl rfl ?_
  refine q_iload_n (t := 2) F dX8_foods_1 rfl rfl rfl ?_
  refine wp_callV (t := 5) [_] F dX8_foods_2 k_X8_isOne v_X8_isOne ml_X8_91 rfl rfl rfl rfl (Nat.le_of_ble_eq_true rfl) (by decide) (m_0 (by omega)) (c_X8_isOne _ G _ bt rt lm man hman hR) rfl (kI ?_)
  rintro x2 m' ⟨hx2, rfl⟩
  have hx2 := if01 hx2
  refine q_if_eq (t := 8) (u := 26) F dX8_foods_5 (by first | exact hR _ _ _ | (constructor <;> omega)) (by decide) rfl (fun c5 => ?_) (fun c5 => ?_)
  · refine q_bipush (t := 28) F dX8_foods_26 (by decide) rfl ?_
    refine q_iret F dX8_foods_28 rfl ?_
    refine ⟨_, rfl, ?_, _, bt, rt, hbt, hrt, (by repeat' first | exact hR | refine RI_up ?_ ?_ | assumption | exact hR _ _ _ | (constructor <;> omega)), ?_, rfl⟩
    · unfold foodsA
      (repeat' split) <;> omega
    · exact agP_rfl _
  · refine q_iload_n (t := 9) F dX8_foods_8 rfl rfl rfl ?_
    refine q_bipush (t := 11) F dX8_foods_9 (by decide) rfl ?_
    refine wp_callS (t := 14) [_, _] F dX8_foods_11 k_X8_within st_X8_within ml_X8_95 rfl rfl (Nat.le_of_ble_eq_true rfl) (by decide) (c_X8_within _ G _ bt rt lm w 16 hw (by constructor <;> omega)) rfl (kI ?_)
    rintro x11 m' ⟨hx11, rfl⟩
    have hx11 := if01 hx11
    refine q_if_eq (t := 17) (u := 26) F dX8_foods_14 (by first | exact hR _ _ _ | (constructor <;> omega)) (by decide) rfl (fun c14 => ?_) (fun c14 => ?_)
    · refine q_bipush (t := 28) F dX8_foods_26 (by decide) rfl ?_
      refine q_iret F dX8_foods_28 rfl ?_
      refine ⟨_, rfl, ?_, _, bt, rt, hbt, hrt, (by repeat' first | exact hR | refine RI_up ?_ ?_ | assumption | exact hR _ _ _ | (constructor <;> omega)), ?_, rfl⟩
      · unfold foodsA
        (repeat' split) <;> omega
      · exact agP_rfl _
    · refine q_iload_n (t := 18) F dX8_foods_17 rfl rfl rfl ?_
      refine q_bipush (t := 20) F dX8_foods_18 (by decide) rfl ?_
      refine wp_callS (t := 23) [_, _] F dX8_foods_20 k_X8_within st_X8_within ml_X8_95 rfl rfl (Nat.le_of_ble_eq_true rfl) (by decide) (c_X8_within _ G _ bt rt lm gap 10 hgap (by constructor <;> omega)) rfl (kI ?_)
      rintro x20 m' ⟨hx20, rfl⟩
      have hx20 := if01 hx20
      refine q_if_ne (t := 26) (u := 29) F dX8_foods_23 (by first | exact hR _ _ _ | (constructor <;> omega)) (by decide) rfl (fun c23 => ?_) (fun c23 => ?_)
      · obtain ⟨man, rfl⟩ : ∃ k : Nat, man = (k : Int) := ⟨man.toNat, by omega⟩
        obtain ⟨gap, rfl⟩ : ∃ k : Nat, gap = (k : Int) := ⟨gap.toNat, by omega⟩
        refine q_aload_n (t := 30) F dX8_foods_29 rfl rfl rfl ?_
        refine g_X8_51 (t := 33) F dX8_foods_30 rfl rfl ?_
        refine g_X8_99 (t := 36) F dX8_foods_33 rfl (by omega) rfl ?_
        refine q_iload_n (t := 37) F dX8_foods_36 rfl rfl rfl ?_
        first | refine laN_19 (t := 38) F dX8_foods_37 (by omega) (by omega) rfl ?_ | refine la_19 (t := 38) F dX8_foods_37 (by omega) (by omega) (by omega) rfl ?_
        refine g_X8_132 (t := 41) F dX8_foods_38 rfl (by omega) rfl ?_
        refine q_iload_n (t := 42) F dX8_foods_41 rfl rfl rfl ?_
        first | refine ldN_22 (t := 43) F dX8_foods_42 (by omega) (by omega) rfl ?_ | refine ld_22 (t := 43) F dX8_foods_42 (by omega) (by omega) (by omega) rfl ?_
        try simp only [up_app, row_app, scr_app, cpy_app, Nat.reduceEqDiff, Int.reduceToNat, Int.toNat_natCast, and_true, true_and, and_false, false_and, and_self, reduceIte]
        refine q_iconst (t := 44) F dX8_foods_43 rfl ?_
        refine q_icmp_eq (t := 47) (u := 49) F dX8_foods_44 (by first | exact hR _ _ _ | (constructor <;> omega)) (by first | exact hR _ _ _ | (constructor <;> omega)) (by decide) rfl (fun c44 => ?_) (fun c44 => ?_)
        · refine q_iconst (t := 50) F dX8_foods_49 rfl ?_
          refine q_istore (t := 52) F dX8_foods_50 (by decide) rfl rfl ?_
          refine q_iconst (t := 53) F dX8_foods_52 rfl ?_
          refine q_istore (t := 55) F dX8_foods_53 (by decide) rfl rfl ?_
          have L55 : ∀ (fz : Nat) (f : Nat) (im2 : IM), 10 - f < fz → f ≤ 10 → RI im2 → ag [5, 20] im2 im → Wp M (XC G) ad Y_X8_foods (pI fun x m' => x = foodsA im man w gap ∧ stC lm im m') 55 [some (vR 0 0), some (vI (man : Int)), some (vI w), some (vI (gap : Int)), some (vI ((fdF im man w gap f : Nat) : Int)), some (vI (f : Int))] [] (im2, rs bt rt, lm) := by
            intro fz
            induction fz with
            | zero => intro f im2 h; exact absurd h (Nat.not_lt_zero _)
            | succ fz ih =>
              have ih55 := ih
              intro f im2 hmeas hf hR2 hag2
              have hW2 := WI_ag hag2 (by decide) (by decide) (by decide) (by decide) (by decide) (by decide) hW
              have e3 : im2 18 0 3 = im 18 0 3 := hag2 18 (by decide) 0 3
              refine q_iload (t := 57) F dX8_foods_55 rfl rfl ?_
              refine q_bipush (t := 59) F dX8_foods_57 (by decide) rfl ?_
              refine q_icmp_ge (t := 62) (u := 92) F dX8_foods_59 (by first | exact hR _ _ _ | (constructor <;> omega)) (by first | exact hR _ _ _ | (constructor <;> omega)) (by decide) rfl (fun c59 => ?_) (fun c59 => ?_)
              · refine q_iload (t := 94) F dX8_foods_92 rfl rfl ?_
                refine q_iret F dX8_foods_94 rfl ?_
                refine ⟨_, rfl, ?_, im2, bt, rt, hbt, hrt, hR2, agP_of (hag2.mono (by decide)), rfl⟩
                unfold foodsA
                simp only [Int.toNat_natCast]
                rw [if_pos (by omega), if_pos (by omega), show f = 10 by omega]
              · refine q_aload_n (t := 63) F dX8_foods_62 rfl rfl rfl ?_
                refine g_X8_51 (t := 66) F dX8_foods_63 rfl rfl ?_
                refine q_iload_n (t := 67) F dX8_foods_66 rfl rfl rfl ?_
                refine q_iload_n (t := 68) F dX8_foods_67 rfl rfl rfl ?_
                refine q_iload (t := 70) F dX8_foods_68 rfl rfl ?_
                refine wp_callV (t := 73) [_, _, _] F dX8_foods_70 k_X7_takes v_X7_takes ml_X8_184 rfl rfl rfl rfl (Nat.le_of_ble_eq_true rfl) (by decide) (m_18 (by omega)) (c_X7_takes _ G im2 bt rt lm 0 (by omega) hR2 hW2 man (by rw [e3]; omega) w f hw (by constructor <;> omega)) rfl (kI ?_)
                rintro x70 m' ⟨hx, im3, hR3, hag3, rfl⟩
                rw [takesW_ag hag2 (by decide) (by decide) (by decide) (by decide) (by decide)] at hx
                have htk := takesW_in im 0 man w f
                refine q_iload_n (t := 74) F dX8_foods_73 rfl rfl rfl ?_
                refine q_icmp_ne (t := 77) (u := 86) F dX8_foods_74 (by constructor <;> omega) (by constructor <;> omega) (by decide) rfl (fun c74 => ?_) (fun c74 => ?_)
                · refine q_iinc (t := 89) F dX8_foods_86 rfl (by decide) rfl rfl ?_
                  refine q_goto (t := 55) F dX8_foods_89 (by decide) ?_
                  have hag4 := hag3.trans hag2
                  first
                    | (rw [show (fdF im man w gap f ||| 2 ^ f) = fdF im man w gap (f + 1) from by rw [fdF_s, if_pos (by omega)]]
                       exact ih55 (f + 1) im3 (by omega) (by omega) hR3 hag4)
                    | (rw [show fdF im man w gap f = fdF im man w gap (f + 1) from by rw [fdF_s, if_neg (by omega)]]
                       exact ih55 (f + 1) im3 (by omega) (by omega) hR3 hag4)
                · refine q_iload (t := 79) F dX8_foods_77 rfl rfl ?_
                  refine q_iconst (t := 80) F dX8_foods_79 rfl ?_
                  refine q_iload (t := 82) F dX8_foods_80 rfl rfl ?_
                  refine q_ishl (t := 83) F dX8_foods_82 (by omega) (by omega) rfl ?_
                  rw [pow_cast]
                  refine q_ior (t := 84) F dX8_foods_83 rfl ?_
                  refine q_istore (t := 86) F dX8_foods_84 (by decide) rfl rfl ?_
                  refine q_iinc (t := 89) F dX8_foods_86 rfl (by decide) rfl rfl ?_
                  refine q_goto (t := 55) F dX8_foods_89 (by decide) ?_
                  have hag4 := hag3.trans hag2
                  first
                    | (rw [show (fdF im man w gap f ||| 2 ^ f) = fdF im man w gap (f + 1) from by rw [fdF_s, if_pos (by omega)]]
                       exact ih55 (f + 1) im3 (by omega) (by omega) hR3 hag4)
                    | (rw [show fdF im man w gap f = fdF im man w gap (f + 1) from by rw [fdF_s, if_neg (by omega)]]
                       exact ih55 (f + 1) im3 (by omega) (by omega) hR3 hag4)
          exact L55 _ 0 im (Nat.lt_succ_self _) (by omega) hR (ag_rfl _ _)
        · refine q_iconst (t := 48) F dX8_foods_47 rfl ?_
          refine q_iret F dX8_foods_48 rfl ?_
          refine ⟨_, rfl, ?_, _, bt, rt, hbt, hrt, hR, agP_rfl _, rfl⟩
          unfold foodsA
          simp only [Int.toNat_natCast]
          rw [if_pos (by omega), if_neg (by omega)]
      · refine q_bipush (t := 28) F dX8_foods_26 (by decide) rfl ?_
        refine q_iret F dX8_foods_28 rfl ?_
        refine ⟨_, rfl, ?_, _, bt, rt, hbt, hrt, (by repeat' first | exact hR | refine RI_up ?_ ?_ | assumption | exact hR _ _ _ | (constructor <;> omega)), ?_, rfl⟩
        · unfold foodsA
          (repeat' split) <;> omega
        · exact agP_rfl _

theorem dB_congr {f g : Nat → Int} (n : Nat) (h : ∀ k, k < n → f k = g k) : dB f n = dB g n := by
  induction n with
  | zero => rfl
  | succ n ih =>
    rw [dB_s, dB_s, ih (fun k hk => h k (by omega)), h n (by omega)]
def bestA (im : IM) (n what : Int) : Int := if (0 ≤ n ∧ n ≤ 60) ∧ 0 ≤ what ∧ what < 2 then (if what = 0 then (dB (costF im 0 n.toNat) 50).1 else if (dB (costF im 0 n.toNat) 50).1 = -1 then sumF im 0 n.toNat 50 else sumF im 0 n.toNat 50 - costF im 0 n.toNat (dB (costF im 0 n.toNat) 50).1.toNat) else -2

set_option maxHeartbeats 4000000 in
theorem c_X8_best (l : Launch) (G : GS) (im : IM) (bt rt : Nat) (lm : IM) (hbt : bt < 6) (hrt : rt < 6) (hS : SC im) (n : Int) (what : Int) (hn : ri n) (hwhat : ri what) : Cn l (XC G) yX8_best Y_X8_best [vR 0 0, vI n, vI what] (im, rs bt rt, lm) (pI fun x m' => x = bestA im n what ∧ stC lm im m') := by
  refine cn_of (by decide) (okC G) rfl (Nat.le_of_ble_eq_true rfl) ?_
  intro M ad hMl F
  subst hMl
  obtain ⟨hR, hW, hh, htc, hru, hgt, hz, hrd, hsh, him, htp⟩ := hS
  have w1 := hW.1
  have w2 := hW.2.1
  have w3 := hW.2.2.1
  have w4 := hW.2.2.2.1
  have w5 := hW.2.2.2.2.1
  have hn1 := hn.1
  have hn2 := hn.2
  have hwhat1 := hwhat.1
  have hwhat2 := hwhat.2
  refine wp_pad 1 ?_
  show Wp M (XC G) ad Y_X8_best (pI fun x m' => x = bestA im n what ∧ stC lm im m') 0 [some (vR 0 0), some (vI n), some (vI what), none] [] (im, rs bt rt, lm)
  refine q_iload_n (t := 1) F dX8_best_0 rfl rfl rfl ?_
  refine wp_callS (t := 4) [_] F dX8_best_1 k_X8_isSpan st_X8_isSpan ml_X8_163 rfl rfl (Nat.le_of_ble_eq_true rfl) (by decide) (c_X8_isSpan _ G _ bt rt lm n hn) rfl (kI ?_)
  rintro x1 m' ⟨hx1, rfl⟩
  have hx1 := if01 hx1
  refine q_if_eq (t := 7) (u := 15) F dX8_best_4 (by first | exact hR _ _ _ | (constructor <;> omega)) (by decide) rfl (fun c4 => ?_) (fun c4 => ?_)
  · refine q_bipush (t := 17) F dX8_best_15 (by decide) rfl ?_
    refine q_iret F dX8_best_17 rfl ?_
    refine ⟨_, rfl, ?_, _, bt, rt, hbt, hrt, (by repeat' first | exact hR | refine RI_up ?_ ?_ | assumption | exact hR _ _ _ | (constructor <;> omega)), ?_, rfl⟩
    · unfold bestA
      (repeat' split) <;> omega
    · exact agP_rfl _
  · refine q_iload_n (t := 8) F dX8_best_7 rfl rfl rfl ?_
    refine q_iconst (t := 9) F dX8_best_8 rfl ?_
    refine wp_callS (t := 12) [_, _] F dX8_best_9 k_X8_within st_X8_within ml_X8_95 rfl rfl (Nat.le_of_ble_eq_true rfl) (by decide) (c_X8_within _ G _ bt rt lm what 2 hwhat (by constructor <;> omega)) rfl (kI ?_)
    rintro x9 m' ⟨hx9, rfl⟩
    have hx9 := if01 hx9
    refine q_if_ne (t := 15) (u := 18) F dX8_best_12 (by first | exact hR _ _ _ | (constructor <;> omega)) (by decide) rfl (fun c12 => ?_) (fun c12 => ?_)
    · obtain ⟨n, rfl⟩ : ∃ k : Nat, n = (k : Int) := ⟨n.toNat, by omega⟩
      refine q_aload_n (t := 19) F dX8_best_18 rfl rfl rfl ?_
      refine g_X8_24 (t := 22) F dX8_best_19 rfl rfl ?_
      refine q_aload_n (t := 23) F dX8_best_22 rfl rfl rfl ?_
      refine g_X8_51 (t := 26) F dX8_best_23 rfl rfl ?_
      refine q_aload_n (t := 27) F dX8_best_26 rfl rfl rfl ?_
      refine g_X8_42 (t := 30) F dX8_best_27 rfl rfl ?_
      refine q_iload_n (t := 31) F dX8_best_30 rfl rfl rfl ?_
      refine wp_callV (t := 34) [_, _, _] F dX8_best_31 k_X1_look v_X1_look ml_X8_166 rfl rfl rfl rfl (Nat.le_of_ble_eq_true rfl) (by decide) (m_9 (by omega)) (c_X1_look _ G im bt rt lm 0 (by omega) hbt hR hW n (by omega)) rfl (kV ?_)
      rintro m' ⟨im2, bt2, hbt2, hR2, hFI, rfl⟩
      have hq1 : im2 9 0 4 = sumF im 0 n 50 := hFI.2.2.1
      have hq2 : im2 9 0 5 = cntF im 0 n 50 := hFI.2.2.2.1
      have hq3 : im2 9 0 6 = firstF im 0 n 50 := hFI.2.2.2.2
      have hq4 := firstF_in im 0 n 50
      have hq5 := sumF_in (n := n) hW 50
      refine q_aload_n (t := 35) F dX8_best_34 rfl rfl rfl ?_
      refine g_X8_24 (t := 38) F dX8_best_35 rfl rfl ?_
      refine wp_callV (t := 41) [] F dX8_best_38 k_X1_dearest v_X1_dearest ml_X8_187 rfl rfl rfl rfl (Nat.le_of_ble_eq_true rfl) (by decide) (m_9 (by omega)) (c_X1_dearest _ G im2 bt2 rt lm hR2) rfl (kI ?_)
      rintro x38 m' ⟨hx, rfl⟩
      rw [dB_congr 50 (fun k hk => (hFI.2.1 k hk).2)] at hx
      have hdi := dB_in (costF im 0 n) 50
      subst hx
      refine q_istore_n (t := 42) F dX8_best_41 rfl (by decide) rfl rfl ?_
      refine q_iload_n (t := 43) F dX8_best_42 rfl rfl rfl ?_
      refine q_if_ne (t := 46) (u := 48) F dX8_best_43 (by first | exact hR _ _ _ | (constructor <;> omega)) (by decide) rfl (fun c43 => ?_) (fun c43 => ?_)
      · refine q_iload_n (t := 49) F dX8_best_48 rfl rfl rfl ?_
        refine q_iconst (t := 50) F dX8_best_49 rfl ?_
        refine q_icmp_ne (t := 53) (u := 63) F dX8_best_50 (by first | exact hR _ _ _ | (constructor <;> omega)) (by first | exact hR _ _ _ | (constructor <;> omega)) (by decide) rfl (fun c50 => ?_) (fun c50 => ?_)
        · refine q_aload_n (t := 64) F dX8_best_63 rfl rfl rfl ?_
          refine g_X8_24 (t := 67) F dX8_best_64 rfl rfl ?_
          refine g_X8_169 (t := 70) F dX8_best_67 rfl rfl ?_
          try simp only [up_app, row_app, scr_app, cpy_app, Nat.reduceEqDiff, Int.reduceToNat, Int.toNat_natCast, and_true, true_and, and_false, false_and, and_self, reduceIte]
          refine q_aload_n (t := 71) F dX8_best_70 rfl rfl rfl ?_
          refine g_X8_24 (t := 74) F dX8_best_71 rfl rfl ?_
          refine g_X8_190 (t := 77) F dX8_best_74 rfl rfl ?_
          refine q_iload_n (t := 78) F dX8_best_77 rfl rfl rfl ?_
          first | refine ldN_11 (t := 79) F dX8_best_78 (by omega) rfl ?_ | refine ld_11 (t := 79) F dX8_best_78 (by omega) (by omega) rfl ?_
          try simp only [up_app, row_app, scr_app, cpy_app, Nat.reduceEqDiff, Int.reduceToNat, Int.toNat_natCast, and_true, true_and, and_false, false_and, and_self, reduceIte]
          refine q_isub (t := 80) F dX8_best_79 rfl ?_
          refine q_iret F dX8_best_80 rfl ?_
          refine ⟨_, rfl, ?_, im2, bt2, rt, hbt2, hrt, hR2, FI_agP hFI, rfl⟩
          unfold bestA
          try simp only [Int.toNat_natCast]
          first
            | (rw [if_pos (by omega), if_neg (by omega), if_pos (by omega), hq1])
            | (rw [if_pos (by omega), if_neg (by omega), if_neg (by omega), hq1, (hFI.2.1 _ (by omega)).2])
        · refine q_aload_n (t := 54) F dX8_best_53 rfl rfl rfl ?_
          refine g_X8_24 (t := 57) F dX8_best_54 rfl rfl ?_
          refine g_X8_169 (t := 60) F dX8_best_57 rfl rfl ?_
          try simp only [up_app, row_app, scr_app, cpy_app, Nat.reduceEqDiff, Int.reduceToNat, Int.toNat_natCast, and_true, true_and, and_false, false_and, and_self, reduceIte]
          refine q_goto (t := 80) F dX8_best_60 (by decide) ?_
          refine q_iret F dX8_best_80 rfl ?_
          refine ⟨_, rfl, ?_, im2, bt2, rt, hbt2, hrt, hR2, FI_agP hFI, rfl⟩
          unfold bestA
          try simp only [Int.toNat_natCast]
          first
            | (rw [if_pos (by omega), if_neg (by omega), if_pos (by omega), hq1])
            | (rw [if_pos (by omega), if_neg (by omega), if_neg (by omega), hq1, (hFI.2.1 _ (by omega)).2])
      · refine q_iload_n (t := 47) F dX8_best_46 rfl rfl rfl ?_
        refine q_iret F dX8_best_47 rfl ?_
        refine ⟨_, rfl, ?_, im2, bt2, rt, hbt2, hrt, hR2, FI_agP hFI, rfl⟩
        unfold bestA
        try simp only [Int.toNat_natCast]
        rw [if_pos (by omega), if_pos (by omega)]
    · refine q_bipush (t := 17) F dX8_best_15 (by decide) rfl ?_
      refine q_iret F dX8_best_17 rfl ?_
      refine ⟨_, rfl, ?_, _, bt, rt, hbt, hrt, (by repeat' first | exact hR | refine RI_up ?_ ?_ | assumption | exact hR _ _ _ | (constructor <;> omega)), ?_, rfl⟩
      · unfold bestA
        (repeat' split) <;> omega
      · exact agP_rfl _

theorem svF_congr {f g : Nat → Int} (b n : Nat) (h : ∀ k, k < n → f k = g k) : svF f b n = svF g b n := by
  induction n with
  | zero => rfl
  | succ n ih =>
    show svF f b n + _ = svF g b n + _
    rw [ih (fun k hk => h k (by omega)), h n (by omega)]
theorem fwB_congr {S e : Int} {f g : Nat → Int} (h : ∀ k, k < 10 → f k = g k) (b : Nat) : fwB S f e b = fwB S g e b := by
  induction b with
  | zero => rfl
  | succ b ih => rw [fwB_s, fwB_s, ih, svF_congr b 10 h]
def fewA (im : IM) (man n e : Int) : Int := if (0 ≤ man ∧ man < im 18 0 3) ∧ (0 ≤ n ∧ n ≤ 60) ∧ 0 ≤ e ∧ e ≤ 9999 then fwB (sumF im 0 n.toNat 50) (fun g => costF im 0 n.toNat (10 * man.toNat + g)) e 1024 else -2

set_option maxHeartbeats 4000000 in
theorem c_X8_few (l : Launch) (G : GS) (im : IM) (bt rt : Nat) (lm : IM) (hbt : bt < 6) (hrt : rt < 6) (hS : SC im) (man : Int) (n : Int) (e : Int) (hman : ri man) (hn : ri n) (he : ri e) : Cn l (XC G) yX8_few Y_X8_few [vR 0 0, vI man, vI n, vI e] (im, rs bt rt, lm) (pI fun x m' => x = fewA im man n e ∧ stC lm im m') := by
  refine cn_of (by decide) (okC G) rfl (Nat.le_of_ble_eq_true rfl) ?_
  intro M ad hMl F
  subst hMl
  obtain ⟨hR, hW, hh, htc, hru, hgt, hz, hrd, hsh, him, htp⟩ := hS
  have w1 := hW.1
  have w2 := hW.2.1
  have w3 := hW.2.2.1
  have w4 := hW.2.2.2.1
  have w5 := hW.2.2.2.2.1
  have hman1 := hman.1
  have hman2 := hman.2
  have hn1 := hn.1
  have hn2 := hn.2
  have he1 := he.1
  have he2 := he.2
  refine wp_pad 0 ?_
  show Wp M (XC G) ad Y_X8_few (pI fun x m' => x = fewA im man n e ∧ stC lm im m') 0 [some (vR 0 0), some (vI man), some (vI n), some (vI e)] [] (im, rs bt rt, lm)
  refine q_aload_n (t := 1) F dX8_few_0 rfl rfl rfl ?_
  refine q_iload_n (t := 2) F dX8_few_1 rfl rfl rfl ?_
  refine wp_callV (t := 5) [_] F dX8_few_2 k_X8_isOne v_X8_isOne ml_X8_91 rfl rfl rfl rfl (Nat.le_of_ble_eq_true rfl) (by decide) (m_0 (by omega)) (c_X8_isOne _ G _ bt rt lm man hman hR) rfl (kI ?_)
  rintro x2 m' ⟨hx2, rfl⟩
  have hx2 := if01 hx2
  refine q_if_eq (t := 8) (u := 26) F dX8_few_5 (by first | exact hR _ _ _ | (constructor <;> omega)) (by decide) rfl (fun c5 => ?_) (fun c5 => ?_)
  · refine q_bipush (t := 28) F dX8_few_26 (by decide) rfl ?_
    refine q_iret F dX8_few_28 rfl ?_
    refine ⟨_, rfl, ?_, _, bt, rt, hbt, hrt, (by repeat' first | exact hR | refine RI_up ?_ ?_ | assumption | exact hR _ _ _ | (constructor <;> omega)), ?_, rfl⟩
    · unfold fewA
      (repeat' split) <;> omega
    · exact agP_rfl _
  · refine q_iload_n (t := 9) F dX8_few_8 rfl rfl rfl ?_
    refine wp_callS (t := 12) [_] F dX8_few_9 k_X8_isSpan st_X8_isSpan ml_X8_163 rfl rfl (Nat.le_of_ble_eq_true rfl) (by decide) (c_X8_isSpan _ G _ bt rt lm n hn) rfl (kI ?_)
    rintro x9 m' ⟨hx9, rfl⟩
    have hx9 := if01 hx9
    refine q_if_eq (t := 15) (u := 26) F dX8_few_12 (by first | exact hR _ _ _ | (constructor <;> omega)) (by decide) rfl (fun c12 => ?_) (fun c12 => ?_)
    · refine q_bipush (t := 28) F dX8_few_26 (by decide) rfl ?_
      refine q_iret F dX8_few_28 rfl ?_
      refine ⟨_, rfl, ?_, _, bt, rt, hbt, hrt, (by repeat' first | exact hR | refine RI_up ?_ ?_ | assumption | exact hR _ _ _ | (constructor <;> omega)), ?_, rfl⟩
      · unfold fewA
        (repeat' split) <;> omega
      · exact agP_rfl _
    · refine q_iload_n (t := 16) F dX8_few_15 rfl rfl rfl ?_
      refine q_if_lt (t := 19) (u := 26) F dX8_few_16 (by first | exact hR _ _ _ | (constructor <;> omega)) (by decide) rfl (fun c16 => ?_) (fun c16 => ?_)
      · refine q_bipush (t := 28) F dX8_few_26 (by decide) rfl ?_
        refine q_iret F dX8_few_28 rfl ?_
        refine ⟨_, rfl, ?_, _, bt, rt, hbt, hrt, (by repeat' first | exact hR | refine RI_up ?_ ?_ | assumption | exact hR _ _ _ | (constructor <;> omega)), ?_, rfl⟩
        · unfold fewA
          (repeat' split) <;> omega
        · exact agP_rfl _
      · refine q_iload_n (t := 20) F dX8_few_19 rfl rfl rfl ?_
        refine q_sipush (t := 23) F dX8_few_20 (by decide) rfl ?_
        refine q_icmp_le (t := 26) (u := 29) F dX8_few_23 (by first | exact hR _ _ _ | (constructor <;> omega)) (by first | exact hR _ _ _ | (constructor <;> omega)) (by decide) rfl (fun c23 => ?_) (fun c23 => ?_)
        · obtain ⟨man, rfl⟩ : ∃ k : Nat, man = (k : Int) := ⟨man.toNat, by omega⟩
          obtain ⟨n, rfl⟩ : ∃ k : Nat, n = (k : Int) := ⟨n.toNat, by omega⟩
          refine q_aload_n (t := 30) F dX8_few_29 rfl rfl rfl ?_
          refine g_X8_24 (t := 33) F dX8_few_30 rfl rfl ?_
          refine q_aload_n (t := 34) F dX8_few_33 rfl rfl rfl ?_
          refine g_X8_51 (t := 37) F dX8_few_34 rfl rfl ?_
          refine q_aload_n (t := 38) F dX8_few_37 rfl rfl rfl ?_
          refine g_X8_42 (t := 41) F dX8_few_38 rfl rfl ?_
          refine q_iload_n (t := 42) F dX8_few_41 rfl rfl rfl ?_
          refine wp_callV (t := 45) [_, _, _] F dX8_few_42 k_X1_look v_X1_look ml_X8_166 rfl rfl rfl rfl (Nat.le_of_ble_eq_true rfl) (by decide) (m_9 (by omega)) (c_X1_look _ G im bt rt lm 0 (by omega) hbt hR hW n (by omega)) rfl (kV ?_)
          rintro m' ⟨im2, bt2, hbt2, hR2, hFI, rfl⟩
          have hq1 : im2 9 0 4 = sumF im 0 n 50 := hFI.2.2.1
          have hq2 : im2 9 0 5 = cntF im 0 n 50 := hFI.2.2.2.1
          have hq3 : im2 9 0 6 = firstF im 0 n 50 := hFI.2.2.2.2
          have hq4 := firstF_in im 0 n 50
          have hq5 := sumF_in (n := n) hW 50
          refine q_aload_n (t := 46) F dX8_few_45 rfl rfl rfl ?_
          refine g_X8_24 (t := 49) F dX8_few_46 rfl rfl ?_
          refine q_iload_n (t := 50) F dX8_few_49 rfl rfl rfl ?_
          refine q_iload_n (t := 51) F dX8_few_50 rfl rfl rfl ?_
          refine wp_callV (t := 54) [_, _] F dX8_few_51 k_X1_fewest v_X1_fewest ml_X8_193 rfl rfl rfl rfl (Nat.le_of_ble_eq_true rfl) (by decide) (m_9 (by omega)) (c_X1_fewest _ G im2 bt2 rt lm hR2 man (by omega) e (fun g hg => by rw [(hFI.2.1 _ (show 10 * man + g < 50 by omega)).2]; exact costF_in hW _) (by omega) (by omega) (by omega) (by omega) ((hFI.1 13 (by decide) 0 0).trans hz)) rfl (kI ?_)
          rintro x51 m' ⟨hx, im3, hR3, hz3, hag3, rfl⟩
          rw [hq1, fwB_congr (fun g hg => (hFI.2.1 (10 * man + g) (by omega)).2)] at hx
          refine q_iret F dX8_few_54 rfl ?_
          refine ⟨_, rfl, ?_, im3, bt2, rt, hbt2, hrt, hR3, agP_of13 ((hag3.mono (by decide)).trans (hFI.1.mono (by decide))) (hz3.trans hz.symm), rfl⟩
          unfold fewA
          try simp only [Int.toNat_natCast]
          rw [if_pos (by omega), hx]
        · refine q_bipush (t := 28) F dX8_few_26 (by decide) rfl ?_
          refine q_iret F dX8_few_28 rfl ?_
          refine ⟨_, rfl, ?_, _, bt, rt, hbt, hrt, (by repeat' first | exact hR | refine RI_up ?_ ?_ | assumption | exact hR _ _ _ | (constructor <;> omega)), ?_, rfl⟩
          · unfold fewA
            (repeat' split) <;> omega
          · exact agP_rfl _
end
section
/-! kissing -/
/-- in which of n HOURS a WORD that comes over would go off -/
def laterK (im : IM) (n a b g : Nat) : Int := goK (tellV im (im 18 0 7).toNat) (im 21 (5 * 0 + b) 0) (im 21 (5 * 0 + b) 1) (im 22 (5 * 0 + a) g) 0 g (im 18 0 4) n
def badK (im : IM) (n a b g : Nat) : Int := beK (tellV im (im 18 0 7).toNat) (im 21 (5 * 0 + b) 0) (im 21 (5 * 0 + b) 1) (im 22 (5 * 0 + a) g) 0 g (im 18 0 4) (laterK im n a b g) (chI (im 18 0 5) (im 18 0 4 + laterK im n a b g))
def skF (im : IM) (n a b : Nat) : Nat → Int
  | 0 => sumF im 0 n 50
  | g + 1 => if im 22 (5 * 0 + a) g ≠ -1 ∧ im 22 (5 * 0 + b) g = -1 then skF im n a b g + (if laterK im n a b g = -1 then 0 else badK im n a b g) - costF im 0 n (10 * a + g) else skF im n a b g
theorem skF_s (im : IM) (n a b g : Nat) : skF im n a b (g + 1) = if im 22 (5 * 0 + a) g ≠ -1 ∧ im 22 (5 * 0 + b) g = -1 then skF im n a b g + (if laterK im n a b g = -1 then 0 else badK im n a b g) - costF im 0 n (10 * a + g) else skF im n a b g := rfl
theorem laterK_in (im : IM) (n a b g : Nat) : laterK im n a b g = -1 ∨ 0 ≤ laterK im n a b g ∧ laterK im n a b g < n := by
  unfold laterK goK
  split
  · exact Or.inl rfl
  · have := findF_in (offK (tellV im (im 18 0 7).toNat) (im 21 (5 * 0 + b) 0) (im 21 (5 * 0 + b) 1) (im 22 (5 * 0 + a) g) 0 g (im 18 0 4)) n 0
    omega
theorem skF_in {im : IM} (hW : WI im 0) {n a b : Nat} (hb : (b : Int) < im 18 0 3) (g : Nat) : -700 * (g : Int) ≤ skF im n a b g ∧ skF im n a b g ≤ 35000 + 700 * g := by
  induction g with
  | zero =>
    have := sumF_in (n := n) hW 50
    show _ ≤ sumF im 0 n 50 ∧ sumF im 0 n 50 ≤ _
    omega
  | succ g ih =>
    have h1 := costF_in (n := n) hW (10 * a + g)
    have hp := (hW.2.2.2.2.2 b hb).2.1
    have h2 : 0 ≤ badK im n a b g ∧ badK im n a b g ≤ 700 := beK_in (fun a b => tellV_in _ _ _ _) hp.1 hp.2
    rw [skF_s]
    split
    · split <;> omega
    · omega

set_option maxHeartbeats 4000000 in
theorem c_X8_shameAfterKiss (l : Launch) (G : GS) (im im0 : IM) (bt rt : Nat) (lm : IM) (hbt : bt < 6) (hR : RI im) (hW : WI im0 0) (n a b : Nat) (hn : n ≤ 60) (ha : (a : Int) < im0 18 0 3) (hb : (b : Int) < im0 18 0 3) (hFI : FI im0 im 0 n 50) : Cn l (XC G) yX8_shameAfterKiss Y_X8_shameAfterKiss [vR 0 0, vI (a : Int), vI (b : Int), vI (n : Int)] (im, rs bt rt, lm) (pI fun x m' => x = skF im0 n a b 10 ∧ ∃ im' bt', bt' < 6 ∧ RI im' ∧ ag [5, 16, 17] im' im ∧ m' = (im', rs bt' rt, lm)) := by
  refine cn_of (by decide) (okC G) rfl (Nat.le_of_ble_eq_true rfl) ?_
  intro M ad hMl F
  subst hMl
  have w1 := hW.1
  have hWm := WI_ag hFI.1 (by decide) (by decide) (by decide) (by decide) (by decide) (by decide) hW
  have e3m : im 18 0 3 = im0 18 0 3 := hFI.1 18 (by decide) 0 3
  refine wp_pad 4 ?_
  show Wp M (XC G) ad Y_X8_shameAfterKiss (pI fun x m' => x = skF im0 n a b 10 ∧ ∃ im' bt', bt' < 6 ∧ RI im' ∧ ag [5, 16, 17] im' im ∧ m' = (im', rs bt' rt, lm)) 0 [some (vR 0 0), some (vI (a : Int)), some (vI (b : Int)), some (vI (n : Int)), none, none, none, none] [] (im, rs bt rt, lm)
  refine q_aload_n (t := 1) F dX8_shameAfterKiss_0 rfl rfl rfl ?_
  refine g_X8_24 (t := 4) F dX8_shameAfterKiss_1 rfl rfl ?_
  refine g_X8_169 (t := 7) F dX8_shameAfterKiss_4 rfl rfl ?_
  refine q_istore (t := 9) F dX8_shameAfterKiss_7 (by decide) rfl rfl ?_
  refine q_iconst (t := 10) F dX8_shameAfterKiss_9 rfl ?_
  refine q_istore (t := 12) F dX8_shameAfterKiss_10 (by decide) rfl rfl ?_
  have L12 : ∀ (fz : Nat) (g : Nat) (im2 : IM) (bt2 : Nat), 10 - g < fz → g ≤ 10 → bt2 < 6 → RI im2 → ag [5, 16, 17] im2 im → Wp M (XC G) ad Y_X8_shameAfterKiss (pI fun x m' => x = skF im0 n a b 10 ∧ ∃ im' bt', bt' < 6 ∧ RI im' ∧ ag [5, 16, 17] im' im ∧ m' = (im', rs bt' rt, lm)) 12 [some (vR 0 0), some (vI (a : Int)), some (vI (b : Int)), some (vI (n : Int)), some (vI (skF im0 n a b g)), some (vI (g : Int)), none, none] [] (im2, rs bt2 rt, lm) := by
    intro fz
    induction fz with
    | zero => intro g im2 bt2 h; exact absurd h (Nat.not_lt_zero _)
    | succ fz ih =>
      have ih12 := ih
      intro g im2 bt2 hmeas hg hbt2 hR2 hag2
      have hsk := skF_in hW (n := n) (a := a) hb g
      have hagO : ag [5, 9, 10, 11, 16, 17] im2 im0 := (hag2.mono (by decide)).trans hFI.1
      have e22 : ∀ i s, im2 22 i s = im0 22 i s := fun i s => hagO 22 (by decide) i s
      have e3 : im2 18 0 3 = im0 18 0 3 := hagO 18 (by decide) 0 3
      refine q_iload (t := 14) F dX8_shameAfterKiss_12 rfl rfl ?_
      refine q_bipush (t := 16) F dX8_shameAfterKiss_14 (by decide) rfl ?_
      refine q_icmp_ge (t := 19) (u := 162) F dX8_shameAfterKiss_16 (by first | exact hR _ _ _ | (constructor <;> omega)) (by first | exact hR _ _ _ | (constructor <;> omega)) (by decide) rfl (fun c16 => ?_) (fun c16 => ?_)
      · refine q_iload (t := 164) F dX8_shameAfterKiss_162 rfl rfl ?_
        refine q_iret F dX8_shameAfterKiss_164 rfl ?_
        exact ⟨_, rfl, by rw [show g = 10 by omega], im2, bt2, hbt2, hR2, hag2, rfl⟩
      · refine q_aload_n (t := 20) F dX8_shameAfterKiss_19 rfl rfl rfl ?_
        refine g_X8_51 (t := 23) F dX8_shameAfterKiss_20 rfl rfl ?_
        refine g_X8_99 (t := 26) F dX8_shameAfterKiss_23 rfl (by omega) rfl ?_
        refine q_iload_n (t := 27) F dX8_shameAfterKiss_26 rfl rfl rfl ?_
        first | refine laN_19 (t := 28) F dX8_shameAfterKiss_27 (by omega) (by omega) rfl ?_ | refine la_19 (t := 28) F dX8_shameAfterKiss_27 (by omega) (by omega) (by omega) rfl ?_
        refine g_X8_132 (t := 31) F dX8_shameAfterKiss_28 rfl (by omega) rfl ?_
        refine q_iload (t := 33) F dX8_shameAfterKiss_31 rfl rfl ?_
        first | refine ldN_22 (t := 34) F dX8_shameAfterKiss_33 (by omega) (by omega) rfl ?_ | refine ld_22 (t := 34) F dX8_shameAfterKiss_33 (by omega) (by omega) (by omega) rfl ?_
        rw [e22]
        refine q_istore (t := 36) F dX8_shameAfterKiss_34 (by decide) rfl rfl ?_
        refine q_iload (t := 38) F dX8_shameAfterKiss_36 rfl rfl ?_
        refine q_iconst (t := 39) F dX8_shameAfterKiss_38 rfl ?_
        refine q_icmp_eq (t := 42) (u := 156) F dX8_shameAfterKiss_39 (by rw [← e22]; exact hR2 _ _ _) (by constructor <;> omega) (by decide) rfl (fun c39 => ?_) (fun c39 => ?_)
        · refine q_iinc (t := 159) F dX8_shameAfterKiss_156 rfl (by decide) rfl rfl ?_
          refine q_goto (t := 12) F dX8_shameAfterKiss_159 (by decide) ?_
          refine wp_less 6 ?_
          refine wp_less 7 ?_
          first
            | (rw [show skF im0 n a b g = skF im0 n a b (g + 1) from by rw [skF_s, if_neg (by omega)]]
               exact ih12 (g + 1) _ _ (by omega) (by omega) hbt2 hR2 hag2)
            | (rw [show skF im0 n a b g + badK im0 n a b g - costF im0 0 n (10 * a + g) = skF im0 n a b (g + 1) from by rw [skF_s, if_pos (by omega), if_neg (by omega)]]
               exact ih12 (g + 1) _ _ (by omega) (by omega) hb4 hR6 hag6)
            | (rw [show skF im0 n a b g - costF im0 0 n (10 * a + g) = skF im0 n a b (g + 1) from by rw [skF_s, if_pos (by omega), if_pos (by omega)]; omega]
               exact ih12 (g + 1) _ _ (by omega) (by omega) hb4 hR5 hag5)
        · refine q_aload_n (t := 43) F dX8_shameAfterKiss_42 rfl rfl rfl ?_
          refine g_X8_51 (t := 46) F dX8_shameAfterKiss_43 rfl rfl ?_
          refine g_X8_99 (t := 49) F dX8_shameAfterKiss_46 rfl (by omega) rfl ?_
          refine q_iload_n (t := 50) F dX8_shameAfterKiss_49 rfl rfl rfl ?_
          first | refine laN_19 (t := 51) F dX8_shameAfterKiss_50 (by omega) (by omega) rfl ?_ | refine la_19 (t := 51) F dX8_shameAfterKiss_50 (by omega) (by omega) (by omega) rfl ?_
          refine g_X8_132 (t := 54) F dX8_shameAfterKiss_51 rfl (by omega) rfl ?_
          refine q_iload (t := 56) F dX8_shameAfterKiss_54 rfl rfl ?_
          first | refine ldN_22 (t := 57) F dX8_shameAfterKiss_56 (by omega) (by omega) rfl ?_ | refine ld_22 (t := 57) F dX8_shameAfterKiss_56 (by omega) (by omega) (by omega) rfl ?_
          rw [e22]
          refine q_iconst (t := 58) F dX8_shameAfterKiss_57 rfl ?_
          refine q_icmp_eq (t := 61) (u := 64) F dX8_shameAfterKiss_58 (by rw [← e22]; exact hR2 _ _ _) (by constructor <;> omega) (by decide) rfl (fun c58 => ?_) (fun c58 => ?_)
          · have hWB := WI_ag hagO (by decide) (by decide) (by decide) (by decide) (by decide) (by decide) hW
            have hmB : (b : Int) < im2 18 0 3 := by omega
            obtain ⟨r0, r1, hT, k0, k1, n0, n1, hga, hh0, hh1, hm5⟩ := cell_of hWB hmB
            have e18 : ∀ s, im2 18 0 s = im0 18 0 s := fun s => hagO 18 (by decide) 0 s
            have e21 : ∀ s, im2 21 (5 * 0 + b) s = im0 21 (5 * 0 + b) s := fun s => hagO 21 (by decide) _ s
            have eT : tellV im2 (im2 18 0 7).toNat = tellV im0 (im0 18 0 7).toNat := by
              rw [e18]
              exact tellV_fun (fun s => hagO 3 (by decide) _ s) (fun s => hagO 4 (by decide) _ s)
            obtain ⟨wd, hwd⟩ : ∃ wd, wd = im0 22 (5 * 0 + a) g := ⟨_, rfl⟩
            have hwr : ri wd := by rw [hwd, ← e22]; exact hR2 _ _ _
            rw [← hwd]
            refine q_aload_n (t := 65) F dX8_shameAfterKiss_64 rfl rfl rfl ?_
            refine g_X8_42 (t := 68) F dX8_shameAfterKiss_65 rfl rfl ?_
            refine q_aload_n (t := 69) F dX8_shameAfterKiss_68 rfl rfl rfl ?_
            refine g_X8_51 (t := 72) F dX8_shameAfterKiss_69 rfl rfl ?_
            refine q_iload_n (t := 73) F dX8_shameAfterKiss_72 rfl rfl rfl ?_
            refine q_iload (t := 75) F dX8_shameAfterKiss_73 rfl rfl ?_
            refine wp_callV (t := 78) [_, _, _] F dX8_shameAfterKiss_75 k_X0_look v_X0_look ml_X8_139 rfl rfl rfl rfl (Nat.le_of_ble_eq_true rfl) (by decide) (m_16 (by omega)) (c_X0_look _ G im2 bt2 rt lm 0 b g (by omega) hm5 (by omega) r0 r1) rfl (kV ?_)
            rintro m' rfl
            have hRl := RI_look (w := 0) (p := b) (g := g) hR2 (by omega)
            have hb4 : (im2 18 0 7).toNat < 6 := by omega
            refine q_aload_n (t := 79) F dX8_shameAfterKiss_78 rfl rfl rfl ?_
            refine g_X8_42 (t := 82) F dX8_shameAfterKiss_79 rfl rfl ?_
            refine g_X8_199 (t := 85) F dX8_shameAfterKiss_82 rfl rfl ?_
            refine q_iconst (t := 86) F dX8_shameAfterKiss_85 rfl ?_
            refine q_iload (t := 88) F dX8_shameAfterKiss_86 rfl rfl ?_
            refine stN_17 (t := 89) (j := 0) F dX8_shameAfterKiss_88 (by omega) rfl ?_
            refine q_aload_n (t := 90) F dX8_shameAfterKiss_89 rfl rfl rfl ?_
            refine g_X8_42 (t := 93) F dX8_shameAfterKiss_90 rfl rfl ?_
            refine q_iconst (t := 94) F dX8_shameAfterKiss_93 rfl ?_
            refine p_X8_202 (t := 97) F dX8_shameAfterKiss_94 rfl rfl ?_
            refine q_aload_n (t := 98) F dX8_shameAfterKiss_97 rfl rfl rfl ?_
            refine g_X8_42 (t := 101) F dX8_shameAfterKiss_98 rfl rfl ?_
            refine q_iload_n (t := 102) F dX8_shameAfterKiss_101 rfl rfl rfl ?_
            obtain ⟨L, hLd⟩ : ∃ L, L = up (up (lookM im2 0 b g) 17 0 0 wd) 16 0 3 0 := ⟨_, rfl⟩
            rw [← hLd]
            have hRL : RI L := by rw [hLd]; exact RI_up (RI_up hRl hwr) (by constructor <;> omega)
            have hagL : ag [5, 16, 17] L im := by
              rw [hLd]
              exact ag_up (ag_up (((look_ag im2 0 b g).mono (by decide)).trans hag2) (by decide)) (by decide)
            have hTL : goodT L (im2 18 0 7).toNat := by rw [hLd]; exact goodT_congr (fun s => rfl) (fun s => rfl) hT
            have hgoL : goesB L (im2 18 0 7).toNat n = laterK im0 n a b g := by
              rw [hLd, goesB_K _ _ _ rfl]
              unfold laterK
              rw [← eT, ← e21, ← e21, ← e18, ← hwd]
              rw [show tellV (up (up (lookM im2 0 b g) 17 0 0 wd) 16 0 3 0) (im2 18 0 7).toNat = tellV im2 (im2 18 0 7).toNat from tellV_fun (fun s => rfl) (fun s => rfl)]
              rfl
            have hbeL : ∀ x c, bearsB L (im2 18 0 7).toNat x c = beK (tellV im0 (im0 18 0 7).toNat) (im0 21 (5 * 0 + b) 0) (im0 21 (5 * 0 + b) 1) wd 0 g (im0 18 0 4) x c := by
              intro x c
              rw [hLd, bearsB_K _ _ _ _ rfl, ← eT, ← e21, ← e21, ← e18]
              rw [show tellV (up (up (lookM im2 0 b g) 17 0 0 wd) 16 0 3 0) (im2 18 0 7).toNat = tellV im2 (im2 18 0 7).toNat from tellV_fun (fun s => rfl) (fun s => rfl)]
              rfl
            have hk0 : 0 ≤ L 16 0 2 := by rw [hLd]; exact k0
            have hk1 : L 16 0 2 < 6 := by rw [hLd]; exact k1
            have hn0 : 0 ≤ L 17 0 3 := by rw [hLd]; exact n0
            have hn1 : L 17 0 3 < 10 := by rw [hLd]; exact n1
            have ha3 : L 16 0 3 = 0 := by rw [hLd]; rfl
            have hh4 : L 16 0 4 = im2 18 0 4 := by rw [hLd]; rfl
            refine wp_callV (t := 105) [_] F dX8_shameAfterKiss_102 k_X0_goesOffIn v_X0_goesOffIn ml_X8_181 rfl rfl rfl rfl (Nat.le_of_ble_eq_true rfl) (by decide) (m_16 (by omega)) (c_X0_goesOffIn _ G L (im2 18 0 7).toNat rt lm n hn hb4 hRL hTL hk0 hk1 hn0 hn1 (fun _ => by omega) (by omega) (by omega)) rfl (kI ?_)
            rintro x m' ⟨hx, xa, xb, xg, hxa, hxb, hxg, rfl⟩
            rw [hgoL] at hx
            subst hx
            have hli := laterK_in im0 n a b g
            have hR5 := RI_scr hRL hxa hxb hxg
            have hag5 : ag [5, 16, 17] (scr L xa xb xg) im := ((scr_ag _ _ _ _).mono (by decide)).trans hagL
            have hco : ∀ s, L 11 0 s = im 11 0 s := fun s => hagL 11 (by decide) 0 s
            refine q_istore (t := 107) F dX8_shameAfterKiss_105 (by decide) rfl rfl ?_
            refine q_iload (t := 109) F dX8_shameAfterKiss_107 rfl rfl ?_
            refine q_iconst (t := 110) F dX8_shameAfterKiss_109 rfl ?_
            refine q_icmp_eq (t := 113) (u := 136) F dX8_shameAfterKiss_110 (by constructor <;> omega) (by constructor <;> omega) (by decide) rfl (fun c110 => ?_) (fun c110 => ?_)
            · refine q_iload (t := 138) F dX8_shameAfterKiss_136 rfl rfl ?_
              refine q_aload_n (t := 139) F dX8_shameAfterKiss_138 rfl rfl rfl ?_
              refine g_X8_24 (t := 142) F dX8_shameAfterKiss_139 rfl rfl ?_
              refine g_X8_190 (t := 145) F dX8_shameAfterKiss_142 rfl rfl ?_
              refine q_iload_n (t := 146) F dX8_shameAfterKiss_145 rfl rfl rfl ?_
              refine q_bipush (t := 148) F dX8_shameAfterKiss_146 (by decide) rfl ?_
              refine q_imul (t := 149) F dX8_shameAfterKiss_148 rfl ?_
              refine q_iload (t := 151) F dX8_shameAfterKiss_149 rfl rfl ?_
              refine q_iadd (t := 152) F dX8_shameAfterKiss_151 rfl ?_
              rw [show (a : Int) * 10 + (g : Int) = ((10 * a + g : Nat) : Int) by omega]
              first | refine ldN_11 (t := 153) F dX8_shameAfterKiss_152 (by omega) rfl ?_ | refine ld_11 (t := 153) F dX8_shameAfterKiss_152 (by omega) (by omega) rfl ?_
              try simp only [up_app, row_app, scr_app, cpy_app, Nat.reduceEqDiff, Int.reduceToNat, Int.toNat_natCast, and_true, true_and, and_false, false_and, and_self, reduceIte]
              rw [hco, (hFI.2.1 (10 * a + g) (by omega)).2]
              refine q_isub (t := 154) F dX8_shameAfterKiss_153 rfl ?_
              refine q_istore (t := 156) F dX8_shameAfterKiss_154 (by decide) rfl rfl ?_
              refine q_iinc (t := 159) F dX8_shameAfterKiss_156 rfl (by decide) rfl rfl ?_
              refine q_goto (t := 12) F dX8_shameAfterKiss_159 (by decide) ?_
              refine wp_less 6 ?_
              refine wp_less 7 ?_
              first
                | (rw [show skF im0 n a b g = skF im0 n a b (g + 1) from by rw [skF_s, if_neg (by omega)]]
                   exact ih12 (g + 1) _ _ (by omega) (by omega) hbt2 hR2 hag2)
                | (rw [show skF im0 n a b g + badK im0 n a b g - costF im0 0 n (10 * a + g) = skF im0 n a b (g + 1) from by rw [skF_s, if_pos (by omega), if_neg (by omega)]]
                   exact ih12 (g + 1) _ _ (by omega) (by omega) hb4 hR6 hag6)
                | (rw [show skF im0 n a b g - costF im0 0 n (10 * a + g) = skF im0 n a b (g + 1) from by rw [skF_s, if_pos (by omega), if_pos (by omega)]; omega]
                   exact ih12 (g + 1) _ _ (by omega) (by omega) hb4 hR5 hag5)
            · refine q_iload (t := 115) F dX8_shameAfterKiss_113 rfl rfl ?_
              refine q_aload_n (t := 116) F dX8_shameAfterKiss_115 rfl rfl rfl ?_
              refine g_X8_42 (t := 119) F dX8_shameAfterKiss_116 rfl rfl ?_
              refine q_iload (t := 121) F dX8_shameAfterKiss_119 rfl rfl ?_
              refine q_aload_n (t := 122) F dX8_shameAfterKiss_121 rfl rfl rfl ?_
              refine g_X8_51 (t := 125) F dX8_shameAfterKiss_122 rfl rfl ?_
              refine q_iload (t := 127) F dX8_shameAfterKiss_125 rfl rfl ?_
              refine wp_callV (t := 130) [_] F dX8_shameAfterKiss_127 k_X7_isChurchIn v_X7_isChurchIn ml_X8_204 rfl rfl rfl rfl (Nat.le_of_ble_eq_true rfl) (by decide) (m_18 (by omega)) (c_X7_isChurchIn _ G (scr L xa xb xg) _ rt lm 0 (by omega) (laterK im0 n a b g) (by omega) (by omega) (by rw [hag5 18 (by decide), ← hag2 18 (by decide)]; exact hh0) (by rw [hag5 18 (by decide), ← hag2 18 (by decide)]; exact hh1)) rfl (kI ?_)
              rintro x m' ⟨rfl, rfl⟩
              have hch : chI (scr L xa xb xg 18 0 5) (scr L xa xb xg 18 0 4 + laterK im0 n a b g) = chI (im0 18 0 5) (im0 18 0 4 + laterK im0 n a b g) := by
                rw [hag5 18 (by decide), hag5 18 (by decide), hFI.1 18 (by decide), hFI.1 18 (by decide)]
              rw [hch]
              have hci := chI_in (im0 18 0 5) (im0 18 0 4 + laterK im0 n a b g)
              refine wp_callV (t := 133) [_, _] F dX8_shameAfterKiss_130 k_X0_bears v_X0_bears ml_X8_207 rfl rfl rfl rfl (Nat.le_of_ble_eq_true rfl) (by decide) (m_16 (by omega)) (c_X0_bears _ G (scr L xa xb xg) (im2 18 0 7).toNat rt lm (laterK im0 n a b g) (chI (im0 18 0 5) (im0 18 0 4 + laterK im0 n a b g)) (by omega) (by omega) hci.1 hci.2 hb4 hR5 (goodT_scr hTL) hk0 hk1 hn0 hn1 (show 0 ≤ L 16 0 3 ∧ L 16 0 3 ≤ 3000 by omega) (show 0 ≤ L 16 0 4 by omega) (show L 16 0 4 ≤ 3000 by omega)) rfl (kI ?_)
              rintro x m' ⟨hx, ya, yb, yg, hya, hyb, hyg, rfl⟩
              rw [bearsB_scr, hbeL] at hx
              have hxb : x = badK im0 n a b g := by
                rw [hx]
                unfold badK
                rw [← hwd]
              rw [hxb, scr_scr]
              have hR6 := RI_scr hRL hya hyb hyg
              have hag6 : ag [5, 16, 17] (scr L ya yb yg) im := ((scr_ag _ _ _ _).mono (by decide)).trans hagL
              refine q_iadd (t := 134) F dX8_shameAfterKiss_133 rfl ?_
              refine q_istore (t := 136) F dX8_shameAfterKiss_134 (by decide) rfl rfl ?_
              refine q_iload (t := 138) F dX8_shameAfterKiss_136 rfl rfl ?_
              refine q_aload_n (t := 139) F dX8_shameAfterKiss_138 rfl rfl rfl ?_
              refine g_X8_24 (t := 142) F dX8_shameAfterKiss_139 rfl rfl ?_
              refine g_X8_190 (t := 145) F dX8_shameAfterKiss_142 rfl rfl ?_
              refine q_iload_n (t := 146) F dX8_shameAfterKiss_145 rfl rfl rfl ?_
              refine q_bipush (t := 148) F dX8_shameAfterKiss_146 (by decide) rfl ?_
              refine q_imul (t := 149) F dX8_shameAfterKiss_148 rfl ?_
              refine q_iload (t := 151) F dX8_shameAfterKiss_149 rfl rfl ?_
              refine q_iadd (t := 152) F dX8_shameAfterKiss_151 rfl ?_
              rw [show (a : Int) * 10 + (g : Int) = ((10 * a + g : Nat) : Int) by omega]
              first | refine ldN_11 (t := 153) F dX8_shameAfterKiss_152 (by omega) rfl ?_ | refine ld_11 (t := 153) F dX8_shameAfterKiss_152 (by omega) (by omega) rfl ?_
              try simp only [up_app, row_app, scr_app, cpy_app, Nat.reduceEqDiff, Int.reduceToNat, Int.toNat_natCast, and_true, true_and, and_false, false_and, and_self, reduceIte]
              rw [hco, (hFI.2.1 (10 * a + g) (by omega)).2]
              refine q_isub (t := 154) F dX8_shameAfterKiss_153 rfl ?_
              refine q_istore (t := 156) F dX8_shameAfterKiss_154 (by decide) rfl rfl ?_
              refine q_iinc (t := 159) F dX8_shameAfterKiss_156 rfl (by decide) rfl rfl ?_
              refine q_goto (t := 12) F dX8_shameAfterKiss_159 (by decide) ?_
              refine wp_less 6 ?_
              refine wp_less 7 ?_
              first
                | (rw [show skF im0 n a b g = skF im0 n a b (g + 1) from by rw [skF_s, if_neg (by omega)]]
                   exact ih12 (g + 1) _ _ (by omega) (by omega) hbt2 hR2 hag2)
                | (rw [show skF im0 n a b g + badK im0 n a b g - costF im0 0 n (10 * a + g) = skF im0 n a b (g + 1) from by rw [skF_s, if_pos (by omega), if_neg (by omega)]]
                   exact ih12 (g + 1) _ _ (by omega) (by omega) hb4 hR6 hag6)
                | (rw [show skF im0 n a b g - costF im0 0 n (10 * a + g) = skF im0 n a b (g + 1) from by rw [skF_s, if_pos (by omega), if_pos (by omega)]; omega]
                   exact ih12 (g + 1) _ _ (by omega) (by omega) hb4 hR5 hag5)
          · refine q_goto (t := 156) F dX8_shameAfterKiss_61 (by decide) ?_
            refine q_iinc (t := 159) F dX8_shameAfterKiss_156 rfl (by decide) rfl rfl ?_
            refine q_goto (t := 12) F dX8_shameAfterKiss_159 (by decide) ?_
            refine wp_less 6 ?_
            refine wp_less 7 ?_
            first
              | (rw [show skF im0 n a b g = skF im0 n a b (g + 1) from by rw [skF_s, if_neg (by omega)]]
                 exact ih12 (g + 1) _ _ (by omega) (by omega) hbt2 hR2 hag2)
              | (rw [show skF im0 n a b g + badK im0 n a b g - costF im0 0 n (10 * a + g) = skF im0 n a b (g + 1) from by rw [skF_s, if_pos (by omega), if_neg (by omega)]]
                 exact ih12 (g + 1) _ _ (by omega) (by omega) hb4 hR6 hag6)
              | (rw [show skF im0 n a b g - costF im0 0 n (10 * a + g) = skF im0 n a b (g + 1) from by rw [skF_s, if_pos (by omega), if_pos (by omega)]; omega]
                 exact ih12 (g + 1) _ _ (by omega) (by omega) hb4 hR5 hag5)
  have e0 : im 9 0 4 = skF im0 n a b 0 := hFI.2.2.1
  rw [e0]
  exact L12 _ 0 im bt (Nat.lt_succ_self _) (by omega) hbt hR (ag_rfl _ _)

/-- kissing: with one, the first of the others -/
def kI' (im : IM) (n a : Nat) (q : Int × Int) : Nat → Int × Int
  | 0 => q
  | b + 1 => if a ≠ b ∧ skF im n a b 10 < (kI' im n a q b).2 then ((a : Int) * 10 + b, skF im n a b 10) else kI' im n a q b
def kO (im : IM) (n sz : Nat) : Nat → Int × Int
  | 0 => (-1, sumF im 0 n 50)
  | a + 1 => kI' im n a (kO im n sz a) sz
theorem kI'_s (im : IM) (n a : Nat) (q : Int × Int) (b : Nat) : kI' im n a q (b + 1) = if a ≠ b ∧ skF im n a b 10 < (kI' im n a q b).2 then ((a : Int) * 10 + b, skF im n a b 10) else kI' im n a q b := rfl
theorem kI'_in {im : IM} (hW : WI im 0) {n a : Nat} {q : Int × Int} (hq : -7000 ≤ q.2 ∧ q.2 ≤ 42000) (b : Nat) (hb : (b : Int) ≤ im 18 0 3) : -7000 ≤ (kI' im n a q b).2 ∧ (kI' im n a q b).2 ≤ 42000 := by
  induction b with
  | zero => exact hq
  | succ b ih =>
    rw [kI'_s]
    have := ih (by omega)
    have h2 := skF_in hW (n := n) (a := a) (b := b) (by omega) 10
    split
    · show -7000 ≤ skF im n a b 10 ∧ skF im n a b 10 ≤ 42000
      omega
    · exact this
theorem kO_in {im : IM} (hW : WI im 0) {n sz : Nat} (hz : (sz : Int) ≤ im 18 0 3) (a : Nat) : -7000 ≤ (kO im n sz a).2 ∧ (kO im n sz a).2 ≤ 42000 := by
  induction a with
  | zero =>
    have := sumF_in (n := n) hW 50
    show -7000 ≤ sumF im 0 n 50 ∧ sumF im 0 n 50 ≤ 42000
    omega
  | succ a ih => exact kI'_in hW ih sz hz
def kissingA (im : IM) (n what : Int) : Int := if (0 ≤ n ∧ n ≤ 60) ∧ 0 ≤ what ∧ what < 2 then (if what = 0 then (kO im n.toNat (im 18 0 3).toNat (im 18 0 3).toNat).1 else (kO im n.toNat (im 18 0 3).toNat (im 18 0 3).toNat).2) else -2

theorem FI_ag3 {im im2 im3 : IM} {w n N : Nat} (h : FI im im2 w n N) (h3 : ag [5, 16, 17] im3 im2) : FI im im3 w n N := by
  obtain ⟨g1, g2, g3, g4, g5⟩ := h
  refine ⟨(h3.mono (by decide)).trans g1, fun M hM => ?_, ?_, ?_, ?_⟩
  · rw [h3 10 (by decide), h3 11 (by decide)]; exact g2 M hM
  · rw [h3 9 (by decide)]; exact g3
  · rw [h3 9 (by decide)]; exact g4
  · rw [h3 9 (by decide)]; exact g5

set_option maxHeartbeats 4000000 in
theorem c_X8_kissing (l : Launch) (G : GS) (im : IM) (bt rt : Nat) (lm : IM) (hbt : bt < 6) (hrt : rt < 6) (hS : SC im) (n what : Int) (hn : ri n) (hwhat : ri what) : Cn l (XC G) yX8_kissing Y_X8_kissing [vR 0 0, vI n, vI what] (im, rs bt rt, lm) (pI fun x m' => x = kissingA im n what ∧ stC lm im m') := by
  refine cn_of (by decide) (okC G) rfl (Nat.le_of_ble_eq_true rfl) ?_
  intro M ad hMl F
  subst hMl
  obtain ⟨hR, hW, hh, htc, hru, hgt, hz, hrd, hsh, him, htp⟩ := hS
  have w1 := hW.1
  have w2 := hW.2.1
  have w3 := hW.2.2.1
  have w4 := hW.2.2.2.1
  have w5 := hW.2.2.2.2.1
  have hn1 := hn.1
  have hn2 := hn.2
  have hwhat1 := hwhat.1
  have hwhat2 := hwhat.2
  refine wp_pad 5 ?_
  show Wp M (XC G) ad Y_X8_kissing (pI fun x m' => x = kissingA im n what ∧ stC lm im m') 0 [some (vR 0 0), some (vI n), some (vI what), none, none, none, none, none] [] (im, rs bt rt, lm)
  refine q_iload_n (t := 1) F dX8_kissing_0 rfl rfl rfl ?_
  refine wp_callS (t := 4) [_] F dX8_kissing_1 k_X8_isSpan st_X8_isSpan ml_X8_163 rfl rfl (Nat.le_of_ble_eq_true rfl) (by decide) (c_X8_isSpan _ G _ bt rt lm n hn) rfl (kI ?_)
  rintro x1 m' ⟨hx1, rfl⟩
  have hx1 := if01 hx1
  refine q_if_eq (t := 7) (u := 15) F dX8_kissing_4 (by first | exact hR _ _ _ | (constructor <;> omega)) (by decide) rfl (fun c4 => ?_) (fun c4 => ?_)
  · refine q_bipush (t := 17) F dX8_kissing_15 (by decide) rfl ?_
    refine q_iret F dX8_kissing_17 rfl ?_
    refine ⟨_, rfl, ?_, _, bt, rt, hbt, hrt, (by repeat' first | exact hR | refine RI_up ?_ ?_ | assumption | exact hR _ _ _ | (constructor <;> omega)), ?_, rfl⟩
    · unfold kissingA
      (repeat' split) <;> omega
    · exact agP_rfl _
  · refine q_iload_n (t := 8) F dX8_kissing_7 rfl rfl rfl ?_
    refine q_iconst (t := 9) F dX8_kissing_8 rfl ?_
    refine wp_callS (t := 12) [_, _] F dX8_kissing_9 k_X8_within st_X8_within ml_X8_95 rfl rfl (Nat.le_of_ble_eq_true rfl) (by decide) (c_X8_within _ G _ bt rt lm what 2 hwhat (by constructor <;> omega)) rfl (kI ?_)
    rintro x9 m' ⟨hx9, rfl⟩
    have hx9 := if01 hx9
    refine q_if_ne (t := 15) (u := 18) F dX8_kissing_12 (by first | exact hR _ _ _ | (constructor <;> omega)) (by decide) rfl (fun c12 => ?_) (fun c12 => ?_)
    · obtain ⟨n, rfl⟩ : ∃ k : Nat, n = (k : Int) := ⟨n.toNat, by omega⟩
      refine q_aload_n (t := 19) F dX8_kissing_18 rfl rfl rfl ?_
      refine g_X8_24 (t := 22) F dX8_kissing_19 rfl rfl ?_
      refine q_aload_n (t := 23) F dX8_kissing_22 rfl rfl rfl ?_
      refine g_X8_51 (t := 26) F dX8_kissing_23 rfl rfl ?_
      refine q_aload_n (t := 27) F dX8_kissing_26 rfl rfl rfl ?_
      refine g_X8_42 (t := 30) F dX8_kissing_27 rfl rfl ?_
      refine q_iload_n (t := 31) F dX8_kissing_30 rfl rfl rfl ?_
      refine wp_callV (t := 34) [_, _, _] F dX8_kissing_31 k_X1_look v_X1_look ml_X8_166 rfl rfl rfl rfl (Nat.le_of_ble_eq_true rfl) (by decide) (m_9 (by omega)) (c_X1_look _ G im bt rt lm 0 (by omega) hbt hR hW n (by omega)) rfl (kV ?_)
      rintro m' ⟨imF, btF, hbtF, hRF, hFI, rfl⟩
      have hq1 : imF 9 0 4 = sumF im 0 n 50 := hFI.2.2.1
      obtain ⟨sz, hsz⟩ : ∃ sz : Nat, im 18 0 3 = sz := ⟨(im 18 0 3).toNat, by omega⟩
      have hszN : (im 18 0 3).toNat = sz := by omega
      refine q_iconst (t := 35) F dX8_kissing_34 rfl ?_
      refine q_istore_n (t := 36) F dX8_kissing_35 rfl (by decide) rfl rfl ?_
      refine q_aload_n (t := 37) F dX8_kissing_36 rfl rfl rfl ?_
      refine g_X8_24 (t := 40) F dX8_kissing_37 rfl rfl ?_
      refine g_X8_169 (t := 43) F dX8_kissing_40 rfl rfl ?_
      try simp only [up_app, row_app, scr_app, cpy_app, Nat.reduceEqDiff, Int.reduceToNat, Int.toNat_natCast, and_true, true_and, and_false, false_and, and_self, reduceIte]
      refine q_istore (t := 45) F dX8_kissing_43 (by decide) rfl rfl ?_
      refine q_iconst (t := 46) F dX8_kissing_45 rfl ?_
      refine q_istore (t := 48) F dX8_kissing_46 (by decide) rfl rfl ?_
      have L48 : ∀ (fz : Nat) (a : Nat) (im2 : IM) (bt2 : Nat), sz - a < fz → a ≤ sz → bt2 < 6 → RI im2 → ag [5, 16, 17] im2 imF → Wp M (XC G) ad Y_X8_kissing (pI fun x m' => x = kissingA im n what ∧ stC lm im m') 48 [some (vR 0 0), some (vI (n : Int)), some (vI what), some (vI (kO im n sz a).1), some (vI (kO im n sz a).2), some (vI (a : Int)), none, none] [] (im2, rs bt2 rt, lm) := by
        intro fz
        induction fz with
        | zero => intro a im2 bt2 h; exact absurd h (Nat.not_lt_zero _)
        | succ fz ih =>
          have ih48 := ih
          intro a im2 bt2 hmeas ha hbt2 hR2 hag2
          have e3 : im2 18 0 3 = sz := by rw [hag2 18 (by decide), hFI.1 18 (by decide), hsz]
          have hko := kO_in hW (n := n) (sz := sz) (by omega) a
          refine q_iload (t := 50) F dX8_kissing_48 rfl rfl ?_
          refine q_aload_n (t := 51) F dX8_kissing_50 rfl rfl rfl ?_
          refine g_X8_51 (t := 54) F dX8_kissing_51 rfl rfl ?_
          refine g_X8_115 (t := 57) F dX8_kissing_54 rfl (by omega) rfl ?_
          try simp only [up_app, row_app, scr_app, cpy_app, Nat.reduceEqDiff, Int.reduceToNat, Int.toNat_natCast, and_true, true_and, and_false, false_and, and_self, reduceIte]
          refine q_icmp_ge (t := 60) (u := 128) F dX8_kissing_57 (by constructor <;> omega) (by exact hR2 _ _ _) (by decide) rfl (fun c57 => ?_) (fun c57 => ?_)
          · refine q_iload_n (t := 129) F dX8_kissing_128 rfl rfl rfl ?_
            refine q_if_ne (t := 132) (u := 136) F dX8_kissing_129 (by first | exact hR _ _ _ | (constructor <;> omega)) (by decide) rfl (fun c129 => ?_) (fun c129 => ?_)
            · refine q_iload (t := 138) F dX8_kissing_136 rfl rfl ?_
              refine q_iret F dX8_kissing_138 rfl ?_
              have ea : a = sz := by omega
              subst ea
              refine ⟨_, rfl, ?_, im2, bt2, rt, hbt2, hrt, hR2, agP_of ((hag2.mono (by decide)).trans (hFI.1.mono (by decide))), rfl⟩
              unfold kissingA
              simp only [Int.toNat_natCast]
              first
                | (rw [if_pos (by omega), if_pos (by omega), hszN])
                | (rw [if_pos (by omega), if_neg (by omega), hszN])
            · refine q_iload_n (t := 133) F dX8_kissing_132 rfl rfl rfl ?_
              refine q_goto (t := 138) F dX8_kissing_133 (by decide) ?_
              refine q_iret F dX8_kissing_138 rfl ?_
              have ea : a = sz := by omega
              subst ea
              refine ⟨_, rfl, ?_, im2, bt2, rt, hbt2, hrt, hR2, agP_of ((hag2.mono (by decide)).trans (hFI.1.mono (by decide))), rfl⟩
              unfold kissingA
              simp only [Int.toNat_natCast]
              first
                | (rw [if_pos (by omega), if_pos (by omega), hszN])
                | (rw [if_pos (by omega), if_neg (by omega), hszN])
          · refine q_iconst (t := 61) F dX8_kissing_60 rfl ?_
            refine q_istore (t := 63) F dX8_kissing_61 (by decide) rfl rfl ?_
            have L63 : ∀ (fz : Nat) (b : Nat) (im2 : IM) (bt2 : Nat), sz - b < fz → b ≤ sz → bt2 < 6 → RI im2 → ag [5, 16, 17] im2 imF → Wp M (XC G) ad Y_X8_kissing (pI fun x m' => x = kissingA im n what ∧ stC lm im m') 63 [some (vR 0 0), some (vI (n : Int)), some (vI what), some (vI (kI' im n a (kO im n sz a) b).1), some (vI (kI' im n a (kO im n sz a) b).2), some (vI (a : Int)), some (vI (b : Int)), none] [] (im2, rs bt2 rt, lm) := by
              intro fz
              induction fz with
              | zero => intro b im2 bt2 h; exact absurd h (Nat.not_lt_zero _)
              | succ fz ih =>
                have ih63 := ih
                intro b im2 bt2 hmeas hb hbt2 hR2 hag2
                have e3 : im2 18 0 3 = sz := by rw [hag2 18 (by decide), hFI.1 18 (by decide), hsz]
                have hki := kI'_in hW (n := n) (a := a) hko b (by omega)
                have hFI2 : FI im im2 0 n 50 := FI_ag3 hFI hag2
                refine q_iload (t := 65) F dX8_kissing_63 rfl rfl ?_
                refine q_aload_n (t := 66) F dX8_kissing_65 rfl rfl rfl ?_
                refine g_X8_51 (t := 69) F dX8_kissing_66 rfl rfl ?_
                refine g_X8_115 (t := 72) F dX8_kissing_69 rfl (by omega) rfl ?_
                try simp only [up_app, row_app, scr_app, cpy_app, Nat.reduceEqDiff, Int.reduceToNat, Int.toNat_natCast, and_true, true_and, and_false, false_and, and_self, reduceIte]
                refine q_icmp_ge (t := 75) (u := 122) F dX8_kissing_72 (by constructor <;> omega) (by exact hR2 _ _ _) (by decide) rfl (fun c72 => ?_) (fun c72 => ?_)
                · refine q_iinc (t := 125) F dX8_kissing_122 rfl (by decide) rfl rfl ?_
                  refine q_goto (t := 48) F dX8_kissing_125 (by decide) ?_
                  refine wp_less 6 ?_
                  refine wp_less 7 ?_
                  obtain rfl : b = sz := by omega
                  exact ih48 (a + 1) im2 bt2 (by omega) (by omega) hbt2 hR2 hag2
                · refine q_iload (t := 77) F dX8_kissing_75 rfl rfl ?_
                  refine q_iload (t := 79) F dX8_kissing_77 rfl rfl ?_
                  refine q_icmp_ne (t := 82) (u := 85) F dX8_kissing_79 (by first | exact hR _ _ _ | (constructor <;> omega)) (by first | exact hR _ _ _ | (constructor <;> omega)) (by decide) rfl (fun c79 => ?_) (fun c79 => ?_)
                  · refine q_aload_n (t := 86) F dX8_kissing_85 rfl rfl rfl ?_
                    refine q_iload (t := 88) F dX8_kissing_86 rfl rfl ?_
                    refine q_iload (t := 90) F dX8_kissing_88 rfl rfl ?_
                    refine q_iload_n (t := 91) F dX8_kissing_90 rfl rfl rfl ?_
                    refine wp_callV (t := 94) [_, _, _] F dX8_kissing_91 k_X8_shameAfterKiss v_X8_shameAfterKiss ml_X8_196 rfl rfl rfl rfl (Nat.le_of_ble_eq_true rfl) (by decide) (m_0 (by omega)) (c_X8_shameAfterKiss _ G im2 im bt2 rt lm hbt2 hR2 hW n a b (by omega) (by omega) (by omega) hFI2) rfl (kI ?_)
                    rintro x m' ⟨rfl, im3, bt3, hbt3, hR3, hag3, rfl⟩
                    have hag4 := hag3.trans hag2
                    have hsk := skF_in hW (n := n) (a := a) (b := b) (by omega) 10
                    refine q_istore (t := 96) F dX8_kissing_94 (by decide) rfl rfl ?_
                    refine q_iload (t := 98) F dX8_kissing_96 rfl rfl ?_
                    refine q_iload (t := 100) F dX8_kissing_98 rfl rfl ?_
                    refine q_icmp_ge (t := 103) (u := 116) F dX8_kissing_100 (by first | exact hR _ _ _ | (constructor <;> omega)) (by first | exact hR _ _ _ | (constructor <;> omega)) (by decide) rfl (fun c100 => ?_) (fun c100 => ?_)
                    · refine q_iinc (t := 119) F dX8_kissing_116 rfl (by decide) rfl rfl ?_
                      refine q_goto (t := 63) F dX8_kissing_119 (by decide) ?_
                      refine wp_less 7 ?_
                      first
                        | (have e9 : kI' im n a (kO im n sz a) (b + 1) = ((a : Int) * 10 + b, skF im n a b 10) := by rw [kI'_s, if_pos ⟨by omega, by omega⟩]
                           have h := ih63 (b + 1) im3 bt3 (by omega) (by omega) hbt3 hR3 hag4
                           rw [e9] at h
                           exact h)
                        | (have e9 : kI' im n a (kO im n sz a) (b + 1) = kI' im n a (kO im n sz a) b := by rw [kI'_s, if_neg (by omega)]
                           have h := ih63 (b + 1) im3 bt3 (by omega) (by omega) hbt3 hR3 hag4
                           rw [e9] at h
                           exact h)
                        | (have e9 : kI' im n a (kO im n sz a) (b + 1) = kI' im n a (kO im n sz a) b := by rw [kI'_s, if_neg (by omega)]
                           have h := ih63 (b + 1) im2 bt2 (by omega) (by omega) hbt2 hR2 hag2
                           rw [e9] at h
                           exact h)
                    · refine q_iload (t := 105) F dX8_kissing_103 rfl rfl ?_
                      refine q_istore (t := 107) F dX8_kissing_105 (by decide) rfl rfl ?_
                      refine q_iload (t := 109) F dX8_kissing_107 rfl rfl ?_
                      refine q_bipush (t := 111) F dX8_kissing_109 (by decide) rfl ?_
                      refine q_imul (t := 112) F dX8_kissing_111 rfl ?_
                      refine q_iload (t := 114) F dX8_kissing_112 rfl rfl ?_
                      refine q_iadd (t := 115) F dX8_kissing_114 rfl ?_
                      refine q_istore_n (t := 116) F dX8_kissing_115 rfl (by decide) rfl rfl ?_
                      refine q_iinc (t := 119) F dX8_kissing_116 rfl (by decide) rfl rfl ?_
                      refine q_goto (t := 63) F dX8_kissing_119 (by decide) ?_
                      refine wp_less 7 ?_
                      first
                        | (have e9 : kI' im n a (kO im n sz a) (b + 1) = ((a : Int) * 10 + b, skF im n a b 10) := by rw [kI'_s, if_pos ⟨by omega, by omega⟩]
                           have h := ih63 (b + 1) im3 bt3 (by omega) (by omega) hbt3 hR3 hag4
                           rw [e9] at h
                           exact h)
                        | (have e9 : kI' im n a (kO im n sz a) (b + 1) = kI' im n a (kO im n sz a) b := by rw [kI'_s, if_neg (by omega)]
                           have h := ih63 (b + 1) im3 bt3 (by omega) (by omega) hbt3 hR3 hag4
                           rw [e9] at h
                           exact h)
                        | (have e9 : kI' im n a (kO im n sz a) (b + 1) = kI' im n a (kO im n sz a) b := by rw [kI'_s, if_neg (by omega)]
                           have h := ih63 (b + 1) im2 bt2 (by omega) (by omega) hbt2 hR2 hag2
                           rw [e9] at h
                           exact h)
                  · refine q_goto (t := 116) F dX8_kissing_82 (by decide) ?_
                    refine q_iinc (t := 119) F dX8_kissing_116 rfl (by decide) rfl rfl ?_
                    refine q_goto (t := 63) F dX8_kissing_119 (by decide) ?_
                    refine wp_less 7 ?_
                    first
                      | (have e9 : kI' im n a (kO im n sz a) (b + 1) = ((a : Int) * 10 + b, skF im n a b 10) := by rw [kI'_s, if_pos ⟨by omega, by omega⟩]
                         have h := ih63 (b + 1) im3 bt3 (by omega) (by omega) hbt3 hR3 hag4
                         rw [e9] at h
                         exact h)
                      | (have e9 : kI' im n a (kO im n sz a) (b + 1) = kI' im n a (kO im n sz a) b := by rw [kI'_s, if_neg (by omega)]
                         have h := ih63 (b + 1) im3 bt3 (by omega) (by omega) hbt3 hR3 hag4
                         rw [e9] at h
                         exact h)
                      | (have e9 : kI' im n a (kO im n sz a) (b + 1) = kI' im n a (kO im n sz a) b := by rw [kI'_s, if_neg (by omega)]
                         have h := ih63 (b + 1) im2 bt2 (by omega) (by omega) hbt2 hR2 hag2
                         rw [e9] at h
                         exact h)
            exact L63 _ 0 im2 bt2 (Nat.lt_succ_self _) (by omega) hbt2 hR2 hag2
      rw [hq1]
      exact L48 _ 0 imF btF (Nat.lt_succ_self _) (by omega) hbtF hRF (ag_rfl _ _)
    · refine q_bipush (t := 17) F dX8_kissing_15 (by decide) rfl ?_
      refine q_iret F dX8_kissing_17 rfl ?_
      refine ⟨_, rfl, ?_, _, bt, rt, hbt, hrt, (by repeat' first | exact hR | refine RI_up ?_ ?_ | assumption | exact hR _ _ _ | (constructor <;> omega)), ?_, rfl⟩
      · unfold kissingA
        (repeat' split) <;> omega
      · exact agP_rfl _
end
