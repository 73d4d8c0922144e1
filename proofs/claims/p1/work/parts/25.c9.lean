/-! run, off, foods, best, few -/
def runA (im : IM) (n what : Int) : Int := if (0 ≤ n ∧ n ≤ 60) ∧ 0 ≤ what ∧ what < 5 then (if what = 0 then sumF im 0 n.toNat 50 else if what = 1 then cntF im 0 n.toNat 50 else if firstF im 0 n.toNat 50 = -1 then -1 else if what = 2 then im 22 (5 * 0 + (firstF im 0 n.toNat 50 / 10).toNat) (firstF im 0 n.toNat 50 % 10).toNat else if what = 3 then firstF im 0 n.toNat 50 / 10 else whenF im 0 n.toNat (firstF im 0 n.toNat 50).toNat) else -2
theorem FI_agP {im im2 : IM} {w n N : Nat} (h : FI im im2 w n N) : agP im2 im := agP_of (h.1.mono (by decide))

set_option maxHeartbeats 4000000 in
theorem c_X8_run (l : Launch) (G : GS) (im : IM) (bt rt : Nat) (lm : IM) (hbt : bt < 6) (hrt : rt < 6) (hS : SC im) (n : Int) (what : Int) (hn : ri n) (hwhat : ri what) : Cn l (XC G) yX8_run Y_X8_run [vR 0 0, vI n, vI what] (im, rs bt rt, lm) (pI fun x m' => x = runA im n what ∧ stC lm im m') := by
  refine cn_of (by decide) (okC G) rfl (Nat.le_of_ble_eq_true rfl) ?_
  intro M ad hMl F
  subst hMl
  obtain ⟨hR, hW, hh, htc, hru, hgt, hz, hrd, hsh, him, htp⟩ := hS
  have w1 := hW.1
  have w2 := hW.2.1
  have w3 := hW.2.2.1
  have w4 := hW.2.2.2.1
  have w5 := hW.2.2.2.2.1
  have hn1 := hn.1
  have hn2 := hn.2
  have hwhat1 := hwhat.1
  have hwhat2 := hwhat.2
  refine wp_pad 1 ?_
  show Wp M (XC G) ad Y_X8_run (pI fun x m' => x = runA im n what ∧ stC lm im m') 0 [some (vR 0 0), some (vI n), some (vI what), none] [] (im, rs bt rt, lm)
  refine q_iload_n (t := 1) F dX8_run_0 rfl rfl rfl ?_
  refine wp_callS (t := 4) [_] F dX8_run_1 k_X8_isSpan st_X8_isSpan ml_X8_163 rfl rfl (Nat.le_of_ble_eq_true rfl) (by decide) (c_X8_isSpan _ G _ bt rt lm n hn) rfl (kI ?_)
  rintro x1 m' ⟨hx1, rfl⟩
  have hx1 := if01 hx1
  refine q_if_eq (t := 7) (u := 15) F dX8_run_4 (by first | exact hR _ _ _ | (constructor <;> omega)) (by decide) rfl (fun c4 => ?_) (fun c4 => ?_)
  · refine q_bipush (t := 17) F dX8_run_15 (by decide) rfl ?_
    refine q_iret F dX8_run_17 rfl ?_
    refine ⟨_, rfl, ?_, _, bt, rt, hbt, hrt, (by repeat' first | exact hR | refine RI_up ?_ ?_ | assumption | exact hR _ _ _ | (constructor <;> omega)), ?_, rfl⟩
    · unfold runA
      (repeat' split) <;> omega
    · exact agP_rfl _
  · refine q_iload_n (t := 8) F dX8_run_7 rfl rfl rfl ?_
    refine q_iconst (t := 9) F dX8_run_8 rfl ?_
    refine wp_callS (t := 12) [_, _] F dX8_run_9 k_X8_within st_X8_within ml_X8_95 rfl rfl (Nat.le_of_ble_eq_true rfl) (by decide) (c_X8_within _ G _ bt rt lm what 5 hwhat (by constructor <;> omega)) rfl (kI ?_)
    rintro x9 m' ⟨hx9, rfl⟩
    have hx9 := if01 hx9
    refine q_if_ne (t := 15) (u := 18) F dX8_run_12 (by first | exact hR _ _ _ | (constructor <;> omega)) (by decide) rfl (fun c12 => ?_) (fun c12 => ?_)
    · obtain ⟨n, rfl⟩ : ∃ k : Nat, n = (k : Int) := ⟨n.toNat, by omega⟩
      refine q_aload_n (t := 19) F dX8_run_18 rfl rfl rfl ?_
      refine g_X8_24 (t := 22) F dX8_run_19 rfl rfl ?_
      refine q_aload_n (t := 23) F dX8_run_22 rfl rfl rfl ?_
      refine g_X8_51 (t := 26) F dX8_run_23 rfl rfl ?_
      refine q_aload_n (t := 27) F dX8_run_26 rfl rfl rfl ?_
      refine g_X8_42 (t := 30) F dX8_run_27 rfl rfl ?_
      refine q_iload_n (t := 31) F dX8_run_30 rfl rfl rfl ?_
      refine wp_callV (t := 34) [_, _, _] F dX8_run_31 k_X1_look v_X1_look ml_X8_166 rfl rfl rfl rfl (Nat.le_of_ble_eq_true rfl) (by decide) (m_9 (by omega)) (c_X1_look _ G im bt rt lm 0 (by omega) hbt hR hW n (by omega)) rfl (kV ?_)
      rintro m' ⟨im2, bt2, hbt2, hR2, hFI, rfl⟩
      have hq1 : im2 9 0 4 = sumF im 0 n 50 := hFI.2.2.1
      have hq2 : im2 9 0 5 = cntF im 0 n 50 := hFI.2.2.2.1
      have hq3 : im2 9 0 6 = firstF im 0 n 50 := hFI.2.2.2.2
      have hq4 := firstF_in im 0 n 50
      have hq5 := sumF_in (n := n) hW 50
      refine q_iload_n (t := 35) F dX8_run_34 rfl rfl rfl ?_
      refine q_if_ne (t := 38) (u := 46) F dX8_run_35 (by first | exact hR _ _ _ | (constructor <;> omega)) (by decide) rfl (fun c35 => ?_) (fun c35 => ?_)
      · refine q_iload_n (t := 47) F dX8_run_46 rfl rfl rfl ?_
        refine q_iconst (t := 48) F dX8_run_47 rfl ?_
        refine q_icmp_ne (t := 51) (u := 59) F dX8_run_48 (by first | exact hR _ _ _ | (constructor <;> omega)) (by first | exact hR _ _ _ | (constructor <;> omega)) (by decide) rfl (fun c48 => ?_) (fun c48 => ?_)
        · refine q_aload_n (t := 60) F dX8_run_59 rfl rfl rfl ?_
          refine g_X8_24 (t := 63) F dX8_run_60 rfl rfl ?_
          refine g_X8_175 (t := 66) F dX8_run_63 rfl rfl ?_
          try simp only [up_app, row_app, scr_app, cpy_app, Nat.reduceEqDiff, Int.reduceToNat, Int.toNat_natCast, and_true, true_and, and_false, false_and, and_self, reduceIte]
          refine q_istore_n (t := 67) F dX8_run_66 rfl (by decide) rfl rfl ?_
          refine q_iload_n (t := 68) F dX8_run_67 rfl rfl rfl ?_
          refine q_bipush (t := 70) F dX8_run_68 (by decide) rfl ?_
          refine wp_callS (t := 73) [_, _] F dX8_run_70 k_X8_within st_X8_within ml_X8_95 rfl rfl (Nat.le_of_ble_eq_true rfl) (by decide) (c_X8_within _ G _ _ rt lm (im2 9 0 6) 50 (hR2 _ _ _) (by constructor <;> omega)) rfl (kI ?_)
          rintro x70 m' ⟨hx70, rfl⟩
          have hx70 := if01 hx70
          refine q_if_ne (t := 76) (u := 78) F dX8_run_73 (by first | exact hR _ _ _ | (constructor <;> omega)) (by decide) rfl (fun c73 => ?_) (fun c73 => ?_)
          · refine q_iload_n (t := 79) F dX8_run_78 rfl rfl rfl ?_
            refine q_iconst (t := 80) F dX8_run_79 rfl ?_
            refine q_icmp_ne (t := 83) (u := 104) F dX8_run_80 (by first | exact hR _ _ _ | (constructor <;> omega)) (by first | exact hR _ _ _ | (constructor <;> omega)) (by decide) rfl (fun c80 => ?_) (fun c80 => ?_)
            · refine q_iload_n (t := 105) F dX8_run_104 rfl rfl rfl ?_
              refine q_iconst (t := 106) F dX8_run_105 rfl ?_
              refine q_icmp_ne (t := 109) (u := 116) F dX8_run_106 (by first | exact hR _ _ _ | (constructor <;> omega)) (by first | exact hR _ _ _ | (constructor <;> omega)) (by decide) rfl (fun c106 => ?_) (fun c106 => ?_)
              · refine q_aload_n (t := 117) F dX8_run_116 rfl rfl rfl ?_
                refine g_X8_24 (t := 120) F dX8_run_117 rfl rfl ?_
                refine g_X8_178 (t := 123) F dX8_run_120 rfl rfl ?_
                refine q_iload_n (t := 124) F dX8_run_123 rfl rfl rfl ?_
                refine ld_10 (t := 125) F dX8_run_124 (by omega) (by omega) rfl ?_
                try simp only [up_app, row_app, scr_app, cpy_app, Nat.reduceEqDiff, Int.reduceToNat, Int.toNat_natCast, and_true, true_and, and_false, false_and, and_self, reduceIte]
                refine q_iret F dX8_run_125 rfl ?_
                refine ⟨_, rfl, ?_, im2, bt2, rt, hbt2, hrt, hR2, FI_agP hFI, rfl⟩
                unfold runA
                try simp only [Int.toNat_natCast]
                first
                  | (rw [if_pos (by omega), if_neg (by omega), if_neg (by omega), if_neg (by omega), if_neg (by omega), if_pos (by omega), hq3])
                  | (rw [if_pos (by omega), if_neg (by omega), if_neg (by omega), if_neg (by omega), if_neg (by omega), if_neg (by omega), hq3]
                     exact (hFI.2.1 _ (by omega)).1)
              · refine q_iload_n (t := 110) F dX8_run_109 rfl rfl rfl ?_
                refine q_bipush (t := 112) F dX8_run_110 (by decide) rfl ?_
                refine q_idiv (t := 113) F dX8_run_112 (by exact hR2 _ _ _) (by constructor <;> omega) (by omega) (by omega) rfl ?_
                refine q_goto (t := 125) F dX8_run_113 (by decide) ?_
                refine q_iret F dX8_run_125 rfl ?_
                refine ⟨_, rfl, ?_, im2, bt2, rt, hbt2, hrt, hR2, FI_agP hFI, rfl⟩
                unfold runA
                try simp only [Int.toNat_natCast]
                first
                  | (rw [if_pos (by omega), if_neg (by omega), if_neg (by omega), if_neg (by omega), if_neg (by omega), if_pos (by omega), hq3])
                  | (rw [if_pos (by omega), if_neg (by omega), if_neg (by omega), if_neg (by omega), if_neg (by omega), if_neg (by omega), hq3]
                     exact (hFI.2.1 _ (by omega)).1)
            · refine q_aload_n (t := 84) F dX8_run_83 rfl rfl rfl ?_
              refine g_X8_51 (t := 87) F dX8_run_84 rfl rfl ?_
              refine g_X8_99 (t := 90) F dX8_run_87 rfl (by omega) rfl ?_
              refine q_iload_n (t := 91) F dX8_run_90 rfl rfl rfl ?_
              refine q_bipush (t := 93) F dX8_run_91 (by decide) rfl ?_
              refine q_idiv (t := 94) F dX8_run_93 (by exact hR2 _ _ _) (by constructor <;> omega) (by omega) (by omega) rfl ?_
              refine la_19 (t := 95) F dX8_run_94 (by omega) (by omega) (by omega) rfl ?_
              refine g_X8_132 (t := 98) F dX8_run_95 rfl (by omega) rfl ?_
              refine q_iload_n (t := 99) F dX8_run_98 rfl rfl rfl ?_
              refine q_bipush (t := 101) F dX8_run_99 (by decide) rfl ?_
              refine q_irem (t := 102) F dX8_run_101 (by exact hR2 _ _ _) (by constructor <;> omega) (by omega) (by omega) rfl ?_
              refine ld_22 (t := 103) F dX8_run_102 (by omega) (by omega) (by omega) rfl ?_
              try simp only [up_app, row_app, scr_app, cpy_app, Nat.reduceEqDiff, Int.reduceToNat, Int.toNat_natCast, and_true, true_and, and_false, false_and, and_self, reduceIte]
              refine q_iret F dX8_run_103 rfl ?_
              refine ⟨_, rfl, ?_, im2, bt2, rt, hbt2, hrt, hR2, FI_agP hFI, rfl⟩
              unfold runA
              try simp only [Int.toNat_natCast]
              rw [if_pos (by omega), if_neg (by omega), if_neg (by omega), if_neg (by omega), if_pos (by omega), hq3]
              exact hFI.1 22 (by decide) _ _
          · refine q_iconst (t := 77) F dX8_run_76 rfl ?_
            refine q_iret F dX8_run_77 rfl ?_
            refine ⟨_, rfl, ?_, im2, bt2, rt, hbt2, hrt, hR2, FI_agP hFI, rfl⟩
            unfold runA
            try simp only [Int.toNat_natCast]
            rw [if_pos (by omega), if_neg (by omega), if_neg (by omega), if_pos (by omega)]
        · refine q_aload_n (t := 52) F dX8_run_51 rfl rfl rfl ?_
          refine g_X8_24 (t := 55) F dX8_run_52 rfl rfl ?_
          refine g_X8_172 (t := 58) F dX8_run_55 rfl rfl ?_
          try simp only [up_app, row_app, scr_app, cpy_app, Nat.reduceEqDiff, Int.reduceToNat, Int.toNat_natCast, and_true, true_and, and_false, false_and, and_self, reduceIte]
          refine q_iret F dX8_run_58 rfl ?_
          refine ⟨_, rfl, ?_, im2, bt2, rt, hbt2, hrt, hR2, FI_agP hFI, rfl⟩
          unfold runA
          try simp only [Int.toNat_natCast]
          rw [if_pos (by omega), if_neg (by omega), if_pos (by omega), hq2]
      · refine q_aload_n (t := 39) F dX8_run_38 rfl rfl rfl ?_
        refine g_X8_24 (t := 42) F dX8_run_39 rfl rfl ?_
        refine g_X8_169 (t := 45) F dX8_run_42 rfl rfl ?_
        try simp only [up_app, row_app, scr_app, cpy_app, Nat.reduceEqDiff, Int.reduceToNat, Int.toNat_natCast, and_true, true_and, and_false, false_and, and_self, reduceIte]
        refine q_iret F dX8_run_45 rfl ?_
        refine ⟨_, rfl, ?_, im2, bt2, rt, hbt2, hrt, hR2, FI_agP hFI, rfl⟩
        unfold runA
        try simp only [Int.toNat_natCast]
        rw [if_pos (by omega), if_pos (by omega), hq1]
    · refine q_bipush (t := 17) F dX8_run_15 (by decide) rfl ?_
      refine q_iret F dX8_run_17 rfl ?_
      refine ⟨_, rfl, ?_, _, bt, rt, hbt, hrt, (by repeat' first | exact hR | refine RI_up ?_ ?_ | assumption | exact hR _ _ _ | (constructor <;> omega)), ?_, rfl⟩
      · unfold runA
        (repeat' split) <;> omega
      · exact agP_rfl _

def offA (im : IM) (man gap n : Int) : Int := if (0 ≤ man ∧ man < im 18 0 3) ∧ (0 ≤ gap ∧ gap < 10) ∧ 0 ≤ n ∧ n ≤ 60 then goesW im 0 man.toNat gap.toNat n.toNat else -2

set_option maxHeartbeats 4000000 in
theorem c_X8_off (l : Launch) (G : GS) (im : IM) (bt rt : Nat) (lm : IM) (hbt : bt < 6) (hrt : rt < 6) (hS : SC im) (man : Int) (gap : Int) (n : Int) (hman : ri man) (hgap : ri gap) (hn : ri n) : Cn l (XC G) yX8_off Y_X8_off [vR 0 0, vI man, vI gap, vI n] (im, rs bt rt, lm) (pI fun x m' => x = offA im man gap n ∧ stC lm im m') := by
  refine cn_of (by decide) (okC G) rfl (Nat.le_of_ble_eq_true rfl) ?_
  intro M ad hMl F
  subst hMl
  obtain ⟨hR, hW, hh, htc, hru, hgt, hz, hrd, hsh, him, htp⟩ := hS
  have w1 := hW.1
  have w2 := hW.2.1
  have w3 := hW.2.2.1
  have w4 := hW.2.2.2.1
  have w5 := hW.2.2.2.2.1
  have hman1 := hman.1
  have hman2 := hman.2
  have hgap1 := hgap.1
  have hgap2 := hgap.2
  have hn1 := hn.1
  have hn2 := hn.2
  refine wp_pad 0 ?_
  show Wp M (XC G) ad Y_X8_off (pI fun x m' => x = offA im man gap n ∧ stC lm im m') 0 [some (vR 0 0), some (vI man), some (vI gap), some (vI n)] [] (im, rs bt rt, lm)
  refine q_aload_n (t := 1) F dX8_off_0 rfl rfl rfl ?_
  refine q_iload_n (t := 2) F dX8_off_1 rfl rfl rfl ?_
  refine wp_callV (t := 5) [_] F dX8_off_2 k_X8_isOne v_X8_isOne ml_X8_91 rfl rfl rfl rfl (Nat.le_of_ble_eq_true rfl) (by decide) (m_0 (by omega)) (c_X8_isOne _ G _ bt rt lm man hman hR) rfl (kI ?_)
  rintro x2 m' ⟨hx2, rfl⟩
  have hx2 := if01 hx2
  refine q_if_eq (t := 8) (u := 24) F dX8_off_5 (by first | exact hR _ _ _ | (constructor <;> omega)) (by decide) rfl (fun c5 => ?_) (fun c5 => ?_)
  · refine q_bipush (t := 26) F dX8_off_24 (by decide) rfl ?_
    refine q_iret F dX8_off_26 rfl ?_
    refine ⟨_, rfl, ?_, _, bt, rt, hbt, hrt, (by repeat' first | exact hR | refine RI_up ?_ ?_ | assumption | exact hR _ _ _ | (constructor <;> omega)), ?_, rfl⟩
    · unfold offA
      (repeat' split) <;> omega
    · exact agP_rfl _
  · refine q_iload_n (t := 9) F dX8_off_8 rfl rfl rfl ?_
    refine q_bipush (t := 11) F dX8_off_9 (by decide) rfl ?_
    refine wp_callS (t := 14) [_, _] F dX8_off_11 k_X8_within st_X8_within ml_X8_95 rfl rfl (Nat.le_of_ble_eq_true rfl) (by decide) (c_X8_within _ G _ bt rt lm gap 10 hgap (by constructor <;> omega)) rfl (kI ?_)
    rintro x11 m' ⟨hx11, rfl⟩
    have hx11 := if01 hx11
    refine q_if_eq (t := 17) (u := 24) F dX8_off_14 (by first | exact hR _ _ _ | (constructor <;> omega)) (by decide) rfl (fun c14 => ?_) (fun c14 => ?_)
    · refine q_bipush (t := 26) F dX8_off_24 (by decide) rfl ?_
      refine q_iret F dX8_off_26 rfl ?_
      refine ⟨_, rfl, ?_, _, bt, rt, hbt, hrt, (by repeat' first | exact hR | refine RI_up ?_ ?_ | assumption | exact hR _ _ _ | (constructor <;> omega)), ?_, rfl⟩
      · unfold offA
        (repeat' split) <;> omega
      · exact agP_rfl _
    · refine q_iload_n (t := 18) F dX8_off_17 rfl rfl rfl ?_
      refine wp_callS (t := 21) [_] F dX8_off_18 k_X8_isSpan st_X8_isSpan ml_X8_163 rfl rfl (Nat.le_of_ble_eq_true rfl) (by decide) (c_X8_isSpan _ G _ bt rt lm n hn) rfl (kI ?_)
      rintro x18 m' ⟨hx18, rfl⟩
      have hx18 := if01 hx18
      refine q_if_ne (t := 24) (u := 27) F dX8_off_21 (by first | exact hR _ _ _ | (constructor <;> omega)) (by decide) rfl (fun c21 => ?_) (fun c21 => ?_)
      · obtain ⟨man, rfl⟩ : ∃ k : Nat, man = (k : Int) := ⟨man.toNat, by omega⟩
        obtain ⟨gap, rfl⟩ : ∃ k : Nat, gap = (k : Int) := ⟨gap.toNat, by omega⟩
        obtain ⟨n, rfl⟩ : ∃ k : Nat, n = (k : Int) := ⟨n.toNat, by omega⟩
        obtain ⟨r0, r1, hT, k0, k1, n0, n1, hga, hh0, hh1, hm5⟩ := cell_of hW (man := man) (by omega)
        refine q_aload_n (t := 28) F dX8_off_27 rfl rfl rfl ?_
        refine g_X8_42 (t := 31) F dX8_off_28 rfl rfl ?_
        refine q_aload_n (t := 32) F dX8_off_31 rfl rfl rfl ?_
        refine g_X8_51 (t := 35) F dX8_off_32 rfl rfl ?_
        refine q_iload_n (t := 36) F dX8_off_35 rfl rfl rfl ?_
        refine q_iload_n (t := 37) F dX8_off_36 rfl rfl rfl ?_
        refine wp_callV (t := 40) [_, _, _] F dX8_off_37 k_X0_look v_X0_look ml_X8_139 rfl rfl rfl rfl (Nat.le_of_ble_eq_true rfl) (by decide) (m_16 (by omega)) (c_X0_look _ G im bt rt lm 0 man gap (by omega) hm5 (by omega) r0 r1) rfl (kV ?_)
        rintro m' rfl
        have hRl := RI_look (w := 0) (p := man) (g := gap) hR (by omega)
        have hb4 : (im 18 0 7).toNat < 6 := by omega
        refine q_aload_n (t := 41) F dX8_off_40 rfl rfl rfl ?_
        refine g_X8_42 (t := 44) F dX8_off_41 rfl rfl ?_
        refine q_iload_n (t := 45) F dX8_off_44 rfl rfl rfl ?_
        refine wp_callV (t := 48) [_] F dX8_off_45 k_X0_goesOffIn v_X0_goesOffIn ml_X8_181 rfl rfl rfl rfl (Nat.le_of_ble_eq_true rfl) (by decide) (m_16 (by omega)) (c_X0_goesOffIn _ G (lookM im 0 man gap) (im 18 0 7).toNat rt lm n (by omega) hb4 hRl (goodT_congr (fun s => rfl) (fun s => rfl) hT) k0 k1 n0 n1 (hga gap (by omega)) hh0 hh1) rfl (kI ?_)
        rintro x45 m' ⟨hx, hgb⟩
        obtain ⟨im3, hR3, hag3, rfl⟩ := garb_ag hgb hRl
        rw [look_goes] at hx
        refine q_iret F dX8_off_48 rfl ?_
        refine ⟨_, rfl, ?_, im3, _, rt, hb4, hrt, hR3, agP_of ((hag3.mono (by decide)).trans ((look_ag im 0 man gap).mono (by decide))), rfl⟩
        unfold offA
        simp only [Int.toNat_natCast]
        rw [if_pos (by omega), hx]
      · refine q_bipush (t := 26) F dX8_off_24 (by decide) rfl ?_
        refine q_iret F dX8_off_26 rfl ?_
        refine ⟨_, rfl, ?_, _, bt, rt, hbt, hrt, (by repeat' first | exact hR | refine RI_up ?_ ?_ | assumption | exact hR _ _ _ | (constructor <;> omega)), ?_, rfl⟩
        · unfold offA
          (repeat' split) <;> omega
        · exact agP_rfl _

def fdF (im : IM) (man : Nat) (w gap : Int) : Nat → Nat
  | 0 => 0
  | f + 1 => if takesW im 0 man w f = gap then fdF im man w gap f ||| 2 ^ f else fdF im man w gap f
theorem fdF_s (im : IM) (man : Nat) (w gap : Int) (f : Nat) : fdF im man w gap (f + 1) = if takesW im 0 man w f = gap then fdF im man w gap f ||| 2 ^ f else fdF im man w gap f := rfl
def foodsA (im : IM) (man w gap : Int) : Int := if (0 ≤ man ∧ man < im 18 0 3) ∧ (0 ≤ w ∧ w < 16) ∧ 0 ≤ gap ∧ gap < 10 then (if im 22 (5 * 0 + man.toNat) gap.toNat = -1 then ((fdF im man.toNat w gap 10 : Nat) : Int) else 0) else -2
theorem pow_cast (g : Nat) : (1 : Int) * 2 ^ (g : Int).toNat = ((2 ^ g : Nat) : Int) := by
  rw [Int.toNat_natCast, Int.one_mul]
  exact (Int.natCast_pow 2 g).symm

set_option maxHeartbeats 4000000 in
theorem c_X8_foods (l : Launch) (G : GS) (im : IM) (bt rt : Nat) (lm : IM) (hbt : bt < 6) (hrt : rt < 6) (hS : SC im) (man : Int) (w : Int) (gap : Int) (hman : ri man) (hw : ri w) (hgap : ri gap) : Cn l (XC G) yX8_foods Y_X8_foods [vR 0 0, vI man, vI w, vI gap] (im, rs bt rt, lm) (pI fun x m' => x = foodsA im man w gap ∧ stC lm im m') := by
  refine cn_of (by decide) (okC G) rfl (Nat.le_of_ble_eq_true rfl) ?_
  intro M ad hMl F
  subst hMl
  obtain ⟨hR, hW, hh, htc, hru, hgt, hz, hrd, hsh, him, htp⟩ := hS
  have w1 := hW.1
  have w2 := hW.2.1
  have w3 := hW.2.2.1
  have w4 := hW.2.2.2.1
  have w5 := hW.2.2.2.2.1
  have hman1 := hman.1
  have hman2 := hman.2
  have hw1 := hw.1
  have hw2 := hw.2
  have hgap1 := hgap.1
  have hgap2 := hgap.2
  refine wp_pad 2 ?_
  show Wp M (XC G) ad Y_X8_foods (pI fun x m' => x = foodsA im man w gap ∧ stC lm im m') 0 [some (vR 0 0), some (vI man), some (vI w), some (vI gap), none, none] [] (im, rs bt rt, lm)
  refine q_aload_n (t := 1) F dX8_foods_0 rfl rfl rfl ?_
  refine q_iload_n (t := 2) F dX8_foods_1 rfl rfl rfl ?_
  refine wp_callV (t := 5) [_] F dX8_foods_2 k_X8_isOne v_X8_isOne ml_X8_91 rfl rfl rfl rfl (Nat.le_of_ble_eq_true rfl) (by decide) (m_0 (by omega)) (c_X8_isOne _ G _ bt rt lm man hman hR) rfl (kI ?_)
  rintro x2 m' ⟨hx2, rfl⟩
  have hx2 := if01 hx2
  refine q_if_eq (t := 8) (u := 26) F dX8_foods_5 (by first | exact hR _ _ _ | (constructor <;> omega)) (by decide) rfl (fun c5 => ?_) (fun c5 => ?_)
  · refine q_bipush (t := 28) F dX8_foods_26 (by decide) rfl ?_
    refine q_iret F dX8_foods_28 rfl ?_
    refine ⟨_, rfl, ?_, _, bt, rt, hbt, hrt, (by repeat' first | exact hR | refine RI_up ?_ ?_ | assumption | exact hR _ _ _ | (constructor <;> omega)), ?_, rfl⟩
    · unfold foodsA
      (repeat' split) <;> omega
    · exact agP_rfl _
  · refine q_iload_n (t := 9) F dX8_foods_8 rfl rfl rfl ?_
    refine q_bipush (t := 11) F dX8_foods_9 (by decide) rfl ?_
    refine wp_callS (t := 14) [_, _] F dX8_foods_11 k_X8_within st_X8_within ml_X8_95 rfl rfl (Nat.le_of_ble_eq_true rfl) (by decide) (c_X8_within _ G _ bt rt lm w 16 hw (by constructor <;> omega)) rfl (kI ?_)
    rintro x11 m' ⟨hx11, rfl⟩
    have hx11 := if01 hx11
    refine q_if_eq (t := 17) (u := 26) F dX8_foods_14 (by first | exact hR _ _ _ | (constructor <;> omega)) (by decide) rfl (fun c14 => ?_) (fun c14 => ?_)
    · refine q_bipush (t := 28) F dX8_foods_26 (by decide) rfl ?_
      refine q_iret F dX8_foods_28 rfl ?_
      refine ⟨_, rfl, ?_, _, bt, rt, hbt, hrt, (by repeat' first | exact hR | refine RI_up ?_ ?_ | assumption | exact hR _ _ _ | (constructor <;> omega)), ?_, rfl⟩
      · unfold foodsA
        (repeat' split) <;> omega
      · exact agP_rfl _
    · refine q_iload_n (t := 18) F dX8_foods_17 rfl rfl rfl ?_
      refine q_bipush (t := 20) F dX8_foods_18 (by decide) rfl ?_
      refine wp_callS (t := 23) [_, _] F dX8_foods_20 k_X8_within st_X8_within ml_X8_95 rfl rfl (Nat.le_of_ble_eq_true rfl) (by decide) (c_X8_within _ G _ bt rt lm gap 10 hgap (by constructor <;> omega)) rfl (kI ?_)
      rintro x20 m' ⟨hx20, rfl⟩
      have hx20 := if01 hx20
      refine q_if_ne (t := 26) (u := 29) F dX8_foods_23 (by first | exact hR _ _ _ | (constructor <;> omega)) (by decide) rfl (fun c23 => ?_) (fun c23 => ?_)
      · obtain ⟨man, rfl⟩ : ∃ k : Nat, man = (k : Int) := ⟨man.toNat, by omega⟩
        obtain ⟨gap, rfl⟩ : ∃ k : Nat, gap = (k : Int) := ⟨gap.toNat, by omega⟩
        refine q_aload_n (t := 30) F dX8_foods_29 rfl rfl rfl ?_
        refine g_X8_51 (t := 33) F dX8_foods_30 rfl rfl ?_
        refine g_X8_99 (t := 36) F dX8_foods_33 rfl (by omega) rfl ?_
        refine q_iload_n (t := 37) F dX8_foods_36 rfl rfl rfl ?_
        first | refine laN_19 (t := 38) F dX8_foods_37 (by omega) (by omega) rfl ?_ | refine la_19 (t := 38) F dX8_foods_37 (by omega) (by omega) (by omega) rfl ?_
        refine g_X8_132 (t := 41) F dX8_foods_38 rfl (by omega) rfl ?_
        refine q_iload_n (t := 42) F dX8_foods_41 rfl rfl rfl ?_
        first | refine ldN_22 (t := 43) F dX8_foods_42 (by omega) (by omega) rfl ?_ | refine ld_22 (t := 43) F dX8_foods_42 (by omega) (by omega) (by omega) rfl ?_
        try simp only [up_app, row_app, scr_app, cpy_app, Nat.reduceEqDiff, Int.reduceToNat, Int.toNat_natCast, and_true, true_and, and_false, false_and, and_self, reduceIte]
        refine q_iconst (t := 44) F dX8_foods_43 rfl ?_
        refine q_icmp_eq (t := 47) (u := 49) F dX8_foods_44 (by first | exact hR _ _ _ | (constructor <;> omega)) (by first | exact hR _ _ _ | (constructor <;> omega)) (by decide) rfl (fun c44 => ?_) (fun c44 => ?_)
        · refine q_iconst (t := 50) F dX8_foods_49 rfl ?_
          refine q_istore (t := 52) F dX8_foods_50 (by decide) rfl rfl ?_
          refine q_iconst (t := 53) F dX8_foods_52 rfl ?_
          refine q_istore (t := 55) F dX8_foods_53 (by decide) rfl rfl ?_
          have L55 : ∀ (fz : Nat) (f : Nat) (im2 : IM), 10 - f < fz → f ≤ 10 → RI im2 → ag [5, 20] im2 im → Wp M (XC G) ad Y_X8_foods (pI fun x m' => x = foodsA im man w gap ∧ stC lm im m') 55 [some (vR 0 0), some (vI (man : Int)), some (vI w), some (vI (gap : Int)), some (vI ((fdF im man w gap f : Nat) : Int)), some (vI (f : Int))] [] (im2, rs bt rt, lm) := by
            intro fz
            induction fz with
            | zero => intro f im2 h; exact absurd h (Nat.not_lt_zero _)
            | succ fz ih =>
              have ih55 := ih
              intro f im2 hmeas hf hR2 hag2
              have hW2 := WI_ag hag2 (by decide) (by decide) (by decide) (by decide) (by decide) (by decide) hW
              have e3 : im2 18 0 3 = im 18 0 3 := hag2 18 (by decide) 0 3
              refine q_iload (t := 57) F dX8_foods_55 rfl rfl ?_
              refine q_bipush (t := 59) F dX8_foods_57 (by decide) rfl ?_
              refine q_icmp_ge (t := 62) (u := 92) F dX8_foods_59 (by first | exact hR _ _ _ | (constructor <;> omega)) (by first | exact hR _ _ _ | (constructor <;> omega)) (by decide) rfl (fun c59 => ?_) (fun c59 => ?_)
              · refine q_iload (t := 94) F dX8_foods_92 rfl rfl ?_
                refine q_iret F dX8_foods_94 rfl ?_
                refine ⟨_, rfl, ?_, im2, bt, rt, hbt, hrt, hR2, agP_of (hag2.mono (by decide)), rfl⟩
                unfold foodsA
                simp only [Int.toNat_natCast]
                rw [if_pos (by omega), if_pos (by omega), show f = 10 by omega]
              · refine q_aload_n (t := 63) F dX8_foods_62 rfl rfl rfl ?_
                refine g_X8_51 (t := 66) F dX8_foods_63 rfl rfl ?_
                refine q_iload_n (t := 67) F dX8_foods_66 rfl rfl rfl ?_
                refine q_iload_n (t := 68) F dX8_foods_67 rfl rfl rfl ?_
                refine q_iload (t := 70) F dX8_foods_68 rfl rfl ?_
                refine wp_callV (t := 73) [_, _, _] F dX8_foods_70 k_X7_takes v_X7_takes ml_X8_184 rfl rfl rfl rfl (Nat.le_of_ble_eq_true rfl) (by decide) (m_18 (by omega)) (c_X7_takes _ G im2 bt rt lm 0 (by omega) hR2 hW2 man (by rw [e3]; omega) w f hw (by constructor <;> omega)) rfl (kI ?_)
                rintro x70 m' ⟨hx, im3, hR3, hag3, rfl⟩
                rw [takesW_ag hag2 (by decide) (by decide) (by decide) (by decide) (by decide)] at hx
                have htk := takesW_in im 0 man w f
                refine q_iload_n (t := 74) F dX8_foods_73 rfl rfl rfl ?_
                refine q_icmp_ne (t := 77) (u := 86) F dX8_foods_74 (by constructor <;> omega) (by constructor <;> omega) (by decide) rfl (fun c74 => ?_) (fun c74 => ?_)
                · refine q_iinc (t := 89) F dX8_foods_86 rfl (by decide) rfl rfl ?_
                  refine q_goto (t := 55) F dX8_foods_89 (by decide) ?_
                  have hag4 := hag3.trans hag2
                  first
                    | (rw [show (fdF im man w gap f ||| 2 ^ f) = fdF im man w gap (f + 1) from by rw [fdF_s, if_pos (by omega)]]
                       exact ih55 (f + 1) im3 (by omega) (by omega) hR3 hag4)
                    | (rw [show fdF im man w gap f = fdF im man w gap (f + 1) from by rw [fdF_s, if_neg (by omega)]]
                       exact ih55 (f + 1) im3 (by omega) (by omega) hR3 hag4)
                · refine q_iload (t := 79) F dX8_foods_77 rfl rfl ?_
                  refine q_iconst (t := 80) F dX8_foods_79 rfl ?_
                  refine q_iload (t := 82) F dX8_foods_80 rfl rfl ?_
                  refine q_ishl (t := 83) F dX8_foods_82 (by omega) (by omega) rfl ?_
                  rw [pow_cast]
                  refine q_ior (t := 84) F dX8_foods_83 rfl ?_
                  refine q_istore (t := 86) F dX8_foods_84 (by decide) rfl rfl ?_
                  refine q_iinc (t := 89) F dX8_foods_86 rfl (by decide) rfl rfl ?_
                  refine q_goto (t := 55) F dX8_foods_89 (by decide) ?_
                  have hag4 := hag3.trans hag2
                  first
                    | (rw [show (fdF im man w gap f ||| 2 ^ f) = fdF im man w gap (f + 1) from by rw [fdF_s, if_pos (by omega)]]
                       exact ih55 (f + 1) im3 (by omega) (by omega) hR3 hag4)
                    | (rw [show fdF im man w gap f = fdF im man w gap (f + 1) from by rw [fdF_s, if_neg (by omega)]]
                       exact ih55 (f + 1) im3 (by omega) (by omega) hR3 hag4)
          exact L55 _ 0 im (Nat.lt_succ_self _) (by omega) hR (ag_rfl _ _)
        · refine q_iconst (t := 48) F dX8_foods_47 rfl ?_
          refine q_iret F dX8_foods_48 rfl ?_
          refine ⟨_, rfl, ?_, _, bt, rt, hbt, hrt, hR, agP_rfl _, rfl⟩
          unfold foodsA
          simp only [Int.toNat_natCast]
          rw [if_pos (by omega), if_neg (by omega)]
      · refine q_bipush (t := 28) F dX8_foods_26 (by decide) rfl ?_
        refine q_iret F dX8_foods_28 rfl ?_
        refine ⟨_, rfl, ?_, _, bt, rt, hbt, hrt, (by repeat' first | exact hR | refine RI_up ?_ ?_ | assumption | exact hR _ _ _ | (constructor <;> omega)), ?_, rfl⟩
        · unfold foodsA
          (repeat' split) <;> omega
        · exact agP_rfl _

theorem dB_congr {f g : Nat → Int} (n : Nat) (h : ∀ k, k < n → f k = g k) : dB f n = dB g n := by
  induction n with
  | zero => rfl
  | succ n ih =>
    rw [dB_s, dB_s, ih (fun k hk => h k (by omega)), h n (by omega)]
def bestA (im : IM) (n what : Int) : Int := if (0 ≤ n ∧ n ≤ 60) ∧ 0 ≤ what ∧ what < 2 then (if what = 0 then (dB (costF im 0 n.toNat) 50).1 else if (dB (costF im 0 n.toNat) 50).1 = -1 then sumF im 0 n.toNat 50 else sumF im 0 n.toNat 50 - costF im 0 n.toNat (dB (costF im 0 n.toNat) 50).1.toNat) else -2

set_option maxHeartbeats 4000000 in
theorem c_X8_best (l : Launch) (G : GS) (im : IM) (bt rt : Nat) (lm : IM) (hbt : bt < 6) (hrt : rt < 6) (hS : SC im) (n : Int) (what : Int) (hn : ri n) (hwhat : ri what) : Cn l (XC G) yX8_best Y_X8_best [vR 0 0, vI n, vI what] (im, rs bt rt, lm) (pI fun x m' => x = bestA im n what ∧ stC lm im m') := by
  refine cn_of (by decide) (okC G) rfl (Nat.le_of_ble_eq_true rfl) ?_
  intro M ad hMl F
  subst hMl
  obtain ⟨hR, hW, hh, htc, hru, hgt, hz, hrd, hsh, him, htp⟩ := hS
  have w1 := hW.1
  have w2 := hW.2.1
  have w3 := hW.2.2.1
  have w4 := hW.2.2.2.1
  have w5 := hW.2.2.2.2.1
  have hn1 := hn.1
  have hn2 := hn.2
  have hwhat1 := hwhat.1
  have hwhat2 := hwhat.2
  refine wp_pad 1 ?_
  show Wp M (XC G) ad Y_X8_best (pI fun x m' => x = bestA im n what ∧ stC lm im m') 0 [some (vR 0 0), some (vI n), some (vI what), none] [] (im, rs bt rt, lm)
  refine q_iload_n (t := 1) F dX8_best_0 rfl rfl rfl ?_
  refine wp_callS (t := 4) [_] F dX8_best_1 k_X8_isSpan st_X8_isSpan ml_X8_163 rfl rfl (Nat.le_of_ble_eq_true rfl) (by decide) (c_X8_isSpan _ G _ bt rt lm n hn) rfl (kI ?_)
  rintro x1 m' ⟨hx1, rfl⟩
  have hx1 := if01 hx1
  refine q_if_eq (t := 7) (u := 15) F dX8_best_4 (by first | exact hR _ _ _ | (constructor <;> omega)) (by decide) rfl (fun c4 => ?_) (fun c4 => ?_)
  · refine q_bipush (t := 17) F dX8_best_15 (by decide) rfl ?_
    refine q_iret F dX8_best_17 rfl ?_
    refine ⟨_, rfl, ?_, _, bt, rt, hbt, hrt, (by repeat' first | exact hR | refine RI_up ?_ ?_ | assumption | exact hR _ _ _ | (constructor <;> omega)), ?_, rfl⟩
    · unfold bestA
      (repeat' split) <;> omega
    · exact agP_rfl _
  · refine q_iload_n (t := 8) F dX8_best_7 rfl rfl rfl ?_
    refine q_iconst (t := 9) F dX8_best_8 rfl ?_
    refine wp_callS (t := 12) [_, _] F dX8_best_9 k_X8_within st_X8_within ml_X8_95 rfl rfl (Nat.le_of_ble_eq_true rfl) (by decide) (c_X8_within _ G _ bt rt lm what 2 hwhat (by constructor <;> omega)) rfl (kI ?_)
    rintro x9 m' ⟨hx9, rfl⟩
    have hx9 := if01 hx9
    refine q_if_ne (t := 15) (u := 18) F dX8_best_12 (by first | exact hR _ _ _ | (constructor <;> omega)) (by decide) rfl (fun c12 => ?_) (fun c12 => ?_)
    · obtain ⟨n, rfl⟩ : ∃ k : Nat, n = (k : Int) := ⟨n.toNat, by omega⟩
      refine q_aload_n (t := 19) F dX8_best_18 rfl rfl rfl ?_
      refine g_X8_24 (t := 22) F dX8_best_19 rfl rfl ?_
      refine q_aload_n (t := 23) F dX8_best_22 rfl rfl rfl ?_
      refine g_X8_51 (t := 26) F dX8_best_23 rfl rfl ?_
      refine q_aload_n (t := 27) F dX8_best_26 rfl rfl rfl ?_
      refine g_X8_42 (t := 30) F dX8_best_27 rfl rfl ?_
      refine q_iload_n (t := 31) F dX8_best_30 rfl rfl rfl ?_
      refine wp_callV (t := 34) [_, _, _] F dX8_best_31 k_X1_look v_X1_look ml_X8_166 rfl rfl rfl rfl (Nat.le_of_ble_eq_true rfl) (by decide) (m_9 (by omega)) (c_X1_look _ G im bt rt lm 0 (by omega) hbt hR hW n (by omega)) rfl (kV ?_)
      rintro m' ⟨im2, bt2, hbt2, hR2, hFI, rfl⟩
      have hq1 : im2 9 0 4 = sumF im 0 n 50 := hFI.2.2.1
      have hq2 : im2 9 0 5 = cntF im 0 n 50 := hFI.2.2.2.1
      have hq3 : im2 9 0 6 = firstF im 0 n 50 := hFI.2.2.2.2
      have hq4 := firstF_in im 0 n 50
      have hq5 := sumF_in (n := n) hW 50
      refine q_aload_n (t := 35) F dX8_best_34 rfl rfl rfl ?_
      refine g_X8_24 (t := 38) F dX8_best_35 rfl rfl ?_
      refine wp_callV (t := 41) [] F dX8_best_38 k_X1_dearest v_X1_dearest ml_X8_187 rfl rfl rfl rfl (Nat.le_of_ble_eq_true rfl) (by decide) (m_9 (by omega)) (c_X1_dearest _ G im2 bt2 rt lm hR2) rfl (kI ?_)
      rintro x38 m' ⟨hx, rfl⟩
      rw [dB_congr 50 (fun k hk => (hFI.2.1 k hk).2)] at hx
      have hdi := dB_in (costF im 0 n) 50
      subst hx
      refine q_istore_n (t := 42) F dX8_best_41 rfl (by decide) rfl rfl ?_
      refine q_iload_n (t := 43) F dX8_best_42 rfl rfl rfl ?_
      refine q_if_ne (t := 46) (u := 48) F dX8_best_43 (by first | exact hR _ _ _ | (constructor <;> omega)) (by decide) rfl (fun c43 => ?_) (fun c43 => ?_)
      · refine q_iload_n (t := 49) F dX8_best_48 rfl rfl rfl ?_
        refine q_iconst (t := 50) F dX8_best_49 rfl ?_
        refine q_icmp_ne (t := 53) (u := 63) F dX8_best_50 (by first | exact hR _ _ _ | (constructor <;> omega)) (by first | exact hR _ _ _ | (constructor <;> omega)) (by decide) rfl (fun c50 => ?_) (fun c50 => ?_)
        · refine q_aload_n (t := 64) F dX8_best_63 rfl rfl rfl ?_
          refine g_X8_24 (t := 67) F dX8_best_64 rfl rfl ?_
          refine g_X8_169 (t := 70) F dX8_best_67 rfl rfl ?_
          try simp only [up_app, row_app, scr_app, cpy_app, Nat.reduceEqDiff, Int.reduceToNat, Int.toNat_natCast, and_true, true_and, and_false, false_and, and_self, reduceIte]
          refine q_aload_n (t := 71) F dX8_best_70 rfl rfl rfl ?_
          refine g_X8_24 (t := 74) F dX8_best_71 rfl rfl ?_
          refine g_X8_190 (t := 77) F dX8_best_74 rfl rfl ?_
          refine q_iload_n (t := 78) F dX8_best_77 rfl rfl rfl ?_
          refine ld_11 (t := 79) F dX8_best_78 (by omega) (by omega) rfl ?_
          try simp only [up_app, row_app, scr_app, cpy_app, Nat.reduceEqDiff, Int.reduceToNat, Int.toNat_natCast, and_true, true_and, and_false, false_and, and_self, reduceIte]
          refine q_isub (t := 80) F dX8_best_79 rfl ?_
          refine q_iret F dX8_best_80 rfl ?_
          refine ⟨_, rfl, ?_, im2, bt2, rt, hbt2, hrt, hR2, FI_agP hFI, rfl⟩
          unfold bestA
          try simp only [Int.toNat_natCast]
          first
            | (rw [if_pos (by omega), if_neg (by omega), if_pos (by omega), hq1])
            | (rw [if_pos (by omega), if_neg (by omega), if_neg (by omega), hq1, (hFI.2.1 _ (by omega)).2])
        · refine q_aload_n (t := 54) F dX8_best_53 rfl rfl rfl ?_
          refine g_X8_24 (t := 57) F dX8_best_54 rfl rfl ?_
          refine g_X8_169 (t := 60) F dX8_best_57 rfl rfl ?_
          try simp only [up_app, row_app, scr_app, cpy_app, Nat.reduceEqDiff, Int.reduceToNat, Int.toNat_natCast, and_true, true_and, and_false, false_and, and_self, reduceIte]
          refine q_goto (t := 80) F dX8_best_60 (by decide) ?_
          refine q_iret F dX8_best_80 rfl ?_
          refine ⟨_, rfl, ?_, im2, bt2, rt, hbt2, hrt, hR2, FI_agP hFI, rfl⟩
          unfold bestA
          try simp only [Int.toNat_natCast]
          first
            | (rw [if_pos (by omega), if_neg (by omega), if_pos (by omega), hq1])
            | (rw [if_pos (by omega), if_neg (by omega), if_neg (by omega), hq1, (hFI.2.1 _ (by omega)).2])
      · refine q_iload_n (t := 47) F dX8_best_46 rfl rfl rfl ?_
        refine q_iret F dX8_best_47 rfl ?_
        refine ⟨_, rfl, ?_, im2, bt2, rt, hbt2, hrt, hR2, FI_agP hFI, rfl⟩
        unfold bestA
        try simp only [Int.toNat_natCast]
        rw [if_pos (by omega), if_pos (by omega)]
    · refine q_bipush (t := 17) F dX8_best_15 (by decide) rfl ?_
      refine q_iret F dX8_best_17 rfl ?_
      refine ⟨_, rfl, ?_, _, bt, rt, hbt, hrt, (by repeat' first | exact hR | refine RI_up ?_ ?_ | assumption | exact hR _ _ _ | (constructor <;> omega)), ?_, rfl⟩
      · unfold bestA
        (repeat' split) <;> omega
      · exact agP_rfl _

theorem svF_congr {f g : Nat → Int} (b n : Nat) (h : ∀ k, k < n → f k = g k) : svF f b n = svF g b n := by
  induction n with
  | zero => rfl
  | succ n ih =>
    show svF f b n + _ = svF g b n + _
    rw [ih (fun k hk => h k (by omega)), h n (by omega)]
theorem fwB_congr {S e : Int} {f g : Nat → Int} (h : ∀ k, k < 10 → f k = g k) (b : Nat) : fwB S f e b = fwB S g e b := by
  induction b with
  | zero => rfl
  | succ b ih => rw [fwB_s, fwB_s, ih, svF_congr b 10 h]
def fewA (im : IM) (man n e : Int) : Int := if (0 ≤ man ∧ man < im 18 0 3) ∧ (0 ≤ n ∧ n ≤ 60) ∧ 0 ≤ e ∧ e ≤ 9999 then fwB (sumF im 0 n.toNat 50) (fun g => costF im 0 n.toNat (10 * man.toNat + g)) e 1024 else -2

set_option maxHeartbeats 4000000 in
theorem c_X8_few (l : Launch) (G : GS) (im : IM) (bt rt : Nat) (lm : IM) (hbt : bt < 6) (hrt : rt < 6) (hS : SC im) (man : Int) (n : Int) (e : Int) (hman : ri man) (hn : ri n) (he : ri e) : Cn l (XC G) yX8_few Y_X8_few [vR 0 0, vI man, vI n, vI e] (im, rs bt rt, lm) (pI fun x m' => x = fewA im man n e ∧ stC lm im m') := by
  refine cn_of (by decide) (okC G) rfl (Nat.le_of_ble_eq_true rfl) ?_
  intro M ad hMl F
  subst hMl
  obtain ⟨hR, hW, hh, htc, hru, hgt, hz, hrd, hsh, him, htp⟩ := hS
  have w1 := hW.1
  have w2 := hW.2.1
  have w3 := hW.2.2.1
  have w4 := hW.2.2.2.1
  have w5 := hW.2.2.2.2.1
  have hman1 := hman.1
  have hman2 := hman.2
  have hn1 := hn.1
  have hn2 := hn.2
  have he1 := he.1
  have he2 := he.2
  refine wp_pad 0 ?_
  show Wp M (XC G) ad Y_X8_few (pI fun x m' => x = fewA im man n e ∧ stC lm im m') 0 [some (vR 0 0), some (vI man), some (vI n), some (vI e)] [] (im, rs bt rt, lm)
  refine q_aload_n (t := 1) F dX8_few_0 rfl rfl rfl ?_
  refine q_iload_n (t := 2) F dX8_few_1 rfl rfl rfl ?_
  refine wp_callV (t := 5) [_] F dX8_few_2 k_X8_isOne v_X8_isOne ml_X8_91 rfl rfl rfl rfl (Nat.le_of_ble_eq_true rfl) (by decide) (m_0 (by omega)) (c_X8_isOne _ G _ bt rt lm man hman hR) rfl (kI ?_)
  rintro x2 m' ⟨hx2, rfl⟩
  have hx2 := if01 hx2
  refine q_if_eq (t := 8) (u := 26) F dX8_few_5 (by first | exact hR _ _ _ | (constructor <;> omega)) (by decide) rfl (fun c5 => ?_) (fun c5 => ?_)
  · refine q_bipush (t := 28) F dX8_few_26 (by decide) rfl ?_
    refine q_iret F dX8_few_28 rfl ?_
    refine ⟨_, rfl, ?_, _, bt, rt, hbt, hrt, (by repeat' first | exact hR | refine RI_up ?_ ?_ | assumption | exact hR _ _ _ | (constructor <;> omega)), ?_, rfl⟩
    · unfold fewA
      (repeat' split) <;> omega
    · exact agP_rfl _
  · refine q_iload_n (t := 9) F dX8_few_8 rfl rfl rfl ?_
    refine wp_callS (t := 12) [_] F dX8_few_9 k_X8_isSpan st_X8_isSpan ml_X8_163 rfl rfl (Nat.le_of_ble_eq_true rfl) (by decide) (c_X8_isSpan _ G _ bt rt lm n hn) rfl (kI ?_)
    rintro x9 m' ⟨hx9, rfl⟩
    have hx9 := if01 hx9
    refine q_if_eq (t := 15) (u := 26) F dX8_few_12 (by first | exact hR _ _ _ | (constructor <;> omega)) (by decide) rfl (fun c12 => ?_) (fun c12 => ?_)
    · refine q_bipush (t := 28) F dX8_few_26 (by decide) rfl ?_
      refine q_iret F dX8_few_28 rfl ?_
      refine ⟨_, rfl, ?_, _, bt, rt, hbt, hrt, (by repeat' first | exact hR | refine RI_up ?_ ?_ | assumption | exact hR _ _ _ | (constructor <;> omega)), ?_, rfl⟩
      · unfold fewA
        (repeat' split) <;> omega
      · exact agP_rfl _
    · refine q_iload_n (t := 16) F dX8_few_15 rfl rfl rfl ?_
      refine q_if_lt (t := 19) (u := 26) F dX8_few_16 (by first | exact hR _ _ _ | (constructor <;> omega)) (by decide) rfl (fun c16 => ?_) (fun c16 => ?_)
      · refine q_bipush (t := 28) F dX8_few_26 (by decide) rfl ?_
        refine q_iret F dX8_few_28 rfl ?_
        refine ⟨_, rfl, ?_, _, bt, rt, hbt, hrt, (by repeat' first | exact hR | refine RI_up ?_ ?_ | assumption | exact hR _ _ _ | (constructor <;> omega)), ?_, rfl⟩
        · unfold fewA
          (repeat' split) <;> omega
        · exact agP_rfl _
      · refine q_iload_n (t := 20) F dX8_few_19 rfl rfl rfl ?_
        refine q_sipush (t := 23) F dX8_few_20 (by decide) rfl ?_
        refine q_icmp_le (t := 26) (u := 29) F dX8_few_23 (by first | exact hR _ _ _ | (constructor <;> omega)) (by first | exact hR _ _ _ | (constructor <;> omega)) (by decide) rfl (fun c23 => ?_) (fun c23 => ?_)
        · obtain ⟨man, rfl⟩ : ∃ k : Nat, man = (k : Int) := ⟨man.toNat, by omega⟩
          obtain ⟨n, rfl⟩ : ∃ k : Nat, n = (k : Int) := ⟨n.toNat, by omega⟩
          refine q_aload_n (t := 30) F dX8_few_29 rfl rfl rfl ?_
          refine g_X8_24 (t := 33) F dX8_few_30 rfl rfl ?_
          refine q_aload_n (t := 34) F dX8_few_33 rfl rfl rfl ?_
          refine g_X8_51 (t := 37) F dX8_few_34 rfl rfl ?_
          refine q_aload_n (t := 38) F dX8_few_37 rfl rfl rfl ?_
          refine g_X8_42 (t := 41) F dX8_few_38 rfl rfl ?_
          refine q_iload_n (t := 42) F dX8_few_41 rfl rfl rfl ?_
          refine wp_callV (t := 45) [_, _, _] F dX8_few_42 k_X1_look v_X1_look ml_X8_166 rfl rfl rfl rfl (Nat.le_of_ble_eq_true rfl) (by decide) (m_9 (by omega)) (c_X1_look _ G im bt rt lm 0 (by omega) hbt hR hW n (by omega)) rfl (kV ?_)
          rintro m' ⟨im2, bt2, hbt2, hR2, hFI, rfl⟩
          have hq1 : im2 9 0 4 = sumF im 0 n 50 := hFI.2.2.1
          have hq2 : im2 9 0 5 = cntF im 0 n 50 := hFI.2.2.2.1
          have hq3 : im2 9 0 6 = firstF im 0 n 50 := hFI.2.2.2.2
          have hq4 := firstF_in im 0 n 50
          have hq5 := sumF_in (n := n) hW 50
          refine q_aload_n (t := 46) F dX8_few_45 rfl rfl rfl ?_
          refine g_X8_24 (t := 49) F dX8_few_46 rfl rfl ?_
          refine q_iload_n (t := 50) F dX8_few_49 rfl rfl rfl ?_
          refine q_iload_n (t := 51) F dX8_few_50 rfl rfl rfl ?_
          refine wp_callV (t := 54) [_, _] F dX8_few_51 k_X1_fewest v_X1_fewest ml_X8_193 rfl rfl rfl rfl (Nat.le_of_ble_eq_true rfl) (by decide) (m_9 (by omega)) (c_X1_fewest _ G im2 bt2 rt lm hR2 man (by omega) e (fun g hg => by rw [(hFI.2.1 _ (show 10 * man + g < 50 by omega)).2]; exact costF_in hW _) (by omega) (by omega) (by omega) (by omega) ((hFI.1 13 (by decide) 0 0).trans hz)) rfl (kI ?_)
          rintro x51 m' ⟨hx, im3, hR3, hz3, hag3, rfl⟩
          rw [hq1, fwB_congr (fun g hg => (hFI.2.1 (10 * man + g) (by omega)).2)] at hx
          refine q_iret F dX8_few_54 rfl ?_
          refine ⟨_, rfl, ?_, im3, bt2, rt, hbt2, hrt, hR3, agP_of13 ((hag3.mono (by decide)).trans (hFI.1.mono (by decide))) (hz3.trans hz.symm), rfl⟩
          unfold fewA
          try simp only [Int.toNat_natCast]
          rw [if_pos (by omega), hx]
        · refine q_bipush (t := 28) F dX8_few_26 (by decide) rfl ?_
          refine q_iret F dX8_few_28 rfl ?_
          refine ⟨_, rfl, ?_, _, bt, rt, hbt, hrt, (by repeat' first | exact hR | refine RI_up ?_ ?_ | assumption | exact hR _ _ _ | (constructor <;> omega)), ?_, rfl⟩
          · unfold fewA
            (repeat' split) <;> omega
          · exact agP_rfl _
