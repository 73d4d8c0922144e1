/-! people off a sheet -/
def pplS (j : Nat) (fr : Int) : Nat → Nat → Int → IM → Int × IM
  | 0, _, c, im => (c, im)
  | f + 1, i, c, im => if 0 ≤ bm (fr + 2 * i) ∧ bm (fr + 2 * i) + 2 ≤ im 7 j 2 then pplS j fr f (i + 1) (if 0 ≤ manA im (im 8 j (bm (fr + 2 * i)).toNat) (im 8 j ((bm (fr + 2 * i)).toNat + 1)) then c + 1 else c) (manM im (im 8 j (bm (fr + 2 * i)).toNat) (im 8 j ((bm (fr + 2 * i)).toNat + 1))) else (-12, im)
theorem pplS_s (j : Nat) (fr : Int) (f i : Nat) (c : Int) (im : IM) : pplS j fr (f + 1) i c im = if 0 ≤ bm (fr + 2 * i) ∧ bm (fr + 2 * i) + 2 ≤ im 7 j 2 then pplS j fr f (i + 1) (if 0 ≤ manA im (im 8 j (bm (fr + 2 * i)).toNat) (im 8 j ((bm (fr + 2 * i)).toNat + 1)) then c + 1 else c) (manM im (im 8 j (bm (fr + 2 * i)).toNat) (im 8 j ((bm (fr + 2 * i)).toNat + 1))) else (-12, im) := rfl
def peopleV (im : IM) (sheet sort n : Int) : Int := if (0 ≤ sheet ∧ sheet < 4) ∧ (0 ≤ sort ∧ sort < 3) ∧ 0 ≤ n ∧ n ≤ 5 then (if im 7 sheet.toNat 1 = -1 then -11 else if im 7 sheet.toNat 1 = sort then 1 else -13) else -2
def peopleA (im : IM) (sheet sort fr n : Int) : Int := if peopleV im sheet sort n = 1 then (pplS sheet.toNat fr n.toNat 0 0 im).1 else peopleV im sheet sort n
def peopleM (im : IM) (sheet sort fr n : Int) : IM := if peopleV im sheet sort n = 1 then (pplS sheet.toNat fr n.toNat 0 0 im).2 else im
theorem manA_agP {a b : IM} (h : agP a b) (x y : Int) : manA a x y = manA b x y := by
  unfold manA
  rw [h.1 18 0 3 (by unfold per; omega)]
theorem manM_agP {a b : IM} (h : agP a b) (x y : Int) : agP (manM a x y) (manM b x y) := by
  have e3 := h.1 18 0 3 (by unfold per; omega)
  unfold manM
  rw [e3]
  split
  · unfold welM
    rw [e3]
    refine ⟨fun k i s hp => ?_, ?_⟩
    · have := h.1 k i s hp
      simp only [up_app, fl_app]
      (repeat' split) <;> first | rfl | assumption
    · simp only [up_app, fl_app]
      rw [if_neg (by omega), if_neg (by omega), if_neg (by omega), if_neg (by omega), if_neg (by omega), if_neg (by omega), if_neg (by omega), if_neg (by omega)]
      exact h.2
  · exact h
theorem man_o (im : IM) (a b : Int) {k i s : Nat} (h : ¬ (18 ≤ k ∧ k ≤ 22)) : manM im a b k i s = im k i s := by
  unfold manM
  split
  · exact wel_o (by omega) (by omega)
  · rfl
theorem SC_ppl (j : Nat) (fr : Int) (f : Nat) : ∀ (i : Nat) (c : Int) (im : IM), SC im → SC (pplS j fr f i c im).2 := by
  induction f with
  | zero => intro i c im h; exact h
  | succ f ih =>
    intro i c im h
    rw [pplS_s]
    split
    · exact ih _ _ _ (SC_man h (h.1 _ _ _) (h.1 _ _ _))
    · exact h
theorem SC_people {im : IM} {sheet sort fr n : Int} (hS : SC im) : SC (peopleM im sheet sort fr n) := by
  unfold peopleM
  split
  · exact SC_ppl _ _ _ _ _ _ hS
  · exact hS

theorem manA_ri {im : IM} (hS : SC im) (a b : Int) : ri (manA im a b) := by
  have w1 := hS.2.1.1
  unfold manA
  (repeat' split) <;> (constructor <;> omega)

set_option maxHeartbeats 4000000 in
theorem c_X8_people (l : Launch) (G : GS) (im : IM) (bt rt : Nat) (lm : IM) (hbt : bt < 6) (hrt : rt < 6) (hS : SC im) (sheet : Int) (sort : Int) (fr : Int) (n : Int) (hsheet : ri sheet) (hsort : ri sort) (hfr : ri fr) (hn : ri n) : Cn l (XC G) yX8_people Y_X8_people [vR 0 0, vI sheet, vI sort, vI fr, vI n] (im, rs bt rt, lm) (pI fun x m' => x = peopleA im sheet sort fr n ∧ stC lm (peopleM im sheet sort fr n) m') := by
  refine cn_of (by decide) (okC G) rfl (Nat.le_of_ble_eq_true rfl) ?_
  intro M ad hMl F
  subst hMl
  obtain ⟨hR, hW, hh, htc, hru, hgt, hz, hrd, hsh, him, htp⟩ := hS
  have w1 := hW.1
  have w2 := hW.2.1
  have w3 := hW.2.2.1
  have w4 := hW.2.2.2.1
  have w5 := hW.2.2.2.2.1
  have hsheet1 := hsheet.1
  have hsheet2 := hsheet.2
  have hsort1 := hsort.1
  have hsort2 := hsort.2
  have hfr1 := hfr.1
  have hfr2 := hfr.2
  have hn1 := hn.1
  have hn2 := hn.2
  refine wp_pad 4 ?_
  show Wp M (XC G) ad Y_X8_people (pI fun x m' => x = peopleA im sheet sort fr n ∧ stC lm (peopleM im sheet sort fr n) m') 0 [some (vR 0 0), some (vI sheet), some (vI sort), some (vI fr), some (vI n), none, none, none, none] [] (im, rs bt rt, lm)
  refine q_iload_n (t := 1) F dX8_people_0 rfl rfl rfl ?_
  refine q_iconst (t := 2) F dX8_people_1 rfl ?_
  refine wp_callS (t := 5) [_, _] F dX8_people_2 k_X8_within st_X8_within ml_X8_95 rfl rfl (Nat.le_of_ble_eq_true rfl) (by decide) (c_X8_within _ G _ bt rt lm sheet 4 hsheet (by constructor <;> omega)) rfl (kI ?_)
  rintro x2 m' ⟨hx2, rfl⟩
  have hx2 := if01 hx2
  refine q_if_eq (t := 8) (u := 27) F dX8_people_5 (by first | exact hR _ _ _ | (constructor <;> omega)) (by decide) rfl (fun c5 => ?_) (fun c5 => ?_)
  · refine q_bipush (t := 29) F dX8_people_27 (by decide) rfl ?_
    refine q_iret F dX8_people_29 rfl ?_
    have hx : peopleV im sheet sort n = -2 := by
      unfold peopleV
      try simp only [Int.toNat_natCast]
      (repeat' split) <;> omega
    refine ⟨_, rfl, ?_, _, bt, rt, hbt, hrt, hR, ?_, rfl⟩
    · unfold peopleA
      rw [hx, if_neg (by omega)]
    · unfold peopleM
      rw [hx, if_neg (by omega)]
      exact agP_rfl _
  · refine q_iload_n (t := 9) F dX8_people_8 rfl rfl rfl ?_
    refine q_iconst (t := 10) F dX8_people_9 rfl ?_
    refine wp_callS (t := 13) [_, _] F dX8_people_10 k_X8_within st_X8_within ml_X8_95 rfl rfl (Nat.le_of_ble_eq_true rfl) (by decide) (c_X8_within _ G _ bt rt lm sort 3 hsort (by constructor <;> omega)) rfl (kI ?_)
    rintro x10 m' ⟨hx10, rfl⟩
    have hx10 := if01 hx10
    refine q_if_eq (t := 16) (u := 27) F dX8_people_13 (by first | exact hR _ _ _ | (constructor <;> omega)) (by decide) rfl (fun c13 => ?_) (fun c13 => ?_)
    · refine q_bipush (t := 29) F dX8_people_27 (by decide) rfl ?_
      refine q_iret F dX8_people_29 rfl ?_
      have hx : peopleV im sheet sort n = -2 := by
        unfold peopleV
        try simp only [Int.toNat_natCast]
        (repeat' split) <;> omega
      refine ⟨_, rfl, ?_, _, bt, rt, hbt, hrt, hR, ?_, rfl⟩
      · unfold peopleA
        rw [hx, if_neg (by omega)]
      · unfold peopleM
        rw [hx, if_neg (by omega)]
        exact agP_rfl _
    · refine q_iload (t := 18) F dX8_people_16 rfl rfl ?_
      refine q_if_lt (t := 21) (u := 27) F dX8_people_18 (by first | exact hR _ _ _ | (constructor <;> omega)) (by decide) rfl (fun c18 => ?_) (fun c18 => ?_)
      · refine q_bipush (t := 29) F dX8_people_27 (by decide) rfl ?_
        refine q_iret F dX8_people_29 rfl ?_
        have hx : peopleV im sheet sort n = -2 := by
          unfold peopleV
          try simp only [Int.toNat_natCast]
          (repeat' split) <;> omega
        refine ⟨_, rfl, ?_, _, bt, rt, hbt, hrt, hR, ?_, rfl⟩
        · unfold peopleA
          rw [hx, if_neg (by omega)]
        · unfold peopleM
          rw [hx, if_neg (by omega)]
          exact agP_rfl _
      · refine q_iload (t := 23) F dX8_people_21 rfl rfl ?_
        refine q_iconst (t := 24) F dX8_people_23 rfl ?_
        refine q_icmp_le (t := 27) (u := 30) F dX8_people_24 (by first | exact hR _ _ _ | (constructor <;> omega)) (by first | exact hR _ _ _ | (constructor <;> omega)) (by decide) rfl (fun c24 => ?_) (fun c24 => ?_)
        · refine q_aload_n (t := 31) F dX8_people_30 rfl rfl rfl ?_
          refine g_X8_17 (t := 34) F dX8_people_31 rfl rfl ?_
          refine q_iload_n (t := 35) F dX8_people_34 rfl rfl rfl ?_
          obtain ⟨sheet, rfl⟩ : ∃ k : Nat, sheet = (k : Int) := ⟨sheet.toNat, by omega⟩
          have hj : sheet < 4 := by omega
          have hs4 := hsh sheet hj
          first | refine laN_6 (t := 36) F dX8_people_35 (by omega) rfl ?_ | refine la_6 (t := 36) F dX8_people_35 (by omega) (by omega) rfl ?_
          refine q_astore (t := 38) F dX8_people_36 (by decide) rfl rfl ?_
          refine q_aload (t := 40) F dX8_people_38 rfl rfl ?_
          refine wp_callV (t := 43) [] F dX8_people_40 k_X5_isMissing v_X5_isMissing ml_X8_218 rfl rfl rfl rfl (Nat.le_of_ble_eq_true rfl) (by decide) (m_7 (by omega)) (c_X5_isMissing _ G im bt rt lm sheet hj hR) rfl (kI ?_)
          rintro x40 m' ⟨hx40, rfl⟩
          have hx40 := if01 hx40
          refine q_if_eq (t := 46) (u := 49) F dX8_people_43 (by first | exact hR _ _ _ | (constructor <;> omega)) (by decide) rfl (fun c43 => ?_) (fun c43 => ?_)
          · refine q_aload (t := 51) F dX8_people_49 rfl rfl ?_
            refine g_X8_281 (t := 54) F dX8_people_51 rfl (by omega) rfl ?_
            try simp only [up_app, row_app, scr_app, cpy_app, Nat.reduceEqDiff, Int.reduceToNat, Int.toNat_natCast, and_true, true_and, and_false, false_and, and_self, reduceIte]
            refine q_iload_n (t := 55) F dX8_people_54 rfl rfl rfl ?_
            refine q_icmp_eq (t := 58) (u := 61) F dX8_people_55 (by exact hR _ _ _) (by constructor <;> omega) (by decide) rfl (fun c55 => ?_) (fun c55 => ?_)
            · refine q_iconst (t := 62) F dX8_people_61 rfl ?_
              refine q_istore (t := 64) F dX8_people_62 (by decide) rfl rfl ?_
              refine q_iconst (t := 65) F dX8_people_64 rfl ?_
              obtain ⟨n, rfl⟩ : ∃ k : Nat, n = (k : Int) := ⟨n.toNat, by omega⟩
              have hx : peopleV im sheet sort n = 1 := by
                unfold peopleV
                simp only [Int.toNat_natCast]
                (repeat' split) <;> omega
              refine q_istore (t := 67) F dX8_people_65 (by decide) rfl rfl ?_
              have L67 : ∀ (fz : Nat) (i : Nat) (c : Int) (S im2 : IM) (bt2 rt2 : Nat), n - i < fz → i ≤ n → bt2 < 6 → rt2 < 6 → SC im2 → SC S → agP im2 S → pplS sheet fr (n - i) i c S = pplS sheet fr n 0 0 im → Wp M (XC G) ad Y_X8_people (pI fun x m' => x = peopleA im sheet sort fr n ∧ stC lm (peopleM im sheet sort fr n) m') 67 [some (vR 0 0), some (vI (sheet : Int)), some (vI sort), some (vI fr), some (vI (n : Int)), some (vR 7 sheet), some (vI c), some (vI (i : Int)), none] [] (im2, rs bt2 rt2, lm) := by
                intro fz
                induction fz with
                | zero => intro i c S im2 bt2 rt2 h; exact absurd h (Nat.not_lt_zero _)
                | succ fz ih =>
                  have ih67 := ih
                  intro i c S im2 bt2 rt2 hmeas hi hbt2 hrt2 hS2 hSS hP2 hpp
                  have hs42 := hS2.2.2.2.2.2.2.2.2.1 sheet hj
                  have e8 : ∀ s, im2 8 sheet s = S 8 sheet s := fun s => hP2.1 8 sheet s (by unfold per; omega)
                  have e7 : im2 7 sheet 2 = S 7 sheet 2 := hP2.1 7 sheet 2 (by unfold per; omega)
                  refine q_iload (t := 69) F dX8_people_67 rfl rfl ?_
                  refine q_iload (t := 71) F dX8_people_69 rfl rfl ?_
                  refine q_icmp_ge (t := 74) (u := 130) F dX8_people_71 (by first | exact hR _ _ _ | (constructor <;> omega)) (by first | exact hR _ _ _ | (constructor <;> omega)) (by decide) rfl (fun c71 => ?_) (fun c71 => ?_)
                  · refine q_iload (t := 132) F dX8_people_130 rfl rfl ?_
                    refine q_iret F dX8_people_132 rfl ?_
                    have hni : n - i = 0 := by omega
                    rw [hni] at hpp
                    have hpp2 : (c, S) = pplS sheet fr n 0 0 im := hpp
                    refine ⟨_, rfl, ?_, im2, bt2, rt2, hbt2, hrt2, hS2.1, ?_, rfl⟩
                    · unfold peopleA
                      rw [if_pos hx]
                      simp only [Int.toNat_natCast]
                      rw [← hpp2]
                    · unfold peopleM
                      rw [if_pos hx]
                      simp only [Int.toNat_natCast]
                      rw [← hpp2]
                      exact hP2
                  · refine q_iload_n (t := 75) F dX8_people_74 rfl rfl rfl ?_
                    refine q_iconst (t := 76) F dX8_people_75 rfl ?_
                    refine q_iload (t := 78) F dX8_people_76 rfl rfl ?_
                    refine q_imul (t := 79) F dX8_people_78 rfl ?_
                    refine q_iadd (t := 80) F dX8_people_79 rfl ?_
                    refine q_norm ?_
                    refine q_istore (t := 82) F dX8_people_80 (by decide) rfl rfl ?_
                    refine q_aload (t := 84) F dX8_people_82 rfl rfl ?_
                    refine q_iload (t := 86) F dX8_people_84 rfl rfl ?_
                    refine q_iconst (t := 87) F dX8_people_86 rfl ?_
                    refine wp_callV (t := 90) [_, _] F dX8_people_87 k_X5_holds v_X5_holds ml_X8_284 rfl rfl rfl rfl (Nat.le_of_ble_eq_true rfl) (by decide) (m_7 (by omega)) (c_X5_holds _ G im2 bt2 rt2 lm sheet hj (bm (fr + 2 * i)) 2 (ri_b _) (by constructor <;> omega) hs42.2.2.1 hs42.2.2.2 hS2.1) rfl (kI ?_)
                    rintro x87 m' ⟨hx87, rfl⟩
                    have hx87 := if01 hx87
                    refine q_if_ne (t := 93) (u := 96) F dX8_people_90 (by first | exact hR _ _ _ | (constructor <;> omega)) (by decide) rfl (fun c90 => ?_) (fun c90 => ?_)
                    · refine q_aload_n (t := 97) F dX8_people_96 rfl rfl rfl ?_
                      refine q_aload (t := 99) F dX8_people_97 rfl rfl ?_
                      refine g_X8_232 (t := 102) F dX8_people_99 rfl (by omega) rfl ?_
                      refine q_iload (t := 104) F dX8_people_102 rfl rfl ?_
                      obtain ⟨p, hp⟩ : ∃ p : Nat, bm (fr + 2 * i) = (p : Int) := ⟨(bm (fr + 2 * i)).toNat, by omega⟩
                      rw [hp]
                      first | refine ldN_8 (t := 105) F dX8_people_104 (by omega) (by omega) rfl ?_ | refine ld_8 (t := 105) F dX8_people_104 (by omega) (by omega) (by omega) rfl ?_
                      try simp only [up_app, row_app, scr_app, cpy_app, Nat.reduceEqDiff, Int.reduceToNat, Int.toNat_natCast, and_true, true_and, and_false, false_and, and_self, reduceIte]
                      refine q_aload (t := 107) F dX8_people_105 rfl rfl ?_
                      refine g_X8_232 (t := 110) F dX8_people_107 rfl (by omega) rfl ?_
                      refine q_iload (t := 112) F dX8_people_110 rfl rfl ?_
                      refine q_iconst (t := 113) F dX8_people_112 rfl ?_
                      refine q_iadd (t := 114) F dX8_people_113 rfl ?_
                      rw [show (p : Int) + 1 = ((p + 1 : Nat) : Int) by omega]
                      first | refine ldN_8 (t := 115) F dX8_people_114 (by omega) (by omega) rfl ?_ | refine ld_8 (t := 115) F dX8_people_114 (by omega) (by omega) (by omega) rfl ?_
                      try simp only [up_app, row_app, scr_app, cpy_app, Nat.reduceEqDiff, Int.reduceToNat, Int.toNat_natCast, and_true, true_and, and_false, false_and, and_self, reduceIte]
                      refine wp_callV (t := 118) [_, _] F dX8_people_115 k_X8_man v_X8_man ml_X8_292 rfl rfl rfl rfl (Nat.le_of_ble_eq_true rfl) (by decide) (m_0 (by omega)) (c_X8_man _ G im2 bt2 rt2 lm hbt2 hrt2 hS2 (im2 8 sheet p) (im2 8 sheet (p + 1)) (hS2.1 _ _ _) (hS2.1 _ _ _)) rfl (kI ?_)
                      rintro x115 m' ⟨hx115, hst⟩
                      obtain ⟨im3, bt3, rt3, hbt3, hrt3, hS3, hag3, rfl⟩ := SC_st hst (SC_man hS2 (hS2.1 _ _ _) (hS2.1 _ _ _))
                      rw [manA_agP hP2, e8, e8] at hx115
                      have hxr : ri x115 := by rw [hx115]; exact manA_ri hSS _ _
                      have hP3 : agP im3 (manM S (S 8 sheet p) (S 8 sheet (p + 1))) := by
                        rw [← e8, ← e8]
                        exact hag3.trans (manM_agP hP2 _ _)
                      refine q_if_lt (t := 121) (u := 124) F dX8_people_118 (by exact hxr) (by decide) rfl (fun c118 => ?_) (fun c118 => ?_)
                      · refine q_iinc (t := 127) F dX8_people_124 rfl (by decide) rfl rfl ?_
                        refine q_goto (t := 67) F dX8_people_127 (by decide) ?_
                        refine wp_less 8 ?_
                        have hni : n - i = (n - (i + 1)) + 1 := by omega
                        rw [hni, pplS_s, if_pos (by omega), hp, Int.toNat_natCast] at hpp
                        first
                          | (rw [if_pos (by omega)] at hpp
                             exact ih67 (i + 1) _ _ im3 bt3 rt3 (by omega) (by omega) hbt3 hrt3 hS3 (SC_man hSS (hSS.1 _ _ _) (hSS.1 _ _ _)) hP3 hpp)
                          | (rw [if_neg (by omega)] at hpp
                             exact ih67 (i + 1) _ _ im3 bt3 rt3 (by omega) (by omega) hbt3 hrt3 hS3 (SC_man hSS (hSS.1 _ _ _) (hSS.1 _ _ _)) hP3 hpp)
                      · refine q_iinc (t := 124) F dX8_people_121 rfl (by decide) rfl rfl ?_
                        refine q_iinc (t := 127) F dX8_people_124 rfl (by decide) rfl rfl ?_
                        refine q_goto (t := 67) F dX8_people_127 (by decide) ?_
                        refine wp_less 8 ?_
                        have hni : n - i = (n - (i + 1)) + 1 := by omega
                        rw [hni, pplS_s, if_pos (by omega), hp, Int.toNat_natCast] at hpp
                        first
                          | (rw [if_pos (by omega)] at hpp
                             exact ih67 (i + 1) _ _ im3 bt3 rt3 (by omega) (by omega) hbt3 hrt3 hS3 (SC_man hSS (hSS.1 _ _ _) (hSS.1 _ _ _)) hP3 hpp)
                          | (rw [if_neg (by omega)] at hpp
                             exact ih67 (i + 1) _ _ im3 bt3 rt3 (by omega) (by omega) hbt3 hrt3 hS3 (SC_man hSS (hSS.1 _ _ _) (hSS.1 _ _ _)) hP3 hpp)
                    · refine q_bipush (t := 95) F dX8_people_93 (by decide) rfl ?_
                      refine q_iret F dX8_people_95 rfl ?_
                      have hni : n - i = (n - (i + 1)) + 1 := by omega
                      rw [hni, pplS_s, if_neg (by omega)] at hpp
                      refine ⟨_, rfl, ?_, im2, bt2, rt2, hbt2, hrt2, hS2.1, ?_, rfl⟩
                      · unfold peopleA
                        rw [if_pos hx]
                        simp only [Int.toNat_natCast]
                        rw [← hpp]
                      · unfold peopleM
                        rw [if_pos hx]
                        simp only [Int.toNat_natCast]
                        rw [← hpp]
                        exact hP2
              exact L67 _ 0 0 im im bt rt (Nat.lt_succ_self _) (by omega) hbt hrt ⟨hR, hW, hh, htc, hru, hgt, hz, hrd, hsh, him, htp⟩ ⟨hR, hW, hh, htc, hru, hgt, hz, hrd, hsh, him, htp⟩ (agP_rfl _) rfl
            · refine q_bipush (t := 60) F dX8_people_58 (by decide) rfl ?_
              refine q_iret F dX8_people_60 rfl ?_
              have hx : peopleV im sheet sort n = -13 := by
                unfold peopleV
                try simp only [Int.toNat_natCast]
                (repeat' split) <;> omega
              refine ⟨_, rfl, ?_, _, bt, rt, hbt, hrt, hR, ?_, rfl⟩
              · unfold peopleA
                rw [hx, if_neg (by omega)]
              · unfold peopleM
                rw [hx, if_neg (by omega)]
                exact agP_rfl _
          · refine q_bipush (t := 48) F dX8_people_46 (by decide) rfl ?_
            refine q_iret F dX8_people_48 rfl ?_
            have hx : peopleV im sheet sort n = -11 := by
              unfold peopleV
              try simp only [Int.toNat_natCast]
              (repeat' split) <;> omega
            refine ⟨_, rfl, ?_, _, bt, rt, hbt, hrt, hR, ?_, rfl⟩
            · unfold peopleA
              rw [hx, if_neg (by omega)]
            · unfold peopleM
              rw [hx, if_neg (by omega)]
              exact agP_rfl _
        · refine q_bipush (t := 29) F dX8_people_27 (by decide) rfl ?_
          refine q_iret F dX8_people_29 rfl ?_
          have hx : peopleV im sheet sort n = -2 := by
            unfold peopleV
            try simp only [Int.toNat_natCast]
            (repeat' split) <;> omega
          refine ⟨_, rfl, ?_, _, bt, rt, hbt, hrt, hR, ?_, rfl⟩
          · unfold peopleA
            rw [hx, if_neg (by omega)]
          · unfold peopleM
            rw [hx, if_neg (by omega)]
            exact agP_rfl _

/-! film -/
def flmM (im : IM) (j man : Nat) : Nat → IM
  | 0 => zr (up (up im 7 j 1 0) 7 j 2 10) 8 j 40
  | g + 1 => up (flmM im j man g) 8 j g (goesW im 0 man g 60)
def filmA (im : IM) (sheet man : Int) : Int := if (0 ≤ sheet ∧ sheet < 4) ∧ 0 ≤ man ∧ man < im 18 0 3 then 10 else -2
def filmM (im : IM) (sheet man : Int) : IM := if (0 ≤ sheet ∧ sheet < 4) ∧ 0 ≤ man ∧ man < im 18 0 3 then flmM im sheet.toNat man.toNat 10 else im
theorem flm_ag (im : IM) (j man g : Nat) : ag [7, 8] (flmM im j man g) im := by
  induction g with
  | zero =>
    intro k hk i s
    have h7 : k ≠ 7 := fun q => hk (by rw [q]; decide)
    have h8 : k ≠ 8 := fun q => hk (by rw [q]; decide)
    show zr (up (up im 7 j 1 0) 7 j 2 10) 8 j 40 k i s = _
    rw [zr_app, if_neg (by omega), up_app, if_neg (by omega), up_app, if_neg (by omega)]
  | succ g ih => exact ag_up ih (by decide)
theorem flm_7 (im : IM) (j man g : Nat) (i s : Nat) : flmM im j man g 7 i s = if i = j ∧ s = 1 then 0 else if i = j ∧ s = 2 then 10 else im 7 i s := by
  induction g with
  | zero =>
    show zr (up (up im 7 j 1 0) 7 j 2 10) 8 j 40 7 i s = _
    rw [zr_app, if_neg (by omega), up_app, up_app]
    by_cases h2 : i = j ∧ s = 2
    · rw [if_pos ⟨rfl, h2⟩, if_neg (by omega), if_pos h2]
    · rw [if_neg (fun q => h2 q.2)]
      by_cases h1 : i = j ∧ s = 1
      · rw [if_pos ⟨rfl, h1⟩, if_pos h1]
      · rw [if_neg (fun q => h1 q.2), if_neg h1, if_neg h2]
  | succ g ih =>
    show up (flmM im j man g) 8 j g (goesW im 0 man g 60) 7 i s = _
    rw [up_app, if_neg (by omega), ih]
theorem goesW_ri (im : IM) (w man gap n : Nat) (hn : n < 1000) : ri (goesW im w man gap n) := by
  have := goesW_in im w man gap n
  constructor <;> omega
theorem RI_flm {im : IM} (hR : RI im) (j man g : Nat) : RI (flmM im j man g) := by
  induction g with
  | zero => exact RI_zr (RI_up (RI_up hR (by constructor <;> omega)) (by constructor <;> omega))
  | succ g ih => exact RI_up ih (goesW_ri _ _ _ _ _ (by omega))
theorem SC_film {im : IM} {sheet man : Int} (hS : SC im) : SC (filmM im sheet man) := by
  unfold filmM
  split
  · refine SC_sh hS (RI_flm hS.1 _ _ _) (fun k i s hk => flm_ag _ _ _ _ k ?_ _ _) (fun j hj => ?_)
    · intro h
      simp only [List.mem_cons, List.not_mem_nil, or_false] at h
      exact hk h
    · have := hS.2.2.2.2.2.2.2.2.1 j hj
      rw [flm_7, flm_7]
      (repeat' split) <;> omega
  · exact hS
theorem cut0 {x : Int} (h : x = -1 ∨ 0 ≤ x ∧ x < 60) : cutN 0 x = x := by
  unfold cutN
  rw [if_pos rfl, Int.bmod_eq_emod]
  split <;> omega

set_option maxHeartbeats 4000000 in
theorem c_X8_film (l : Launch) (G : GS) (im : IM) (bt rt : Nat) (lm : IM) (hbt : bt < 6) (hrt : rt < 6) (hS : SC im) (sheet : Int) (man : Int) (hsheet : ri sheet) (hman : ri man) : Cn l (XC G) yX8_film Y_X8_film [vR 0 0, vI sheet, vI man] (im, rs bt rt, lm) (pI fun x m' => x = filmA im sheet man ∧ stC lm (filmM im sheet man) m') := by
  refine cn_of (by decide) (okC G) rfl (Nat.le_of_ble_eq_true rfl) ?_
  intro M ad hMl F
  subst hMl
  obtain ⟨hR, hW, hh, htc, hru, hgt, hz, hrd, hsh, him, htp⟩ := hS
  have w1 := hW.1
  have w2 := hW.2.1
  have w3 := hW.2.2.1
  have w4 := hW.2.2.2.1
  have w5 := hW.2.2.2.2.1
  have hsheet1 := hsheet.1
  have hsheet2 := hsheet.2
  have hman1 := hman.1
  have hman2 := hman.2
  refine wp_pad 1 ?_
  show Wp M (XC G) ad Y_X8_film (pI fun x m' => x = filmA im sheet man ∧ stC lm (filmM im sheet man) m') 0 [some (vR 0 0), some (vI sheet), some (vI man), none] [] (im, rs bt rt, lm)
  refine q_iload_n (t := 1) F dX8_film_0 rfl rfl rfl ?_
  refine q_iconst (t := 2) F dX8_film_1 rfl ?_
  refine wp_callS (t := 5) [_, _] F dX8_film_2 k_X8_within st_X8_within ml_X8_95 rfl rfl (Nat.le_of_ble_eq_true rfl) (by decide) (c_X8_within _ G _ bt rt lm sheet 4 hsheet (by constructor <;> omega)) rfl (kI ?_)
  rintro x2 m' ⟨hx2, rfl⟩
  have hx2 := if01 hx2
  refine q_if_eq (t := 8) (u := 16) F dX8_film_5 (by first | exact hR _ _ _ | (constructor <;> omega)) (by decide) rfl (fun c5 => ?_) (fun c5 => ?_)
  · refine q_bipush (t := 18) F dX8_film_16 (by decide) rfl ?_
    refine q_iret F dX8_film_18 rfl ?_
    refine ⟨_, rfl, ?_, _, bt, rt, hbt, hrt, (by repeat' first | exact hR | refine RI_up ?_ ?_ | assumption | exact hR _ _ _ | (constructor <;> omega)), ?_, rfl⟩
    · unfold filmA
      (repeat' split) <;> omega
    · unfold filmM
      (repeat' split) <;> first | exact agP_rfl _ | (exfalso; omega)
  · refine q_aload_n (t := 9) F dX8_film_8 rfl rfl rfl ?_
    refine q_iload_n (t := 10) F dX8_film_9 rfl rfl rfl ?_
    refine wp_callV (t := 13) [_] F dX8_film_10 k_X8_isOne v_X8_isOne ml_X8_91 rfl rfl rfl rfl (Nat.le_of_ble_eq_true rfl) (by decide) (m_0 (by omega)) (c_X8_isOne _ G _ bt rt lm man hman hR) rfl (kI ?_)
    rintro x10 m' ⟨hx10, rfl⟩
    have hx10 := if01 hx10
    refine q_if_ne (t := 16) (u := 19) F dX8_film_13 (by first | exact hR _ _ _ | (constructor <;> omega)) (by decide) rfl (fun c13 => ?_) (fun c13 => ?_)
    · refine q_aload_n (t := 20) F dX8_film_19 rfl rfl rfl ?_
      refine g_X8_17 (t := 23) F dX8_film_20 rfl rfl ?_
      obtain ⟨sheet, rfl⟩ : ∃ k : Nat, sheet = (k : Int) := ⟨sheet.toNat, by omega⟩
      have hj : sheet < 4 := by omega
      have hs4 := hsh sheet hj
      obtain ⟨man, rfl⟩ : ∃ k : Nat, man = (k : Int) := ⟨man.toNat, by omega⟩
      obtain ⟨r0, r1, hT, k0, k1, n0, n1, hga, hh0, hh1, hm5⟩ := cell_of hW (man := man) (by omega)
      refine q_iload_n (t := 24) F dX8_film_23 rfl rfl rfl ?_
      first | refine laN_6 (t := 25) F dX8_film_24 (by omega) rfl ?_ | refine la_6 (t := 25) F dX8_film_24 (by omega) (by omega) rfl ?_
      refine q_iconst (t := 26) F dX8_film_25 rfl ?_
      refine q_bipush (t := 28) F dX8_film_26 (by decide) rfl ?_
      refine wp_callV (t := 31) [_, _] F dX8_film_28 k_X5_become v_X5_become ml_X8_263 rfl rfl rfl rfl (Nat.le_of_ble_eq_true rfl) (by decide) (m_7 (by omega)) (c_X5_become _ G im bt rt lm sheet hj 0 10) rfl (kV ?_)
      rintro m' rfl
      refine q_iconst (t := 32) F dX8_film_31 rfl ?_
      refine q_istore_n (t := 33) F dX8_film_32 rfl (by decide) rfl rfl ?_
      have L33 : ∀ (fz : Nat) (g : Nat) (im2 : IM) (bt2 : Nat), 10 - g < fz → g ≤ 10 → bt2 < 6 → RI im2 → ag [5, 16, 17] im2 (flmM im sheet man g) → Wp M (XC G) ad Y_X8_film (pI fun x m' => x = filmA im sheet man ∧ stC lm (filmM im sheet man) m') 33 [some (vR 0 0), some (vI (sheet : Int)), some (vI (man : Int)), some (vI (g : Int))] [] (im2, rs bt2 rt, lm) := by
        intro fz
        induction fz with
        | zero => intro g im2 bt2 h; exact absurd h (Nat.not_lt_zero _)
        | succ fz ih =>
          have ih33 := ih
          intro g im2 bt2 hmeas hg hbt2 hR2 hag2
          have hag9 : ag [5, 7, 8, 16, 17] im2 im := (hag2.mono (by decide)).trans ((flm_ag im sheet man g).mono (by decide))
          have e18 : ∀ s, im2 18 0 s = im 18 0 s := fun s => hag9 18 (by decide) 0 s
          have e21 : ∀ s, im2 21 (5 * 0 + man) s = im 21 (5 * 0 + man) s := fun s => hag9 21 (by decide) _ s
          have e22 : ∀ s, im2 22 (5 * 0 + man) s = im 22 (5 * 0 + man) s := fun s => hag9 22 (by decide) _ s
          have e23 : ∀ s, im2 23 (5 * 0 + man) s = im 23 (5 * 0 + man) s := fun s => hag9 23 (by decide) _ s
          have hT2 : goodT im2 (im2 18 0 7).toNat := by
            rw [e18]
            exact goodT_congr (fun s => hag9 3 (by decide) _ s) (fun s => hag9 4 (by decide) _ s) hT
          have hgo : goesW im2 0 man g 60 = goesW im 0 man g 60 := goesW_ag hag9 (by decide) (by decide) (by decide) (by decide) (by decide) (by decide) 0 man g 60
          refine q_iload_n (t := 34) F dX8_film_33 rfl rfl rfl ?_
          refine q_bipush (t := 36) F dX8_film_34 (by decide) rfl ?_
          refine q_icmp_ge (t := 39) (u := 77) F dX8_film_36 (by first | exact hR _ _ _ | (constructor <;> omega)) (by first | exact hR _ _ _ | (constructor <;> omega)) (by decide) rfl (fun c36 => ?_) (fun c36 => ?_)
          · refine q_bipush (t := 79) F dX8_film_77 (by decide) rfl ?_
            refine q_iret F dX8_film_79 rfl ?_
            obtain rfl : g = 10 := by omega
            refine ⟨_, rfl, ?_, im2, bt2, rt, hbt2, hrt, hR2, ?_, rfl⟩
            · unfold filmA
              rw [if_pos (by omega)]
            · unfold filmM
              rw [if_pos (by omega)]
              simp only [Int.toNat_natCast]
              exact agP_of (hag2.mono (by decide))
          · refine q_aload_n (t := 40) F dX8_film_39 rfl rfl rfl ?_
            refine g_X8_42 (t := 43) F dX8_film_40 rfl rfl ?_
            refine q_aload_n (t := 44) F dX8_film_43 rfl rfl rfl ?_
            refine g_X8_51 (t := 47) F dX8_film_44 rfl rfl ?_
            refine q_iload_n (t := 48) F dX8_film_47 rfl rfl rfl ?_
            refine q_iload_n (t := 49) F dX8_film_48 rfl rfl rfl ?_
            refine wp_callV (t := 52) [_, _, _] F dX8_film_49 k_X0_look v_X0_look ml_X8_139 rfl rfl rfl rfl (Nat.le_of_ble_eq_true rfl) (by decide) (m_16 (by omega)) (c_X0_look _ G im2 bt2 rt lm 0 man g (by omega) hm5 (by omega) (by rw [e18]; exact r0) (by rw [e18]; exact r1)) rfl (kV ?_)
            rintro m' rfl
            have hRl := RI_look (w := 0) (p := man) (g := g) hR2 (by omega)
            have hb4 : (im2 18 0 7).toNat < 6 := by rw [e18]; omega
            refine q_aload_n (t := 53) F dX8_film_52 rfl rfl rfl ?_
            refine g_X8_17 (t := 56) F dX8_film_53 rfl rfl ?_
            refine q_iload_n (t := 57) F dX8_film_56 rfl rfl rfl ?_
            first | refine laN_6 (t := 58) F dX8_film_57 (by omega) rfl ?_ | refine la_6 (t := 58) F dX8_film_57 (by omega) (by omega) rfl ?_
            refine q_iload_n (t := 59) F dX8_film_58 rfl rfl rfl ?_
            refine q_aload_n (t := 60) F dX8_film_59 rfl rfl rfl ?_
            refine g_X8_42 (t := 63) F dX8_film_60 rfl rfl ?_
            refine q_bipush (t := 65) F dX8_film_63 (by decide) rfl ?_
            refine wp_callV (t := 68) [_] F dX8_film_65 k_X0_goesOffIn v_X0_goesOffIn ml_X8_181 rfl rfl rfl rfl (Nat.le_of_ble_eq_true rfl) (by decide) (m_16 (by omega)) (c_X0_goesOffIn _ G (lookM im2 0 man g) (im2 18 0 7).toNat rt lm 60 (by omega) hb4 hRl (goodT_congr (fun s => rfl) (fun s => rfl) hT2) (by show 0 ≤ im2 21 (5 * 0 + man) 0; rw [e21]; exact k0) (by show im2 21 (5 * 0 + man) 0 < 6; rw [e21]; exact k1) (by show 0 ≤ im2 21 (5 * 0 + man) 1; rw [e21]; exact n0) (by show im2 21 (5 * 0 + man) 1 < 10; rw [e21]; exact n1) (by show im2 22 (5 * 0 + man) g ≠ -1 → 0 ≤ im2 23 (5 * 0 + man) g ∧ im2 23 (5 * 0 + man) g ≤ 3000; rw [e22, e23]; exact hga g (by omega)) (by show 0 ≤ im2 18 0 4; rw [e18]; exact hh0) (by show im2 18 0 4 ≤ 3000; rw [e18]; exact hh1)) rfl (kI ?_)
            rintro x65 m' ⟨hx, hgb⟩
            obtain ⟨im3, hR3, hag3, rfl⟩ := garb_ag hgb hRl
            rw [look_goes, hgo] at hx
            have hgi := goesW_in im 0 man g 60
            have hag4 : ag [5, 16, 17] im3 (flmM im sheet man g) := (hag3.mono (by decide)).trans (((look_ag im2 0 man g).mono (by decide)).trans hag2)
            refine wp_callV (t := 71) [_, _] F dX8_film_68 k_X5_put v_X5_put ml_X8_266 rfl rfl rfl rfl (Nat.le_of_ble_eq_true rfl) (by decide) (m_7 (by omega)) (c_X5_put _ G im3 _ rt lm sheet hj g (by omega) x65 hR3) rfl (kV ?_)
            rintro m' rfl
            rw [show im3 7 sheet 1 = 0 by rw [hag4 7 (by decide), flm_7, if_pos ⟨rfl, rfl⟩], cut0 (by omega), hx]
            refine q_iinc (t := 74) F dX8_film_71 rfl (by decide) rfl rfl ?_
            refine q_goto (t := 33) F dX8_film_74 (by decide) ?_
            exact ih33 (g + 1) _ _ (by omega) (by omega) hb4 (RI_up hR3 (by constructor <;> omega)) (ag_upup hag4)
      exact L33 _ 0 _ bt (Nat.lt_succ_self _) (by omega) hbt (RI_flm hR sheet man 0) (ag_rfl _ _)
    · refine q_bipush (t := 18) F dX8_film_16 (by decide) rfl ?_
      refine q_iret F dX8_film_18 rfl ?_
      refine ⟨_, rfl, ?_, _, bt, rt, hbt, hrt, (by repeat' first | exact hR | refine RI_up ?_ ?_ | assumption | exact hR _ _ _ | (constructor <;> omega)), ?_, rfl⟩
      · unfold filmA
        (repeat' split) <;> omega
      · unfold filmM
        (repeat' split) <;> first | exact agP_rfl _ | (exfalso; omega)
