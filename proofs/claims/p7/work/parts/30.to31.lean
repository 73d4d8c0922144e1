section
/-! people off a sheet -/
def pplS (j : Nat) (fr : Int) : Nat → Nat → Int → IM → Int × IM
  | 0, _, c, im => (c, im)
  | f + 1, i, c, im => if 0 ≤ bm (fr + 2 * i) ∧ bm (fr + 2 * i) + 2 ≤ im 7 j 2 then pplS j fr f (i + 1) (if 0 ≤ manA im (im 8 j (bm (fr + 2 * i)).toNat) (im 8 j ((bm (fr + 2 * i)).toNat + 1)) then c + 1 else c) (manM im (im 8 j (bm (fr + 2 * i)).toNat) (im 8 j ((bm (fr + 2 * i)).toNat + 1))) else (-12, im)
theorem pplS_s (j : Nat) (fr : Int) (f i : Nat) (c : Int) (im : IM) : pplS j fr (f + 1) i c im = if 0 ≤ bm (fr + 2 * i) ∧ bm (fr + 2 * i) + 2 ≤ im 7 j 2 then pplS j fr f (i + 1) (if 0 ≤ manA im (im 8 j (bm (fr + 2 * i)).toNat) (im 8 j ((bm (fr + 2 * i)).toNat + 1)) then c + 1 else c) (manM im (im 8 j (bm (fr + 2 * i)).toNat) (im 8 j ((bm (fr + 2 * i)).toNat + 1))) else (-12, im) := rfl
def peopleV (im : IM) (sheet sort n : Int) : Int := if (0 ≤ sheet ∧ sheet < 4) ∧ (0 ≤ sort ∧ sort < 3) ∧ 0 ≤ n ∧ n ≤ 5 then (if im 7 sheet.toNat 1 = -1 then -11 else if im 7 sheet.toNat 1 = sort then 1 else -13) else -2
def peopleA (im : IM) (sheet sort fr n : Int) : Int := if peopleV im sheet sort n = 1 then (pplS sheet.toNat fr n.toNat 0 0 im).1 else peopleV im sheet sort n
def peopleM (im : IM) (sheet sort fr n : Int) : IM := if peopleV im sheet sort n = 1 then (pplS sheet.toNat fr n.toNat 0 0 im).2 else im
theorem manA_agP {a b : IM} (h : agP a b) (x y : Int) : manA a x y = manA b x y := by
  unfold manA
  rw [h.1 18 0 3 (by unfold per; omega)]
theorem manM_agP {a b : IM} (h : agP a b) (x y : Int) : agP (manM a x y) (manM b x y) := by
  have e3 := h.1 18 0 3 (by unfold per; omega)
  unfold manM
  rw [e3]
  split
  · unfold welM
    rw [e3]
    refine ⟨fun k i s hp => ?_, ?_⟩
    · have := h.1 k i s hp
      simp only [up_app, fl_app]
      (repeat' split) <;> first | rfl | assumption
    · simp only [up_app, fl_app]
      rw [if_neg (by omega), if_neg (by omega), if_neg (by omega), if_neg (by omega), if_neg (by omega), if_neg (by omega), if_neg (by omega), if_neg (by omega)]
      exact h.2
  · exact h
theorem man_o (im : IM) (a b : Int) {k i s : Nat} (h : ¬ (18 ≤ k ∧ k ≤ 22)) : manM im a b k i s = im k i s := by
  unfold manM
  split
  · exact wel_o (by omega) (by omega)
  · rfl
theorem SC_ppl (j : Nat) (fr : Int) (f : Nat) : ∀ (i : Nat) (c : Int) (im : IM), SC im → SC (pplS j fr f i c im).2 := by
  induction f with
  | zero => intro i c im h; exact h
  | succ f ih =>
    intro i c im h
    rw [pplS_s]
    split
    · exact ih _ _ _ (SC_man h (h.1 _ _ _) (h.1 _ _ _))
    · exact h
theorem SC_people {im : IM} {sheet sort fr n : Int} (hS : SC im) : SC (peopleM im sheet sort fr n) := by
  unfold peopleM
  split
  · exact SC_ppl _ _ _ _ _ _ hS
  · exact hS

theorem manA_ri {im : IM} (hS : SC im) (a b : Int) : ri (manA im a b) := by
  have w1 := hS.2.1.1
  unfold manA
  (repeat' split) <;> (constructor <;> omega)

set_option maxHeartbeats 4000000 in
theorem c_X8_people (l : Launch) (G : GS) (im : IM) (bt rt : Nat) (lm : IM) (hbt : bt < 6) (hrt : rt < 6) (hS : SC im) (sheet : Int) (sort : Int) (fr : Int) (n : Int) (hsheet : ri sheet) (hsort : ri sort) (hfr : ri fr) (hn : ri n) : Cn l (XC G) yX8_people Y_X8_people [vR 0 0, vI sheet, vI sort, vI fr, vI n] (im, rs bt rt, lm) (pI fun x m' => x = peopleA im sheet sort fr n ∧ stC lm (peopleM im sheet sort fr n) m') := by
  refine cn_of (by decide) (okC G) rfl (Nat.le_of_ble_eq_true rfl) ?_
  intro M ad hMl F
  subst hMl
  obtain ⟨hR, hW, hh, htc, hru, hgt, hz, hrd, hsh, him, htp⟩ := hS
  have w1 := hW.1
  have w2 := hW.2.1
  have w3 := hW.2.2.1
  have w4 := hW.2.2.2.1
  have w5 := hW.2.2.2.2.1
  have hsheet1 := hsheet.1
  have hsheet2 := hsheet.2
  have hsort1 := hsort.1
  have hsort2 := hsort.2
  have hfr1 := hfr.1
  have hfr2 := hfr.2
  have hn1 := hn.1
  have hn2 := hn.2
  refine wp_pad 4 ?_
  show Wp M (XC G) ad Y_X8_people (pI fun x m' => x = peopleA im sheet sort fr n ∧ stC lm (peopleM im sheet sort fr n) m') 0 [some (vR 0 0), some (vI sheet), some (vI sort), some (vI fr), some (vI n), none, none, none, none] [] (im, rs bt rt, lm)
  refine q_iload_n (t := 1) F dX8_people_0 rfl rfl rfl ?_
  refine q_iconst (t := 2) F dX8_people_1 rfl ?_
  refine wp_callS (t := 5) [_, _] F dX8_people_2 k_X8_within st_X8_within ml_X8_95 rfl rfl (Nat.le_of_ble_eq_true rfl) (by decide) (c_X8_within _ G _ bt rt lm sheet 4 hsheet (by constructor <;> omega)) rfl (kI ?_)
  rintro x2 m' ⟨hx2, rfl⟩
  have hx2 := if01 hx2
  refine q_if_eq (t := 8) (u := 27) F dX8_people_5 (by first | exact hR _ _ _ | (constructor <;> omega)) (by decide) rfl (fun c5 => ?_) (fun c5 => ?_)
  · refine q_bipush (t := 29) F dX8_people_27 (by decide) rfl ?_
    refine q_iret F dX8_people_29 rfl ?_
    have hx : peopleV im sheet sort n = -2 := by
      unfold peopleV
      try simp only [Int.toNat_natCast]
      (repeat' split) <;> omega
    refine ⟨_, rfl, ?_, _, bt, rt, hbt, hrt, hR, ?_, rfl⟩
    · unfold peopleA
      rw [hx, if_neg (by omega)]
    · unfold peopleM
      rw [hx, if_neg (by omega)]
      exact agP_rfl _
  · refine q_iload_n (t := 9) F dX8_people_8 rfl rfl rfl ?_
    refine q_iconst (t := 10) F dX8_people_9 rfl ?_
    refine wp_callS (t := 13) [_, _] F dX8_people_10 k_X8_within st_X8_within ml_X8_95 rfl rfl (Nat.le_of_ble_eq_true rfl) (by decide) (c_X8_within _ G _ bt rt lm sort 3 hsort (by constructor <;> omega)) rfl (kI ?_)
    rintro x10 m' ⟨hx10, rfl⟩
    have hx10 := if01 hx10
    refine q_if_eq (t := 16) (u := 27) F dX8_people_13 (by first | exact hR _ _ _ | (constructor <;> omega)) (by decide) rfl (fun c13 => ?_) (fun c13 => ?_)
    · refine q_bipush (t := 29) F dX8_people_27 (by decide) rfl ?_
      refine q_iret F dX8_people_29 rfl ?_
      have hx : peopleV im sheet sort n = -2 := by
        unfold peopleV
        try simp only [Int.toNat_natCast]
        (repeat' split) <;> omega
      refine ⟨_, rfl, ?_, _, bt, rt, hbt, hrt, hR, ?_, rfl⟩
      · unfold peopleA
        rw [hx, if_neg (by omega)]
      · unfold peopleM
        rw [hx, if_neg (by omega)]
        exact agP_rfl _
    · refine q_iload (t := 18) F dX8_people_16 rfl rfl ?_
      refine q_if_lt (t := 21) (u := 27) F dX8_people_18 (by first | exact hR _ _ _ | (constructor <;> omega)) (by decide) rfl (fun c18 => ?_) (fun c18 => ?_)
      · refine q_bipush (t := 29) F dX8_people_27 (by decide) rfl ?_
        refine q_iret F dX8_people_29 rfl ?_
        have hx : peopleV im sheet sort n = -2 := by
          unfold peopleV
          try simp only [Int.toNat_natCast]
          (repeat' split) <;> omega
        refine ⟨_, rfl, ?_, _, bt, rt, hbt, hrt, hR, ?_, rfl⟩
        · unfold peopleA
          rw [hx, if_neg (by omega)]
        · unfold peopleM
          rw [hx, if_neg (by omega)]
          exact agP_rfl _
      · refine q_iload (t := 23) F dX8_people_21 rfl rfl ?_
        refine q_iconst (t := 24) F dX8_people_23 rfl ?_
        refine q_icmp_le (t := 27) (u := 30) F dX8_people_24 (by first | exact hR _ _ _ | (constructor <;> omega)) (by first | exact hR _ _ _ | (constructor <;> omega)) (by decide) rfl (fun c24 => ?_) (fun c24 => ?_)
        · refine q_aload_n (t := 31) F dX8_people_30 rfl rfl rfl ?_
          refine g_X8_17 (t := 34) F dX8_people_31 rfl rfl ?_
          refine q_iload_n (t := 35) F dX8_people_34 rfl rfl rfl ?_
          obtain ⟨sheet, rfl⟩ : ∃ k : Nat, sheet = (k : Int) := ⟨sheet.toNat, by omega⟩
          have hj : sheet < 4 := by omega
          have hs4 := hsh sheet hj
          first | refine laN_6 (t := 36) F dX8_people_35 (by omega) rfl ?_ | refine la_6 (t := 36) F dX8_people_35 (by omega) (by omega) rfl ?_
          refine q_astore (t := 38) F dX8_people_36 (by decide) rfl rfl ?_
          refine q_aload (t := 40) F dX8_people_38 rfl rfl ?_
          refine wp_callV (t := 43) [] F dX8_people_40 k_X5_isMissing v_X5_isMissing ml_X8_218 rfl rfl rfl rfl (Nat.le_of_ble_eq_true rfl) (by decide) (m_7 (by omega)) (c_X5_isMissing _ G im bt rt lm sheet hj hR) rfl (kI ?_)
          rintro x40 m' ⟨hx40, rfl⟩
          have hx40 := if01 hx40
          refine q_if_eq (t := 46) (u := 49) F dX8_people_43 (by first | exact hR _ _ _ | (constructor <;> omega)) (by decide) rfl (fun c43 => ?_) (fun c43 => ?_)
          · refine q_aload (t := 51) F dX8_people_49 rfl rfl ?_
            refine g_X8_281 (t := 54) F dX8_people_51 rfl (by omega) rfl ?_
            try simp only [up_app, row_app, scr_app, cpy_app, Nat.reduceEqDiff, Int.reduceToNat, Int.toNat_natCast, and_true, true_and, and_false, false_and, and_self, reduceIte]
            refine q_iload_n (t := 55) F dX8_people_54 rfl rfl rfl ?_
            refine q_icmp_eq (t := 58) (u := 61) F dX8_people_55 (by exact hR _ _ _) (by constructor <;> omega) (by decide) rfl (fun c55 => ?_) (fun c55 => ?_)
            · refine q_iconst (t := 62) F dX8_people_61 rfl ?_
              refine q_istore (t := 64) F dX8_people_62 (by decide) rfl rfl ?_
              refine q_iconst (t := 65) F dX8_people_64 rfl ?_
              obtain ⟨n, rfl⟩ : ∃ k : Nat, n = (k : Int) := ⟨n.toNat, by omega⟩
              have hx : peopleV im sheet sort n = 1 := by
                unfold peopleV
                simp only [Int.toNat_natCast]
                (repeat' split) <;> omega
              refine q_istore (t := 67) F dX8_people_65 (by decide) rfl rfl ?_
              have L67 : ∀ (fz : Nat) (i : Nat) (c : Int) (S im2 : IM) (bt2 rt2 : Nat), n - i < fz → i ≤ n → bt2 < 6 → rt2 < 6 → SC im2 → SC S → agP im2 S → pplS sheet fr (n - i) i c S = pplS sheet fr n 0 0 im → Wp M (XC G) ad Y_X8_people (pI fun x m' => x = peopleA im sheet sort fr n ∧ stC lm (peopleM im sheet sort fr n) m') 67 [some (vR 0 0), some (vI (sheet : Int)), some (vI sort), some (vI fr), some (vI (n : Int)), some (vR 7 sheet), some (vI c), some (vI (i : Int)), none] [] (im2, rs bt2 rt2, lm) := by
                intro fz
                induction fz with
                | zero => intro i c S im2 bt2 rt2 h; exact absurd h (Nat.not_lt_zero _)
                | succ fz ih =>
                  have ih67 := ih
                  intro i c S im2 bt2 rt2 hmeas hi hbt2 hrt2 hS2 hSS hP2 hpp
                  have hs42 := hS2.2.2.2.2.2.2.2.2.1 sheet hj
                  have e8 : ∀ s, im2 8 sheet s = S 8 sheet s := fun s => hP2.1 8 sheet s (by unfold per; omega)
                  have e7 : im2 7 sheet 2 = S 7 sheet 2 := hP2.1 7 sheet 2 (by unfold per; omega)
                  refine q_iload (t := 69) F dX8_people_67 rfl rfl ?_
                  refine q_iload (t := 71) F dX8_people_69 rfl rfl ?_
                  refine q_icmp_ge (t := 74) (u := 130) F dX8_people_71 (by first | exact hR _ _ _ | (constructor <;> omega)) (by first | exact hR _ _ _ | (constructor <;> omega)) (by decide) rfl (fun c71 => ?_) (fun c71 => ?_)
                  · refine q_iload (t := 132) F dX8_people_130 rfl rfl ?_
                    refine q_iret F dX8_people_132 rfl ?_
                    have hni : n - i = 0 := by omega
                    rw [hni] at hpp
                    have hpp2 : (c, S) = pplS sheet fr n 0 0 im := hpp
                    refine ⟨_, rfl, ?_, im2, bt2, rt2, hbt2, hrt2, hS2.1, ?_, rfl⟩
                    · unfold peopleA
                      rw [if_pos hx]
                      simp only [Int.toNat_natCast]
                      rw [← hpp2]
                    · unfold peopleM
                      rw [if_pos hx]
                      simp only [Int.toNat_natCast]
                      rw [← hpp2]
                      exact hP2
                  · refine q_iload_n (t := 75) F dX8_people_74 rfl rfl rfl ?_
                    refine q_iconst (t := 76) F dX8_people_75 rfl ?_
                    refine q_iload (t := 78) F dX8_people_76 rfl rfl ?_
                    refine q_imul (t := 79) F dX8_people_78 rfl ?_
                    refine q_iadd (t := 80) F dX8_people_79 rfl ?_
                    refine q_norm ?_
                    refine q_istore (t := 82) F dX8_people_80 (by decide) rfl rfl ?_
                    refine q_aload (t := 84) F dX8_people_82 rfl rfl ?_
                    refine q_iload (t := 86) F dX8_people_84 rfl rfl ?_
                    refine q_iconst (t := 87) F dX8_people_86 rfl ?_
                    refine wp_callV (t := 90) [_, _] F dX8_people_87 k_X5_holds v_X5_holds ml_X8_284 rfl rfl rfl rfl (Nat.le_of_ble_eq_true rfl) (by decide) (m_7 (by omega)) (c_X5_holds _ G im2 bt2 rt2 lm sheet hj (bm (fr + 2 * i)) 2 (ri_b _) (by constructor <;> omega) hs42.2.2.1 hs42.2.2.2 hS2.1) rfl (kI ?_)
                    rintro x87 m' ⟨hx87, rfl⟩
                    have hx87 := if01 hx87
                    refine q_if_ne (t := 93) (u := 96) F dX8_people_90 (by first | exact hR _ _ _ | (constructor <;> omega)) (by decide) rfl (fun c90 => ?_) (fun c90 => ?_)
                    · refine q_aload_n (t := 97) F dX8_people_96 rfl rfl rfl ?_
                      refine q_aload (t := 99) F dX8_people_97 rfl rfl ?_
                      refine g_X8_232 (t := 102) F dX8_people_99 rfl (by omega) rfl ?_
                      refine q_iload (t := 104) F dX8_people_102 rfl rfl ?_
                      obtain ⟨p, hp⟩ : ∃ p : Nat, bm (fr + 2 * i) = (p : Int) := ⟨(bm (fr + 2 * i)).toNat, by omega⟩
                      rw [hp]
                      first | refine ldN_8 (t := 105) F dX8_people_104 (by omega) (by omega) rfl ?_ | refine ld_8 (t := 105) F dX8_people_104 (by omega) (by omega) (by omega) rfl ?_
                      try simp only [up_app, row_app, scr_app, cpy_app, Nat.reduceEqDiff, Int.reduceToNat, Int.toNat_natCast, and_true, true_and, and_false, false_and, and_self, reduceIte]
                      refine q_aload (t := 107) F dX8_people_105 rfl rfl ?_
                      refine g_X8_232 (t := 110) F dX8_people_107 rfl (by omega) rfl ?_
                      refine q_iload (t := 112) F dX8_people_110 rfl rfl ?_
                      refine q_iconst (t := 113) F dX8_people_112 rfl ?_
                      refine q_iadd (t := 114) F dX8_people_113 rfl ?_
                      rw [show (p : Int) + 1 = ((p + 1 : Nat) : Int) by omega]
                      first | refine ldN_8 (t := 115) F dX8_people_114 (by omega) (by omega) rfl ?_ | refine ld_8 (t := 115) F dX8_people_114 (by omega) (by omega) (by omega) rfl ?_
                      try simp only [up_app, row_app, scr_app, cpy_app, Nat.reduceEqDiff, Int.reduceToNat, Int.toNat_natCast, and_true, true_and, and_false, false_and, and_self, reduceIte]
                      refine wp_callV (t := 118) [_, _] F dX8_people_115 k_X8_man v_X8_man ml_X8_292 rfl rfl rfl rfl (Nat.le_of_ble_eq_true rfl) (by decide) (m_0 (by omega)) (c_X8_man _ G im2 bt2 rt2 lm hbt2 hrt2 hS2 (im2 8 sheet p) (im2 8 sheet (p + 1)) (hS2.1 _ _ _) (hS2.1 _ _ _)) rfl (kI ?_)
                      rintro x115 m' ⟨hx115, hst⟩
                      obtain ⟨im3, bt3, rt3, hbt3, hrt3, hS3, hag3, rfl⟩ := SC_st hst (SC_man hS2 (hS2.1 _ _ _) (hS2.1 _ _ _))
                      rw [manA_agP hP2, e8, e8] at hx115
                      have hxr : ri x115 := by rw [hx115]; exact manA_ri hSS _ _
                      have hP3 : agP im3 (manM S (S 8 sheet p) (S 8 sheet (p + 1))) := by
                        rw [← e8, ← e8]
                        exact hag3.trans (manM_agP hP2 _ _)
                      refine q_if_lt (t := 121) (u := 124) F dX8_people_118 (by exact hxr) (by decide) rfl (fun c118 => ?_) (fun c118 => ?_)
                      · refine q_iinc (t := 127) F dX8_people_124 rfl (by decide) rfl rfl ?_
                        refine q_goto (t := 67) F dX8_people_127 (by decide) ?_
                        refine wp_less 8 ?_
                        have hni : n - i = (n - (i + 1)) + 1 := by omega
                        rw [hni, pplS_s, if_pos (by omega), hp, Int.toNat_natCast] at hpp
                        first
                          | (rw [if_pos (by omega)] at hpp
                             exact ih67 (i + 1) _ _ im3 bt3 rt3 (by omega) (by omega) hbt3 hrt3 hS3 (SC_man hSS (hSS.1 _ _ _) (hSS.1 _ _ _)) hP3 hpp)
                          | (rw [if_neg (by omega)] at hpp
                             exact ih67 (i + 1) _ _ im3 bt3 rt3 (by omega) (by omega) hbt3 hrt3 hS3 (SC_man hSS (hSS.1 _ _ _) (hSS.1 _ _ _)) hP3 hpp)
                      · refine q_iinc (t := 124) F dX8_people_121 rfl (by decide) rfl rfl ?_
                        refine q_iinc (t := 127) F dX8_people_124 rfl (by decide) rfl rfl ?_
                        refine q_goto (t := 67) F dX8_people_127 (by decide) ?_
                        refine wp_less 8 ?_
                        have hni : n - i = (n - (i + 1)) + 1 := by omega
                        rw [hni, pplS_s, if_pos (by omega), hp, Int.toNat_natCast] at hpp
                        first
                          | (rw [if_pos (by omega)] at hpp
                             exact ih67 (i + 1) _ _ im3 bt3 rt3 (by omega) (by omega) hbt3 hrt3 hS3 (SC_man hSS (hSS.1 _ _ _) (hSS.1 _ _ _)) hP3 hpp)
                          | (rw [if_neg (by omega)] at hpp
                             exact ih67 (i + 1) _ _ im3 bt3 rt3 (by omega) (by omega) hbt3 hrt3 hS3 (SC_man hSS (hSS.1 _ _ _) (hSS.1 _ _ _)) hP3 hpp)
                    · refine q_bipush (t := 95) F dX8_people_93 (by decide) rfl ?_
                      refine q_iret F dX8_people_95 rfl ?_
                      have hni : n - i = (n - (i + 1)) + 1 := by omega
                      rw [hni, pplS_s, if_neg (by omega)] at hpp
                      refine ⟨_, rfl, ?_, im2, bt2, rt2, hbt2, hrt2, hS2.1, ?_, rfl⟩
                      · unfold peopleA
                        rw [if_pos hx]
                        simp only [Int.toNat_natCast]
                        rw [← hpp]
                      · unfold peopleM
                        rw [if_pos hx]
                        simp only [Int.toNat_natCast]
                        rw [← hpp]
                        exact hP2
              exact L67 _ 0 0 im im bt rt (Nat.lt_succ_self _) (by omega) hbt hrt ⟨hR, hW, hh, htc, hru, hgt, hz, hrd, hsh, him, htp⟩ ⟨hR, hW, hh, htc, hru, hgt, hz, hrd, hsh, him, htp⟩ (agP_rfl _) rfl
            · refine q_bipush (t := 60) F dX8_people_58 (by decide) rfl ?_
              refine q_iret F dX8_people_60 rfl ?_
              have hx : peopleV im sheet sort n = -13 := by
                unfold peopleV
                try simp only [Int.toNat_natCast]
                (repeat' split) <;> omega
              refine ⟨_, rfl, ?_, _, bt, rt, hbt, hrt, hR, ?_, rfl⟩
              · unfold peopleA
                rw [hx, if_neg (by omega)]
              · unfold peopleM
                rw [hx, if_neg (by omega)]
                exact agP_rfl _
          · refine q_bipush (t := 48) F dX8_people_46 (by decide) rfl ?_
            refine q_iret F dX8_people_48 rfl ?_
            have hx : peopleV im sheet sort n = -11 := by
              unfold peopleV
              try simp only [Int.toNat_natCast]
              (repeat' split) <;> omega
            refine ⟨_, rfl, ?_, _, bt, rt, hbt, hrt, hR, ?_, rfl⟩
            · unfold peopleA
              rw [hx, if_neg (by omega)]
            · unfold peopleM
              rw [hx, if_neg (by omega)]
              exact agP_rfl _
        · refine q_bipush (t := 29) F dX8_people_27 (by decide) rfl ?_
          refine q_iret F dX8_people_29 rfl ?_
          have hx : peopleV im sheet sort n = -2 := by
            unfold peopleV
            try simp only [Int.toNat_natCast]
            (repeat' split) <;> omega
          refine ⟨_, rfl, ?_, _, bt, rt, hbt, hrt, hR, ?_, rfl⟩
          · unfold peopleA
            rw [hx, if_neg (by omega)]
          · unfold peopleM
            rw [hx, if_neg (by omega)]
            exact agP_rfl _

/-! film -/
def flmM (im : IM) (j man : Nat) : Nat → IM
  | 0 => zr (up (up im 7 j 1 0) 7 j 2 10) 8 j 40
  | g + 1 => up (flmM im j man g) 8 j g (goesW im 0 man g 60)
def filmA (im : IM) (sheet man : Int) : Int := if (0 ≤ sheet ∧ sheet < 4) ∧ 0 ≤ man ∧ man < im 18 0 3 then 10 else -2
def filmM (im : IM) (sheet man : Int) : IM := if (0 ≤ sheet ∧ sheet < 4) ∧ 0 ≤ man ∧ man < im 18 0 3 then flmM im sheet.toNat man.toNat 10 else im
theorem flm_ag (im : IM) (j man g : Nat) : ag [7, 8] (flmM im j man g) im := by
  induction g with
  | zero =>
    intro k hk i s
    have h7 : k ≠ 7 := fun q => hk (by rw [q]; decide)
    have h8 : k ≠ 8 := fun q => hk (by rw [q]; decide)
    show zr (up (up im 7 j 1 0) 7 j 2 10) 8 j 40 k i s = _
    rw [zr_app, if_neg (by omega), up_app, if_neg (by omega), up_app, if_neg (by omega)]
  | succ g ih => exact ag_up ih (by decide)
theorem flm_7 (im : IM) (j man g : Nat) (i s : Nat) : flmM im j man g 7 i s = if i = j ∧ s = 1 then 0 else if i = j ∧ s = 2 then 10 else im 7 i s := by
  induction g with
  | zero =>
    show zr (up (up im 7 j 1 0) 7 j 2 10) 8 j 40 7 i s = _
    rw [zr_app, if_neg (by omega), up_app, up_app]
    by_cases h2 : i = j ∧ s = 2
    · rw [if_pos ⟨rfl, h2⟩, if_neg (by omega), if_pos h2]
    · rw [if_neg (fun q => h2 q.2)]
      by_cases h1 : i = j ∧ s = 1
      · rw [if_pos ⟨rfl, h1⟩, if_pos h1]
      · rw [if_neg (fun q => h1 q.2), if_neg h1, if_neg h2]
  | succ g ih =>
    show up (flmM im j man g) 8 j g (goesW im 0 man g 60) 7 i s = _
    rw [up_app, if_neg (by omega), ih]
theorem goesW_ri (im : IM) (w man gap n : Nat) (hn : n < 1000) : ri (goesW im w man gap n) := by
  have := goesW_in im w man gap n
  constructor <;> omega
theorem RI_flm {im : IM} (hR : RI im) (j man g : Nat) : RI (flmM im j man g) := by
  induction g with
  | zero => exact RI_zr (RI_up (RI_up hR (by constructor <;> omega)) (by constructor <;> omega))
  | succ g ih => exact RI_up ih (goesW_ri _ _ _ _ _ (by omega))
theorem SC_film {im : IM} {sheet man : Int} (hS : SC im) : SC (filmM im sheet man) := by
  unfold filmM
  split
  · refine SC_sh hS (RI_flm hS.1 _ _ _) (fun k i s hk => flm_ag _ _ _ _ k ?_ _ _) (fun j hj => ?_)
    · intro h
      simp only [List.mem_cons, List.not_mem_nil, or_false] at h
      exact hk h
    · have := hS.2.2.2.2.2.2.2.2.1 j hj
      rw [flm_7, flm_7]
      (repeat' split) <;> omega
  · exact hS
theorem cut0 {x : Int} (h : x = -1 ∨ 0 ≤ x ∧ x < 60) : cutN 0 x = x := by
  unfold cutN
  rw [if_pos rfl, Int.bmod_eq_emod]
  split <;> omega

set_option maxHeartbeats 4000000 in
theorem c_X8_film (l : Launch) (G : GS) (im : IM) (bt rt : Nat) (lm : IM) (hbt : bt < 6) (hrt : rt < 6) (hS : SC im) (sheet : Int) (man : Int) (hsheet : ri sheet) (hman : ri man) : Cn l (XC G) yX8_film Y_X8_film [vR 0 0, vI sheet, vI man] (im, rs bt rt, lm) (pI fun x m' => x = filmA im sheet man ∧ stC lm (filmM im sheet man) m') := by
  refine cn_of (by decide) (okC G) rfl (Nat.le_of_ble_eq_true rfl) ?_
  intro M ad hMl F
  subst hMl
  obtain ⟨hR, hW, hh, htc, hru, hgt, hz, hrd, hsh, him, htp⟩ := hS
  have w1 := hW.1
  have w2 := hW.2.1
  have w3 := hW.2.2.1
  have w4 := hW.2.2.2.1
  have w5 := hW.2.2.2.2.1
  have hsheet1 := hsheet.1
  have hsheet2 := hsheet.2
  have hman1 := hman.1
  have hman2 := hman.2
  refine wp_pad 1 ?_
  show Wp M (XC G) ad Y_X8_film (pI fun x m' => x = filmA im sheet man ∧ stC lm (filmM im sheet man) m') 0 [some (vR 0 0), some (vI sheet), some (vI man), none] [] (im, rs bt rt, lm)
  refine q_iload_n (t := 1) F dX8_film_0 rfl rfl rfl ?_
  refine q_iconst (t := 2) F dX8_film_1 rfl ?_
  refine wp_callS (t := 5) [_, _] F dX8_film_2 k_X8_within st_X8_within ml_X8_95 rfl rfl (Nat.le_of_ble_eq_true rfl) (by decide) (c_X8_within _ G _ bt rt lm sheet 4 hsheet (by constructor <;> omega)) rfl (kI ?_)
  rintro x2 m' ⟨hx2, rfl⟩
  have hx2 := if01 hx2
  refine q_if_eq (t := 8) (u := 16) F dX8_film_5 (by first | exact hR _ _ _ | (constructor <;> omega)) (by decide) rfl (fun c5 => ?_) (fun c5 => ?_)
  · refine q_bipush (t := 18) F dX8_film_16 (by decide) rfl ?_
    refine q_iret F dX8_film_18 rfl ?_
    refine ⟨_, rfl, ?_, _, bt, rt, hbt, hrt, (by repeat' first | exact hR | refine RI_up ?_ ?_ | assumption | exact hR _ _ _ | (constructor <;> omega)), ?_, rfl⟩
    · unfold filmA
      (repeat' split) <;> omega
    · unfold filmM
      (repeat' split) <;> first | exact agP_rfl _ | (exfalso; omega)
  · refine q_aload_n (t := 9) F dX8_film_8 rfl rfl rfl ?_
    refine q_iload_n (t := 10) F dX8_film_9 rfl rfl rfl ?_
    refine wp_callV (t := 13) [_] F dX8_film_10 k_X8_isOne v_X8_isOne ml_X8_91 rfl rfl rfl rfl (Nat.le_of_ble_eq_true rfl) (by decide) (m_0 (by omega)) (c_X8_isOne _ G _ bt rt lm man hman hR) rfl (kI ?_)
    rintro x10 m' ⟨hx10, rfl⟩
    have hx10 := if01 hx10
    refine q_if_ne (t := 16) (u := 19) F dX8_film_13 (by first | exact hR _ _ _ | (constructor <;> omega)) (by decide) rfl (fun c13 => ?_) (fun c13 => ?_)
    · refine q_aload_n (t := 20) F dX8_film_19 rfl rfl rfl ?_
      refine g_X8_17 (t := 23) F dX8_film_20 rfl rfl ?_
      obtain ⟨sheet, rfl⟩ : ∃ k : Nat, sheet = (k : Int) := ⟨sheet.toNat, by omega⟩
      have hj : sheet < 4 := by omega
      have hs4 := hsh sheet hj
      obtain ⟨man, rfl⟩ : ∃ k : Nat, man = (k : Int) := ⟨man.toNat, by omega⟩
      obtain ⟨r0, r1, hT, k0, k1, n0, n1, hga, hh0, hh1, hm5⟩ := cell_of hW (man := man) (by omega)
      refine q_iload_n (t := 24) F dX8_film_23 rfl rfl rfl ?_
      first | refine laN_6 (t := 25) F dX8_film_24 (by omega) rfl ?_ | refine la_6 (t := 25) F dX8_film_24 (by omega) (by omega) rfl ?_
      refine q_iconst (t := 26) F dX8_film_25 rfl ?_
      refine q_bipush (t := 28) F dX8_film_26 (by decide) rfl ?_
      refine wp_callV (t := 31) [_, _] F dX8_film_28 k_X5_become v_X5_become ml_X8_263 rfl rfl rfl rfl (Nat.le_of_ble_eq_true rfl) (by decide) (m_7 (by omega)) (c_X5_become _ G im bt rt lm sheet hj 0 10) rfl (kV ?_)
      rintro m' rfl
      refine q_iconst (t := 32) F dX8_film_31 rfl ?_
      refine q_istore_n (t := 33) F dX8_film_32 rfl (by decide) rfl rfl ?_
      have L33 : ∀ (fz : Nat) (g : Nat) (im2 : IM) (bt2 : Nat), 10 - g < fz → g ≤ 10 → bt2 < 6 → RI im2 → ag [5, 16, 17] im2 (flmM im sheet man g) → Wp M (XC G) ad Y_X8_film (pI fun x m' => x = filmA im sheet man ∧ stC lm (filmM im sheet man) m') 33 [some (vR 0 0), some (vI (sheet : Int)), some (vI (man : Int)), some (vI (g : Int))] [] (im2, rs bt2 rt, lm) := by
        intro fz
        induction fz with
        | zero => intro g im2 bt2 h; exact absurd h (Nat.not_lt_zero _)
        | succ fz ih =>
          have ih33 := ih
          intro g im2 bt2 hmeas hg hbt2 hR2 hag2
          have hag9 : ag [5, 7, 8, 16, 17] im2 im := (hag2.mono (by decide)).trans ((flm_ag im sheet man g).mono (by decide))
          have e18 : ∀ s, im2 18 0 s = im 18 0 s := fun s => hag9 18 (by decide) 0 s
          have e21 : ∀ s, im2 21 (5 * 0 + man) s = im 21 (5 * 0 + man) s := fun s => hag9 21 (by decide) _ s
          have e22 : ∀ s, im2 22 (5 * 0 + man) s = im 22 (5 * 0 + man) s := fun s => hag9 22 (by decide) _ s
          have e23 : ∀ s, im2 23 (5 * 0 + man) s = im 23 (5 * 0 + man) s := fun s => hag9 23 (by decide) _ s
          have hT2 : goodT im2 (im2 18 0 7).toNat := by
            rw [e18]
            exact goodT_congr (fun s => hag9 3 (by decide) _ s) (fun s => hag9 4 (by decide) _ s) hT
          have hgo : goesW im2 0 man g 60 = goesW im 0 man g 60 := goesW_ag hag9 (by decide) (by decide) (by decide) (by decide) (by decide) (by decide) 0 man g 60
          refine q_iload_n (t := 34) F dX8_film_33 rfl rfl rfl ?_
          refine q_bipush (t := 36) F dX8_film_34 (by decide) rfl ?_
          refine q_icmp_ge (t := 39) (u := 77) F dX8_film_36 (by first | exact hR _ _ _ | (constructor <;> omega)) (by first | exact hR _ _ _ | (constructor <;> omega)) (by decide) rfl (fun c36 => ?_) (fun c36 => ?_)
          · refine q_bipush (t := 79) F dX8_film_77 (by decide) rfl ?_
            refine q_iret F dX8_film_79 rfl ?_
            obtain rfl : g = 10 := by omega
            refine ⟨_, rfl, ?_, im2, bt2, rt, hbt2, hrt, hR2, ?_, rfl⟩
            · unfold filmA
              rw [if_pos (by omega)]
            · unfold filmM
              rw [if_pos (by omega)]
              simp only [Int.toNat_natCast]
              exact agP_of (hag2.mono (by decide))
          · refine q_aload_n (t := 40) F dX8_film_39 rfl rfl rfl ?_
            refine g_X8_42 (t := 43) F dX8_film_40 rfl rfl ?_
            refine q_aload_n (t := 44) F dX8_film_43 rfl rfl rfl ?_
            refine g_X8_51 (t := 47) F dX8_film_44 rfl rfl ?_
            refine q_iload_n (t := 48) F dX8_film_47 rfl rfl rfl ?_
            refine q_iload_n (t := 49) F dX8_film_48 rfl rfl rfl ?_
            refine wp_callV (t := 52) [_, _, _] F dX8_film_49 k_X0_look v_X0_look ml_X8_139 rfl rfl rfl rfl (Nat.le_of_ble_eq_true rfl) (by decide) (m_16 (by omega)) (c_X0_look _ G im2 bt2 rt lm 0 man g (by omega) hm5 (by omega) (by rw [e18]; exact r0) (by rw [e18]; exact r1)) rfl (kV ?_)
            rintro m' rfl
            have hRl := RI_look (w := 0) (p := man) (g := g) hR2 (by omega)
            have hb4 : (im2 18 0 7).toNat < 6 := by rw [e18]; omega
            refine q_aload_n (t := 53) F dX8_film_52 rfl rfl rfl ?_
            refine g_X8_17 (t := 56) F dX8_film_53 rfl rfl ?_
            refine q_iload_n (t := 57) F dX8_film_56 rfl rfl rfl ?_
            first | refine laN_6 (t := 58) F dX8_film_57 (by omega) rfl ?_ | refine la_6 (t := 58) F dX8_film_57 (by omega) (by omega) rfl ?_
            refine q_iload_n (t := 59) F dX8_film_58 rfl rfl rfl ?_
            refine q_aload_n (t := 60) F dX8_film_59 rfl rfl rfl ?_
            refine g_X8_42 (t := 63) F dX8_film_60 rfl rfl ?_
            refine q_bipush (t := 65) F dX8_film_63 (by decide) rfl ?_
            refine wp_callV (t := 68) [_] F dX8_film_65 k_X0_goesOffIn v_X0_goesOffIn ml_X8_181 rfl rfl rfl rfl (Nat.le_of_ble_eq_true rfl) (by decide) (m_16 (by omega)) (c_X0_goesOffIn _ G (lookM im2 0 man g) (im2 18 0 7).toNat rt lm 60 (by omega) hb4 hRl (goodT_congr (fun s => rfl) (fun s => rfl) hT2) (by show 0 ≤ im2 21 (5 * 0 + man) 0; rw [e21]; exact k0) (by show im2 21 (5 * 0 + man) 0 < 6; rw [e21]; exact k1) (by show 0 ≤ im2 21 (5 * 0 + man) 1; rw [e21]; exact n0) (by show im2 21 (5 * 0 + man) 1 < 10; rw [e21]; exact n1) (by show im2 22 (5 * 0 + man) g ≠ -1 → 0 ≤ im2 23 (5 * 0 + man) g ∧ im2 23 (5 * 0 + man) g ≤ 3000; rw [e22, e23]; exact hga g (by omega)) (by show 0 ≤ im2 18 0 4; rw [e18]; exact hh0) (by show im2 18 0 4 ≤ 3000; rw [e18]; exact hh1)) rfl (kI ?_)
            rintro x65 m' ⟨hx, hgb⟩
            obtain ⟨im3, hR3, hag3, rfl⟩ := garb_ag hgb hRl
            rw [look_goes, hgo] at hx
            have hgi := goesW_in im 0 man g 60
            have hag4 : ag [5, 16, 17] im3 (flmM im sheet man g) := (hag3.mono (by decide)).trans (((look_ag im2 0 man g).mono (by decide)).trans hag2)
            refine wp_callV (t := 71) [_, _] F dX8_film_68 k_X5_put v_X5_put ml_X8_266 rfl rfl rfl rfl (Nat.le_of_ble_eq_true rfl) (by decide) (m_7 (by omega)) (c_X5_put _ G im3 _ rt lm sheet hj g (by omega) x65 hR3) rfl (kV ?_)
            rintro m' rfl
            rw [show im3 7 sheet 1 = 0 by rw [hag4 7 (by decide), flm_7, if_pos ⟨rfl, rfl⟩], cut0 (by omega), hx]
            refine q_iinc (t := 74) F dX8_film_71 rfl (by decide) rfl rfl ?_
            refine q_goto (t := 33) F dX8_film_74 (by decide) ?_
            exact ih33 (g + 1) _ _ (by omega) (by omega) hb4 (RI_up hR3 (by constructor <;> omega)) (ag_upup hag4)
      exact L33 _ 0 _ bt (Nat.lt_succ_self _) (by omega) hbt (RI_flm hR sheet man 0) (ag_rfl _ _)
    · refine q_bipush (t := 18) F dX8_film_16 (by decide) rfl ?_
      refine q_iret F dX8_film_18 rfl ?_
      refine ⟨_, rfl, ?_, _, bt, rt, hbt, hrt, (by repeat' first | exact hR | refine RI_up ?_ ?_ | assumption | exact hR _ _ _ | (constructor <;> omega)), ?_, rfl⟩
      · unfold filmA
        (repeat' split) <;> omega
      · unfold filmM
        (repeat' split) <;> first | exact agP_rfl _ | (exfalso; omega)
end
section
/-! drawn, chance -/
def dwZ (seed : Int) : Nat → Int
  | 0 => seed
  | i + 1 => bm (dwZ seed i * 1103515245 + 12345)
def dwF (seed : Int) (i : Nat) : Int := dwZ seed (i + 1) % 4294967296 / 512 % 10
def dwI (im : IM) (man : Nat) (seed : Int) : Nat → IM
  | 0 => becM im 1 0
  | i + 1 => uttM (dwI im man seed i) 1 man i (dwF seed i)
def dwN (im : IM) (man : Nat) (seed : Int) : Nat → Int
  | 0 => 0
  | i + 1 => if uttW (dwI im man seed i) 1 man i (dwF seed i) = -1 then dwN im man seed i else dwN im man seed i + 1
theorem dwI_s (im : IM) (man : Nat) (seed : Int) (i : Nat) : dwI im man seed (i + 1) = uttM (dwI im man seed i) 1 man i (dwF seed i) := rfl
theorem dwN_s (im : IM) (man : Nat) (seed : Int) (i : Nat) : dwN im man seed (i + 1) = if uttW (dwI im man seed i) 1 man i (dwF seed i) = -1 then dwN im man seed i else dwN im man seed i + 1 := rfl
theorem dwN_in (im : IM) (man : Nat) (seed : Int) (i : Nat) : 0 ≤ dwN im man seed i ∧ dwN im man seed i ≤ i := by
  induction i with
  | zero => exact ⟨Int.le_refl 0, Int.le_refl 0⟩
  | succ i ih =>
    rw [dwN_s]
    split <;> omega
theorem dwF_in (seed : Int) (i : Nat) : 0 ≤ dwF seed i ∧ dwF seed i < 10 := by
  unfold dwF
  omega
/-- one world, as far as it counts -/
def eqW (a b : IM) (w : Nat) : Prop := (∀ s, 3 ≤ s → s ≤ 7 → a 18 w s = b 18 w s) ∧ (∀ p k s : Nat, (p : Int) < b 18 w 3 → (k = 21 ∧ s < 2 ∨ (k = 22 ∨ k = 23) ∧ s < 10) → a k (5 * w + p) s = b k (5 * w + p) s) ∧ ∀ k j s, (k = 3 ∨ k = 4) → a k j s = b k j s
theorem cntW_c {f g : Nat → Int} (n : Nat) (h : ∀ s, s < n → f s = g s) : cntW f n = cntW g n := by
  induction n with
  | zero => rfl
  | succ n ih =>
    show cntW f n + (if f n = -1 then 0 else 1) = cntW g n + (if g n = -1 then 0 else 1)
    rw [ih (fun s hs => h s (by omega)), h n (by omega)]
theorem takesW_eq {a b : IM} {w man : Nat} (h : eqW a b w) (hm : (man : Int) < b 18 w 3) (word food : Int) : takesW a w man word food = takesW b w man word food := by
  have e22 : cntW (a 22 (5 * w + man)) 10 = cntW (b 22 (5 * w + man)) 10 := cntW_c 10 (fun s hs => h.2.1 man 22 s hm (by omega))
  unfold takesW nmW
  rw [h.1 7 (by omega) (by omega), h.1 4 (by omega) (by omega), h.2.1 man 21 0 hm (by omega), h.2.1 man 21 1 hm (by omega), e22, tellV_congr (fun s => h.2.2 3 _ s (by omega)) (fun s => h.2.2 4 _ s (by omega))]
theorem uttW_eq {a b : IM} {w man : Nat} (h : eqW a b w) (hm : (man : Int) < b 18 w 3) (word food : Int) : uttW a w man word food = uttW b w man word food := by
  have ht := takesW_in b w man word food
  unfold uttW
  rw [takesW_eq h hm, h.2.1 man 22 _ hm (by omega)]
theorem uttM_eq {a b : IM} {w man : Nat} (h : eqW a b w) (hm : (man : Int) < b 18 w 3) (word food : Int) : eqW (uttM a w man word food) (uttM b w man word food) w := by
  refine ⟨fun s h3 h7 => ?_, fun p k s hp hk => ?_, fun k j s hk => ?_⟩
  · rw [utt_o _ _ _ _ _ (by omega), utt_o _ _ _ _ _ (by omega)]; exact h.1 s h3 h7
  · rw [utt_o _ _ _ _ _ (by omega)] at hp
    have e := h.2.1 p k s hp hk
    unfold uttM
    rw [uttW_eq h hm]
    split
    · exact e
    · simp only [up_app]
      (repeat' split) <;> first | rfl | exact e
  · rw [utt_o _ _ _ _ _ (by omega), utt_o _ _ _ _ _ (by omega)]; exact h.2.2 k j s hk
theorem bec_eq {a b : IM} (h : agP a b) (hW : WI b 0) : eqW (becM a 1 0) (becM b 1 0) 1 := by
  have w1 := hW.1
  have e18 : ∀ s, a 18 0 s = b 18 0 s := fun s => h.1 18 0 s (by unfold per; omega)
  unfold becM
  rw [e18]
  refine ⟨fun s h3 h7 => ?_, fun p k s hp hk => ?_, fun k j s hk => ?_⟩
  · rw [bec_18 ⟨h3, h7⟩, bec_18 ⟨h3, h7⟩, e18]
  · rw [bec_18 (by omega)] at hp
    rw [bec_c (by omega) (by omega), bec_c (by omega) (by omega)]
    exact h.1 k _ s (by unfold per; omega)
  · rw [bec_k (by omega), bec_k (by omega)]
    exact h.1 k j s (by unfold per; omega)
theorem dw_eq {a b : IM} (h : agP a b) (hW : WI b 0) {man : Nat} (hm : (man : Int) < b 18 0 3) (seed : Int) (i : Nat) : eqW (dwI a man seed i) (dwI b man seed i) 1 ∧ dwI b man seed i 18 1 3 = b 18 0 3 ∧ dwN a man seed i = dwN b man seed i := by
  induction i with
  | zero => exact ⟨bec_eq h hW, by show becM b 1 0 18 1 3 = _; unfold becM; rw [bec_18 (by omega)], rfl⟩
  | succ i ih =>
    obtain ⟨h1, h2, h3⟩ := ih
    have hm2 : (man : Int) < dwI b man seed i 18 1 3 := by omega
    refine ⟨?_, ?_, ?_⟩
    · rw [dwI_s, dwI_s]; exact uttM_eq h1 hm2 _ _
    · rw [dwI_s, utt_o _ _ _ _ _ (by omega)]; exact h2
    · rw [dwN_s, dwN_s, uttW_eq h1 hm2, h3]
def drawnA (im : IM) (man seed n : Int) : Int := if (0 ≤ man ∧ man < im 18 0 3) ∧ 0 ≤ n ∧ n ≤ 16 then dwN im man.toNat seed n.toNat else -2

theorem uttW_in (im : IM) (w man : Nat) (word food : Int) : -1 ≤ uttW im w man word food ∧ uttW im w man word food ≤ 9 := by
  have := takesW_in im w man word food
  unfold uttW
  split <;> omega

set_option maxHeartbeats 4000000 in
theorem c_X8_stuckByDraw (l : Launch) (G : GS) (im : IM) (bt rt : Nat) (lm : IM) (hbt : bt < 6) (hrt : rt < 6) (hS : SC im) (man n : Nat) (hm : (man : Int) < im 18 0 3) (hn : n ≤ 16) (seed : Int) (hseed : ri seed) : Cn l (XC G) yX8_stuckByDraw Y_X8_stuckByDraw [vR 0 0, vI (man : Int), vI seed, vI (n : Int)] (im, rs bt rt, lm) (pI fun x m' => x = dwN im man seed n ∧ stC lm im m') := by
  refine cn_of (by decide) (okC G) rfl (Nat.le_of_ble_eq_true rfl) ?_
  intro M ad hMl F
  subst hMl
  obtain ⟨hR, hW, hh, htc, hru, hgt, hz, hrd, hsh, him, htp⟩ := hS
  have w1 := hW.1
  have w2 := hW.2.1
  have w3 := hW.2.2.1
  have w4 := hW.2.2.2.1
  have w5 := hW.2.2.2.2.1
  have hWb : WI (becM im 1 0) 1 := bec_WI hW
  have hPb : agP (becM im 1 0) im := by
    refine ⟨fun k i t hp => ?_, bec_k (by omega) _ _⟩
    unfold becM
    rw [becP_app, if_neg (by unfold per at hp; omega), if_neg (by unfold per at hp; omega)]
  refine wp_pad 3 ?_
  show Wp M (XC G) ad Y_X8_stuckByDraw (pI fun x m' => x = dwN im man seed n ∧ stC lm im m') 0 [some (vR 0 0), some (vI (man : Int)), some (vI seed), some (vI (n : Int)), none, none, none] [] (im, rs bt rt, lm)
  refine q_aload_n (t := 1) F dX8_stuckByDraw_0 rfl rfl rfl ?_
  refine g_X8_55 (t := 4) F dX8_stuckByDraw_1 rfl rfl ?_
  refine q_aload_n (t := 5) F dX8_stuckByDraw_4 rfl rfl rfl ?_
  refine g_X8_51 (t := 8) F dX8_stuckByDraw_5 rfl rfl ?_
  refine wp_callV (t := 11) [_] F dX8_stuckByDraw_8 k_X7_become v_X7_become ml_X8_226 rfl rfl rfl rfl (Nat.le_of_ble_eq_true rfl) (by decide) (m_18 (by omega)) (c_X7_become _ G im bt rt lm 1 0 (by omega) (by omega) (by omega) hR w1.1 w1.2) rfl (kV ?_)
  rintro m' rfl
  refine q_iconst (t := 12) F dX8_stuckByDraw_11 rfl ?_
  refine q_istore (t := 14) F dX8_stuckByDraw_12 (by decide) rfl rfl ?_
  refine q_iload_n (t := 15) F dX8_stuckByDraw_14 rfl rfl rfl ?_
  refine q_istore (t := 17) F dX8_stuckByDraw_15 (by decide) rfl rfl ?_
  refine q_iconst (t := 18) F dX8_stuckByDraw_17 rfl ?_
  refine q_istore (t := 20) F dX8_stuckByDraw_18 (by decide) rfl rfl ?_
  have L20 : ∀ (fz : Nat) (i : Nat) (im2 : IM), n - i < fz → i ≤ n → RI im2 → WI im2 1 → im2 18 1 3 = im 18 0 3 → ag lS im2 (dwI im man seed i) → agP im2 im → Wp M (XC G) ad Y_X8_stuckByDraw (pI fun x m' => x = dwN im man seed n ∧ stC lm im m') 20 [some (vR 0 0), some (vI (man : Int)), some (vI seed), some (vI (n : Int)), some (vI (dwN im man seed i)), some (vI (dwZ seed i)), some (vI (i : Int))] [] (im2, rs bt rt, lm) := by
    intro fz
    induction fz with
    | zero => intro i im2 h; exact absurd h (Nat.not_lt_zero _)
    | succ fz ih =>
      have ih20 := ih
      intro i im2 hmeas hi hR2 hW2 hz2 hag2 hP2
      refine q_iload (t := 22) F dX8_stuckByDraw_20 rfl rfl ?_
      refine q_iload_n (t := 23) F dX8_stuckByDraw_22 rfl rfl rfl ?_
      refine q_icmp_ge (t := 26) (u := 69) F dX8_stuckByDraw_23 (by first | exact hR _ _ _ | (constructor <;> omega)) (by first | exact hR _ _ _ | (constructor <;> omega)) (by decide) rfl (fun c23 => ?_) (fun c23 => ?_)
      · refine q_iload (t := 71) F dX8_stuckByDraw_69 rfl rfl ?_
        refine q_iret F dX8_stuckByDraw_71 rfl ?_
        obtain rfl : i = n := by omega
        exact ⟨_, rfl, rfl, im2, bt, rt, hbt, hrt, hR2, hP2, rfl⟩
      · refine q_iload (t := 28) F dX8_stuckByDraw_26 rfl rfl ?_
        refine q_ldcw (t := 31) (x := 1103515245) F dX8_stuckByDraw_28 ki_X8_271 (by decide) rfl ?_
        refine q_imul (t := 32) F dX8_stuckByDraw_31 rfl ?_
        refine q_sipush (t := 35) F dX8_stuckByDraw_32 (by decide) rfl ?_
        refine q_iadd (t := 36) F dX8_stuckByDraw_35 rfl ?_
        refine q_norm ?_
        refine q_istore (t := 38) F dX8_stuckByDraw_36 (by decide) rfl rfl ?_
        refine q_aload_n (t := 39) F dX8_stuckByDraw_38 rfl rfl rfl ?_
        refine g_X8_55 (t := 42) F dX8_stuckByDraw_39 rfl rfl ?_
        refine q_iload_n (t := 43) F dX8_stuckByDraw_42 rfl rfl rfl ?_
        refine q_iload (t := 45) F dX8_stuckByDraw_43 rfl rfl ?_
        refine q_iload (t := 47) F dX8_stuckByDraw_45 rfl rfl ?_
        refine q_bipush (t := 49) F dX8_stuckByDraw_47 (by decide) rfl ?_
        refine q_iushr (t := 50) F dX8_stuckByDraw_49 (by omega) (by omega) rfl ?_
        rw [show (2 : Int) ^ (9 : Int).toNat = 512 from rfl]
        refine q_bipush (t := 52) F dX8_stuckByDraw_50 (by decide) rfl ?_
        refine q_irem (t := 53) F dX8_stuckByDraw_52 (by constructor <;> omega) (by constructor <;> omega) (by omega) (by omega) rfl ?_
        rw [show bm (dwZ seed i * 1103515245 + 12345) % 4294967296 / 512 % 10 = dwF seed i from rfl]
        refine wp_callV (t := 56) [_, _, _] F dX8_stuckByDraw_53 k_X7_utter v_X7_utter ml_X8_150 rfl rfl rfl rfl (Nat.le_of_ble_eq_true rfl) (by decide) (m_18 (by omega)) (c_X7_utter _ G im2 bt rt lm 1 (by omega) hR2 hW2 man (by omega) (i : Int) (dwF seed i) (by omega) (by have := dwF_in seed i; constructor <;> omega)) rfl (kI ?_)
        rintro x53 m' ⟨hx53, im3, hR3, hag3, rfl⟩
        rw [uttW_ag hag2] at hx53
        have hui := uttW_in im2 1 man (i : Int) (dwF seed i)
        rw [uttW_ag hag2] at hui
        refine q_iconst (t := 57) F dX8_stuckByDraw_56 rfl ?_
        refine q_icmp_eq (t := 60) (u := 63) F dX8_stuckByDraw_57 (by constructor <;> omega) (by constructor <;> omega) (by decide) rfl (fun c57 => ?_) (fun c57 => ?_)
        · refine q_iinc (t := 66) F dX8_stuckByDraw_63 rfl (by decide) rfl rfl ?_
          refine q_goto (t := 20) F dX8_stuckByDraw_66 (by decide) ?_
          have hP3 : agP im3 im := (agP_of (hag3.mono (by decide))).trans (⟨fun k j t hp => (utt_o _ _ _ _ _ (by unfold per at hp; omega)), utt_o _ _ _ _ _ (by omega)⟩ : agP (uttM im2 1 man (i : Int) (dwF seed i)) im2) |>.trans hP2
          have hW3 : WI im3 1 := WI_ag hag3 (by decide) (by decide) (by decide) (by decide) (by decide) (by decide) (utt_WI hW2 (by omega))
          have hz3 : im3 18 1 3 = im 18 0 3 := by rw [hag3 18 (by decide), utt_o _ _ _ _ _ (by omega), hz2]
          have hag4 : ag lS im3 (dwI im man seed (i + 1)) := (hag3.mono (by decide)).trans (uttM_ag hag2 _ _ _ _)
          first
            | (rw [show dwN im man seed i = dwN im man seed (i + 1) from by rw [dwN_s, if_pos (by omega)]]
               exact ih20 (i + 1) im3 (by omega) (by omega) hR3 hW3 hz3 hag4 hP3)
            | (rw [show dwN im man seed i + 1 = dwN im man seed (i + 1) from by rw [dwN_s, if_neg (by omega)]]
               exact ih20 (i + 1) im3 (by omega) (by omega) hR3 hW3 hz3 hag4 hP3)
        · refine q_iinc (t := 63) F dX8_stuckByDraw_60 rfl (by decide) rfl rfl ?_
          refine q_iinc (t := 66) F dX8_stuckByDraw_63 rfl (by decide) rfl rfl ?_
          refine q_goto (t := 20) F dX8_stuckByDraw_66 (by decide) ?_
          have hP3 : agP im3 im := (agP_of (hag3.mono (by decide))).trans (⟨fun k j t hp => (utt_o _ _ _ _ _ (by unfold per at hp; omega)), utt_o _ _ _ _ _ (by omega)⟩ : agP (uttM im2 1 man (i : Int) (dwF seed i)) im2) |>.trans hP2
          have hW3 : WI im3 1 := WI_ag hag3 (by decide) (by decide) (by decide) (by decide) (by decide) (by decide) (utt_WI hW2 (by omega))
          have hz3 : im3 18 1 3 = im 18 0 3 := by rw [hag3 18 (by decide), utt_o _ _ _ _ _ (by omega), hz2]
          have hag4 : ag lS im3 (dwI im man seed (i + 1)) := (hag3.mono (by decide)).trans (uttM_ag hag2 _ _ _ _)
          first
            | (rw [show dwN im man seed i = dwN im man seed (i + 1) from by rw [dwN_s, if_pos (by omega)]]
               exact ih20 (i + 1) im3 (by omega) (by omega) hR3 hW3 hz3 hag4 hP3)
            | (rw [show dwN im man seed i + 1 = dwN im man seed (i + 1) from by rw [dwN_s, if_neg (by omega)]]
               exact ih20 (i + 1) im3 (by omega) (by omega) hR3 hW3 hz3 hag4 hP3)
  exact L20 _ 0 _ (Nat.lt_succ_self _) (by omega) (RI_bec hR) hWb (bec_18 (by omega)) (ag_rfl _ _) hPb

set_option maxHeartbeats 4000000 in
theorem c_X8_drawn (l : Launch) (G : GS) (im : IM) (bt rt : Nat) (lm : IM) (hbt : bt < 6) (hrt : rt < 6) (hS : SC im) (man : Int) (seed : Int) (n : Int) (hman : ri man) (hseed : ri seed) (hn : ri n) : Cn l (XC G) yX8_drawn Y_X8_drawn [vR 0 0, vI man, vI seed, vI n] (im, rs bt rt, lm) (pI fun x m' => x = drawnA im man seed n ∧ stC lm im m') := by
  refine cn_of (by decide) (okC G) rfl (Nat.le_of_ble_eq_true rfl) ?_
  intro M ad hMl F
  subst hMl
  obtain ⟨hR, hW, hh, htc, hru, hgt, hz, hrd, hsh, him, htp⟩ := hS
  have w1 := hW.1
  have w2 := hW.2.1
  have w3 := hW.2.2.1
  have w4 := hW.2.2.2.1
  have w5 := hW.2.2.2.2.1
  have hman1 := hman.1
  have hman2 := hman.2
  have hseed1 := hseed.1
  have hseed2 := hseed.2
  have hn1 := hn.1
  have hn2 := hn.2
  refine wp_pad 0 ?_
  show Wp M (XC G) ad Y_X8_drawn (pI fun x m' => x = drawnA im man seed n ∧ stC lm im m') 0 [some (vR 0 0), some (vI man), some (vI seed), some (vI n)] [] (im, rs bt rt, lm)
  refine q_aload_n (t := 1) F dX8_drawn_0 rfl rfl rfl ?_
  refine q_iload_n (t := 2) F dX8_drawn_1 rfl rfl rfl ?_
  refine wp_callV (t := 5) [_] F dX8_drawn_2 k_X8_isOne v_X8_isOne ml_X8_91 rfl rfl rfl rfl (Nat.le_of_ble_eq_true rfl) (by decide) (m_0 (by omega)) (c_X8_isOne _ G _ bt rt lm man hman hR) rfl (kI ?_)
  rintro x2 m' ⟨hx2, rfl⟩
  have hx2 := if01 hx2
  refine q_if_eq (t := 8) (u := 18) F dX8_drawn_5 (by first | exact hR _ _ _ | (constructor <;> omega)) (by decide) rfl (fun c5 => ?_) (fun c5 => ?_)
  · refine q_bipush (t := 20) F dX8_drawn_18 (by decide) rfl ?_
    refine q_iret F dX8_drawn_20 rfl ?_
    refine ⟨_, rfl, ?_, _, bt, rt, hbt, hrt, (by repeat' first | exact hR | refine RI_up ?_ ?_ | assumption | exact hR _ _ _ | (constructor <;> omega)), ?_, rfl⟩
    · unfold drawnA
      (repeat' split) <;> omega
    · exact agP_rfl _
  · refine q_iload_n (t := 9) F dX8_drawn_8 rfl rfl rfl ?_
    refine q_if_lt (t := 12) (u := 18) F dX8_drawn_9 (by first | exact hR _ _ _ | (constructor <;> omega)) (by decide) rfl (fun c9 => ?_) (fun c9 => ?_)
    · refine q_bipush (t := 20) F dX8_drawn_18 (by decide) rfl ?_
      refine q_iret F dX8_drawn_20 rfl ?_
      refine ⟨_, rfl, ?_, _, bt, rt, hbt, hrt, (by repeat' first | exact hR | refine RI_up ?_ ?_ | assumption | exact hR _ _ _ | (constructor <;> omega)), ?_, rfl⟩
      · unfold drawnA
        (repeat' split) <;> omega
      · exact agP_rfl _
    · refine q_iload_n (t := 13) F dX8_drawn_12 rfl rfl rfl ?_
      refine q_bipush (t := 15) F dX8_drawn_13 (by decide) rfl ?_
      refine q_icmp_le (t := 18) (u := 21) F dX8_drawn_15 (by first | exact hR _ _ _ | (constructor <;> omega)) (by first | exact hR _ _ _ | (constructor <;> omega)) (by decide) rfl (fun c15 => ?_) (fun c15 => ?_)
      · obtain ⟨man, rfl⟩ : ∃ k : Nat, man = (k : Int) := ⟨man.toNat, by omega⟩
        obtain ⟨n, rfl⟩ : ∃ k : Nat, n = (k : Int) := ⟨n.toNat, by omega⟩
        refine q_aload_n (t := 22) F dX8_drawn_21 rfl rfl rfl ?_
        refine q_iload_n (t := 23) F dX8_drawn_22 rfl rfl rfl ?_
        refine q_iload_n (t := 24) F dX8_drawn_23 rfl rfl rfl ?_
        refine q_iload_n (t := 25) F dX8_drawn_24 rfl rfl rfl ?_
        refine wp_callV (t := 28) [_, _, _] F dX8_drawn_25 k_X8_stuckByDraw v_X8_stuckByDraw ml_X8_268 rfl rfl rfl rfl (Nat.le_of_ble_eq_true rfl) (by decide) (m_0 (by omega)) (c_X8_stuckByDraw _ G im bt rt lm hbt hrt ⟨hR, hW, hh, htc, hru, hgt, hz, hrd, hsh, him, htp⟩ man n (by omega) (by omega) seed hseed) rfl (kI ?_)
        rintro x25 m' ⟨hx, hst⟩
        refine q_iret F dX8_drawn_28 rfl ?_
        refine ⟨_, rfl, ?_, hst⟩
        unfold drawnA
        simp only [Int.toNat_natCast]
        rw [if_pos (by omega), hx]
      · refine q_bipush (t := 20) F dX8_drawn_18 (by decide) rfl ?_
        refine q_iret F dX8_drawn_20 rfl ?_
        refine ⟨_, rfl, ?_, _, bt, rt, hbt, hrt, (by repeat' first | exact hR | refine RI_up ?_ ?_ | assumption | exact hR _ _ _ | (constructor <;> omega)), ?_, rfl⟩
        · unfold drawnA
          (repeat' split) <;> omega
        · exact agP_rfl _

def cdF (h n : Int) : Nat → Int
  | 0 => 1
  | d + 1 => if 1 < d + 1 ∧ h % ((d + 1 : Nat) : Int) = 0 ∧ n % ((d + 1 : Nat) : Int) = 0 then ((d + 1 : Nat) : Int) else cdF h n d
theorem cdF_s (h n : Int) (d : Nat) : cdF h n (d + 1) = if 1 < d + 1 ∧ h % ((d + 1 : Nat) : Int) = 0 ∧ n % ((d + 1 : Nat) : Int) = 0 then ((d + 1 : Nat) : Int) else cdF h n d := rfl
theorem cdF_in (h n : Int) (d : Nat) : 1 ≤ cdF h n d ∧ (cdF h n d ≤ d ∨ cdF h n d = 1) := by
  induction d with
  | zero => exact ⟨Int.le_refl 1, Or.inr rfl⟩
  | succ d ih =>
    rw [cdF_s]
    split <;> omega
def hitF (im : IM) (man : Nat) (seed : Int) : Nat → Int
  | 0 => 0
  | i + 1 => if 5 ≤ dwN im man (bm (seed + i)) 16 then hitF im man seed i + 1 else hitF im man seed i
theorem hitF_s (im : IM) (man : Nat) (seed : Int) (i : Nat) : hitF im man seed (i + 1) = if 5 ≤ dwN im man (bm (seed + i)) 16 then hitF im man seed i + 1 else hitF im man seed i := rfl
theorem hitF_in (im : IM) (man : Nat) (seed : Int) (i : Nat) : 0 ≤ hitF im man seed i ∧ hitF im man seed i ≤ i := by
  induction i with
  | zero => exact ⟨Int.le_refl 0, Int.le_refl 0⟩
  | succ i ih =>
    rw [hitF_s]
    split <;> omega
def chanceA (im : IM) (man seed n part : Int) : Int := if (0 ≤ man ∧ man < im 18 0 3) ∧ (1 ≤ n ∧ n ≤ 20) ∧ 0 ≤ part ∧ part < 2 then (if part = 0 then hitF im man.toNat seed n.toNat else n) / cdF (hitF im man.toNat seed n.toNat) n n.toNat else -4611686018427387904

set_option maxHeartbeats 4000000 in
theorem c_X8_commonDivisor (l : Launch) (G : GS) (im : IM) (bt rt : Nat) (lm : IM) (h : Int) (n : Nat) (h0 : 0 ≤ h) (h1 : h ≤ 20) (hn : n ≤ 20) : Cn l (XC G) yX8_commonDivisor Y_X8_commonDivisor [vI h, vI (n : Int)] (im, rs bt rt, lm) (pI fun x m' => x = cdF h n n ∧ m' = (im, rs bt rt, lm)) := by
  refine cn_of (by decide) (okC G) rfl (Nat.le_of_ble_eq_true rfl) ?_
  intro M ad hMl F
  subst hMl
  refine wp_pad 1 ?_
  show Wp M (XC G) ad Y_X8_commonDivisor (pI fun x m' => x = cdF h n n ∧ m' = (im, rs bt rt, lm)) 0 [some (vI h), some (vI (n : Int)), none] [] (im, rs bt rt, lm)
  refine q_iload_n (t := 1) F dX8_commonDivisor_0 rfl rfl rfl ?_
  refine q_istore_n (t := 2) F dX8_commonDivisor_1 rfl (by decide) rfl rfl ?_
  have L2 : ∀ (fz : Nat) (d : Nat), d < fz → d ≤ n → cdF h n d = cdF h n n → Wp M (XC G) ad Y_X8_commonDivisor (pI fun x m' => x = cdF h n n ∧ m' = (im, rs bt rt, lm)) 2 [some (vI h), some (vI (n : Int)), some (vI (d : Int))] [] (im, rs bt rt, lm) := by
    intro fz
    induction fz with
    | zero => intro d h; exact absurd h (Nat.not_lt_zero _)
    | succ fz ih =>
      have ih2 := ih
      intro d hmeas hd hcd
      refine q_iload_n (t := 3) F dX8_commonDivisor_2 rfl rfl rfl ?_
      refine q_iconst (t := 4) F dX8_commonDivisor_3 rfl ?_
      refine q_icmp_le (t := 7) (u := 27) F dX8_commonDivisor_4 (by first | exact hR _ _ _ | (constructor <;> omega)) (by first | exact hR _ _ _ | (constructor <;> omega)) (by decide) rfl (fun c4 => ?_) (fun c4 => ?_)
      · refine q_iconst (t := 28) F dX8_commonDivisor_27 rfl ?_
        refine q_iret F dX8_commonDivisor_28 rfl ?_
        refine ⟨_, rfl, ?_, rfl⟩
        rw [← hcd]
        rcases (show d = 0 ∨ d = 1 by omega) with rfl | rfl
        · rfl
        · rw [cdF_s, if_neg (by omega)]; rfl
      · refine q_iload_n (t := 8) F dX8_commonDivisor_7 rfl rfl rfl ?_
        refine q_iload_n (t := 9) F dX8_commonDivisor_8 rfl rfl rfl ?_
        refine q_irem (t := 10) F dX8_commonDivisor_9 (by constructor <;> omega) (by constructor <;> omega) (by omega) (by omega) rfl ?_
        refine q_if_ne (t := 13) (u := 21) F dX8_commonDivisor_10 (by have := Int.emod_lt_of_pos h (show (0 : Int) < d by omega); have := Int.emod_nonneg h (show (d : Int) ≠ 0 by omega); constructor <;> omega) (by decide) rfl (fun c10 => ?_) (fun c10 => ?_)
        · refine q_iinc (t := 24) F dX8_commonDivisor_21 rfl (by decide) rfl rfl ?_
          refine q_goto (t := 2) F dX8_commonDivisor_24 (by decide) ?_
          obtain ⟨e, rfl⟩ : ∃ e, d = e + 1 := ⟨d - 1, by omega⟩
          rw [cdF_s, if_neg (by omega)] at hcd
          rw [show ((e + 1 : Nat) : Int) + -1 = (e : Int) by omega]
          exact ih2 e (by omega) (by omega) hcd
        · refine q_iload_n (t := 14) F dX8_commonDivisor_13 rfl rfl rfl ?_
          refine q_iload_n (t := 15) F dX8_commonDivisor_14 rfl rfl rfl ?_
          refine q_irem (t := 16) F dX8_commonDivisor_15 (by constructor <;> omega) (by constructor <;> omega) (by omega) (by omega) rfl ?_
          refine q_if_ne (t := 19) (u := 21) F dX8_commonDivisor_16 (by have := Int.emod_lt_of_pos (n : Int) (show (0 : Int) < d by omega); have := Int.emod_nonneg (n : Int) (show (d : Int) ≠ 0 by omega); constructor <;> omega) (by decide) rfl (fun c16 => ?_) (fun c16 => ?_)
          · refine q_iinc (t := 24) F dX8_commonDivisor_21 rfl (by decide) rfl rfl ?_
            refine q_goto (t := 2) F dX8_commonDivisor_24 (by decide) ?_
            obtain ⟨e, rfl⟩ : ∃ e, d = e + 1 := ⟨d - 1, by omega⟩
            rw [cdF_s, if_neg (by omega)] at hcd
            rw [show ((e + 1 : Nat) : Int) + -1 = (e : Int) by omega]
            exact ih2 e (by omega) (by omega) hcd
          · refine q_iload_n (t := 20) F dX8_commonDivisor_19 rfl rfl rfl ?_
            refine q_iret F dX8_commonDivisor_20 rfl ?_
            obtain ⟨e, rfl⟩ : ∃ e, d = e + 1 := ⟨d - 1, by omega⟩
            rw [cdF_s, if_pos ⟨by omega, by assumption, by assumption⟩] at hcd
            exact ⟨_, rfl, hcd, rfl⟩
  exact L2 _ n (Nat.lt_succ_self _) (Nat.le_refl _) rfl

theorem quo_ri {a b : Int} (h0 : 0 ≤ a) (h1 : a ≤ 20) (hb : 1 ≤ b) : ri (a / b) := by
  have h2 : 0 ≤ a / b := Int.ediv_nonneg h0 (by omega)
  have h3 : a / b ≤ a := Int.ediv_le_self b h0
  constructor <;> omega

set_option maxHeartbeats 4000000 in
theorem c_X8_chance (l : Launch) (G : GS) (im : IM) (bt rt : Nat) (lm : IM) (hbt : bt < 6) (hrt : rt < 6) (hS : SC im) (man : Int) (seed : Int) (n : Int) (part : Int) (hman : ri man) (hseed : ri seed) (hn : ri n) (hpart : ri part) : Cn l (XC G) yX8_chance Y_X8_chance [vR 0 0, vI man, vI seed, vI n, vI part] (im, rs bt rt, lm) (pL fun x m' => x = chanceA im man seed n part ∧ stC lm im m') := by
  refine cn_of (by decide) (okC G) rfl (Nat.le_of_ble_eq_true rfl) ?_
  intro M ad hMl F
  subst hMl
  obtain ⟨hR, hW, hh, htc, hru, hgt, hz, hrd, hsh, him, htp⟩ := hS
  have w1 := hW.1
  have w2 := hW.2.1
  have w3 := hW.2.2.1
  have w4 := hW.2.2.2.1
  have w5 := hW.2.2.2.2.1
  have hman1 := hman.1
  have hman2 := hman.2
  have hseed1 := hseed.1
  have hseed2 := hseed.2
  have hn1 := hn.1
  have hn2 := hn.2
  have hpart1 := hpart.1
  have hpart2 := hpart.2
  refine wp_pad 2 ?_
  show Wp M (XC G) ad Y_X8_chance (pL fun x m' => x = chanceA im man seed n part ∧ stC lm im m') 0 [some (vR 0 0), some (vI man), some (vI seed), some (vI n), some (vI part), none, none] [] (im, rs bt rt, lm)
  refine q_aload_n (t := 1) F dX8_chance_0 rfl rfl rfl ?_
  refine q_iload_n (t := 2) F dX8_chance_1 rfl rfl rfl ?_
  refine wp_callV (t := 5) [_] F dX8_chance_2 k_X8_isOne v_X8_isOne ml_X8_91 rfl rfl rfl rfl (Nat.le_of_ble_eq_true rfl) (by decide) (m_0 (by omega)) (c_X8_isOne _ G _ bt rt lm man hman hR) rfl (kI ?_)
  rintro x2 m' ⟨hx2, rfl⟩
  have hx2 := if01 hx2
  refine q_if_eq (t := 8) (u := 28) F dX8_chance_5 (by first | exact hR _ _ _ | (constructor <;> omega)) (by decide) rfl (fun c5 => ?_) (fun c5 => ?_)
  · refine q_ldc2 (t := 31) (x := -4611686018427387904) F dX8_chance_28 kl_X8_272 (by decide) rfl ?_
    refine q_lret F dX8_chance_31 rfl ?_
    refine ⟨_, rfl, ?_, _, bt, rt, hbt, hrt, hR, agP_rfl _, rfl⟩
    unfold chanceA
    rw [if_neg (by omega)]
  · refine q_iload_n (t := 9) F dX8_chance_8 rfl rfl rfl ?_
    refine q_iconst (t := 10) F dX8_chance_9 rfl ?_
    refine q_icmp_lt (t := 13) (u := 28) F dX8_chance_10 (by first | exact hR _ _ _ | (constructor <;> omega)) (by first | exact hR _ _ _ | (constructor <;> omega)) (by decide) rfl (fun c10 => ?_) (fun c10 => ?_)
    · refine q_ldc2 (t := 31) (x := -4611686018427387904) F dX8_chance_28 kl_X8_272 (by decide) rfl ?_
      refine q_lret F dX8_chance_31 rfl ?_
      refine ⟨_, rfl, ?_, _, bt, rt, hbt, hrt, hR, agP_rfl _, rfl⟩
      unfold chanceA
      rw [if_neg (by omega)]
    · refine q_iload_n (t := 14) F dX8_chance_13 rfl rfl rfl ?_
      refine q_bipush (t := 16) F dX8_chance_14 (by decide) rfl ?_
      refine q_icmp_gt (t := 19) (u := 28) F dX8_chance_16 (by first | exact hR _ _ _ | (constructor <;> omega)) (by first | exact hR _ _ _ | (constructor <;> omega)) (by decide) rfl (fun c16 => ?_) (fun c16 => ?_)
      · refine q_ldc2 (t := 31) (x := -4611686018427387904) F dX8_chance_28 kl_X8_272 (by decide) rfl ?_
        refine q_lret F dX8_chance_31 rfl ?_
        refine ⟨_, rfl, ?_, _, bt, rt, hbt, hrt, hR, agP_rfl _, rfl⟩
        unfold chanceA
        rw [if_neg (by omega)]
      · refine q_iload (t := 21) F dX8_chance_19 rfl rfl ?_
        refine q_iconst (t := 22) F dX8_chance_21 rfl ?_
        refine wp_callS (t := 25) [_, _] F dX8_chance_22 k_X8_within st_X8_within ml_X8_95 rfl rfl (Nat.le_of_ble_eq_true rfl) (by decide) (c_X8_within _ G _ bt rt lm part 2 hpart (by constructor <;> omega)) rfl (kI ?_)
        rintro x22 m' ⟨hx22, rfl⟩
        have hx22 := if01 hx22
        refine q_if_ne (t := 28) (u := 32) F dX8_chance_25 (by first | exact hR _ _ _ | (constructor <;> omega)) (by decide) rfl (fun c25 => ?_) (fun c25 => ?_)
        · obtain ⟨man, rfl⟩ : ∃ k : Nat, man = (k : Int) := ⟨man.toNat, by omega⟩
          obtain ⟨n, rfl⟩ : ∃ k : Nat, n = (k : Int) := ⟨n.toNat, by omega⟩
          refine q_iconst (t := 33) F dX8_chance_32 rfl ?_
          refine q_istore (t := 35) F dX8_chance_33 (by decide) rfl rfl ?_
          refine q_iconst (t := 36) F dX8_chance_35 rfl ?_
          refine q_istore (t := 38) F dX8_chance_36 (by decide) rfl rfl ?_
          have L38 : ∀ (fz : Nat) (i : Nat) (im2 : IM) (bt2 rt2 : Nat), n - i < fz → i ≤ n → bt2 < 6 → rt2 < 6 → SC im2 → agP im2 im → Wp M (XC G) ad Y_X8_chance (pL fun x m' => x = chanceA im man seed n part ∧ stC lm im m') 38 [some (vR 0 0), some (vI (man : Int)), some (vI seed), some (vI (n : Int)), some (vI part), some (vI (hitF im man seed i)), some (vI (i : Int))] [] (im2, rs bt2 rt2, lm) := by
            intro fz
            induction fz with
            | zero => intro i im2 bt2 rt2 h; exact absurd h (Nat.not_lt_zero _)
            | succ fz ih =>
              have ih38 := ih
              intro i im2 bt2 rt2 hmeas hi hbt2 hrt2 hS2 hP2
              have e3 : im2 18 0 3 = im 18 0 3 := hP2.1 18 0 3 (by unfold per; omega)
              have hhi := hitF_in im man seed i
              refine q_iload (t := 40) F dX8_chance_38 rfl rfl ?_
              refine q_iload_n (t := 41) F dX8_chance_40 rfl rfl rfl ?_
              refine q_icmp_ge (t := 44) (u := 68) F dX8_chance_41 (by first | exact hR _ _ _ | (constructor <;> omega)) (by first | exact hR _ _ _ | (constructor <;> omega)) (by decide) rfl (fun c41 => ?_) (fun c41 => ?_)
              · have ein : i = n := by omega
                rw [ein]
                rw [ein] at hhi
                refine q_iload (t := 70) F dX8_chance_68 rfl rfl ?_
                refine q_iload_n (t := 71) F dX8_chance_70 rfl rfl rfl ?_
                refine wp_callS (t := 74) [_, _] F dX8_chance_71 k_X8_commonDivisor st_X8_commonDivisor ml_X8_274 rfl rfl (Nat.le_of_ble_eq_true rfl) (by decide) (c_X8_commonDivisor _ G im2 bt2 rt2 lm (hitF im man seed n) n hhi.1 (by omega) (by omega)) rfl (kI ?_)
                rintro x71 m' ⟨rfl, rfl⟩
                have hcd := cdF_in (hitF im man seed n) n n
                refine q_istore (t := 76) F dX8_chance_74 (by decide) rfl rfl ?_
                refine q_iload (t := 78) F dX8_chance_76 rfl rfl ?_
                refine q_if_ne (t := 81) (u := 86) F dX8_chance_78 (by first | exact hR _ _ _ | (constructor <;> omega)) (by decide) rfl (fun c78 => ?_) (fun c78 => ?_)
                · refine q_iload_n (t := 87) F dX8_chance_86 rfl rfl rfl ?_
                  refine q_iload (t := 89) F dX8_chance_87 rfl rfl ?_
                  refine q_idiv (t := 90) F dX8_chance_89 (by constructor <;> omega) (by constructor <;> omega) (by omega) (by omega) rfl ?_
                  refine q_i2l (t := 91) F dX8_chance_90 (by exact quo_ri (by omega) (by omega) (by omega)) rfl ?_
                  refine q_lret F dX8_chance_91 rfl ?_
                  refine ⟨_, rfl, ?_, im2, bt2, rt2, hbt2, hrt2, hS2.1, hP2, rfl⟩
                  unfold chanceA
                  simp only [Int.toNat_natCast]
                  first
                    | (rw [if_pos (by omega), if_pos (by omega)])
                    | (rw [if_pos (by omega), if_neg (by omega)])
                · refine q_iload (t := 83) F dX8_chance_81 rfl rfl ?_
                  refine q_goto (t := 87) F dX8_chance_83 (by decide) ?_
                  refine q_iload (t := 89) F dX8_chance_87 rfl rfl ?_
                  refine q_idiv (t := 90) F dX8_chance_89 (by constructor <;> omega) (by constructor <;> omega) (by omega) (by omega) rfl ?_
                  refine q_i2l (t := 91) F dX8_chance_90 (by exact quo_ri (by omega) (by omega) (by omega)) rfl ?_
                  refine q_lret F dX8_chance_91 rfl ?_
                  refine ⟨_, rfl, ?_, im2, bt2, rt2, hbt2, hrt2, hS2.1, hP2, rfl⟩
                  unfold chanceA
                  simp only [Int.toNat_natCast]
                  first
                    | (rw [if_pos (by omega), if_pos (by omega)])
                    | (rw [if_pos (by omega), if_neg (by omega)])
              · refine q_aload_n (t := 45) F dX8_chance_44 rfl rfl rfl ?_
                refine q_iload_n (t := 46) F dX8_chance_45 rfl rfl rfl ?_
                refine q_iload_n (t := 47) F dX8_chance_46 rfl rfl rfl ?_
                refine q_iload (t := 49) F dX8_chance_47 rfl rfl ?_
                refine q_iadd (t := 50) F dX8_chance_49 rfl ?_
                refine q_norm ?_
                refine q_bipush (t := 52) F dX8_chance_50 (by decide) rfl ?_
                refine wp_callV (t := 55) [_, _, _] F dX8_chance_52 k_X8_stuckByDraw v_X8_stuckByDraw ml_X8_268 rfl rfl rfl rfl (Nat.le_of_ble_eq_true rfl) (by decide) (m_0 (by omega)) (c_X8_stuckByDraw _ G im2 bt2 rt2 lm hbt2 hrt2 hS2 man 16 (by rw [e3]; omega) (by omega) (bm (seed + i)) (ri_b _)) rfl (kI ?_)
                rintro x52 m' ⟨hx, hst⟩
                obtain ⟨im3, bt3, rt3, hbt3, hrt3, hS3, hP3, rfl⟩ := SC_st hst hS2
                rw [(dw_eq hP2 hW (by omega) _ _).2.2] at hx
                have hdi := dwN_in im man (bm (seed + i)) 16
                refine q_iconst (t := 56) F dX8_chance_55 rfl ?_
                refine q_icmp_lt (t := 59) (u := 62) F dX8_chance_56 (by constructor <;> omega) (by constructor <;> omega) (by decide) rfl (fun c56 => ?_) (fun c56 => ?_)
                · refine q_iinc (t := 65) F dX8_chance_62 rfl (by decide) rfl rfl ?_
                  refine q_goto (t := 38) F dX8_chance_65 (by decide) ?_
                  first
                    | (rw [show hitF im man seed i + 1 = hitF im man seed (i + 1) from by rw [hitF_s, if_pos (by omega)]]
                       exact ih38 (i + 1) im3 bt3 rt3 (by omega) (by omega) hbt3 hrt3 hS3 (hP3.trans hP2))
                    | (rw [show hitF im man seed i = hitF im man seed (i + 1) from by rw [hitF_s, if_neg (by omega)]]
                       exact ih38 (i + 1) im3 bt3 rt3 (by omega) (by omega) hbt3 hrt3 hS3 (hP3.trans hP2))
                · refine q_iinc (t := 62) F dX8_chance_59 rfl (by decide) rfl rfl ?_
                  refine q_iinc (t := 65) F dX8_chance_62 rfl (by decide) rfl rfl ?_
                  refine q_goto (t := 38) F dX8_chance_65 (by decide) ?_
                  first
                    | (rw [show hitF im man seed i + 1 = hitF im man seed (i + 1) from by rw [hitF_s, if_pos (by omega)]]
                       exact ih38 (i + 1) im3 bt3 rt3 (by omega) (by omega) hbt3 hrt3 hS3 (hP3.trans hP2))
                    | (rw [show hitF im man seed i = hitF im man seed (i + 1) from by rw [hitF_s, if_neg (by omega)]]
                       exact ih38 (i + 1) im3 bt3 rt3 (by omega) (by omega) hbt3 hrt3 hS3 (hP3.trans hP2))
          exact L38 _ 0 im bt rt (Nat.lt_succ_self _) (by omega) hbt hrt ⟨hR, hW, hh, htc, hru, hgt, hz, hrd, hsh, him, htp⟩ (agP_rfl _)
        · refine q_ldc2 (t := 31) (x := -4611686018427387904) F dX8_chance_28 kl_X8_272 (by decide) rfl ?_
          refine q_lret F dX8_chance_31 rfl ?_
          refine ⟨_, rfl, ?_, _, bt, rt, hbt, hrt, hR, agP_rfl _, rfl⟩
          unfold chanceA
          rw [if_neg (by omega)]
end
