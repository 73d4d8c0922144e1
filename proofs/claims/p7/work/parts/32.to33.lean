section
/-! hours that were told: only that all is well -/
theorem scr_o (im : IM) (a b : Int) (g : Nat → Nat → Int) {k i s : Nat} (h5 : k ≠ 5) (h2 : ¬ (k = 17 ∧ i = 0 ∧ s = 2)) (h3 : ¬ (k = 17 ∧ i = 0 ∧ s = 5)) : scr im a b g k i s = im k i s := by
  rw [scr_app, if_neg h5, if_neg h2, if_neg h3]
/-- what Bite looks at is in order -/
def BO (im : IM) (bt : Nat) : Prop := bt < 6 ∧ RI im ∧ goodT im bt ∧ (0 ≤ im 16 0 2 ∧ im 16 0 2 < 6) ∧ (0 ≤ im 17 0 3 ∧ im 17 0 3 < 10) ∧ (0 ≤ im 16 0 3 ∧ im 16 0 3 ≤ 3000) ∧ 0 ≤ im 16 0 4 ∧ im 16 0 4 ≤ 3000
theorem BO_scr {im : IM} {bt : Nat} {a b : Int} {g : Nat → Nat → Int} (h : BO im bt) (ha : ri a) (hb : ri b) (hg : ∀ i s, ri (g i s)) : BO (scr im a b g) bt :=
  ⟨h.1, RI_scr h.2.1 ha hb hg, goodT_scr h.2.2.1, h.2.2.2⟩

set_option maxHeartbeats 4000000 in
theorem c_X8_wordsAsTold (l : Launch) (G : GS) (im : IM) (bt rt : Nat) (lm : IM) (hB : BO im bt) (h : Int) (hh : ri h) : Cn l (XC G) yX8_wordsAsTold Y_X8_wordsAsTold [vR 0 0, vI h] (im, rs bt rt, lm) (pI fun _ m' => ∃ im', RI im' ∧ ag [5, 17] im' im ∧ m' = (im', rs bt rt, lm)) := by
  refine cn_of (by decide) (okC G) rfl (Nat.le_of_ble_eq_true rfl) ?_
  intro M ad hMl F
  subst hMl
  have hh1 := hh.1
  have hh2 := hh.2
  refine wp_pad 2 ?_
  show Wp M (XC G) ad Y_X8_wordsAsTold (pI fun _ m' => ∃ im', RI im' ∧ ag [5, 17] im' im ∧ m' = (im', rs bt rt, lm)) 0 [some (vR 0 0), some (vI h), none, none] [] (im, rs bt rt, lm)
  refine q_iconst (t := 1) F dX8_wordsAsTold_0 rfl ?_
  refine q_istore_n (t := 2) F dX8_wordsAsTold_1 rfl (by decide) rfl rfl ?_
  refine q_iconst (t := 3) F dX8_wordsAsTold_2 rfl ?_
  refine q_istore_n (t := 4) F dX8_wordsAsTold_3 rfl (by decide) rfl rfl ?_
  have L4 : ∀ (fz : Nat) (w b : Nat) (im2 : IM), 16 - w < fz → w ≤ 16 → BO im2 bt → ag [5, 17] im2 im → Wp M (XC G) ad Y_X8_wordsAsTold (pI fun _ m' => ∃ im', RI im' ∧ ag [5, 17] im' im ∧ m' = (im', rs bt rt, lm)) 4 [some (vR 0 0), some (vI h), some (vI (b : Int)), some (vI (w : Int))] [] (im2, rs bt rt, lm) := by
    intro fz
    induction fz with
    | zero => intro w b im2 h; exact absurd h (Nat.not_lt_zero _)
    | succ fz ih =>
      have ih4 := ih
      intro w b im2 hmeas hw hB2 hag2
      refine q_iload_n (t := 5) F dX8_wordsAsTold_4 rfl rfl rfl ?_
      refine q_bipush (t := 7) F dX8_wordsAsTold_5 (by decide) rfl ?_
      refine q_icmp_ge (t := 10) (u := 45) F dX8_wordsAsTold_7 (by constructor <;> omega) (by constructor <;> omega) (by decide) rfl (fun c7 => ?_) (fun c7 => ?_)
      · refine q_iload_n (t := 46) F dX8_wordsAsTold_45 rfl rfl rfl ?_
        refine q_iret F dX8_wordsAsTold_46 rfl ?_
        exact ⟨_, rfl, im2, hB2.2.1, hag2, rfl⟩
      · refine q_aload_n (t := 11) F dX8_wordsAsTold_10 rfl rfl rfl ?_
        refine g_X8_42 (t := 14) F dX8_wordsAsTold_11 rfl rfl ?_
        refine g_X8_199 (t := 17) F dX8_wordsAsTold_14 rfl rfl ?_
        refine q_iconst (t := 18) F dX8_wordsAsTold_17 rfl ?_
        refine q_iload_n (t := 19) F dX8_wordsAsTold_18 rfl rfl rfl ?_
        refine stN_17 (t := 20) (j := 0) F dX8_wordsAsTold_19 (by omega) rfl ?_
        refine q_aload_n (t := 21) F dX8_wordsAsTold_20 rfl rfl rfl ?_
        refine g_X8_42 (t := 24) F dX8_wordsAsTold_21 rfl rfl ?_
        refine q_bipush (t := 26) F dX8_wordsAsTold_24 (by decide) rfl ?_
        have hB3 : BO (up im2 17 0 0 w) bt := ⟨hB2.1, RI_up hB2.2.1 (by constructor <;> omega), goodT_congr (fun s => rfl) (fun s => rfl) hB2.2.2.1, hB2.2.2.2⟩
        refine wp_callV (t := 29) [_] F dX8_wordsAsTold_26 k_X0_goesOffIn v_X0_goesOffIn ml_X8_181 rfl rfl rfl rfl (Nat.le_of_ble_eq_true rfl) (by decide) (m_16 (by omega)) (c_X0_goesOffIn _ G (up im2 17 0 0 w) bt rt lm 60 (by omega) hB2.1 hB3.2.1 hB3.2.2.1 hB3.2.2.2.1.1 hB3.2.2.2.1.2 hB3.2.2.2.2.1.1 hB3.2.2.2.2.1.2 (fun _ => hB3.2.2.2.2.2.1) hB3.2.2.2.2.2.2.1 hB3.2.2.2.2.2.2.2) rfl (kI ?_)
        rintro x26 m' ⟨hx, xa, xb, xg, hxa, hxb, hxg, rfl⟩
        have hgi := goesB_in (up im2 17 0 0 w) bt 60
        have hB4 := BO_scr hB3 hxa hxb hxg
        have hag4 : ag [5, 17] (scr (up im2 17 0 0 w) xa xb xg) im := (scr_ag _ _ _ _).trans (ag_up hag2 (by decide))
        refine q_iload_n (t := 30) F dX8_wordsAsTold_29 rfl rfl rfl ?_
        refine q_icmp_ne (t := 33) (u := 39) F dX8_wordsAsTold_30 (by constructor <;> omega) (by constructor <;> omega) (by decide) rfl (fun c30 => ?_) (fun c30 => ?_)
        · refine q_iinc (t := 42) F dX8_wordsAsTold_39 rfl (by decide) rfl rfl ?_
          refine q_goto (t := 4) F dX8_wordsAsTold_42 (by decide) ?_
          exact ih4 (w + 1) _ _ (by omega) (by omega) hB4 hag4
        · refine q_iload_n (t := 34) F dX8_wordsAsTold_33 rfl rfl rfl ?_
          refine q_iconst (t := 35) F dX8_wordsAsTold_34 rfl ?_
          refine q_iload_n (t := 36) F dX8_wordsAsTold_35 rfl rfl rfl ?_
          refine q_ishl (t := 37) F dX8_wordsAsTold_36 (by omega) (by omega) rfl ?_
          rw [pow_cast]
          refine q_ior (t := 38) F dX8_wordsAsTold_37 rfl ?_
          refine q_istore_n (t := 39) F dX8_wordsAsTold_38 rfl (by decide) rfl rfl ?_
          refine q_iinc (t := 42) F dX8_wordsAsTold_39 rfl (by decide) rfl rfl ?_
          refine q_goto (t := 4) F dX8_wordsAsTold_42 (by decide) ?_
          exact ih4 (w + 1) _ _ (by omega) (by omega) hB4 hag4
  exact L4 _ 0 0 im (Nat.lt_succ_self _) (by omega) hB (ag_rfl _ _)

set_option maxHeartbeats 4000000 in
theorem c_X8_agesAsTold (l : Launch) (G : GS) (im : IM) (bt rt : Nat) (lm : IM) (hB : BO im bt) (h l0 : Int) (hh : ri h) (hl : l0 = 0 ∨ l0 = 1) : Cn l (XC G) yX8_agesAsTold Y_X8_agesAsTold [vR 0 0, vI h, vI l0] (im, rs bt rt, lm) (pI fun _ m' => ∃ im', RI im' ∧ ag [5, 16, 17] im' im ∧ m' = (im', rs bt rt, lm)) := by
  refine cn_of (by decide) (okC G) rfl (Nat.le_of_ble_eq_true rfl) ?_
  intro M ad hMl F
  subst hMl
  have hh1 := hh.1
  have hh2 := hh.2
  refine wp_pad 2 ?_
  show Wp M (XC G) ad Y_X8_agesAsTold (pI fun _ m' => ∃ im', RI im' ∧ ag [5, 16, 17] im' im ∧ m' = (im', rs bt rt, lm)) 0 [some (vR 0 0), some (vI h), some (vI l0), none, none] [] (im, rs bt rt, lm)
  refine q_iconst (t := 1) F dX8_agesAsTold_0 rfl ?_
  refine q_istore_n (t := 2) F dX8_agesAsTold_1 rfl (by decide) rfl rfl ?_
  refine q_iconst (t := 3) F dX8_agesAsTold_2 rfl ?_
  refine q_istore (t := 5) F dX8_agesAsTold_3 (by decide) rfl rfl ?_
  have L5 : ∀ (fz : Nat) (a : Nat) (b : Int) (im2 : IM), 61 - a < fz → a ≤ 61 → BO im2 bt → ag [5, 16, 17] im2 im → Wp M (XC G) ad Y_X8_agesAsTold (pI fun _ m' => ∃ im', RI im' ∧ ag [5, 16, 17] im' im ∧ m' = (im', rs bt rt, lm)) 5 [some (vR 0 0), some (vI h), some (vI l0), some (vI b), some (vI (a : Int))] [] (im2, rs bt rt, lm) := by
    intro fz
    induction fz with
    | zero => intro a b im2 h; exact absurd h (Nat.not_lt_zero _)
    | succ fz ih =>
      have ih5 := ih
      intro a b im2 hmeas ha hB2 hag2
      refine q_iload (t := 7) F dX8_agesAsTold_5 rfl rfl ?_
      refine q_bipush (t := 9) F dX8_agesAsTold_7 (by decide) rfl ?_
      refine q_icmp_ge (t := 12) (u := 53) F dX8_agesAsTold_9 (by constructor <;> omega) (by constructor <;> omega) (by decide) rfl (fun c9 => ?_) (fun c9 => ?_)
      · refine q_iload_n (t := 54) F dX8_agesAsTold_53 rfl rfl rfl ?_
        refine q_if_eq (t := 57) (u := 61) F dX8_agesAsTold_54 (by first | exact hR _ _ _ | (constructor <;> omega)) (by decide) rfl (fun c54 => ?_) (fun c54 => ?_)
        · refine q_iload_n (t := 62) F dX8_agesAsTold_61 rfl rfl rfl ?_
          refine q_iret F dX8_agesAsTold_62 rfl ?_
          exact ⟨_, rfl, im2, hB2.2.1, hag2, rfl⟩
        · refine q_iconst (t := 58) F dX8_agesAsTold_57 rfl ?_
          refine q_goto (t := 62) F dX8_agesAsTold_58 (by decide) ?_
          refine q_iret F dX8_agesAsTold_62 rfl ?_
          exact ⟨_, rfl, im2, hB2.2.1, hag2, rfl⟩
      · refine q_aload_n (t := 13) F dX8_agesAsTold_12 rfl rfl rfl ?_
        refine g_X8_42 (t := 16) F dX8_agesAsTold_13 rfl rfl ?_
        refine q_iload (t := 18) F dX8_agesAsTold_16 rfl rfl ?_
        refine p_X8_202 (t := 21) F dX8_agesAsTold_18 rfl rfl ?_
        refine q_aload_n (t := 22) F dX8_agesAsTold_21 rfl rfl rfl ?_
        refine g_X8_42 (t := 25) F dX8_agesAsTold_22 rfl rfl ?_
        refine q_bipush (t := 27) F dX8_agesAsTold_25 (by decide) rfl ?_
        have hB3 : BO (up im2 16 0 3 a) bt := by
          refine ⟨hB2.1, RI_up hB2.2.1 (by constructor <;> omega), goodT_congr (fun s => rfl) (fun s => rfl) hB2.2.2.1, hB2.2.2.2.1, hB2.2.2.2.2.1, ?_, hB2.2.2.2.2.2.2⟩
          rw [up_app, if_pos ⟨rfl, rfl, rfl⟩]
          omega
        refine wp_callV (t := 30) [_] F dX8_agesAsTold_27 k_X0_goesOffIn v_X0_goesOffIn ml_X8_181 rfl rfl rfl rfl (Nat.le_of_ble_eq_true rfl) (by decide) (m_16 (by omega)) (c_X0_goesOffIn _ G (up im2 16 0 3 a) bt rt lm 60 (by omega) hB2.1 hB3.2.1 hB3.2.2.1 hB3.2.2.2.1.1 hB3.2.2.2.1.2 hB3.2.2.2.2.1.1 hB3.2.2.2.2.1.2 (fun _ => hB3.2.2.2.2.2.1) hB3.2.2.2.2.2.2.1 hB3.2.2.2.2.2.2.2) rfl (kI ?_)
        rintro x27 m' ⟨hx, xa, xb, xg, hxa, hxb, hxg, rfl⟩
        have hgi := goesB_in (up im2 16 0 3 a) bt 60
        have hB4 := BO_scr hB3 hxa hxb hxg
        have hag4 : ag [5, 16, 17] (scr (up im2 16 0 3 a) xa xb xg) im := ((scr_ag _ _ _ _).mono (by decide)).trans (ag_up hag2 (by decide))
        refine q_iload_n (t := 31) F dX8_agesAsTold_30 rfl rfl rfl ?_
        refine q_icmp_eq (t := 34) (u := 37) F dX8_agesAsTold_31 (by constructor <;> omega) (by constructor <;> omega) (by decide) rfl (fun c31 => ?_) (fun c31 => ?_)
        · refine q_iload_n (t := 38) F dX8_agesAsTold_37 rfl rfl rfl ?_
          refine q_if_eq (t := 41) (u := 44) F dX8_agesAsTold_38 (by first | exact hR _ _ _ | (constructor <;> omega)) (by decide) rfl (fun c38 => ?_) (fun c38 => ?_)
          · refine q_iinc (t := 47) F dX8_agesAsTold_44 rfl (by decide) rfl rfl ?_
            refine q_iinc (t := 50) F dX8_agesAsTold_47 rfl (by decide) rfl rfl ?_
            refine q_goto (t := 5) F dX8_agesAsTold_50 (by decide) ?_
            exact ih5 (a + 1) _ _ (by omega) (by omega) hB4 hag4
          · refine q_iload (t := 43) F dX8_agesAsTold_41 rfl rfl ?_
            refine q_iret F dX8_agesAsTold_43 rfl ?_
            exact ⟨_, rfl, _, hB4.2.1, hag4, rfl⟩
        · refine q_goto (t := 47) F dX8_agesAsTold_34 (by decide) ?_
          refine q_iinc (t := 50) F dX8_agesAsTold_47 rfl (by decide) rfl rfl ?_
          refine q_goto (t := 5) F dX8_agesAsTold_50 (by decide) ?_
          exact ih5 (a + 1) _ _ (by omega) (by omega) hB4 hag4
  exact L5 _ 0 0 im (Nat.lt_succ_self _) (by omega) hB (ag_rfl _ _)

def BZ (im : IM) (bt : Nat) : Prop := bt < 6 ∧ RI im ∧ goodT im bt ∧ (0 ≤ im 16 0 2 ∧ im 16 0 2 < 6) ∧ (0 ≤ im 17 0 3 ∧ im 17 0 3 < 10) ∧ (im 17 0 0 ≠ -1 → 0 ≤ im 16 0 3 ∧ im 16 0 3 ≤ 3000) ∧ 0 ≤ im 16 0 4 ∧ im 16 0 4 ≤ 3000
theorem BZ_kind {im : IM} {bt : Nat} {x : Int} (h : BZ im bt) (hx : 0 ≤ x ∧ x < 6) : BZ (up im 16 0 2 x) bt :=
  ⟨h.1, RI_up h.2.1 (by constructor <;> omega), goodT_congr (fun s => rfl) (fun s => rfl) h.2.2.1, by rw [up_app, if_pos ⟨rfl, rfl, rfl⟩]; exact hx, h.2.2.2.2⟩
theorem BZ_num {im : IM} {bt : Nat} {x : Int} (h : BZ im bt) (hx : 0 ≤ x ∧ x < 10) : BZ (up im 17 0 3 x) bt :=
  ⟨h.1, RI_up h.2.1 (by constructor <;> omega), goodT_congr (fun s => rfl) (fun s => rfl) h.2.2.1, h.2.2.2.1, by rw [up_app, if_pos ⟨rfl, rfl, rfl⟩]; exact hx, h.2.2.2.2.2⟩
theorem BZ_text {im : IM} {bt q : Nat} (h : BZ im bt) (hq : q < 6) (hT : goodT im q) : BZ im q := ⟨hq, h.2.1, hT, h.2.2.2⟩
theorem c_goZ (l : Launch) (G : GS) (im : IM) (bt rt : Nat) (lm : IM) (h : BZ im bt) : Cn l (XC G) yX0_goesOffIn Y_X0_goesOffIn [vR 16 0, vI 60] (im, rs bt rt, lm) (pI fun x m' => (-1 ≤ x ∧ x < 60) ∧ ∃ im', RI im' ∧ ag [5, 17] im' im ∧ m' = (im', rs bt rt, lm)) := by
  refine Cn.mono (c_X0_goesOffIn l G im bt rt lm 60 (by omega) h.1 h.2.1 h.2.2.1 h.2.2.2.1.1 h.2.2.2.1.2 h.2.2.2.2.1.1 h.2.2.2.2.1.2 h.2.2.2.2.2.1 h.2.2.2.2.2.2.1 h.2.2.2.2.2.2.2) ?_
  rintro r m' ⟨x, rfl, hx, hg⟩
  obtain ⟨im3, hR3, hag3, rfl⟩ := garb_ag hg h.2.1
  have := goesB_in im bt 60
  exact ⟨x, rfl, by omega, im3, hR3, hag3, rfl⟩

set_option maxHeartbeats 4000000 in
theorem c_X8_firstOtherwise (l : Launch) (G : GS) (im : IM) (bt rt : Nat) (lm : IM) (hbt : bt < 6) (hrt : rt < 6) (hS : SC im) (j man : Nat) (hj : j < 4) (hm : (man : Int) < im 18 0 3) (what oth : Int) (hwhat : ri what) (hoth : ri oth) (ho : (what = 1 → 0 ≤ oth ∧ oth < 6) ∧ (what = 2 → 0 ≤ oth ∧ oth < 10)) : Cn l (XC G) yX8_firstOtherwise Y_X8_firstOtherwise [vR 0 0, vR 7 j, vI (man : Int), vI what, vI oth] (im, rs bt rt, lm) (pI fun x m' => ri x ∧ ∃ im' bt', bt' < 6 ∧ RI im' ∧ ag [5, 16, 17] im' im ∧ m' = (im', rs bt' rt, lm)) := by
  refine cn_of (by decide) (okC G) rfl (Nat.le_of_ble_eq_true rfl) ?_
  intro M ad hMl F
  subst hMl
  obtain ⟨hR, hW, hh, htc, hru, hgt, hz, hrd, hsh, him, htp⟩ := hS
  have w1 := hW.1
  have w2 := hW.2.1
  have w3 := hW.2.2.1
  have w4 := hW.2.2.2.1
  have w5 := hW.2.2.2.2.1
  have hwhat1 := hwhat.1
  have hwhat2 := hwhat.2
  have hoth1 := hoth.1
  have hoth2 := hoth.2
  obtain ⟨r0, r1, hT, k0, k1, n0, n1, hga, hh0, hh1, hm5⟩ := cell_of hW (man := man) (by omega)
  refine wp_pad 1 ?_
  show Wp M (XC G) ad Y_X8_firstOtherwise (pI fun x m' => ri x ∧ ∃ im' bt', bt' < 6 ∧ RI im' ∧ ag [5, 16, 17] im' im ∧ m' = (im', rs bt' rt, lm)) 0 [some (vR 0 0), some (vR 7 j), some (vI (man : Int)), some (vI what), some (vI oth), none] [] (im, rs bt rt, lm)
  refine q_iconst (t := 1) F dX8_firstOtherwise_0 rfl ?_
  refine q_istore (t := 3) F dX8_firstOtherwise_1 (by decide) rfl rfl ?_
  have L3 : ∀ (fz : Nat) (g : Nat) (im2 : IM) (bt2 : Nat), 10 - g < fz → g ≤ 10 → bt2 < 6 → RI im2 → ag [5, 16, 17] im2 im → Wp M (XC G) ad Y_X8_firstOtherwise (pI fun x m' => ri x ∧ ∃ im' bt', bt' < 6 ∧ RI im' ∧ ag [5, 16, 17] im' im ∧ m' = (im', rs bt' rt, lm)) 3 [some (vR 0 0), some (vR 7 j), some (vI (man : Int)), some (vI what), some (vI oth), some (vI (g : Int))] [] (im2, rs bt2 rt, lm) := by
    intro fz
    induction fz with
    | zero => intro g im2 bt2 h; exact absurd h (Nat.not_lt_zero _)
    | succ fz ih =>
      have ih3 := ih
      intro g im2 bt2 hmeas hg hbt2 hR2 hag2
      have e18 : ∀ s, im2 18 0 s = im 18 0 s := fun s => hag2 18 (by decide) 0 s
      have e21 : ∀ s, im2 21 (5 * 0 + man) s = im 21 (5 * 0 + man) s := fun s => hag2 21 (by decide) _ s
      have e22 : ∀ s, im2 22 (5 * 0 + man) s = im 22 (5 * 0 + man) s := fun s => hag2 22 (by decide) _ s
      have e23 : ∀ s, im2 23 (5 * 0 + man) s = im 23 (5 * 0 + man) s := fun s => hag2 23 (by decide) _ s
      have e0 : ∀ s, im2 0 0 s = im 0 0 s := fun s => hag2 0 (by decide) 0 s
      have e08 := e0 8
      have eT : ∀ q : Nat, (q : Int) < im 0 0 8 → goodT im2 q := fun q hq => goodT_congr (fun s => hag2 3 (by decide) _ s) (fun s => hag2 4 (by decide) _ s) (hgt q hq)
      refine q_iload (t := 5) F dX8_firstOtherwise_3 rfl rfl ?_
      refine q_bipush (t := 7) F dX8_firstOtherwise_5 (by decide) rfl ?_
      refine q_icmp_ge (t := 10) (u := 113) F dX8_firstOtherwise_7 (by first | exact hR _ _ _ | (constructor <;> omega)) (by first | exact hR _ _ _ | (constructor <;> omega)) (by decide) rfl (fun c7 => ?_) (fun c7 => ?_)
      · refine q_iconst (t := 114) F dX8_firstOtherwise_113 rfl ?_
        refine q_iret F dX8_firstOtherwise_114 rfl ?_
        exact ⟨_, rfl, (by constructor <;> omega), im2, bt2, hbt2, hR2, hag2, rfl⟩
      · refine q_aload_n (t := 11) F dX8_firstOtherwise_10 rfl rfl rfl ?_
        refine g_X8_42 (t := 14) F dX8_firstOtherwise_11 rfl rfl ?_
        refine q_aload_n (t := 15) F dX8_firstOtherwise_14 rfl rfl rfl ?_
        refine g_X8_51 (t := 18) F dX8_firstOtherwise_15 rfl rfl ?_
        refine q_iload_n (t := 19) F dX8_firstOtherwise_18 rfl rfl rfl ?_
        refine q_iload (t := 21) F dX8_firstOtherwise_19 rfl rfl ?_
        refine wp_callV (t := 24) [_, _, _] F dX8_firstOtherwise_21 k_X0_look v_X0_look ml_X8_139 rfl rfl rfl rfl (Nat.le_of_ble_eq_true rfl) (by decide) (m_16 (by omega)) (c_X0_look _ G im2 bt2 rt lm 0 man g (by omega) hm5 (by omega) (by rw [e18]; exact r0) (by rw [e18]; exact r1)) rfl (kV ?_)
        rintro m' rfl
        have hBl : BZ (lookM im2 0 man g) (im2 18 0 7).toNat := by
          refine ⟨by rw [e18]; omega, RI_look hR2 (by omega), ?_, ?_, ?_, ?_, ?_⟩
          · rw [e18]; exact goodT_congr (fun s => rfl) (fun s => rfl) (eT _ (by omega))
          · rw [show lookM im2 0 man g 16 0 2 = im 21 (5 * 0 + man) 0 from e21 0]; omega
          · rw [show lookM im2 0 man g 17 0 3 = im 21 (5 * 0 + man) 1 from e21 1]; omega
          · rw [show lookM im2 0 man g 17 0 0 = im 22 (5 * 0 + man) g from e22 g, show lookM im2 0 man g 16 0 3 = im 23 (5 * 0 + man) g from e23 g]; exact hga g (by omega)
          · rw [show lookM im2 0 man g 16 0 4 = im 18 0 4 from e18 4]; omega
        have hagl : ag [5, 16, 17] (lookM im2 0 man g) im := ((look_ag im2 0 man g).mono (by decide)).trans hag2
        refine q_iload_n (t := 25) F dX8_firstOtherwise_24 rfl rfl rfl ?_
        refine q_iconst (t := 26) F dX8_firstOtherwise_25 rfl ?_
        refine q_icmp_ne (t := 29) (u := 38) F dX8_firstOtherwise_26 (by first | exact hR _ _ _ | (constructor <;> omega)) (by first | exact hR _ _ _ | (constructor <;> omega)) (by decide) rfl (fun c26 => ?_) (fun c26 => ?_)
        · refine q_iload_n (t := 39) F dX8_firstOtherwise_38 rfl rfl rfl ?_
          refine q_iconst (t := 40) F dX8_firstOtherwise_39 rfl ?_
          refine q_icmp_ne (t := 43) (u := 54) F dX8_firstOtherwise_40 (by first | exact hR _ _ _ | (constructor <;> omega)) (by first | exact hR _ _ _ | (constructor <;> omega)) (by decide) rfl (fun c40 => ?_) (fun c40 => ?_)
          · refine q_iload_n (t := 55) F dX8_firstOtherwise_54 rfl rfl rfl ?_
            refine q_iconst (t := 56) F dX8_firstOtherwise_55 rfl ?_
            refine q_icmp_ne (t := 59) (u := 85) F dX8_firstOtherwise_56 (by first | exact hR _ _ _ | (constructor <;> omega)) (by first | exact hR _ _ _ | (constructor <;> omega)) (by decide) rfl (fun c56 => ?_) (fun c56 => ?_)
            · refine q_aload_n (t := 86) F dX8_firstOtherwise_85 rfl rfl rfl ?_
              refine g_X8_42 (t := 89) F dX8_firstOtherwise_86 rfl rfl ?_
              refine q_bipush (t := 91) F dX8_firstOtherwise_89 (by decide) rfl ?_
              refine wp_callV (t := 94) [_] F dX8_firstOtherwise_91 k_X0_goesOffIn v_X0_goesOffIn ml_X8_181 rfl rfl rfl rfl (Nat.le_of_ble_eq_true rfl) (by decide) (m_16 (by omega)) (c_goZ _ G _ _ rt lm (by repeat' first | exact hBl | refine BZ_kind ?_ (by omega) | refine BZ_num ?_ (by omega) | exact BZ_text (bt := (im2 18 0 7).toNat) (by repeat' first | exact hBl | refine BZ_kind ?_ (by omega) | refine BZ_num ?_ (by omega)) (by omega) (goodT_congr (fun s => rfl) (fun s => rfl) (eT _ (by omega))))) rfl (kI ?_)
              rintro x91 m' ⟨hxi, im3, hR3, hag3, rfl⟩
              have hag3 : ag [5, 16, 17] im3 im := (hag3.mono (by decide)).trans (by repeat' first | exact hagl | refine ag_up ?_ (by decide))
              refine q_aload_n (t := 95) F dX8_firstOtherwise_94 rfl rfl rfl ?_
              refine g_X8_232 (t := 98) F dX8_firstOtherwise_95 rfl (by omega) rfl ?_
              refine q_iload (t := 100) F dX8_firstOtherwise_98 rfl rfl ?_
              first | refine ldN_8 (t := 101) F dX8_firstOtherwise_100 (by omega) (by omega) rfl ?_ | refine ld_8 (t := 101) F dX8_firstOtherwise_100 (by omega) (by omega) (by omega) rfl ?_
              try simp only [up_app, row_app, scr_app, cpy_app, Nat.reduceEqDiff, Int.reduceToNat, Int.toNat_natCast, and_true, true_and, and_false, false_and, and_self, reduceIte]
              refine q_icmp_eq (t := 104) (u := 107) F dX8_firstOtherwise_101 (by constructor <;> omega) (by exact hR3 _ _ _) (by decide) rfl (fun c101 => ?_) (fun c101 => ?_)
              · refine q_iinc (t := 110) F dX8_firstOtherwise_107 rfl (by decide) rfl rfl ?_
                refine q_goto (t := 3) F dX8_firstOtherwise_110 (by decide) ?_
                try rw [show ((oth.toNat : Nat) : Int) = oth by omega]
                exact ih3 (g + 1) im3 _ (by omega) (by omega) (by first | exact hBl.1 | omega) hR3 hag3
              · refine q_iload (t := 106) F dX8_firstOtherwise_104 rfl rfl ?_
                refine q_iret F dX8_firstOtherwise_106 rfl ?_
                exact ⟨_, rfl, (by constructor <;> omega), im3, _, (by first | exact hBl.1 | omega), hR3, hag3, rfl⟩
            · refine q_iload (t := 61) F dX8_firstOtherwise_59 rfl rfl ?_
              refine q_aload_n (t := 62) F dX8_firstOtherwise_61 rfl rfl rfl ?_
              refine g_X8_81 (t := 65) F dX8_firstOtherwise_62 rfl rfl ?_
              try simp only [up_app, row_app, scr_app, cpy_app, Nat.reduceEqDiff, Int.reduceToNat, Int.toNat_natCast, and_true, true_and, and_false, false_and, and_self, reduceIte]
              refine wp_callS (t := 68) [_, _] F dX8_firstOtherwise_65 k_X8_within st_X8_within ml_X8_95 rfl rfl (Nat.le_of_ble_eq_true rfl) (by decide) (c_X8_within _ G _ _ rt lm oth (im2 0 0 8) hoth (hR2 _ _ _)) rfl (kI ?_)
              rintro x65 m' ⟨hx65, rfl⟩
              have hx65 := if01 hx65
              refine q_if_eq (t := 71) (u := 85) F dX8_firstOtherwise_68 (by first | exact hR _ _ _ | (constructor <;> omega)) (by decide) rfl (fun c68 => ?_) (fun c68 => ?_)
              · refine q_aload_n (t := 86) F dX8_firstOtherwise_85 rfl rfl rfl ?_
                refine g_X8_42 (t := 89) F dX8_firstOtherwise_86 rfl rfl ?_
                refine q_bipush (t := 91) F dX8_firstOtherwise_89 (by decide) rfl ?_
                refine wp_callV (t := 94) [_] F dX8_firstOtherwise_91 k_X0_goesOffIn v_X0_goesOffIn ml_X8_181 rfl rfl rfl rfl (Nat.le_of_ble_eq_true rfl) (by decide) (m_16 (by omega)) (c_goZ _ G _ _ rt lm (by repeat' first | exact hBl | refine BZ_kind ?_ (by omega) | refine BZ_num ?_ (by omega) | exact BZ_text (bt := (im2 18 0 7).toNat) (by repeat' first | exact hBl | refine BZ_kind ?_ (by omega) | refine BZ_num ?_ (by omega)) (by omega) (goodT_congr (fun s => rfl) (fun s => rfl) (eT _ (by omega))))) rfl (kI ?_)
                rintro x91 m' ⟨hxi, im3, hR3, hag3, rfl⟩
                have hag3 : ag [5, 16, 17] im3 im := (hag3.mono (by decide)).trans (by repeat' first | exact hagl | refine ag_up ?_ (by decide))
                refine q_aload_n (t := 95) F dX8_firstOtherwise_94 rfl rfl rfl ?_
                refine g_X8_232 (t := 98) F dX8_firstOtherwise_95 rfl (by omega) rfl ?_
                refine q_iload (t := 100) F dX8_firstOtherwise_98 rfl rfl ?_
                first | refine ldN_8 (t := 101) F dX8_firstOtherwise_100 (by omega) (by omega) rfl ?_ | refine ld_8 (t := 101) F dX8_firstOtherwise_100 (by omega) (by omega) (by omega) rfl ?_
                try simp only [up_app, row_app, scr_app, cpy_app, Nat.reduceEqDiff, Int.reduceToNat, Int.toNat_natCast, and_true, true_and, and_false, false_and, and_self, reduceIte]
                refine q_icmp_eq (t := 104) (u := 107) F dX8_firstOtherwise_101 (by constructor <;> omega) (by exact hR3 _ _ _) (by decide) rfl (fun c101 => ?_) (fun c101 => ?_)
                · refine q_iinc (t := 110) F dX8_firstOtherwise_107 rfl (by decide) rfl rfl ?_
                  refine q_goto (t := 3) F dX8_firstOtherwise_110 (by decide) ?_
                  try rw [show ((oth.toNat : Nat) : Int) = oth by omega]
                  exact ih3 (g + 1) im3 _ (by omega) (by omega) (by first | exact hBl.1 | omega) hR3 hag3
                · refine q_iload (t := 106) F dX8_firstOtherwise_104 rfl rfl ?_
                  refine q_iret F dX8_firstOtherwise_106 rfl ?_
                  exact ⟨_, rfl, (by constructor <;> omega), im3, _, (by first | exact hBl.1 | omega), hR3, hag3, rfl⟩
              · refine q_aload_n (t := 72) F dX8_firstOtherwise_71 rfl rfl rfl ?_
                refine g_X8_42 (t := 75) F dX8_firstOtherwise_72 rfl rfl ?_
                refine q_aload_n (t := 76) F dX8_firstOtherwise_75 rfl rfl rfl ?_
                refine g_X8_11 (t := 79) F dX8_firstOtherwise_76 rfl rfl ?_
                refine q_iload (t := 81) F dX8_firstOtherwise_79 rfl rfl ?_
                rw [show oth = ((oth.toNat : Nat) : Int) by omega]
                first | refine laN_1 (t := 82) F dX8_firstOtherwise_81 (by omega) rfl ?_ | refine la_1 (t := 82) F dX8_firstOtherwise_81 (by omega) (by omega) rfl ?_
                refine p_X8_259 (t := 85) F dX8_firstOtherwise_82 rfl rfl ?_
                refine q_aload_n (t := 86) F dX8_firstOtherwise_85 rfl rfl rfl ?_
                refine g_X8_42 (t := 89) F dX8_firstOtherwise_86 rfl rfl ?_
                refine q_bipush (t := 91) F dX8_firstOtherwise_89 (by decide) rfl ?_
                refine wp_callV (t := 94) [_] F dX8_firstOtherwise_91 k_X0_goesOffIn v_X0_goesOffIn ml_X8_181 rfl rfl rfl rfl (Nat.le_of_ble_eq_true rfl) (by decide) (m_16 (by omega)) (c_goZ _ G _ _ rt lm (by repeat' first | exact hBl | refine BZ_kind ?_ (by omega) | refine BZ_num ?_ (by omega) | exact BZ_text (bt := (im2 18 0 7).toNat) (by repeat' first | exact hBl | refine BZ_kind ?_ (by omega) | refine BZ_num ?_ (by omega)) (by omega) (goodT_congr (fun s => rfl) (fun s => rfl) (eT _ (by omega))))) rfl (kI ?_)
                rintro x91 m' ⟨hxi, im3, hR3, hag3, rfl⟩
                have hag3 : ag [5, 16, 17] im3 im := (hag3.mono (by decide)).trans (by repeat' first | exact hagl | refine ag_up ?_ (by decide))
                refine q_aload_n (t := 95) F dX8_firstOtherwise_94 rfl rfl rfl ?_
                refine g_X8_232 (t := 98) F dX8_firstOtherwise_95 rfl (by omega) rfl ?_
                refine q_iload (t := 100) F dX8_firstOtherwise_98 rfl rfl ?_
                first | refine ldN_8 (t := 101) F dX8_firstOtherwise_100 (by omega) (by omega) rfl ?_ | refine ld_8 (t := 101) F dX8_firstOtherwise_100 (by omega) (by omega) (by omega) rfl ?_
                try simp only [up_app, row_app, scr_app, cpy_app, Nat.reduceEqDiff, Int.reduceToNat, Int.toNat_natCast, and_true, true_and, and_false, false_and, and_self, reduceIte]
                refine q_icmp_eq (t := 104) (u := 107) F dX8_firstOtherwise_101 (by constructor <;> omega) (by exact hR3 _ _ _) (by decide) rfl (fun c101 => ?_) (fun c101 => ?_)
                · refine q_iinc (t := 110) F dX8_firstOtherwise_107 rfl (by decide) rfl rfl ?_
                  refine q_goto (t := 3) F dX8_firstOtherwise_110 (by decide) ?_
                  try rw [show ((oth.toNat : Nat) : Int) = oth by omega]
                  exact ih3 (g + 1) im3 _ (by omega) (by omega) (by first | exact hBl.1 | omega) hR3 hag3
                · refine q_iload (t := 106) F dX8_firstOtherwise_104 rfl rfl ?_
                  refine q_iret F dX8_firstOtherwise_106 rfl ?_
                  exact ⟨_, rfl, (by constructor <;> omega), im3, _, (by first | exact hBl.1 | omega), hR3, hag3, rfl⟩
          · refine q_aload_n (t := 44) F dX8_firstOtherwise_43 rfl rfl rfl ?_
            refine g_X8_42 (t := 47) F dX8_firstOtherwise_44 rfl rfl ?_
            refine g_X8_199 (t := 50) F dX8_firstOtherwise_47 rfl rfl ?_
            refine q_iconst (t := 51) F dX8_firstOtherwise_50 rfl ?_
            refine q_iload (t := 53) F dX8_firstOtherwise_51 rfl rfl ?_
            refine stN_17 (t := 54) (j := 3) F dX8_firstOtherwise_53 (by omega) rfl ?_
            refine q_iload_n (t := 55) F dX8_firstOtherwise_54 rfl rfl rfl ?_
            refine q_iconst (t := 56) F dX8_firstOtherwise_55 rfl ?_
            refine q_icmp_ne (t := 59) (u := 85) F dX8_firstOtherwise_56 (by first | exact hR _ _ _ | (constructor <;> omega)) (by first | exact hR _ _ _ | (constructor <;> omega)) (by decide) rfl (fun c56 => ?_) (fun c56 => ?_)
            · refine q_aload_n (t := 86) F dX8_firstOtherwise_85 rfl rfl rfl ?_
              refine g_X8_42 (t := 89) F dX8_firstOtherwise_86 rfl rfl ?_
              refine q_bipush (t := 91) F dX8_firstOtherwise_89 (by decide) rfl ?_
              refine wp_callV (t := 94) [_] F dX8_firstOtherwise_91 k_X0_goesOffIn v_X0_goesOffIn ml_X8_181 rfl rfl rfl rfl (Nat.le_of_ble_eq_true rfl) (by decide) (m_16 (by omega)) (c_goZ _ G _ _ rt lm (by repeat' first | exact hBl | refine BZ_kind ?_ (by omega) | refine BZ_num ?_ (by omega) | exact BZ_text (bt := (im2 18 0 7).toNat) (by repeat' first | exact hBl | refine BZ_kind ?_ (by omega) | refine BZ_num ?_ (by omega)) (by omega) (goodT_congr (fun s => rfl) (fun s => rfl) (eT _ (by omega))))) rfl (kI ?_)
              rintro x91 m' ⟨hxi, im3, hR3, hag3, rfl⟩
              have hag3 : ag [5, 16, 17] im3 im := (hag3.mono (by decide)).trans (by repeat' first | exact hagl | refine ag_up ?_ (by decide))
              refine q_aload_n (t := 95) F dX8_firstOtherwise_94 rfl rfl rfl ?_
              refine g_X8_232 (t := 98) F dX8_firstOtherwise_95 rfl (by omega) rfl ?_
              refine q_iload (t := 100) F dX8_firstOtherwise_98 rfl rfl ?_
              first | refine ldN_8 (t := 101) F dX8_firstOtherwise_100 (by omega) (by omega) rfl ?_ | refine ld_8 (t := 101) F dX8_firstOtherwise_100 (by omega) (by omega) (by omega) rfl ?_
              try simp only [up_app, row_app, scr_app, cpy_app, Nat.reduceEqDiff, Int.reduceToNat, Int.toNat_natCast, and_true, true_and, and_false, false_and, and_self, reduceIte]
              refine q_icmp_eq (t := 104) (u := 107) F dX8_firstOtherwise_101 (by constructor <;> omega) (by exact hR3 _ _ _) (by decide) rfl (fun c101 => ?_) (fun c101 => ?_)
              · refine q_iinc (t := 110) F dX8_firstOtherwise_107 rfl (by decide) rfl rfl ?_
                refine q_goto (t := 3) F dX8_firstOtherwise_110 (by decide) ?_
                try rw [show ((oth.toNat : Nat) : Int) = oth by omega]
                exact ih3 (g + 1) im3 _ (by omega) (by omega) (by first | exact hBl.1 | omega) hR3 hag3
              · refine q_iload (t := 106) F dX8_firstOtherwise_104 rfl rfl ?_
                refine q_iret F dX8_firstOtherwise_106 rfl ?_
                exact ⟨_, rfl, (by constructor <;> omega), im3, _, (by first | exact hBl.1 | omega), hR3, hag3, rfl⟩
            · refine q_iload (t := 61) F dX8_firstOtherwise_59 rfl rfl ?_
              refine q_aload_n (t := 62) F dX8_firstOtherwise_61 rfl rfl rfl ?_
              refine g_X8_81 (t := 65) F dX8_firstOtherwise_62 rfl rfl ?_
              try simp only [up_app, row_app, scr_app, cpy_app, Nat.reduceEqDiff, Int.reduceToNat, Int.toNat_natCast, and_true, true_and, and_false, false_and, and_self, reduceIte]
              refine wp_callS (t := 68) [_, _] F dX8_firstOtherwise_65 k_X8_within st_X8_within ml_X8_95 rfl rfl (Nat.le_of_ble_eq_true rfl) (by decide) (c_X8_within _ G _ _ rt lm oth (im2 0 0 8) hoth (hR2 _ _ _)) rfl (kI ?_)
              rintro x65 m' ⟨hx65, rfl⟩
              have hx65 := if01 hx65
              refine q_if_eq (t := 71) (u := 85) F dX8_firstOtherwise_68 (by first | exact hR _ _ _ | (constructor <;> omega)) (by decide) rfl (fun c68 => ?_) (fun c68 => ?_)
              · refine q_aload_n (t := 86) F dX8_firstOtherwise_85 rfl rfl rfl ?_
                refine g_X8_42 (t := 89) F dX8_firstOtherwise_86 rfl rfl ?_
                refine q_bipush (t := 91) F dX8_firstOtherwise_89 (by decide) rfl ?_
                refine wp_callV (t := 94) [_] F dX8_firstOtherwise_91 k_X0_goesOffIn v_X0_goesOffIn ml_X8_181 rfl rfl rfl rfl (Nat.le_of_ble_eq_true rfl) (by decide) (m_16 (by omega)) (c_goZ _ G _ _ rt lm (by repeat' first | exact hBl | refine BZ_kind ?_ (by omega) | refine BZ_num ?_ (by omega) | exact BZ_text (bt := (im2 18 0 7).toNat) (by repeat' first | exact hBl | refine BZ_kind ?_ (by omega) | refine BZ_num ?_ (by omega)) (by omega) (goodT_congr (fun s => rfl) (fun s => rfl) (eT _ (by omega))))) rfl (kI ?_)
                rintro x91 m' ⟨hxi, im3, hR3, hag3, rfl⟩
                have hag3 : ag [5, 16, 17] im3 im := (hag3.mono (by decide)).trans (by repeat' first | exact hagl | refine ag_up ?_ (by decide))
                refine q_aload_n (t := 95) F dX8_firstOtherwise_94 rfl rfl rfl ?_
                refine g_X8_232 (t := 98) F dX8_firstOtherwise_95 rfl (by omega) rfl ?_
                refine q_iload (t := 100) F dX8_firstOtherwise_98 rfl rfl ?_
                first | refine ldN_8 (t := 101) F dX8_firstOtherwise_100 (by omega) (by omega) rfl ?_ | refine ld_8 (t := 101) F dX8_firstOtherwise_100 (by omega) (by omega) (by omega) rfl ?_
                try simp only [up_app, row_app, scr_app, cpy_app, Nat.reduceEqDiff, Int.reduceToNat, Int.toNat_natCast, and_true, true_and, and_false, false_and, and_self, reduceIte]
                refine q_icmp_eq (t := 104) (u := 107) F dX8_firstOtherwise_101 (by constructor <;> omega) (by exact hR3 _ _ _) (by decide) rfl (fun c101 => ?_) (fun c101 => ?_)
                · refine q_iinc (t := 110) F dX8_firstOtherwise_107 rfl (by decide) rfl rfl ?_
                  refine q_goto (t := 3) F dX8_firstOtherwise_110 (by decide) ?_
                  try rw [show ((oth.toNat : Nat) : Int) = oth by omega]
                  exact ih3 (g + 1) im3 _ (by omega) (by omega) (by first | exact hBl.1 | omega) hR3 hag3
                · refine q_iload (t := 106) F dX8_firstOtherwise_104 rfl rfl ?_
                  refine q_iret F dX8_firstOtherwise_106 rfl ?_
                  exact ⟨_, rfl, (by constructor <;> omega), im3, _, (by first | exact hBl.1 | omega), hR3, hag3, rfl⟩
              · refine q_aload_n (t := 72) F dX8_firstOtherwise_71 rfl rfl rfl ?_
                refine g_X8_42 (t := 75) F dX8_firstOtherwise_72 rfl rfl ?_
                refine q_aload_n (t := 76) F dX8_firstOtherwise_75 rfl rfl rfl ?_
                refine g_X8_11 (t := 79) F dX8_firstOtherwise_76 rfl rfl ?_
                refine q_iload (t := 81) F dX8_firstOtherwise_79 rfl rfl ?_
                rw [show oth = ((oth.toNat : Nat) : Int) by omega]
                first | refine laN_1 (t := 82) F dX8_firstOtherwise_81 (by omega) rfl ?_ | refine la_1 (t := 82) F dX8_firstOtherwise_81 (by omega) (by omega) rfl ?_
                refine p_X8_259 (t := 85) F dX8_firstOtherwise_82 rfl rfl ?_
                refine q_aload_n (t := 86) F dX8_firstOtherwise_85 rfl rfl rfl ?_
                refine g_X8_42 (t := 89) F dX8_firstOtherwise_86 rfl rfl ?_
                refine q_bipush (t := 91) F dX8_firstOtherwise_89 (by decide) rfl ?_
                refine wp_callV (t := 94) [_] F dX8_firstOtherwise_91 k_X0_goesOffIn v_X0_goesOffIn ml_X8_181 rfl rfl rfl rfl (Nat.le_of_ble_eq_true rfl) (by decide) (m_16 (by omega)) (c_goZ _ G _ _ rt lm (by repeat' first | exact hBl | refine BZ_kind ?_ (by omega) | refine BZ_num ?_ (by omega) | exact BZ_text (bt := (im2 18 0 7).toNat) (by repeat' first | exact hBl | refine BZ_kind ?_ (by omega) | refine BZ_num ?_ (by omega)) (by omega) (goodT_congr (fun s => rfl) (fun s => rfl) (eT _ (by omega))))) rfl (kI ?_)
                rintro x91 m' ⟨hxi, im3, hR3, hag3, rfl⟩
                have hag3 : ag [5, 16, 17] im3 im := (hag3.mono (by decide)).trans (by repeat' first | exact hagl | refine ag_up ?_ (by decide))
                refine q_aload_n (t := 95) F dX8_firstOtherwise_94 rfl rfl rfl ?_
                refine g_X8_232 (t := 98) F dX8_firstOtherwise_95 rfl (by omega) rfl ?_
                refine q_iload (t := 100) F dX8_firstOtherwise_98 rfl rfl ?_
                first | refine ldN_8 (t := 101) F dX8_firstOtherwise_100 (by omega) (by omega) rfl ?_ | refine ld_8 (t := 101) F dX8_firstOtherwise_100 (by omega) (by omega) (by omega) rfl ?_
                try simp only [up_app, row_app, scr_app, cpy_app, Nat.reduceEqDiff, Int.reduceToNat, Int.toNat_natCast, and_true, true_and, and_false, false_and, and_self, reduceIte]
                refine q_icmp_eq (t := 104) (u := 107) F dX8_firstOtherwise_101 (by constructor <;> omega) (by exact hR3 _ _ _) (by decide) rfl (fun c101 => ?_) (fun c101 => ?_)
                · refine q_iinc (t := 110) F dX8_firstOtherwise_107 rfl (by decide) rfl rfl ?_
                  refine q_goto (t := 3) F dX8_firstOtherwise_110 (by decide) ?_
                  try rw [show ((oth.toNat : Nat) : Int) = oth by omega]
                  exact ih3 (g + 1) im3 _ (by omega) (by omega) (by first | exact hBl.1 | omega) hR3 hag3
                · refine q_iload (t := 106) F dX8_firstOtherwise_104 rfl rfl ?_
                  refine q_iret F dX8_firstOtherwise_106 rfl ?_
                  exact ⟨_, rfl, (by constructor <;> omega), im3, _, (by first | exact hBl.1 | omega), hR3, hag3, rfl⟩
        · refine q_aload_n (t := 30) F dX8_firstOtherwise_29 rfl rfl rfl ?_
          refine g_X8_42 (t := 33) F dX8_firstOtherwise_30 rfl rfl ?_
          refine q_iload (t := 35) F dX8_firstOtherwise_33 rfl rfl ?_
          refine p_X8_258 (t := 38) F dX8_firstOtherwise_35 rfl rfl ?_
          refine q_iload_n (t := 39) F dX8_firstOtherwise_38 rfl rfl rfl ?_
          refine q_iconst (t := 40) F dX8_firstOtherwise_39 rfl ?_
          refine q_icmp_ne (t := 43) (u := 54) F dX8_firstOtherwise_40 (by first | exact hR _ _ _ | (constructor <;> omega)) (by first | exact hR _ _ _ | (constructor <;> omega)) (by decide) rfl (fun c40 => ?_) (fun c40 => ?_)
          · refine q_iload_n (t := 55) F dX8_firstOtherwise_54 rfl rfl rfl ?_
            refine q_iconst (t := 56) F dX8_firstOtherwise_55 rfl ?_
            refine q_icmp_ne (t := 59) (u := 85) F dX8_firstOtherwise_56 (by first | exact hR _ _ _ | (constructor <;> omega)) (by first | exact hR _ _ _ | (constructor <;> omega)) (by decide) rfl (fun c56 => ?_) (fun c56 => ?_)
            · refine q_aload_n (t := 86) F dX8_firstOtherwise_85 rfl rfl rfl ?_
              refine g_X8_42 (t := 89) F dX8_firstOtherwise_86 rfl rfl ?_
              refine q_bipush (t := 91) F dX8_firstOtherwise_89 (by decide) rfl ?_
              refine wp_callV (t := 94) [_] F dX8_firstOtherwise_91 k_X0_goesOffIn v_X0_goesOffIn ml_X8_181 rfl rfl rfl rfl (Nat.le_of_ble_eq_true rfl) (by decide) (m_16 (by omega)) (c_goZ _ G _ _ rt lm (by repeat' first | exact hBl | refine BZ_kind ?_ (by omega) | refine BZ_num ?_ (by omega) | exact BZ_text (bt := (im2 18 0 7).toNat) (by repeat' first | exact hBl | refine BZ_kind ?_ (by omega) | refine BZ_num ?_ (by omega)) (by omega) (goodT_congr (fun s => rfl) (fun s => rfl) (eT _ (by omega))))) rfl (kI ?_)
              rintro x91 m' ⟨hxi, im3, hR3, hag3, rfl⟩
              have hag3 : ag [5, 16, 17] im3 im := (hag3.mono (by decide)).trans (by repeat' first | exact hagl | refine ag_up ?_ (by decide))
              refine q_aload_n (t := 95) F dX8_firstOtherwise_94 rfl rfl rfl ?_
              refine g_X8_232 (t := 98) F dX8_firstOtherwise_95 rfl (by omega) rfl ?_
              refine q_iload (t := 100) F dX8_firstOtherwise_98 rfl rfl ?_
              first | refine ldN_8 (t := 101) F dX8_firstOtherwise_100 (by omega) (by omega) rfl ?_ | refine ld_8 (t := 101) F dX8_firstOtherwise_100 (by omega) (by omega) (by omega) rfl ?_
              try simp only [up_app, row_app, scr_app, cpy_app, Nat.reduceEqDiff, Int.reduceToNat, Int.toNat_natCast, and_true, true_and, and_false, false_and, and_self, reduceIte]
              refine q_icmp_eq (t := 104) (u := 107) F dX8_firstOtherwise_101 (by constructor <;> omega) (by exact hR3 _ _ _) (by decide) rfl (fun c101 => ?_) (fun c101 => ?_)
              · refine q_iinc (t := 110) F dX8_firstOtherwise_107 rfl (by decide) rfl rfl ?_
                refine q_goto (t := 3) F dX8_firstOtherwise_110 (by decide) ?_
                try rw [show ((oth.toNat : Nat) : Int) = oth by omega]
                exact ih3 (g + 1) im3 _ (by omega) (by omega) (by first | exact hBl.1 | omega) hR3 hag3
              · refine q_iload (t := 106) F dX8_firstOtherwise_104 rfl rfl ?_
                refine q_iret F dX8_firstOtherwise_106 rfl ?_
                exact ⟨_, rfl, (by constructor <;> omega), im3, _, (by first | exact hBl.1 | omega), hR3, hag3, rfl⟩
            · refine q_iload (t := 61) F dX8_firstOtherwise_59 rfl rfl ?_
              refine q_aload_n (t := 62) F dX8_firstOtherwise_61 rfl rfl rfl ?_
              refine g_X8_81 (t := 65) F dX8_firstOtherwise_62 rfl rfl ?_
              try simp only [up_app, row_app, scr_app, cpy_app, Nat.reduceEqDiff, Int.reduceToNat, Int.toNat_natCast, and_true, true_and, and_false, false_and, and_self, reduceIte]
              refine wp_callS (t := 68) [_, _] F dX8_firstOtherwise_65 k_X8_within st_X8_within ml_X8_95 rfl rfl (Nat.le_of_ble_eq_true rfl) (by decide) (c_X8_within _ G _ _ rt lm oth (im2 0 0 8) hoth (hR2 _ _ _)) rfl (kI ?_)
              rintro x65 m' ⟨hx65, rfl⟩
              have hx65 := if01 hx65
              refine q_if_eq (t := 71) (u := 85) F dX8_firstOtherwise_68 (by first | exact hR _ _ _ | (constructor <;> omega)) (by decide) rfl (fun c68 => ?_) (fun c68 => ?_)
              · refine q_aload_n (t := 86) F dX8_firstOtherwise_85 rfl rfl rfl ?_
                refine g_X8_42 (t := 89) F dX8_firstOtherwise_86 rfl rfl ?_
                refine q_bipush (t := 91) F dX8_firstOtherwise_89 (by decide) rfl ?_
                refine wp_callV (t := 94) [_] F dX8_firstOtherwise_91 k_X0_goesOffIn v_X0_goesOffIn ml_X8_181 rfl rfl rfl rfl (Nat.le_of_ble_eq_true rfl) (by decide) (m_16 (by omega)) (c_goZ _ G _ _ rt lm (by repeat' first | exact hBl | refine BZ_kind ?_ (by omega) | refine BZ_num ?_ (by omega) | exact BZ_text (bt := (im2 18 0 7).toNat) (by repeat' first | exact hBl | refine BZ_kind ?_ (by omega) | refine BZ_num ?_ (by omega)) (by omega) (goodT_congr (fun s => rfl) (fun s => rfl) (eT _ (by omega))))) rfl (kI ?_)
                rintro x91 m' ⟨hxi, im3, hR3, hag3, rfl⟩
                have hag3 : ag [5, 16, 17] im3 im := (hag3.mono (by decide)).trans (by repeat' first | exact hagl | refine ag_up ?_ (by decide))
                refine q_aload_n (t := 95) F dX8_firstOtherwise_94 rfl rfl rfl ?_
                refine g_X8_232 (t := 98) F dX8_firstOtherwise_95 rfl (by omega) rfl ?_
                refine q_iload (t := 100) F dX8_firstOtherwise_98 rfl rfl ?_
                first | refine ldN_8 (t := 101) F dX8_firstOtherwise_100 (by omega) (by omega) rfl ?_ | refine ld_8 (t := 101) F dX8_firstOtherwise_100 (by omega) (by omega) (by omega) rfl ?_
                try simp only [up_app, row_app, scr_app, cpy_app, Nat.reduceEqDiff, Int.reduceToNat, Int.toNat_natCast, and_true, true_and, and_false, false_and, and_self, reduceIte]
                refine q_icmp_eq (t := 104) (u := 107) F dX8_firstOtherwise_101 (by constructor <;> omega) (by exact hR3 _ _ _) (by decide) rfl (fun c101 => ?_) (fun c101 => ?_)
                · refine q_iinc (t := 110) F dX8_firstOtherwise_107 rfl (by decide) rfl rfl ?_
                  refine q_goto (t := 3) F dX8_firstOtherwise_110 (by decide) ?_
                  try rw [show ((oth.toNat : Nat) : Int) = oth by omega]
                  exact ih3 (g + 1) im3 _ (by omega) (by omega) (by first | exact hBl.1 | omega) hR3 hag3
                · refine q_iload (t := 106) F dX8_firstOtherwise_104 rfl rfl ?_
                  refine q_iret F dX8_firstOtherwise_106 rfl ?_
                  exact ⟨_, rfl, (by constructor <;> omega), im3, _, (by first | exact hBl.1 | omega), hR3, hag3, rfl⟩
              · refine q_aload_n (t := 72) F dX8_firstOtherwise_71 rfl rfl rfl ?_
                refine g_X8_42 (t := 75) F dX8_firstOtherwise_72 rfl rfl ?_
                refine q_aload_n (t := 76) F dX8_firstOtherwise_75 rfl rfl rfl ?_
                refine g_X8_11 (t := 79) F dX8_firstOtherwise_76 rfl rfl ?_
                refine q_iload (t := 81) F dX8_firstOtherwise_79 rfl rfl ?_
                rw [show oth = ((oth.toNat : Nat) : Int) by omega]
                first | refine laN_1 (t := 82) F dX8_firstOtherwise_81 (by omega) rfl ?_ | refine la_1 (t := 82) F dX8_firstOtherwise_81 (by omega) (by omega) rfl ?_
                refine p_X8_259 (t := 85) F dX8_firstOtherwise_82 rfl rfl ?_
                refine q_aload_n (t := 86) F dX8_firstOtherwise_85 rfl rfl rfl ?_
                refine g_X8_42 (t := 89) F dX8_firstOtherwise_86 rfl rfl ?_
                refine q_bipush (t := 91) F dX8_firstOtherwise_89 (by decide) rfl ?_
                refine wp_callV (t := 94) [_] F dX8_firstOtherwise_91 k_X0_goesOffIn v_X0_goesOffIn ml_X8_181 rfl rfl rfl rfl (Nat.le_of_ble_eq_true rfl) (by decide) (m_16 (by omega)) (c_goZ _ G _ _ rt lm (by repeat' first | exact hBl | refine BZ_kind ?_ (by omega) | refine BZ_num ?_ (by omega) | exact BZ_text (bt := (im2 18 0 7).toNat) (by repeat' first | exact hBl | refine BZ_kind ?_ (by omega) | refine BZ_num ?_ (by omega)) (by omega) (goodT_congr (fun s => rfl) (fun s => rfl) (eT _ (by omega))))) rfl (kI ?_)
                rintro x91 m' ⟨hxi, im3, hR3, hag3, rfl⟩
                have hag3 : ag [5, 16, 17] im3 im := (hag3.mono (by decide)).trans (by repeat' first | exact hagl | refine ag_up ?_ (by decide))
                refine q_aload_n (t := 95) F dX8_firstOtherwise_94 rfl rfl rfl ?_
                refine g_X8_232 (t := 98) F dX8_firstOtherwise_95 rfl (by omega) rfl ?_
                refine q_iload (t := 100) F dX8_firstOtherwise_98 rfl rfl ?_
                first | refine ldN_8 (t := 101) F dX8_firstOtherwise_100 (by omega) (by omega) rfl ?_ | refine ld_8 (t := 101) F dX8_firstOtherwise_100 (by omega) (by omega) (by omega) rfl ?_
                try simp only [up_app, row_app, scr_app, cpy_app, Nat.reduceEqDiff, Int.reduceToNat, Int.toNat_natCast, and_true, true_and, and_false, false_and, and_self, reduceIte]
                refine q_icmp_eq (t := 104) (u := 107) F dX8_firstOtherwise_101 (by constructor <;> omega) (by exact hR3 _ _ _) (by decide) rfl (fun c101 => ?_) (fun c101 => ?_)
                · refine q_iinc (t := 110) F dX8_firstOtherwise_107 rfl (by decide) rfl rfl ?_
                  refine q_goto (t := 3) F dX8_firstOtherwise_110 (by decide) ?_
                  try rw [show ((oth.toNat : Nat) : Int) = oth by omega]
                  exact ih3 (g + 1) im3 _ (by omega) (by omega) (by first | exact hBl.1 | omega) hR3 hag3
                · refine q_iload (t := 106) F dX8_firstOtherwise_104 rfl rfl ?_
                  refine q_iret F dX8_firstOtherwise_106 rfl ?_
                  exact ⟨_, rfl, (by constructor <;> omega), im3, _, (by first | exact hBl.1 | omega), hR3, hag3, rfl⟩
          · refine q_aload_n (t := 44) F dX8_firstOtherwise_43 rfl rfl rfl ?_
            refine g_X8_42 (t := 47) F dX8_firstOtherwise_44 rfl rfl ?_
            refine g_X8_199 (t := 50) F dX8_firstOtherwise_47 rfl rfl ?_
            refine q_iconst (t := 51) F dX8_firstOtherwise_50 rfl ?_
            refine q_iload (t := 53) F dX8_firstOtherwise_51 rfl rfl ?_
            refine stN_17 (t := 54) (j := 3) F dX8_firstOtherwise_53 (by omega) rfl ?_
            refine q_iload_n (t := 55) F dX8_firstOtherwise_54 rfl rfl rfl ?_
            refine q_iconst (t := 56) F dX8_firstOtherwise_55 rfl ?_
            refine q_icmp_ne (t := 59) (u := 85) F dX8_firstOtherwise_56 (by first | exact hR _ _ _ | (constructor <;> omega)) (by first | exact hR _ _ _ | (constructor <;> omega)) (by decide) rfl (fun c56 => ?_) (fun c56 => ?_)
            · refine q_aload_n (t := 86) F dX8_firstOtherwise_85 rfl rfl rfl ?_
              refine g_X8_42 (t := 89) F dX8_firstOtherwise_86 rfl rfl ?_
              refine q_bipush (t := 91) F dX8_firstOtherwise_89 (by decide) rfl ?_
              refine wp_callV (t := 94) [_] F dX8_firstOtherwise_91 k_X0_goesOffIn v_X0_goesOffIn ml_X8_181 rfl rfl rfl rfl (Nat.le_of_ble_eq_true rfl) (by decide) (m_16 (by omega)) (c_goZ _ G _ _ rt lm (by repeat' first | exact hBl | refine BZ_kind ?_ (by omega) | refine BZ_num ?_ (by omega) | exact BZ_text (bt := (im2 18 0 7).toNat) (by repeat' first | exact hBl | refine BZ_kind ?_ (by omega) | refine BZ_num ?_ (by omega)) (by omega) (goodT_congr (fun s => rfl) (fun s => rfl) (eT _ (by omega))))) rfl (kI ?_)
              rintro x91 m' ⟨hxi, im3, hR3, hag3, rfl⟩
              have hag3 : ag [5, 16, 17] im3 im := (hag3.mono (by decide)).trans (by repeat' first | exact hagl | refine ag_up ?_ (by decide))
              refine q_aload_n (t := 95) F dX8_firstOtherwise_94 rfl rfl rfl ?_
              refine g_X8_232 (t := 98) F dX8_firstOtherwise_95 rfl (by omega) rfl ?_
              refine q_iload (t := 100) F dX8_firstOtherwise_98 rfl rfl ?_
              first | refine ldN_8 (t := 101) F dX8_firstOtherwise_100 (by omega) (by omega) rfl ?_ | refine ld_8 (t := 101) F dX8_firstOtherwise_100 (by omega) (by omega) (by omega) rfl ?_
              try simp only [up_app, row_app, scr_app, cpy_app, Nat.reduceEqDiff, Int.reduceToNat, Int.toNat_natCast, and_true, true_and, and_false, false_and, and_self, reduceIte]
              refine q_icmp_eq (t := 104) (u := 107) F dX8_firstOtherwise_101 (by constructor <;> omega) (by exact hR3 _ _ _) (by decide) rfl (fun c101 => ?_) (fun c101 => ?_)
              · refine q_iinc (t := 110) F dX8_firstOtherwise_107 rfl (by decide) rfl rfl ?_
                refine q_goto (t := 3) F dX8_firstOtherwise_110 (by decide) ?_
                try rw [show ((oth.toNat : Nat) : Int) = oth by omega]
                exact ih3 (g + 1) im3 _ (by omega) (by omega) (by first | exact hBl.1 | omega) hR3 hag3
              · refine q_iload (t := 106) F dX8_firstOtherwise_104 rfl rfl ?_
                refine q_iret F dX8_firstOtherwise_106 rfl ?_
                exact ⟨_, rfl, (by constructor <;> omega), im3, _, (by first | exact hBl.1 | omega), hR3, hag3, rfl⟩
            · refine q_iload (t := 61) F dX8_firstOtherwise_59 rfl rfl ?_
              refine q_aload_n (t := 62) F dX8_firstOtherwise_61 rfl rfl rfl ?_
              refine g_X8_81 (t := 65) F dX8_firstOtherwise_62 rfl rfl ?_
              try simp only [up_app, row_app, scr_app, cpy_app, Nat.reduceEqDiff, Int.reduceToNat, Int.toNat_natCast, and_true, true_and, and_false, false_and, and_self, reduceIte]
              refine wp_callS (t := 68) [_, _] F dX8_firstOtherwise_65 k_X8_within st_X8_within ml_X8_95 rfl rfl (Nat.le_of_ble_eq_true rfl) (by decide) (c_X8_within _ G _ _ rt lm oth (im2 0 0 8) hoth (hR2 _ _ _)) rfl (kI ?_)
              rintro x65 m' ⟨hx65, rfl⟩
              have hx65 := if01 hx65
              refine q_if_eq (t := 71) (u := 85) F dX8_firstOtherwise_68 (by first | exact hR _ _ _ | (constructor <;> omega)) (by decide) rfl (fun c68 => ?_) (fun c68 => ?_)
              · refine q_aload_n (t := 86) F dX8_firstOtherwise_85 rfl rfl rfl ?_
                refine g_X8_42 (t := 89) F dX8_firstOtherwise_86 rfl rfl ?_
                refine q_bipush (t := 91) F dX8_firstOtherwise_89 (by decide) rfl ?_
                refine wp_callV (t := 94) [_] F dX8_firstOtherwise_91 k_X0_goesOffIn v_X0_goesOffIn ml_X8_181 rfl rfl rfl rfl (Nat.le_of_ble_eq_true rfl) (by decide) (m_16 (by omega)) (c_goZ _ G _ _ rt lm (by repeat' first | exact hBl | refine BZ_kind ?_ (by omega) | refine BZ_num ?_ (by omega) | exact BZ_text (bt := (im2 18 0 7).toNat) (by repeat' first | exact hBl | refine BZ_kind ?_ (by omega) | refine BZ_num ?_ (by omega)) (by omega) (goodT_congr (fun s => rfl) (fun s => rfl) (eT _ (by omega))))) rfl (kI ?_)
                rintro x91 m' ⟨hxi, im3, hR3, hag3, rfl⟩
                have hag3 : ag [5, 16, 17] im3 im := (hag3.mono (by decide)).trans (by repeat' first | exact hagl | refine ag_up ?_ (by decide))
                refine q_aload_n (t := 95) F dX8_firstOtherwise_94 rfl rfl rfl ?_
                refine g_X8_232 (t := 98) F dX8_firstOtherwise_95 rfl (by omega) rfl ?_
                refine q_iload (t := 100) F dX8_firstOtherwise_98 rfl rfl ?_
                first | refine ldN_8 (t := 101) F dX8_firstOtherwise_100 (by omega) (by omega) rfl ?_ | refine ld_8 (t := 101) F dX8_firstOtherwise_100 (by omega) (by omega) (by omega) rfl ?_
                try simp only [up_app, row_app, scr_app, cpy_app, Nat.reduceEqDiff, Int.reduceToNat, Int.toNat_natCast, and_true, true_and, and_false, false_and, and_self, reduceIte]
                refine q_icmp_eq (t := 104) (u := 107) F dX8_firstOtherwise_101 (by constructor <;> omega) (by exact hR3 _ _ _) (by decide) rfl (fun c101 => ?_) (fun c101 => ?_)
                · refine q_iinc (t := 110) F dX8_firstOtherwise_107 rfl (by decide) rfl rfl ?_
                  refine q_goto (t := 3) F dX8_firstOtherwise_110 (by decide) ?_
                  try rw [show ((oth.toNat : Nat) : Int) = oth by omega]
                  exact ih3 (g + 1) im3 _ (by omega) (by omega) (by first | exact hBl.1 | omega) hR3 hag3
                · refine q_iload (t := 106) F dX8_firstOtherwise_104 rfl rfl ?_
                  refine q_iret F dX8_firstOtherwise_106 rfl ?_
                  exact ⟨_, rfl, (by constructor <;> omega), im3, _, (by first | exact hBl.1 | omega), hR3, hag3, rfl⟩
              · refine q_aload_n (t := 72) F dX8_firstOtherwise_71 rfl rfl rfl ?_
                refine g_X8_42 (t := 75) F dX8_firstOtherwise_72 rfl rfl ?_
                refine q_aload_n (t := 76) F dX8_firstOtherwise_75 rfl rfl rfl ?_
                refine g_X8_11 (t := 79) F dX8_firstOtherwise_76 rfl rfl ?_
                refine q_iload (t := 81) F dX8_firstOtherwise_79 rfl rfl ?_
                rw [show oth = ((oth.toNat : Nat) : Int) by omega]
                first | refine laN_1 (t := 82) F dX8_firstOtherwise_81 (by omega) rfl ?_ | refine la_1 (t := 82) F dX8_firstOtherwise_81 (by omega) (by omega) rfl ?_
                refine p_X8_259 (t := 85) F dX8_firstOtherwise_82 rfl rfl ?_
                refine q_aload_n (t := 86) F dX8_firstOtherwise_85 rfl rfl rfl ?_
                refine g_X8_42 (t := 89) F dX8_firstOtherwise_86 rfl rfl ?_
                refine q_bipush (t := 91) F dX8_firstOtherwise_89 (by decide) rfl ?_
                refine wp_callV (t := 94) [_] F dX8_firstOtherwise_91 k_X0_goesOffIn v_X0_goesOffIn ml_X8_181 rfl rfl rfl rfl (Nat.le_of_ble_eq_true rfl) (by decide) (m_16 (by omega)) (c_goZ _ G _ _ rt lm (by repeat' first | exact hBl | refine BZ_kind ?_ (by omega) | refine BZ_num ?_ (by omega) | exact BZ_text (bt := (im2 18 0 7).toNat) (by repeat' first | exact hBl | refine BZ_kind ?_ (by omega) | refine BZ_num ?_ (by omega)) (by omega) (goodT_congr (fun s => rfl) (fun s => rfl) (eT _ (by omega))))) rfl (kI ?_)
                rintro x91 m' ⟨hxi, im3, hR3, hag3, rfl⟩
                have hag3 : ag [5, 16, 17] im3 im := (hag3.mono (by decide)).trans (by repeat' first | exact hagl | refine ag_up ?_ (by decide))
                refine q_aload_n (t := 95) F dX8_firstOtherwise_94 rfl rfl rfl ?_
                refine g_X8_232 (t := 98) F dX8_firstOtherwise_95 rfl (by omega) rfl ?_
                refine q_iload (t := 100) F dX8_firstOtherwise_98 rfl rfl ?_
                first | refine ldN_8 (t := 101) F dX8_firstOtherwise_100 (by omega) (by omega) rfl ?_ | refine ld_8 (t := 101) F dX8_firstOtherwise_100 (by omega) (by omega) (by omega) rfl ?_
                try simp only [up_app, row_app, scr_app, cpy_app, Nat.reduceEqDiff, Int.reduceToNat, Int.toNat_natCast, and_true, true_and, and_false, false_and, and_self, reduceIte]
                refine q_icmp_eq (t := 104) (u := 107) F dX8_firstOtherwise_101 (by constructor <;> omega) (by exact hR3 _ _ _) (by decide) rfl (fun c101 => ?_) (fun c101 => ?_)
                · refine q_iinc (t := 110) F dX8_firstOtherwise_107 rfl (by decide) rfl rfl ?_
                  refine q_goto (t := 3) F dX8_firstOtherwise_110 (by decide) ?_
                  try rw [show ((oth.toNat : Nat) : Int) = oth by omega]
                  exact ih3 (g + 1) im3 _ (by omega) (by omega) (by first | exact hBl.1 | omega) hR3 hag3
                · refine q_iload (t := 106) F dX8_firstOtherwise_104 rfl rfl ?_
                  refine q_iret F dX8_firstOtherwise_106 rfl ?_
                  exact ⟨_, rfl, (by constructor <;> omega), im3, _, (by first | exact hBl.1 | omega), hR3, hag3, rfl⟩
  exact L3 _ 0 im bt (Nat.lt_succ_self _) (by omega) hbt hR (ag_rfl _ _)

set_option maxHeartbeats 4000000 in
theorem c_X8_allAsTold (l : Launch) (G : GS) (im : IM) (bt rt : Nat) (lm : IM) (hbt : bt < 6) (hrt : rt < 6) (hS : SC im) (j man : Nat) (hj : j < 4) (hm : (man : Int) < im 18 0 3) (what : Int) (hwhat : 1 ≤ what ∧ what ≤ 3) : Cn l (XC G) yX8_allAsTold Y_X8_allAsTold [vR 0 0, vR 7 j, vI (man : Int), vI what] (im, rs bt rt, lm) (pI fun _ m' => ∃ im' bt', bt' < 6 ∧ RI im' ∧ ag [5, 16, 17] im' im ∧ m' = (im', rs bt' rt, lm)) := by
  refine cn_of (by decide) (okC G) rfl (Nat.le_of_ble_eq_true rfl) ?_
  intro M ad hMl F
  subst hMl
  have hS0 := hS
  obtain ⟨hR, hW, hh, htc, hru, hgt, hz, hrd, hsh, him, htp⟩ := hS
  have w1 := hW.1
  have w2 := hW.2.1
  have w3 := hW.2.2.1
  have w4 := hW.2.2.2.1
  have w5 := hW.2.2.2.2.1
  refine wp_pad 3 ?_
  show Wp M (XC G) ad Y_X8_allAsTold (pI fun _ m' => ∃ im' bt', bt' < 6 ∧ RI im' ∧ ag [5, 16, 17] im' im ∧ m' = (im', rs bt' rt, lm)) 0 [some (vR 0 0), some (vR 7 j), some (vI (man : Int)), some (vI what), none, none, none] [] (im, rs bt rt, lm)
  refine q_iload_n (t := 1) F dX8_allAsTold_0 rfl rfl rfl ?_
  refine q_iconst (t := 2) F dX8_allAsTold_1 rfl ?_
  refine q_icmp_ne (t := 5) (u := 10) F dX8_allAsTold_2 (by first | exact hR _ _ _ | (constructor <;> omega)) (by first | exact hR _ _ _ | (constructor <;> omega)) (by decide) rfl (fun c2 => ?_) (fun c2 => ?_)
  · refine q_iload_n (t := 11) F dX8_allAsTold_10 rfl rfl rfl ?_
    refine q_iconst (t := 12) F dX8_allAsTold_11 rfl ?_
    refine q_icmp_ne (t := 15) (u := 20) F dX8_allAsTold_12 (by first | exact hR _ _ _ | (constructor <;> omega)) (by first | exact hR _ _ _ | (constructor <;> omega)) (by decide) rfl (fun c12 => ?_) (fun c12 => ?_)
    · refine q_aload_n (t := 21) F dX8_allAsTold_20 rfl rfl rfl ?_
      refine g_X8_81 (t := 24) F dX8_allAsTold_21 rfl rfl ?_
      first
        | (obtain ⟨many, hmany⟩ : ∃ z : Int, z = 6 := ⟨_, rfl⟩
           rw [← hmany])
        | (obtain ⟨many, hmany⟩ : ∃ z : Int, z = 10 := ⟨_, rfl⟩
           rw [← hmany])
        | (obtain ⟨many, hmany⟩ : ∃ z : Int, z = im 0 0 8 := ⟨_, rfl⟩
           rw [← hmany])
      have hmn : (many ≤ 10 ∧ 0 ≤ many) ∧ (what = 1 → many = 6) := by omega
      refine q_istore (t := 26) F dX8_allAsTold_24 (by decide) rfl rfl ?_
      refine q_iconst (t := 27) F dX8_allAsTold_26 rfl ?_
      refine q_istore (t := 29) F dX8_allAsTold_27 (by decide) rfl rfl ?_
      refine q_iconst (t := 30) F dX8_allAsTold_29 rfl ?_
      refine q_istore (t := 32) F dX8_allAsTold_30 (by decide) rfl rfl ?_
      have L32 : ∀ (fz : Nat) (i b : Nat) (im2 : IM) (bt2 : Nat), 10 - i < fz → (i : Int) ≤ many → bt2 < 6 → RI im2 → ag [5, 16, 17] im2 im → Wp M (XC G) ad Y_X8_allAsTold (pI fun _ m' => ∃ im' bt', bt' < 6 ∧ RI im' ∧ ag [5, 16, 17] im' im ∧ m' = (im', rs bt' rt, lm)) 32 [some (vR 0 0), some (vR 7 j), some (vI (man : Int)), some (vI what), some (vI many), some (vI (b : Int)), some (vI (i : Int))] [] (im2, rs bt2 rt, lm) := by
        intro fz
        induction fz with
        | zero => intro i b im2 bt2 h; exact absurd h (Nat.not_lt_zero _)
        | succ fz ih =>
          have ih32 := ih
          intro i b im2 bt2 hmeas hi hbt2 hR2 hag2
          have hS2 : SC im2 := SC_agP (agP_of (hag2.mono (by decide))) hR2 hS0
          have e18 : ∀ s, im2 18 0 s = im 18 0 s := fun s => hag2 18 (by decide) 0 s
          refine q_iload (t := 34) F dX8_allAsTold_32 rfl rfl ?_
          refine q_iload (t := 36) F dX8_allAsTold_34 rfl rfl ?_
          refine q_icmp_ge (t := 39) (u := 67) F dX8_allAsTold_36 (by constructor <;> omega) (by constructor <;> omega) (by decide) rfl (fun c36 => ?_) (fun c36 => ?_)
          · refine q_iload (t := 69) F dX8_allAsTold_67 rfl rfl ?_
            refine q_iret F dX8_allAsTold_69 rfl ?_
            exact ⟨_, rfl, im2, bt2, hbt2, hR2, hag2, rfl⟩
          · refine q_aload_n (t := 40) F dX8_allAsTold_39 rfl rfl rfl ?_
            refine q_aload_n (t := 41) F dX8_allAsTold_40 rfl rfl rfl ?_
            refine q_iload_n (t := 42) F dX8_allAsTold_41 rfl rfl rfl ?_
            refine q_iload_n (t := 43) F dX8_allAsTold_42 rfl rfl rfl ?_
            refine q_iload (t := 45) F dX8_allAsTold_43 rfl rfl ?_
            refine wp_callV (t := 48) [_, _, _, _] F dX8_allAsTold_45 k_X8_firstOtherwise v_X8_firstOtherwise ml_X8_244 rfl rfl rfl rfl (Nat.le_of_ble_eq_true rfl) (by decide) (m_0 (by omega)) (c_X8_firstOtherwise _ G im2 bt2 rt lm hbt2 hrt hS2 j man hj (by rw [e18]; exact hm) what (i : Int) (by constructor <;> omega) (by constructor <;> omega) ⟨fun h => by omega, fun h => by omega⟩) rfl (kI ?_)
            rintro x45 m' ⟨hxr, im3, bt3, hbt3, hR3, hag3, rfl⟩
            refine q_iconst (t := 49) F dX8_allAsTold_48 rfl ?_
            refine q_icmp_ne (t := 52) (u := 61) F dX8_allAsTold_49 (by exact hxr) (by constructor <;> omega) (by decide) rfl (fun c49 => ?_) (fun c49 => ?_)
            · refine q_iinc (t := 64) F dX8_allAsTold_61 rfl (by decide) rfl rfl ?_
              refine q_goto (t := 32) F dX8_allAsTold_64 (by decide) ?_
              exact ih32 (i + 1) _ im3 bt3 (by omega) (by omega) hbt3 hR3 (hag3.trans hag2)
            · refine q_iload (t := 54) F dX8_allAsTold_52 rfl rfl ?_
              refine q_iconst (t := 55) F dX8_allAsTold_54 rfl ?_
              refine q_iload (t := 57) F dX8_allAsTold_55 rfl rfl ?_
              refine q_ishl (t := 58) F dX8_allAsTold_57 (by omega) (by omega) rfl ?_
              rw [pow_cast]
              refine q_ior (t := 59) F dX8_allAsTold_58 rfl ?_
              refine q_istore (t := 61) F dX8_allAsTold_59 (by decide) rfl rfl ?_
              refine q_iinc (t := 64) F dX8_allAsTold_61 rfl (by decide) rfl rfl ?_
              refine q_goto (t := 32) F dX8_allAsTold_64 (by decide) ?_
              exact ih32 (i + 1) _ im3 bt3 (by omega) (by omega) hbt3 hR3 (hag3.trans hag2)
      exact L32 _ 0 0 im bt (Nat.lt_succ_self _) (by omega) hbt hR (ag_rfl _ _)
    · refine q_bipush (t := 17) F dX8_allAsTold_15 (by decide) rfl ?_
      refine q_goto (t := 24) F dX8_allAsTold_17 (by decide) ?_
      first
        | (obtain ⟨many, hmany⟩ : ∃ z : Int, z = 6 := ⟨_, rfl⟩
           rw [← hmany])
        | (obtain ⟨many, hmany⟩ : ∃ z : Int, z = 10 := ⟨_, rfl⟩
           rw [← hmany])
        | (obtain ⟨many, hmany⟩ : ∃ z : Int, z = im 0 0 8 := ⟨_, rfl⟩
           rw [← hmany])
      have hmn : (many ≤ 10 ∧ 0 ≤ many) ∧ (what = 1 → many = 6) := by omega
      refine q_istore (t := 26) F dX8_allAsTold_24 (by decide) rfl rfl ?_
      refine q_iconst (t := 27) F dX8_allAsTold_26 rfl ?_
      refine q_istore (t := 29) F dX8_allAsTold_27 (by decide) rfl rfl ?_
      refine q_iconst (t := 30) F dX8_allAsTold_29 rfl ?_
      refine q_istore (t := 32) F dX8_allAsTold_30 (by decide) rfl rfl ?_
      have L32 : ∀ (fz : Nat) (i b : Nat) (im2 : IM) (bt2 : Nat), 10 - i < fz → (i : Int) ≤ many → bt2 < 6 → RI im2 → ag [5, 16, 17] im2 im → Wp M (XC G) ad Y_X8_allAsTold (pI fun _ m' => ∃ im' bt', bt' < 6 ∧ RI im' ∧ ag [5, 16, 17] im' im ∧ m' = (im', rs bt' rt, lm)) 32 [some (vR 0 0), some (vR 7 j), some (vI (man : Int)), some (vI what), some (vI many), some (vI (b : Int)), some (vI (i : Int))] [] (im2, rs bt2 rt, lm) := by
        intro fz
        induction fz with
        | zero => intro i b im2 bt2 h; exact absurd h (Nat.not_lt_zero _)
        | succ fz ih =>
          have ih32 := ih
          intro i b im2 bt2 hmeas hi hbt2 hR2 hag2
          have hS2 : SC im2 := SC_agP (agP_of (hag2.mono (by decide))) hR2 hS0
          have e18 : ∀ s, im2 18 0 s = im 18 0 s := fun s => hag2 18 (by decide) 0 s
          refine q_iload (t := 34) F dX8_allAsTold_32 rfl rfl ?_
          refine q_iload (t := 36) F dX8_allAsTold_34 rfl rfl ?_
          refine q_icmp_ge (t := 39) (u := 67) F dX8_allAsTold_36 (by constructor <;> omega) (by constructor <;> omega) (by decide) rfl (fun c36 => ?_) (fun c36 => ?_)
          · refine q_iload (t := 69) F dX8_allAsTold_67 rfl rfl ?_
            refine q_iret F dX8_allAsTold_69 rfl ?_
            exact ⟨_, rfl, im2, bt2, hbt2, hR2, hag2, rfl⟩
          · refine q_aload_n (t := 40) F dX8_allAsTold_39 rfl rfl rfl ?_
            refine q_aload_n (t := 41) F dX8_allAsTold_40 rfl rfl rfl ?_
            refine q_iload_n (t := 42) F dX8_allAsTold_41 rfl rfl rfl ?_
            refine q_iload_n (t := 43) F dX8_allAsTold_42 rfl rfl rfl ?_
            refine q_iload (t := 45) F dX8_allAsTold_43 rfl rfl ?_
            refine wp_callV (t := 48) [_, _, _, _] F dX8_allAsTold_45 k_X8_firstOtherwise v_X8_firstOtherwise ml_X8_244 rfl rfl rfl rfl (Nat.le_of_ble_eq_true rfl) (by decide) (m_0 (by omega)) (c_X8_firstOtherwise _ G im2 bt2 rt lm hbt2 hrt hS2 j man hj (by rw [e18]; exact hm) what (i : Int) (by constructor <;> omega) (by constructor <;> omega) ⟨fun h => by omega, fun h => by omega⟩) rfl (kI ?_)
            rintro x45 m' ⟨hxr, im3, bt3, hbt3, hR3, hag3, rfl⟩
            refine q_iconst (t := 49) F dX8_allAsTold_48 rfl ?_
            refine q_icmp_ne (t := 52) (u := 61) F dX8_allAsTold_49 (by exact hxr) (by constructor <;> omega) (by decide) rfl (fun c49 => ?_) (fun c49 => ?_)
            · refine q_iinc (t := 64) F dX8_allAsTold_61 rfl (by decide) rfl rfl ?_
              refine q_goto (t := 32) F dX8_allAsTold_64 (by decide) ?_
              exact ih32 (i + 1) _ im3 bt3 (by omega) (by omega) hbt3 hR3 (hag3.trans hag2)
            · refine q_iload (t := 54) F dX8_allAsTold_52 rfl rfl ?_
              refine q_iconst (t := 55) F dX8_allAsTold_54 rfl ?_
              refine q_iload (t := 57) F dX8_allAsTold_55 rfl rfl ?_
              refine q_ishl (t := 58) F dX8_allAsTold_57 (by omega) (by omega) rfl ?_
              rw [pow_cast]
              refine q_ior (t := 59) F dX8_allAsTold_58 rfl ?_
              refine q_istore (t := 61) F dX8_allAsTold_59 (by decide) rfl rfl ?_
              refine q_iinc (t := 64) F dX8_allAsTold_61 rfl (by decide) rfl rfl ?_
              refine q_goto (t := 32) F dX8_allAsTold_64 (by decide) ?_
              exact ih32 (i + 1) _ im3 bt3 (by omega) (by omega) hbt3 hR3 (hag3.trans hag2)
      exact L32 _ 0 0 im bt (Nat.lt_succ_self _) (by omega) hbt hR (ag_rfl _ _)
  · refine q_bipush (t := 7) F dX8_allAsTold_5 (by decide) rfl ?_
    refine q_goto (t := 24) F dX8_allAsTold_7 (by decide) ?_
    first
      | (obtain ⟨many, hmany⟩ : ∃ z : Int, z = 6 := ⟨_, rfl⟩
         rw [← hmany])
      | (obtain ⟨many, hmany⟩ : ∃ z : Int, z = 10 := ⟨_, rfl⟩
         rw [← hmany])
      | (obtain ⟨many, hmany⟩ : ∃ z : Int, z = im 0 0 8 := ⟨_, rfl⟩
         rw [← hmany])
    have hmn : (many ≤ 10 ∧ 0 ≤ many) ∧ (what = 1 → many = 6) := by omega
    refine q_istore (t := 26) F dX8_allAsTold_24 (by decide) rfl rfl ?_
    refine q_iconst (t := 27) F dX8_allAsTold_26 rfl ?_
    refine q_istore (t := 29) F dX8_allAsTold_27 (by decide) rfl rfl ?_
    refine q_iconst (t := 30) F dX8_allAsTold_29 rfl ?_
    refine q_istore (t := 32) F dX8_allAsTold_30 (by decide) rfl rfl ?_
    have L32 : ∀ (fz : Nat) (i b : Nat) (im2 : IM) (bt2 : Nat), 10 - i < fz → (i : Int) ≤ many → bt2 < 6 → RI im2 → ag [5, 16, 17] im2 im → Wp M (XC G) ad Y_X8_allAsTold (pI fun _ m' => ∃ im' bt', bt' < 6 ∧ RI im' ∧ ag [5, 16, 17] im' im ∧ m' = (im', rs bt' rt, lm)) 32 [some (vR 0 0), some (vR 7 j), some (vI (man : Int)), some (vI what), some (vI many), some (vI (b : Int)), some (vI (i : Int))] [] (im2, rs bt2 rt, lm) := by
      intro fz
      induction fz with
      | zero => intro i b im2 bt2 h; exact absurd h (Nat.not_lt_zero _)
      | succ fz ih =>
        have ih32 := ih
        intro i b im2 bt2 hmeas hi hbt2 hR2 hag2
        have hS2 : SC im2 := SC_agP (agP_of (hag2.mono (by decide))) hR2 hS0
        have e18 : ∀ s, im2 18 0 s = im 18 0 s := fun s => hag2 18 (by decide) 0 s
        refine q_iload (t := 34) F dX8_allAsTold_32 rfl rfl ?_
        refine q_iload (t := 36) F dX8_allAsTold_34 rfl rfl ?_
        refine q_icmp_ge (t := 39) (u := 67) F dX8_allAsTold_36 (by constructor <;> omega) (by constructor <;> omega) (by decide) rfl (fun c36 => ?_) (fun c36 => ?_)
        · refine q_iload (t := 69) F dX8_allAsTold_67 rfl rfl ?_
          refine q_iret F dX8_allAsTold_69 rfl ?_
          exact ⟨_, rfl, im2, bt2, hbt2, hR2, hag2, rfl⟩
        · refine q_aload_n (t := 40) F dX8_allAsTold_39 rfl rfl rfl ?_
          refine q_aload_n (t := 41) F dX8_allAsTold_40 rfl rfl rfl ?_
          refine q_iload_n (t := 42) F dX8_allAsTold_41 rfl rfl rfl ?_
          refine q_iload_n (t := 43) F dX8_allAsTold_42 rfl rfl rfl ?_
          refine q_iload (t := 45) F dX8_allAsTold_43 rfl rfl ?_
          refine wp_callV (t := 48) [_, _, _, _] F dX8_allAsTold_45 k_X8_firstOtherwise v_X8_firstOtherwise ml_X8_244 rfl rfl rfl rfl (Nat.le_of_ble_eq_true rfl) (by decide) (m_0 (by omega)) (c_X8_firstOtherwise _ G im2 bt2 rt lm hbt2 hrt hS2 j man hj (by rw [e18]; exact hm) what (i : Int) (by constructor <;> omega) (by constructor <;> omega) ⟨fun h => by omega, fun h => by omega⟩) rfl (kI ?_)
          rintro x45 m' ⟨hxr, im3, bt3, hbt3, hR3, hag3, rfl⟩
          refine q_iconst (t := 49) F dX8_allAsTold_48 rfl ?_
          refine q_icmp_ne (t := 52) (u := 61) F dX8_allAsTold_49 (by exact hxr) (by constructor <;> omega) (by decide) rfl (fun c49 => ?_) (fun c49 => ?_)
          · refine q_iinc (t := 64) F dX8_allAsTold_61 rfl (by decide) rfl rfl ?_
            refine q_goto (t := 32) F dX8_allAsTold_64 (by decide) ?_
            exact ih32 (i + 1) _ im3 bt3 (by omega) (by omega) hbt3 hR3 (hag3.trans hag2)
          · refine q_iload (t := 54) F dX8_allAsTold_52 rfl rfl ?_
            refine q_iconst (t := 55) F dX8_allAsTold_54 rfl ?_
            refine q_iload (t := 57) F dX8_allAsTold_55 rfl rfl ?_
            refine q_ishl (t := 58) F dX8_allAsTold_57 (by omega) (by omega) rfl ?_
            rw [pow_cast]
            refine q_ior (t := 59) F dX8_allAsTold_58 rfl ?_
            refine q_istore (t := 61) F dX8_allAsTold_59 (by decide) rfl rfl ?_
            refine q_iinc (t := 64) F dX8_allAsTold_61 rfl (by decide) rfl rfl ?_
            refine q_goto (t := 32) F dX8_allAsTold_64 (by decide) ?_
            exact ih32 (i + 1) _ im3 bt3 (by omega) (by omega) hbt3 hR3 (hag3.trans hag2)
    exact L32 _ 0 0 im bt (Nat.lt_succ_self _) (by omega) hbt hR (ag_rfl _ _)

set_option maxHeartbeats 4000000 in
theorem c_X8_tells (l : Launch) (G : GS) (im : IM) (bt rt : Nat) (lm : IM) (hbt : bt < 6) (hrt : rt < 6) (hS : SC im) (sheet : Int) (man : Int) (what : Int) (hsheet : ri sheet) (hman : ri man) (hwhat : ri what) : Cn l (XC G) yX8_tells Y_X8_tells [vR 0 0, vI sheet, vI man, vI what] (im, rs bt rt, lm) (pI fun x m' => (¬ ((0 ≤ sheet ∧ sheet < 4) ∧ 0 ≤ man ∧ man < im 18 0 3) → x = -2) ∧ stC lm im m') := by
  refine cn_of (by decide) (okC G) rfl (Nat.le_of_ble_eq_true rfl) ?_
  intro M ad hMl F
  subst hMl
  have hS0 := hS
  obtain ⟨hR, hW, hh, htc, hru, hgt, hz, hrd, hsh, him, htp⟩ := hS
  have w1 := hW.1
  have w2 := hW.2.1
  have w3 := hW.2.2.1
  have w4 := hW.2.2.2.1
  have w5 := hW.2.2.2.2.1
  have hsheet1 := hsheet.1
  have hsheet2 := hsheet.2
  have hman1 := hman.1
  have hman2 := hman.2
  have hwhat1 := hwhat.1
  have hwhat2 := hwhat.2
  refine wp_pad 2 ?_
  show Wp M (XC G) ad Y_X8_tells (pI fun x m' => (¬ ((0 ≤ sheet ∧ sheet < 4) ∧ 0 ≤ man ∧ man < im 18 0 3) → x = -2) ∧ stC lm im m') 0 [some (vR 0 0), some (vI sheet), some (vI man), some (vI what), none, none] [] (im, rs bt rt, lm)
  refine q_iload_n (t := 1) F dX8_tells_0 rfl rfl rfl ?_
  refine q_iconst (t := 2) F dX8_tells_1 rfl ?_
  refine wp_callS (t := 5) [_, _] F dX8_tells_2 k_X8_within st_X8_within ml_X8_95 rfl rfl (Nat.le_of_ble_eq_true rfl) (by decide) (c_X8_within _ G _ bt rt lm sheet 4 hsheet (by constructor <;> omega)) rfl (kI ?_)
  rintro x2 m' ⟨hx2, rfl⟩
  have hx2 := if01 hx2
  refine q_if_eq (t := 8) (u := 16) F dX8_tells_5 (by first | exact hR _ _ _ | (constructor <;> omega)) (by decide) rfl (fun c5 => ?_) (fun c5 => ?_)
  · refine q_bipush (t := 18) F dX8_tells_16 (by decide) rfl ?_
    refine q_iret F dX8_tells_18 rfl ?_
    refine ⟨_, rfl, fun _ => rfl, _, bt, rt, hbt, hrt, hR, agP_rfl _, rfl⟩
  · refine q_aload_n (t := 9) F dX8_tells_8 rfl rfl rfl ?_
    refine q_iload_n (t := 10) F dX8_tells_9 rfl rfl rfl ?_
    refine wp_callV (t := 13) [_] F dX8_tells_10 k_X8_isOne v_X8_isOne ml_X8_91 rfl rfl rfl rfl (Nat.le_of_ble_eq_true rfl) (by decide) (m_0 (by omega)) (c_X8_isOne _ G _ bt rt lm man hman hR) rfl (kI ?_)
    rintro x10 m' ⟨hx10, rfl⟩
    have hx10 := if01 hx10
    refine q_if_ne (t := 16) (u := 19) F dX8_tells_13 (by first | exact hR _ _ _ | (constructor <;> omega)) (by decide) rfl (fun c13 => ?_) (fun c13 => ?_)
    · refine q_iload_n (t := 20) F dX8_tells_19 rfl rfl rfl ?_
      refine q_if_lt (t := 23) (u := 40) F dX8_tells_20 (by first | exact hR _ _ _ | (constructor <;> omega)) (by decide) rfl (fun c20 => ?_) (fun c20 => ?_)
      · refine q_bipush (t := 42) F dX8_tells_40 (by decide) rfl ?_
        refine q_iret F dX8_tells_42 rfl ?_
        refine ⟨_, rfl, fun _ => rfl, _, bt, rt, hbt, hrt, hR, agP_rfl _, rfl⟩
      · refine q_iload_n (t := 24) F dX8_tells_23 rfl rfl rfl ?_
        refine q_bipush (t := 26) F dX8_tells_24 (by decide) rfl ?_
        refine q_icmp_gt (t := 29) (u := 40) F dX8_tells_26 (by first | exact hR _ _ _ | (constructor <;> omega)) (by first | exact hR _ _ _ | (constructor <;> omega)) (by decide) rfl (fun c26 => ?_) (fun c26 => ?_)
        · refine q_bipush (t := 42) F dX8_tells_40 (by decide) rfl ?_
          refine q_iret F dX8_tells_42 rfl ?_
          refine ⟨_, rfl, fun _ => rfl, _, bt, rt, hbt, hrt, hR, agP_rfl _, rfl⟩
        · refine q_iload_n (t := 30) F dX8_tells_29 rfl rfl rfl ?_
          refine q_iconst (t := 31) F dX8_tells_30 rfl ?_
          refine q_icmp_le (t := 34) (u := 43) F dX8_tells_31 (by first | exact hR _ _ _ | (constructor <;> omega)) (by first | exact hR _ _ _ | (constructor <;> omega)) (by decide) rfl (fun c31 => ?_) (fun c31 => ?_)
          · refine q_aload_n (t := 44) F dX8_tells_43 rfl rfl rfl ?_
            refine g_X8_17 (t := 47) F dX8_tells_44 rfl rfl ?_
            obtain ⟨sheet, rfl⟩ : ∃ k : Nat, sheet = (k : Int) := ⟨sheet.toNat, by omega⟩
            have hj : sheet < 4 := by omega
            have hs4 := hsh sheet hj
            obtain ⟨man, rfl⟩ : ∃ k : Nat, man = (k : Int) := ⟨man.toNat, by omega⟩
            obtain ⟨r0, r1, hT, k0, k1, n0, n1, hga, hh0, hh1, hm5⟩ := cell_of hW (man := man) (by omega)
            refine q_iload_n (t := 48) F dX8_tells_47 rfl rfl rfl ?_
            first | refine laN_6 (t := 49) F dX8_tells_48 (by omega) rfl ?_ | refine la_6 (t := 49) F dX8_tells_48 (by omega) (by omega) rfl ?_
            refine q_astore (t := 51) F dX8_tells_49 (by decide) rfl rfl ?_
            refine q_aload (t := 53) F dX8_tells_51 rfl rfl ?_
            refine wp_callV (t := 56) [] F dX8_tells_53 k_X5_isMissing v_X5_isMissing ml_X8_218 rfl rfl rfl rfl (Nat.le_of_ble_eq_true rfl) (by decide) (m_7 (by omega)) (c_X5_isMissing _ G im bt rt lm sheet hj hR) rfl (kI ?_)
            rintro x53 m' ⟨hx53, rfl⟩
            have hx53 := if01 hx53
            refine q_if_eq (t := 59) (u := 62) F dX8_tells_56 (by first | exact hR _ _ _ | (constructor <;> omega)) (by decide) rfl (fun c56 => ?_) (fun c56 => ?_)
            · refine q_aload (t := 64) F dX8_tells_62 rfl rfl ?_
              refine g_X8_231 (t := 67) F dX8_tells_64 rfl (by omega) rfl ?_
              try simp only [up_app, row_app, scr_app, cpy_app, Nat.reduceEqDiff, Int.reduceToNat, Int.toNat_natCast, and_true, true_and, and_false, false_and, and_self, reduceIte]
              refine q_bipush (t := 69) F dX8_tells_67 (by decide) rfl ?_
              refine q_icmp_eq (t := 72) (u := 75) F dX8_tells_69 (by exact hR _ _ _) (by constructor <;> omega) (by decide) rfl (fun c69 => ?_) (fun c69 => ?_)
              · refine q_iload_n (t := 76) F dX8_tells_75 rfl rfl rfl ?_
                refine q_if_ne (t := 79) (u := 89) F dX8_tells_76 (by first | exact hR _ _ _ | (constructor <;> omega)) (by decide) rfl (fun c76 => ?_) (fun c76 => ?_)
                · refine q_iload_n (t := 90) F dX8_tells_89 rfl rfl rfl ?_
                  refine q_iconst (t := 91) F dX8_tells_90 rfl ?_
                  refine q_icmp_gt (t := 94) (u := 103) F dX8_tells_91 (by first | exact hR _ _ _ | (constructor <;> omega)) (by first | exact hR _ _ _ | (constructor <;> omega)) (by decide) rfl (fun c91 => ?_) (fun c91 => ?_)
                  · refine q_iload_n (t := 104) F dX8_tells_103 rfl rfl rfl ?_
                    refine q_bipush (t := 106) F dX8_tells_104 (by decide) rfl ?_
                    refine q_irem (t := 107) F dX8_tells_106 (by first | exact hR _ _ _ | (constructor <;> omega)) (by first | exact hR _ _ _ | (constructor <;> omega)) (by omega) (by omega) rfl ?_
                    obtain ⟨g, hg⟩ : ∃ g : Nat, what % 10 = g := ⟨(what % 10).toNat, by omega⟩
                    rw [hg]
                    refine q_istore (t := 109) F dX8_tells_107 (by decide) rfl rfl ?_
                    refine q_aload_n (t := 110) F dX8_tells_109 rfl rfl rfl ?_
                    refine g_X8_42 (t := 113) F dX8_tells_110 rfl rfl ?_
                    refine q_aload_n (t := 114) F dX8_tells_113 rfl rfl rfl ?_
                    refine g_X8_51 (t := 117) F dX8_tells_114 rfl rfl ?_
                    refine q_iload_n (t := 118) F dX8_tells_117 rfl rfl rfl ?_
                    refine q_iload (t := 120) F dX8_tells_118 rfl rfl ?_
                    refine wp_callV (t := 123) [_, _, _] F dX8_tells_120 k_X0_look v_X0_look ml_X8_139 rfl rfl rfl rfl (Nat.le_of_ble_eq_true rfl) (by decide) (m_16 (by omega)) (c_X0_look _ G im bt rt lm 0 man g (by omega) hm5 (by omega) r0 r1) rfl (kV ?_)
                    rintro m' rfl
                    have hRl := RI_look (w := 0) (p := man) (g := g) hR (by omega)
                    have hbt3 : (im 18 0 7).toNat < 6 := by omega
                    have hagl : ag [5, 16, 17] (lookM im 0 man g) im := (look_ag im 0 man g).mono (by decide)
                    refine q_aload_n (t := 124) F dX8_tells_123 rfl rfl rfl ?_
                    refine g_X8_42 (t := 127) F dX8_tells_124 rfl rfl ?_
                    refine g_X8_199 (t := 130) F dX8_tells_127 rfl rfl ?_
                    refine q_iconst (t := 131) F dX8_tells_130 rfl ?_
                    refine ldN_17 (t := 132) (j := 0) F dX8_tells_131 (by omega) rfl ?_
                    try simp only [up_app, row_app, scr_app, cpy_app, Nat.reduceEqDiff, Int.reduceToNat, Int.toNat_natCast, and_true, true_and, and_false, false_and, and_self, reduceIte]
                    refine q_iconst (t := 133) F dX8_tells_132 rfl ?_
                    refine q_icmp_ne (t := 136) (u := 148) F dX8_tells_133 (by exact hRl _ _ _) (by constructor <;> omega) (by decide) rfl (fun c133 => ?_) (fun c133 => ?_)
                    · have hBO : BO (lookM im 0 man g) (im 18 0 7).toNat := ⟨hbt3, hRl, goodT_congr (fun s => rfl) (fun s => rfl) hT, ⟨k0, k1⟩, ⟨n0, n1⟩, hga g (by omega) (by assumption), ⟨hh0, hh1⟩⟩
                      refine q_iload_n (t := 149) F dX8_tells_148 rfl rfl rfl ?_
                      refine q_bipush (t := 151) F dX8_tells_149 (by decide) rfl ?_
                      refine q_icmp_ge (t := 154) (u := 169) F dX8_tells_151 (by first | exact hR _ _ _ | (constructor <;> omega)) (by first | exact hR _ _ _ | (constructor <;> omega)) (by decide) rfl (fun c151 => ?_) (fun c151 => ?_)
                      · refine q_aload_n (t := 170) F dX8_tells_169 rfl rfl rfl ?_
                        refine q_aload (t := 172) F dX8_tells_170 rfl rfl ?_
                        refine g_X8_232 (t := 175) F dX8_tells_172 rfl (by omega) rfl ?_
                        refine q_iload (t := 177) F dX8_tells_175 rfl rfl ?_
                        first | refine ldN_8 (t := 178) F dX8_tells_177 (by omega) (by omega) rfl ?_ | refine ld_8 (t := 178) F dX8_tells_177 (by omega) (by omega) (by omega) rfl ?_
                        try simp only [up_app, row_app, scr_app, cpy_app, Nat.reduceEqDiff, Int.reduceToNat, Int.toNat_natCast, and_true, true_and, and_false, false_and, and_self, reduceIte]
                        refine q_iload_n (t := 179) F dX8_tells_178 rfl rfl rfl ?_
                        refine q_bipush (t := 181) F dX8_tells_179 (by decide) rfl ?_
                        refine q_icmp_lt (t := 184) (u := 188) F dX8_tells_181 (by first | exact hR _ _ _ | (constructor <;> omega)) (by first | exact hR _ _ _ | (constructor <;> omega)) (by decide) rfl (fun c181 => ?_) (fun c181 => ?_)
                        · refine q_iconst (t := 189) F dX8_tells_188 rfl ?_
                          refine wp_callV (t := 192) [_, _] F dX8_tells_189 k_X8_agesAsTold v_X8_agesAsTold ml_X8_255 rfl rfl rfl rfl (Nat.le_of_ble_eq_true rfl) (by decide) (m_0 (by omega)) (c_X8_agesAsTold _ G (lookM im 0 man g) (im 18 0 7).toNat rt lm hBO (im 8 sheet g) _ (hR _ _ _) (by first | exact Or.inl rfl | exact Or.inr rfl)) rfl (kI ?_)
                          rintro x189 m' ⟨im3, hR3, hag3, rfl⟩
                          have hag3 : ag [5, 16, 17] im3 im := hag3.trans hagl
                          refine q_iret F dX8_tells_192 rfl ?_
                          refine ⟨_, rfl, fun h => (by exfalso; apply h; omega), im3, _, rt, hbt3, hrt, hR3, agP_of (hag3.mono (by decide)), rfl⟩
                        · refine q_iconst (t := 185) F dX8_tells_184 rfl ?_
                          refine q_goto (t := 189) F dX8_tells_185 (by decide) ?_
                          refine wp_callV (t := 192) [_, _] F dX8_tells_189 k_X8_agesAsTold v_X8_agesAsTold ml_X8_255 rfl rfl rfl rfl (Nat.le_of_ble_eq_true rfl) (by decide) (m_0 (by omega)) (c_X8_agesAsTold _ G (lookM im 0 man g) (im 18 0 7).toNat rt lm hBO (im 8 sheet g) _ (hR _ _ _) (by first | exact Or.inl rfl | exact Or.inr rfl)) rfl (kI ?_)
                          rintro x189 m' ⟨im3, hR3, hag3, rfl⟩
                          have hag3 : ag [5, 16, 17] im3 im := hag3.trans hagl
                          refine q_iret F dX8_tells_192 rfl ?_
                          refine ⟨_, rfl, fun h => (by exfalso; apply h; omega), im3, _, rt, hbt3, hrt, hR3, agP_of (hag3.mono (by decide)), rfl⟩
                      · refine q_aload_n (t := 155) F dX8_tells_154 rfl rfl rfl ?_
                        refine q_aload (t := 157) F dX8_tells_155 rfl rfl ?_
                        refine g_X8_232 (t := 160) F dX8_tells_157 rfl (by omega) rfl ?_
                        refine q_iload (t := 162) F dX8_tells_160 rfl rfl ?_
                        first | refine ldN_8 (t := 163) F dX8_tells_162 (by omega) (by omega) rfl ?_ | refine ld_8 (t := 163) F dX8_tells_162 (by omega) (by omega) (by omega) rfl ?_
                        try simp only [up_app, row_app, scr_app, cpy_app, Nat.reduceEqDiff, Int.reduceToNat, Int.toNat_natCast, and_true, true_and, and_false, false_and, and_self, reduceIte]
                        refine wp_callV (t := 166) [_] F dX8_tells_163 k_X8_wordsAsTold v_X8_wordsAsTold ml_X8_252 rfl rfl rfl rfl (Nat.le_of_ble_eq_true rfl) (by decide) (m_0 (by omega)) (c_X8_wordsAsTold _ G (lookM im 0 man g) (im 18 0 7).toNat rt lm hBO (im 8 sheet g) (hR _ _ _)) rfl (kI ?_)
                        rintro x163 m' ⟨im3, hR3, hag3, rfl⟩
                        have hag3 : ag [5, 16, 17] im3 im := (hag3.mono (by decide)).trans hagl
                        refine q_goto (t := 192) F dX8_tells_166 (by decide) ?_
                        refine q_iret F dX8_tells_192 rfl ?_
                        refine ⟨_, rfl, fun h => (by exfalso; apply h; omega), im3, _, rt, hbt3, hrt, hR3, agP_of (hag3.mono (by decide)), rfl⟩
                    · refine q_iload_n (t := 137) F dX8_tells_136 rfl rfl rfl ?_
                      refine q_bipush (t := 139) F dX8_tells_137 (by decide) rfl ?_
                      refine q_icmp_lt (t := 142) (u := 146) F dX8_tells_139 (by first | exact hR _ _ _ | (constructor <;> omega)) (by first | exact hR _ _ _ | (constructor <;> omega)) (by decide) rfl (fun c139 => ?_) (fun c139 => ?_)
                      · refine q_iconst (t := 147) F dX8_tells_146 rfl ?_
                        refine q_iret F dX8_tells_147 rfl ?_
                        refine ⟨_, rfl, fun h => (by exfalso; apply h; omega), _, _, rt, hbt3, hrt, hRl, agP_of (hagl.mono (by decide)), rfl⟩
                      · refine q_iconst (t := 143) F dX8_tells_142 rfl ?_
                        refine q_goto (t := 147) F dX8_tells_143 (by decide) ?_
                        refine q_iret F dX8_tells_147 rfl ?_
                        refine ⟨_, rfl, fun h => (by exfalso; apply h; omega), _, _, rt, hbt3, hrt, hRl, agP_of (hagl.mono (by decide)), rfl⟩
                  · refine q_aload_n (t := 95) F dX8_tells_94 rfl rfl rfl ?_
                    refine q_aload (t := 97) F dX8_tells_95 rfl rfl ?_
                    refine q_iload_n (t := 98) F dX8_tells_97 rfl rfl rfl ?_
                    refine q_iload_n (t := 99) F dX8_tells_98 rfl rfl rfl ?_
                    refine wp_callV (t := 102) [_, _, _] F dX8_tells_99 k_X8_allAsTold v_X8_allAsTold ml_X8_248 rfl rfl rfl rfl (Nat.le_of_ble_eq_true rfl) (by decide) (m_0 (by omega)) (c_X8_allAsTold _ G im bt rt lm hbt hrt hS0 sheet man hj (by omega) what (by omega)) rfl (kI ?_)
                    rintro x99 m' ⟨im3, bt3, hbt3, hR3, hag3, rfl⟩
                    refine q_iret F dX8_tells_102 rfl ?_
                    refine ⟨_, rfl, fun h => (by exfalso; apply h; omega), im3, bt3, rt, hbt3, hrt, hR3, agP_of (hag3.mono (by decide)), rfl⟩
                · refine q_aload_n (t := 80) F dX8_tells_79 rfl rfl rfl ?_
                  refine q_aload (t := 82) F dX8_tells_80 rfl rfl ?_
                  refine q_iload_n (t := 83) F dX8_tells_82 rfl rfl rfl ?_
                  refine q_iconst (t := 84) F dX8_tells_83 rfl ?_
                  refine q_iconst (t := 85) F dX8_tells_84 rfl ?_
                  refine wp_callV (t := 88) [_, _, _, _] F dX8_tells_85 k_X8_firstOtherwise v_X8_firstOtherwise ml_X8_244 rfl rfl rfl rfl (Nat.le_of_ble_eq_true rfl) (by decide) (m_0 (by omega)) (c_X8_firstOtherwise _ G im bt rt lm hbt hrt hS0 sheet man hj (by omega) 0 0 (by constructor <;> omega) (by constructor <;> omega) ⟨fun h => by omega, fun h => by omega⟩) rfl (kI ?_)
                  rintro x85 m' ⟨hxr, im3, bt3, hbt3, hR3, hag3, rfl⟩
                  refine q_iret F dX8_tells_88 rfl ?_
                  refine ⟨_, rfl, fun h => (by exfalso; apply h; omega), im3, bt3, rt, hbt3, hrt, hR3, agP_of (hag3.mono (by decide)), rfl⟩
              · refine q_bipush (t := 74) F dX8_tells_72 (by decide) rfl ?_
                refine q_iret F dX8_tells_74 rfl ?_
                refine ⟨_, rfl, fun _ => rfl, _, bt, rt, hbt, hrt, hR, agP_rfl _, rfl⟩
            · refine q_bipush (t := 61) F dX8_tells_59 (by decide) rfl ?_
              refine q_iret F dX8_tells_61 rfl ?_
              refine ⟨_, rfl, fun h => (by exfalso; apply h; omega), _, bt, rt, hbt, hrt, hR, agP_rfl _, rfl⟩
          · refine q_iload_n (t := 35) F dX8_tells_34 rfl rfl rfl ?_
            refine q_bipush (t := 37) F dX8_tells_35 (by decide) rfl ?_
            refine q_icmp_ge (t := 40) (u := 43) F dX8_tells_37 (by first | exact hR _ _ _ | (constructor <;> omega)) (by first | exact hR _ _ _ | (constructor <;> omega)) (by decide) rfl (fun c37 => ?_) (fun c37 => ?_)
            · refine q_aload_n (t := 44) F dX8_tells_43 rfl rfl rfl ?_
              refine g_X8_17 (t := 47) F dX8_tells_44 rfl rfl ?_
              obtain ⟨sheet, rfl⟩ : ∃ k : Nat, sheet = (k : Int) := ⟨sheet.toNat, by omega⟩
              have hj : sheet < 4 := by omega
              have hs4 := hsh sheet hj
              obtain ⟨man, rfl⟩ : ∃ k : Nat, man = (k : Int) := ⟨man.toNat, by omega⟩
              obtain ⟨r0, r1, hT, k0, k1, n0, n1, hga, hh0, hh1, hm5⟩ := cell_of hW (man := man) (by omega)
              refine q_iload_n (t := 48) F dX8_tells_47 rfl rfl rfl ?_
              first | refine laN_6 (t := 49) F dX8_tells_48 (by omega) rfl ?_ | refine la_6 (t := 49) F dX8_tells_48 (by omega) (by omega) rfl ?_
              refine q_astore (t := 51) F dX8_tells_49 (by decide) rfl rfl ?_
              refine q_aload (t := 53) F dX8_tells_51 rfl rfl ?_
              refine wp_callV (t := 56) [] F dX8_tells_53 k_X5_isMissing v_X5_isMissing ml_X8_218 rfl rfl rfl rfl (Nat.le_of_ble_eq_true rfl) (by decide) (m_7 (by omega)) (c_X5_isMissing _ G im bt rt lm sheet hj hR) rfl (kI ?_)
              rintro x53 m' ⟨hx53, rfl⟩
              have hx53 := if01 hx53
              refine q_if_eq (t := 59) (u := 62) F dX8_tells_56 (by first | exact hR _ _ _ | (constructor <;> omega)) (by decide) rfl (fun c56 => ?_) (fun c56 => ?_)
              · refine q_aload (t := 64) F dX8_tells_62 rfl rfl ?_
                refine g_X8_231 (t := 67) F dX8_tells_64 rfl (by omega) rfl ?_
                try simp only [up_app, row_app, scr_app, cpy_app, Nat.reduceEqDiff, Int.reduceToNat, Int.toNat_natCast, and_true, true_and, and_false, false_and, and_self, reduceIte]
                refine q_bipush (t := 69) F dX8_tells_67 (by decide) rfl ?_
                refine q_icmp_eq (t := 72) (u := 75) F dX8_tells_69 (by exact hR _ _ _) (by constructor <;> omega) (by decide) rfl (fun c69 => ?_) (fun c69 => ?_)
                · refine q_iload_n (t := 76) F dX8_tells_75 rfl rfl rfl ?_
                  refine q_if_ne (t := 79) (u := 89) F dX8_tells_76 (by first | exact hR _ _ _ | (constructor <;> omega)) (by decide) rfl (fun c76 => ?_) (fun c76 => ?_)
                  · refine q_iload_n (t := 90) F dX8_tells_89 rfl rfl rfl ?_
                    refine q_iconst (t := 91) F dX8_tells_90 rfl ?_
                    refine q_icmp_gt (t := 94) (u := 103) F dX8_tells_91 (by first | exact hR _ _ _ | (constructor <;> omega)) (by first | exact hR _ _ _ | (constructor <;> omega)) (by decide) rfl (fun c91 => ?_) (fun c91 => ?_)
                    · refine q_iload_n (t := 104) F dX8_tells_103 rfl rfl rfl ?_
                      refine q_bipush (t := 106) F dX8_tells_104 (by decide) rfl ?_
                      refine q_irem (t := 107) F dX8_tells_106 (by first | exact hR _ _ _ | (constructor <;> omega)) (by first | exact hR _ _ _ | (constructor <;> omega)) (by omega) (by omega) rfl ?_
                      obtain ⟨g, hg⟩ : ∃ g : Nat, what % 10 = g := ⟨(what % 10).toNat, by omega⟩
                      rw [hg]
                      refine q_istore (t := 109) F dX8_tells_107 (by decide) rfl rfl ?_
                      refine q_aload_n (t := 110) F dX8_tells_109 rfl rfl rfl ?_
                      refine g_X8_42 (t := 113) F dX8_tells_110 rfl rfl ?_
                      refine q_aload_n (t := 114) F dX8_tells_113 rfl rfl rfl ?_
                      refine g_X8_51 (t := 117) F dX8_tells_114 rfl rfl ?_
                      refine q_iload_n (t := 118) F dX8_tells_117 rfl rfl rfl ?_
                      refine q_iload (t := 120) F dX8_tells_118 rfl rfl ?_
                      refine wp_callV (t := 123) [_, _, _] F dX8_tells_120 k_X0_look v_X0_look ml_X8_139 rfl rfl rfl rfl (Nat.le_of_ble_eq_true rfl) (by decide) (m_16 (by omega)) (c_X0_look _ G im bt rt lm 0 man g (by omega) hm5 (by omega) r0 r1) rfl (kV ?_)
                      rintro m' rfl
                      have hRl := RI_look (w := 0) (p := man) (g := g) hR (by omega)
                      have hbt3 : (im 18 0 7).toNat < 6 := by omega
                      have hagl : ag [5, 16, 17] (lookM im 0 man g) im := (look_ag im 0 man g).mono (by decide)
                      refine q_aload_n (t := 124) F dX8_tells_123 rfl rfl rfl ?_
                      refine g_X8_42 (t := 127) F dX8_tells_124 rfl rfl ?_
                      refine g_X8_199 (t := 130) F dX8_tells_127 rfl rfl ?_
                      refine q_iconst (t := 131) F dX8_tells_130 rfl ?_
                      refine ldN_17 (t := 132) (j := 0) F dX8_tells_131 (by omega) rfl ?_
                      try simp only [up_app, row_app, scr_app, cpy_app, Nat.reduceEqDiff, Int.reduceToNat, Int.toNat_natCast, and_true, true_and, and_false, false_and, and_self, reduceIte]
                      refine q_iconst (t := 133) F dX8_tells_132 rfl ?_
                      refine q_icmp_ne (t := 136) (u := 148) F dX8_tells_133 (by exact hRl _ _ _) (by constructor <;> omega) (by decide) rfl (fun c133 => ?_) (fun c133 => ?_)
                      · have hBO : BO (lookM im 0 man g) (im 18 0 7).toNat := ⟨hbt3, hRl, goodT_congr (fun s => rfl) (fun s => rfl) hT, ⟨k0, k1⟩, ⟨n0, n1⟩, hga g (by omega) (by assumption), ⟨hh0, hh1⟩⟩
                        refine q_iload_n (t := 149) F dX8_tells_148 rfl rfl rfl ?_
                        refine q_bipush (t := 151) F dX8_tells_149 (by decide) rfl ?_
                        refine q_icmp_ge (t := 154) (u := 169) F dX8_tells_151 (by first | exact hR _ _ _ | (constructor <;> omega)) (by first | exact hR _ _ _ | (constructor <;> omega)) (by decide) rfl (fun c151 => ?_) (fun c151 => ?_)
                        · refine q_aload_n (t := 170) F dX8_tells_169 rfl rfl rfl ?_
                          refine q_aload (t := 172) F dX8_tells_170 rfl rfl ?_
                          refine g_X8_232 (t := 175) F dX8_tells_172 rfl (by omega) rfl ?_
                          refine q_iload (t := 177) F dX8_tells_175 rfl rfl ?_
                          first | refine ldN_8 (t := 178) F dX8_tells_177 (by omega) (by omega) rfl ?_ | refine ld_8 (t := 178) F dX8_tells_177 (by omega) (by omega) (by omega) rfl ?_
                          try simp only [up_app, row_app, scr_app, cpy_app, Nat.reduceEqDiff, Int.reduceToNat, Int.toNat_natCast, and_true, true_and, and_false, false_and, and_self, reduceIte]
                          refine q_iload_n (t := 179) F dX8_tells_178 rfl rfl rfl ?_
                          refine q_bipush (t := 181) F dX8_tells_179 (by decide) rfl ?_
                          refine q_icmp_lt (t := 184) (u := 188) F dX8_tells_181 (by first | exact hR _ _ _ | (constructor <;> omega)) (by first | exact hR _ _ _ | (constructor <;> omega)) (by decide) rfl (fun c181 => ?_) (fun c181 => ?_)
                          · refine q_iconst (t := 189) F dX8_tells_188 rfl ?_
                            refine wp_callV (t := 192) [_, _] F dX8_tells_189 k_X8_agesAsTold v_X8_agesAsTold ml_X8_255 rfl rfl rfl rfl (Nat.le_of_ble_eq_true rfl) (by decide) (m_0 (by omega)) (c_X8_agesAsTold _ G (lookM im 0 man g) (im 18 0 7).toNat rt lm hBO (im 8 sheet g) _ (hR _ _ _) (by first | exact Or.inl rfl | exact Or.inr rfl)) rfl (kI ?_)
                            rintro x189 m' ⟨im3, hR3, hag3, rfl⟩
                            have hag3 : ag [5, 16, 17] im3 im := hag3.trans hagl
                            refine q_iret F dX8_tells_192 rfl ?_
                            refine ⟨_, rfl, fun h => (by exfalso; apply h; omega), im3, _, rt, hbt3, hrt, hR3, agP_of (hag3.mono (by decide)), rfl⟩
                          · refine q_iconst (t := 185) F dX8_tells_184 rfl ?_
                            refine q_goto (t := 189) F dX8_tells_185 (by decide) ?_
                            refine wp_callV (t := 192) [_, _] F dX8_tells_189 k_X8_agesAsTold v_X8_agesAsTold ml_X8_255 rfl rfl rfl rfl (Nat.le_of_ble_eq_true rfl) (by decide) (m_0 (by omega)) (c_X8_agesAsTold _ G (lookM im 0 man g) (im 18 0 7).toNat rt lm hBO (im 8 sheet g) _ (hR _ _ _) (by first | exact Or.inl rfl | exact Or.inr rfl)) rfl (kI ?_)
                            rintro x189 m' ⟨im3, hR3, hag3, rfl⟩
                            have hag3 : ag [5, 16, 17] im3 im := hag3.trans hagl
                            refine q_iret F dX8_tells_192 rfl ?_
                            refine ⟨_, rfl, fun h => (by exfalso; apply h; omega), im3, _, rt, hbt3, hrt, hR3, agP_of (hag3.mono (by decide)), rfl⟩
                        · refine q_aload_n (t := 155) F dX8_tells_154 rfl rfl rfl ?_
                          refine q_aload (t := 157) F dX8_tells_155 rfl rfl ?_
                          refine g_X8_232 (t := 160) F dX8_tells_157 rfl (by omega) rfl ?_
                          refine q_iload (t := 162) F dX8_tells_160 rfl rfl ?_
                          first | refine ldN_8 (t := 163) F dX8_tells_162 (by omega) (by omega) rfl ?_ | refine ld_8 (t := 163) F dX8_tells_162 (by omega) (by omega) (by omega) rfl ?_
                          try simp only [up_app, row_app, scr_app, cpy_app, Nat.reduceEqDiff, Int.reduceToNat, Int.toNat_natCast, and_true, true_and, and_false, false_and, and_self, reduceIte]
                          refine wp_callV (t := 166) [_] F dX8_tells_163 k_X8_wordsAsTold v_X8_wordsAsTold ml_X8_252 rfl rfl rfl rfl (Nat.le_of_ble_eq_true rfl) (by decide) (m_0 (by omega)) (c_X8_wordsAsTold _ G (lookM im 0 man g) (im 18 0 7).toNat rt lm hBO (im 8 sheet g) (hR _ _ _)) rfl (kI ?_)
                          rintro x163 m' ⟨im3, hR3, hag3, rfl⟩
                          have hag3 : ag [5, 16, 17] im3 im := (hag3.mono (by decide)).trans hagl
                          refine q_goto (t := 192) F dX8_tells_166 (by decide) ?_
                          refine q_iret F dX8_tells_192 rfl ?_
                          refine ⟨_, rfl, fun h => (by exfalso; apply h; omega), im3, _, rt, hbt3, hrt, hR3, agP_of (hag3.mono (by decide)), rfl⟩
                      · refine q_iload_n (t := 137) F dX8_tells_136 rfl rfl rfl ?_
                        refine q_bipush (t := 139) F dX8_tells_137 (by decide) rfl ?_
                        refine q_icmp_lt (t := 142) (u := 146) F dX8_tells_139 (by first | exact hR _ _ _ | (constructor <;> omega)) (by first | exact hR _ _ _ | (constructor <;> omega)) (by decide) rfl (fun c139 => ?_) (fun c139 => ?_)
                        · refine q_iconst (t := 147) F dX8_tells_146 rfl ?_
                          refine q_iret F dX8_tells_147 rfl ?_
                          refine ⟨_, rfl, fun h => (by exfalso; apply h; omega), _, _, rt, hbt3, hrt, hRl, agP_of (hagl.mono (by decide)), rfl⟩
                        · refine q_iconst (t := 143) F dX8_tells_142 rfl ?_
                          refine q_goto (t := 147) F dX8_tells_143 (by decide) ?_
                          refine q_iret F dX8_tells_147 rfl ?_
                          refine ⟨_, rfl, fun h => (by exfalso; apply h; omega), _, _, rt, hbt3, hrt, hRl, agP_of (hagl.mono (by decide)), rfl⟩
                    · refine q_aload_n (t := 95) F dX8_tells_94 rfl rfl rfl ?_
                      refine q_aload (t := 97) F dX8_tells_95 rfl rfl ?_
                      refine q_iload_n (t := 98) F dX8_tells_97 rfl rfl rfl ?_
                      refine q_iload_n (t := 99) F dX8_tells_98 rfl rfl rfl ?_
                      refine wp_callV (t := 102) [_, _, _] F dX8_tells_99 k_X8_allAsTold v_X8_allAsTold ml_X8_248 rfl rfl rfl rfl (Nat.le_of_ble_eq_true rfl) (by decide) (m_0 (by omega)) (c_X8_allAsTold _ G im bt rt lm hbt hrt hS0 sheet man hj (by omega) what (by omega)) rfl (kI ?_)
                      rintro x99 m' ⟨im3, bt3, hbt3, hR3, hag3, rfl⟩
                      refine q_iret F dX8_tells_102 rfl ?_
                      refine ⟨_, rfl, fun h => (by exfalso; apply h; omega), im3, bt3, rt, hbt3, hrt, hR3, agP_of (hag3.mono (by decide)), rfl⟩
                  · refine q_aload_n (t := 80) F dX8_tells_79 rfl rfl rfl ?_
                    refine q_aload (t := 82) F dX8_tells_80 rfl rfl ?_
                    refine q_iload_n (t := 83) F dX8_tells_82 rfl rfl rfl ?_
                    refine q_iconst (t := 84) F dX8_tells_83 rfl ?_
                    refine q_iconst (t := 85) F dX8_tells_84 rfl ?_
                    refine wp_callV (t := 88) [_, _, _, _] F dX8_tells_85 k_X8_firstOtherwise v_X8_firstOtherwise ml_X8_244 rfl rfl rfl rfl (Nat.le_of_ble_eq_true rfl) (by decide) (m_0 (by omega)) (c_X8_firstOtherwise _ G im bt rt lm hbt hrt hS0 sheet man hj (by omega) 0 0 (by constructor <;> omega) (by constructor <;> omega) ⟨fun h => by omega, fun h => by omega⟩) rfl (kI ?_)
                    rintro x85 m' ⟨hxr, im3, bt3, hbt3, hR3, hag3, rfl⟩
                    refine q_iret F dX8_tells_88 rfl ?_
                    refine ⟨_, rfl, fun h => (by exfalso; apply h; omega), im3, bt3, rt, hbt3, hrt, hR3, agP_of (hag3.mono (by decide)), rfl⟩
                · refine q_bipush (t := 74) F dX8_tells_72 (by decide) rfl ?_
                  refine q_iret F dX8_tells_74 rfl ?_
                  refine ⟨_, rfl, fun _ => rfl, _, bt, rt, hbt, hrt, hR, agP_rfl _, rfl⟩
              · refine q_bipush (t := 61) F dX8_tells_59 (by decide) rfl ?_
                refine q_iret F dX8_tells_61 rfl ?_
                refine ⟨_, rfl, fun h => (by exfalso; apply h; omega), _, bt, rt, hbt, hrt, hR, agP_rfl _, rfl⟩
            · refine q_bipush (t := 42) F dX8_tells_40 (by decide) rfl ?_
              refine q_iret F dX8_tells_42 rfl ?_
              refine ⟨_, rfl, fun _ => rfl, _, bt, rt, hbt, hrt, hR, agP_rfl _, rfl⟩
    · refine q_bipush (t := 18) F dX8_tells_16 (by decide) rfl ?_
      refine q_iret F dX8_tells_18 rfl ?_
      refine ⟨_, rfl, fun _ => rfl, _, bt, rt, hbt, hrt, hR, agP_rfl _, rfl⟩
end
section
/-! THE JDK'S METHODS on String constants -/
theorem len_in (i : Nat) (hi : i < 13) : lenS.getD i 0 ≤ 46 := by
  revert i
  decide
theorem let_in {i j : Nat} (hi : i < 13) (hj : j < lenS.getD i 0) : 0 ≤ ((bytS.getD i []).getD j 0).toInt ∧ ((bytS.getD i []).getD j 0).toInt < 128 := by
  have h : ∀ i, i < 13 → ∀ j, j < 46 → 0 ≤ ((bytS.getD i []).getD j 0).toInt ∧ ((bytS.getD i []).getD j 0).toInt < 128 := by decide +kernel
  exact h i hi j (by have := len_in i hi; omega)
theorem nar_char (n : Nat) (h : n < 128) : narrow .char (.int (jI n)) = .int (jI n) := by
  have h2 : ∀ n, n < 128 → narrow .char (.int (jI ((n : Nat) : Int))) = .int (jI ((n : Nat) : Int)) := by decide +kernel
  exact h2 n h
section JRules
variable {M : MS} {G : GS} {ad : Ads} {Y : YS} {post : Option SV → Mem → Prop} {pc t : Nat} {ls : List (Option SV)} {st : List SV} {m : Mem}
theorem wp_gcs {idx : Nat} (F : Fx M (XC G) ad Y) (hd : decode Y.2.1 pc = .ok (.getstatic idx, 3)) (hlink : Cond.fieldLink Y.1 idx "java/lang/String" "COMPACT_STRINGS" "Z" ∈ TB) (ht : t = pc + 3) (k : Wp M (XC G) ad Y post t ls (vI 1 :: st) m) : Wp M (XC G) ad Y post pc ls st m := by
  subst ht
  intro H locs a hP hS hl
  exact va_gets F.1 F.2.1 (v := .int 1) F.2.2.2.2.2.2.2.2.1.2.2.2.1 hS F.2.2.2.1 (F.2.2.2.2.1 _ hlink) (fun _ h => h) hd (k H locs a hP hS hl)
theorem wp_gfm {idx : Nat} (F : Fx M (XC G) ad Y) (hd : decode Y.2.1 pc = .ok (.getstatic idx, 3)) (hlink : Cond.fieldLink Y.1 idx "jdk/internal/util/Preconditions" "SIOOBE_FORMATTER" "Ljava/util/function/BiFunction;" ∈ TB) (ht : t = pc + 3) (k : ∀ v : SV, (v = vN ∨ v = vR 97 0) → Wp M (XC G) ad Y post t ls (v :: st) m) : Wp M (XC G) ad Y post pc ls st m := by
  subst ht
  intro H locs a hP hS hl
  rcases F.2.2.2.2.2.2.2.2.1.2.2.2.2 with h | h
  · exact va_gets F.1 F.2.1 (v := .null) h hS F.2.2.2.1 (F.2.2.2.2.1 _ hlink) (fun _ h => h) hd (k vN (Or.inl rfl) H locs a hP hS hl)
  · exact va_gets F.1 F.2.1 (v := .ref (ad 97 0)) h hS F.2.2.2.1 (F.2.2.2.2.1 _ hlink) (fun _ h => h) hd (k (vR 97 0) (Or.inr rfl) H locs a hP hS hl)
theorem wp_gval {idx i : Nat} (F : Fx M (XC G) ad Y) (hi : i < 13) (hd : decode Y.2.1 pc = .ok (.getfield idx, 3)) (hlink : Cond.fieldLink Y.1 idx "java/lang/String" "value" "[B" ∈ TB) (ht : t = pc + 3) (k : Wp M (XC G) ad Y post t ls (vR 98 i :: st) m) : Wp M (XC G) ad Y post pc ls (vR 99 i :: st) m := by
  subst ht
  intro H locs a hP hS hl
  exact vk_getf F.1 F.2.1 (F.2.2.2.2.2.2.2.2.1.2.1.1 i hi).2.2.1 hS F.2.2.2.1 (F.2.2.2.2.1 _ hlink) (fun _ h => h) hd (k H locs a hP hS hl)
theorem wp_gcod {idx i : Nat} (F : Fx M (XC G) ad Y) (hi : i < 13) (hd : decode Y.2.1 pc = .ok (.getfield idx, 3)) (hlink : Cond.fieldLink Y.1 idx "java/lang/String" "coder" "B" ∈ TB) (ht : t = pc + 3) (k : Wp M (XC G) ad Y post t ls (vI 0 :: st) m) : Wp M (XC G) ad Y post pc ls (vR 99 i :: st) m := by
  subst ht
  intro H locs a hP hS hl
  exact vk_getf F.1 F.2.1 (F.2.2.2.2.2.2.2.2.1.2.1.1 i hi).2.1 hS F.2.2.2.1 (F.2.2.2.2.1 _ hlink) (fun _ h => h) hd (k H locs a hP hS hl)
theorem wp_slen {i : Nat} (F : Fx M (XC G) ad Y) (hi : i < 13) (hd : decode Y.2.1 pc = .ok (.arraylength, 1)) (ht : t = pc + 1) (k : Wp M (XC G) ad Y post t ls (vI ((lenS.getD i 0 : Nat) : Int) :: st) m) : Wp M (XC G) ad Y post pc ls (vR 98 i :: st) m := by
  subst ht
  intro H locs a hP hS hl
  exact va_tlen F.1 F.2.1 (F.2.2.2.2.2.2.2.2.1.2.1.1 i hi).2.2.2 hS (v := jI ((lenS.getD i 0 : Nat) : Int)) (j_nI _) hd (k H locs a hP hS hl)
/-- a letter of a constant -/
def letS (i j : Nat) : Int := ((bytS.getD i []).getD j 0).toInt
theorem wp_sbal {i j : Nat} (F : Fx M (XC G) ad Y) (hi : i < 13) (hj : j < lenS.getD i 0) (hl31 : j < 2147483648) (hd : decode Y.2.1 pc = .ok (.baload, 1)) (ht : t = pc + 1) (k : Wp M (XC G) ad Y post t ls (vI (letS i j) :: st) m) : Wp M (XC G) ad Y post pc ls (vI (j : Int) :: vR 98 i :: st) m := by
  subst ht
  intro H locs a hP hS hl
  refine va_tb F.1 F.2.1 (F.2.2.2.2.2.2.2.2.1.2.1.1 i hi).2.2.2 hS (j_in (by omega) (by omega) (by have := len_in i hi; omega)) (v := .int (jI (letS i j))) ?_ hd (k H locs a hP hS hl)
  rw [j_cl ⟨by omega, by omega⟩, Int.toNat_natCast]
  show Value.int _ = Value.int _
  rw [show jI (letS i j) = (bytS.getD i []).getD j 0 from Int32.ofInt_toInt _]
theorem q_ldcS {idx : Nat} {tx : String} (i : Nat) (F : Fx M (XC G) ad Y) (hd : decode Y.2.1 pc = .ok (.ldc idx, 2)) (hr : (Y.1, idx, tx, i) ∈ refS) (ht : t = pc + 2) (k : Wp M (XC G) ad Y post t ls (vR 99 i :: st) m) : Wp M (XC G) ad Y post pc ls st m := by
  subst ht
  intro H locs a hP hS hl
  exact va_ldcS F.1 F.2.1 F.2.2.2.1 (F.2.2.2.2.2.2.2.2.1.2.2.1 _ hr) hd (k H locs a hP hS hl)
theorem q_i2c {x : Int} (F : Fx M (XC G) ad Y) (hd : decode Y.2.1 pc = .ok (.i2c, 1)) (h0 : 0 ≤ x) (h1 : x < 65536) (ht : t = pc + 1) (k : Wp M (XC G) ad Y post t ls (vI x :: st) m) : Wp M (XC G) ad Y post pc ls (vI x :: st) m := by
  subst ht
  intro H locs a hP hS hl
  refine lv_i2c F.1 F.2.1 hd (lg_i2c_word ?_ ?_) (k H locs a hP hS hl)
  · rw [j_toInt ⟨by omega, by omega⟩]; exact h0
  · rw [j_toInt ⟨by omega, by omega⟩]; exact h1
theorem q_and255 {x : Int} (F : Fx M (XC G) ad Y) (hd : decode Y.2.1 pc = .ok (.iand, 1)) (h0 : 0 ≤ x) (h1 : x < 256) (ht : t = pc + 1) (k : Wp M (XC G) ad Y post t ls (vI x :: st) m) : Wp M (XC G) ad Y post pc ls (vI 255 :: vI x :: st) m := by
  obtain ⟨n, rfl⟩ : ∃ n : Nat, x = (n : Int) := ⟨x.toNat, by omega⟩
  refine q_iand (x := n) (y := 255) F hd ht ?_
  rw [show n &&& 255 = n from by rw [show 255 = 2 ^ 8 - 1 from rfl, Nat.and_two_pow_sub_one_eq_mod]; exact Nat.mod_eq_of_lt (by omega)]
  exact k
theorem q_cret {x : Int} (F : Fx M (XC G) ad Y) (hd : decode Y.2.1 pc = .ok (.ireturn, 1)) (hr : Y.2.2.2.1 = some .char) (hz : narrow .char (.int (jI x)) = .int (jI x)) (k : post (some (vI x)) m) : Wp M (XC G) ad Y post pc ls [vI x] m := by
  intro H locs a hP hS hl
  exact W.zret (v := jI x) F.1 F.2.1 (F.2.2.2.2.2.2.2.2.2.2.trans hr) hz (fun t ht hW => ⟨⟨some (vI x), m, rfl, k, by rw [ht]; exact hP⟩, hS.F ht⟩) hS.2.2 hd F.2.2.2.2.2.2.2.2.2.1
theorem q_bret {x : Int} (F : Fx M (XC G) ad Y) (hd : decode Y.2.1 pc = .ok (.ireturn, 1)) (hr : Y.2.2.2.1 = some .byte) (hz : narrow .byte (.int (jI x)) = .int (jI x)) (k : post (some (vI x)) m) : Wp M (XC G) ad Y post pc ls [vI x] m := by
  intro H locs a hP hS hl
  exact W.zret (v := jI x) F.1 F.2.1 (F.2.2.2.2.2.2.2.2.2.2.trans hr) hz (fun t ht hW => ⟨⟨some (vI x), m, rfl, k, by rw [ht]; exact hP⟩, hS.F ht⟩) hS.2.2 hd F.2.2.2.2.2.2.2.2.2.1
theorem q_rret {k' i' : Nat} {C : String} (F : Fx M (XC G) ad Y) (hd : decode Y.2.1 pc = .ok (.areturn, 1)) (hr : Y.2.2.2.1 = some (.object C)) (k : post (some (vR k' i')) m) : Wp M (XC G) ad Y post pc ls [vR k' i'] m := by
  intro H locs a hP hS hl
  exact W.aret (v := .ref (ad k' i')) F.1 F.2.1 (F.2.2.2.2.2.2.2.2.2.2.trans hr) (Or.inl ⟨C, rfl⟩) (Or.inr ⟨_, rfl⟩) (fun t ht hW => ⟨⟨some (vR k' i'), m, rfl, k, by rw [ht]; exact hP⟩, hS.F ht⟩) hS.2.2 hd F.2.2.2.2.2.2.2.2.2.1
/-- invokevirtual on a String constant -/
theorem wp_callK {y : MethodName} {Yc : YS} {i idx n : Nat} (as : List SV) {rest st0 : List SV} {postc : Option SV → Mem → Prop} (F : Fx M (XC G) ad Y) (hi : i < 13) (hc : y.cls = "java/lang/String") (hd : decode Y.2.1 pc = .ok (.invokevirtual idx, 3)) (hk : mOk TB y Yc n) (hv : mV TB y) (hlink : Cond.methodLink Y.1 idx y ∈ TB) (hst : st0 = as.reverse ++ vR 99 i :: rest) (hn : as.length = n) (hrest : (rest.map sc).sum ≤ 8) (hlev : Yc.2.2.2.2 + 1 ≤ Y.2.2.2.2) (hC : Cn M.2.1 (XC G) y Yc (vR 99 i :: as) m postc) (ht : t = pc + 3) (kk : ∀ (r : Option SV) (m' : Mem), postc r m' → Wp M (XC G) ad Y post t ls (r.toList ++ rest) m') : Wp M (XC G) ad Y post pc ls st0 m := by
  subst ht
  intro H locs a hP hS hl
  refine wp_back hS hl (va_runV (As := as.map (tr ad)) (n := n) ⟨F.1, F.2.1, F.2.2.1, F.2.2.2.1, F.2.2.2.2.1⟩ (hC ad H.size) ⟨cb_of F hk hlev (F.2.2.2.2.1 _ hlink), F.2.2.2.2.1 _ hv.1, F.2.2.2.2.1 _ hv.2⟩ ⟨cn_blind F.2.2.2.2.2.2.1, ?_, cn_pre F hP hS⟩ rfl (by rw [List.length_map]; exact hn) hl.1 ?_ ?_ hd ⟨Nat.le_refl 0, Nat.le_refl 0⟩) kk
  · rw [hc]
    exact vk_recv F.2.2.2.2.2.2.2.2.1.2.1 hi hS
  · show st0.map (tr ad) = _
    rw [hst, List.map_append, List.map_reverse]; rfl
  · exact lv_room (by rw [sc_sum]; exact hrest)
end JRules
theorem c_J0_coder_7d493 (l : Launch) (G : GS) (m : Mem) (i : Nat) (hi : i < 13) : Cn l (XC G) yJ0_coder_7d493 Y_J0_coder_7d493 [vR 99 i] m (pI fun x m' => x = 0 ∧ m' = m) := by
  refine cn_of (by decide) (okC G) rfl (Nat.le_of_ble_eq_true rfl) ?_
  intro M ad hMl F
  show Wp M (XC G) ad Y_J0_coder_7d493 _ 0 [some (vR 99 i)] [] m
  refine wp_gcs (t := 3) F dJ0_coder_7d493_0 fl_J0_38 rfl ?_
  refine q_if_eq (t := 6) (u := 13) F dJ0_coder_7d493_3 (by constructor <;> omega) (by decide) rfl (fun c3 => by omega) (fun c3 => ?_)
  refine q_aload_n (t := 7) F dJ0_coder_7d493_6 rfl rfl rfl ?_
  refine wp_gcod (t := 10) F hi dJ0_coder_7d493_7 fl_J0_15 rfl ?_
  refine q_goto (t := 14) F dJ0_coder_7d493_10 (by decide) ?_
  refine q_bret F dJ0_coder_7d493_14 rfl (by decide) ?_
  exact ⟨_, rfl, rfl, rfl⟩
theorem c_J0_isLatin1_aae02 (l : Launch) (G : GS) (m : Mem) (i : Nat) (hi : i < 13) : Cn l (XC G) yJ0_isLatin1_aae02 Y_J0_isLatin1_aae02 [vR 99 i] m (pI fun x m' => x = 1 ∧ m' = m) := by
  refine cn_of (by decide) (okC G) rfl (Nat.le_of_ble_eq_true rfl) ?_
  intro M ad hMl F
  show Wp M (XC G) ad Y_J0_isLatin1_aae02 _ 0 [some (vR 99 i)] [] m
  refine wp_gcs (t := 3) F dJ0_isLatin1_aae02_0 fl_J0_38 rfl ?_
  refine q_if_eq (t := 6) (u := 17) F dJ0_isLatin1_aae02_3 (by constructor <;> omega) (by decide) rfl (fun c3 => by omega) (fun c3 => ?_)
  refine q_aload_n (t := 7) F dJ0_isLatin1_aae02_6 rfl rfl rfl ?_
  refine wp_gcod (t := 10) F hi dJ0_isLatin1_aae02_7 fl_J0_15 rfl ?_
  refine q_if_ne (t := 13) (u := 17) F dJ0_isLatin1_aae02_10 (by constructor <;> omega) (by decide) rfl (fun c10 => by omega) (fun c10 => ?_)
  refine q_iconst (t := 14) F dJ0_isLatin1_aae02_13 rfl ?_
  refine q_goto (t := 18) F dJ0_isLatin1_aae02_14 (by decide) ?_
  refine q_zret F dJ0_isLatin1_aae02_18 rfl (by decide) ?_
  exact ⟨_, rfl, rfl, rfl⟩
theorem c_J0_length_8abf5 (l : Launch) (G : GS) (m : Mem) (i : Nat) (hi : i < 13) : Cn l (XC G) yJ0_length_8abf5 Y_J0_length_8abf5 [vR 99 i] m (pI fun x m' => x = ((lenS.getD i 0 : Nat) : Int) ∧ m' = m) := by
  refine cn_of (by decide) (okC G) rfl (Nat.le_of_ble_eq_true rfl) ?_
  intro M ad hMl F
  subst hMl
  show Wp M (XC G) ad Y_J0_length_8abf5 _ 0 [some (vR 99 i)] [] m
  have hL := len_in i hi
  refine q_aload_n (t := 1) F dJ0_length_8abf5_0 rfl rfl rfl ?_
  refine wp_gval (t := 4) F hi dJ0_length_8abf5_1 fl_J0_9 rfl ?_
  refine wp_slen (t := 5) F hi dJ0_length_8abf5_4 rfl ?_
  refine q_aload_n (t := 6) F dJ0_length_8abf5_5 rfl rfl rfl ?_
  refine wp_callK (t := 9) [] F hi rfl dJ0_length_8abf5_6 k_J0_coder_7d493 v_J0_coder_7d493 ml_J0_335 rfl rfl (Nat.le_of_ble_eq_true rfl) (by decide) (c_J0_coder_7d493 _ G m i hi) rfl (kI ?_)
  rintro x m' ⟨rfl, rfl⟩
  refine q_ishr (t := 10) F dJ0_length_8abf5_9 (by constructor <;> omega) (by omega) (by omega) (by omega) rfl ?_
  refine q_iret F dJ0_length_8abf5_10 rfl ?_
  exact ⟨_, rfl, Int.ediv_one _, rfl⟩
theorem c_J3_checkIndex_8e157 (l : Launch) (G : GS) (m : Mem) (i n : Int) (v : SV) (hv : v = vN ∨ v = vR 97 0) (h0 : 0 ≤ i) (h1 : i < n) (hn : ri n) : Cn l (XC G) yJ3_checkIndex_8e157 Y_J3_checkIndex_8e157 [vI i, vI n, v] m (pI fun x m' => x = i ∧ m' = m) := by
  have hn2 := hn.2
  have hsz : ent [vI i, vI n, v] = [some (vI i), some (vI n), some v] := by rcases hv with rfl | rfl <;> rfl
  refine cn_of (by decide) (okC G) rfl (by rcases hv with rfl | rfl <;> exact Nat.le_of_ble_eq_true rfl) ?_
  intro M ad hMl F
  rw [hsz]
  refine q_iload_n (t := 1) F dJ3_checkIndex_8e157_0 rfl rfl rfl ?_
  refine q_if_lt (t := 4) (u := 9) F dJ3_checkIndex_8e157_1 (by constructor <;> omega) (by decide) rfl (fun c1 => by omega) (fun c1 => ?_)
  refine q_iload_n (t := 5) F dJ3_checkIndex_8e157_4 rfl rfl rfl ?_
  refine q_iload_n (t := 6) F dJ3_checkIndex_8e157_5 rfl rfl rfl ?_
  refine q_icmp_lt (t := 9) (u := 16) F dJ3_checkIndex_8e157_6 (by constructor <;> omega) (by constructor <;> omega) (by decide) rfl (fun c6 => ?_) (fun c6 => by omega)
  refine q_iload_n (t := 17) F dJ3_checkIndex_8e157_16 rfl rfl rfl ?_
  refine q_iret F dJ3_checkIndex_8e157_17 rfl ?_
  exact ⟨_, rfl, rfl, rfl⟩
theorem c_J0_checkIndex_df160 (l : Launch) (G : GS) (m : Mem) (i n : Int) (h0 : 0 ≤ i) (h1 : i < n) (hn : ri n) : Cn l (XC G) yJ0_checkIndex_df160 Y_J0_checkIndex_df160 [vI i, vI n] m (pV fun m' => m' = m) := by
  refine cn_of (by decide) (okC G) rfl (Nat.le_of_ble_eq_true rfl) ?_
  intro M ad hMl F
  subst hMl
  show Wp M (XC G) ad Y_J0_checkIndex_df160 _ 0 [some (vI i), some (vI n)] [] m
  refine q_iload_n (t := 1) F dJ0_checkIndex_df160_0 rfl rfl rfl ?_
  refine q_iload_n (t := 2) F dJ0_checkIndex_df160_1 rfl rfl rfl ?_
  refine wp_gfm (t := 5) F dJ0_checkIndex_df160_2 fl_J0_1053 rfl (fun v hv => ?_)
  refine wp_callS (t := 8) [vI i, vI n, v] F dJ0_checkIndex_df160_5 k_J3_checkIndex_8e157 st_J3_checkIndex_8e157 ml_J0_1059 rfl rfl (Nat.le_of_ble_eq_true rfl) (by decide) (c_J3_checkIndex_8e157 _ G m i n v hv h0 h1 hn) rfl (kI ?_)
  rintro x m' ⟨rfl, rfl⟩
  refine q_popI (t := 9) F dJ0_checkIndex_df160_8 rfl ?_
  refine q_vret F dJ0_checkIndex_df160_9 rfl ?_
  exact ⟨rfl, rfl⟩
theorem c_J1_charAt_3b067 (l : Launch) (G : GS) (m : Mem) (i j : Nat) (hi : i < 13) (hj : j < lenS.getD i 0) : Cn l (XC G) yJ1_charAt_3b067 Y_J1_charAt_3b067 [vR 98 i, vI (j : Int)] m (pI fun x m' => x = letS i j ∧ m' = m) := by
  refine cn_of (by decide) (okC G) rfl (Nat.le_of_ble_eq_true rfl) ?_
  intro M ad hMl F
  subst hMl
  show Wp M (XC G) ad Y_J1_charAt_3b067 _ 0 [some (vR 98 i), some (vI (j : Int))] [] m
  have hL := len_in i hi
  have hc : 0 ≤ letS i j ∧ letS i j < 128 := let_in hi hj
  refine q_iload_n (t := 1) F dJ1_charAt_3b067_0 rfl rfl rfl ?_
  refine q_aload_n (t := 2) F dJ1_charAt_3b067_1 rfl rfl rfl ?_
  refine wp_slen (t := 3) F hi dJ1_charAt_3b067_2 rfl ?_
  refine wp_callS (t := 6) [_, _] F dJ1_charAt_3b067_3 k_J0_checkIndex_df160 st_J0_checkIndex_df160 ml_J1_9 rfl rfl (Nat.le_of_ble_eq_true rfl) (by decide) (c_J0_checkIndex_df160 _ G m j ((lenS.getD i 0 : Nat) : Int) (by omega) (by omega) (by constructor <;> omega)) rfl (kV ?_)
  rintro m' rfl
  refine q_aload_n (t := 7) F dJ1_charAt_3b067_6 rfl rfl rfl ?_
  refine q_iload_n (t := 8) F dJ1_charAt_3b067_7 rfl rfl rfl ?_
  refine wp_sbal (t := 9) F hi hj (by omega) dJ1_charAt_3b067_8 rfl ?_
  refine q_sipush (t := 12) F dJ1_charAt_3b067_9 (by decide) rfl ?_
  refine q_and255 (t := 13) F dJ1_charAt_3b067_12 hc.1 (by omega) rfl ?_
  refine q_i2c (t := 14) F dJ1_charAt_3b067_13 hc.1 (by omega) rfl ?_
  refine q_cret F dJ1_charAt_3b067_14 rfl ?_ ?_
  · obtain ⟨n, hn⟩ : ∃ n : Nat, letS i j = (n : Int) := ⟨(letS i j).toNat, by omega⟩
    rw [hn]
    exact nar_char n (by omega)
  · exact ⟨_, rfl, rfl, rfl⟩
theorem c_J0_charAt_5068e (l : Launch) (G : GS) (m : Mem) (i j : Nat) (hi : i < 13) (hj : j < lenS.getD i 0) : Cn l (XC G) yJ0_charAt_5068e Y_J0_charAt_5068e [vR 99 i, vI (j : Int)] m (pI fun x m' => x = letS i j ∧ m' = m) := by
  refine cn_of (by decide) (okC G) rfl (Nat.le_of_ble_eq_true rfl) ?_
  intro M ad hMl F
  subst hMl
  show Wp M (XC G) ad Y_J0_charAt_5068e _ 0 [some (vR 99 i), some (vI (j : Int))] [] m
  have hc : 0 ≤ letS i j ∧ letS i j < 128 := let_in hi hj
  refine q_aload_n (t := 1) F dJ0_charAt_5068e_0 rfl rfl rfl ?_
  refine wp_callK (t := 4) [] F hi rfl dJ0_charAt_5068e_1 k_J0_isLatin1_aae02 v_J0_isLatin1_aae02 ml_J0_492 rfl rfl (Nat.le_of_ble_eq_true rfl) (by decide) (c_J0_isLatin1_aae02 _ G m i hi) rfl (kI ?_)
  rintro x m' ⟨rfl, rfl⟩
  refine q_if_eq (t := 7) (u := 16) F dJ0_charAt_5068e_4 (by constructor <;> omega) (by decide) rfl (fun c4 => by omega) (fun c4 => ?_)
  refine q_aload_n (t := 8) F dJ0_charAt_5068e_7 rfl rfl rfl ?_
  refine wp_gval (t := 11) F hi dJ0_charAt_5068e_8 fl_J0_9 rfl ?_
  refine q_iload_n (t := 12) F dJ0_charAt_5068e_11 rfl rfl rfl ?_
  refine wp_callS (t := 15) [_, _] F dJ0_charAt_5068e_12 k_J1_charAt_3b067 st_J1_charAt_3b067 ml_J0_495 rfl rfl (Nat.le_of_ble_eq_true rfl) (by decide) (c_J1_charAt_3b067 _ G m' i j hi hj) rfl (kI ?_)
  rintro x m2 ⟨rfl, rfl⟩
  refine q_cret F dJ0_charAt_5068e_15 rfl ?_ ?_
  · obtain ⟨n, hn⟩ : ∃ n : Nat, letS i j = (n : Int) := ⟨(letS i j).toNat, by omega⟩
    rw [hn]
    exact nar_char n (by omega)
  · exact ⟨_, rfl, rfl, rfl⟩
end
