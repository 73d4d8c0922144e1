/-! the reference: an hour of all -/

/-- the ages where a word is stuck are no more than that -/
def AG (im : IM) (a : Int) : Prop := ∀ q : Nat, (q : Int) < 10 * im 30 0 12 → im 36 0 q ≠ -1 → im 37 0 q ≤ a
theorem RC_lv {im F S : IM} {t : Int} {n : Nat} (h : RC im) (hA : AG im 1000) (hR : RI S) (hag : agY S F) (hL : LV im t n F) : RC S ∧ (∀ q : Nat, (q : Int) < 10 * im 30 0 12 → S 36 0 q ≠ -1 → S 37 0 q ≤ im 37 0 q + 1) := by
  obtain ⟨hRi, hX, h4, h12, h7, h8, hP⟩ := h
  obtain ⟨hH, hge, hlt, h9, h30, hn0, hn1, hn2⟩ := hL
  have e30 : ∀ s, ¬ (s = 9 ∨ 30 ≤ s ∧ s ≤ 33) → ¬ (15 ≤ s ∧ s ≤ 29) → S 30 0 s = im 30 0 s := fun s a b => (hag 30 0 s (by omega)).trans (hH 30 0 s (by omega) (by omega))
  have hXF : RX F := hX.same (fun s => hH 31 0 s (by omega) (by omega)) (fun s => hH 32 0 s (by omega) (by omega)) (fun s => hH 33 0 s (by omega) (by omega)) (hH 30 0 3 (by omega) (by omega)) (hH 30 0 6 (by omega) (by omega))
  have hw : ∀ s, (S 36 0 s = im 36 0 s ∨ S 36 0 s = -1) ∧ (S 36 0 s ≠ -1 → im 36 0 s ≠ -1 ∧ (S 37 0 s = im 37 0 s ∨ S 37 0 s = im 37 0 s + 1)) := by
    intro s
    rw [hag 36 0 s (by omega), hag 37 0 s (by omega)]
    by_cases q : s < n
    · have := hlt s q
      by_cases ho : ofI im s
      · have e := (this.1 ho).1
        rw [e]
        exact ⟨Or.inr rfl, fun z => absurd rfl z⟩
      · have e := this.2 ho
        rw [e.1]
        exact ⟨Or.inl rfl, fun z => ⟨z, Or.inr (e.2.1 z)⟩⟩
    · have := hge s (by omega)
      rw [this.1, this.2.1]
      exact ⟨Or.inl rfl, fun z => ⟨z, Or.inl rfl⟩⟩
  refine ⟨⟨hR, hXF.ag hag, by rw [e30 4 (by omega) (by omega), e30 3 (by omega) (by omega)]; exact h4, by rw [e30 12 (by omega) (by omega)]; exact h12, by rw [e30 7 (by omega) (by omega)]; exact h7, by rw [e30 8 (by omega) (by omega)]; exact h8, fun p hp => ?_⟩, fun q hq hne => ?_⟩
  · rw [e30 12 (by omega) (by omega)] at hp
    have hp0 := hP p hp
    unfold RP at hp0 ⊢
    rw [hag 34 0 p (by omega), hag 35 0 p (by omega), hH 34 0 p (by omega) (by omega), hH 35 0 p (by omega) (by omega)]
    refine ⟨hp0.1, hp0.2.1, fun g hg => ?_⟩
    have a := hw (10 * p + g)
    have b := hp0.2.2 g hg
    refine ⟨by omega, by omega, fun z => ?_⟩
    have c := a.2 z
    have d := b.2.2 c.1
    have e := hA (10 * p + g) (by omega) c.1
    omega
  · have c := (hw q).2 hne
    omega

set_option maxHeartbeats 4000000 in
theorem c_X9_lives (l : Launch) (G : GS) (im : IM) (bt rt : Nat) (lm : IM) (h : RC im) (hA : AG im 1000) (t : Int) (ht : ri t) (htt : t ≠ -1) : Cn l (XR G) yX9_lives Y_X9_lives [vR 30 0, vI t] (im, rs bt rt, lm) (pV fun m' => ∃ im' lm', RI im' ∧ agY im' (up (lvN im t (10 * im 30 0 12).toNat) 30 0 7 (im 30 0 7 + 1)) ∧ lgQ lm' lm ∧ m' = (im', rs bt rt, lm')) := by
  refine cn_of (by decide) (okR G) rfl (Nat.le_of_ble_eq_true rfl) ?_
  intro M ad hMl F
  subst hMl
  obtain ⟨hRi, hX, h4, h12, h7a, h8, hP⟩ := id h
  have hR := hRi
  refine wp_pad 1 ?_
  show Wp M (XR G) ad Y_X9_lives (pV fun m' => ∃ im' lm', RI im' ∧ agY im' (up (lvN im t (10 * im 30 0 12).toNat) 30 0 7 (im 30 0 7 + 1)) ∧ lgQ lm' lm ∧ m' = (im', rs bt rt, lm')) 0 [some (vR 30 0), some (vI t), none] [] (im, rs bt rt, lm)
  refine q_iconst (t := 1) F dX9_lives_0 rfl ?_
  refine q_istore_n (t := 2) F dX9_lives_1 rfl (by decide) rfl rfl ?_
  have L2 : ∀ (fz : Nat) (q : Nat) (S lg : IM), 51 - q < fz → ((q : Int) ≤ 10 * im 30 0 12 ∧ RI S ∧ agY S (lvN im t q) ∧ lgQ lg lm) → Wp M (XR G) ad Y_X9_lives (pV fun m' => ∃ im' lm', RI im' ∧ agY im' (up (lvN im t (10 * im 30 0 12).toNat) 30 0 7 (im 30 0 7 + 1)) ∧ lgQ lm' lm ∧ m' = (im', rs bt rt, lm')) 2 [some (vR 30 0), some (vI t), some (vI (q : Int))] [] (S, rs bt rt, lg) := by
    intro fz
    induction fz with
    | zero => intro q S lg h; exact absurd h (Nat.not_lt_zero _)
    | succ fz ih =>
      have ih2 := ih
      intro q S lg hmeas ⟨hq, hR, hag, hlg⟩
      have hL := LV_N im htt q
      generalize hPd : lvN im t q = P
      rw [hPd] at hL hag
      have e12 : S 30 0 12 = im 30 0 12 := (hag 30 0 12 (by omega)).trans (hL.1 30 0 12 (by omega) (by omega))
      have hRS := RC_lv h hA hR hag hL
      have hq50 : q ≤ 50 := by omega
      have hs1 : lvN im t (q + 1) = lv1 P t q := by rw [← hPd]; rfl
      refine q_iload_n (t := 3) F dX9_lives_2 rfl rfl rfl ?_
      refine q_bipush (t := 5) F dX9_lives_3 (by decide) rfl ?_
      refine q_aload_n (t := 6) F dX9_lives_5 rfl rfl rfl ?_
      refine g_X9_88 (t := 9) F dX9_lives_6 rfl rfl ?_
      rw [e12]
      refine q_imul (t := 10) F dX9_lives_9 rfl ?_
      refine q_icmp_ge (t := 13) (u := 134) F dX9_lives_10 (by first | exact hR _ _ _ | (constructor <;> omega)) (by first | exact hR _ _ _ | (constructor <;> omega)) (by decide) rfl (fun c10 => ?_) (fun c10 => ?_)
      · obtain rfl : q = (10 * im 30 0 12).toNat := by omega
        have e7 : S 30 0 7 = im 30 0 7 := (hag 30 0 7 (by omega)).trans (hL.1 30 0 7 (by omega) (by omega))
        refine q_aload_n (t := 135) F dX9_lives_134 rfl rfl rfl ?_
        refine q_dupR (t := 136) F dX9_lives_135 rfl ?_
        refine g_X9_117 (t := 139) F dX9_lives_136 rfl rfl ?_
        refine q_iconst (t := 140) F dX9_lives_139 rfl ?_
        refine q_iadd (t := 141) F dX9_lives_140 rfl ?_
        refine p_X9_117 (t := 144) F dX9_lives_141 rfl rfl ?_
        refine q_vret F dX9_lives_144 rfl ?_
        refine ⟨rfl, _, lg, ?_, ?_, hlg, rfl⟩
        · refine RI_up hR (by constructor <;> omega)
        · rw [hPd]
          exact hag.up (by rw [e7])
      · refine q_aload_n (t := 14) F dX9_lives_13 rfl rfl rfl ?_
        refine g_X9_32 (t := 17) F dX9_lives_14 rfl rfl ?_
        refine q_iload_n (t := 18) F dX9_lives_17 rfl rfl rfl ?_
        first | refine ldN_36 (t := 19) F dX9_lives_18 (by omega) rfl ?_ | refine ld_36 (t := 19) F dX9_lives_18 (by omega) (by omega) rfl ?_
        refine q_iconst (t := 20) F dX9_lives_19 rfl ?_
        refine q_icmp_eq (t := 23) (u := 128) F dX9_lives_20 (by exact hR _ _ _) (by constructor <;> omega) (by decide) rfl (fun c20 => ?_) (fun c20 => ?_)
        · refine q_iinc (t := 131) F dX9_lives_128 rfl (by decide) rfl rfl ?_
          refine q_goto (t := 2) F dX9_lives_131 (by decide) ?_
          rw [show (q : Int) + 1 = ((q + 1 : Nat) : Int) by omega]
          first
            | (exfalso; omega)
            | (refine ih2 (q + 1) S lg (by omega) ⟨by omega, hR, ?_, hlg⟩
               rw [hs1]
               unfold lv1
               rw [if_pos (by rw [← hag 36 0 q (by omega)]; exact c20)]
               exact hag)
            | (refine ih2 (q + 1) im2 lg2 (by omega) ⟨by omega, hR2, ?_, hlg2.trans hlg⟩
               rw [hs1]
               unfold lv1
               rw [if_neg (by rw [← hag 36 0 q (by omega)]; exact w36), if_pos (by rw [← hx2, ← hag 37 0 q (by omega)]; omega)]
               exact hag2)
            | (refine ih2 (q + 1) _ lg3 (by omega) ⟨by omega, ?_, ?_, hlg3.trans (hlg2.trans hlg)⟩
               · (repeat' first | exact hR3 | refine RI_up ?_ ?_ | exact ri_b _ | assumption | exact hR3 _ _ _ | (constructor <;> omega))
               · rw [hs1]
                 unfold lv1
                 rw [if_neg (by rw [← hag 36 0 q (by omega)]; exact w36), if_neg (by rw [← hx2, ← hag 37 0 q (by omega)]; omega)]
                 unfold lvC lvF
                 rw [if_pos (by exact z33)]
                 exact (((((hB.up e36).up rfl).up rfl).up e30).up rfl))
            | (refine ih2 (q + 1) _ lg3 (by omega) ⟨by omega, ?_, ?_, hlg3.trans (hlg2.trans hlg)⟩
               · (repeat' first | exact hR3 | refine RI_up ?_ ?_ | exact ri_b _ | assumption | exact hR3 _ _ _ | (constructor <;> omega))
               · rw [hs1]
                 unfold lv1
                 rw [if_neg (by rw [← hag 36 0 q (by omega)]; exact w36), if_neg (by rw [← hx2, ← hag 37 0 q (by omega)]; omega)]
                 unfold lvC lvF
                 rw [if_neg (by exact z33)]
                 exact ((hB.up e30).up rfl))
            | omega
        · have w36 : S 36 0 q ≠ -1 := c20
          have hq5 : (q : Int) < 10 * im 30 0 12 := by omega
          have hrp := hRS.1.2.2.2.2.2.2 (q / 10) (by omega)
          have hg := hrp.2.2 (q % 10) (by omega)
          rw [show 10 * (q / 10) + q % 10 = q by omega] at hg
          have h37 := hg.2.2 w36
          have h37b : S 37 0 q ≤ 1000 := by
            have e := (hL.2.1 q (Nat.le_refl q))
            have e2 := hag 36 0 q (by omega)
            have e3 := hag 37 0 q (by omega)
            have e4 := hA q hq5 (by rw [← e.1, ← e2]; exact w36)
            omega
          have hRC1 : RC (up S 37 0 q (S 37 0 q + 1)) := by
            have hh := hRS.1
            obtain ⟨a1, a2, a3, a4, a5, a6, a7⟩ := hh
            refine ⟨RI_up a1 (by constructor <;> omega), a2.same (fun _ => rfl) (fun _ => rfl) (fun _ => rfl) rfl rfl, a3, a4, a5, a6, fun p hp => ?_⟩
            have b := a7 p hp
            refine ⟨b.1, b.2.1, fun g hgg => ?_⟩
            have c := b.2.2 g hgg
            refine ⟨c.1, c.2.1, fun z => ?_⟩
            rw [up_app]
            split
            · omega
            · exact c.2.2 z
          have hagA : agY (up S 37 0 q (S 37 0 q + 1)) (lvA P q) := hag.up (by rw [hag 37 0 q (by omega)])
          have hk35 : 0 ≤ (up S 37 0 q (S 37 0 q + 1)) 35 0 (q / 10) ∧ (up S 37 0 q (S 37 0 q + 1)) 35 0 (q / 10) < 10 := hrp.2.1
          refine q_aload_n (t := 24) F dX9_lives_23 rfl rfl rfl ?_
          refine g_X9_35 (t := 27) F dX9_lives_24 rfl rfl ?_
          refine q_iload_n (t := 28) F dX9_lives_27 rfl rfl rfl ?_
          refine q_dup2 (t := 29) F dX9_lives_28 rfl ?_
          first | refine ldN_37 (t := 30) F dX9_lives_29 (by omega) rfl ?_ | refine ld_37 (t := 30) F dX9_lives_29 (by omega) (by omega) rfl ?_
          refine q_iconst (t := 31) F dX9_lives_30 rfl ?_
          refine q_iadd (t := 32) F dX9_lives_31 rfl ?_
          first | refine stN_37 (t := 33) F dX9_lives_32 (by omega) rfl ?_ | refine st_37 (t := 33) F dX9_lives_32 (by omega) (by omega) rfl ?_
          refine q_aload_n (t := 34) F dX9_lives_33 rfl rfl rfl ?_
          refine g_X9_35 (t := 37) F dX9_lives_34 rfl rfl ?_
          refine q_iload_n (t := 38) F dX9_lives_37 rfl rfl rfl ?_
          first | refine ldN_37 (t := 39) F dX9_lives_38 (by omega) rfl ?_ | refine ld_37 (t := 39) F dX9_lives_38 (by omega) (by omega) rfl ?_
          try simp only [up_app, row_app, scr_app, cpy_app, Nat.reduceEqDiff, Int.reduceToNat, Int.toNat_natCast, and_true, true_and, and_false, false_and, and_self, reduceIte]
          refine q_aload_n (t := 40) F dX9_lives_39 rfl rfl rfl ?_
          refine q_iload_n (t := 41) F dX9_lives_40 rfl rfl rfl ?_
          refine wp_callV (t := 44) [_] F dX9_lives_41 k_X9_holdsIn v_X9_holdsIn ml_X9_135 rfl rfl rfl rfl (Nat.le_of_ble_eq_true rfl) (by decide) (m_30 (by omega)) (c_X9_holdsIn _ G (up S 37 0 q (S 37 0 q + 1)) bt rt lg hRC1 q (by show (q : Int) < 10 * S 30 0 12; omega)) rfl (kI ?_)
          rintro x41 m' ⟨im2, lg2, hx41, hR2, hag2, hlg2, rfl⟩
          have hag2 : agY im2 (lvA P q) := hag2.trans hagA
          have hx1 : x41 = hoR (up S 37 0 q (S 37 0 q + 1)) q := hx41
          have hx2 : x41 = hoR (lvA P q) q := hx1.trans (hoR_ag hagA q)
          have hx3 := hoR_in (im := (up S 37 0 q (S 37 0 q + 1))) (q := q) hk35
          rw [← hx1] at hx3
          have hRC2 : RC im2 := hRC1.ag hR2 (fun k i s z => (hag2 k i s z).trans (hagA k i s z).symm)
          have e12b : im2 30 0 12 = im 30 0 12 := by
            rw [hag2 30 0 12 (by omega), ← hagA 30 0 12 (by omega)]
            exact e12
          refine q_icmp_lt (t := 47) (u := 128) F dX9_lives_44 (by constructor <;> omega) (by constructor <;> omega) (by decide) rfl (fun c44 => ?_) (fun c44 => ?_)
          · refine q_iinc (t := 131) F dX9_lives_128 rfl (by decide) rfl rfl ?_
            refine q_goto (t := 2) F dX9_lives_131 (by decide) ?_
            rw [show (q : Int) + 1 = ((q + 1 : Nat) : Int) by omega]
            first
              | (exfalso; omega)
              | (refine ih2 (q + 1) S lg (by omega) ⟨by omega, hR, ?_, hlg⟩
                 rw [hs1]
                 unfold lv1
                 rw [if_pos (by rw [← hag 36 0 q (by omega)]; exact c20)]
                 exact hag)
              | (refine ih2 (q + 1) im2 lg2 (by omega) ⟨by omega, hR2, ?_, hlg2.trans hlg⟩
                 rw [hs1]
                 unfold lv1
                 rw [if_neg (by rw [← hag 36 0 q (by omega)]; exact w36), if_pos (by rw [← hx2, ← hag 37 0 q (by omega)]; omega)]
                 exact hag2)
              | (refine ih2 (q + 1) _ lg3 (by omega) ⟨by omega, ?_, ?_, hlg3.trans (hlg2.trans hlg)⟩
                 · (repeat' first | exact hR3 | refine RI_up ?_ ?_ | exact ri_b _ | assumption | exact hR3 _ _ _ | (constructor <;> omega))
                 · rw [hs1]
                   unfold lv1
                   rw [if_neg (by rw [← hag 36 0 q (by omega)]; exact w36), if_neg (by rw [← hx2, ← hag 37 0 q (by omega)]; omega)]
                   unfold lvC lvF
                   rw [if_pos (by exact z33)]
                   exact (((((hB.up e36).up rfl).up rfl).up e30).up rfl))
              | (refine ih2 (q + 1) _ lg3 (by omega) ⟨by omega, ?_, ?_, hlg3.trans (hlg2.trans hlg)⟩
                 · (repeat' first | exact hR3 | refine RI_up ?_ ?_ | exact ri_b _ | assumption | exact hR3 _ _ _ | (constructor <;> omega))
                 · rw [hs1]
                   unfold lv1
                   rw [if_neg (by rw [← hag 36 0 q (by omega)]; exact w36), if_neg (by rw [← hx2, ← hag 37 0 q (by omega)]; omega)]
                   unfold lvC lvF
                   rw [if_neg (by exact z33)]
                   exact ((hB.up e30).up rfl))
              | omega
          · refine q_aload_n (t := 48) F dX9_lives_47 rfl rfl rfl ?_
            refine g_X9_41 (t := 51) F dX9_lives_48 rfl rfl ?_
            refine q_iload_n (t := 52) F dX9_lives_51 rfl rfl rfl ?_
            refine q_aload_n (t := 53) F dX9_lives_52 rfl rfl rfl ?_
            refine q_iload_n (t := 54) F dX9_lives_53 rfl rfl rfl ?_
            refine wp_callV (t := 57) [_] F dX9_lives_54 k_X9_bearsIn v_X9_bearsIn ml_X9_382 rfl rfl rfl rfl (Nat.le_of_ble_eq_true rfl) (by decide) (m_30 (by omega)) (c_X9_bearsIn _ G im2 bt rt lg2 hRC2 q (by omega)) rfl (kI ?_)
            rintro x54 m' ⟨im3, lg3, hx54, hR3, hag3, hlg3, rfl⟩
            have hx5 : x54 = beR im2 q := hx54
            have hx4 : x54 = beR (lvA P q) q := hx5.trans (beR_ag hag2 q)
            have hx6 := beR_in (im := im2) (q := q) (hRC2.2.2.2.2.2.2 (q / 10) (by omega)).2.1
            rw [← hx5] at hx6
            have hag3 : agY im3 (lvA P q) := hag3.trans hag2
            first | refine stN_39 (t := 58) F dX9_lives_57 (by omega) rfl ?_ | refine st_39 (t := 58) F dX9_lives_57 (by omega) (by omega) rfl ?_
            refine q_aload_n (t := 59) F dX9_lives_58 rfl rfl rfl ?_
            refine g_X9_38 (t := 62) F dX9_lives_59 rfl rfl ?_
            refine q_iload_n (t := 63) F dX9_lives_62 rfl rfl rfl ?_
            refine q_iload_n (t := 64) F dX9_lives_63 rfl rfl rfl ?_
            first | refine stN_38 (t := 65) F dX9_lives_64 (by omega) rfl ?_ | refine st_38 (t := 65) F dX9_lives_64 (by omega) (by omega) rfl ?_
            refine q_aload_n (t := 66) F dX9_lives_65 rfl rfl rfl ?_
            refine q_dupR (t := 67) F dX9_lives_66 rfl ?_
            refine g_X9_385 (t := 70) F dX9_lives_67 rfl rfl ?_
            try simp only [up_app, row_app, scr_app, cpy_app, Nat.reduceEqDiff, Int.reduceToNat, Int.toNat_natCast, and_true, true_and, and_false, false_and, and_self, reduceIte]
            refine q_aload_n (t := 71) F dX9_lives_70 rfl rfl rfl ?_
            refine g_X9_41 (t := 74) F dX9_lives_71 rfl rfl ?_
            refine q_iload_n (t := 75) F dX9_lives_74 rfl rfl rfl ?_
            first | refine ldN_39 (t := 76) F dX9_lives_75 (by omega) rfl ?_ | refine ld_39 (t := 76) F dX9_lives_75 (by omega) (by omega) rfl ?_
            try simp only [up_app, row_app, scr_app, cpy_app, Nat.reduceEqDiff, Int.reduceToNat, Int.toNat_natCast, and_true, true_and, and_false, false_and, and_self, reduceIte]
            refine q_iadd (t := 77) F dX9_lives_76 rfl ?_
            refine q_norm ?_
            refine p_X9_385 (t := 80) F dX9_lives_77 rfl rfl ?_
            refine q_aload_n (t := 81) F dX9_lives_80 rfl rfl rfl ?_
            have hB : agY (up (up (up im3 39 0 q x54) 38 0 q t) 30 0 9 (bm (im3 30 0 9 + x54))) (lvB P t q) := by
              unfold lvB
              exact ((hag3.up hx4).up rfl).up (by rw [hx4, hag3 30 0 9 (by omega)]; rfl)
            have h33 : im3 30 0 33 = lvB P t q 30 0 33 := hag3 30 0 33 (by omega)
            have e30 : bm (im3 30 0 30 + 1) = bm (P 30 0 30 + 1) := by rw [hag3 30 0 30 (by omega)]; rfl
            have e36 : im3 36 0 q = lvB P t q 36 0 q := by
              rw [hag3 36 0 q (by omega)]
              unfold lvB
              rw [up_app, if_neg (by omega), up_app, if_neg (by omega), up_app, if_neg (by omega)]
            refine g_X9_379 (t := 84) F dX9_lives_81 rfl rfl ?_
            try simp only [up_app, row_app, scr_app, cpy_app, Nat.reduceEqDiff, Int.reduceToNat, Int.toNat_natCast, and_true, true_and, and_false, false_and, and_self, reduceIte]
            refine q_iconst (t := 85) F dX9_lives_84 rfl ?_
            refine q_icmp_ne (t := 88) (u := 111) F dX9_lives_85 (by exact hR3 _ _ _) (by constructor <;> omega) (by decide) rfl (fun c85 => ?_) (fun c85 => ?_)
            · try (have z33 : lvB P t q 30 0 33 ≠ -1 := by omega)
              refine q_aload_n (t := 112) F dX9_lives_111 rfl rfl rfl ?_
              refine q_dupR (t := 113) F dX9_lives_112 rfl ?_
              refine g_X9_370 (t := 116) F dX9_lives_113 rfl rfl ?_
              try simp only [up_app, row_app, scr_app, cpy_app, Nat.reduceEqDiff, Int.reduceToNat, Int.toNat_natCast, and_true, true_and, and_false, false_and, and_self, reduceIte]
              refine q_iconst (t := 117) F dX9_lives_116 rfl ?_
              refine q_iadd (t := 118) F dX9_lives_117 rfl ?_
              refine q_norm ?_
              refine p_X9_370 (t := 121) F dX9_lives_118 rfl rfl ?_
              refine q_aload_n (t := 122) F dX9_lives_121 rfl rfl rfl ?_
              refine g_X9_32 (t := 125) F dX9_lives_122 rfl rfl ?_
              refine q_iload_n (t := 126) F dX9_lives_125 rfl rfl rfl ?_
              refine q_iconst (t := 127) F dX9_lives_126 rfl ?_
              first | refine stN_36 (t := 128) F dX9_lives_127 (by omega) rfl ?_ | refine st_36 (t := 128) F dX9_lives_127 (by omega) (by omega) rfl ?_
              refine q_iinc (t := 131) F dX9_lives_128 rfl (by decide) rfl rfl ?_
              refine q_goto (t := 2) F dX9_lives_131 (by decide) ?_
              rw [show (q : Int) + 1 = ((q + 1 : Nat) : Int) by omega]
              first
                | (exfalso; omega)
                | (refine ih2 (q + 1) S lg (by omega) ⟨by omega, hR, ?_, hlg⟩
                   rw [hs1]
                   unfold lv1
                   rw [if_pos (by rw [← hag 36 0 q (by omega)]; exact c20)]
                   exact hag)
                | (refine ih2 (q + 1) im2 lg2 (by omega) ⟨by omega, hR2, ?_, hlg2.trans hlg⟩
                   rw [hs1]
                   unfold lv1
                   rw [if_neg (by rw [← hag 36 0 q (by omega)]; exact w36), if_pos (by rw [← hx2, ← hag 37 0 q (by omega)]; omega)]
                   exact hag2)
                | (refine ih2 (q + 1) _ lg3 (by omega) ⟨by omega, ?_, ?_, hlg3.trans (hlg2.trans hlg)⟩
                   · (repeat' first | exact hR3 | refine RI_up ?_ ?_ | exact ri_b _ | assumption | exact hR3 _ _ _ | (constructor <;> omega))
                   · rw [hs1]
                     unfold lv1
                     rw [if_neg (by rw [← hag 36 0 q (by omega)]; exact w36), if_neg (by rw [← hx2, ← hag 37 0 q (by omega)]; omega)]
                     unfold lvC lvF
                     rw [if_pos (by exact z33)]
                     exact (((((hB.up e36).up rfl).up rfl).up e30).up rfl))
                | (refine ih2 (q + 1) _ lg3 (by omega) ⟨by omega, ?_, ?_, hlg3.trans (hlg2.trans hlg)⟩
                   · (repeat' first | exact hR3 | refine RI_up ?_ ?_ | exact ri_b _ | assumption | exact hR3 _ _ _ | (constructor <;> omega))
                   · rw [hs1]
                     unfold lv1
                     rw [if_neg (by rw [← hag 36 0 q (by omega)]; exact w36), if_neg (by rw [← hx2, ← hag 37 0 q (by omega)]; omega)]
                     unfold lvC lvF
                     rw [if_neg (by exact z33)]
                     exact ((hB.up e30).up rfl))
                | omega
            · have z33 : lvB P t q 30 0 33 = -1 := by omega
              refine q_aload_n (t := 89) F dX9_lives_88 rfl rfl rfl ?_
              refine q_aload_n (t := 90) F dX9_lives_89 rfl rfl rfl ?_
              refine g_X9_32 (t := 93) F dX9_lives_90 rfl rfl ?_
              refine q_iload_n (t := 94) F dX9_lives_93 rfl rfl rfl ?_
              first | refine ldN_36 (t := 95) F dX9_lives_94 (by omega) rfl ?_ | refine ld_36 (t := 95) F dX9_lives_94 (by omega) (by omega) rfl ?_
              try simp only [up_app, row_app, scr_app, cpy_app, Nat.reduceEqDiff, Int.reduceToNat, Int.toNat_natCast, and_true, true_and, and_false, false_and, and_self, reduceIte]
              refine p_X9_373 (t := 98) F dX9_lives_95 rfl rfl ?_
              refine q_aload_n (t := 99) F dX9_lives_98 rfl rfl rfl ?_
              refine q_iload_n (t := 100) F dX9_lives_99 rfl rfl rfl ?_
              refine q_bipush (t := 102) F dX9_lives_100 (by decide) rfl ?_
              refine q_idiv (t := 103) F dX9_lives_102 (by first | exact hR _ _ _ | (constructor <;> omega)) (by first | exact hR _ _ _ | (constructor <;> omega)) (by omega) (by omega) rfl ?_
              rw [show (q : Int) / 10 = ((q / 10 : Nat) : Int) by omega]
              refine p_X9_376 (t := 106) F dX9_lives_103 rfl rfl ?_
              refine q_aload_n (t := 107) F dX9_lives_106 rfl rfl rfl ?_
              refine q_iload_n (t := 108) F dX9_lives_107 rfl rfl rfl ?_
              refine p_X9_379 (t := 111) F dX9_lives_108 rfl rfl ?_
              try (have z33 : lvB P t q 30 0 33 ≠ -1 := by omega)
              refine q_aload_n (t := 112) F dX9_lives_111 rfl rfl rfl ?_
              refine q_dupR (t := 113) F dX9_lives_112 rfl ?_
              refine g_X9_370 (t := 116) F dX9_lives_113 rfl rfl ?_
              try simp only [up_app, row_app, scr_app, cpy_app, Nat.reduceEqDiff, Int.reduceToNat, Int.toNat_natCast, and_true, true_and, and_false, false_and, and_self, reduceIte]
              refine q_iconst (t := 117) F dX9_lives_116 rfl ?_
              refine q_iadd (t := 118) F dX9_lives_117 rfl ?_
              refine q_norm ?_
              refine p_X9_370 (t := 121) F dX9_lives_118 rfl rfl ?_
              refine q_aload_n (t := 122) F dX9_lives_121 rfl rfl rfl ?_
              refine g_X9_32 (t := 125) F dX9_lives_122 rfl rfl ?_
              refine q_iload_n (t := 126) F dX9_lives_125 rfl rfl rfl ?_
              refine q_iconst (t := 127) F dX9_lives_126 rfl ?_
              first | refine stN_36 (t := 128) F dX9_lives_127 (by omega) rfl ?_ | refine st_36 (t := 128) F dX9_lives_127 (by omega) (by omega) rfl ?_
              refine q_iinc (t := 131) F dX9_lives_128 rfl (by decide) rfl rfl ?_
              refine q_goto (t := 2) F dX9_lives_131 (by decide) ?_
              rw [show (q : Int) + 1 = ((q + 1 : Nat) : Int) by omega]
              first
                | (exfalso; omega)
                | (refine ih2 (q + 1) S lg (by omega) ⟨by omega, hR, ?_, hlg⟩
                   rw [hs1]
                   unfold lv1
                   rw [if_pos (by rw [← hag 36 0 q (by omega)]; exact c20)]
                   exact hag)
                | (refine ih2 (q + 1) im2 lg2 (by omega) ⟨by omega, hR2, ?_, hlg2.trans hlg⟩
                   rw [hs1]
                   unfold lv1
                   rw [if_neg (by rw [← hag 36 0 q (by omega)]; exact w36), if_pos (by rw [← hx2, ← hag 37 0 q (by omega)]; omega)]
                   exact hag2)
                | (refine ih2 (q + 1) _ lg3 (by omega) ⟨by omega, ?_, ?_, hlg3.trans (hlg2.trans hlg)⟩
                   · (repeat' first | exact hR3 | refine RI_up ?_ ?_ | exact ri_b _ | assumption | exact hR3 _ _ _ | (constructor <;> omega))
                   · rw [hs1]
                     unfold lv1
                     rw [if_neg (by rw [← hag 36 0 q (by omega)]; exact w36), if_neg (by rw [← hx2, ← hag 37 0 q (by omega)]; omega)]
                     unfold lvC lvF
                     rw [if_pos (by exact z33)]
                     exact (((((hB.up e36).up rfl).up rfl).up e30).up rfl))
                | (refine ih2 (q + 1) _ lg3 (by omega) ⟨by omega, ?_, ?_, hlg3.trans (hlg2.trans hlg)⟩
                   · (repeat' first | exact hR3 | refine RI_up ?_ ?_ | exact ri_b _ | assumption | exact hR3 _ _ _ | (constructor <;> omega))
                   · rw [hs1]
                     unfold lv1
                     rw [if_neg (by rw [← hag 36 0 q (by omega)]; exact w36), if_neg (by rw [← hx2, ← hag 37 0 q (by omega)]; omega)]
                     unfold lvC lvF
                     rw [if_neg (by exact z33)]
                     exact ((hB.up e30).up rfl))
                | omega
  have L0 := L2 _ 0 im lm (Nat.lt_succ_self _) ⟨by omega, hRi, agY_rfl im, lgQ_rfl lm⟩
  exact L0
