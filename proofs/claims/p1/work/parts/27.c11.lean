/-! church -/
def b0F (im : IM) (n N : Nat) (c : Int) : Int := bearsW im 0 (N / 10) (N % 10) (whenF im 0 n N) c
def elsF (im : IM) (n : Nat) : Nat → Int
  | 0 => 0
  | N + 1 => if whenF im 0 n N = -1 then elsF im n N else elsF im n N + b0F im n N 0
def byF (im : IM) (n i : Nat) : Nat → Int
  | 0 => 0
  | N + 1 => if whenF im 0 n N ≠ -1 ∧ (im 18 0 4 + whenF im 0 n N) % 24 = i then byF im n i N + (b0F im n N 1 - b0F im n N 0) else byF im n i N
theorem byF_s (im : IM) (n i N : Nat) : byF im n i (N + 1) = if whenF im 0 n N ≠ -1 ∧ (im 18 0 4 + whenF im 0 n N) % 24 = i then byF im n i N + (b0F im n N 1 - b0F im n N 0) else byF im n i N := rfl
theorem elsF_s (im : IM) (n N : Nat) : elsF im n (N + 1) = if whenF im 0 n N = -1 then elsF im n N else elsF im n N + b0F im n N 0 := rfl
theorem whenF_ok {im : IM} {n N : Nat} (h : whenF im 0 n N ≠ -1) : ((N / 10 : Nat) : Int) < im 18 0 3 ∧ im 22 (5 * 0 + N / 10) (N % 10) ≠ -1 := by
  by_cases hm : ((N / 10 : Nat) : Int) < im 18 0 3
  · refine ⟨hm, fun z => h ?_⟩
    unfold whenF
    rw [if_pos hm]
    exact goesW_none z
  · exact absurd (by unfold whenF; rw [if_neg hm]) h
theorem b0F_in {im : IM} (hW : WI im 0) {n N : Nat} (h : whenF im 0 n N ≠ -1) (c : Int) : 0 ≤ b0F im n N c ∧ b0F im n N c ≤ 700 := bearsW_in hW (whenF_ok h).1 _ _ _
theorem elsF_in {im : IM} (hW : WI im 0) (n N : Nat) : 0 ≤ elsF im n N ∧ elsF im n N ≤ 700 * N := by
  induction N with
  | zero => exact ⟨Int.le_refl 0, Int.le_refl 0⟩
  | succ N ih =>
    rw [elsF_s]
    split
    · omega
    · have := b0F_in hW (by assumption) 0
      omega
theorem byF_in {im : IM} (hW : WI im 0) (n i N : Nat) : -700 * (N : Int) ≤ byF im n i N ∧ byF im n i N ≤ 700 * N := by
  induction N with
  | zero => exact ⟨Int.le_refl 0, Int.le_refl 0⟩
  | succ N ih =>
    rw [byF_s]
    split
    · rename_i h
      have h1 := b0F_in hW h.1 0
      have h2 := b0F_in hW h.1 1
      omega
    · omega

set_option maxHeartbeats 4000000 in
theorem c_X1_lookAtChurch (l : Launch) (G : GS) (im im0 : IM) (bt rt : Nat) (lm : IM) (hbt : bt < 6) (hR : RI im) (hW : WI im0 0) (n : Nat) (hn : n ≤ 60) (hFI : FI im0 im 0 n 50) : Cn l (XC G) yX1_lookAtChurch Y_X1_lookAtChurch [vR 9 0, vR 18 0, vR 16 0] (im, rs bt rt, lm) (pV fun m' => ∃ im' bt', bt' < 6 ∧ RI im' ∧ ag [5, 12, 16, 17] im' im ∧ (∀ i, i < 24 → im' 12 0 i = elsF im0 n 50 + byF im0 n i 50) ∧ m' = (im', rs bt' rt, lm)) := by
  refine cn_of (by decide) (okC G) rfl (Nat.le_of_ble_eq_true rfl) ?_
  intro M ad hMl F
  subst hMl
  have hh0g := hW.2.1
  refine wp_pad 3 ?_
  show Wp M (XC G) ad Y_X1_lookAtChurch (pV fun m' => ∃ im' bt', bt' < 6 ∧ RI im' ∧ ag [5, 12, 16, 17] im' im ∧ (∀ i, i < 24 → im' 12 0 i = elsF im0 n 50 + byF im0 n i 50) ∧ m' = (im', rs bt' rt, lm)) 0 [some (vR 9 0), some (vR 18 0), some (vR 16 0), none, none, none] [] (im, rs bt rt, lm)
  refine q_iconst (t := 1) F dX1_lookAtChurch_0 rfl ?_
  refine q_istore_n (t := 2) F dX1_lookAtChurch_1 rfl (by decide) rfl rfl ?_
  refine q_iconst (t := 3) F dX1_lookAtChurch_2 rfl ?_
  refine q_istore (t := 5) F dX1_lookAtChurch_3 (by decide) rfl rfl ?_
  have L5 : ∀ (fz : Nat) (i : Nat), 24 - i < fz → i ≤ 24 → Wp M (XC G) ad Y_X1_lookAtChurch (pV fun m' => ∃ im' bt', bt' < 6 ∧ RI im' ∧ ag [5, 12, 16, 17] im' im ∧ (∀ i, i < 24 → im' 12 0 i = elsF im0 n 50 + byF im0 n i 50) ∧ m' = (im', rs bt' rt, lm)) 5 [some (vR 9 0), some (vR 18 0), some (vR 16 0), some (vI 0), some (vI (i : Int)), none] [] (fl im 12 0 i 0, rs bt rt, lm) := by
    intro fz
    induction fz with
    | zero => intro i h; exact absurd h (Nat.not_lt_zero _)
    | succ fz ih =>
      have ih5 := ih
      intro i hmeas hi
      refine q_iload (t := 7) F dX1_lookAtChurch_5 rfl rfl ?_
      refine q_bipush (t := 9) F dX1_lookAtChurch_7 (by decide) rfl ?_
      refine q_icmp_ge (t := 12) (u := 26) F dX1_lookAtChurch_9 (by first | exact hR _ _ _ | (constructor <;> omega)) (by first | exact hR _ _ _ | (constructor <;> omega)) (by decide) rfl (fun c9 => ?_) (fun c9 => ?_)
      · refine q_iconst (t := 27) F dX1_lookAtChurch_26 rfl ?_
        refine q_istore (t := 29) F dX1_lookAtChurch_27 (by decide) rfl rfl ?_
        have L29 : ∀ (fz : Nat) (N : Nat) (im2 : IM) (bt2 : Nat), 50 - N < fz → N ≤ 50 → bt2 < 6 → RI im2 → ag [5, 12, 16, 17] im2 im → (∀ i, i < 24 → im2 12 0 i = byF im0 n i N) → Wp M (XC G) ad Y_X1_lookAtChurch (pV fun m' => ∃ im' bt', bt' < 6 ∧ RI im' ∧ ag [5, 12, 16, 17] im' im ∧ (∀ i, i < 24 → im' 12 0 i = elsF im0 n 50 + byF im0 n i 50) ∧ m' = (im', rs bt' rt, lm)) 29 [some (vR 9 0), some (vR 18 0), some (vR 16 0), some (vI (elsF im0 n N)), some (vI (N : Int)), none] [] (im2, rs bt2 rt, lm) := by
          intro fz
          induction fz with
          | zero => intro N im2 bt2 h; exact absurd h (Nat.not_lt_zero _)
          | succ fz ih =>
            have ih29 := ih
            intro N im2 bt2 hmeas hN hbt2 hR2 hagm hby
            have hag2 : ag [5, 9, 10, 11, 12, 16, 17] im2 im0 := (hagm.mono (by decide)).trans (hFI.1.mono (by decide))
            have hel := elsF_in hW n N
            have hwi0 := whenF_in im0 0 n N
            refine q_iload (t := 31) F dX1_lookAtChurch_29 rfl rfl ?_
            refine q_bipush (t := 33) F dX1_lookAtChurch_31 (by decide) rfl ?_
            refine q_icmp_ge (t := 36) (u := 128) F dX1_lookAtChurch_33 (by first | exact hR _ _ _ | (constructor <;> omega)) (by first | exact hR _ _ _ | (constructor <;> omega)) (by decide) rfl (fun c33 => ?_) (fun c33 => ?_)
            · refine q_iconst (t := 129) F dX1_lookAtChurch_128 rfl ?_
              refine q_istore (t := 131) F dX1_lookAtChurch_129 (by decide) rfl rfl ?_
              have L131 : ∀ (fz : Nat) (i : Nat) (im3 : IM), 24 - i < fz → i ≤ 24 → RI im3 → ag [5, 12, 16, 17] im3 im → (∀ j, j < 24 → im3 12 0 j = if j < i then elsF im0 n 50 + byF im0 n j 50 else byF im0 n j 50) → Wp M (XC G) ad Y_X1_lookAtChurch (pV fun m' => ∃ im' bt', bt' < 6 ∧ RI im' ∧ ag [5, 12, 16, 17] im' im ∧ (∀ i, i < 24 → im' 12 0 i = elsF im0 n 50 + byF im0 n i 50) ∧ m' = (im', rs bt' rt, lm)) 131 [some (vR 9 0), some (vR 18 0), some (vR 16 0), some (vI (elsF im0 n 50)), some (vI (i : Int)), none] [] (im3, rs bt2 rt, lm) := by
                intro fz
                induction fz with
                | zero => intro i im3 h; exact absurd h (Nat.not_lt_zero _)
                | succ fz ih =>
                  have ih131 := ih
                  intro i im3 hmeas hi hR3 hag3 hby3
                  have hbi := byF_in hW n i 50
                  have hel5 := elsF_in hW n 50
                  refine q_iload (t := 133) F dX1_lookAtChurch_131 rfl rfl ?_
                  refine q_bipush (t := 135) F dX1_lookAtChurch_133 (by decide) rfl ?_
                  refine q_icmp_ge (t := 138) (u := 155) F dX1_lookAtChurch_135 (by first | exact hR _ _ _ | (constructor <;> omega)) (by first | exact hR _ _ _ | (constructor <;> omega)) (by decide) rfl (fun c135 => ?_) (fun c135 => ?_)
                  · refine q_vret F dX1_lookAtChurch_155 rfl ?_
                    obtain rfl : i = 24 := by omega
                    exact ⟨rfl, im3, bt2, hbt2, hR3, hag3, fun j hj => by rw [hby3 j hj, if_pos hj], rfl⟩
                  · refine q_aload_n (t := 139) F dX1_lookAtChurch_138 rfl rfl rfl ?_
                    refine g_X1_18 (t := 142) F dX1_lookAtChurch_139 rfl rfl ?_
                    refine q_iload (t := 144) F dX1_lookAtChurch_142 rfl rfl ?_
                    refine q_dup2 (t := 145) F dX1_lookAtChurch_144 rfl ?_
                    first | refine ldN_12 (t := 146) F dX1_lookAtChurch_145 (by omega) rfl ?_ | refine ld_12 (t := 146) F dX1_lookAtChurch_145 (by omega) (by omega) rfl ?_
                    refine q_iload_n (t := 147) F dX1_lookAtChurch_146 rfl rfl rfl ?_
                    refine q_iadd (t := 148) F dX1_lookAtChurch_147 rfl ?_
                    first | refine stN_12 (t := 149) F dX1_lookAtChurch_148 (by omega) rfl ?_ | refine st_12 (t := 149) F dX1_lookAtChurch_148 (by omega) (by omega) rfl ?_
                    refine q_iinc (t := 152) F dX1_lookAtChurch_149 rfl (by decide) rfl rfl ?_
                    refine q_goto (t := 131) F dX1_lookAtChurch_152 (by decide) ?_
                    refine ih131 (i + 1) _ (by omega) (by omega) (RI_up hR3 (by rw [hby3 i (by omega), if_neg (by omega)]; constructor <;> omega)) (ag_up hag3 (by decide)) (fun j hj => ?_)
                    rw [up_app]
                    by_cases hji : j = i
                    · rw [if_pos ⟨rfl, rfl, hji⟩, hji, if_pos (by omega), hby3 i (by omega), if_neg (by omega), Int.add_comm]
                    · rw [if_neg (fun z => hji z.2.2), hby3 j hj]
                      by_cases hlt : j < i
                      · rw [if_pos hlt, if_pos (by omega)]
                      · rw [if_neg hlt, if_neg (by omega)]
              obtain rfl : N = 50 := by omega
              exact L131 _ 0 im2 (Nat.lt_succ_self _) (by omega) hR2 hagm (fun j hj => by rw [if_neg (by omega)]; exact hby j hj)
            · refine q_aload_n (t := 37) F dX1_lookAtChurch_36 rfl rfl rfl ?_
              refine g_X1_9 (t := 40) F dX1_lookAtChurch_37 rfl rfl ?_
              refine q_iload (t := 42) F dX1_lookAtChurch_40 rfl rfl ?_
              first | refine ldN_10 (t := 43) F dX1_lookAtChurch_42 (by omega) rfl ?_ | refine ld_10 (t := 43) F dX1_lookAtChurch_42 (by omega) (by omega) rfl ?_
              rw [show im2 10 0 N = whenF im0 0 n N from (hagm 10 (by decide) 0 N).trans (hFI.2.1 N (by omega)).1]
              refine q_iconst (t := 44) F dX1_lookAtChurch_43 rfl ?_
              refine q_icmp_ne (t := 47) (u := 50) F dX1_lookAtChurch_44 (by first | exact hR _ _ _ | (constructor <;> omega)) (by first | exact hR _ _ _ | (constructor <;> omega)) (by decide) rfl (fun c44 => ?_) (fun c44 => ?_)
              · refine q_aload_n (t := 51) F dX1_lookAtChurch_50 rfl rfl rfl ?_
                refine q_aload_n (t := 52) F dX1_lookAtChurch_51 rfl rfl rfl ?_
                refine q_iload (t := 54) F dX1_lookAtChurch_52 rfl rfl ?_
                refine q_bipush (t := 56) F dX1_lookAtChurch_54 (by decide) rfl ?_
                refine q_idiv (t := 57) F dX1_lookAtChurch_56 (by first | exact hR _ _ _ | (constructor <;> omega)) (by first | exact hR _ _ _ | (constructor <;> omega)) (by omega) (by omega) rfl ?_
                refine q_iload (t := 59) F dX1_lookAtChurch_57 rfl rfl ?_
                refine q_bipush (t := 61) F dX1_lookAtChurch_59 (by decide) rfl ?_
                refine q_irem (t := 62) F dX1_lookAtChurch_61 (by first | exact hR _ _ _ | (constructor <;> omega)) (by first | exact hR _ _ _ | (constructor <;> omega)) (by omega) (by omega) rfl ?_
                rw [show (N : Int) / 10 = ((N / 10 : Nat) : Int) by omega, show (N : Int) % 10 = ((N % 10 : Nat) : Int) by omega]
                have hok := whenF_ok c44
                have hWB := WI_ag hag2 (by decide) (by decide) (by decide) (by decide) (by decide) (by decide) hW
                have hmB : ((N / 10 : Nat) : Int) < im2 18 0 3 := by rw [hag2 18 (by decide)]; exact hok.1
                obtain ⟨r0, r1, hT, k0, k1, n0, n1, hga, hh0, hh1, hm5⟩ := cell_of hWB hmB
                have hwne : im2 22 (5 * 0 + N / 10) (N % 10) ≠ -1 := by rw [hag2 22 (by decide)]; exact hok.2
                have hbeB : ∀ x c, bearsW im2 0 (N / 10) (N % 10) x c = bearsW im0 0 (N / 10) (N % 10) x c := fun x c => bearsW_ag hag2 (by decide) (by decide) (by decide) (by decide) (by decide) (by decide) _ _ _ _ _
                have hwi := whenF_in im0 0 n N
                have hbb0 := b0F_in hW c44 0
                have hbb1 := b0F_in hW c44 1
                obtain ⟨wn, hwn⟩ : ∃ wn, wn = whenF im0 0 n N := ⟨_, rfl⟩
                have e4 : im2 18 0 4 = im0 18 0 4 := hag2 18 (by decide) 0 4
                refine wp_callV (t := 65) [_, _, _] F dX1_lookAtChurch_62 k_X0_look v_X0_look ml_X1_39 rfl rfl rfl rfl (Nat.le_of_ble_eq_true rfl) (by decide) (m_16 (by omega)) (c_X0_look _ G im2 bt2 rt lm 0 (N / 10) (N % 10) (by omega) hm5 (by omega) r0 r1) rfl (kV ?_)
                rintro m' rfl
                have hRl := RI_look (w := 0) (p := N / 10) (g := N % 10) hR2 (by omega)
                have hb4 : (im2 18 0 7).toNat < 6 := by omega
                refine q_aload_n (t := 66) F dX1_lookAtChurch_65 rfl rfl rfl ?_
                refine q_aload_n (t := 67) F dX1_lookAtChurch_66 rfl rfl rfl ?_
                refine g_X1_9 (t := 70) F dX1_lookAtChurch_67 rfl rfl ?_
                refine q_iload (t := 72) F dX1_lookAtChurch_70 rfl rfl ?_
                first | refine ldN_10 (t := 73) F dX1_lookAtChurch_72 (by omega) rfl ?_ | refine ld_10 (t := 73) F dX1_lookAtChurch_72 (by omega) (by omega) rfl ?_
                try simp only [up_app, row_app, scr_app, cpy_app, Nat.reduceEqDiff, Int.reduceToNat, Int.toNat_natCast, and_true, true_and, and_false, false_and, and_self, reduceIte]
                rw [show lookM im2 0 (N / 10) (N % 10) 10 0 N = wn from by rw [hwn]; exact (hagm 10 (by decide) 0 N).trans (hFI.2.1 N (by omega)).1]
                refine q_iconst (t := 74) F dX1_lookAtChurch_73 rfl ?_
                refine wp_callV (t := 77) [_, _] F dX1_lookAtChurch_74 k_X0_bears v_X0_bears ml_X1_53 rfl rfl rfl rfl (Nat.le_of_ble_eq_true rfl) (by decide) (m_16 (by omega)) (c_X0_bears _ G (lookM im2 0 (N / 10) (N % 10)) (im2 18 0 7).toNat rt lm wn 0 (by omega) (by omega) (by omega) (by omega) hb4 hRl (goodT_congr (fun s => rfl) (fun s => rfl) hT) k0 k1 n0 n1 (hga _ (by omega) hwne) hh0 hh1) rfl (kI ?_)
                rintro x m' ⟨hx, xa, xb, xg, hxa, hxb, hxg, rfl⟩
                rw [look_bears, hbeB] at hx
                have hxe : x = b0F im0 n N 0 := by rw [hx, hwn]; rfl
                rw [hxe]
                have hR5 := RI_scr hRl hxa hxb hxg
                have hel2 := elsF_in hW n N
                refine q_istore (t := 79) F dX1_lookAtChurch_77 (by decide) rfl rfl ?_
                refine q_iload_n (t := 80) F dX1_lookAtChurch_79 rfl rfl rfl ?_
                refine q_iload (t := 82) F dX1_lookAtChurch_80 rfl rfl ?_
                refine q_iadd (t := 83) F dX1_lookAtChurch_82 rfl ?_
                refine q_istore_n (t := 84) F dX1_lookAtChurch_83 rfl (by decide) rfl rfl ?_
                refine q_aload_n (t := 85) F dX1_lookAtChurch_84 rfl rfl rfl ?_
                refine g_X1_18 (t := 88) F dX1_lookAtChurch_85 rfl rfl ?_
                refine q_aload_n (t := 89) F dX1_lookAtChurch_88 rfl rfl rfl ?_
                refine g_X1_61 (t := 92) F dX1_lookAtChurch_89 rfl (by omega) rfl ?_
                try simp only [up_app, row_app, scr_app, cpy_app, Nat.reduceEqDiff, Int.reduceToNat, Int.toNat_natCast, and_true, true_and, and_false, false_and, and_self, reduceIte]
                refine q_aload_n (t := 93) F dX1_lookAtChurch_92 rfl rfl rfl ?_
                refine g_X1_9 (t := 96) F dX1_lookAtChurch_93 rfl rfl ?_
                refine q_iload (t := 98) F dX1_lookAtChurch_96 rfl rfl ?_
                first | refine ldN_10 (t := 99) F dX1_lookAtChurch_98 (by omega) rfl ?_ | refine ld_10 (t := 99) F dX1_lookAtChurch_98 (by omega) (by omega) rfl ?_
                try simp only [up_app, row_app, scr_app, cpy_app, Nat.reduceEqDiff, Int.reduceToNat, Int.toNat_natCast, and_true, true_and, and_false, false_and, and_self, reduceIte]
                rw [show lookM im2 0 (N / 10) (N % 10) 10 0 N = wn from by rw [hwn]; exact (hagm 10 (by decide) 0 N).trans (hFI.2.1 N (by omega)).1, show lookM im2 0 (N / 10) (N % 10) 18 0 4 = im0 18 0 4 from e4]
                refine q_iadd (t := 100) F dX1_lookAtChurch_99 rfl ?_
                refine q_bipush (t := 102) F dX1_lookAtChurch_100 (by decide) rfl ?_
                refine q_irem (t := 103) F dX1_lookAtChurch_102 (by first | exact hR _ _ _ | (constructor <;> omega)) (by first | exact hR _ _ _ | (constructor <;> omega)) (by omega) (by omega) rfl ?_
                refine q_dup2 (t := 104) F dX1_lookAtChurch_103 rfl ?_
                refine ld_12 (t := 105) F dX1_lookAtChurch_104 (by omega) (by omega) rfl ?_
                try simp only [up_app, row_app, scr_app, cpy_app, Nat.reduceEqDiff, Int.reduceToNat, Int.toNat_natCast, and_true, true_and, and_false, false_and, and_self, reduceIte]
                refine q_aload_n (t := 106) F dX1_lookAtChurch_105 rfl rfl rfl ?_
                refine q_aload_n (t := 107) F dX1_lookAtChurch_106 rfl rfl rfl ?_
                refine g_X1_9 (t := 110) F dX1_lookAtChurch_107 rfl rfl ?_
                refine q_iload (t := 112) F dX1_lookAtChurch_110 rfl rfl ?_
                first | refine ldN_10 (t := 113) F dX1_lookAtChurch_112 (by omega) rfl ?_ | refine ld_10 (t := 113) F dX1_lookAtChurch_112 (by omega) (by omega) rfl ?_
                try simp only [up_app, row_app, scr_app, cpy_app, Nat.reduceEqDiff, Int.reduceToNat, Int.toNat_natCast, and_true, true_and, and_false, false_and, and_self, reduceIte]
                rw [show lookM im2 0 (N / 10) (N % 10) 10 0 N = wn from by rw [hwn]; exact (hagm 10 (by decide) 0 N).trans (hFI.2.1 N (by omega)).1]
                refine q_iconst (t := 114) F dX1_lookAtChurch_113 rfl ?_
                refine wp_callV (t := 117) [_, _] F dX1_lookAtChurch_114 k_X0_bears v_X0_bears ml_X1_53 rfl rfl rfl rfl (Nat.le_of_ble_eq_true rfl) (by decide) (m_16 (by omega)) (c_X0_bears _ G (scr (lookM im2 0 (N / 10) (N % 10)) xa xb xg) (im2 18 0 7).toNat rt lm wn 1 (by omega) (by omega) (by omega) (by omega) hb4 hR5 (goodT_scr (goodT_congr (fun s => rfl) (fun s => rfl) hT)) k0 k1 n0 n1 (hga _ (by omega) hwne) hh0 hh1) rfl (kI ?_)
                rintro y m' ⟨hy, ya, yb, yg, hya, hyb, hyg, rfl⟩
                rw [bearsB_scr, look_bears, hbeB] at hy
                have hye : y = b0F im0 n N 1 := by rw [hy, hwn]; rfl
                rw [hye, scr_scr]
                have hR6 := RI_scr hRl hya hyb hyg
                have hag6 : ag [5, 12, 16, 17] (scr (lookM im2 0 (N / 10) (N % 10)) ya yb yg) im := ((scr_ag _ _ _ _).mono (by decide)).trans (((look_ag im2 0 _ _).mono (by decide)).trans hagm)
                have hag6b : ∀ s, scr (lookM im2 0 (N / 10) (N % 10)) ya yb yg 12 0 s = im2 12 0 s := fun s => rfl
                have hbyw := byF_in hW n ((im0 18 0 4 + wn) % 24).toNat N
                have hbyv := hby ((im0 18 0 4 + wn) % 24).toNat (by omega)
                rw [show lookM im2 0 (N / 10) (N % 10) 12 0 ((im0 18 0 4 + wn) % 24).toNat = im2 12 0 ((im0 18 0 4 + wn) % 24).toNat from rfl]
                refine q_iload (t := 119) F dX1_lookAtChurch_117 rfl rfl ?_
                refine q_isub (t := 120) F dX1_lookAtChurch_119 rfl ?_
                refine q_iadd (t := 121) F dX1_lookAtChurch_120 rfl ?_
                refine st_12 (t := 122) F dX1_lookAtChurch_121 (by omega) (by omega) rfl ?_
                refine q_iinc (t := 125) F dX1_lookAtChurch_122 rfl (by decide) rfl rfl ?_
                refine q_goto (t := 29) F dX1_lookAtChurch_125 (by decide) ?_
                refine wp_less 5 ?_
                first
                  | (rw [show elsF im0 n N = elsF im0 n (N + 1) from by rw [elsF_s, if_pos c44]]
                     refine ih29 (N + 1) im2 bt2 (by omega) (by omega) hbt2 hR2 hagm (fun i hi => ?_)
                     rw [hby i hi, byF_s, if_neg (fun z => z.1 c44)])
                  | (rw [show elsF im0 n N + b0F im0 n N 0 = elsF im0 n (N + 1) from by rw [elsF_s, if_neg c44]]
                     refine ih29 (N + 1) _ _ (by omega) (by omega) hb4 (RI_up hR6 (by constructor <;> omega)) (ag_up hag6 (by decide)) (fun i hi => ?_)
                     rw [up_app, byF_s]
                     by_cases hii : i = ((im0 18 0 4 + wn) % 24).toNat
                     · rw [if_pos ⟨rfl, rfl, hii⟩, if_pos ⟨c44, by rw [← hwn]; omega⟩, hby _ (by omega), hii]
                     · rw [if_neg (fun z => hii z.2.2), if_neg (by rw [← hwn]; omega), hag6b i, hby i hi])
              · refine q_goto (t := 122) F dX1_lookAtChurch_47 (by decide) ?_
                refine q_iinc (t := 125) F dX1_lookAtChurch_122 rfl (by decide) rfl rfl ?_
                refine q_goto (t := 29) F dX1_lookAtChurch_125 (by decide) ?_
                refine wp_less 5 ?_
                first
                  | (rw [show elsF im0 n N = elsF im0 n (N + 1) from by rw [elsF_s, if_pos c44]]
                     refine ih29 (N + 1) im2 bt2 (by omega) (by omega) hbt2 hR2 hagm (fun i hi => ?_)
                     rw [hby i hi, byF_s, if_neg (fun z => z.1 c44)])
                  | (rw [show elsF im0 n N + b0F im0 n N 0 = elsF im0 n (N + 1) from by rw [elsF_s, if_neg c44]]
                     refine ih29 (N + 1) _ _ (by omega) (by omega) hb4 (RI_up hR6 (by constructor <;> omega)) (ag_up hag6 (by decide)) (fun i hi => ?_)
                     rw [up_app, byF_s]
                     by_cases hii : i = ((im0 18 0 4 + wn) % 24).toNat
                     · rw [if_pos ⟨rfl, rfl, hii⟩, if_pos ⟨c44, by rw [← hwn]; omega⟩, hby _ (by omega), hii]
                     · rw [if_neg (fun z => hii z.2.2), if_neg (by rw [← hwn]; omega), hag6b i, hby i hi])
        obtain rfl : i = 24 := by omega
        refine L29 _ 0 _ bt (Nat.lt_succ_self _) (by omega) hbt (RI_fl hR (by constructor <;> omega)) ?_ (fun j hj => by rw [fl_app, if_pos ⟨rfl, rfl, hj⟩]; rfl)
        intro k hk i s
        rw [fl_app, if_neg (fun z => hk (by rw [z.1]; decide))]
      · refine q_aload_n (t := 13) F dX1_lookAtChurch_12 rfl rfl rfl ?_
        refine g_X1_18 (t := 16) F dX1_lookAtChurch_13 rfl rfl ?_
        refine q_iload (t := 18) F dX1_lookAtChurch_16 rfl rfl ?_
        refine q_iconst (t := 19) F dX1_lookAtChurch_18 rfl ?_
        first | refine stN_12 (t := 20) F dX1_lookAtChurch_19 (by omega) rfl ?_ | refine st_12 (t := 20) F dX1_lookAtChurch_19 (by omega) (by omega) rfl ?_
        refine q_iinc (t := 23) F dX1_lookAtChurch_20 rfl (by decide) rfl rfl ?_
        refine q_goto (t := 5) F dX1_lookAtChurch_23 (by decide) ?_
        rw [fl_s]
        exact ih5 (i + 1) (by omega) (by omega)
  have h := L5 _ 0 (Nat.lt_succ_self _) (by omega)
  rw [fl_0] at h
  exact h

/-- the first least -/
def lst (f : Nat → Int) : Nat → Nat
  | 0 => 0
  | i + 1 => if f i < f (lst f i) then i else lst f i
theorem lst_s (f : Nat → Int) (i : Nat) : lst f (i + 1) = if f i < f (lst f i) then i else lst f i := rfl
theorem lst_in (f : Nat → Int) (i : Nat) (h : 0 < i) : lst f i < i := by
  induction i with
  | zero => omega
  | succ i ih =>
    rw [lst_s]
    split
    · omega
    · by_cases hi : i = 0
      · subst hi; show (0 : Nat) < 1; omega
      · have := ih (by omega); omega
theorem lst_congr {f g : Nat → Int} (n : Nat) (h : ∀ k, k < n → f k = g k) : lst f n = lst g n := by
  induction n with
  | zero => rfl
  | succ n ih =>
    by_cases hn : n = 0
    · subst hn; rw [lst_s, lst_s]; rw [ih (fun k hk => h k (by omega)), h 0 (by omega)]
      by_cases h0 : lst g 0 = 0
      · rw [h0, h 0 (by omega)]
      · exact absurd rfl h0
    · have := lst_in g n (by omega)
      rw [lst_s, lst_s, ih (fun k hk => h k (by omega)), h n (by omega), h _ (by omega)]
def chF (im : IM) (n i : Nat) : Int := elsF im n 50 + byF im n i 50
def churchA (im : IM) (n what : Int) : Int := if (0 ≤ n ∧ n ≤ 60) ∧ 0 ≤ what ∧ what < 2 then (if what = 0 then ((lst (chF im n.toNat) 24 : Nat) : Int) else chF im n.toNat (lst (chF im n.toNat) 24)) else -2

set_option maxHeartbeats 4000000 in
theorem c_X8_church (l : Launch) (G : GS) (im : IM) (bt rt : Nat) (lm : IM) (hbt : bt < 6) (hrt : rt < 6) (hS : SC im) (n : Int) (what : Int) (hn : ri n) (hwhat : ri what) : Cn l (XC G) yX8_church Y_X8_church [vR 0 0, vI n, vI what] (im, rs bt rt, lm) (pI fun x m' => x = churchA im n what ∧ stC lm im m') := by
  refine cn_of (by decide) (okC G) rfl (Nat.le_of_ble_eq_true rfl) ?_
  intro M ad hMl F
  subst hMl
  obtain ⟨hR, hW, hh, htc, hru, hgt, hz, hrd, hsh, him, htp⟩ := hS
  have w1 := hW.1
  have w2 := hW.2.1
  have w3 := hW.2.2.1
  have w4 := hW.2.2.2.1
  have w5 := hW.2.2.2.2.1
  have hn1 := hn.1
  have hn2 := hn.2
  have hwhat1 := hwhat.1
  have hwhat2 := hwhat.2
  refine wp_pad 2 ?_
  show Wp M (XC G) ad Y_X8_church (pI fun x m' => x = churchA im n what ∧ stC lm im m') 0 [some (vR 0 0), some (vI n), some (vI what), none, none] [] (im, rs bt rt, lm)
  refine q_iload_n (t := 1) F dX8_church_0 rfl rfl rfl ?_
  refine wp_callS (t := 4) [_] F dX8_church_1 k_X8_isSpan st_X8_isSpan ml_X8_163 rfl rfl (Nat.le_of_ble_eq_true rfl) (by decide) (c_X8_isSpan _ G _ bt rt lm n hn) rfl (kI ?_)
  rintro x1 m' ⟨hx1, rfl⟩
  have hx1 := if01 hx1
  refine q_if_eq (t := 7) (u := 15) F dX8_church_4 (by first | exact hR _ _ _ | (constructor <;> omega)) (by decide) rfl (fun c4 => ?_) (fun c4 => ?_)
  · refine q_bipush (t := 17) F dX8_church_15 (by decide) rfl ?_
    refine q_iret F dX8_church_17 rfl ?_
    refine ⟨_, rfl, ?_, _, bt, rt, hbt, hrt, (by repeat' first | exact hR | refine RI_up ?_ ?_ | assumption | exact hR _ _ _ | (constructor <;> omega)), ?_, rfl⟩
    · unfold churchA
      (repeat' split) <;> omega
    · exact agP_rfl _
  · refine q_iload_n (t := 8) F dX8_church_7 rfl rfl rfl ?_
    refine q_iconst (t := 9) F dX8_church_8 rfl ?_
    refine wp_callS (t := 12) [_, _] F dX8_church_9 k_X8_within st_X8_within ml_X8_95 rfl rfl (Nat.le_of_ble_eq_true rfl) (by decide) (c_X8_within _ G _ bt rt lm what 2 hwhat (by constructor <;> omega)) rfl (kI ?_)
    rintro x9 m' ⟨hx9, rfl⟩
    have hx9 := if01 hx9
    refine q_if_ne (t := 15) (u := 18) F dX8_church_12 (by first | exact hR _ _ _ | (constructor <;> omega)) (by decide) rfl (fun c12 => ?_) (fun c12 => ?_)
    · obtain ⟨n, rfl⟩ : ∃ k : Nat, n = (k : Int) := ⟨n.toNat, by omega⟩
      refine q_aload_n (t := 19) F dX8_church_18 rfl rfl rfl ?_
      refine g_X8_24 (t := 22) F dX8_church_19 rfl rfl ?_
      refine q_aload_n (t := 23) F dX8_church_22 rfl rfl rfl ?_
      refine g_X8_51 (t := 26) F dX8_church_23 rfl rfl ?_
      refine q_aload_n (t := 27) F dX8_church_26 rfl rfl rfl ?_
      refine g_X8_42 (t := 30) F dX8_church_27 rfl rfl ?_
      refine q_iload_n (t := 31) F dX8_church_30 rfl rfl rfl ?_
      refine wp_callV (t := 34) [_, _, _] F dX8_church_31 k_X1_look v_X1_look ml_X8_166 rfl rfl rfl rfl (Nat.le_of_ble_eq_true rfl) (by decide) (m_9 (by omega)) (c_X1_look _ G im bt rt lm 0 (by omega) hbt hR hW n (by omega)) rfl (kV ?_)
      rintro m' ⟨imF, btF, hbtF, hRF, hFI, rfl⟩
      refine q_aload_n (t := 35) F dX8_church_34 rfl rfl rfl ?_
      refine g_X8_24 (t := 38) F dX8_church_35 rfl rfl ?_
      refine q_aload_n (t := 39) F dX8_church_38 rfl rfl rfl ?_
      refine g_X8_51 (t := 42) F dX8_church_39 rfl rfl ?_
      refine q_aload_n (t := 43) F dX8_church_42 rfl rfl rfl ?_
      refine g_X8_42 (t := 46) F dX8_church_43 rfl rfl ?_
      refine wp_callV (t := 49) [_, _] F dX8_church_46 k_X1_lookAtChurch v_X1_lookAtChurch ml_X8_211 rfl rfl rfl rfl (Nat.le_of_ble_eq_true rfl) (by decide) (m_9 (by omega)) (c_X1_lookAtChurch _ G imF im btF rt lm hbtF hRF hW n (by omega) hFI) rfl (kV ?_)
      rintro m' ⟨im2, bt2, hbt2, hR2, hag2, hby, rfl⟩
      refine q_iconst (t := 50) F dX8_church_49 rfl ?_
      refine q_istore_n (t := 51) F dX8_church_50 rfl (by decide) rfl rfl ?_
      refine q_iconst (t := 52) F dX8_church_51 rfl ?_
      refine q_istore (t := 54) F dX8_church_52 (by decide) rfl rfl ?_
      have L54 : ∀ (fz : Nat) (i : Nat), 24 - i < fz → 1 ≤ i → i ≤ 24 → Wp M (XC G) ad Y_X8_church (pI fun x m' => x = churchA im n what ∧ stC lm im m') 54 [some (vR 0 0), some (vI (n : Int)), some (vI what), some (vI ((lst (im2 12 0) i : Nat) : Int)), some (vI (i : Int))] [] (im2, rs bt2 rt, lm) := by
        intro fz
        induction fz with
        | zero => intro i h; exact absurd h (Nat.not_lt_zero _)
        | succ fz ih =>
          have ih54 := ih
          intro i hmeas hi1 hi
          have hli := lst_in (im2 12 0) i (by omega)
          refine q_iload (t := 56) F dX8_church_54 rfl rfl ?_
          refine q_bipush (t := 58) F dX8_church_56 (by decide) rfl ?_
          refine q_icmp_ge (t := 61) (u := 92) F dX8_church_58 (by first | exact hR _ _ _ | (constructor <;> omega)) (by first | exact hR _ _ _ | (constructor <;> omega)) (by decide) rfl (fun c58 => ?_) (fun c58 => ?_)
          · refine q_iload_n (t := 93) F dX8_church_92 rfl rfl rfl ?_
            refine q_if_ne (t := 96) (u := 100) F dX8_church_93 (by first | exact hR _ _ _ | (constructor <;> omega)) (by decide) rfl (fun c93 => ?_) (fun c93 => ?_)
            · refine q_aload_n (t := 101) F dX8_church_100 rfl rfl rfl ?_
              refine g_X8_24 (t := 104) F dX8_church_101 rfl rfl ?_
              refine g_X8_215 (t := 107) F dX8_church_104 rfl rfl ?_
              refine q_iload_n (t := 108) F dX8_church_107 rfl rfl rfl ?_
              first | refine ldN_12 (t := 109) F dX8_church_108 (by omega) rfl ?_ | refine ld_12 (t := 109) F dX8_church_108 (by omega) (by omega) rfl ?_
              try simp only [up_app, row_app, scr_app, cpy_app, Nat.reduceEqDiff, Int.reduceToNat, Int.toNat_natCast, and_true, true_and, and_false, false_and, and_self, reduceIte]
              refine q_iret F dX8_church_109 rfl ?_
              obtain rfl : i = 24 := by omega
              refine ⟨_, rfl, ?_, im2, bt2, rt, hbt2, hrt, hR2, agP_of ((hag2.mono (by decide)).trans (hFI.1.mono (by decide))), rfl⟩
              unfold churchA
              simp only [Int.toNat_natCast]
              have hlc : lst (im2 12 0) 24 = lst (chF im n) 24 := lst_congr 24 (fun k hk => hby k hk)
              have hli2 := lst_in (chF im n) 24 (by omega)
              first
                | (rw [if_pos (by omega), if_pos (by omega), hlc])
                | (rw [if_pos (by omega), if_neg (by omega), hlc, hby _ hli2]; rfl)
            · refine q_iload_n (t := 97) F dX8_church_96 rfl rfl rfl ?_
              refine q_goto (t := 109) F dX8_church_97 (by decide) ?_
              refine q_iret F dX8_church_109 rfl ?_
              obtain rfl : i = 24 := by omega
              refine ⟨_, rfl, ?_, im2, bt2, rt, hbt2, hrt, hR2, agP_of ((hag2.mono (by decide)).trans (hFI.1.mono (by decide))), rfl⟩
              unfold churchA
              simp only [Int.toNat_natCast]
              have hlc : lst (im2 12 0) 24 = lst (chF im n) 24 := lst_congr 24 (fun k hk => hby k hk)
              have hli2 := lst_in (chF im n) 24 (by omega)
              first
                | (rw [if_pos (by omega), if_pos (by omega), hlc])
                | (rw [if_pos (by omega), if_neg (by omega), hlc, hby _ hli2]; rfl)
          · refine q_aload_n (t := 62) F dX8_church_61 rfl rfl rfl ?_
            refine g_X8_24 (t := 65) F dX8_church_62 rfl rfl ?_
            refine g_X8_215 (t := 68) F dX8_church_65 rfl rfl ?_
            refine q_iload (t := 70) F dX8_church_68 rfl rfl ?_
            first | refine ldN_12 (t := 71) F dX8_church_70 (by omega) rfl ?_ | refine ld_12 (t := 71) F dX8_church_70 (by omega) (by omega) rfl ?_
            try simp only [up_app, row_app, scr_app, cpy_app, Nat.reduceEqDiff, Int.reduceToNat, Int.toNat_natCast, and_true, true_and, and_false, false_and, and_self, reduceIte]
            refine q_aload_n (t := 72) F dX8_church_71 rfl rfl rfl ?_
            refine g_X8_24 (t := 75) F dX8_church_72 rfl rfl ?_
            refine g_X8_215 (t := 78) F dX8_church_75 rfl rfl ?_
            refine q_iload_n (t := 79) F dX8_church_78 rfl rfl rfl ?_
            first | refine ldN_12 (t := 80) F dX8_church_79 (by omega) rfl ?_ | refine ld_12 (t := 80) F dX8_church_79 (by omega) (by omega) rfl ?_
            try simp only [up_app, row_app, scr_app, cpy_app, Nat.reduceEqDiff, Int.reduceToNat, Int.toNat_natCast, and_true, true_and, and_false, false_and, and_self, reduceIte]
            refine q_icmp_ge (t := 83) (u := 86) F dX8_church_80 (by exact hR2 _ _ _) (by exact hR2 _ _ _) (by decide) rfl (fun c80 => ?_) (fun c80 => ?_)
            · refine q_iinc (t := 89) F dX8_church_86 rfl (by decide) rfl rfl ?_
              refine q_goto (t := 54) F dX8_church_89 (by decide) ?_
              first
                | (have e9 : lst (im2 12 0) (i + 1) = i := by rw [lst_s, if_pos c80]
                   have h := ih54 (i + 1) (by omega) (by omega) (by omega)
                   rw [e9] at h
                   exact h)
                | (have e9 : lst (im2 12 0) (i + 1) = lst (im2 12 0) i := by rw [lst_s, if_neg (by omega)]
                   have h := ih54 (i + 1) (by omega) (by omega) (by omega)
                   rw [e9] at h
                   exact h)
            · refine q_iload (t := 85) F dX8_church_83 rfl rfl ?_
              refine q_istore_n (t := 86) F dX8_church_85 rfl (by decide) rfl rfl ?_
              refine q_iinc (t := 89) F dX8_church_86 rfl (by decide) rfl rfl ?_
              refine q_goto (t := 54) F dX8_church_89 (by decide) ?_
              first
                | (have e9 : lst (im2 12 0) (i + 1) = i := by rw [lst_s, if_pos c80]
                   have h := ih54 (i + 1) (by omega) (by omega) (by omega)
                   rw [e9] at h
                   exact h)
                | (have e9 : lst (im2 12 0) (i + 1) = lst (im2 12 0) i := by rw [lst_s, if_neg (by omega)]
                   have h := ih54 (i + 1) (by omega) (by omega) (by omega)
                   rw [e9] at h
                   exact h)
      have e1 : lst (im2 12 0) 1 = 0 := by (rw [lst_s]; split <;> rfl)
      have h := L54 _ 1 (Nat.lt_succ_self _) (by omega) (by omega)
      rw [e1] at h
      exact h
    · refine q_bipush (t := 17) F dX8_church_15 (by decide) rfl ?_
      refine q_iret F dX8_church_17 rfl ?_
      refine ⟨_, rfl, ?_, _, bt, rt, hbt, hrt, (by repeat' first | exact hR | refine RI_up ?_ ?_ | assumption | exact hR _ _ _ | (constructor <;> omega)), ?_, rfl⟩
      · unfold churchA
        (repeat' split) <;> omega
      · exact agP_rfl _
