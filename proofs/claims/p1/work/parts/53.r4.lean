/-! church, image, sheets, a text of the empty tape -/
set_option maxHeartbeats 4000000 in
theorem f_X9_church (l : Launch) (G : GS) (im : IM) (bt rt : Nat) (lm : IM) (hF : FR im) (n : Int) (what : Int) (hn : ri n) (hwhat : ri what) : Cn l (XR G) yX9_church Y_X9_church [vR 30 0, vI n, vI what] (im, rs bt rt, lm) (pI fun x m' => x = (if (0 ≤ n ∧ n ≤ 60) ∧ 0 ≤ what ∧ what ≤ 1 then 0 else -2) ∧ ∃ im' lm', m' = (im', rs bt rt, lm')) := by
  refine cn_of (by decide) (okR G) rfl (Nat.le_of_ble_eq_true rfl) ?_
  intro M ad hMl F
  subst hMl
  obtain ⟨hR, f3, f4, f6, f7, f8, f9, f12, f46, f47⟩ := hF
  have hn1 := hn.1
  have hn2 := hn.2
  have hwhat1 := hwhat.1
  have hwhat2 := hwhat.2
  refine wp_pad 4 ?_
  show Wp M (XR G) ad Y_X9_church (pI fun x m' => x = (if (0 ≤ n ∧ n ≤ 60) ∧ 0 ≤ what ∧ what ≤ 1 then 0 else -2) ∧ ∃ im' lm', m' = (im', rs bt rt, lm')) 0 [some (vR 30 0), some (vI n), some (vI what), none, none, none, none] [] (im, rs bt rt, lm)
  refine q_iload_n (t := 1) F dX9_church_0 rfl rfl rfl ?_
  refine q_i2l (t := 2) F dX9_church_1 (by first | exact hR _ _ _ | (constructor <;> omega)) rfl ?_
  refine q_lconst (t := 3) (x := 0) F dX9_church_2 (by decide) rfl ?_
  refine q_ldc2 (t := 6) (x := 60) F dX9_church_3 kl_X9_242 (by decide) rfl ?_
  refine wp_callS (t := 9) [_, _, _] F dX9_church_6 k_X9_in st_X9_in ml_X9_91 rfl rfl (Nat.le_of_ble_eq_true rfl) (by decide) (c_X9_in _ G _ _ _ _ _ _ _ (by constructor <;> omega) (by constructor <;> omega) (by constructor <;> omega)) rfl (kI ?_)
  rintro x6 m' ⟨hx6, rfl⟩
  have hx6 := if01 hx6
  refine q_if_eq (t := 12) (u := 22) F dX9_church_9 (by first | exact hR _ _ _ | (constructor <;> omega)) (by decide) rfl (fun c9 => ?_) (fun c9 => ?_)
  · refine q_bipush (t := 24) F dX9_church_22 (by decide) rfl ?_
    refine q_iret F dX9_church_24 rfl ?_
    first
      | (refine ⟨_, rfl, ?_, _, _, rfl⟩
         (repeat' split) <;> omega)
      | (exfalso; omega)
  · refine q_iload_n (t := 13) F dX9_church_12 rfl rfl rfl ?_
    refine q_i2l (t := 14) F dX9_church_13 (by first | exact hR _ _ _ | (constructor <;> omega)) rfl ?_
    refine q_lconst (t := 15) (x := 0) F dX9_church_14 (by decide) rfl ?_
    refine q_lconst (t := 16) (x := 1) F dX9_church_15 (by decide) rfl ?_
    refine wp_callS (t := 19) [_, _, _] F dX9_church_16 k_X9_in st_X9_in ml_X9_91 rfl rfl (Nat.le_of_ble_eq_true rfl) (by decide) (c_X9_in _ G _ _ _ _ _ _ _ (by constructor <;> omega) (by constructor <;> omega) (by constructor <;> omega)) rfl (kI ?_)
    rintro x16 m' ⟨hx16, rfl⟩
    have hx16 := if01 hx16
    refine q_if_ne (t := 22) (u := 25) F dX9_church_19 (by first | exact hR _ _ _ | (constructor <;> omega)) (by decide) rfl (fun c19 => ?_) (fun c19 => ?_)
    · refine q_aload_n (t := 26) F dX9_church_25 rfl rfl rfl ?_
      refine g_X9_23 (t := 29) F dX9_church_26 rfl rfl ?_
      try simp only [up_app, row_app, scr_app, cpy_app, Nat.reduceEqDiff, Int.reduceToNat, Int.toNat_natCast, and_true, true_and, and_false, false_and, and_self, reduceIte]
      refine q_istore_n (t := 30) F dX9_church_29 rfl (by decide) rfl rfl ?_
      refine q_iconst (t := 31) F dX9_church_30 rfl ?_
      refine q_istore (t := 33) F dX9_church_31 (by decide) rfl rfl ?_
      refine q_iconst (t := 34) F dX9_church_33 rfl ?_
      refine q_istore (t := 36) F dX9_church_34 (by decide) rfl rfl ?_
      refine q_iconst (t := 37) F dX9_church_36 rfl ?_
      refine q_istore (t := 39) F dX9_church_37 (by decide) rfl rfl ?_
      have L39 : ∀ (fz : Nat) (h : Nat) (fo : Int) (im1 : IM), 24 - h < fz → h ≤ 24 → RI im1 → (h = 0 ∧ fo = -1 ∨ 0 < h ∧ fo = 0) → (∀ s, ¬ (30 ≤ s ∧ s ≤ 33) → ¬ (38 ≤ s ∧ s ≤ 40) ∧ s ≠ 8 → im1 30 0 s = im 30 0 s) → Wp M (XR G) ad Y_X9_church (pI fun x m' => x = (if (0 ≤ n ∧ n ≤ 60) ∧ 0 ≤ what ∧ what ≤ 1 then 0 else -2) ∧ ∃ im' lm', m' = (im', rs bt rt, lm')) 39 [some (vR 30 0), some (vI n), some (vI what), some (vI (im 30 0 8)), some (vI fo), some (vI 0), some (vI (h : Int))] [] (im1, rs bt rt, lm) := by
        intro fz
        induction fz with
        | zero => intro h fo im1 h; exact absurd h (Nat.not_lt_zero _)
        | succ fz ih =>
          have ih39 := ih
          intro h fo im1 hmeas hh hR1 hfo gs
          refine q_iload (t := 41) F dX9_church_39 rfl rfl ?_
          refine q_bipush (t := 43) F dX9_church_41 (by decide) rfl ?_
          refine q_icmp_ge (t := 46) (u := 90) F dX9_church_43 (by constructor <;> omega) (by constructor <;> omega) (by decide) rfl (fun c43 => ?_) (fun c43 => ?_)
          · refine q_aload_n (t := 91) F dX9_church_90 rfl rfl rfl ?_
            refine q_iload_n (t := 92) F dX9_church_91 rfl rfl rfl ?_
            refine p_X9_23 (t := 95) F dX9_church_92 rfl rfl ?_
            refine q_iload_n (t := 96) F dX9_church_95 rfl rfl rfl ?_
            refine q_if_ne (t := 99) (u := 104) F dX9_church_96 (by first | exact hR _ _ _ | (constructor <;> omega)) (by decide) rfl (fun c96 => ?_) (fun c96 => ?_)
            · refine q_iload (t := 106) F dX9_church_104 rfl rfl ?_
              refine q_iret F dX9_church_106 rfl ?_
              first
                | (refine ⟨_, rfl, ?_, _, _, rfl⟩
                   (repeat' split) <;> omega)
                | (exfalso; omega)
            · refine q_iload (t := 101) F dX9_church_99 rfl rfl ?_
              refine q_goto (t := 106) F dX9_church_101 (by decide) ?_
              refine q_iret F dX9_church_106 rfl ?_
              first
                | (refine ⟨_, rfl, ?_, _, _, rfl⟩
                   (repeat' split) <;> omega)
                | (exfalso; omega)
          · refine q_aload_n (t := 47) F dX9_church_46 rfl rfl rfl ?_
            refine q_iconst (t := 48) F dX9_church_47 rfl ?_
            refine q_iload (t := 50) F dX9_church_48 rfl rfl ?_
            refine q_ishl (t := 51) F dX9_church_50 (by omega) (by omega) rfl ?_
            try rw [Int.toNat_natCast]
            have hsh : ri (1 * 2 ^ h) := by
              have hp : (2 : Nat) ^ h ≤ 8388608 := Nat.le_trans (Nat.pow_le_pow_right (by omega) (by omega : h ≤ 23)) (by decide)
              have he : ((2 : Int) ^ h) = ((2 ^ h : Nat) : Int) := by rw [Int.natCast_pow]; rfl
              generalize (2 ^ h : Nat) = N at hp he
              rw [he]
              constructor <;> omega
            refine p_X9_23 (t := 54) F dX9_church_51 rfl rfl ?_
            refine q_aload_n (t := 55) F dX9_church_54 rfl rfl rfl ?_
            refine q_iload_n (t := 56) F dX9_church_55 rfl rfl rfl ?_
            refine wp_callV (t := 59) [_] F dX9_church_56 k_X9_runs v_X9_runs ml_X9_410 rfl rfl rfl rfl (Nat.le_of_ble_eq_true rfl) (by decide) (m_30 (by omega)) (f_X9_runs _ G _ bt rt lm (RI_up hR1 hsh) (by rw [up_app, if_neg (by omega)]; exact (gs 7 (by omega) (by omega)).trans f7) (by rw [up_app, if_neg (by omega)]; exact (gs 9 (by omega) (by omega)).trans f9) (by rw [up_app, if_neg (by omega)]; exact (gs 12 (by omega) (by omega)).trans f12) n (by omega) (by omega)) rfl (kV ?_)
            rintro m' ⟨im2, hR2, g40, -, -, -, -, gs2, rfl⟩
            refine q_iload (t := 61) F dX9_church_59 rfl rfl ?_
            refine q_iconst (t := 62) F dX9_church_61 rfl ?_
            refine q_icmp_eq (t := 65) (u := 74) F dX9_church_62 (by constructor <;> omega) (by constructor <;> omega) (by decide) rfl (fun c62 => ?_) (fun c62 => ?_)
            · refine q_iload (t := 76) F dX9_church_74 rfl rfl ?_
              refine q_istore (t := 78) F dX9_church_76 (by decide) rfl rfl ?_
              refine q_aload_n (t := 79) F dX9_church_78 rfl rfl rfl ?_
              try rw [g40]
              refine g_X9_401 (t := 82) F dX9_church_79 rfl rfl ?_
              try simp only [up_app, row_app, scr_app, cpy_app, Nat.reduceEqDiff, Int.reduceToNat, Int.toNat_natCast, and_true, true_and, and_false, false_and, and_self, reduceIte]
              try rw [g40]
              refine q_istore (t := 84) F dX9_church_82 (by decide) rfl rfl ?_
              refine q_iinc (t := 87) F dX9_church_84 rfl (by decide) rfl rfl ?_
              refine q_goto (t := 39) F dX9_church_87 (by decide) ?_
              rw [show (h : Int) + 1 = ((h + 1 : Nat) : Int) by omega]
              first
                | (obtain rfl : h = 0 := by omega
                   exact ih39 (0 + 1) 0 im2 (by omega) (by omega) hR2 (Or.inr ⟨by omega, rfl⟩) (fun s q1 q2 => by rw [gs2 s q1 q2.1, up_app, if_neg (by omega)]; exact gs s q1 q2))
                | exact ih39 (h + 1) fo im2 (by omega) (by omega) hR2 (Or.inr ⟨by omega, by omega⟩) (fun s q1 q2 => by rw [gs2 s q1 q2.1, up_app, if_neg (by omega)]; exact gs s q1 q2)
            · refine q_aload_n (t := 66) F dX9_church_65 rfl rfl rfl ?_
              refine g_X9_401 (t := 69) F dX9_church_66 rfl rfl ?_
              try simp only [up_app, row_app, scr_app, cpy_app, Nat.reduceEqDiff, Int.reduceToNat, Int.toNat_natCast, and_true, true_and, and_false, false_and, and_self, reduceIte]
              refine q_iload (t := 71) F dX9_church_69 rfl rfl ?_
              refine q_icmp_ge (t := 74) (u := 84) F dX9_church_71 (by rw [g40]; constructor <;> omega) (by constructor <;> omega) (by decide) rfl (fun c71 => ?_) (fun c71 => ?_)
              · refine q_iinc (t := 87) F dX9_church_84 rfl (by decide) rfl rfl ?_
                refine q_goto (t := 39) F dX9_church_87 (by decide) ?_
                rw [show (h : Int) + 1 = ((h + 1 : Nat) : Int) by omega]
                first
                  | (obtain rfl : h = 0 := by omega
                     exact ih39 (0 + 1) 0 im2 (by omega) (by omega) hR2 (Or.inr ⟨by omega, rfl⟩) (fun s q1 q2 => by rw [gs2 s q1 q2.1, up_app, if_neg (by omega)]; exact gs s q1 q2))
                  | exact ih39 (h + 1) fo im2 (by omega) (by omega) hR2 (Or.inr ⟨by omega, by omega⟩) (fun s q1 q2 => by rw [gs2 s q1 q2.1, up_app, if_neg (by omega)]; exact gs s q1 q2)
              · refine q_iload (t := 76) F dX9_church_74 rfl rfl ?_
                refine q_istore (t := 78) F dX9_church_76 (by decide) rfl rfl ?_
                refine q_aload_n (t := 79) F dX9_church_78 rfl rfl rfl ?_
                try rw [g40]
                refine g_X9_401 (t := 82) F dX9_church_79 rfl rfl ?_
                try simp only [up_app, row_app, scr_app, cpy_app, Nat.reduceEqDiff, Int.reduceToNat, Int.toNat_natCast, and_true, true_and, and_false, false_and, and_self, reduceIte]
                try rw [g40]
                refine q_istore (t := 84) F dX9_church_82 (by decide) rfl rfl ?_
                refine q_iinc (t := 87) F dX9_church_84 rfl (by decide) rfl rfl ?_
                refine q_goto (t := 39) F dX9_church_87 (by decide) ?_
                rw [show (h : Int) + 1 = ((h + 1 : Nat) : Int) by omega]
                first
                  | (obtain rfl : h = 0 := by omega
                     exact ih39 (0 + 1) 0 im2 (by omega) (by omega) hR2 (Or.inr ⟨by omega, rfl⟩) (fun s q1 q2 => by rw [gs2 s q1 q2.1, up_app, if_neg (by omega)]; exact gs s q1 q2))
                  | exact ih39 (h + 1) fo im2 (by omega) (by omega) hR2 (Or.inr ⟨by omega, by omega⟩) (fun s q1 q2 => by rw [gs2 s q1 q2.1, up_app, if_neg (by omega)]; exact gs s q1 q2)
      exact L39 _ 0 (-1) im (Nat.lt_succ_self _) (by omega) hR (Or.inl ⟨rfl, rfl⟩) (fun s _ _ => rfl)
    · refine q_bipush (t := 24) F dX9_church_22 (by decide) rfl ?_
      refine q_iret F dX9_church_24 rfl ?_
      first
        | (refine ⟨_, rfl, ?_, _, _, rfl⟩
           (repeat' split) <;> omega)
        | (exfalso; omega)

set_option maxHeartbeats 4000000 in
theorem f_X9_image (l : Launch) (G : GS) (im : IM) (bt rt : Nat) (lm : IM) (f12 : im 30 0 12 = 0) : Cn l (XR G) yX9_image Y_X9_image [vR 30 0] (im, rs bt rt, lm) (pI fun x m' => x = 0 ∧ ∃ im' lm', m' = (im', rs bt rt, lm')) := by
  refine cn_of (by decide) (okR G) rfl (Nat.le_of_ble_eq_true rfl) ?_
  intro M ad hMl F
  subst hMl
  refine wp_pad 1 ?_
  show Wp M (XR G) ad Y_X9_image (pI fun x m' => x = 0 ∧ ∃ im' lm', m' = (im', rs bt rt, lm')) 0 [some (vR 30 0), none] [] (im, rs bt rt, lm)
  refine q_iconst (t := 1) F dX9_image_0 rfl ?_
  refine q_istore_n (t := 2) F dX9_image_1 rfl (by decide) rfl rfl ?_
  have L2 : ∀ (fz : Nat) (i : Nat) (im1 : IM), 5 - i < fz → i ≤ 5 → (∀ s, im1 30 0 s = im 30 0 s) → Wp M (XR G) ad Y_X9_image (pI fun x m' => x = 0 ∧ ∃ im' lm', m' = (im', rs bt rt, lm')) 2 [some (vR 30 0), some (vI (i : Int))] [] (im1, rs bt rt, lm) := by
    intro fz
    induction fz with
    | zero => intro i im1 h; exact absurd h (Nat.not_lt_zero _)
    | succ fz ih =>
      have ih2 := ih
      intro i im1 hmeas hi hs
      refine q_iload_n (t := 3) F dX9_image_2 rfl rfl rfl ?_
      refine q_iconst (t := 4) F dX9_image_3 rfl ?_
      refine q_icmp_ge (t := 7) (u := 25) F dX9_image_4 (by constructor <;> omega) (by constructor <;> omega) (by decide) rfl (fun c4 => ?_) (fun c4 => ?_)
      · refine q_iconst (t := 26) F dX9_image_25 rfl ?_
        refine q_istore_n (t := 27) F dX9_image_26 rfl (by decide) rfl rfl ?_
        have L27 : ∀ (fz : Nat) (q : Nat) (im2 : IM), 50 - q < fz → q ≤ 50 → (∀ s, im2 30 0 s = im 30 0 s) → Wp M (XR G) ad Y_X9_image (pI fun x m' => x = 0 ∧ ∃ im' lm', m' = (im', rs bt rt, lm')) 27 [some (vR 30 0), some (vI (q : Int))] [] (im2, rs bt rt, lm) := by
          intro fz
          induction fz with
          | zero => intro q im2 h; exact absurd h (Nat.not_lt_zero _)
          | succ fz ih =>
            have ih27 := ih
            intro q im2 hmeas hq hs2
            refine q_iload_n (t := 28) F dX9_image_27 rfl rfl rfl ?_
            refine q_bipush (t := 30) F dX9_image_28 (by decide) rfl ?_
            refine q_icmp_ge (t := 33) (u := 63) F dX9_image_30 (by constructor <;> omega) (by constructor <;> omega) (by decide) rfl (fun c30 => ?_) (fun c30 => ?_)
            · refine q_aload_n (t := 64) F dX9_image_63 rfl rfl rfl ?_
              refine q_aload_n (t := 65) F dX9_image_64 rfl rfl rfl ?_
              refine g_X9_88 (t := 68) F dX9_image_65 rfl rfl ?_
              refine p_X9_65 (t := 71) F dX9_image_68 rfl rfl ?_
              refine q_aload_n (t := 72) F dX9_image_71 rfl rfl rfl ?_
              refine q_aload_n (t := 73) F dX9_image_72 rfl rfl rfl ?_
              refine g_X9_117 (t := 76) F dX9_image_73 rfl rfl ?_
              try simp only [up_app, row_app, scr_app, cpy_app, Nat.reduceEqDiff, Int.reduceToNat, Int.toNat_natCast, and_true, true_and, and_false, false_and, and_self, reduceIte]
              refine p_X9_459 (t := 79) F dX9_image_76 rfl rfl ?_
              refine q_aload_n (t := 80) F dX9_image_79 rfl rfl rfl ?_
              refine q_aload_n (t := 81) F dX9_image_80 rfl rfl rfl ?_
              refine g_X9_23 (t := 84) F dX9_image_81 rfl rfl ?_
              try simp only [up_app, row_app, scr_app, cpy_app, Nat.reduceEqDiff, Int.reduceToNat, Int.toNat_natCast, and_true, true_and, and_false, false_and, and_self, reduceIte]
              refine p_X9_462 (t := 87) F dX9_image_84 rfl rfl ?_
              refine q_aload_n (t := 88) F dX9_image_87 rfl rfl rfl ?_
              refine q_aload_n (t := 89) F dX9_image_88 rfl rfl rfl ?_
              refine g_X9_385 (t := 92) F dX9_image_89 rfl rfl ?_
              try simp only [up_app, row_app, scr_app, cpy_app, Nat.reduceEqDiff, Int.reduceToNat, Int.toNat_natCast, and_true, true_and, and_false, false_and, and_self, reduceIte]
              refine p_X9_465 (t := 95) F dX9_image_92 rfl rfl ?_
              refine q_aload_n (t := 96) F dX9_image_95 rfl rfl rfl ?_
              refine q_aload_n (t := 97) F dX9_image_96 rfl rfl rfl ?_
              refine g_X9_120 (t := 100) F dX9_image_97 rfl rfl ?_
              try simp only [up_app, row_app, scr_app, cpy_app, Nat.reduceEqDiff, Int.reduceToNat, Int.toNat_natCast, and_true, true_and, and_false, false_and, and_self, reduceIte]
              refine p_X9_468 (t := 103) F dX9_image_100 rfl rfl ?_
              refine q_aload_n (t := 104) F dX9_image_103 rfl rfl rfl ?_
              refine g_X9_88 (t := 107) F dX9_image_104 rfl rfl ?_
              try simp only [up_app, row_app, scr_app, cpy_app, Nat.reduceEqDiff, Int.reduceToNat, Int.toNat_natCast, and_true, true_and, and_false, false_and, and_self, reduceIte]
              refine q_iret F dX9_image_107 rfl ?_
              exact ⟨_, rfl, by first | exact (hs2 12).trans f12 | (simp only [up_app]; repeat rw [if_neg (by omega)]; exact (hs2 12).trans f12), _, _, rfl⟩
            · refine q_aload_n (t := 34) F dX9_image_33 rfl rfl rfl ?_
              refine g_X9_59 (t := 37) F dX9_image_34 rfl rfl ?_
              refine q_iload_n (t := 38) F dX9_image_37 rfl rfl rfl ?_
              refine q_aload_n (t := 39) F dX9_image_38 rfl rfl rfl ?_
              refine g_X9_32 (t := 42) F dX9_image_39 rfl rfl ?_
              refine q_iload_n (t := 43) F dX9_image_42 rfl rfl rfl ?_
              first | refine ldN_36 (t := 44) F dX9_image_43 (by omega) rfl ?_ | refine ld_36 (t := 44) F dX9_image_43 (by omega) (by omega) rfl ?_
              first | refine stN_45 (t := 45) F dX9_image_44 (by omega) rfl ?_ | refine st_45 (t := 45) F dX9_image_44 (by omega) (by omega) rfl ?_
              refine q_aload_n (t := 46) F dX9_image_45 rfl rfl rfl ?_
              refine g_X9_62 (t := 49) F dX9_image_46 rfl rfl ?_
              refine q_iload_n (t := 50) F dX9_image_49 rfl rfl rfl ?_
              refine q_aload_n (t := 51) F dX9_image_50 rfl rfl rfl ?_
              refine g_X9_35 (t := 54) F dX9_image_51 rfl rfl ?_
              refine q_iload_n (t := 55) F dX9_image_54 rfl rfl rfl ?_
              first | refine ldN_37 (t := 56) F dX9_image_55 (by omega) rfl ?_ | refine ld_37 (t := 56) F dX9_image_55 (by omega) (by omega) rfl ?_
              try simp only [up_app, row_app, scr_app, cpy_app, Nat.reduceEqDiff, Int.reduceToNat, Int.toNat_natCast, and_true, true_and, and_false, false_and, and_self, reduceIte]
              first | refine stN_46 (t := 57) F dX9_image_56 (by omega) rfl ?_ | refine st_46 (t := 57) F dX9_image_56 (by omega) (by omega) rfl ?_
              refine q_iinc (t := 60) F dX9_image_57 rfl (by decide) rfl rfl ?_
              refine q_goto (t := 27) F dX9_image_60 (by decide) ?_
              rw [show (q : Int) + 1 = ((q + 1 : Nat) : Int) by omega]
              exact ih27 (q + 1) _ (by omega) (by omega) (fun s => hs2 s)
        exact L27 _ 0 _ (Nat.lt_succ_self _) (by omega) hs
      · refine q_aload_n (t := 8) F dX9_image_7 rfl rfl rfl ?_
        refine g_X9_56 (t := 11) F dX9_image_8 rfl rfl ?_
        refine q_iload_n (t := 12) F dX9_image_11 rfl rfl rfl ?_
        refine q_aload_n (t := 13) F dX9_image_12 rfl rfl rfl ?_
        refine g_X9_29 (t := 16) F dX9_image_13 rfl rfl ?_
        refine q_iload_n (t := 17) F dX9_image_16 rfl rfl rfl ?_
        first | refine ldN_35 (t := 18) F dX9_image_17 (by omega) rfl ?_ | refine ld_35 (t := 18) F dX9_image_17 (by omega) (by omega) rfl ?_
        first | refine stN_44 (t := 19) F dX9_image_18 (by omega) rfl ?_ | refine st_44 (t := 19) F dX9_image_18 (by omega) (by omega) rfl ?_
        refine q_iinc (t := 22) F dX9_image_19 rfl (by decide) rfl rfl ?_
        refine q_goto (t := 2) F dX9_image_22 (by decide) ?_
        rw [show (i : Int) + 1 = ((i + 1 : Nat) : Int) by omega]
        exact ih2 (i + 1) _ (by omega) (by omega) (fun s => hs s)
  exact L2 _ 0 _ (Nat.lt_succ_self _) (by omega) (fun s => rfl)

set_option maxHeartbeats 4000000 in
theorem f_X9_sheet (l : Launch) (G : GS) (im : IM) (bt rt : Nat) (lm : IM) (hF : FR im) (sh : Int) (srt : Int) (n : Int) (hsh : ri sh) (hsrt : ri srt) (hn : ri n) : Cn l (XR G) yX9_sheet Y_X9_sheet [vR 30 0, vI sh, vI srt, vI n] (im, rs bt rt, lm) (pI fun x m' => x = (if ¬ (0 ≤ sh ∧ sh ≤ 3) ∨ ¬ (-1 ≤ srt ∧ srt ≤ 2) ∨ (0 ≤ srt ∧ 40 < n) then -2 else if 0 ≤ srt ∧ n < 0 then -14 else 1) ∧ ∃ im' lm', m' = (im', rs bt rt, lm')) := by
  refine cn_of (by decide) (okR G) rfl (Nat.le_of_ble_eq_true rfl) ?_
  intro M ad hMl F
  subst hMl
  obtain ⟨hR, f3, f4, f6, f7, f8, f9, f12, f46, f47⟩ := hF
  have hsh1 := hsh.1
  have hsh2 := hsh.2
  have hsrt1 := hsrt.1
  have hsrt2 := hsrt.2
  have hn1 := hn.1
  have hn2 := hn.2
  refine wp_pad 1 ?_
  show Wp M (XR G) ad Y_X9_sheet (pI fun x m' => x = (if ¬ (0 ≤ sh ∧ sh ≤ 3) ∨ ¬ (-1 ≤ srt ∧ srt ≤ 2) ∨ (0 ≤ srt ∧ 40 < n) then -2 else if 0 ≤ srt ∧ n < 0 then -14 else 1) ∧ ∃ im' lm', m' = (im', rs bt rt, lm')) 0 [some (vR 30 0), some (vI sh), some (vI srt), some (vI n), none] [] (im, rs bt rt, lm)
  refine q_iload_n (t := 1) F dX9_sheet_0 rfl rfl rfl ?_
  refine wp_callS (t := 4) [_] F dX9_sheet_1 k_X9_isSheet st_X9_isSheet ml_X9_421 rfl rfl (Nat.le_of_ble_eq_true rfl) (by decide) (c_X9_isSheet _ G _ _ _ _ sh hsh) rfl (kI ?_)
  rintro x1 m' ⟨hx1, rfl⟩
  have hx1 := if01 hx1
  refine q_if_eq (t := 7) (u := 31) F dX9_sheet_4 (by first | exact hR _ _ _ | (constructor <;> omega)) (by decide) rfl (fun c4 => ?_) (fun c4 => ?_)
  · refine q_bipush (t := 33) F dX9_sheet_31 (by decide) rfl ?_
    refine q_iret F dX9_sheet_33 rfl ?_
    first
      | (refine ⟨_, rfl, ?_, _, _, rfl⟩
         (repeat' split) <;> omega)
      | (exfalso; omega)
  · refine q_iload_n (t := 8) F dX9_sheet_7 rfl rfl rfl ?_
    refine q_i2l (t := 9) F dX9_sheet_8 (by first | exact hR _ _ _ | (constructor <;> omega)) rfl ?_
    refine q_ldc2 (t := 12) (x := -1) F dX9_sheet_9 kl_X9_471 (by decide) rfl ?_
    refine q_ldc2 (t := 15) (x := 2) F dX9_sheet_12 kl_X9_99 (by decide) rfl ?_
    refine wp_callS (t := 18) [_, _, _] F dX9_sheet_15 k_X9_in st_X9_in ml_X9_91 rfl rfl (Nat.le_of_ble_eq_true rfl) (by decide) (c_X9_in _ G _ _ _ _ _ _ _ (by constructor <;> omega) (by constructor <;> omega) (by constructor <;> omega)) rfl (kI ?_)
    rintro x15 m' ⟨hx15, rfl⟩
    have hx15 := if01 hx15
    refine q_if_eq (t := 21) (u := 31) F dX9_sheet_18 (by first | exact hR _ _ _ | (constructor <;> omega)) (by decide) rfl (fun c18 => ?_) (fun c18 => ?_)
    · refine q_bipush (t := 33) F dX9_sheet_31 (by decide) rfl ?_
      refine q_iret F dX9_sheet_33 rfl ?_
      first
        | (refine ⟨_, rfl, ?_, _, _, rfl⟩
           (repeat' split) <;> omega)
        | (exfalso; omega)
    · refine q_iload_n (t := 22) F dX9_sheet_21 rfl rfl rfl ?_
      refine q_if_lt (t := 25) (u := 34) F dX9_sheet_22 (by first | exact hR _ _ _ | (constructor <;> omega)) (by decide) rfl (fun c22 => ?_) (fun c22 => ?_)
      · refine q_iload_n (t := 35) F dX9_sheet_34 rfl rfl rfl ?_
        refine q_if_lt (t := 38) (u := 45) F dX9_sheet_35 (by first | exact hR _ _ _ | (constructor <;> omega)) (by decide) rfl (fun c35 => ?_) (fun c35 => ?_)
        · refine q_aload_n (t := 46) F dX9_sheet_45 rfl rfl rfl ?_
          refine g_X9_68 (t := 49) F dX9_sheet_46 rfl rfl ?_
          refine q_iload_n (t := 50) F dX9_sheet_49 rfl rfl rfl ?_
          refine q_iload_n (t := 51) F dX9_sheet_50 rfl rfl rfl ?_
          refine q_if_lt (t := 54) (u := 58) F dX9_sheet_51 (by first | exact hR _ _ _ | (constructor <;> omega)) (by decide) rfl (fun c51 => ?_) (fun c51 => ?_)
          · refine q_iconst (t := 59) F dX9_sheet_58 rfl ?_
            first | refine stN_47 (t := 60) F dX9_sheet_59 (by omega) (by omega) rfl ?_ | refine st_47 (t := 60) F dX9_sheet_59 (by omega) (by omega) (by omega) rfl ?_
            refine q_aload_n (t := 61) F dX9_sheet_60 rfl rfl rfl ?_
            refine g_X9_72 (t := 64) F dX9_sheet_61 rfl rfl ?_
            refine q_iload_n (t := 65) F dX9_sheet_64 rfl rfl rfl ?_
            refine q_iload_n (t := 66) F dX9_sheet_65 rfl rfl rfl ?_
            first | refine stN_48 (t := 67) F dX9_sheet_66 (by omega) rfl ?_ | refine st_48 (t := 67) F dX9_sheet_66 (by omega) (by omega) rfl ?_
            refine q_aload_n (t := 68) F dX9_sheet_67 rfl rfl rfl ?_
            refine g_X9_75 (t := 71) F dX9_sheet_68 rfl rfl ?_
            refine q_iload_n (t := 72) F dX9_sheet_71 rfl rfl rfl ?_
            refine q_iload_n (t := 73) F dX9_sheet_72 rfl rfl rfl ?_
            first | refine stN_49 (t := 74) F dX9_sheet_73 (by omega) rfl ?_ | refine st_49 (t := 74) F dX9_sheet_73 (by omega) (by omega) rfl ?_
            refine q_iconst (t := 75) F dX9_sheet_74 rfl ?_
            refine q_istore (t := 77) F dX9_sheet_75 (by decide) rfl rfl ?_
            have L77 : ∀ (fz : Nat) (i : Nat) (im1 : IM), 41 - i < fz → i ≤ 40 → Wp M (XR G) ad Y_X9_sheet (pI fun x m' => x = (if ¬ (0 ≤ sh ∧ sh ≤ 3) ∨ ¬ (-1 ≤ srt ∧ srt ≤ 2) ∨ (0 ≤ srt ∧ 40 < n) then -2 else if 0 ≤ srt ∧ n < 0 then -14 else 1) ∧ ∃ im' lm', m' = (im', rs bt rt, lm')) 77 [some (vR 30 0), some (vI sh), some (vI srt), some (vI n), some (vI (i : Int))] [] (im1, rs bt rt, lm) := by
              intro fz
              induction fz with
              | zero => intro i im1 h; exact absurd h (Nat.not_lt_zero _)
              | succ fz ih =>
                have ih77 := ih
                intro i im1 hmeas hi
                refine q_iload (t := 79) F dX9_sheet_77 rfl rfl ?_
                refine q_iload_n (t := 80) F dX9_sheet_79 rfl rfl rfl ?_
                refine q_icmp_ge (t := 83) (u := 106) F dX9_sheet_80 (by constructor <;> omega) (by constructor <;> omega) (by decide) rfl (fun c80 => ?_) (fun c80 => ?_)
                · refine q_iconst (t := 107) F dX9_sheet_106 rfl ?_
                  refine q_iret F dX9_sheet_107 rfl ?_
                  first
                    | (refine ⟨_, rfl, ?_, _, _, rfl⟩
                       (repeat' split) <;> omega)
                    | (exfalso; omega)
                · refine q_iload_n (t := 84) F dX9_sheet_83 rfl rfl rfl ?_
                  refine q_if_lt (t := 87) (u := 106) F dX9_sheet_84 (by first | exact hR _ _ _ | (constructor <;> omega)) (by decide) rfl (fun c84 => ?_) (fun c84 => ?_)
                  · refine q_iconst (t := 107) F dX9_sheet_106 rfl ?_
                    refine q_iret F dX9_sheet_107 rfl ?_
                    first
                      | (refine ⟨_, rfl, ?_, _, _, rfl⟩
                         (repeat' split) <;> omega)
                      | (exfalso; omega)
                  · refine q_aload_n (t := 88) F dX9_sheet_87 rfl rfl rfl ?_
                    refine g_X9_78 (t := 91) F dX9_sheet_88 rfl rfl ?_
                    refine q_bipush (t := 93) F dX9_sheet_91 (by decide) rfl ?_
                    refine q_iload_n (t := 94) F dX9_sheet_93 rfl rfl rfl ?_
                    refine q_imul (t := 95) F dX9_sheet_94 rfl ?_
                    refine q_iload (t := 97) F dX9_sheet_95 rfl rfl ?_
                    refine q_iadd (t := 98) F dX9_sheet_97 rfl ?_
                    refine q_iconst (t := 99) F dX9_sheet_98 rfl ?_
                    first | refine stN_50 (t := 100) F dX9_sheet_99 (by omega) rfl ?_ | refine st_50 (t := 100) F dX9_sheet_99 (by omega) (by omega) rfl ?_
                    refine q_iinc (t := 103) F dX9_sheet_100 rfl (by decide) rfl rfl ?_
                    refine q_goto (t := 77) F dX9_sheet_103 (by decide) ?_
                    rw [show (i : Int) + 1 = ((i + 1 : Nat) : Int) by omega]
                    exact ih77 (i + 1) _ (by omega) (by omega)
            exact L77 _ 0 _ (Nat.lt_succ_self _) (by omega)
          · refine q_iconst (t := 55) F dX9_sheet_54 rfl ?_
            refine q_goto (t := 59) F dX9_sheet_55 (by decide) ?_
            first | refine stN_47 (t := 60) F dX9_sheet_59 (by omega) (by omega) rfl ?_ | refine st_47 (t := 60) F dX9_sheet_59 (by omega) (by omega) (by omega) rfl ?_
            refine q_aload_n (t := 61) F dX9_sheet_60 rfl rfl rfl ?_
            refine g_X9_72 (t := 64) F dX9_sheet_61 rfl rfl ?_
            refine q_iload_n (t := 65) F dX9_sheet_64 rfl rfl rfl ?_
            refine q_iload_n (t := 66) F dX9_sheet_65 rfl rfl rfl ?_
            first | refine stN_48 (t := 67) F dX9_sheet_66 (by omega) rfl ?_ | refine st_48 (t := 67) F dX9_sheet_66 (by omega) (by omega) rfl ?_
            refine q_aload_n (t := 68) F dX9_sheet_67 rfl rfl rfl ?_
            refine g_X9_75 (t := 71) F dX9_sheet_68 rfl rfl ?_
            refine q_iload_n (t := 72) F dX9_sheet_71 rfl rfl rfl ?_
            refine q_iload_n (t := 73) F dX9_sheet_72 rfl rfl rfl ?_
            first | refine stN_49 (t := 74) F dX9_sheet_73 (by omega) rfl ?_ | refine st_49 (t := 74) F dX9_sheet_73 (by omega) (by omega) rfl ?_
            refine q_iconst (t := 75) F dX9_sheet_74 rfl ?_
            refine q_istore (t := 77) F dX9_sheet_75 (by decide) rfl rfl ?_
            have L77 : ∀ (fz : Nat) (i : Nat) (im1 : IM), 41 - i < fz → i ≤ 40 → Wp M (XR G) ad Y_X9_sheet (pI fun x m' => x = (if ¬ (0 ≤ sh ∧ sh ≤ 3) ∨ ¬ (-1 ≤ srt ∧ srt ≤ 2) ∨ (0 ≤ srt ∧ 40 < n) then -2 else if 0 ≤ srt ∧ n < 0 then -14 else 1) ∧ ∃ im' lm', m' = (im', rs bt rt, lm')) 77 [some (vR 30 0), some (vI sh), some (vI srt), some (vI n), some (vI (i : Int))] [] (im1, rs bt rt, lm) := by
              intro fz
              induction fz with
              | zero => intro i im1 h; exact absurd h (Nat.not_lt_zero _)
              | succ fz ih =>
                have ih77 := ih
                intro i im1 hmeas hi
                refine q_iload (t := 79) F dX9_sheet_77 rfl rfl ?_
                refine q_iload_n (t := 80) F dX9_sheet_79 rfl rfl rfl ?_
                refine q_icmp_ge (t := 83) (u := 106) F dX9_sheet_80 (by constructor <;> omega) (by constructor <;> omega) (by decide) rfl (fun c80 => ?_) (fun c80 => ?_)
                · refine q_iconst (t := 107) F dX9_sheet_106 rfl ?_
                  refine q_iret F dX9_sheet_107 rfl ?_
                  first
                    | (refine ⟨_, rfl, ?_, _, _, rfl⟩
                       (repeat' split) <;> omega)
                    | (exfalso; omega)
                · refine q_iload_n (t := 84) F dX9_sheet_83 rfl rfl rfl ?_
                  refine q_if_lt (t := 87) (u := 106) F dX9_sheet_84 (by first | exact hR _ _ _ | (constructor <;> omega)) (by decide) rfl (fun c84 => ?_) (fun c84 => ?_)
                  · refine q_iconst (t := 107) F dX9_sheet_106 rfl ?_
                    refine q_iret F dX9_sheet_107 rfl ?_
                    first
                      | (refine ⟨_, rfl, ?_, _, _, rfl⟩
                         (repeat' split) <;> omega)
                      | (exfalso; omega)
                  · refine q_aload_n (t := 88) F dX9_sheet_87 rfl rfl rfl ?_
                    refine g_X9_78 (t := 91) F dX9_sheet_88 rfl rfl ?_
                    refine q_bipush (t := 93) F dX9_sheet_91 (by decide) rfl ?_
                    refine q_iload_n (t := 94) F dX9_sheet_93 rfl rfl rfl ?_
                    refine q_imul (t := 95) F dX9_sheet_94 rfl ?_
                    refine q_iload (t := 97) F dX9_sheet_95 rfl rfl ?_
                    refine q_iadd (t := 98) F dX9_sheet_97 rfl ?_
                    refine q_iconst (t := 99) F dX9_sheet_98 rfl ?_
                    first | refine stN_50 (t := 100) F dX9_sheet_99 (by omega) rfl ?_ | refine st_50 (t := 100) F dX9_sheet_99 (by omega) (by omega) rfl ?_
                    refine q_iinc (t := 103) F dX9_sheet_100 rfl (by decide) rfl rfl ?_
                    refine q_goto (t := 77) F dX9_sheet_103 (by decide) ?_
                    rw [show (i : Int) + 1 = ((i + 1 : Nat) : Int) by omega]
                    exact ih77 (i + 1) _ (by omega) (by omega)
            exact L77 _ 0 _ (Nat.lt_succ_self _) (by omega)
        · refine q_iload_n (t := 39) F dX9_sheet_38 rfl rfl rfl ?_
          refine q_if_ge (t := 42) (u := 45) F dX9_sheet_39 (by first | exact hR _ _ _ | (constructor <;> omega)) (by decide) rfl (fun c39 => ?_) (fun c39 => ?_)
          · refine q_aload_n (t := 46) F dX9_sheet_45 rfl rfl rfl ?_
            refine g_X9_68 (t := 49) F dX9_sheet_46 rfl rfl ?_
            refine q_iload_n (t := 50) F dX9_sheet_49 rfl rfl rfl ?_
            refine q_iload_n (t := 51) F dX9_sheet_50 rfl rfl rfl ?_
            refine q_if_lt (t := 54) (u := 58) F dX9_sheet_51 (by first | exact hR _ _ _ | (constructor <;> omega)) (by decide) rfl (fun c51 => ?_) (fun c51 => ?_)
            · refine q_iconst (t := 59) F dX9_sheet_58 rfl ?_
              first | refine stN_47 (t := 60) F dX9_sheet_59 (by omega) (by omega) rfl ?_ | refine st_47 (t := 60) F dX9_sheet_59 (by omega) (by omega) (by omega) rfl ?_
              refine q_aload_n (t := 61) F dX9_sheet_60 rfl rfl rfl ?_
              refine g_X9_72 (t := 64) F dX9_sheet_61 rfl rfl ?_
              refine q_iload_n (t := 65) F dX9_sheet_64 rfl rfl rfl ?_
              refine q_iload_n (t := 66) F dX9_sheet_65 rfl rfl rfl ?_
              first | refine stN_48 (t := 67) F dX9_sheet_66 (by omega) rfl ?_ | refine st_48 (t := 67) F dX9_sheet_66 (by omega) (by omega) rfl ?_
              refine q_aload_n (t := 68) F dX9_sheet_67 rfl rfl rfl ?_
              refine g_X9_75 (t := 71) F dX9_sheet_68 rfl rfl ?_
              refine q_iload_n (t := 72) F dX9_sheet_71 rfl rfl rfl ?_
              refine q_iload_n (t := 73) F dX9_sheet_72 rfl rfl rfl ?_
              first | refine stN_49 (t := 74) F dX9_sheet_73 (by omega) rfl ?_ | refine st_49 (t := 74) F dX9_sheet_73 (by omega) (by omega) rfl ?_
              refine q_iconst (t := 75) F dX9_sheet_74 rfl ?_
              refine q_istore (t := 77) F dX9_sheet_75 (by decide) rfl rfl ?_
              have L77 : ∀ (fz : Nat) (i : Nat) (im1 : IM), 41 - i < fz → i ≤ 40 → Wp M (XR G) ad Y_X9_sheet (pI fun x m' => x = (if ¬ (0 ≤ sh ∧ sh ≤ 3) ∨ ¬ (-1 ≤ srt ∧ srt ≤ 2) ∨ (0 ≤ srt ∧ 40 < n) then -2 else if 0 ≤ srt ∧ n < 0 then -14 else 1) ∧ ∃ im' lm', m' = (im', rs bt rt, lm')) 77 [some (vR 30 0), some (vI sh), some (vI srt), some (vI n), some (vI (i : Int))] [] (im1, rs bt rt, lm) := by
                intro fz
                induction fz with
                | zero => intro i im1 h; exact absurd h (Nat.not_lt_zero _)
                | succ fz ih =>
                  have ih77 := ih
                  intro i im1 hmeas hi
                  refine q_iload (t := 79) F dX9_sheet_77 rfl rfl ?_
                  refine q_iload_n (t := 80) F dX9_sheet_79 rfl rfl rfl ?_
                  refine q_icmp_ge (t := 83) (u := 106) F dX9_sheet_80 (by constructor <;> omega) (by constructor <;> omega) (by decide) rfl (fun c80 => ?_) (fun c80 => ?_)
                  · refine q_iconst (t := 107) F dX9_sheet_106 rfl ?_
                    refine q_iret F dX9_sheet_107 rfl ?_
                    first
                      | (refine ⟨_, rfl, ?_, _, _, rfl⟩
                         (repeat' split) <;> omega)
                      | (exfalso; omega)
                  · refine q_iload_n (t := 84) F dX9_sheet_83 rfl rfl rfl ?_
                    refine q_if_lt (t := 87) (u := 106) F dX9_sheet_84 (by first | exact hR _ _ _ | (constructor <;> omega)) (by decide) rfl (fun c84 => ?_) (fun c84 => ?_)
                    · refine q_iconst (t := 107) F dX9_sheet_106 rfl ?_
                      refine q_iret F dX9_sheet_107 rfl ?_
                      first
                        | (refine ⟨_, rfl, ?_, _, _, rfl⟩
                           (repeat' split) <;> omega)
                        | (exfalso; omega)
                    · refine q_aload_n (t := 88) F dX9_sheet_87 rfl rfl rfl ?_
                      refine g_X9_78 (t := 91) F dX9_sheet_88 rfl rfl ?_
                      refine q_bipush (t := 93) F dX9_sheet_91 (by decide) rfl ?_
                      refine q_iload_n (t := 94) F dX9_sheet_93 rfl rfl rfl ?_
                      refine q_imul (t := 95) F dX9_sheet_94 rfl ?_
                      refine q_iload (t := 97) F dX9_sheet_95 rfl rfl ?_
                      refine q_iadd (t := 98) F dX9_sheet_97 rfl ?_
                      refine q_iconst (t := 99) F dX9_sheet_98 rfl ?_
                      first | refine stN_50 (t := 100) F dX9_sheet_99 (by omega) rfl ?_ | refine st_50 (t := 100) F dX9_sheet_99 (by omega) (by omega) rfl ?_
                      refine q_iinc (t := 103) F dX9_sheet_100 rfl (by decide) rfl rfl ?_
                      refine q_goto (t := 77) F dX9_sheet_103 (by decide) ?_
                      rw [show (i : Int) + 1 = ((i + 1 : Nat) : Int) by omega]
                      exact ih77 (i + 1) _ (by omega) (by omega)
              exact L77 _ 0 _ (Nat.lt_succ_self _) (by omega)
            · refine q_iconst (t := 55) F dX9_sheet_54 rfl ?_
              refine q_goto (t := 59) F dX9_sheet_55 (by decide) ?_
              first | refine stN_47 (t := 60) F dX9_sheet_59 (by omega) (by omega) rfl ?_ | refine st_47 (t := 60) F dX9_sheet_59 (by omega) (by omega) (by omega) rfl ?_
              refine q_aload_n (t := 61) F dX9_sheet_60 rfl rfl rfl ?_
              refine g_X9_72 (t := 64) F dX9_sheet_61 rfl rfl ?_
              refine q_iload_n (t := 65) F dX9_sheet_64 rfl rfl rfl ?_
              refine q_iload_n (t := 66) F dX9_sheet_65 rfl rfl rfl ?_
              first | refine stN_48 (t := 67) F dX9_sheet_66 (by omega) rfl ?_ | refine st_48 (t := 67) F dX9_sheet_66 (by omega) (by omega) rfl ?_
              refine q_aload_n (t := 68) F dX9_sheet_67 rfl rfl rfl ?_
              refine g_X9_75 (t := 71) F dX9_sheet_68 rfl rfl ?_
              refine q_iload_n (t := 72) F dX9_sheet_71 rfl rfl rfl ?_
              refine q_iload_n (t := 73) F dX9_sheet_72 rfl rfl rfl ?_
              first | refine stN_49 (t := 74) F dX9_sheet_73 (by omega) rfl ?_ | refine st_49 (t := 74) F dX9_sheet_73 (by omega) (by omega) rfl ?_
              refine q_iconst (t := 75) F dX9_sheet_74 rfl ?_
              refine q_istore (t := 77) F dX9_sheet_75 (by decide) rfl rfl ?_
              have L77 : ∀ (fz : Nat) (i : Nat) (im1 : IM), 41 - i < fz → i ≤ 40 → Wp M (XR G) ad Y_X9_sheet (pI fun x m' => x = (if ¬ (0 ≤ sh ∧ sh ≤ 3) ∨ ¬ (-1 ≤ srt ∧ srt ≤ 2) ∨ (0 ≤ srt ∧ 40 < n) then -2 else if 0 ≤ srt ∧ n < 0 then -14 else 1) ∧ ∃ im' lm', m' = (im', rs bt rt, lm')) 77 [some (vR 30 0), some (vI sh), some (vI srt), some (vI n), some (vI (i : Int))] [] (im1, rs bt rt, lm) := by
                intro fz
                induction fz with
                | zero => intro i im1 h; exact absurd h (Nat.not_lt_zero _)
                | succ fz ih =>
                  have ih77 := ih
                  intro i im1 hmeas hi
                  refine q_iload (t := 79) F dX9_sheet_77 rfl rfl ?_
                  refine q_iload_n (t := 80) F dX9_sheet_79 rfl rfl rfl ?_
                  refine q_icmp_ge (t := 83) (u := 106) F dX9_sheet_80 (by constructor <;> omega) (by constructor <;> omega) (by decide) rfl (fun c80 => ?_) (fun c80 => ?_)
                  · refine q_iconst (t := 107) F dX9_sheet_106 rfl ?_
                    refine q_iret F dX9_sheet_107 rfl ?_
                    first
                      | (refine ⟨_, rfl, ?_, _, _, rfl⟩
                         (repeat' split) <;> omega)
                      | (exfalso; omega)
                  · refine q_iload_n (t := 84) F dX9_sheet_83 rfl rfl rfl ?_
                    refine q_if_lt (t := 87) (u := 106) F dX9_sheet_84 (by first | exact hR _ _ _ | (constructor <;> omega)) (by decide) rfl (fun c84 => ?_) (fun c84 => ?_)
                    · refine q_iconst (t := 107) F dX9_sheet_106 rfl ?_
                      refine q_iret F dX9_sheet_107 rfl ?_
                      first
                        | (refine ⟨_, rfl, ?_, _, _, rfl⟩
                           (repeat' split) <;> omega)
                        | (exfalso; omega)
                    · refine q_aload_n (t := 88) F dX9_sheet_87 rfl rfl rfl ?_
                      refine g_X9_78 (t := 91) F dX9_sheet_88 rfl rfl ?_
                      refine q_bipush (t := 93) F dX9_sheet_91 (by decide) rfl ?_
                      refine q_iload_n (t := 94) F dX9_sheet_93 rfl rfl rfl ?_
                      refine q_imul (t := 95) F dX9_sheet_94 rfl ?_
                      refine q_iload (t := 97) F dX9_sheet_95 rfl rfl ?_
                      refine q_iadd (t := 98) F dX9_sheet_97 rfl ?_
                      refine q_iconst (t := 99) F dX9_sheet_98 rfl ?_
                      first | refine stN_50 (t := 100) F dX9_sheet_99 (by omega) rfl ?_ | refine st_50 (t := 100) F dX9_sheet_99 (by omega) (by omega) rfl ?_
                      refine q_iinc (t := 103) F dX9_sheet_100 rfl (by decide) rfl rfl ?_
                      refine q_goto (t := 77) F dX9_sheet_103 (by decide) ?_
                      rw [show (i : Int) + 1 = ((i + 1 : Nat) : Int) by omega]
                      exact ih77 (i + 1) _ (by omega) (by omega)
              exact L77 _ 0 _ (Nat.lt_succ_self _) (by omega)
          · refine q_bipush (t := 44) F dX9_sheet_42 (by decide) rfl ?_
            refine q_iret F dX9_sheet_44 rfl ?_
            first
              | (refine ⟨_, rfl, ?_, _, _, rfl⟩
                 (repeat' split) <;> omega)
              | (exfalso; omega)
      · refine q_iload_n (t := 26) F dX9_sheet_25 rfl rfl rfl ?_
        refine q_bipush (t := 28) F dX9_sheet_26 (by decide) rfl ?_
        refine q_icmp_le (t := 31) (u := 34) F dX9_sheet_28 (by first | exact hR _ _ _ | (constructor <;> omega)) (by first | exact hR _ _ _ | (constructor <;> omega)) (by decide) rfl (fun c28 => ?_) (fun c28 => ?_)
        · refine q_iload_n (t := 35) F dX9_sheet_34 rfl rfl rfl ?_
          refine q_if_lt (t := 38) (u := 45) F dX9_sheet_35 (by first | exact hR _ _ _ | (constructor <;> omega)) (by decide) rfl (fun c35 => ?_) (fun c35 => ?_)
          · refine q_aload_n (t := 46) F dX9_sheet_45 rfl rfl rfl ?_
            refine g_X9_68 (t := 49) F dX9_sheet_46 rfl rfl ?_
            refine q_iload_n (t := 50) F dX9_sheet_49 rfl rfl rfl ?_
            refine q_iload_n (t := 51) F dX9_sheet_50 rfl rfl rfl ?_
            refine q_if_lt (t := 54) (u := 58) F dX9_sheet_51 (by first | exact hR _ _ _ | (constructor <;> omega)) (by decide) rfl (fun c51 => ?_) (fun c51 => ?_)
            · refine q_iconst (t := 59) F dX9_sheet_58 rfl ?_
              first | refine stN_47 (t := 60) F dX9_sheet_59 (by omega) (by omega) rfl ?_ | refine st_47 (t := 60) F dX9_sheet_59 (by omega) (by omega) (by omega) rfl ?_
              refine q_aload_n (t := 61) F dX9_sheet_60 rfl rfl rfl ?_
              refine g_X9_72 (t := 64) F dX9_sheet_61 rfl rfl ?_
              refine q_iload_n (t := 65) F dX9_sheet_64 rfl rfl rfl ?_
              refine q_iload_n (t := 66) F dX9_sheet_65 rfl rfl rfl ?_
              first | refine stN_48 (t := 67) F dX9_sheet_66 (by omega) rfl ?_ | refine st_48 (t := 67) F dX9_sheet_66 (by omega) (by omega) rfl ?_
              refine q_aload_n (t := 68) F dX9_sheet_67 rfl rfl rfl ?_
              refine g_X9_75 (t := 71) F dX9_sheet_68 rfl rfl ?_
              refine q_iload_n (t := 72) F dX9_sheet_71 rfl rfl rfl ?_
              refine q_iload_n (t := 73) F dX9_sheet_72 rfl rfl rfl ?_
              first | refine stN_49 (t := 74) F dX9_sheet_73 (by omega) rfl ?_ | refine st_49 (t := 74) F dX9_sheet_73 (by omega) (by omega) rfl ?_
              refine q_iconst (t := 75) F dX9_sheet_74 rfl ?_
              refine q_istore (t := 77) F dX9_sheet_75 (by decide) rfl rfl ?_
              have L77 : ∀ (fz : Nat) (i : Nat) (im1 : IM), 41 - i < fz → i ≤ 40 → Wp M (XR G) ad Y_X9_sheet (pI fun x m' => x = (if ¬ (0 ≤ sh ∧ sh ≤ 3) ∨ ¬ (-1 ≤ srt ∧ srt ≤ 2) ∨ (0 ≤ srt ∧ 40 < n) then -2 else if 0 ≤ srt ∧ n < 0 then -14 else 1) ∧ ∃ im' lm', m' = (im', rs bt rt, lm')) 77 [some (vR 30 0), some (vI sh), some (vI srt), some (vI n), some (vI (i : Int))] [] (im1, rs bt rt, lm) := by
                intro fz
                induction fz with
                | zero => intro i im1 h; exact absurd h (Nat.not_lt_zero _)
                | succ fz ih =>
                  have ih77 := ih
                  intro i im1 hmeas hi
                  refine q_iload (t := 79) F dX9_sheet_77 rfl rfl ?_
                  refine q_iload_n (t := 80) F dX9_sheet_79 rfl rfl rfl ?_
                  refine q_icmp_ge (t := 83) (u := 106) F dX9_sheet_80 (by constructor <;> omega) (by constructor <;> omega) (by decide) rfl (fun c80 => ?_) (fun c80 => ?_)
                  · refine q_iconst (t := 107) F dX9_sheet_106 rfl ?_
                    refine q_iret F dX9_sheet_107 rfl ?_
                    first
                      | (refine ⟨_, rfl, ?_, _, _, rfl⟩
                         (repeat' split) <;> omega)
                      | (exfalso; omega)
                  · refine q_iload_n (t := 84) F dX9_sheet_83 rfl rfl rfl ?_
                    refine q_if_lt (t := 87) (u := 106) F dX9_sheet_84 (by first | exact hR _ _ _ | (constructor <;> omega)) (by decide) rfl (fun c84 => ?_) (fun c84 => ?_)
                    · refine q_iconst (t := 107) F dX9_sheet_106 rfl ?_
                      refine q_iret F dX9_sheet_107 rfl ?_
                      first
                        | (refine ⟨_, rfl, ?_, _, _, rfl⟩
                           (repeat' split) <;> omega)
                        | (exfalso; omega)
                    · refine q_aload_n (t := 88) F dX9_sheet_87 rfl rfl rfl ?_
                      refine g_X9_78 (t := 91) F dX9_sheet_88 rfl rfl ?_
                      refine q_bipush (t := 93) F dX9_sheet_91 (by decide) rfl ?_
                      refine q_iload_n (t := 94) F dX9_sheet_93 rfl rfl rfl ?_
                      refine q_imul (t := 95) F dX9_sheet_94 rfl ?_
                      refine q_iload (t := 97) F dX9_sheet_95 rfl rfl ?_
                      refine q_iadd (t := 98) F dX9_sheet_97 rfl ?_
                      refine q_iconst (t := 99) F dX9_sheet_98 rfl ?_
                      first | refine stN_50 (t := 100) F dX9_sheet_99 (by omega) rfl ?_ | refine st_50 (t := 100) F dX9_sheet_99 (by omega) (by omega) rfl ?_
                      refine q_iinc (t := 103) F dX9_sheet_100 rfl (by decide) rfl rfl ?_
                      refine q_goto (t := 77) F dX9_sheet_103 (by decide) ?_
                      rw [show (i : Int) + 1 = ((i + 1 : Nat) : Int) by omega]
                      exact ih77 (i + 1) _ (by omega) (by omega)
              exact L77 _ 0 _ (Nat.lt_succ_self _) (by omega)
            · refine q_iconst (t := 55) F dX9_sheet_54 rfl ?_
              refine q_goto (t := 59) F dX9_sheet_55 (by decide) ?_
              first | refine stN_47 (t := 60) F dX9_sheet_59 (by omega) (by omega) rfl ?_ | refine st_47 (t := 60) F dX9_sheet_59 (by omega) (by omega) (by omega) rfl ?_
              refine q_aload_n (t := 61) F dX9_sheet_60 rfl rfl rfl ?_
              refine g_X9_72 (t := 64) F dX9_sheet_61 rfl rfl ?_
              refine q_iload_n (t := 65) F dX9_sheet_64 rfl rfl rfl ?_
              refine q_iload_n (t := 66) F dX9_sheet_65 rfl rfl rfl ?_
              first | refine stN_48 (t := 67) F dX9_sheet_66 (by omega) rfl ?_ | refine st_48 (t := 67) F dX9_sheet_66 (by omega) (by omega) rfl ?_
              refine q_aload_n (t := 68) F dX9_sheet_67 rfl rfl rfl ?_
              refine g_X9_75 (t := 71) F dX9_sheet_68 rfl rfl ?_
              refine q_iload_n (t := 72) F dX9_sheet_71 rfl rfl rfl ?_
              refine q_iload_n (t := 73) F dX9_sheet_72 rfl rfl rfl ?_
              first | refine stN_49 (t := 74) F dX9_sheet_73 (by omega) rfl ?_ | refine st_49 (t := 74) F dX9_sheet_73 (by omega) (by omega) rfl ?_
              refine q_iconst (t := 75) F dX9_sheet_74 rfl ?_
              refine q_istore (t := 77) F dX9_sheet_75 (by decide) rfl rfl ?_
              have L77 : ∀ (fz : Nat) (i : Nat) (im1 : IM), 41 - i < fz → i ≤ 40 → Wp M (XR G) ad Y_X9_sheet (pI fun x m' => x = (if ¬ (0 ≤ sh ∧ sh ≤ 3) ∨ ¬ (-1 ≤ srt ∧ srt ≤ 2) ∨ (0 ≤ srt ∧ 40 < n) then -2 else if 0 ≤ srt ∧ n < 0 then -14 else 1) ∧ ∃ im' lm', m' = (im', rs bt rt, lm')) 77 [some (vR 30 0), some (vI sh), some (vI srt), some (vI n), some (vI (i : Int))] [] (im1, rs bt rt, lm) := by
                intro fz
                induction fz with
                | zero => intro i im1 h; exact absurd h (Nat.not_lt_zero _)
                | succ fz ih =>
                  have ih77 := ih
                  intro i im1 hmeas hi
                  refine q_iload (t := 79) F dX9_sheet_77 rfl rfl ?_
                  refine q_iload_n (t := 80) F dX9_sheet_79 rfl rfl rfl ?_
                  refine q_icmp_ge (t := 83) (u := 106) F dX9_sheet_80 (by constructor <;> omega) (by constructor <;> omega) (by decide) rfl (fun c80 => ?_) (fun c80 => ?_)
                  · refine q_iconst (t := 107) F dX9_sheet_106 rfl ?_
                    refine q_iret F dX9_sheet_107 rfl ?_
                    first
                      | (refine ⟨_, rfl, ?_, _, _, rfl⟩
                         (repeat' split) <;> omega)
                      | (exfalso; omega)
                  · refine q_iload_n (t := 84) F dX9_sheet_83 rfl rfl rfl ?_
                    refine q_if_lt (t := 87) (u := 106) F dX9_sheet_84 (by first | exact hR _ _ _ | (constructor <;> omega)) (by decide) rfl (fun c84 => ?_) (fun c84 => ?_)
                    · refine q_iconst (t := 107) F dX9_sheet_106 rfl ?_
                      refine q_iret F dX9_sheet_107 rfl ?_
                      first
                        | (refine ⟨_, rfl, ?_, _, _, rfl⟩
                           (repeat' split) <;> omega)
                        | (exfalso; omega)
                    · refine q_aload_n (t := 88) F dX9_sheet_87 rfl rfl rfl ?_
                      refine g_X9_78 (t := 91) F dX9_sheet_88 rfl rfl ?_
                      refine q_bipush (t := 93) F dX9_sheet_91 (by decide) rfl ?_
                      refine q_iload_n (t := 94) F dX9_sheet_93 rfl rfl rfl ?_
                      refine q_imul (t := 95) F dX9_sheet_94 rfl ?_
                      refine q_iload (t := 97) F dX9_sheet_95 rfl rfl ?_
                      refine q_iadd (t := 98) F dX9_sheet_97 rfl ?_
                      refine q_iconst (t := 99) F dX9_sheet_98 rfl ?_
                      first | refine stN_50 (t := 100) F dX9_sheet_99 (by omega) rfl ?_ | refine st_50 (t := 100) F dX9_sheet_99 (by omega) (by omega) rfl ?_
                      refine q_iinc (t := 103) F dX9_sheet_100 rfl (by decide) rfl rfl ?_
                      refine q_goto (t := 77) F dX9_sheet_103 (by decide) ?_
                      rw [show (i : Int) + 1 = ((i + 1 : Nat) : Int) by omega]
                      exact ih77 (i + 1) _ (by omega) (by omega)
              exact L77 _ 0 _ (Nat.lt_succ_self _) (by omega)
          · refine q_iload_n (t := 39) F dX9_sheet_38 rfl rfl rfl ?_
            refine q_if_ge (t := 42) (u := 45) F dX9_sheet_39 (by first | exact hR _ _ _ | (constructor <;> omega)) (by decide) rfl (fun c39 => ?_) (fun c39 => ?_)
            · refine q_aload_n (t := 46) F dX9_sheet_45 rfl rfl rfl ?_
              refine g_X9_68 (t := 49) F dX9_sheet_46 rfl rfl ?_
              refine q_iload_n (t := 50) F dX9_sheet_49 rfl rfl rfl ?_
              refine q_iload_n (t := 51) F dX9_sheet_50 rfl rfl rfl ?_
              refine q_if_lt (t := 54) (u := 58) F dX9_sheet_51 (by first | exact hR _ _ _ | (constructor <;> omega)) (by decide) rfl (fun c51 => ?_) (fun c51 => ?_)
              · refine q_iconst (t := 59) F dX9_sheet_58 rfl ?_
                first | refine stN_47 (t := 60) F dX9_sheet_59 (by omega) (by omega) rfl ?_ | refine st_47 (t := 60) F dX9_sheet_59 (by omega) (by omega) (by omega) rfl ?_
                refine q_aload_n (t := 61) F dX9_sheet_60 rfl rfl rfl ?_
                refine g_X9_72 (t := 64) F dX9_sheet_61 rfl rfl ?_
                refine q_iload_n (t := 65) F dX9_sheet_64 rfl rfl rfl ?_
                refine q_iload_n (t := 66) F dX9_sheet_65 rfl rfl rfl ?_
                first | refine stN_48 (t := 67) F dX9_sheet_66 (by omega) rfl ?_ | refine st_48 (t := 67) F dX9_sheet_66 (by omega) (by omega) rfl ?_
                refine q_aload_n (t := 68) F dX9_sheet_67 rfl rfl rfl ?_
                refine g_X9_75 (t := 71) F dX9_sheet_68 rfl rfl ?_
                refine q_iload_n (t := 72) F dX9_sheet_71 rfl rfl rfl ?_
                refine q_iload_n (t := 73) F dX9_sheet_72 rfl rfl rfl ?_
                first | refine stN_49 (t := 74) F dX9_sheet_73 (by omega) rfl ?_ | refine st_49 (t := 74) F dX9_sheet_73 (by omega) (by omega) rfl ?_
                refine q_iconst (t := 75) F dX9_sheet_74 rfl ?_
                refine q_istore (t := 77) F dX9_sheet_75 (by decide) rfl rfl ?_
                have L77 : ∀ (fz : Nat) (i : Nat) (im1 : IM), 41 - i < fz → i ≤ 40 → Wp M (XR G) ad Y_X9_sheet (pI fun x m' => x = (if ¬ (0 ≤ sh ∧ sh ≤ 3) ∨ ¬ (-1 ≤ srt ∧ srt ≤ 2) ∨ (0 ≤ srt ∧ 40 < n) then -2 else if 0 ≤ srt ∧ n < 0 then -14 else 1) ∧ ∃ im' lm', m' = (im', rs bt rt, lm')) 77 [some (vR 30 0), some (vI sh), some (vI srt), some (vI n), some (vI (i : Int))] [] (im1, rs bt rt, lm) := by
                  intro fz
                  induction fz with
                  | zero => intro i im1 h; exact absurd h (Nat.not_lt_zero _)
                  | succ fz ih =>
                    have ih77 := ih
                    intro i im1 hmeas hi
                    refine q_iload (t := 79) F dX9_sheet_77 rfl rfl ?_
                    refine q_iload_n (t := 80) F dX9_sheet_79 rfl rfl rfl ?_
                    refine q_icmp_ge (t := 83) (u := 106) F dX9_sheet_80 (by constructor <;> omega) (by constructor <;> omega) (by decide) rfl (fun c80 => ?_) (fun c80 => ?_)
                    · refine q_iconst (t := 107) F dX9_sheet_106 rfl ?_
                      refine q_iret F dX9_sheet_107 rfl ?_
                      first
                        | (refine ⟨_, rfl, ?_, _, _, rfl⟩
                           (repeat' split) <;> omega)
                        | (exfalso; omega)
                    · refine q_iload_n (t := 84) F dX9_sheet_83 rfl rfl rfl ?_
                      refine q_if_lt (t := 87) (u := 106) F dX9_sheet_84 (by first | exact hR _ _ _ | (constructor <;> omega)) (by decide) rfl (fun c84 => ?_) (fun c84 => ?_)
                      · refine q_iconst (t := 107) F dX9_sheet_106 rfl ?_
                        refine q_iret F dX9_sheet_107 rfl ?_
                        first
                          | (refine ⟨_, rfl, ?_, _, _, rfl⟩
                             (repeat' split) <;> omega)
                          | (exfalso; omega)
                      · refine q_aload_n (t := 88) F dX9_sheet_87 rfl rfl rfl ?_
                        refine g_X9_78 (t := 91) F dX9_sheet_88 rfl rfl ?_
                        refine q_bipush (t := 93) F dX9_sheet_91 (by decide) rfl ?_
                        refine q_iload_n (t := 94) F dX9_sheet_93 rfl rfl rfl ?_
                        refine q_imul (t := 95) F dX9_sheet_94 rfl ?_
                        refine q_iload (t := 97) F dX9_sheet_95 rfl rfl ?_
                        refine q_iadd (t := 98) F dX9_sheet_97 rfl ?_
                        refine q_iconst (t := 99) F dX9_sheet_98 rfl ?_
                        first | refine stN_50 (t := 100) F dX9_sheet_99 (by omega) rfl ?_ | refine st_50 (t := 100) F dX9_sheet_99 (by omega) (by omega) rfl ?_
                        refine q_iinc (t := 103) F dX9_sheet_100 rfl (by decide) rfl rfl ?_
                        refine q_goto (t := 77) F dX9_sheet_103 (by decide) ?_
                        rw [show (i : Int) + 1 = ((i + 1 : Nat) : Int) by omega]
                        exact ih77 (i + 1) _ (by omega) (by omega)
                exact L77 _ 0 _ (Nat.lt_succ_self _) (by omega)
              · refine q_iconst (t := 55) F dX9_sheet_54 rfl ?_
                refine q_goto (t := 59) F dX9_sheet_55 (by decide) ?_
                first | refine stN_47 (t := 60) F dX9_sheet_59 (by omega) (by omega) rfl ?_ | refine st_47 (t := 60) F dX9_sheet_59 (by omega) (by omega) (by omega) rfl ?_
                refine q_aload_n (t := 61) F dX9_sheet_60 rfl rfl rfl ?_
                refine g_X9_72 (t := 64) F dX9_sheet_61 rfl rfl ?_
                refine q_iload_n (t := 65) F dX9_sheet_64 rfl rfl rfl ?_
                refine q_iload_n (t := 66) F dX9_sheet_65 rfl rfl rfl ?_
                first | refine stN_48 (t := 67) F dX9_sheet_66 (by omega) rfl ?_ | refine st_48 (t := 67) F dX9_sheet_66 (by omega) (by omega) rfl ?_
                refine q_aload_n (t := 68) F dX9_sheet_67 rfl rfl rfl ?_
                refine g_X9_75 (t := 71) F dX9_sheet_68 rfl rfl ?_
                refine q_iload_n (t := 72) F dX9_sheet_71 rfl rfl rfl ?_
                refine q_iload_n (t := 73) F dX9_sheet_72 rfl rfl rfl ?_
                first | refine stN_49 (t := 74) F dX9_sheet_73 (by omega) rfl ?_ | refine st_49 (t := 74) F dX9_sheet_73 (by omega) (by omega) rfl ?_
                refine q_iconst (t := 75) F dX9_sheet_74 rfl ?_
                refine q_istore (t := 77) F dX9_sheet_75 (by decide) rfl rfl ?_
                have L77 : ∀ (fz : Nat) (i : Nat) (im1 : IM), 41 - i < fz → i ≤ 40 → Wp M (XR G) ad Y_X9_sheet (pI fun x m' => x = (if ¬ (0 ≤ sh ∧ sh ≤ 3) ∨ ¬ (-1 ≤ srt ∧ srt ≤ 2) ∨ (0 ≤ srt ∧ 40 < n) then -2 else if 0 ≤ srt ∧ n < 0 then -14 else 1) ∧ ∃ im' lm', m' = (im', rs bt rt, lm')) 77 [some (vR 30 0), some (vI sh), some (vI srt), some (vI n), some (vI (i : Int))] [] (im1, rs bt rt, lm) := by
                  intro fz
                  induction fz with
                  | zero => intro i im1 h; exact absurd h (Nat.not_lt_zero _)
                  | succ fz ih =>
                    have ih77 := ih
                    intro i im1 hmeas hi
                    refine q_iload (t := 79) F dX9_sheet_77 rfl rfl ?_
                    refine q_iload_n (t := 80) F dX9_sheet_79 rfl rfl rfl ?_
                    refine q_icmp_ge (t := 83) (u := 106) F dX9_sheet_80 (by constructor <;> omega) (by constructor <;> omega) (by decide) rfl (fun c80 => ?_) (fun c80 => ?_)
                    · refine q_iconst (t := 107) F dX9_sheet_106 rfl ?_
                      refine q_iret F dX9_sheet_107 rfl ?_
                      first
                        | (refine ⟨_, rfl, ?_, _, _, rfl⟩
                           (repeat' split) <;> omega)
                        | (exfalso; omega)
                    · refine q_iload_n (t := 84) F dX9_sheet_83 rfl rfl rfl ?_
                      refine q_if_lt (t := 87) (u := 106) F dX9_sheet_84 (by first | exact hR _ _ _ | (constructor <;> omega)) (by decide) rfl (fun c84 => ?_) (fun c84 => ?_)
                      · refine q_iconst (t := 107) F dX9_sheet_106 rfl ?_
                        refine q_iret F dX9_sheet_107 rfl ?_
                        first
                          | (refine ⟨_, rfl, ?_, _, _, rfl⟩
                             (repeat' split) <;> omega)
                          | (exfalso; omega)
                      · refine q_aload_n (t := 88) F dX9_sheet_87 rfl rfl rfl ?_
                        refine g_X9_78 (t := 91) F dX9_sheet_88 rfl rfl ?_
                        refine q_bipush (t := 93) F dX9_sheet_91 (by decide) rfl ?_
                        refine q_iload_n (t := 94) F dX9_sheet_93 rfl rfl rfl ?_
                        refine q_imul (t := 95) F dX9_sheet_94 rfl ?_
                        refine q_iload (t := 97) F dX9_sheet_95 rfl rfl ?_
                        refine q_iadd (t := 98) F dX9_sheet_97 rfl ?_
                        refine q_iconst (t := 99) F dX9_sheet_98 rfl ?_
                        first | refine stN_50 (t := 100) F dX9_sheet_99 (by omega) rfl ?_ | refine st_50 (t := 100) F dX9_sheet_99 (by omega) (by omega) rfl ?_
                        refine q_iinc (t := 103) F dX9_sheet_100 rfl (by decide) rfl rfl ?_
                        refine q_goto (t := 77) F dX9_sheet_103 (by decide) ?_
                        rw [show (i : Int) + 1 = ((i + 1 : Nat) : Int) by omega]
                        exact ih77 (i + 1) _ (by omega) (by omega)
                exact L77 _ 0 _ (Nat.lt_succ_self _) (by omega)
            · refine q_bipush (t := 44) F dX9_sheet_42 (by decide) rfl ?_
              refine q_iret F dX9_sheet_44 rfl ?_
              first
                | (refine ⟨_, rfl, ?_, _, _, rfl⟩
                   (repeat' split) <;> omega)
                | (exfalso; omega)
        · refine q_bipush (t := 33) F dX9_sheet_31 (by decide) rfl ?_
          refine q_iret F dX9_sheet_33 rfl ?_
          first
            | (refine ⟨_, rfl, ?_, _, _, rfl⟩
               (repeat' split) <;> omega)
            | (exfalso; omega)

set_option maxHeartbeats 4000000 in
theorem f_X9_byteAt (l : Launch) (G : GS) (im : IM) (bt rt : Nat) (lm : IM) (hR : RI im) (i : Int) (hi : ri i) (h : im 30 0 22 ≤ i) : Cn l (XR G) yX9_byteAt Y_X9_byteAt [vR 30 0, vI i] (im, rs bt rt, lm) (pI fun x m' => x = -1 ∧ m' = (im, rs bt rt, lm)) := by
  refine cn_of (by decide) (okR G) rfl (Nat.le_of_ble_eq_true rfl) ?_
  intro M ad hMl F
  subst hMl
  have hi1 := hi.1
  have hi2 := hi.2
  refine wp_pad 0 ?_
  show Wp M (XR G) ad Y_X9_byteAt (pI fun x m' => x = -1 ∧ m' = (im, rs bt rt, lm)) 0 [some (vR 30 0), some (vI i)] [] (im, rs bt rt, lm)
  refine q_iload_n (t := 1) F dX9_byteAt_0 rfl rfl rfl ?_
  refine q_aload_n (t := 2) F dX9_byteAt_1 rfl rfl rfl ?_
  refine g_X9_149 (t := 5) F dX9_byteAt_2 rfl rfl ?_
  refine q_icmp_ge (t := 8) (u := 22) F dX9_byteAt_5 (by first | exact hR _ _ _ | (constructor <;> omega)) (by first | exact hR _ _ _ | (constructor <;> omega)) (by decide) rfl (fun c5 => ?_) (fun c5 => ?_)
  · refine q_iconst (t := 23) F dX9_byteAt_22 rfl ?_
    refine q_iret F dX9_byteAt_23 rfl ?_
    exact ⟨_, rfl, rfl, rfl⟩
  · exfalso; omega

set_option maxHeartbeats 4000000 in
theorem f_X9_next (l : Launch) (G : GS) (im : IM) (bt rt : Nat) (lm : IM) (hR : RI im) (h22 : im 30 0 22 = 0) (h23 : im 30 0 23 = 0) : Cn l (XR G) yX9_next Y_X9_next [vR 30 0] (im, rs bt rt, lm) (pV fun m' => ∃ im', RI im' ∧ im' 30 0 24 = 0 ∧ im' 30 0 25 = 0 ∧ (∀ s, s ≠ 24 → s ≠ 25 → im' 30 0 s = im 30 0 s) ∧ m' = (im', rs bt rt, lm)) := by
  refine cn_of (by decide) (okR G) rfl (Nat.le_of_ble_eq_true rfl) ?_
  intro M ad hMl F
  subst hMl
  refine wp_pad 2 ?_
  show Wp M (XR G) ad Y_X9_next (pV fun m' => ∃ im', RI im' ∧ im' 30 0 24 = 0 ∧ im' 30 0 25 = 0 ∧ (∀ s, s ≠ 24 → s ≠ 25 → im' 30 0 s = im 30 0 s) ∧ m' = (im', rs bt rt, lm)) 0 [some (vR 30 0), none, none] [] (im, rs bt rt, lm)
  refine q_aload_n (t := 1) F dX9_next_0 rfl rfl rfl ?_
  refine q_aload_n (t := 2) F dX9_next_1 rfl rfl rfl ?_
  refine g_X9_155 (t := 5) F dX9_next_2 rfl rfl ?_
  refine wp_callV (t := 8) [_] F dX9_next_5 k_X9_byteAt v_X9_byteAt ml_X9_158 rfl rfl rfl rfl (Nat.le_of_ble_eq_true rfl) (by decide) (m_30 (by omega)) (f_X9_byteAt _ G im bt rt lm hR _ (hR _ _ _) (by omega)) rfl (kI ?_)
  rintro x5 m' ⟨rfl, rfl⟩
  refine q_bipush (t := 10) F dX9_next_8 (by decide) rfl ?_
  refine q_icmp_eq (t := 13) (u := 26) F dX9_next_10 (by first | exact hR _ _ _ | (constructor <;> omega)) (by first | exact hR _ _ _ | (constructor <;> omega)) (by decide) rfl (fun c10 => ?_) (fun c10 => ?_)
  · exfalso; omega
  · refine q_aload_n (t := 14) F dX9_next_13 rfl rfl rfl ?_
    refine q_aload_n (t := 15) F dX9_next_14 rfl rfl rfl ?_
    refine g_X9_155 (t := 18) F dX9_next_15 rfl rfl ?_
    try simp only [up_app, row_app, scr_app, cpy_app, Nat.reduceEqDiff, Int.reduceToNat, Int.toNat_natCast, and_true, true_and, and_false, false_and, and_self, reduceIte]
    refine wp_callV (t := 21) [_] F dX9_next_18 k_X9_byteAt v_X9_byteAt ml_X9_158 rfl rfl rfl rfl (Nat.le_of_ble_eq_true rfl) (by decide) (m_30 (by omega)) (f_X9_byteAt _ G im bt rt lm hR _ (hR _ _ _) (by omega)) rfl (kI ?_)
    rintro x18 m' ⟨rfl, rfl⟩
    refine q_bipush (t := 23) F dX9_next_21 (by decide) rfl ?_
    refine q_icmp_ne (t := 26) (u := 39) F dX9_next_23 (by first | exact hR _ _ _ | (constructor <;> omega)) (by first | exact hR _ _ _ | (constructor <;> omega)) (by decide) rfl (fun c23 => ?_) (fun c23 => ?_)
    · refine q_aload_n (t := 40) F dX9_next_39 rfl rfl rfl ?_
      refine q_aload_n (t := 41) F dX9_next_40 rfl rfl rfl ?_
      refine g_X9_155 (t := 44) F dX9_next_41 rfl rfl ?_
      try simp only [up_app, row_app, scr_app, cpy_app, Nat.reduceEqDiff, Int.reduceToNat, Int.toNat_natCast, and_true, true_and, and_false, false_and, and_self, reduceIte]
      refine p_X9_161 (t := 47) F dX9_next_44 rfl rfl ?_
      refine q_aload_n (t := 48) F dX9_next_47 rfl rfl rfl ?_
      refine q_aload_n (t := 49) F dX9_next_48 rfl rfl rfl ?_
      refine g_X9_155 (t := 52) F dX9_next_49 rfl rfl ?_
      try simp only [up_app, row_app, scr_app, cpy_app, Nat.reduceEqDiff, Int.reduceToNat, Int.toNat_natCast, and_true, true_and, and_false, false_and, and_self, reduceIte]
      refine wp_callV (t := 55) [_] F dX9_next_52 k_X9_byteAt v_X9_byteAt ml_X9_158 rfl rfl rfl rfl (Nat.le_of_ble_eq_true rfl) (by decide) (m_30 (by omega)) (f_X9_byteAt _ G _ bt rt lm (RI_up hR (hR _ _ _)) _ (hR _ _ _) (by rw [up_app, if_neg (by omega)]; omega)) rfl (kI ?_)
      rintro x52 m' ⟨rfl, rfl⟩
      refine q_istore_n (t := 56) F dX9_next_55 rfl (by decide) rfl rfl ?_
      refine q_aload_n (t := 57) F dX9_next_56 rfl rfl rfl ?_
      refine q_iconst (t := 58) F dX9_next_57 rfl ?_
      refine p_X9_164 (t := 61) F dX9_next_58 rfl rfl ?_
      refine q_iload_n (t := 62) F dX9_next_61 rfl rfl rfl ?_
      refine q_if_ge (t := 65) (u := 81) F dX9_next_62 (by first | exact hR _ _ _ | (constructor <;> omega)) (by decide) rfl (fun c62 => ?_) (fun c62 => ?_)
      · exfalso; omega
      · refine q_aload_n (t := 66) F dX9_next_65 rfl rfl rfl ?_
        refine q_iconst (t := 67) F dX9_next_66 rfl ?_
        refine p_X9_164 (t := 70) F dX9_next_67 rfl rfl ?_
        refine q_aload_n (t := 71) F dX9_next_70 rfl rfl rfl ?_
        refine q_aload_n (t := 72) F dX9_next_71 rfl rfl rfl ?_
        refine g_X9_149 (t := 75) F dX9_next_72 rfl rfl ?_
        try simp only [up_app, row_app, scr_app, cpy_app, Nat.reduceEqDiff, Int.reduceToNat, Int.toNat_natCast, and_true, true_and, and_false, false_and, and_self, reduceIte]
        refine p_X9_161 (t := 78) F dX9_next_75 rfl rfl ?_
        refine q_goto (t := 321) F dX9_next_78 (by decide) ?_
        refine q_vret F dX9_next_321 rfl ?_
        refine ⟨rfl, _, RI_up (RI_up (RI_up (RI_up hR (hR _ _ _)) (by constructor <;> omega)) (by constructor <;> omega)) (hR _ _ _), ?_, ?_, (fun s q1 q2 => ?_), rfl⟩
        · rw [up_app, if_neg (by omega), up_app, if_pos ⟨rfl, rfl, rfl⟩]
        · rw [up_app, if_pos ⟨rfl, rfl, rfl⟩]; exact h22
        · simp only [up_app]; repeat rw [if_neg (by omega)]
    · exfalso; omega

set_option maxHeartbeats 4000000 in
theorem f_X9_isWord (l : Launch) (G : GS) (im : IM) (bt rt : Nat) (lm : IM) (hR : RI im) (h24 : im 30 0 24 = 0) (a0 : Int) (a1 : Int) (a2 : Int) (a3 : Int) (a4 : Int) (a5 : Int) (a6 : Int) (a7 : Int) : Cn l (XR G) yX9_isWord_ Y_X9_isWord_ [vR 30 0, vI a0, vI a1, vI a2, vI a3, vI a4, vI a5, vI a6, vI a7] (im, rs bt rt, lm) (pI fun x m' => x = 0 ∧ m' = (im, rs bt rt, lm)) := by
  refine cn_of (by decide) (okR G) rfl (Nat.le_of_ble_eq_true rfl) ?_
  intro M ad hMl F
  subst hMl
  refine wp_pad 0 ?_
  show Wp M (XR G) ad Y_X9_isWord_ (pI fun x m' => x = 0 ∧ m' = (im, rs bt rt, lm)) 0 [some (vR 30 0), some (vI a0), some (vI a1), some (vI a2), some (vI a3), some (vI a4), some (vI a5), some (vI a6), some (vI a7)] [] (im, rs bt rt, lm)
  refine q_aload_n (t := 1) F dX9_isWord__0 rfl rfl rfl ?_
  refine g_X9_179 (t := 4) F dX9_isWord__1 rfl rfl ?_
  refine q_if_ne (t := 7) (u := 112) F dX9_isWord__4 (by first | exact hR _ _ _ | (constructor <;> omega)) (by decide) rfl (fun c4 => ?_) (fun c4 => ?_)
  · refine q_iconst (t := 113) F dX9_isWord__112 rfl ?_
    refine q_zret F dX9_isWord__113 rfl (by decide) ?_
    exact ⟨_, rfl, rfl, rfl⟩
  · refine q_aload_n (t := 8) F dX9_isWord__7 rfl rfl rfl ?_
    refine g_X9_164 (t := 11) F dX9_isWord__8 rfl rfl ?_
    refine q_iconst (t := 12) F dX9_isWord__11 rfl ?_
    refine q_icmp_ne (t := 15) (u := 112) F dX9_isWord__12 (by first | exact hR _ _ _ | (constructor <;> omega)) (by first | exact hR _ _ _ | (constructor <;> omega)) (by decide) rfl (fun c12 => ?_) (fun c12 => ?_)
    · refine q_iconst (t := 113) F dX9_isWord__112 rfl ?_
      refine q_zret F dX9_isWord__113 rfl (by decide) ?_
      exact ⟨_, rfl, rfl, rfl⟩
    · exfalso; omega

set_option maxHeartbeats 4000000 in
theorem f_X9_isSign (l : Launch) (G : GS) (im : IM) (bt rt : Nat) (lm : IM) (h28 : im 30 0 28 = 1) (a : Int) : Cn l (XR G) yX9_isSign Y_X9_isSign [vR 30 0, vI a] (im, rs bt rt, lm) (pI fun x m' => x = 0 ∧ m' = (im, rs bt rt, lm)) := by
  refine cn_of (by decide) (okR G) rfl (Nat.le_of_ble_eq_true rfl) ?_
  intro M ad hMl F
  subst hMl
  refine wp_pad 0 ?_
  show Wp M (XR G) ad Y_X9_isSign (pI fun x m' => x = 0 ∧ m' = (im, rs bt rt, lm)) 0 [some (vR 30 0), some (vI a)] [] (im, rs bt rt, lm)
  refine q_aload_n (t := 1) F dX9_isSign_0 rfl rfl rfl ?_
  refine g_X9_179 (t := 4) F dX9_isSign_1 rfl rfl ?_
  refine q_if_ne (t := 7) (u := 29) F dX9_isSign_4 (by rw [h28]; constructor <;> omega) (by decide) rfl (fun c4 => ?_) (fun c4 => ?_)
  · refine q_iconst (t := 30) F dX9_isSign_29 rfl ?_
    refine q_zret F dX9_isSign_30 rfl (by decide) ?_
    exact ⟨_, rfl, rfl, rfl⟩
  · exfalso; omega

set_option maxHeartbeats 4000000 in
theorem f_X9_fail (l : Launch) (G : GS) (im : IM) (bt rt : Nat) (lm : IM) (hR : RI im) : Cn l (XR G) yX9_fail Y_X9_fail [vR 30 0] (im, rs bt rt, lm) (pV fun m' => m' = ((if im 30 0 28 = 0 then up (up im 30 0 28 1) 30 0 29 (im 30 0 25) else im), rs bt rt, lm)) := by
  refine cn_of (by decide) (okR G) rfl (Nat.le_of_ble_eq_true rfl) ?_
  intro M ad hMl F
  subst hMl
  refine wp_pad 0 ?_
  show Wp M (XR G) ad Y_X9_fail (pV fun m' => m' = ((if im 30 0 28 = 0 then up (up im 30 0 28 1) 30 0 29 (im 30 0 25) else im), rs bt rt, lm)) 0 [some (vR 30 0)] [] (im, rs bt rt, lm)
  refine q_aload_n (t := 1) F dX9_fail_0 rfl rfl rfl ?_
  refine g_X9_179 (t := 4) F dX9_fail_1 rfl rfl ?_
  refine q_if_ne (t := 7) (u := 20) F dX9_fail_4 (by first | exact hR _ _ _ | (constructor <;> omega)) (by decide) rfl (fun c4 => ?_) (fun c4 => ?_)
  · refine q_vret F dX9_fail_20 rfl ?_
    first
      | exact ⟨rfl, by rw [if_pos (by omega)]⟩
      | exact ⟨rfl, by rw [if_neg (by omega)]⟩
  · refine q_aload_n (t := 8) F dX9_fail_7 rfl rfl rfl ?_
    refine q_iconst (t := 9) F dX9_fail_8 rfl ?_
    refine p_X9_179 (t := 12) F dX9_fail_9 rfl (by omega) rfl ?_
    refine q_aload_n (t := 13) F dX9_fail_12 rfl rfl rfl ?_
    refine q_aload_n (t := 14) F dX9_fail_13 rfl rfl rfl ?_
    refine g_X9_161 (t := 17) F dX9_fail_14 rfl rfl ?_
    try simp only [up_app, row_app, scr_app, cpy_app, Nat.reduceEqDiff, Int.reduceToNat, Int.toNat_natCast, and_true, true_and, and_false, false_and, and_self, reduceIte]
    refine p_X9_183 (t := 20) F dX9_fail_17 rfl rfl ?_
    refine q_vret F dX9_fail_20 rfl ?_
    first
      | exact ⟨rfl, by rw [if_pos (by omega)]⟩
      | exact ⟨rfl, by rw [if_neg (by omega)]⟩

set_option maxHeartbeats 4000000 in
theorem f_X9_part (l : Launch) (G : GS) (im : IM) (bt rt : Nat) (lm : IM) (hR : RI im) (h28 : im 30 0 28 = 0) : Cn l (XR G) yX9_part Y_X9_part [vR 30 0, vI 0] (im, rs bt rt, lm) (pI fun x m' => x = 0 ∧ m' = (up (up im 30 0 28 1) 30 0 29 (im 30 0 25), rs bt rt, lm)) := by
  refine cn_of (by decide) (okR G) rfl (Nat.le_of_ble_eq_true rfl) ?_
  intro M ad hMl F
  subst hMl
  refine wp_pad 1 ?_
  show Wp M (XR G) ad Y_X9_part (pI fun x m' => x = 0 ∧ m' = (up (up im 30 0 28 1) 30 0 29 (im 30 0 25), rs bt rt, lm)) 0 [some (vR 30 0), some (vI 0), none] [] (im, rs bt rt, lm)
  refine q_iload_n (t := 1) F dX9_part_0 rfl rfl rfl ?_
  refine q_if_ne (t := 4) (u := 8) F dX9_part_1 (by first | exact hR _ _ _ | (constructor <;> omega)) (by decide) rfl (fun c1 => ?_) (fun c1 => ?_)
  · exfalso; omega
  · refine q_aload_n (t := 5) F dX9_part_4 rfl rfl rfl ?_
    refine wp_callV (t := 8) [] F dX9_part_5 k_X9_fail v_X9_fail ml_X9_193 rfl rfl rfl rfl (Nat.le_of_ble_eq_true rfl) (by decide) (m_30 (by omega)) (f_X9_fail _ G im bt rt lm hR) rfl (kV ?_)
    rintro m' rfl
    rw [if_pos h28]
    refine q_aload_n (t := 9) F dX9_part_8 rfl rfl rfl ?_
    refine g_X9_179 (t := 12) F dX9_part_9 rfl rfl ?_
    try simp only [up_app, row_app, scr_app, cpy_app, Nat.reduceEqDiff, Int.reduceToNat, Int.toNat_natCast, and_true, true_and, and_false, false_and, and_self, reduceIte]
    refine q_if_ne (t := 15) (u := 19) F dX9_part_12 (by first | exact hR _ _ _ | (constructor <;> omega)) (by decide) rfl (fun c12 => ?_) (fun c12 => ?_)
    · refine q_aload_n (t := 20) F dX9_part_19 rfl rfl rfl ?_
      refine g_X9_179 (t := 23) F dX9_part_20 rfl rfl ?_
      try simp only [up_app, row_app, scr_app, cpy_app, Nat.reduceEqDiff, Int.reduceToNat, Int.toNat_natCast, and_true, true_and, and_false, false_and, and_self, reduceIte]
      refine q_if_eq (t := 26) (u := 30) F dX9_part_23 (by first | exact hR _ _ _ | (constructor <;> omega)) (by decide) rfl (fun c23 => ?_) (fun c23 => ?_)
      · exfalso; omega
      · refine q_iconst (t := 27) F dX9_part_26 rfl ?_
        refine q_goto (t := 34) F dX9_part_27 (by decide) ?_
        refine q_istore_n (t := 35) F dX9_part_34 rfl (by decide) rfl rfl ?_
        refine q_aload_n (t := 36) F dX9_part_35 rfl rfl rfl ?_
        refine q_bipush (t := 38) F dX9_part_36 (by decide) rfl ?_
        refine wp_callV (t := 41) [_] F dX9_part_38 k_X9_isSign v_X9_isSign ml_X9_220 rfl rfl rfl rfl (Nat.le_of_ble_eq_true rfl) (by decide) (m_30 (by omega)) (f_X9_isSign _ G _ bt rt lm (by rw [up_app, if_neg (by omega), up_app, if_pos ⟨rfl, rfl, rfl⟩]) _) rfl (kI ?_)
        rintro x38 m' ⟨rfl, rfl⟩
        refine q_if_ne (t := 44) (u := 48) F dX9_part_41 (by first | exact hR _ _ _ | (constructor <;> omega)) (by decide) rfl (fun c41 => ?_) (fun c41 => ?_)
        · exfalso; omega
        · refine q_aload_n (t := 45) F dX9_part_44 rfl rfl rfl ?_
          refine wp_callV (t := 48) [] F dX9_part_45 k_X9_fail v_X9_fail ml_X9_193 rfl rfl rfl rfl (Nat.le_of_ble_eq_true rfl) (by decide) (m_30 (by omega)) (f_X9_fail _ G _ bt rt lm (RI_up (RI_up hR (by constructor <;> omega)) (hR _ _ _))) rfl (kV ?_)
          rintro m' rfl
          rw [if_neg (by rw [up_app, if_neg (by omega), up_app, if_pos ⟨rfl, rfl, rfl⟩]; omega)]
          refine q_aload_n (t := 49) F dX9_part_48 rfl rfl rfl ?_
          refine g_X9_179 (t := 52) F dX9_part_49 rfl rfl ?_
          try simp only [up_app, row_app, scr_app, cpy_app, Nat.reduceEqDiff, Int.reduceToNat, Int.toNat_natCast, and_true, true_and, and_false, false_and, and_self, reduceIte]
          refine q_if_ne (t := 55) (u := 59) F dX9_part_52 (by first | exact hR _ _ _ | (constructor <;> omega)) (by decide) rfl (fun c52 => ?_) (fun c52 => ?_)
          · refine q_iload_n (t := 60) F dX9_part_59 rfl rfl rfl ?_
            refine q_iret F dX9_part_60 rfl ?_
            exact ⟨_, rfl, rfl, rfl⟩
          · exfalso; omega
    · exfalso; omega
