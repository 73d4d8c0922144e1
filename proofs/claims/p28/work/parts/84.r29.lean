/-! the reference: kiss, man -/

def fiR (im : IM) (a n : Nat) (v : Int) : IM := fun k i s => if k = 36 ∧ i = 0 ∧ a ≤ s ∧ s < a + n then v else im k i s
theorem fiR_0 (im : IM) (a : Nat) (v : Int) : fiR im a 0 v = im := by
  funext k i s
  unfold fiR
  rw [if_neg (by omega)]
theorem fiR_s (im : IM) (a n : Nat) (v : Int) : up (fiR im a n v) 36 0 (a + n) v = fiR im a (n + 1) v := by
  funext k i s
  rw [up_app]
  unfold fiR
  by_cases h : k = 36 ∧ i = 0 ∧ s = a + n
  · rw [if_pos h, if_pos (by omega)]
  · rw [if_neg h]
    by_cases h2 : k = 36 ∧ i = 0 ∧ a ≤ s ∧ s < a + n
    · rw [if_pos h2, if_pos (by omega)]
    · rw [if_neg h2, if_neg (by omega)]

set_option maxHeartbeats 4000000 in
theorem c_X9_kiss (l : Launch) (G : GS) (im : IM) (bt rt : Nat) (lm : IM) (h : RC im) (p q : Int) (hp : ri p) (hq : ri q) : Cn l (XR G) yX9_kiss Y_X9_kiss [vR 30 0, vI p, vI q] (im, rs bt rt, lm) (pI fun x m' => ((0 ≤ p ∧ p < im 30 0 12) ∧ (0 ≤ q ∧ q < im 30 0 12) ∧ p ≠ q → x = hnN im p.toNat q.toNat 10 ∧ m' = (hnR im p.toNat q.toNat 10, rs bt rt, lm)) ∧ (¬ ((0 ≤ p ∧ p < im 30 0 12) ∧ (0 ≤ q ∧ q < im 30 0 12) ∧ p ≠ q) → x = -2 ∧ m' = (im, rs bt rt, lm))) := by
  refine cn_of (by decide) (okR G) rfl (Nat.le_of_ble_eq_true rfl) ?_
  intro M ad hMl F
  subst hMl
  have hR := h.1
  have hX := h.2.1
  have h4 := h.2.2.1
  have h12 := h.2.2.2.1
  have h7 := h.2.2.2.2.1
  have h6 := hX.2.2.1
  have h3 := hX.2.2.2.1
  have hP := h.2.2.2.2.2.2
  have p1 := hp.1
  have p2 := hp.2
  have q1 := hq.1
  have q2 := hq.2
  refine wp_pad 0 ?_
  show Wp M (XR G) ad Y_X9_kiss (pI fun x m' => ((0 ≤ p ∧ p < im 30 0 12) ∧ (0 ≤ q ∧ q < im 30 0 12) ∧ p ≠ q → x = hnN im p.toNat q.toNat 10 ∧ m' = (hnR im p.toNat q.toNat 10, rs bt rt, lm)) ∧ (¬ ((0 ≤ p ∧ p < im 30 0 12) ∧ (0 ≤ q ∧ q < im 30 0 12) ∧ p ≠ q) → x = -2 ∧ m' = (im, rs bt rt, lm))) 0 [some (vR 30 0), some (vI p), some (vI q)] [] (im, rs bt rt, lm)
  refine q_aload_n (t := 1) F dX9_kiss_0 rfl rfl rfl ?_
  refine q_iload_n (t := 2) F dX9_kiss_1 rfl rfl rfl ?_
  refine wp_callV (t := 5) [_] F dX9_kiss_2 k_X9_isOne v_X9_isOne ml_X9_101 rfl rfl rfl rfl (Nat.le_of_ble_eq_true rfl) (by decide) (m_30 (by omega)) (c_X9_isOne _ G im bt rt lm hR h12.1 h12.2 p (by constructor <;> omega)) rfl (kI ?_)
  rintro x2 m' ⟨hx2, rfl⟩
  have hx2 := if01 hx2
  refine q_if_eq (t := 8) (u := 30) F dX9_kiss_5 (by first | exact hR _ _ _ | (constructor <;> omega)) (by decide) rfl (fun c5 => ?_) (fun c5 => ?_)
  · refine q_bipush (t := 32) F dX9_kiss_30 (by decide) rfl ?_
    refine q_iret F dX9_kiss_32 rfl ?_
    first
      | exact ⟨_, rfl, fun _ => ⟨rfl, rfl⟩, fun z => absurd (by omega) z⟩
      | exact ⟨_, rfl, fun z => absurd z (by omega), fun _ => ⟨rfl, rfl⟩⟩
  · refine q_aload_n (t := 9) F dX9_kiss_8 rfl rfl rfl ?_
    refine q_iload_n (t := 10) F dX9_kiss_9 rfl rfl rfl ?_
    refine wp_callV (t := 13) [_] F dX9_kiss_10 k_X9_isOne v_X9_isOne ml_X9_101 rfl rfl rfl rfl (Nat.le_of_ble_eq_true rfl) (by decide) (m_30 (by omega)) (c_X9_isOne _ G im bt rt lm hR h12.1 h12.2 q (by constructor <;> omega)) rfl (kI ?_)
    rintro x10 m' ⟨hx10, rfl⟩
    have hx10 := if01 hx10
    refine q_if_eq (t := 16) (u := 30) F dX9_kiss_13 (by first | exact hR _ _ _ | (constructor <;> omega)) (by decide) rfl (fun c13 => ?_) (fun c13 => ?_)
    · refine q_bipush (t := 32) F dX9_kiss_30 (by decide) rfl ?_
      refine q_iret F dX9_kiss_32 rfl ?_
      first
        | exact ⟨_, rfl, fun _ => ⟨rfl, rfl⟩, fun z => absurd (by omega) z⟩
        | exact ⟨_, rfl, fun z => absurd z (by omega), fun _ => ⟨rfl, rfl⟩⟩
    · refine q_iload_n (t := 17) F dX9_kiss_16 rfl rfl rfl ?_
      refine q_iload_n (t := 18) F dX9_kiss_17 rfl rfl rfl ?_
      refine q_icmp_eq (t := 21) (u := 30) F dX9_kiss_18 (by exact hp) (by exact hq) (by decide) rfl (fun c18 => ?_) (fun c18 => ?_)
      · refine q_bipush (t := 32) F dX9_kiss_30 (by decide) rfl ?_
        refine q_iret F dX9_kiss_32 rfl ?_
        first
          | exact ⟨_, rfl, fun _ => ⟨rfl, rfl⟩, fun z => absurd (by omega) z⟩
          | exact ⟨_, rfl, fun z => absurd z (by omega), fun _ => ⟨rfl, rfl⟩⟩
      · refine q_aload_n (t := 22) F dX9_kiss_21 rfl rfl rfl ?_
        refine q_iload_n (t := 23) F dX9_kiss_22 rfl rfl rfl ?_
        rw [show vI p = vI ((p.toNat : Nat) : Int) by rw [Int.toNat_of_nonneg (by omega)]]
        refine q_iload_n (t := 24) F dX9_kiss_23 rfl rfl rfl ?_
        rw [show vI q = vI ((q.toNat : Nat) : Int) by rw [Int.toNat_of_nonneg (by omega)]]
        refine wp_callV (t := 27) [_, _] F dX9_kiss_24 k_X9_hands v_X9_hands ml_X9_367 rfl rfl rfl rfl (Nat.le_of_ble_eq_true rfl) (by decide) (m_30 (by omega)) (c_X9_hands _ G im bt rt lm hR p.toNat q.toNat (by omega) (by omega) (by omega)) rfl (kI ?_)
        rintro x24 m' ⟨rfl, rfl⟩
        refine q_goto (t := 32) F dX9_kiss_27 (by decide) ?_
        refine q_iret F dX9_kiss_32 rfl ?_
        first
          | exact ⟨_, rfl, fun _ => ⟨rfl, rfl⟩, fun z => absurd (by omega) z⟩
          | exact ⟨_, rfl, fun z => absurd z (by omega), fun _ => ⟨rfl, rfl⟩⟩

set_option maxHeartbeats 4000000 in
theorem c_X9_man (l : Launch) (G : GS) (im : IM) (bt rt : Nat) (lm : IM) (h : RC im) (a c : Int) (ha : ri a) (hc : ri c) : Cn l (XR G) yX9_man Y_X9_man [vR 30 0, vI a, vI c] (im, rs bt rt, lm) (pI fun x m' => (¬ ((0 ≤ a ∧ a ≤ 5) ∧ (0 ≤ c ∧ c ≤ 9)) → x = -2 ∧ m' = (im, rs bt rt, lm)) ∧ ((0 ≤ a ∧ a ≤ 5) ∧ (0 ≤ c ∧ c ≤ 9) → im 30 0 12 = 5 → x = -4 ∧ m' = (im, rs bt rt, lm)) ∧ ((0 ≤ a ∧ a ≤ 5) ∧ (0 ≤ c ∧ c ≤ 9) → im 30 0 12 ≠ 5 → x = im 30 0 12 ∧ m' = (up (fiR (up (up im 34 0 (im 30 0 12).toNat a) 35 0 (im 30 0 12).toNat c) (10 * (im 30 0 12).toNat) 10 (-1)) 30 0 12 (im 30 0 12 + 1), rs bt rt, lm))) := by
  refine cn_of (by decide) (okR G) rfl (Nat.le_of_ble_eq_true rfl) ?_
  intro M ad hMl F
  subst hMl
  have hR := h.1
  have hX := h.2.1
  have h4 := h.2.2.1
  have h12 := h.2.2.2.1
  have h7 := h.2.2.2.2.1
  have h6 := hX.2.2.1
  have h3 := hX.2.2.2.1
  have hP := h.2.2.2.2.2.2
  have a1 := ha.1
  have a2 := ha.2
  have c1 := hc.1
  have c2 := hc.2
  obtain ⟨t, ht⟩ : ∃ t : Nat, im 30 0 12 = t := ⟨(im 30 0 12).toNat, by omega⟩
  have htt : (im 30 0 12).toNat = t := by omega
  refine wp_pad 1 ?_
  show Wp M (XR G) ad Y_X9_man (pI fun x m' => (¬ ((0 ≤ a ∧ a ≤ 5) ∧ (0 ≤ c ∧ c ≤ 9)) → x = -2 ∧ m' = (im, rs bt rt, lm)) ∧ ((0 ≤ a ∧ a ≤ 5) ∧ (0 ≤ c ∧ c ≤ 9) → im 30 0 12 = 5 → x = -4 ∧ m' = (im, rs bt rt, lm)) ∧ ((0 ≤ a ∧ a ≤ 5) ∧ (0 ≤ c ∧ c ≤ 9) → im 30 0 12 ≠ 5 → x = im 30 0 12 ∧ m' = (up (fiR (up (up im 34 0 (im 30 0 12).toNat a) 35 0 (im 30 0 12).toNat c) (10 * (im 30 0 12).toNat) 10 (-1)) 30 0 12 (im 30 0 12 + 1), rs bt rt, lm))) 0 [some (vR 30 0), some (vI a), some (vI c), none] [] (im, rs bt rt, lm)
  refine q_iload_n (t := 1) F dX9_man_0 rfl rfl rfl ?_
  refine q_i2l (t := 2) F dX9_man_1 (by first | exact hR _ _ _ | (constructor <;> omega)) rfl ?_
  refine q_lconst (t := 3) (x := 0) F dX9_man_2 (by decide) rfl ?_
  refine q_ldc2 (t := 6) (x := 5) F dX9_man_3 kl_X9_123 (by decide) rfl ?_
  refine wp_callS (t := 9) [_, _, _] F dX9_man_6 k_X9_in st_X9_in ml_X9_91 rfl rfl (Nat.le_of_ble_eq_true rfl) (by decide) (c_X9_in _ G _ _ _ _ _ _ _ (by constructor <;> omega) (by constructor <;> omega) (by constructor <;> omega)) rfl (kI ?_)
  rintro x6 m' ⟨hx6, rfl⟩
  have hx6 := if01 hx6
  refine q_if_eq (t := 12) (u := 24) F dX9_man_9 (by first | exact hR _ _ _ | (constructor <;> omega)) (by decide) rfl (fun c9 => ?_) (fun c9 => ?_)
  · refine q_bipush (t := 26) F dX9_man_24 (by decide) rfl ?_
    refine q_iret F dX9_man_26 rfl ?_
    first
      | exact ⟨_, rfl, fun _ => ⟨rfl, rfl⟩, fun z => absurd z (by omega), fun z => absurd z (by omega)⟩
      | exact ⟨_, rfl, fun z => absurd (by omega) z, fun _ _ => ⟨rfl, rfl⟩, fun _ z => absurd (by omega) z⟩
      | (obtain rfl : n = 10 := by omega
         refine ⟨_, rfl, fun z => absurd (by omega) z, fun _ z => absurd z (by omega), fun _ _ => ⟨?_, ?_⟩⟩
         · show _ = im 30 0 12
           rw [ht]
           omega
         · rw [htt, ht])
  · refine q_iload_n (t := 13) F dX9_man_12 rfl rfl rfl ?_
    refine q_i2l (t := 14) F dX9_man_13 (by first | exact hR _ _ _ | (constructor <;> omega)) rfl ?_
    refine q_lconst (t := 15) (x := 0) F dX9_man_14 (by decide) rfl ?_
    refine q_ldc2 (t := 18) (x := 9) F dX9_man_15 kl_X9_95 (by decide) rfl ?_
    refine wp_callS (t := 21) [_, _, _] F dX9_man_18 k_X9_in st_X9_in ml_X9_91 rfl rfl (Nat.le_of_ble_eq_true rfl) (by decide) (c_X9_in _ G _ _ _ _ _ _ _ (by constructor <;> omega) (by constructor <;> omega) (by constructor <;> omega)) rfl (kI ?_)
    rintro x18 m' ⟨hx18, rfl⟩
    have hx18 := if01 hx18
    refine q_if_ne (t := 24) (u := 27) F dX9_man_21 (by first | exact hR _ _ _ | (constructor <;> omega)) (by decide) rfl (fun c21 => ?_) (fun c21 => ?_)
    · refine q_aload_n (t := 28) F dX9_man_27 rfl rfl rfl ?_
      refine g_X9_88 (t := 31) F dX9_man_28 rfl rfl ?_
      try simp only [up_app, row_app, scr_app, cpy_app, Nat.reduceEqDiff, Int.reduceToNat, Int.toNat_natCast, and_true, true_and, and_false, false_and, and_self, reduceIte]
      refine q_iconst (t := 32) F dX9_man_31 rfl ?_
      refine q_icmp_ne (t := 35) (u := 38) F dX9_man_32 (by exact hR _ _ _) (by constructor <;> omega) (by decide) rfl (fun c32 => ?_) (fun c32 => ?_)
      · refine q_aload_n (t := 39) F dX9_man_38 rfl rfl rfl ?_
        refine g_X9_26 (t := 42) F dX9_man_39 rfl rfl ?_
        refine q_aload_n (t := 43) F dX9_man_42 rfl rfl rfl ?_
        refine g_X9_88 (t := 46) F dX9_man_43 rfl rfl ?_
        try simp only [up_app, row_app, scr_app, cpy_app, Nat.reduceEqDiff, Int.reduceToNat, Int.toNat_natCast, and_true, true_and, and_false, false_and, and_self, reduceIte]
        rw [show vI (im 30 0 12) = vI ((t : Nat) : Int) by rw [ht]]
        refine q_iload_n (t := 47) F dX9_man_46 rfl rfl rfl ?_
        first | refine stN_34 (t := 48) F dX9_man_47 (by omega) rfl ?_ | refine st_34 (t := 48) F dX9_man_47 (by omega) (by omega) rfl ?_
        refine q_aload_n (t := 49) F dX9_man_48 rfl rfl rfl ?_
        refine g_X9_29 (t := 52) F dX9_man_49 rfl rfl ?_
        refine q_aload_n (t := 53) F dX9_man_52 rfl rfl rfl ?_
        refine g_X9_88 (t := 56) F dX9_man_53 rfl rfl ?_
        try simp only [up_app, row_app, scr_app, cpy_app, Nat.reduceEqDiff, Int.reduceToNat, Int.toNat_natCast, and_true, true_and, and_false, false_and, and_self, reduceIte]
        rw [show vI (im 30 0 12) = vI ((t : Nat) : Int) by rw [ht]]
        refine q_iload_n (t := 57) F dX9_man_56 rfl rfl rfl ?_
        first | refine stN_35 (t := 58) F dX9_man_57 (by omega) rfl ?_ | refine st_35 (t := 58) F dX9_man_57 (by omega) (by omega) rfl ?_
        refine q_iconst (t := 59) F dX9_man_58 rfl ?_
        refine q_istore_n (t := 60) F dX9_man_59 rfl (by decide) rfl rfl ?_
        have L60 : ∀ (fz : Nat) (n : Nat), 10 - n < fz → n ≤ 10 → Wp M (XR G) ad Y_X9_man (pI fun x m' => (¬ ((0 ≤ a ∧ a ≤ 5) ∧ (0 ≤ c ∧ c ≤ 9)) → x = -2 ∧ m' = (im, rs bt rt, lm)) ∧ ((0 ≤ a ∧ a ≤ 5) ∧ (0 ≤ c ∧ c ≤ 9) → im 30 0 12 = 5 → x = -4 ∧ m' = (im, rs bt rt, lm)) ∧ ((0 ≤ a ∧ a ≤ 5) ∧ (0 ≤ c ∧ c ≤ 9) → im 30 0 12 ≠ 5 → x = im 30 0 12 ∧ m' = (up (fiR (up (up im 34 0 (im 30 0 12).toNat a) 35 0 (im 30 0 12).toNat c) (10 * (im 30 0 12).toNat) 10 (-1)) 30 0 12 (im 30 0 12 + 1), rs bt rt, lm))) 60 [some (vR 30 0), some (vI a), some (vI c), some (vI (n : Int))] [] (fiR (up (up im 34 0 t a) 35 0 t c) (10 * t) n (-1), rs bt rt, lm) := by
          intro fz
          induction fz with
          | zero => intro n h; exact absurd h (Nat.not_lt_zero _)
          | succ fz ih =>
            have ih60 := ih
            intro n hmeas hn
            have e12 : fiR (up (up im 34 0 t a) 35 0 t c) (10 * t) n (-1) 30 0 12 = (t : Int) := ht
            refine q_iload_n (t := 61) F dX9_man_60 rfl rfl rfl ?_
            refine q_bipush (t := 63) F dX9_man_61 (by decide) rfl ?_
            refine q_icmp_ge (t := 66) (u := 87) F dX9_man_63 (by constructor <;> omega) (by constructor <;> omega) (by decide) rfl (fun c63 => ?_) (fun c63 => ?_)
            · refine q_aload_n (t := 88) F dX9_man_87 rfl rfl rfl ?_
              refine q_dupR (t := 89) F dX9_man_88 rfl ?_
              refine g_X9_88 (t := 92) F dX9_man_89 rfl rfl ?_
              try simp only [up_app, row_app, scr_app, cpy_app, Nat.reduceEqDiff, Int.reduceToNat, Int.toNat_natCast, and_true, true_and, and_false, false_and, and_self, reduceIte]
              refine q_iconst (t := 93) F dX9_man_92 rfl ?_
              rw [e12]
              refine q_iadd (t := 94) F dX9_man_93 rfl ?_
              refine p_X9_88 (t := 97) F dX9_man_94 rfl rfl ?_
              refine q_aload_n (t := 98) F dX9_man_97 rfl rfl rfl ?_
              refine g_X9_88 (t := 101) F dX9_man_98 rfl rfl ?_
              try simp only [up_app, row_app, scr_app, cpy_app, Nat.reduceEqDiff, Int.reduceToNat, Int.toNat_natCast, and_true, true_and, and_false, false_and, and_self, reduceIte]
              refine q_iconst (t := 102) F dX9_man_101 rfl ?_
              refine q_isub (t := 103) F dX9_man_102 rfl ?_
              refine q_iret F dX9_man_103 rfl ?_
              first
                | exact ⟨_, rfl, fun _ => ⟨rfl, rfl⟩, fun z => absurd z (by omega), fun z => absurd z (by omega)⟩
                | exact ⟨_, rfl, fun z => absurd (by omega) z, fun _ _ => ⟨rfl, rfl⟩, fun _ z => absurd (by omega) z⟩
                | (obtain rfl : n = 10 := by omega
                   refine ⟨_, rfl, fun z => absurd (by omega) z, fun _ z => absurd z (by omega), fun _ _ => ⟨?_, ?_⟩⟩
                   · show _ = im 30 0 12
                     rw [ht]
                     omega
                   · rw [htt, ht])
            · refine q_aload_n (t := 67) F dX9_man_66 rfl rfl rfl ?_
              refine g_X9_32 (t := 70) F dX9_man_67 rfl rfl ?_
              refine q_bipush (t := 72) F dX9_man_70 (by decide) rfl ?_
              refine q_aload_n (t := 73) F dX9_man_72 rfl rfl rfl ?_
              refine g_X9_88 (t := 76) F dX9_man_73 rfl rfl ?_
              try simp only [up_app, row_app, scr_app, cpy_app, Nat.reduceEqDiff, Int.reduceToNat, Int.toNat_natCast, and_true, true_and, and_false, false_and, and_self, reduceIte]
              refine q_imul (t := 77) F dX9_man_76 rfl ?_
              refine q_iload_n (t := 78) F dX9_man_77 rfl rfl rfl ?_
              refine q_iadd (t := 79) F dX9_man_78 rfl ?_
              rw [e12, show (10 : Int) * (t : Int) + (n : Int) = ((10 * t + n : Nat) : Int) by omega]
              refine q_iconst (t := 80) F dX9_man_79 rfl ?_
              first | refine stN_36 (t := 81) F dX9_man_80 (by omega) rfl ?_ | refine st_36 (t := 81) F dX9_man_80 (by omega) (by omega) rfl ?_
              refine q_iinc (t := 84) F dX9_man_81 rfl (by decide) rfl rfl ?_
              refine q_goto (t := 60) F dX9_man_84 (by decide) ?_
              rw [show (n : Int) + 1 = ((n + 1 : Nat) : Int) by omega, fiR_s]
              exact ih60 (n + 1) (by omega) (by omega)
        have L0 := L60 _ 0 (Nat.lt_succ_self _) (Nat.zero_le _)
        rw [fiR_0] at L0
        exact L0
      · refine q_bipush (t := 37) F dX9_man_35 (by decide) rfl ?_
        refine q_iret F dX9_man_37 rfl ?_
        first
          | exact ⟨_, rfl, fun _ => ⟨rfl, rfl⟩, fun z => absurd z (by omega), fun z => absurd z (by omega)⟩
          | exact ⟨_, rfl, fun z => absurd (by omega) z, fun _ _ => ⟨rfl, rfl⟩, fun _ z => absurd (by omega) z⟩
          | (obtain rfl : n = 10 := by omega
             refine ⟨_, rfl, fun z => absurd (by omega) z, fun _ z => absurd z (by omega), fun _ _ => ⟨?_, ?_⟩⟩
             · show _ = im 30 0 12
               rw [ht]
               omega
             · rw [htt, ht])
    · refine q_bipush (t := 26) F dX9_man_24 (by decide) rfl ?_
      refine q_iret F dX9_man_26 rfl ?_
      first
        | exact ⟨_, rfl, fun _ => ⟨rfl, rfl⟩, fun z => absurd z (by omega), fun z => absurd z (by omega)⟩
        | exact ⟨_, rfl, fun z => absurd (by omega) z, fun _ _ => ⟨rfl, rfl⟩, fun _ z => absurd (by omega) z⟩
        | (obtain rfl : n = 10 := by omega
           refine ⟨_, rfl, fun z => absurd (by omega) z, fun _ z => absurd z (by omega), fun _ _ => ⟨?_, ?_⟩⟩
           · show _ = im 30 0 12
             rw [ht]
             omega
           · rw [htt, ht])
