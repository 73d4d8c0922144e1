/-! the reference: a text is kept -/

/-- the tape copied to a row -/
def cpR (im : IM) (t n : Nat) : IM := fun k i s => if k = 31 ∧ i = 0 ∧ 160 * t ≤ s ∧ s < 160 * t + n then im 33 0 (s - 160 * t) else im k i s
theorem cpR_0 (im : IM) (t : Nat) : cpR im t 0 = im := by
  funext k i s
  unfold cpR
  rw [if_neg (by omega)]
theorem cpR_s (im : IM) (t n : Nat) : up (cpR im t n) 31 0 (160 * t + n) (im 33 0 n) = cpR im t (n + 1) := by
  funext k i s
  rw [up_app]
  unfold cpR
  by_cases h : k = 31 ∧ i = 0 ∧ s = 160 * t + n
  · rw [if_pos h, if_pos (by omega), show s - 160 * t = n by omega]
  · rw [if_neg h]
    by_cases h2 : k = 31 ∧ i = 0 ∧ 160 * t ≤ s ∧ s < 160 * t + n
    · rw [if_pos h2, if_pos (by omega)]
    · rw [if_neg h2, if_neg (by omega)]
theorem cpR_RI {im : IM} (h : RI im) (t n : Nat) : RI (cpR im t n) := by
  intro k i s
  unfold cpR
  split <;> exact h _ _ _
/-- the tape in the row, its size, the tape empty -/
def txI (im : IM) : IM := up (up (cpR im (im 30 0 3).toNat (im 30 0 6).toNat) 32 0 (im 30 0 3).toNat (im 30 0 6)) 30 0 6 0
/-- what stands in that row then -/
def txB (im : IM) : Nat → Int := rowR (txI im) (im 30 0 3).toNat

set_option maxHeartbeats 4000000 in
theorem c_X9_text (l : Launch) (G : GS) (im : IM) (bt rt : Nat) (lm : IM) (h : RC im) : Cn l (XR G) yX9_text Y_X9_text [vR 30 0] (im, rs bt rt, lm) (pI fun x m' => (im 30 0 3 = 6 → x = -4 ∧ m' = (im, rs bt rt, lm)) ∧ (im 30 0 3 ≠ 6 → ∃ im' lm', RI im' ∧ agZ im' (txI im) ∧ lgQ lm' lm ∧ (rdF (txB im) (im 30 0 6).toNat = -1 → x = im 30 0 3 ∧ m' = (up im' 30 0 3 (im 30 0 3 + 1), rs bt rt, lm')) ∧ (rdF (txB im) (im 30 0 6).toNat ≠ -1 → x = -100 - rdF (txB im) (im 30 0 6).toNat ∧ m' = (im', rs bt rt, lm')))) := by
  refine cn_of (by decide) (okR G) rfl (Nat.le_of_ble_eq_true rfl) ?_
  intro M ad hMl F
  subst hMl
  have hR := h.1
  have hX := h.2.1
  have h4 := h.2.2.1
  have h12 := h.2.2.2.1
  have h7 := h.2.2.2.2.1
  have h6 := hX.2.2.1
  have h3 := hX.2.2.2.1
  have hP := h.2.2.2.2.2.2
  obtain ⟨t, ht⟩ : ∃ t : Nat, im 30 0 3 = t := ⟨(im 30 0 3).toNat, by omega⟩
  have htt : (im 30 0 3).toNat = t := by omega
  obtain ⟨z, hz⟩ : ∃ z : Nat, im 30 0 6 = z := ⟨(im 30 0 6).toNat, by omega⟩
  have hzz : (im 30 0 6).toNat = z := by omega
  have hI : txI im = (up (up (cpR im t z) 32 0 t (z : Int)) 30 0 6 0) := by unfold txI; rw [htt, hzz, hz]
  have hRt : ri ((t : Nat) : Int) := by constructor <;> omega
  refine wp_pad 1 ?_
  show Wp M (XR G) ad Y_X9_text (pI fun x m' => (im 30 0 3 = 6 → x = -4 ∧ m' = (im, rs bt rt, lm)) ∧ (im 30 0 3 ≠ 6 → ∃ im' lm', RI im' ∧ agZ im' (txI im) ∧ lgQ lm' lm ∧ (rdF (txB im) (im 30 0 6).toNat = -1 → x = im 30 0 3 ∧ m' = (up im' 30 0 3 (im 30 0 3 + 1), rs bt rt, lm')) ∧ (rdF (txB im) (im 30 0 6).toNat ≠ -1 → x = -100 - rdF (txB im) (im 30 0 6).toNat ∧ m' = (im', rs bt rt, lm')))) 0 [some (vR 30 0), none] [] (im, rs bt rt, lm)
  refine q_aload_n (t := 1) F dX9_text_0 rfl rfl rfl ?_
  refine g_X9_85 (t := 4) F dX9_text_1 rfl rfl ?_
  refine q_bipush (t := 6) F dX9_text_4 (by decide) rfl ?_
  refine q_icmp_ne (t := 9) (u := 12) F dX9_text_6 (by exact hR _ _ _) (by constructor <;> omega) (by decide) rfl (fun c6 => ?_) (fun c6 => ?_)
  · refine q_iconst (t := 13) F dX9_text_12 rfl ?_
    refine q_istore_n (t := 14) F dX9_text_13 rfl (by decide) rfl rfl ?_
    have L14 : ∀ (fz : Nat) (n : Nat), 160 - n < fz → n ≤ z → Wp M (XR G) ad Y_X9_text (pI fun x m' => (im 30 0 3 = 6 → x = -4 ∧ m' = (im, rs bt rt, lm)) ∧ (im 30 0 3 ≠ 6 → ∃ im' lm', RI im' ∧ agZ im' (txI im) ∧ lgQ lm' lm ∧ (rdF (txB im) (im 30 0 6).toNat = -1 → x = im 30 0 3 ∧ m' = (up im' 30 0 3 (im 30 0 3 + 1), rs bt rt, lm')) ∧ (rdF (txB im) (im 30 0 6).toNat ≠ -1 → x = -100 - rdF (txB im) (im 30 0 6).toNat ∧ m' = (im', rs bt rt, lm')))) 14 [some (vR 30 0), some (vI (n : Int))] [] (cpR im t n, rs bt rt, lm) := by
      intro fz
      induction fz with
      | zero => intro n h; exact absurd h (Nat.not_lt_zero _)
      | succ fz ih =>
        have ih14 := ih
        intro n hmeas hn
        have e6 : cpR im t n 30 0 6 = (z : Int) := hz
        have e3 : cpR im t n 30 0 3 = (t : Int) := ht
        have hRn := cpR_RI hR t n
        refine q_iload_n (t := 15) F dX9_text_14 rfl rfl rfl ?_
        refine q_aload_n (t := 16) F dX9_text_15 rfl rfl rfl ?_
        refine g_X9_146 (t := 19) F dX9_text_16 rfl rfl ?_
        refine q_icmp_ge (t := 22) (u := 49) F dX9_text_19 (by constructor <;> omega) (by exact hRn _ _ _) (by decide) rfl (fun c19 => ?_) (fun c19 => ?_)
        · refine q_aload_n (t := 50) F dX9_text_49 rfl rfl rfl ?_
          refine g_X9_17 (t := 53) F dX9_text_50 rfl rfl ?_
          refine q_aload_n (t := 54) F dX9_text_53 rfl rfl rfl ?_
          refine g_X9_85 (t := 57) F dX9_text_54 rfl rfl ?_
          rw [show vI (cpR im t n 30 0 3) = vI ((t : Nat) : Int) by rw [e3]]
          refine q_aload_n (t := 58) F dX9_text_57 rfl rfl rfl ?_
          refine g_X9_146 (t := 61) F dX9_text_58 rfl rfl ?_
          obtain rfl : n = z := by omega
          rw [show vI (cpR im t n 30 0 6) = vI ((n : Nat) : Int) by rw [e6]]
          first | refine stN_32 (t := 62) F dX9_text_61 (by omega) rfl ?_ | refine st_32 (t := 62) F dX9_text_61 (by omega) (by omega) rfl ?_
          refine q_aload_n (t := 63) F dX9_text_62 rfl rfl rfl ?_
          refine q_iconst (t := 64) F dX9_text_63 rfl ?_
          refine p_X9_146 (t := 67) F dX9_text_64 rfl rfl ?_
          rw [← hI]
          have e3t : txI im 30 0 3 = (t : Int) := by rw [hI]; exact ht
          have hRI : RI (txI im) := by rw [hI]; exact RI_up (RI_up (cpR_RI hR t n) (by constructor <;> omega)) (by constructor <;> omega)
          have f32 : txI im 32 0 t = (n : Int) := by rw [hI, up_app, if_neg (by omega), up_app, if_pos ⟨rfl, rfl, rfl⟩]
          have f31 : ∀ i, i < 160 → txI im 31 0 (160 * t + i) = txB im i := fun i _ => by unfold txB rowR; rw [htt]
          have hby : byt (txB im) n := ⟨by omega, fun i hi => by
            rw [← f31 i hi, hI, up_app, if_neg (by omega), up_app, if_neg (by omega)]
            unfold cpR
            split
            · exact hX.1 _ (by omega)
            · exact hX.2.1 _ (by omega)⟩
          refine q_aload_n (t := 68) F dX9_text_67 rfl rfl rfl ?_
          refine q_aload_n (t := 69) F dX9_text_68 rfl rfl rfl ?_
          refine g_X9_85 (t := 72) F dX9_text_69 rfl rfl ?_
          try simp only [up_app, row_app, scr_app, cpy_app, Nat.reduceEqDiff, Int.reduceToNat, Int.toNat_natCast, and_true, true_and, and_false, false_and, and_self, reduceIte]
          rw [show vI (txI im 30 0 3) = vI ((t : Nat) : Int) by rw [e3t]]
          refine q_iconst (t := 73) F dX9_text_72 rfl ?_
          refine wp_callV (t := 76) [_, _] F dX9_text_73 k_X9_read v_X9_read ml_X9_347 rfl rfl rfl rfl (Nat.le_of_ble_eq_true rfl) (by decide) (m_30 (by omega)) (c_X9_read _ G bt rt _ n hby ((c_gramR _ G bt rt _ n hby).1) (txI im) lm hRI t (by omega) f32 f31 (fun i => txI im 30 0 (15 + i)) (fun i hi => rfl) 0 (by constructor <;> omega)) rfl (kI ?_)
          rintro x73 m' ⟨im2, lm2, hrx, hR2, hag, hlg, hy, hno, rfl⟩
          have f3 : im2 30 0 3 = (t : Int) := (hag 30 0 3 (by omega)).trans e3t
          refine q_istore_n (t := 77) F dX9_text_76 rfl (by decide) rfl rfl ?_
          refine q_aload_n (t := 78) F dX9_text_77 rfl rfl rfl ?_
          refine g_X9_179 (t := 81) F dX9_text_78 rfl rfl ?_
          try simp only [up_app, row_app, scr_app, cpy_app, Nat.reduceEqDiff, Int.reduceToNat, Int.toNat_natCast, and_true, true_and, and_false, false_and, and_self, reduceIte]
          refine q_if_eq (t := 84) (u := 92) F dX9_text_81 (by exact hR2 _ _ _) (by decide) rfl (fun c81 => ?_) (fun c81 => ?_)
          · refine q_aload_n (t := 93) F dX9_text_92 rfl rfl rfl ?_
            refine q_dupR (t := 94) F dX9_text_93 rfl ?_
            refine g_X9_85 (t := 97) F dX9_text_94 rfl rfl ?_
            try simp only [up_app, row_app, scr_app, cpy_app, Nat.reduceEqDiff, Int.reduceToNat, Int.toNat_natCast, and_true, true_and, and_false, false_and, and_self, reduceIte]
            refine q_iconst (t := 98) F dX9_text_97 rfl ?_
            refine q_iadd (t := 99) F dX9_text_98 rfl ?_
            refine p_X9_85 (t := 102) F dX9_text_99 rfl rfl ?_
            refine q_aload_n (t := 103) F dX9_text_102 rfl rfl rfl ?_
            refine g_X9_85 (t := 106) F dX9_text_103 rfl rfl ?_
            try simp only [up_app, row_app, scr_app, cpy_app, Nat.reduceEqDiff, Int.reduceToNat, Int.toNat_natCast, and_true, true_and, and_false, false_and, and_self, reduceIte]
            refine q_iconst (t := 107) F dX9_text_106 rfl ?_
            refine q_isub (t := 108) F dX9_text_107 rfl ?_
            refine q_iret F dX9_text_108 rfl ?_
            have hF : rdF (txB im) n = -1 := by
              refine Decidable.byContradiction (fun q => ?_)
              have := (hno q).1
              omega
            refine ⟨_, rfl, fun q => absurd q (by omega), fun _ => ⟨im2, lm2, hR2, hag, hlg, fun _ => ⟨?_, ?_⟩, fun q => absurd (by rw [hzz]; exact hF) q⟩⟩
            · show (im2 30 0 3 + 1) - 1 = im 30 0 3
              omega
            · rw [f3, ht]
          · refine q_bipush (t := 86) F dX9_text_84 (by decide) rfl ?_
            refine q_aload_n (t := 87) F dX9_text_86 rfl rfl rfl ?_
            refine g_X9_183 (t := 90) F dX9_text_87 rfl rfl ?_
            try simp only [up_app, row_app, scr_app, cpy_app, Nat.reduceEqDiff, Int.reduceToNat, Int.toNat_natCast, and_true, true_and, and_false, false_and, and_self, reduceIte]
            refine q_isub (t := 91) F dX9_text_90 rfl ?_
            refine q_iret F dX9_text_91 rfl ?_
            have hF : rdF (txB im) n ≠ -1 := fun q => by have := (hy q).1; omega
            refine ⟨_, rfl, fun q => absurd q (by omega), fun _ => ⟨im2, lm2, hR2, hag, hlg, fun q => absurd (by rw [← hzz]; exact q) hF, fun _ => ⟨?_, rfl⟩⟩⟩
            rw [hzz, (hno hF).2]
        · refine q_aload_n (t := 23) F dX9_text_22 rfl rfl rfl ?_
          refine g_X9_13 (t := 26) F dX9_text_23 rfl rfl ?_
          refine q_sipush (t := 29) F dX9_text_26 (by decide) rfl ?_
          refine q_aload_n (t := 30) F dX9_text_29 rfl rfl rfl ?_
          refine g_X9_85 (t := 33) F dX9_text_30 rfl rfl ?_
          refine q_imul (t := 34) F dX9_text_33 rfl ?_
          rw [e3]
          refine q_iload_n (t := 35) F dX9_text_34 rfl rfl rfl ?_
          refine q_iadd (t := 36) F dX9_text_35 rfl ?_
          rw [show (160 : Int) * (t : Int) + (n : Int) = ((160 * t + n : Nat) : Int) by omega]
          refine q_aload_n (t := 37) F dX9_text_36 rfl rfl rfl ?_
          refine g_X9_20 (t := 40) F dX9_text_37 rfl rfl ?_
          refine q_iload_n (t := 41) F dX9_text_40 rfl rfl rfl ?_
          first | refine ldN_33 (t := 42) F dX9_text_41 (by omega) rfl ?_ | refine ld_33 (t := 42) F dX9_text_41 (by omega) (by omega) rfl ?_
          first | refine stN_31 (t := 43) F dX9_text_42 (by omega) rfl ?_ | refine st_31 (t := 43) F dX9_text_42 (by omega) (by omega) rfl ?_
          refine q_iinc (t := 46) F dX9_text_43 rfl (by decide) rfl rfl ?_
          refine q_goto (t := 14) F dX9_text_46 (by decide) ?_
          rw [show (n : Int) + 1 = ((n + 1 : Nat) : Int) by omega, show cpR im t n 33 0 n = im 33 0 n from rfl, cpR_s]
          exact ih14 (n + 1) (by omega) (by omega)
    have L0 := L14 _ 0 (Nat.lt_succ_self _) (Nat.zero_le _)
    rw [cpR_0] at L0
    exact L0
  · refine q_bipush (t := 11) F dX9_text_9 (by decide) rfl ?_
    refine q_iret F dX9_text_11 rfl ?_
    exact ⟨_, rfl, fun _ => ⟨rfl, rfl⟩, fun q => absurd (by omega) q⟩
