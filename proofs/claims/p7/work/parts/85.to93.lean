section
/-! the reference: a text is kept -/

/-- the tape copied to a row -/
def cpR (im : IM) (t n : Nat) : IM := fun k i s => if k = 31 ∧ i = 0 ∧ 160 * t ≤ s ∧ s < 160 * t + n then im 33 0 (s - 160 * t) else im k i s
theorem cpR_0 (im : IM) (t : Nat) : cpR im t 0 = im := by
  funext k i s
  unfold cpR
  rw [if_neg (by omega)]
theorem cpR_s (im : IM) (t n : Nat) : up (cpR im t n) 31 0 (160 * t + n) (im 33 0 n) = cpR im t (n + 1) := by
  funext k i s
  rw [up_app]
  unfold cpR
  by_cases h : k = 31 ∧ i = 0 ∧ s = 160 * t + n
  · rw [if_pos h, if_pos (by omega), show s - 160 * t = n by omega]
  · rw [if_neg h]
    by_cases h2 : k = 31 ∧ i = 0 ∧ 160 * t ≤ s ∧ s < 160 * t + n
    · rw [if_pos h2, if_pos (by omega)]
    · rw [if_neg h2, if_neg (by omega)]
theorem cpR_RI {im : IM} (h : RI im) (t n : Nat) : RI (cpR im t n) := by
  intro k i s
  unfold cpR
  split <;> exact h _ _ _
/-- the tape in the row, its size, the tape empty -/
def txI (im : IM) : IM := up (up (cpR im (im 30 0 3).toNat (im 30 0 6).toNat) 32 0 (im 30 0 3).toNat (im 30 0 6)) 30 0 6 0
/-- what stands in that row then -/
def txB (im : IM) : Nat → Int := rowR (txI im) (im 30 0 3).toNat

set_option maxHeartbeats 4000000 in
theorem c_X9_text (l : Launch) (G : GS) (im : IM) (bt rt : Nat) (lm : IM) (h : RC im) : Cn l (XR G) yX9_text Y_X9_text [vR 30 0] (im, rs bt rt, lm) (pI fun x m' => (im 30 0 3 = 6 → x = -4 ∧ m' = (im, rs bt rt, lm)) ∧ (im 30 0 3 ≠ 6 → ∃ im' lm', RI im' ∧ agZ im' (txI im) ∧ lgQ lm' lm ∧ (rdF (txB im) (im 30 0 6).toNat = -1 → x = im 30 0 3 ∧ m' = (up im' 30 0 3 (im 30 0 3 + 1), rs bt rt, lm')) ∧ (rdF (txB im) (im 30 0 6).toNat ≠ -1 → x = -100 - rdF (txB im) (im 30 0 6).toNat ∧ m' = (im', rs bt rt, lm')))) := by
  refine cn_of (by decide) (okR G) rfl (Nat.le_of_ble_eq_true rfl) ?_
  intro M ad hMl F
  subst hMl
  have hR := h.1
  have hX := h.2.1
  have h4 := h.2.2.1
  have h12 := h.2.2.2.1
  have h7 := h.2.2.2.2.1
  have h6 := hX.2.2.1
  have h3 := hX.2.2.2.1
  have hP := h.2.2.2.2.2.2
  obtain ⟨t, ht⟩ : ∃ t : Nat, im 30 0 3 = t := ⟨(im 30 0 3).toNat, by omega⟩
  have htt : (im 30 0 3).toNat = t := by omega
  obtain ⟨z, hz⟩ : ∃ z : Nat, im 30 0 6 = z := ⟨(im 30 0 6).toNat, by omega⟩
  have hzz : (im 30 0 6).toNat = z := by omega
  have hI : txI im = (up (up (cpR im t z) 32 0 t (z : Int)) 30 0 6 0) := by unfold txI; rw [htt, hzz, hz]
  have hRt : ri ((t : Nat) : Int) := by constructor <;> omega
  refine wp_pad 1 ?_
  show Wp M (XR G) ad Y_X9_text (pI fun x m' => (im 30 0 3 = 6 → x = -4 ∧ m' = (im, rs bt rt, lm)) ∧ (im 30 0 3 ≠ 6 → ∃ im' lm', RI im' ∧ agZ im' (txI im) ∧ lgQ lm' lm ∧ (rdF (txB im) (im 30 0 6).toNat = -1 → x = im 30 0 3 ∧ m' = (up im' 30 0 3 (im 30 0 3 + 1), rs bt rt, lm')) ∧ (rdF (txB im) (im 30 0 6).toNat ≠ -1 → x = -100 - rdF (txB im) (im 30 0 6).toNat ∧ m' = (im', rs bt rt, lm')))) 0 [some (vR 30 0), none] [] (im, rs bt rt, lm)
  refine q_aload_n (t := 1) F dX9_text_0 rfl rfl rfl ?_
  refine g_X9_85 (t := 4) F dX9_text_1 rfl rfl ?_
  refine q_bipush (t := 6) F dX9_text_4 (by decide) rfl ?_
  refine q_icmp_ne (t := 9) (u := 12) F dX9_text_6 (by exact hR _ _ _) (by constructor <;> omega) (by decide) rfl (fun c6 => ?_) (fun c6 => ?_)
  · refine q_iconst (t := 13) F dX9_text_12 rfl ?_
    refine q_istore_n (t := 14) F dX9_text_13 rfl (by decide) rfl rfl ?_
    have L14 : ∀ (fz : Nat) (n : Nat), 160 - n < fz → n ≤ z → Wp M (XR G) ad Y_X9_text (pI fun x m' => (im 30 0 3 = 6 → x = -4 ∧ m' = (im, rs bt rt, lm)) ∧ (im 30 0 3 ≠ 6 → ∃ im' lm', RI im' ∧ agZ im' (txI im) ∧ lgQ lm' lm ∧ (rdF (txB im) (im 30 0 6).toNat = -1 → x = im 30 0 3 ∧ m' = (up im' 30 0 3 (im 30 0 3 + 1), rs bt rt, lm')) ∧ (rdF (txB im) (im 30 0 6).toNat ≠ -1 → x = -100 - rdF (txB im) (im 30 0 6).toNat ∧ m' = (im', rs bt rt, lm')))) 14 [some (vR 30 0), some (vI (n : Int))] [] (cpR im t n, rs bt rt, lm) := by
      intro fz
      induction fz with
      | zero => intro n h; exact absurd h (Nat.not_lt_zero _)
      | succ fz ih =>
        have ih14 := ih
        intro n hmeas hn
        have e6 : cpR im t n 30 0 6 = (z : Int) := hz
        have e3 : cpR im t n 30 0 3 = (t : Int) := ht
        have hRn := cpR_RI hR t n
        refine q_iload_n (t := 15) F dX9_text_14 rfl rfl rfl ?_
        refine q_aload_n (t := 16) F dX9_text_15 rfl rfl rfl ?_
        refine g_X9_146 (t := 19) F dX9_text_16 rfl rfl ?_
        refine q_icmp_ge (t := 22) (u := 49) F dX9_text_19 (by constructor <;> omega) (by exact hRn _ _ _) (by decide) rfl (fun c19 => ?_) (fun c19 => ?_)
        · refine q_aload_n (t := 50) F dX9_text_49 rfl rfl rfl ?_
          refine g_X9_17 (t := 53) F dX9_text_50 rfl rfl ?_
          refine q_aload_n (t := 54) F dX9_text_53 rfl rfl rfl ?_
          refine g_X9_85 (t := 57) F dX9_text_54 rfl rfl ?_
          rw [show vI (cpR im t n 30 0 3) = vI ((t : Nat) : Int) by rw [e3]]
          refine q_aload_n (t := 58) F dX9_text_57 rfl rfl rfl ?_
          refine g_X9_146 (t := 61) F dX9_text_58 rfl rfl ?_
          obtain rfl : n = z := by omega
          rw [show vI (cpR im t n 30 0 6) = vI ((n : Nat) : Int) by rw [e6]]
          first | refine stN_32 (t := 62) F dX9_text_61 (by omega) rfl ?_ | refine st_32 (t := 62) F dX9_text_61 (by omega) (by omega) rfl ?_
          refine q_aload_n (t := 63) F dX9_text_62 rfl rfl rfl ?_
          refine q_iconst (t := 64) F dX9_text_63 rfl ?_
          refine p_X9_146 (t := 67) F dX9_text_64 rfl rfl ?_
          rw [← hI]
          have e3t : txI im 30 0 3 = (t : Int) := by rw [hI]; exact ht
          have hRI : RI (txI im) := by rw [hI]; exact RI_up (RI_up (cpR_RI hR t n) (by constructor <;> omega)) (by constructor <;> omega)
          have f32 : txI im 32 0 t = (n : Int) := by rw [hI, up_app, if_neg (by omega), up_app, if_pos ⟨rfl, rfl, rfl⟩]
          have f31 : ∀ i, i < 160 → txI im 31 0 (160 * t + i) = txB im i := fun i _ => by unfold txB rowR; rw [htt]
          have hby : byt (txB im) n := ⟨by omega, fun i hi => by
            rw [← f31 i hi, hI, up_app, if_neg (by omega), up_app, if_neg (by omega)]
            unfold cpR
            split
            · exact hX.1 _ (by omega)
            · exact hX.2.1 _ (by omega)⟩
          refine q_aload_n (t := 68) F dX9_text_67 rfl rfl rfl ?_
          refine q_aload_n (t := 69) F dX9_text_68 rfl rfl rfl ?_
          refine g_X9_85 (t := 72) F dX9_text_69 rfl rfl ?_
          try simp only [up_app, row_app, scr_app, cpy_app, Nat.reduceEqDiff, Int.reduceToNat, Int.toNat_natCast, and_true, true_and, and_false, false_and, and_self, reduceIte]
          rw [show vI (txI im 30 0 3) = vI ((t : Nat) : Int) by rw [e3t]]
          refine q_iconst (t := 73) F dX9_text_72 rfl ?_
          refine wp_callV (t := 76) [_, _] F dX9_text_73 k_X9_read v_X9_read ml_X9_347 rfl rfl rfl rfl (Nat.le_of_ble_eq_true rfl) (by decide) (m_30 (by omega)) (c_X9_read _ G bt rt _ n hby ((c_gramR _ G bt rt _ n hby).1) (txI im) lm hRI t (by omega) f32 f31 (fun i => txI im 30 0 (15 + i)) (fun i hi => rfl) 0 (by constructor <;> omega)) rfl (kI ?_)
          rintro x73 m' ⟨im2, lm2, hrx, hR2, hag, hlg, hy, hno, rfl⟩
          have f3 : im2 30 0 3 = (t : Int) := (hag 30 0 3 (by omega)).trans e3t
          refine q_istore_n (t := 77) F dX9_text_76 rfl (by decide) rfl rfl ?_
          refine q_aload_n (t := 78) F dX9_text_77 rfl rfl rfl ?_
          refine g_X9_179 (t := 81) F dX9_text_78 rfl rfl ?_
          try simp only [up_app, row_app, scr_app, cpy_app, Nat.reduceEqDiff, Int.reduceToNat, Int.toNat_natCast, and_true, true_and, and_false, false_and, and_self, reduceIte]
          refine q_if_eq (t := 84) (u := 92) F dX9_text_81 (by exact hR2 _ _ _) (by decide) rfl (fun c81 => ?_) (fun c81 => ?_)
          · refine q_aload_n (t := 93) F dX9_text_92 rfl rfl rfl ?_
            refine q_dupR (t := 94) F dX9_text_93 rfl ?_
            refine g_X9_85 (t := 97) F dX9_text_94 rfl rfl ?_
            try simp only [up_app, row_app, scr_app, cpy_app, Nat.reduceEqDiff, Int.reduceToNat, Int.toNat_natCast, and_true, true_and, and_false, false_and, and_self, reduceIte]
            refine q_iconst (t := 98) F dX9_text_97 rfl ?_
            refine q_iadd (t := 99) F dX9_text_98 rfl ?_
            refine p_X9_85 (t := 102) F dX9_text_99 rfl rfl ?_
            refine q_aload_n (t := 103) F dX9_text_102 rfl rfl rfl ?_
            refine g_X9_85 (t := 106) F dX9_text_103 rfl rfl ?_
            try simp only [up_app, row_app, scr_app, cpy_app, Nat.reduceEqDiff, Int.reduceToNat, Int.toNat_natCast, and_true, true_and, and_false, false_and, and_self, reduceIte]
            refine q_iconst (t := 107) F dX9_text_106 rfl ?_
            refine q_isub (t := 108) F dX9_text_107 rfl ?_
            refine q_iret F dX9_text_108 rfl ?_
            have hF : rdF (txB im) n = -1 := by
              refine Decidable.byContradiction (fun q => ?_)
              have := (hno q).1
              omega
            refine ⟨_, rfl, fun q => absurd q (by omega), fun _ => ⟨im2, lm2, hR2, hag, hlg, fun _ => ⟨?_, ?_⟩, fun q => absurd (by rw [hzz]; exact hF) q⟩⟩
            · show (im2 30 0 3 + 1) - 1 = im 30 0 3
              omega
            · rw [f3, ht]
          · refine q_bipush (t := 86) F dX9_text_84 (by decide) rfl ?_
            refine q_aload_n (t := 87) F dX9_text_86 rfl rfl rfl ?_
            refine g_X9_183 (t := 90) F dX9_text_87 rfl rfl ?_
            try simp only [up_app, row_app, scr_app, cpy_app, Nat.reduceEqDiff, Int.reduceToNat, Int.toNat_natCast, and_true, true_and, and_false, false_and, and_self, reduceIte]
            refine q_isub (t := 91) F dX9_text_90 rfl ?_
            refine q_iret F dX9_text_91 rfl ?_
            have hF : rdF (txB im) n ≠ -1 := fun q => by have := (hy q).1; omega
            refine ⟨_, rfl, fun q => absurd q (by omega), fun _ => ⟨im2, lm2, hR2, hag, hlg, fun q => absurd (by rw [← hzz]; exact q) hF, fun _ => ⟨?_, rfl⟩⟩⟩
            rw [hzz, (hno hF).2]
        · refine q_aload_n (t := 23) F dX9_text_22 rfl rfl rfl ?_
          refine g_X9_13 (t := 26) F dX9_text_23 rfl rfl ?_
          refine q_sipush (t := 29) F dX9_text_26 (by decide) rfl ?_
          refine q_aload_n (t := 30) F dX9_text_29 rfl rfl rfl ?_
          refine g_X9_85 (t := 33) F dX9_text_30 rfl rfl ?_
          refine q_imul (t := 34) F dX9_text_33 rfl ?_
          rw [e3]
          refine q_iload_n (t := 35) F dX9_text_34 rfl rfl rfl ?_
          refine q_iadd (t := 36) F dX9_text_35 rfl ?_
          rw [show (160 : Int) * (t : Int) + (n : Int) = ((160 * t + n : Nat) : Int) by omega]
          refine q_aload_n (t := 37) F dX9_text_36 rfl rfl rfl ?_
          refine g_X9_20 (t := 40) F dX9_text_37 rfl rfl ?_
          refine q_iload_n (t := 41) F dX9_text_40 rfl rfl rfl ?_
          first | refine ldN_33 (t := 42) F dX9_text_41 (by omega) rfl ?_ | refine ld_33 (t := 42) F dX9_text_41 (by omega) (by omega) rfl ?_
          first | refine stN_31 (t := 43) F dX9_text_42 (by omega) rfl ?_ | refine st_31 (t := 43) F dX9_text_42 (by omega) (by omega) rfl ?_
          refine q_iinc (t := 46) F dX9_text_43 rfl (by decide) rfl rfl ?_
          refine q_goto (t := 14) F dX9_text_46 (by decide) ?_
          rw [show (n : Int) + 1 = ((n + 1 : Nat) : Int) by omega, show cpR im t n 33 0 n = im 33 0 n from rfl, cpR_s]
          exact ih14 (n + 1) (by omega) (by omega)
    have L0 := L14 _ 0 (Nat.lt_succ_self _) (Nat.zero_le _)
    rw [cpR_0] at L0
    exact L0
  · refine q_bipush (t := 11) F dX9_text_9 (by decide) rfl ?_
    refine q_iret F dX9_text_11 rfl ?_
    exact ⟨_, rfl, fun _ => ⟨rfl, rfl⟩, fun q => absurd (by omega) q⟩
end
section
/-! the reference: what holds of it is kept -/

theorem RX.same {im im' : IM} (h : RX im) (h31 : ∀ s, im' 31 0 s = im 31 0 s) (h32 : ∀ s, im' 32 0 s = im 32 0 s) (h33 : ∀ s, im' 33 0 s = im 33 0 s) (e3 : im' 30 0 3 = im 30 0 3) (e6 : im' 30 0 6 = im 30 0 6) : RX im' := by
  obtain ⟨h1, h2, h3, h4, h5⟩ := h
  refine ⟨fun i hi => by rw [h33]; exact h1 i hi, fun i hi => by rw [h31]; exact h2 i hi, by rw [e6]; exact h3, by rw [e3]; exact h4, fun t ht => ?_⟩
  rw [e3] at ht
  have e31 : rowR im' t = rowR im t := funext fun i => h31 _
  rw [h32, e31]
  exact h5 t ht
theorem RC_force {im : IM} (h : RC im) {t : Int} (h0 : 0 ≤ t) (h1 : t < im 30 0 3) : RC (up im 30 0 4 t) := by
  obtain ⟨hR, hX, h4, h12, h7, h8, hP⟩ := h
  have h3 := hX.2.2.2.1
  exact ⟨RI_up hR (by constructor <;> omega), hX.same (fun _ => rfl) (fun _ => rfl) (fun _ => rfl) rfl rfl, ⟨h0, h1⟩, h12, h7, h8, hP⟩
theorem RC_feed {im : IM} (h : RC im) {c : Int} (h0 : 0 ≤ c) (h1 : c ≤ 255) (h6 : im 30 0 6 ≠ 160) : RC (up (up im 33 0 (im 30 0 6).toNat c) 30 0 6 (im 30 0 6 + 1)) := by
  obtain ⟨hR, hX, h4, h12, h7, h8, hP⟩ := h
  obtain ⟨x1, x2, x3, x4, x5⟩ := hX
  refine ⟨RI_up (RI_up hR (by constructor <;> omega)) (by constructor <;> omega), ⟨fun i hi => ?_, x2, ?_, x4, x5⟩, h4, h12, h7, h8, hP⟩
  · rw [up_app, if_neg (by omega), up_app]
    split
    · exact ⟨h0, h1⟩
    · exact x1 i hi
  · show 0 ≤ im 30 0 6 + 1 ∧ im 30 0 6 + 1 ≤ 160
    omega
theorem RP_put {im : IM} {p s : Nat} {w a : Int} (h : RP im p) (hw : -1 ≤ w ∧ w < 16) (ha : 0 ≤ a ∧ a ≤ 1100) : RP (up (up im 36 0 s w) 37 0 s a) p := by
  obtain ⟨h1, h2, h3⟩ := h
  refine ⟨h1, h2, fun g hg => ?_⟩
  have e := h3 g hg
  have e1 : up (up im 36 0 s w) 37 0 s a 36 0 (10 * p + g) = if 10 * p + g = s then w else im 36 0 (10 * p + g) := by
    rw [up_app, if_neg (by omega), up_app]
    by_cases hc : 10 * p + g = s
    · rw [if_pos ⟨rfl, rfl, hc⟩, if_pos hc]
    · rw [if_neg (fun z => hc z.2.2), if_neg hc]
  have e2 : up (up im 36 0 s w) 37 0 s a 37 0 (10 * p + g) = if 10 * p + g = s then a else im 37 0 (10 * p + g) := by
    rw [up_app]
    by_cases hc : 10 * p + g = s
    · rw [if_pos ⟨rfl, rfl, hc⟩, if_pos hc]
    · rw [if_neg (fun z => hc z.2.2), if_neg hc, up_app, if_neg (by omega)]
  rw [e1, e2]
  split
  · exact ⟨hw.1, hw.2, fun _ => ha⟩
  · exact e
theorem RC_put {im : IM} (h : RC im) {s : Nat} {w a : Int} (hw : -1 ≤ w ∧ w < 16) (ha : 0 ≤ a ∧ a ≤ 1100) : RC (up (up im 36 0 s w) 37 0 s a) := by
  obtain ⟨hR, hX, h4, h12, h7, h8, hP⟩ := h
  exact ⟨RI_up (RI_up hR (by constructor <;> omega)) (by constructor <;> omega), hX.same (fun _ => rfl) (fun _ => rfl) (fun _ => rfl) rfl rfl, h4, h12, h7, h8, fun p hp => RP_put (hP p hp) hw ha⟩
theorem RC_say {im im2 : IM} (h : RC im) (hR : RI im2) (hag : agY im2 im) {p : Nat} {w fd : Int} (hw : 0 ≤ w ∧ w ≤ 15) : RC (spR im im2 p w fd) := by
  have h2 := h.ag hR hag
  unfold spR
  split
  · exact h2
  · exact RC_put h2 (by omega) (by omega)
theorem RC_out {im : IM} (h : RC im) {s : Nat} : RC (up im 36 0 s (-1)) := by
  obtain ⟨hR, hX, h4, h12, h7, h8, hP⟩ := h
  refine ⟨RI_up hR (by constructor <;> omega), hX.same (fun _ => rfl) (fun _ => rfl) (fun _ => rfl) rfl rfl, h4, h12, h7, h8, fun p hp => ?_⟩
  obtain ⟨h1, h2, h3⟩ := hP p hp
  refine ⟨h1, h2, fun g hg => ?_⟩
  have e := h3 g hg
  have e2 : up im 36 0 s (-1) 37 0 (10 * p + g) = im 37 0 (10 * p + g) := by rw [up_app, if_neg (by omega)]
  rw [e2, up_app]
  split
  · exact ⟨by omega, by omega, fun q => absurd rfl q⟩
  · exact e
theorem RC_hn {im : IM} (h : RC im) {p q : Nat} (hp : (p : Int) < im 30 0 12) (hq : (q : Int) < im 30 0 12) : RC (hnR im p q 10) := by
  obtain ⟨hR, hX, h4, h12, h7, h8, hP⟩ := h
  refine ⟨hnR_RI hR p q 10, hX.same (fun _ => rfl) (fun _ => rfl) (fun _ => rfl) rfl rfl, h4, h12, h7, h8, fun m hm => ?_⟩
  obtain ⟨h1, h2, h3⟩ := hP m hm
  refine ⟨h1, h2, fun g hg => ?_⟩
  have e := h3 g hg
  have ep := (hP p hp).2.2 g hg
  have e10 : (10 * m + g) % 10 = g := by omega
  have e11 : (10 * m + g) / 10 = m := by omega
  have x1 : hnR im p q 10 36 0 (10 * m + g) = if m = q ∧ im 36 0 (10 * p + g) ≠ -1 ∧ im 36 0 (10 * q + g) = -1 then im 36 0 (10 * p + g) else if m = p ∧ im 36 0 (10 * p + g) ≠ -1 ∧ im 36 0 (10 * q + g) = -1 then -1 else im 36 0 (10 * m + g) := by
    unfold hnR
    rw [e10, e11]
    simp [hg]
  have x2 : hnR im p q 10 37 0 (10 * m + g) = if m = q ∧ im 36 0 (10 * p + g) ≠ -1 ∧ im 36 0 (10 * q + g) = -1 then 0 else im 37 0 (10 * m + g) := by
    unfold hnR
    rw [e10, e11]
    simp [hg]
  rw [x1, x2]
  split
  · exact ⟨ep.1, ep.2.1, fun _ => by omega⟩
  · split
    · exact ⟨by omega, by omega, fun z => absurd rfl z⟩
    · exact e
end
section
/-! reading: only the letters count -/

def agB (b c : Nat → Int) (n : Nat) : Prop := ∀ i, i < n → b i = c i
theorem span_cg {P : Int → Bool} {b c : Nat → Int} {n : Nat} (h : agB b c n) : ∀ (k p : Nat), n - p = k → span P b n p = span P c n p := by
  intro k
  induction k with
  | zero => intro p hk; rw [span_n (by omega), span_n (by omega)]
  | succ k ih =>
    intro p hk
    have e := h p (by omega)
    by_cases hp : P (b p) = true
    · rw [span_y (by omega) hp, span_y (b := c) (p := p) (by omega) (by rw [← e]; exact hp)]
      exact ih (p + 1) (by omega)
    · rw [span_n (fun q => hp q.2), span_n (fun q => hp (by rw [e]; exact q.2))]
theorem wIx_cg {b c : Nat → Int} {n p q : Nat} (h : agB b c n) (hq : q ≤ n) : ∀ i, wIx b p q i = wIx c p q i := by
  intro i
  induction i with
  | zero => rfl
  | succ i ih =>
    rw [wIx_s, wIx_s, ih]
    have e : stdS b p q i ↔ stdS c p q i := by
      constructor
      · intro z
        refine ⟨z.1, fun j hj => ?_⟩
        rw [← h (p + j) (by have := z.1; omega)]
        exact z.2 j hj
      · intro z
        refine ⟨z.1, fun j hj => ?_⟩
        rw [h (p + j) (by have := z.1; omega)]
        exact z.2 j hj
    by_cases hs : stdS b p q i
    · rw [if_pos hs, if_pos (e.mp hs)]
    · rw [if_neg hs, if_neg (fun z => hs (e.mpr z))]
theorem numF_cg {b c : Nat → Int} {n p : Nat} (h : agB b c n) : ∀ k, p + k ≤ n → numF b p k = numF c p k := by
  intro k
  induction k with
  | zero => intro _; rfl
  | succ k ih =>
    intro hk
    show bm (numF b p k * 10 + b (p + k) - 48) = bm (numF c p k * 10 + c (p + k) - 48)
    rw [ih (by omega), h (p + k) (by omega)]
theorem tk_cg {b c : Nat → Int} {n : Nat} (h : agB b c n) : tk b n = tk c n := by
  funext p
  unfold tk
  by_cases hp : n ≤ p
  · rw [if_pos hp, if_pos hp]
  · rw [if_neg hp, if_neg hp, h p (by omega), span_cg h _ p rfl, span_cg h _ p rfl, wIx_cg h ((span_in isL c n _ p rfl).2 (by omega))]
theorem nx_cg {b c : Nat → Int} {n : Nat} (h : agB b c n) : nx b n = nx c n := by
  funext p
  unfold nx
  by_cases hp : n ≤ p
  · rw [if_pos hp, if_pos hp]
  · rw [if_neg hp, if_neg hp, h p (by omega), span_cg h _ p rfl, span_cg h _ p rfl]
theorem adv_cg {b c : Nat → Int} {n : Nat} (h : agB b c n) : adv b n = adv c n := by
  funext p
  unfold adv
  rw [nx_cg h, span_cg h _ _ rfl]
theorem vl_cg {b c : Nat → Int} {n p : Nat} (h : agB b c n) (hp : p < n) : vl b n p = vl c n p := by
  unfold vl
  have h2 := (span_in isD c n _ p rfl).2 (by omega)
  have h1 := (span_in isD c n _ p rfl).1
  rw [h p hp, span_cg h _ p rfl, span_cg h _ p rfl, wIx_cg h ((span_in isL c n _ p rfl).2 (by omega)), numF_cg h _ (by omega)]
theorem loopP_cg {b c : Nat → Int} {n : Nat} (h : agB b c n) (op : Int → Int) (sub : Nat → PT) : ∀ (f : Nat) (r : PT), loopP b n op sub f r = loopP c n op sub f r := by
  intro f
  induction f with
  | zero => intro r; rfl
  | succ f ih =>
    intro r
    show (if r.2.1 = -1 ∧ op (tk b n r.1) ≠ 0 then loopP b n op sub f _ else r) = (if r.2.1 = -1 ∧ op (tk c n r.1) ≠ 0 then loopP c n op sub f _ else r)
    rw [tk_cg h, adv_cg h, ih]
theorem atomX_cg {b c : Nat → Int} {n m : Nat} (h : agB b c n) (nE : Nat → PT) : atomX b n m nE = atomX c n m nE := by
  funext p
  unfold atomX
  rw [tk_cg h, adv_cg h]
  by_cases hp : p < n
  · rw [vl_cg h hp]
  · rw [tk_0 (b := c) (n := n) (p := p) (by omega), if_neg (by omega), if_neg (by omega), if_neg (by omega), if_neg (by omega), if_neg (by omega), if_neg (by omega)]
theorem atomP_cg {b c : Nat → Int} {n m : Nat} (h : agB b c n) (n1 nE : Nat → PT) : atomP b n m n1 nE = atomP c n m n1 nE := by
  funext p
  unfold atomP
  rw [tk_cg h, adv_cg h, atomX_cg h]
theorem termP_cg {b c : Nat → Int} {n : Nat} (h : agB b c n) (one : Nat → PT) : termP b n one = termP c n one := by
  funext p
  unfold termP
  rw [loopP_cg h]
theorem sumP_cg {b c : Nat → Int} {n : Nat} (h : agB b c n) (one : Nat → PT) : sumP b n one = sumP c n one := by
  funext p
  unfold sumP
  rw [termP_cg h, loopP_cg h]
theorem denP_cg {b c : Nat → Int} {n m : Nat} (h : agB b c n) (one nD : Nat → PT) : denP b n m one nD = denP c n m one nD := by
  funext p
  unfold denP denX
  rw [tk_cg h, adv_cg h, sumP_cg h, loopP_cg h]
theorem eitP_cg {b c : Nat → Int} {n : Nat} (h : agB b c n) (den : Nat → PT) : eitP b n den = eitP c n den := by
  funext p
  have e : bothP b n den = bothP c n den := by
    funext q
    unfold bothP
    rw [loopP_cg h]
  unfold eitP
  rw [e, loopP_cg h]
theorem lvl_cg {b c : Nat → Int} {n : Nat} (h : agB b c n) : ∀ m, lvl b n m = lvl c n m := by
  intro m
  induction m with
  | zero =>
    show (atomP b n 0 pFail pFail, denP b n 0 (atomP b n 0 pFail pFail) pFail) = (atomP c n 0 pFail pFail, denP c n 0 (atomP c n 0 pFail pFail) pFail)
    rw [atomP_cg h, denP_cg h]
  | succ m ih =>
    show (atomP b n (m + 1) (lvl b n m).1 (eitP b n (lvl b n m).2), denP b n (m + 1) (atomP b n (m + 1) (lvl b n m).1 (eitP b n (lvl b n m).2)) (lvl b n m).2) = (atomP c n (m + 1) (lvl c n m).1 (eitP c n (lvl c n m).2), denP c n (m + 1) (atomP c n (m + 1) (lvl c n m).1 (eitP c n (lvl c n m).2)) (lvl c n m).2)
    rw [ih, eitP_cg h, atomP_cg h, denP_cg h]
theorem partP_cg {b c : Nat → Int} {n : Nat} (h : agB b c n) (key : Int) : partP b n key = partP c n key := by
  have e : eitL b n 5 = eitL c n 5 := by
    unfold eitL denL
    rw [lvl_cg h, eitP_cg h]
  funext p
  unfold partP
  rw [tk_cg h, adv_cg h, e]
theorem rdk_cg {b c : Nat → Int} {n : Nat} (h : agB b c n) : ∀ k, rdk b n k = rdk c n k := by
  intro k
  induction k with
  | zero =>
    show (span isW b n 0, (-1 : Int), ([] : List Int), fun _ => (0 : Int)) = (span isW c n 0, -1, [], fun _ => 0)
    rw [span_cg h _ 0 rfl]
  | succ k ih =>
    show stP (partP b n (4 + (k : Int))) (rdk b n k).1 (rdk b n k).2.1 = stP (partP c n (4 + (k : Int))) (rdk c n k).1 (rdk c n k).2.1
    rw [ih, partP_cg h]
theorem rdF_cg {b c : Nat → Int} {n : Nat} (h : agB b c n) : rdF b n = rdF c n := by
  rw [rdF_eq, rdF_eq, rdk_cg h, tk_cg h]
theorem valT_cg {b c : Nat → Int} {n : Nat} (h : agB b c n) (part : Nat) (nm : Nat → Int) : valT b n part nm = valT c n part nm := by
  unfold valT
  rw [rdk_cg h]
end
section
/-! the reference: a new text, a new man -/

theorem agZ.Y {a b : IM} (h : agZ a b) : agY a b := fun k i s hs => h k i s (by omega)
theorem txI_31 {im : IM} {s i : Nat} (hs : (s : Int) < im 30 0 3) (hi : i < 160) : txI im 31 0 (160 * s + i) = im 31 0 (160 * s + i) := by
  unfold txI
  rw [up_app, if_neg (by omega), up_app, if_neg (by omega)]
  unfold cpR
  rw [if_neg (by omega)]
theorem txI_32 {im : IM} {s : Nat} (hs : (s : Int) < im 30 0 3) : txI im 32 0 s = im 32 0 s := by
  unfold txI
  rw [up_app, if_neg (by omega), up_app, if_neg (by omega)]
  unfold cpR
  rw [if_neg (by omega)]
theorem txI_row {im : IM} (h : RX im) {s : Nat} (hs : (s : Int) < im 30 0 3) : 0 ≤ txI im 32 0 s ∧ txI im 32 0 s ≤ 160 ∧ rdF (rowR (txI im) s) (txI im 32 0 s).toNat = -1 := by
  have e := h.2.2.2.2 s hs
  rw [txI_32 hs]
  refine ⟨e.1, e.2.1, ?_⟩
  rw [rdF_cg (b := rowR (txI im) s) (c := rowR im s) (n := (im 32 0 s).toNat) (fun i hi => txI_31 hs (by omega))]
  exact e.2.2
theorem txI_b {im : IM} (h : RX im) : ∀ i, i < 960 → 0 ≤ txI im 31 0 i ∧ txI im 31 0 i ≤ 255 := by
  intro i hi
  have h6 := h.2.2.1
  unfold txI
  rw [up_app, if_neg (by omega), up_app, if_neg (by omega)]
  unfold cpR
  split
  · exact h.1 _ (by omega)
  · exact h.2.1 i hi
theorem txI_RI {im : IM} (h : RI im) : RI (txI im) := RI_up (RI_up (cpR_RI h _ _) (h _ _ _)) (by constructor <;> omega)
theorem RC_txI {im : IM} (h : RC im) : RC (txI im) := by
  obtain ⟨hR, hX, h4, h12, h7, h8, hP⟩ := h
  exact ⟨txI_RI hR, ⟨hX.1, txI_b hX, ⟨Int.le_refl 0, by show (0 : Int) ≤ 160; omega⟩, hX.2.2.2.1, fun s hs => txI_row hX hs⟩, h4, h12, h7, h8, hP⟩
theorem RC_txJ {im : IM} (h : RC im) (h3 : im 30 0 3 ≠ 6) (hF : rdF (txB im) (im 30 0 6).toNat = -1) : RC (up (txI im) 30 0 3 (im 30 0 3 + 1)) := by
  obtain ⟨hR, hX, h4, h12, h7, h8, hP⟩ := h
  have h3' := hX.2.2.2.1
  have h6 := hX.2.2.1
  refine ⟨RI_up (txI_RI hR) (by constructor <;> omega), ⟨hX.1, txI_b hX, ⟨Int.le_refl 0, by show (0 : Int) ≤ 160; omega⟩, ?_, fun s hs => ?_⟩, ⟨h4.1, ?_⟩, h12, h7, h8, hP⟩
  · show 0 ≤ im 30 0 3 + 1 ∧ im 30 0 3 + 1 ≤ 6
    omega
  · have hs2 : (s : Int) < im 30 0 3 + 1 := hs
    by_cases hc : (s : Int) < im 30 0 3
    · exact txI_row hX hc
    · have e : s = (im 30 0 3).toNat := by omega
      subst e
      have e32 : txI im 32 0 (im 30 0 3).toNat = im 30 0 6 := by
        unfold txI
        rw [up_app, if_neg (by omega), up_app, if_pos ⟨rfl, rfl, rfl⟩]
      show 0 ≤ txI im 32 0 (im 30 0 3).toNat ∧ txI im 32 0 (im 30 0 3).toNat ≤ 160 ∧ rdF (rowR (txI im) (im 30 0 3).toNat) (txI im 32 0 (im 30 0 3).toNat).toNat = -1
      rw [e32]
      exact ⟨h6.1, h6.2, hF⟩
  · show im 30 0 4 < im 30 0 3 + 1
    omega
theorem RC_text0 {im im' : IM} (h : RC im) (hR : RI im') (ha : agZ im' (txI im)) : RC im' := (RC_txI h).ag hR ha.Y
theorem RC_text1 {im im' : IM} (h : RC im) (h3 : im 30 0 3 ≠ 6) (hF : rdF (txB im) (im 30 0 6).toNat = -1) (hR : RI im') (ha : agZ im' (txI im)) : RC (up im' 30 0 3 (im 30 0 3 + 1)) := by
  have h3' := h.2.1.2.2.2.1
  refine (RC_txJ h h3 hF).ag (RI_up hR (by constructor <;> omega)) (fun k i s hs => ?_)
  rw [up_app, up_app, ha k i s (by omega)]
end
section
/-! the reference: a new man -/

theorem RC_man {im : IM} (h : RC im) {a c : Int} (ha : 0 ≤ a ∧ a ≤ 5) (hc : 0 ≤ c ∧ c ≤ 9) (h5 : im 30 0 12 ≠ 5) : RC (up (fiR (up (up im 34 0 (im 30 0 12).toNat a) 35 0 (im 30 0 12).toNat c) (10 * (im 30 0 12).toNat) 10 (-1)) 30 0 12 (im 30 0 12 + 1)) := by
  obtain ⟨hR, hX, h4, h12, h7, h8, hP⟩ := h
  have hRf : RI (fiR (up (up im 34 0 (im 30 0 12).toNat a) 35 0 (im 30 0 12).toNat c) (10 * (im 30 0 12).toNat) 10 (-1)) := by
    intro k i s
    unfold fiR
    split
    · constructor <;> omega
    · exact RI_up (RI_up hR (by constructor <;> omega)) (by constructor <;> omega) k i s
  refine ⟨RI_up hRf (by constructor <;> omega), hX.same (fun _ => rfl) (fun _ => rfl) (fun _ => rfl) rfl rfl, h4, ?_, h7, h8, fun p hp => ?_⟩
  · show 0 ≤ im 30 0 12 + 1 ∧ im 30 0 12 + 1 ≤ 5
    omega
  · have hp2 : (p : Int) < im 30 0 12 + 1 := hp
    generalize ht : (im 30 0 12).toNat = t
    have e34 : up (fiR (up (up im 34 0 t a) 35 0 t c) (10 * t) 10 (-1)) 30 0 12 (im 30 0 12 + 1) 34 0 p = if p = t then a else im 34 0 p := by
      rw [up_app, if_neg (by omega)]
      unfold fiR
      rw [if_neg (by omega), up_app, if_neg (by omega), up_app]
      by_cases q : p = t
      · rw [if_pos ⟨rfl, rfl, q⟩, if_pos q]
      · rw [if_neg (fun z => q z.2.2), if_neg q]
    have e35 : up (fiR (up (up im 34 0 t a) 35 0 t c) (10 * t) 10 (-1)) 30 0 12 (im 30 0 12 + 1) 35 0 p = if p = t then c else im 35 0 p := by
      rw [up_app, if_neg (by omega)]
      unfold fiR
      rw [if_neg (by omega), up_app]
      by_cases q : p = t
      · rw [if_pos ⟨rfl, rfl, q⟩, if_pos q]
      · rw [if_neg (fun z => q z.2.2), if_neg q, up_app, if_neg (by omega)]
    have e36 : ∀ g, g < 10 → up (fiR (up (up im 34 0 t a) 35 0 t c) (10 * t) 10 (-1)) 30 0 12 (im 30 0 12 + 1) 36 0 (10 * p + g) = if p = t then -1 else im 36 0 (10 * p + g) := by
      intro g hg
      rw [up_app, if_neg (by omega)]
      unfold fiR
      by_cases q : p = t
      · rw [if_pos (by omega), if_pos q]
      · rw [if_neg (by omega), if_neg q, up_app, if_neg (by omega), up_app, if_neg (by omega)]
    have e37 : ∀ g, up (fiR (up (up im 34 0 t a) 35 0 t c) (10 * t) 10 (-1)) 30 0 12 (im 30 0 12 + 1) 37 0 (10 * p + g) = im 37 0 (10 * p + g) := by
      intro g
      rw [up_app, if_neg (by omega)]
      unfold fiR
      rw [if_neg (by omega), up_app, if_neg (by omega), up_app, if_neg (by omega)]
    unfold RP
    rw [e34, e35]
    by_cases q : p = t
    · rw [if_pos q, if_pos q]
      refine ⟨by omega, by omega, fun g hg => ?_⟩
      rw [e36 g hg, if_pos q]
      exact ⟨by omega, by omega, fun z => absurd rfl z⟩
    · rw [if_neg q, if_neg q]
      have e := hP p (by omega)
      refine ⟨e.1, e.2.1, fun g hg => ?_⟩
      rw [e36 g hg, if_neg q, e37]
      exact e.2.2 g hg
end
section
/-! the reference: an hour, gap by gap -/

def beR (im : IM) (q : Nat) : Int := bearsK (im 34 0 (q / 10)) (im 35 0 (q / 10)) (sayR im (im 30 0 4).toNat 2 (nmA (im 36 0 q) 0 (im 30 0 7) (im 35 0 (q / 10)) ((q % 10 : Nat) : Int) (im 37 0 q))) (chI (im 30 0 8) (im 30 0 7))
theorem hoR_ag {im im' : IM} (h : agY im' im) (q : Nat) : hoR im' q = hoR im q := by
  unfold hoR
  rw [sayR_ag h, h 34 0 _ (by omega), h 35 0 _ (by omega), h 36 0 _ (by omega), h 37 0 _ (by omega), h 30 0 4 (by omega), h 30 0 7 (by omega)]
theorem beR_ag {im im' : IM} (h : agY im' im) (q : Nat) : beR im' q = beR im q := by
  unfold beR
  rw [sayR_ag h, h 34 0 _ (by omega), h 35 0 _ (by omega), h 36 0 _ (by omega), h 37 0 _ (by omega), h 30 0 4 (by omega), h 30 0 7 (by omega), h 30 0 8 (by omega)]
theorem hoR_in {im : IM} {q : Nat} (hk : 0 ≤ im 35 0 (q / 10) ∧ im 35 0 (q / 10) < 10) : 1 ≤ hoR im q ∧ hoR im q ≤ 108 := by
  have h := sayR_in im (im 30 0 4).toNat 1 (nmA (im 36 0 q) 0 (im 30 0 7) (im 35 0 (q / 10)) ((q % 10 : Nat) : Int) (im 37 0 q))
  unfold hoR holdsK heldK
  (repeat' split) <;> omega
theorem beR_in {im : IM} {q : Nat} (hk : 0 ≤ im 35 0 (q / 10) ∧ im 35 0 (q / 10) < 10) : 0 ≤ beR im q ∧ beR im q ≤ 621 := by
  have h := sayR_in im (im 30 0 4).toNat 2 (nmA (im 36 0 q) 0 (im 30 0 7) (im 35 0 (q / 10)) ((q % 10 : Nat) : Int) (im 37 0 q))
  unfold beR bearsK
  (repeat' split) <;> omega
theorem agY.up {a b : IM} (h : agY a b) {k i s : Nat} {x y : Int} (e : x = y) : agY (up a k i s x) (up b k i s y) := by
  intro k' i' s' hn
  rw [up_app, up_app, e]
  split
  · rfl
  · exact h k' i' s' hn
theorem agY.at {a b : IM} (h : agY a b) {k i s : Nat} (hs : ¬ (k = 30 ∧ 15 ≤ s ∧ s ≤ 29)) : a k i s = b k i s := h k i s hs
/-- one gap's hour, t hours from now -/
def lvA (im : IM) (q : Nat) : IM := up im 37 0 q (im 37 0 q + 1)
def lvB (im : IM) (t : Int) (q : Nat) : IM := up (up (up (lvA im q) 39 0 q (beR (lvA im q) q)) 38 0 q t) 30 0 9 (bm (im 30 0 9 + beR (lvA im q) q))
def lvF (im : IM) (t : Int) (q : Nat) : IM := if im 30 0 33 = -1 then up (up (up im 30 0 31 (im 36 0 q)) 30 0 32 ((q / 10 : Nat) : Int)) 30 0 33 t else im
def lvC (im : IM) (t : Int) (q : Nat) : IM := up (up (lvF (lvB im t q) t q) 30 0 30 (bm (im 30 0 30 + 1))) 36 0 q (-1)
def lv1 (im : IM) (t : Int) (q : Nat) : IM := if im 36 0 q = -1 then im else if im 37 0 q + 1 < hoR (lvA im q) q then lvA im q else lvC im t q
def lvN (im : IM) (t : Int) : Nat → IM
  | 0 => im
  | n + 1 => lv1 (lvN im t n) t n
end
section
/-! the reference: what an hour does, gap by gap -/

/-- it would go off in this hour; how bad then -/
def ho1 (im : IM) (q : Nat) : Int := holdsK (im 34 0 (q / 10)) (im 35 0 (q / 10)) (sayR im (im 30 0 4).toNat 1 (nmA (im 36 0 q) 0 (im 30 0 7) (im 35 0 (q / 10)) ((q % 10 : Nat) : Int) (im 37 0 q + 1)))
def be1 (im : IM) (q : Nat) : Int := bearsK (im 34 0 (q / 10)) (im 35 0 (q / 10)) (sayR im (im 30 0 4).toNat 2 (nmA (im 36 0 q) 0 (im 30 0 7) (im 35 0 (q / 10)) ((q % 10 : Nat) : Int) (im 37 0 q + 1))) (chI (im 30 0 8) (im 30 0 7))
abbrev ofI (im : IM) (q : Nat) : Prop := im 36 0 q ≠ -1 ∧ ho1 im q ≤ im 37 0 q + 1
/-- all but what an hour goes through -/
def agH (a b : IM) : Prop := ∀ k i s, ¬ (36 ≤ k ∧ k ≤ 39) → ¬ (k = 30 ∧ (s = 9 ∨ 30 ≤ s ∧ s ≤ 33)) → a k i s = b k i s
theorem agH_rfl (a : IM) : agH a a := fun _ _ _ _ _ => rfl
theorem agH.trans {a b c : IM} (h : agH a b) (h2 : agH b c) : agH a c := fun k i s x y => (h k i s x y).trans (h2 k i s x y)
theorem agH_up {a b : IM} (h : agH a b) {k i s : Nat} {x : Int} (hk : (36 ≤ k ∧ k ≤ 39) ∨ (k = 30 ∧ (s = 9 ∨ 30 ≤ s ∧ s ≤ 33))) : agH (up a k i s x) b := by
  intro k' i' s' h1 h2
  rw [up_app, if_neg (by omega)]
  exact h k' i' s' h1 h2
theorem sayR_H {a b : IM} (h : agH a b) (t part : Nat) (nm : Nat → Int) : sayR a t part nm = sayR b t part nm := by
  unfold sayR
  have e31 : rowR a t = rowR b t := funext fun i => h 31 0 _ (by omega) (by omega)
  rw [h 32 0 t (by omega) (by omega), e31]
theorem ho1_H {a b : IM} (h : agH a b) {q : Nat} (h36 : a 36 0 q = b 36 0 q) (h37 : a 37 0 q = b 37 0 q) : ho1 a q = ho1 b q := by
  unfold ho1
  rw [sayR_H h, h 34 0 _ (by omega) (by omega), h 35 0 _ (by omega) (by omega), h36, h37, h 30 0 4 (by omega) (by omega), h 30 0 7 (by omega) (by omega)]
theorem be1_H {a b : IM} (h : agH a b) {q : Nat} (h36 : a 36 0 q = b 36 0 q) (h37 : a 37 0 q = b 37 0 q) : be1 a q = be1 b q := by
  unfold be1
  rw [sayR_H h, h 34 0 _ (by omega) (by omega), h 35 0 _ (by omega) (by omega), h36, h37, h 30 0 4 (by omega) (by omega), h 30 0 7 (by omega) (by omega), h 30 0 8 (by omega) (by omega)]
theorem ofI_H {a b : IM} (h : agH a b) {q : Nat} (h36 : a 36 0 q = b 36 0 q) (h37 : a 37 0 q = b 37 0 q) : ofI a q ↔ ofI b q := by
  unfold ofI
  rw [ho1_H h h36 h37, h36, h37]
theorem hoA (im : IM) (q : Nat) : hoR (lvA im q) q = ho1 im q := by
  have e : lvA im q 37 0 q = im 37 0 q + 1 := by unfold lvA; rw [up_app, if_pos ⟨rfl, rfl, rfl⟩]
  have eH : agH (lvA im q) im := agH_up (agH_rfl im) (Or.inl (by omega))
  unfold hoR ho1
  rw [e, sayR_H eH, eH 34 0 _ (by omega) (by omega), eH 35 0 _ (by omega) (by omega), eH 30 0 4 (by omega) (by omega), eH 30 0 7 (by omega) (by omega)]
  rfl
theorem beA (im : IM) (q : Nat) : beR (lvA im q) q = be1 im q := by
  have e : lvA im q 37 0 q = im 37 0 q + 1 := by unfold lvA; rw [up_app, if_pos ⟨rfl, rfl, rfl⟩]
  have eH : agH (lvA im q) im := agH_up (agH_rfl im) (Or.inl (by omega))
  unfold beR be1
  rw [e, sayR_H eH, eH 34 0 _ (by omega) (by omega), eH 35 0 _ (by omega) (by omega), eH 30 0 4 (by omega) (by omega), eH 30 0 7 (by omega) (by omega), eH 30 0 8 (by omega) (by omega)]
  rfl
theorem ofI_not {im : IM} {q : Nat} (h : im 36 0 q = -1) : ¬ ofI im q := fun z => z.1 h
/-- the sum and the number of those that go off, the first of them -/
def shI (im : IM) : Nat → Int
  | 0 => im 30 0 9
  | n + 1 => if ofI im n then bm (shI im n + be1 im n) else shI im n
def cnI (im : IM) : Nat → Int
  | 0 => im 30 0 30
  | n + 1 => if ofI im n then bm (cnI im n + 1) else cnI im n
/-- behind n gaps of an hour -/
def LV (im : IM) (t : Int) (n : Nat) (F : IM) : Prop := agH F im ∧ (∀ s, n ≤ s → F 36 0 s = im 36 0 s ∧ F 37 0 s = im 37 0 s ∧ F 38 0 s = im 38 0 s ∧ F 39 0 s = im 39 0 s) ∧ (∀ s, s < n → (ofI im s → F 36 0 s = -1 ∧ F 38 0 s = t ∧ F 39 0 s = be1 im s) ∧ (¬ ofI im s → F 36 0 s = im 36 0 s ∧ (im 36 0 s ≠ -1 → F 37 0 s = im 37 0 s + 1) ∧ (im 36 0 s = -1 → F 37 0 s = im 37 0 s) ∧ F 38 0 s = im 38 0 s ∧ F 39 0 s = im 39 0 s)) ∧ F 30 0 9 = shI im n ∧ F 30 0 30 = cnI im n ∧ (im 30 0 33 ≠ -1 → F 30 0 31 = im 30 0 31 ∧ F 30 0 32 = im 30 0 32 ∧ F 30 0 33 = im 30 0 33) ∧ (im 30 0 33 = -1 → (∀ s, s < n → ¬ ofI im s) → F 30 0 31 = im 30 0 31 ∧ F 30 0 32 = im 30 0 32 ∧ F 30 0 33 = im 30 0 33) ∧ (im 30 0 33 = -1 → ∀ s, s < n → ofI im s → (∀ j, j < s → ¬ ofI im j) → F 30 0 31 = im 36 0 s ∧ F 30 0 32 = ((s / 10 : Nat) : Int) ∧ F 30 0 33 = t)
theorem LV_0 (im : IM) (t : Int) : LV im t 0 im := ⟨agH_rfl im, fun _ _ => ⟨rfl, rfl, rfl, rfl⟩, fun s hs => absurd hs (Nat.not_lt_zero s), rfl, rfl, fun _ => ⟨rfl, rfl, rfl⟩, fun _ _ => ⟨rfl, rfl, rfl⟩, fun _ s hs => absurd hs (Nat.not_lt_zero s)⟩
theorem lvC_app (F : IM) (t : Int) (n k i s : Nat) : lvC F t n k i s = if k = 36 ∧ i = 0 ∧ s = n then -1 else if k = 30 ∧ i = 0 ∧ s = 30 then bm (F 30 0 30 + 1) else if F 30 0 33 = -1 ∧ k = 30 ∧ i = 0 ∧ s = 33 then t else if F 30 0 33 = -1 ∧ k = 30 ∧ i = 0 ∧ s = 32 then ((n / 10 : Nat) : Int) else if F 30 0 33 = -1 ∧ k = 30 ∧ i = 0 ∧ s = 31 then F 36 0 n else if k = 30 ∧ i = 0 ∧ s = 9 then bm (F 30 0 9 + be1 F n) else if k = 38 ∧ i = 0 ∧ s = n then t else if k = 39 ∧ i = 0 ∧ s = n then be1 F n else if k = 37 ∧ i = 0 ∧ s = n then F 37 0 n + 1 else F k i s := by
  unfold lvC
  rw [up_app, up_app]
  have e33 : lvB F t n 30 0 33 = F 30 0 33 := rfl
  have e36 : lvB F t n 36 0 n = F 36 0 n := by
    unfold lvB lvA
    rw [up_app, if_neg (by omega), up_app, if_neg (by omega), up_app, if_neg (by omega), up_app, if_neg (by omega)]
  have eB : lvB F t n k i s = if k = 30 ∧ i = 0 ∧ s = 9 then bm (F 30 0 9 + be1 F n) else if k = 38 ∧ i = 0 ∧ s = n then t else if k = 39 ∧ i = 0 ∧ s = n then be1 F n else if k = 37 ∧ i = 0 ∧ s = n then F 37 0 n + 1 else F k i s := by
    unfold lvB
    rw [beA, up_app, up_app, up_app]
    unfold lvA
    rw [up_app]
  unfold lvF
  rw [e33]
  by_cases h : F 30 0 33 = -1
  · rw [if_pos h, up_app, up_app, up_app, eB, e36]
    simp only [h, true_and]
  · rw [if_neg h, eB]
    simp only [h, false_and, if_false]
theorem LV_s {im F : IM} {t : Int} {n : Nat} (htt : t ≠ -1) (h : LV im t n F) : LV im t (n + 1) (lv1 F t n) := by
  obtain ⟨hH, hge, hlt, h9, h30, hn0, hn1, hn2⟩ := h
  have hn := hge n (Nat.le_refl n)
  have ho : ho1 F n = ho1 im n := ho1_H hH hn.1 hn.2.1
  have hb : be1 F n = be1 im n := be1_H hH hn.1 hn.2.1
  have s9 : shI im (n + 1) = if ofI im n then bm (shI im n + be1 im n) else shI im n := rfl
  have s30 : cnI im (n + 1) = if ofI im n then bm (cnI im n + 1) else cnI im n := rfl
  by_cases hw : im 36 0 n = -1
  · have hno : ¬ ofI im n := fun z => z.1 hw
    have e : lv1 F t n = F := if_pos (hn.1.trans hw)
    rw [e]
    refine ⟨hH, fun s hs => hge s (by omega), fun s hs => ?_, by rw [s9, if_neg hno]; exact h9, by rw [s30, if_neg hno]; exact h30, hn0, fun h33 hs => hn1 h33 (fun s hs2 => hs s (by omega)), fun h33 s hs hos hj => hn2 h33 s ?_ hos hj⟩
    · by_cases q : s = n
      · subst q
        exact ⟨fun z => absurd z hno, fun _ => ⟨hn.1, fun z => absurd hw z, fun _ => hn.2.1, hn.2.2.1, hn.2.2.2⟩⟩
      · exact hlt s (by omega)
    · have : s ≠ n := fun e => hno (e ▸ hos)
      omega
  · by_cases hof : ho1 im n ≤ im 37 0 n + 1
    · have hyes : ofI im n := ⟨hw, hof⟩
      have e : lv1 F t n = lvC F t n := by
        unfold lv1
        rw [if_neg (by rw [hn.1]; exact hw), if_neg (by rw [hoA, ho, hn.2.1]; omega)]
      rw [e]
      refine ⟨fun k i s x y => ?_, fun s hs => ?_, fun s hs => ?_, ?_, ?_, fun h33 => ?_, fun h33 hs => absurd hyes (hs n (by omega)), fun h33 s hs hos hj => ?_⟩
      · rw [lvC_app, if_neg (by omega), if_neg (by omega), if_neg (by omega), if_neg (by omega), if_neg (by omega), if_neg (by omega), if_neg (by omega), if_neg (by omega), if_neg (by omega)]
        exact hH k i s x y
      · have q := hge s (by omega)
        refine ⟨?_, ?_, ?_, ?_⟩ <;> rw [lvC_app, if_neg (by omega), if_neg (by omega), if_neg (by omega), if_neg (by omega), if_neg (by omega), if_neg (by omega), if_neg (by omega), if_neg (by omega), if_neg (by omega)]
        · exact q.1
        · exact q.2.1
        · exact q.2.2.1
        · exact q.2.2.2
      · by_cases q : s = n
        · subst q
          refine ⟨fun _ => ⟨?_, ?_, ?_⟩, fun z => absurd hyes z⟩
          · rw [lvC_app, if_pos ⟨rfl, rfl, rfl⟩]
          · rw [lvC_app, if_neg (by omega), if_neg (by omega), if_neg (by omega), if_neg (by omega), if_neg (by omega), if_neg (by omega), if_pos ⟨rfl, rfl, rfl⟩]
          · rw [lvC_app, if_neg (by omega), if_neg (by omega), if_neg (by omega), if_neg (by omega), if_neg (by omega), if_neg (by omega), if_neg (by omega), if_pos ⟨rfl, rfl, rfl⟩, hb]
        · have c : ∀ k, 36 ≤ k → k ≤ 39 → lvC F t n k 0 s = F k 0 s := fun k _ _ => by
            rw [lvC_app, if_neg (by omega), if_neg (by omega), if_neg (by omega), if_neg (by omega), if_neg (by omega), if_neg (by omega), if_neg (by omega), if_neg (by omega), if_neg (by omega)]
          rw [c 36 (by omega) (by omega), c 37 (by omega) (by omega), c 38 (by omega) (by omega), c 39 (by omega) (by omega)]
          exact hlt s (by omega)
      · rw [lvC_app, if_neg (by omega), if_neg (by omega), if_neg (by omega), if_neg (by omega), if_neg (by omega), if_pos ⟨rfl, rfl, rfl⟩, s9, if_pos hyes, h9, hb]
      · rw [lvC_app, if_neg (by omega), if_pos ⟨rfl, rfl, rfl⟩, s30, if_pos hyes, h30]
      · have e33 := (hn0 h33).2.2
        have c : ∀ s, 31 ≤ s → s ≤ 33 → lvC F t n 30 0 s = F 30 0 s := fun s _ _ => by
          rw [lvC_app, if_neg (by omega), if_neg (by omega), if_neg (fun z => h33 (e33 ▸ z.1)), if_neg (fun z => h33 (e33 ▸ z.1)), if_neg (fun z => h33 (e33 ▸ z.1)), if_neg (by omega), if_neg (by omega), if_neg (by omega), if_neg (by omega)]
        rw [c 31 (by omega) (by omega), c 32 (by omega) (by omega), c 33 (by omega) (by omega)]
        exact hn0 h33
      · by_cases q : s = n
        · subst q
          have e33 := (hn1 h33 hj).2.2
          have z33 : F 30 0 33 = -1 := e33.trans h33
          refine ⟨?_, ?_, ?_⟩
          · rw [lvC_app, if_neg (by omega), if_neg (by omega), if_neg (by omega), if_neg (by omega), if_pos ⟨z33, rfl, rfl, rfl⟩]
            exact hn.1
          · rw [lvC_app, if_neg (by omega), if_neg (by omega), if_neg (by omega), if_pos ⟨z33, rfl, rfl, rfl⟩]
          · rw [lvC_app, if_neg (by omega), if_neg (by omega), if_pos ⟨z33, rfl, rfl, rfl⟩]
        · have old := hn2 h33 s (by omega) hos hj
          have c : F 30 0 33 ≠ -1 → ∀ s, 31 ≤ s → s ≤ 33 → lvC F t n 30 0 s = F 30 0 s := fun z s _ _ => by
            rw [lvC_app, if_neg (by omega), if_neg (by omega), if_neg (fun w => z w.1), if_neg (fun w => z w.1), if_neg (fun w => z w.1), if_neg (by omega), if_neg (by omega), if_neg (by omega), if_neg (by omega)]
          have ht : t ≠ -1 := htt
          have z : F 30 0 33 ≠ -1 := by rw [old.2.2]; exact ht
          rw [c z 31 (by omega) (by omega), c z 32 (by omega) (by omega), c z 33 (by omega) (by omega)]
          exact old
    · have hno : ¬ ofI im n := fun z => hof z.2
      have e : lv1 F t n = lvA F n := by
        unfold lv1
        rw [if_neg (by rw [hn.1]; exact hw), if_pos (by rw [hoA, ho, hn.2.1]; omega)]
      rw [e]
      have c : ∀ k i s, ¬ (k = 37 ∧ i = 0 ∧ s = n) → lvA F n k i s = F k i s := fun k i s z => by
        unfold lvA
        rw [up_app, if_neg z]
      have c30 : ∀ s, lvA F n 30 0 s = F 30 0 s := fun s => c 30 0 s (by omega)
      refine ⟨fun k i s x y => (c k i s (by omega)).trans (hH k i s x y), fun s hs => ?_, fun s hs => ?_, by rw [s9, if_neg hno, c30]; exact h9, by rw [s30, if_neg hno, c30]; exact h30, by rw [c30, c30, c30]; exact hn0, fun h33 hs => by rw [c30, c30, c30]; exact hn1 h33 (fun s hs2 => hs s (by omega)), fun h33 s hs hos hj => ?_⟩
      · rw [c 36 0 s (by omega), c 37 0 s (by omega), c 38 0 s (by omega), c 39 0 s (by omega)]
        exact hge s (by omega)
      · by_cases q : s = n
        · subst q
          rw [c 36 0 s (by omega), c 38 0 s (by omega), c 39 0 s (by omega)]
          refine ⟨fun z => absurd z hno, fun _ => ⟨hn.1, fun _ => ?_, fun z => absurd z hw, hn.2.2.1, hn.2.2.2⟩⟩
          unfold lvA
          rw [up_app, if_pos ⟨rfl, rfl, rfl⟩, hn.2.1]
        · rw [c 36 0 s (by omega), c 37 0 s (by omega), c 38 0 s (by omega), c 39 0 s (by omega)]
          exact hlt s (by omega)
      · rw [c30, c30, c30]
        have : s ≠ n := fun e => hno (e ▸ hos)
        exact hn2 h33 s (by omega) hos hj
theorem LV_N (im : IM) {t : Int} (htt : t ≠ -1) (n : Nat) : LV im t n (lvN im t n) := by
  induction n with
  | zero => exact LV_0 im t
  | succ n ih => exact LV_s htt ih
end
section
/-! the reference: an hour of all -/

/-- the ages where a word is stuck are no more than that -/
def AG (im : IM) (a : Int) : Prop := ∀ q : Nat, (q : Int) < 10 * im 30 0 12 → im 36 0 q ≠ -1 → im 37 0 q ≤ a
theorem RC_lv {im F S : IM} {t : Int} {n : Nat} (h : RC im) (hA : AG im 1000) (hR : RI S) (hag : agY S F) (hL : LV im t n F) : RC S ∧ (∀ q : Nat, (q : Int) < 10 * im 30 0 12 → S 36 0 q ≠ -1 → S 37 0 q ≤ im 37 0 q + 1) := by
  obtain ⟨hRi, hX, h4, h12, h7, h8, hP⟩ := h
  obtain ⟨hH, hge, hlt, h9, h30, hn0, hn1, hn2⟩ := hL
  have e30 : ∀ s, ¬ (s = 9 ∨ 30 ≤ s ∧ s ≤ 33) → ¬ (15 ≤ s ∧ s ≤ 29) → S 30 0 s = im 30 0 s := fun s a b => (hag 30 0 s (by omega)).trans (hH 30 0 s (by omega) (by omega))
  have hXF : RX F := hX.same (fun s => hH 31 0 s (by omega) (by omega)) (fun s => hH 32 0 s (by omega) (by omega)) (fun s => hH 33 0 s (by omega) (by omega)) (hH 30 0 3 (by omega) (by omega)) (hH 30 0 6 (by omega) (by omega))
  have hw : ∀ s, (S 36 0 s = im 36 0 s ∨ S 36 0 s = -1) ∧ (S 36 0 s ≠ -1 → im 36 0 s ≠ -1 ∧ (S 37 0 s = im 37 0 s ∨ S 37 0 s = im 37 0 s + 1)) := by
    intro s
    rw [hag 36 0 s (by omega), hag 37 0 s (by omega)]
    by_cases q : s < n
    · have := hlt s q
      by_cases ho : ofI im s
      · have e := (this.1 ho).1
        rw [e]
        exact ⟨Or.inr rfl, fun z => absurd rfl z⟩
      · have e := this.2 ho
        rw [e.1]
        exact ⟨Or.inl rfl, fun z => ⟨z, Or.inr (e.2.1 z)⟩⟩
    · have := hge s (by omega)
      rw [this.1, this.2.1]
      exact ⟨Or.inl rfl, fun z => ⟨z, Or.inl rfl⟩⟩
  refine ⟨⟨hR, hXF.ag hag, by rw [e30 4 (by omega) (by omega), e30 3 (by omega) (by omega)]; exact h4, by rw [e30 12 (by omega) (by omega)]; exact h12, by rw [e30 7 (by omega) (by omega)]; exact h7, by rw [e30 8 (by omega) (by omega)]; exact h8, fun p hp => ?_⟩, fun q hq hne => ?_⟩
  · rw [e30 12 (by omega) (by omega)] at hp
    have hp0 := hP p hp
    unfold RP at hp0 ⊢
    rw [hag 34 0 p (by omega), hag 35 0 p (by omega), hH 34 0 p (by omega) (by omega), hH 35 0 p (by omega) (by omega)]
    refine ⟨hp0.1, hp0.2.1, fun g hg => ?_⟩
    have a := hw (10 * p + g)
    have b := hp0.2.2 g hg
    refine ⟨by omega, by omega, fun z => ?_⟩
    have c := a.2 z
    have d := b.2.2 c.1
    have e := hA (10 * p + g) (by omega) c.1
    omega
  · have c := (hw q).2 hne
    omega

set_option maxHeartbeats 4000000 in
theorem c_X9_lives (l : Launch) (G : GS) (im : IM) (bt rt : Nat) (lm : IM) (h : RC im) (hA : AG im 1000) (t : Int) (ht : ri t) (htt : t ≠ -1) : Cn l (XR G) yX9_lives Y_X9_lives [vR 30 0, vI t] (im, rs bt rt, lm) (pV fun m' => ∃ im' lm', RI im' ∧ agY im' (up (lvN im t (10 * im 30 0 12).toNat) 30 0 7 (im 30 0 7 + 1)) ∧ lgQ lm' lm ∧ m' = (im', rs bt rt, lm')) := by
  refine cn_of (by decide) (okR G) rfl (Nat.le_of_ble_eq_true rfl) ?_
  intro M ad hMl F
  subst hMl
  obtain ⟨hRi, hX, h4, h12, h7a, h8, hP⟩ := id h
  have hR := hRi
  refine wp_pad 1 ?_
  show Wp M (XR G) ad Y_X9_lives (pV fun m' => ∃ im' lm', RI im' ∧ agY im' (up (lvN im t (10 * im 30 0 12).toNat) 30 0 7 (im 30 0 7 + 1)) ∧ lgQ lm' lm ∧ m' = (im', rs bt rt, lm')) 0 [some (vR 30 0), some (vI t), none] [] (im, rs bt rt, lm)
  refine q_iconst (t := 1) F dX9_lives_0 rfl ?_
  refine q_istore_n (t := 2) F dX9_lives_1 rfl (by decide) rfl rfl ?_
  have L2 : ∀ (fz : Nat) (q : Nat) (S lg : IM), 51 - q < fz → ((q : Int) ≤ 10 * im 30 0 12 ∧ RI S ∧ agY S (lvN im t q) ∧ lgQ lg lm) → Wp M (XR G) ad Y_X9_lives (pV fun m' => ∃ im' lm', RI im' ∧ agY im' (up (lvN im t (10 * im 30 0 12).toNat) 30 0 7 (im 30 0 7 + 1)) ∧ lgQ lm' lm ∧ m' = (im', rs bt rt, lm')) 2 [some (vR 30 0), some (vI t), some (vI (q : Int))] [] (S, rs bt rt, lg) := by
    intro fz
    induction fz with
    | zero => intro q S lg h; exact absurd h (Nat.not_lt_zero _)
    | succ fz ih =>
      have ih2 := ih
      intro q S lg hmeas ⟨hq, hR, hag, hlg⟩
      have hL := LV_N im htt q
      generalize hPd : lvN im t q = P
      rw [hPd] at hL hag
      have e12 : S 30 0 12 = im 30 0 12 := (hag 30 0 12 (by omega)).trans (hL.1 30 0 12 (by omega) (by omega))
      have hRS := RC_lv h hA hR hag hL
      have hq50 : q ≤ 50 := by omega
      have hs1 : lvN im t (q + 1) = lv1 P t q := by rw [← hPd]; rfl
      refine q_iload_n (t := 3) F dX9_lives_2 rfl rfl rfl ?_
      refine q_bipush (t := 5) F dX9_lives_3 (by decide) rfl ?_
      refine q_aload_n (t := 6) F dX9_lives_5 rfl rfl rfl ?_
      refine g_X9_88 (t := 9) F dX9_lives_6 rfl rfl ?_
      rw [e12]
      refine q_imul (t := 10) F dX9_lives_9 rfl ?_
      refine q_icmp_ge (t := 13) (u := 134) F dX9_lives_10 (by first | exact hR _ _ _ | (constructor <;> omega)) (by first | exact hR _ _ _ | (constructor <;> omega)) (by decide) rfl (fun c10 => ?_) (fun c10 => ?_)
      · obtain rfl : q = (10 * im 30 0 12).toNat := by omega
        have e7 : S 30 0 7 = im 30 0 7 := (hag 30 0 7 (by omega)).trans (hL.1 30 0 7 (by omega) (by omega))
        refine q_aload_n (t := 135) F dX9_lives_134 rfl rfl rfl ?_
        refine q_dupR (t := 136) F dX9_lives_135 rfl ?_
        refine g_X9_117 (t := 139) F dX9_lives_136 rfl rfl ?_
        refine q_iconst (t := 140) F dX9_lives_139 rfl ?_
        refine q_iadd (t := 141) F dX9_lives_140 rfl ?_
        refine p_X9_117 (t := 144) F dX9_lives_141 rfl rfl ?_
        refine q_vret F dX9_lives_144 rfl ?_
        refine ⟨rfl, _, lg, ?_, ?_, hlg, rfl⟩
        · refine RI_up hR (by constructor <;> omega)
        · rw [hPd]
          exact hag.up (by rw [e7])
      · refine q_aload_n (t := 14) F dX9_lives_13 rfl rfl rfl ?_
        refine g_X9_32 (t := 17) F dX9_lives_14 rfl rfl ?_
        refine q_iload_n (t := 18) F dX9_lives_17 rfl rfl rfl ?_
        first | refine ldN_36 (t := 19) F dX9_lives_18 (by omega) rfl ?_ | refine ld_36 (t := 19) F dX9_lives_18 (by omega) (by omega) rfl ?_
        refine q_iconst (t := 20) F dX9_lives_19 rfl ?_
        refine q_icmp_eq (t := 23) (u := 128) F dX9_lives_20 (by exact hR _ _ _) (by constructor <;> omega) (by decide) rfl (fun c20 => ?_) (fun c20 => ?_)
        · refine q_iinc (t := 131) F dX9_lives_128 rfl (by decide) rfl rfl ?_
          refine q_goto (t := 2) F dX9_lives_131 (by decide) ?_
          rw [show (q : Int) + 1 = ((q + 1 : Nat) : Int) by omega]
          first
            | (exfalso; omega)
            | (refine ih2 (q + 1) S lg (by omega) ⟨by omega, hR, ?_, hlg⟩
               rw [hs1]
               unfold lv1
               rw [if_pos (by rw [← hag 36 0 q (by omega)]; exact c20)]
               exact hag)
            | (refine ih2 (q + 1) im2 lg2 (by omega) ⟨by omega, hR2, ?_, hlg2.trans hlg⟩
               rw [hs1]
               unfold lv1
               rw [if_neg (by rw [← hag 36 0 q (by omega)]; exact w36), if_pos (by rw [← hx2, ← hag 37 0 q (by omega)]; omega)]
               exact hag2)
            | (refine ih2 (q + 1) _ lg3 (by omega) ⟨by omega, ?_, ?_, hlg3.trans (hlg2.trans hlg)⟩
               · (repeat' first | exact hR3 | refine RI_up ?_ ?_ | exact ri_b _ | assumption | exact hR3 _ _ _ | (constructor <;> omega))
               · rw [hs1]
                 unfold lv1
                 rw [if_neg (by rw [← hag 36 0 q (by omega)]; exact w36), if_neg (by rw [← hx2, ← hag 37 0 q (by omega)]; omega)]
                 unfold lvC lvF
                 rw [if_pos (by exact z33)]
                 exact (((((hB.up e36).up rfl).up rfl).up e30).up rfl))
            | (refine ih2 (q + 1) _ lg3 (by omega) ⟨by omega, ?_, ?_, hlg3.trans (hlg2.trans hlg)⟩
               · (repeat' first | exact hR3 | refine RI_up ?_ ?_ | exact ri_b _ | assumption | exact hR3 _ _ _ | (constructor <;> omega))
               · rw [hs1]
                 unfold lv1
                 rw [if_neg (by rw [← hag 36 0 q (by omega)]; exact w36), if_neg (by rw [← hx2, ← hag 37 0 q (by omega)]; omega)]
                 unfold lvC lvF
                 rw [if_neg (by exact z33)]
                 exact ((hB.up e30).up rfl))
            | omega
        · have w36 : S 36 0 q ≠ -1 := c20
          have hq5 : (q : Int) < 10 * im 30 0 12 := by omega
          have hrp := hRS.1.2.2.2.2.2.2 (q / 10) (by omega)
          have hg := hrp.2.2 (q % 10) (by omega)
          rw [show 10 * (q / 10) + q % 10 = q by omega] at hg
          have h37 := hg.2.2 w36
          have h37b : S 37 0 q ≤ 1000 := by
            have e := (hL.2.1 q (Nat.le_refl q))
            have e2 := hag 36 0 q (by omega)
            have e3 := hag 37 0 q (by omega)
            have e4 := hA q hq5 (by rw [← e.1, ← e2]; exact w36)
            omega
          have hRC1 : RC (up S 37 0 q (S 37 0 q + 1)) := by
            have hh := hRS.1
            obtain ⟨a1, a2, a3, a4, a5, a6, a7⟩ := hh
            refine ⟨RI_up a1 (by constructor <;> omega), a2.same (fun _ => rfl) (fun _ => rfl) (fun _ => rfl) rfl rfl, a3, a4, a5, a6, fun p hp => ?_⟩
            have b := a7 p hp
            refine ⟨b.1, b.2.1, fun g hgg => ?_⟩
            have c := b.2.2 g hgg
            refine ⟨c.1, c.2.1, fun z => ?_⟩
            rw [up_app]
            split
            · omega
            · exact c.2.2 z
          have hagA : agY (up S 37 0 q (S 37 0 q + 1)) (lvA P q) := hag.up (by rw [hag 37 0 q (by omega)])
          have hk35 : 0 ≤ (up S 37 0 q (S 37 0 q + 1)) 35 0 (q / 10) ∧ (up S 37 0 q (S 37 0 q + 1)) 35 0 (q / 10) < 10 := hrp.2.1
          refine q_aload_n (t := 24) F dX9_lives_23 rfl rfl rfl ?_
          refine g_X9_35 (t := 27) F dX9_lives_24 rfl rfl ?_
          refine q_iload_n (t := 28) F dX9_lives_27 rfl rfl rfl ?_
          refine q_dup2 (t := 29) F dX9_lives_28 rfl ?_
          first | refine ldN_37 (t := 30) F dX9_lives_29 (by omega) rfl ?_ | refine ld_37 (t := 30) F dX9_lives_29 (by omega) (by omega) rfl ?_
          refine q_iconst (t := 31) F dX9_lives_30 rfl ?_
          refine q_iadd (t := 32) F dX9_lives_31 rfl ?_
          first | refine stN_37 (t := 33) F dX9_lives_32 (by omega) rfl ?_ | refine st_37 (t := 33) F dX9_lives_32 (by omega) (by omega) rfl ?_
          refine q_aload_n (t := 34) F dX9_lives_33 rfl rfl rfl ?_
          refine g_X9_35 (t := 37) F dX9_lives_34 rfl rfl ?_
          refine q_iload_n (t := 38) F dX9_lives_37 rfl rfl rfl ?_
          first | refine ldN_37 (t := 39) F dX9_lives_38 (by omega) rfl ?_ | refine ld_37 (t := 39) F dX9_lives_38 (by omega) (by omega) rfl ?_
          try simp only [up_app, row_app, scr_app, cpy_app, Nat.reduceEqDiff, Int.reduceToNat, Int.toNat_natCast, and_true, true_and, and_false, false_and, and_self, reduceIte]
          refine q_aload_n (t := 40) F dX9_lives_39 rfl rfl rfl ?_
          refine q_iload_n (t := 41) F dX9_lives_40 rfl rfl rfl ?_
          refine wp_callV (t := 44) [_] F dX9_lives_41 k_X9_holdsIn v_X9_holdsIn ml_X9_135 rfl rfl rfl rfl (Nat.le_of_ble_eq_true rfl) (by decide) (m_30 (by omega)) (c_X9_holdsIn _ G (up S 37 0 q (S 37 0 q + 1)) bt rt lg hRC1 q (by show (q : Int) < 10 * S 30 0 12; omega)) rfl (kI ?_)
          rintro x41 m' ⟨im2, lg2, hx41, hR2, hag2, hlg2, rfl⟩
          have hag2 : agY im2 (lvA P q) := hag2.trans hagA
          have hx1 : x41 = hoR (up S 37 0 q (S 37 0 q + 1)) q := hx41
          have hx2 : x41 = hoR (lvA P q) q := hx1.trans (hoR_ag hagA q)
          have hx3 := hoR_in (im := (up S 37 0 q (S 37 0 q + 1))) (q := q) hk35
          rw [← hx1] at hx3
          have hRC2 : RC im2 := hRC1.ag hR2 (fun k i s z => (hag2 k i s z).trans (hagA k i s z).symm)
          have e12b : im2 30 0 12 = im 30 0 12 := by
            rw [hag2 30 0 12 (by omega), ← hagA 30 0 12 (by omega)]
            exact e12
          refine q_icmp_lt (t := 47) (u := 128) F dX9_lives_44 (by constructor <;> omega) (by constructor <;> omega) (by decide) rfl (fun c44 => ?_) (fun c44 => ?_)
          · refine q_iinc (t := 131) F dX9_lives_128 rfl (by decide) rfl rfl ?_
            refine q_goto (t := 2) F dX9_lives_131 (by decide) ?_
            rw [show (q : Int) + 1 = ((q + 1 : Nat) : Int) by omega]
            first
              | (exfalso; omega)
              | (refine ih2 (q + 1) S lg (by omega) ⟨by omega, hR, ?_, hlg⟩
                 rw [hs1]
                 unfold lv1
                 rw [if_pos (by rw [← hag 36 0 q (by omega)]; exact c20)]
                 exact hag)
              | (refine ih2 (q + 1) im2 lg2 (by omega) ⟨by omega, hR2, ?_, hlg2.trans hlg⟩
                 rw [hs1]
                 unfold lv1
                 rw [if_neg (by rw [← hag 36 0 q (by omega)]; exact w36), if_pos (by rw [← hx2, ← hag 37 0 q (by omega)]; omega)]
                 exact hag2)
              | (refine ih2 (q + 1) _ lg3 (by omega) ⟨by omega, ?_, ?_, hlg3.trans (hlg2.trans hlg)⟩
                 · (repeat' first | exact hR3 | refine RI_up ?_ ?_ | exact ri_b _ | assumption | exact hR3 _ _ _ | (constructor <;> omega))
                 · rw [hs1]
                   unfold lv1
                   rw [if_neg (by rw [← hag 36 0 q (by omega)]; exact w36), if_neg (by rw [← hx2, ← hag 37 0 q (by omega)]; omega)]
                   unfold lvC lvF
                   rw [if_pos (by exact z33)]
                   exact (((((hB.up e36).up rfl).up rfl).up e30).up rfl))
              | (refine ih2 (q + 1) _ lg3 (by omega) ⟨by omega, ?_, ?_, hlg3.trans (hlg2.trans hlg)⟩
                 · (repeat' first | exact hR3 | refine RI_up ?_ ?_ | exact ri_b _ | assumption | exact hR3 _ _ _ | (constructor <;> omega))
                 · rw [hs1]
                   unfold lv1
                   rw [if_neg (by rw [← hag 36 0 q (by omega)]; exact w36), if_neg (by rw [← hx2, ← hag 37 0 q (by omega)]; omega)]
                   unfold lvC lvF
                   rw [if_neg (by exact z33)]
                   exact ((hB.up e30).up rfl))
              | omega
          · refine q_aload_n (t := 48) F dX9_lives_47 rfl rfl rfl ?_
            refine g_X9_41 (t := 51) F dX9_lives_48 rfl rfl ?_
            refine q_iload_n (t := 52) F dX9_lives_51 rfl rfl rfl ?_
            refine q_aload_n (t := 53) F dX9_lives_52 rfl rfl rfl ?_
            refine q_iload_n (t := 54) F dX9_lives_53 rfl rfl rfl ?_
            refine wp_callV (t := 57) [_] F dX9_lives_54 k_X9_bearsIn v_X9_bearsIn ml_X9_382 rfl rfl rfl rfl (Nat.le_of_ble_eq_true rfl) (by decide) (m_30 (by omega)) (c_X9_bearsIn _ G im2 bt rt lg2 hRC2 q (by omega)) rfl (kI ?_)
            rintro x54 m' ⟨im3, lg3, hx54, hR3, hag3, hlg3, rfl⟩
            have hx5 : x54 = beR im2 q := hx54
            have hx4 : x54 = beR (lvA P q) q := hx5.trans (beR_ag hag2 q)
            have hx6 := beR_in (im := im2) (q := q) (hRC2.2.2.2.2.2.2 (q / 10) (by omega)).2.1
            rw [← hx5] at hx6
            have hag3 : agY im3 (lvA P q) := hag3.trans hag2
            first | refine stN_39 (t := 58) F dX9_lives_57 (by omega) rfl ?_ | refine st_39 (t := 58) F dX9_lives_57 (by omega) (by omega) rfl ?_
            refine q_aload_n (t := 59) F dX9_lives_58 rfl rfl rfl ?_
            refine g_X9_38 (t := 62) F dX9_lives_59 rfl rfl ?_
            refine q_iload_n (t := 63) F dX9_lives_62 rfl rfl rfl ?_
            refine q_iload_n (t := 64) F dX9_lives_63 rfl rfl rfl ?_
            first | refine stN_38 (t := 65) F dX9_lives_64 (by omega) rfl ?_ | refine st_38 (t := 65) F dX9_lives_64 (by omega) (by omega) rfl ?_
            refine q_aload_n (t := 66) F dX9_lives_65 rfl rfl rfl ?_
            refine q_dupR (t := 67) F dX9_lives_66 rfl ?_
            refine g_X9_385 (t := 70) F dX9_lives_67 rfl rfl ?_
            try simp only [up_app, row_app, scr_app, cpy_app, Nat.reduceEqDiff, Int.reduceToNat, Int.toNat_natCast, and_true, true_and, and_false, false_and, and_self, reduceIte]
            refine q_aload_n (t := 71) F dX9_lives_70 rfl rfl rfl ?_
            refine g_X9_41 (t := 74) F dX9_lives_71 rfl rfl ?_
            refine q_iload_n (t := 75) F dX9_lives_74 rfl rfl rfl ?_
            first | refine ldN_39 (t := 76) F dX9_lives_75 (by omega) rfl ?_ | refine ld_39 (t := 76) F dX9_lives_75 (by omega) (by omega) rfl ?_
            try simp only [up_app, row_app, scr_app, cpy_app, Nat.reduceEqDiff, Int.reduceToNat, Int.toNat_natCast, and_true, true_and, and_false, false_and, and_self, reduceIte]
            refine q_iadd (t := 77) F dX9_lives_76 rfl ?_
            refine q_norm ?_
            refine p_X9_385 (t := 80) F dX9_lives_77 rfl rfl ?_
            refine q_aload_n (t := 81) F dX9_lives_80 rfl rfl rfl ?_
            have hB : agY (up (up (up im3 39 0 q x54) 38 0 q t) 30 0 9 (bm (im3 30 0 9 + x54))) (lvB P t q) := by
              unfold lvB
              exact ((hag3.up hx4).up rfl).up (by rw [hx4, hag3 30 0 9 (by omega)]; rfl)
            have h33 : im3 30 0 33 = lvB P t q 30 0 33 := hag3 30 0 33 (by omega)
            have e30 : bm (im3 30 0 30 + 1) = bm (P 30 0 30 + 1) := by rw [hag3 30 0 30 (by omega)]; rfl
            have e36 : im3 36 0 q = lvB P t q 36 0 q := by
              rw [hag3 36 0 q (by omega)]
              unfold lvB
              rw [up_app, if_neg (by omega), up_app, if_neg (by omega), up_app, if_neg (by omega)]
            refine g_X9_379 (t := 84) F dX9_lives_81 rfl rfl ?_
            try simp only [up_app, row_app, scr_app, cpy_app, Nat.reduceEqDiff, Int.reduceToNat, Int.toNat_natCast, and_true, true_and, and_false, false_and, and_self, reduceIte]
            refine q_iconst (t := 85) F dX9_lives_84 rfl ?_
            refine q_icmp_ne (t := 88) (u := 111) F dX9_lives_85 (by exact hR3 _ _ _) (by constructor <;> omega) (by decide) rfl (fun c85 => ?_) (fun c85 => ?_)
            · try (have z33 : lvB P t q 30 0 33 ≠ -1 := by omega)
              refine q_aload_n (t := 112) F dX9_lives_111 rfl rfl rfl ?_
              refine q_dupR (t := 113) F dX9_lives_112 rfl ?_
              refine g_X9_370 (t := 116) F dX9_lives_113 rfl rfl ?_
              try simp only [up_app, row_app, scr_app, cpy_app, Nat.reduceEqDiff, Int.reduceToNat, Int.toNat_natCast, and_true, true_and, and_false, false_and, and_self, reduceIte]
              refine q_iconst (t := 117) F dX9_lives_116 rfl ?_
              refine q_iadd (t := 118) F dX9_lives_117 rfl ?_
              refine q_norm ?_
              refine p_X9_370 (t := 121) F dX9_lives_118 rfl rfl ?_
              refine q_aload_n (t := 122) F dX9_lives_121 rfl rfl rfl ?_
              refine g_X9_32 (t := 125) F dX9_lives_122 rfl rfl ?_
              refine q_iload_n (t := 126) F dX9_lives_125 rfl rfl rfl ?_
              refine q_iconst (t := 127) F dX9_lives_126 rfl ?_
              first | refine stN_36 (t := 128) F dX9_lives_127 (by omega) rfl ?_ | refine st_36 (t := 128) F dX9_lives_127 (by omega) (by omega) rfl ?_
              refine q_iinc (t := 131) F dX9_lives_128 rfl (by decide) rfl rfl ?_
              refine q_goto (t := 2) F dX9_lives_131 (by decide) ?_
              rw [show (q : Int) + 1 = ((q + 1 : Nat) : Int) by omega]
              first
                | (exfalso; omega)
                | (refine ih2 (q + 1) S lg (by omega) ⟨by omega, hR, ?_, hlg⟩
                   rw [hs1]
                   unfold lv1
                   rw [if_pos (by rw [← hag 36 0 q (by omega)]; exact c20)]
                   exact hag)
                | (refine ih2 (q + 1) im2 lg2 (by omega) ⟨by omega, hR2, ?_, hlg2.trans hlg⟩
                   rw [hs1]
                   unfold lv1
                   rw [if_neg (by rw [← hag 36 0 q (by omega)]; exact w36), if_pos (by rw [← hx2, ← hag 37 0 q (by omega)]; omega)]
                   exact hag2)
                | (refine ih2 (q + 1) _ lg3 (by omega) ⟨by omega, ?_, ?_, hlg3.trans (hlg2.trans hlg)⟩
                   · (repeat' first | exact hR3 | refine RI_up ?_ ?_ | exact ri_b _ | assumption | exact hR3 _ _ _ | (constructor <;> omega))
                   · rw [hs1]
                     unfold lv1
                     rw [if_neg (by rw [← hag 36 0 q (by omega)]; exact w36), if_neg (by rw [← hx2, ← hag 37 0 q (by omega)]; omega)]
                     unfold lvC lvF
                     rw [if_pos (by exact z33)]
                     exact (((((hB.up e36).up rfl).up rfl).up e30).up rfl))
                | (refine ih2 (q + 1) _ lg3 (by omega) ⟨by omega, ?_, ?_, hlg3.trans (hlg2.trans hlg)⟩
                   · (repeat' first | exact hR3 | refine RI_up ?_ ?_ | exact ri_b _ | assumption | exact hR3 _ _ _ | (constructor <;> omega))
                   · rw [hs1]
                     unfold lv1
                     rw [if_neg (by rw [← hag 36 0 q (by omega)]; exact w36), if_neg (by rw [← hx2, ← hag 37 0 q (by omega)]; omega)]
                     unfold lvC lvF
                     rw [if_neg (by exact z33)]
                     exact ((hB.up e30).up rfl))
                | omega
            · have z33 : lvB P t q 30 0 33 = -1 := by omega
              refine q_aload_n (t := 89) F dX9_lives_88 rfl rfl rfl ?_
              refine q_aload_n (t := 90) F dX9_lives_89 rfl rfl rfl ?_
              refine g_X9_32 (t := 93) F dX9_lives_90 rfl rfl ?_
              refine q_iload_n (t := 94) F dX9_lives_93 rfl rfl rfl ?_
              first | refine ldN_36 (t := 95) F dX9_lives_94 (by omega) rfl ?_ | refine ld_36 (t := 95) F dX9_lives_94 (by omega) (by omega) rfl ?_
              try simp only [up_app, row_app, scr_app, cpy_app, Nat.reduceEqDiff, Int.reduceToNat, Int.toNat_natCast, and_true, true_and, and_false, false_and, and_self, reduceIte]
              refine p_X9_373 (t := 98) F dX9_lives_95 rfl rfl ?_
              refine q_aload_n (t := 99) F dX9_lives_98 rfl rfl rfl ?_
              refine q_iload_n (t := 100) F dX9_lives_99 rfl rfl rfl ?_
              refine q_bipush (t := 102) F dX9_lives_100 (by decide) rfl ?_
              refine q_idiv (t := 103) F dX9_lives_102 (by first | exact hR _ _ _ | (constructor <;> omega)) (by first | exact hR _ _ _ | (constructor <;> omega)) (by omega) (by omega) rfl ?_
              rw [show (q : Int) / 10 = ((q / 10 : Nat) : Int) by omega]
              refine p_X9_376 (t := 106) F dX9_lives_103 rfl rfl ?_
              refine q_aload_n (t := 107) F dX9_lives_106 rfl rfl rfl ?_
              refine q_iload_n (t := 108) F dX9_lives_107 rfl rfl rfl ?_
              refine p_X9_379 (t := 111) F dX9_lives_108 rfl rfl ?_
              try (have z33 : lvB P t q 30 0 33 ≠ -1 := by omega)
              refine q_aload_n (t := 112) F dX9_lives_111 rfl rfl rfl ?_
              refine q_dupR (t := 113) F dX9_lives_112 rfl ?_
              refine g_X9_370 (t := 116) F dX9_lives_113 rfl rfl ?_
              try simp only [up_app, row_app, scr_app, cpy_app, Nat.reduceEqDiff, Int.reduceToNat, Int.toNat_natCast, and_true, true_and, and_false, false_and, and_self, reduceIte]
              refine q_iconst (t := 117) F dX9_lives_116 rfl ?_
              refine q_iadd (t := 118) F dX9_lives_117 rfl ?_
              refine q_norm ?_
              refine p_X9_370 (t := 121) F dX9_lives_118 rfl rfl ?_
              refine q_aload_n (t := 122) F dX9_lives_121 rfl rfl rfl ?_
              refine g_X9_32 (t := 125) F dX9_lives_122 rfl rfl ?_
              refine q_iload_n (t := 126) F dX9_lives_125 rfl rfl rfl ?_
              refine q_iconst (t := 127) F dX9_lives_126 rfl ?_
              first | refine stN_36 (t := 128) F dX9_lives_127 (by omega) rfl ?_ | refine st_36 (t := 128) F dX9_lives_127 (by omega) (by omega) rfl ?_
              refine q_iinc (t := 131) F dX9_lives_128 rfl (by decide) rfl rfl ?_
              refine q_goto (t := 2) F dX9_lives_131 (by decide) ?_
              rw [show (q : Int) + 1 = ((q + 1 : Nat) : Int) by omega]
              first
                | (exfalso; omega)
                | (refine ih2 (q + 1) S lg (by omega) ⟨by omega, hR, ?_, hlg⟩
                   rw [hs1]
                   unfold lv1
                   rw [if_pos (by rw [← hag 36 0 q (by omega)]; exact c20)]
                   exact hag)
                | (refine ih2 (q + 1) im2 lg2 (by omega) ⟨by omega, hR2, ?_, hlg2.trans hlg⟩
                   rw [hs1]
                   unfold lv1
                   rw [if_neg (by rw [← hag 36 0 q (by omega)]; exact w36), if_pos (by rw [← hx2, ← hag 37 0 q (by omega)]; omega)]
                   exact hag2)
                | (refine ih2 (q + 1) _ lg3 (by omega) ⟨by omega, ?_, ?_, hlg3.trans (hlg2.trans hlg)⟩
                   · (repeat' first | exact hR3 | refine RI_up ?_ ?_ | exact ri_b _ | assumption | exact hR3 _ _ _ | (constructor <;> omega))
                   · rw [hs1]
                     unfold lv1
                     rw [if_neg (by rw [← hag 36 0 q (by omega)]; exact w36), if_neg (by rw [← hx2, ← hag 37 0 q (by omega)]; omega)]
                     unfold lvC lvF
                     rw [if_pos (by exact z33)]
                     exact (((((hB.up e36).up rfl).up rfl).up e30).up rfl))
                | (refine ih2 (q + 1) _ lg3 (by omega) ⟨by omega, ?_, ?_, hlg3.trans (hlg2.trans hlg)⟩
                   · (repeat' first | exact hR3 | refine RI_up ?_ ?_ | exact ri_b _ | assumption | exact hR3 _ _ _ | (constructor <;> omega))
                   · rw [hs1]
                     unfold lv1
                     rw [if_neg (by rw [← hag 36 0 q (by omega)]; exact w36), if_neg (by rw [← hx2, ← hag 37 0 q (by omega)]; omega)]
                     unfold lvC lvF
                     rw [if_neg (by exact z33)]
                     exact ((hB.up e30).up rfl))
                | omega
  have L0 := L2 _ 0 im lm (Nat.lt_succ_self _) ⟨by omega, hRi, agY_rfl im, lgQ_rfl lm⟩
  exact L0
end
section
/-! the reference: it begins, all is laid aside and back; live -/

/-- two rows laid over by two others -/
def cp2 (im : IM) (a b c d n : Nat) : IM := fun k i s => if k = a ∧ i = 0 ∧ s < n then im b 0 s else if k = c ∧ i = 0 ∧ s < n then im d 0 s else im k i s
theorem cp2_app (im : IM) (a b c d n k i s : Nat) : cp2 im a b c d n k i s = if k = a ∧ i = 0 ∧ s < n then im b 0 s else if k = c ∧ i = 0 ∧ s < n then im d 0 s else im k i s := rfl
theorem cp2_0 (im : IM) (a b c d : Nat) : cp2 im a b c d 0 = im := by
  funext k i s
  rw [cp2_app, if_neg (by omega), if_neg (by omega)]
theorem cp2_s (im : IM) {a b c d : Nat} (n : Nat) (h : a ≠ c) : up (up (cp2 im a b c d n) a 0 n (im b 0 n)) c 0 n (im d 0 n) = cp2 im a b c d (n + 1) := by
  funext k i s
  rw [up_app, up_app, cp2_app, cp2_app]
  by_cases hs : s = n
  · subst hs
    by_cases hi : i = 0
    · subst hi
      by_cases hc : k = c
      · subst hc
        rw [if_pos ⟨rfl, rfl, rfl⟩, if_neg (by omega), if_pos ⟨rfl, rfl, by omega⟩]
      · by_cases ha : k = a
        · subst ha
          rw [if_neg (by omega), if_pos ⟨rfl, rfl, rfl⟩, if_pos ⟨rfl, rfl, by omega⟩]
        · rw [if_neg (by omega), if_neg (by omega), if_neg (by omega), if_neg (by omega), if_neg (by omega), if_neg (by omega)]
    · rw [if_neg (by omega), if_neg (by omega), if_neg (by omega), if_neg (by omega), if_neg (by omega), if_neg (by omega)]
  · rw [if_neg (by omega), if_neg (by omega)]
    have e : (s < n + 1) = (s < n) := propext ⟨fun z => by omega, fun z => by omega⟩
    simp only [e]
theorem cp2_RI {im : IM} (h : RI im) (a b c d n : Nat) : RI (cp2 im a b c d n) := by
  intro k i s
  rw [cp2_app]
  (repeat' split) <;> exact h _ _ _
def bgI (im : IM) (n : Nat) : IM := fun k i s => if k = 38 ∧ i = 0 ∧ s < n then -1 else if k = 39 ∧ i = 0 ∧ s < n then 0 else if k = 30 ∧ i = 0 ∧ s = 30 then 0 else if k = 30 ∧ i = 0 ∧ (31 ≤ s ∧ s ≤ 33) then -1 else im k i s
theorem bgI_app (im : IM) (n k i s : Nat) : bgI im n k i s = if k = 38 ∧ i = 0 ∧ s < n then -1 else if k = 39 ∧ i = 0 ∧ s < n then 0 else if k = 30 ∧ i = 0 ∧ s = 30 then 0 else if k = 30 ∧ i = 0 ∧ (31 ≤ s ∧ s ≤ 33) then -1 else im k i s := rfl
theorem bgI_0 (im : IM) : up (up (up (up im 30 0 30 0) 30 0 31 (-1)) 30 0 32 (-1)) 30 0 33 (-1) = bgI im 0 := by
  funext k i s
  rw [up_app, up_app, up_app, up_app, bgI_app, if_neg (show ¬ (k = 38 ∧ i = 0 ∧ s < 0) by omega), if_neg (show ¬ (k = 39 ∧ i = 0 ∧ s < 0) by omega)]
  by_cases h : k = 30 ∧ i = 0 ∧ 30 ≤ s ∧ s ≤ 33
  · obtain ⟨rfl, rfl, h1, h2⟩ := h
    rcases (show s = 30 ∨ s = 31 ∨ s = 32 ∨ s = 33 by omega) with rfl | rfl | rfl | rfl <;> rfl
  · rw [if_neg (by omega), if_neg (by omega), if_neg (by omega), if_neg (by omega), if_neg (by omega), if_neg (by omega)]
theorem bgI_s (im : IM) (n : Nat) : up (up (bgI im n) 38 0 n (-1)) 39 0 n 0 = bgI im (n + 1) := by
  funext k i s
  rw [up_app, up_app, bgI_app, bgI_app]
  by_cases hs : s = n
  · subst hs
    by_cases hc : k = 39 ∧ i = 0
    · obtain ⟨rfl, rfl⟩ := hc
      rw [if_pos ⟨rfl, rfl, rfl⟩, if_neg (by omega), if_pos ⟨rfl, rfl, by omega⟩]
    · by_cases ha : k = 38 ∧ i = 0
      · obtain ⟨rfl, rfl⟩ := ha
        rw [if_neg (by omega), if_pos ⟨rfl, rfl, rfl⟩, if_pos ⟨rfl, rfl, by omega⟩]
      · rw [if_neg (by omega), if_neg (by omega), if_neg (show ¬ (k = 38 ∧ i = 0 ∧ s < s) by omega), if_neg (show ¬ (k = 39 ∧ i = 0 ∧ s < s) by omega), if_neg (show ¬ (k = 38 ∧ i = 0 ∧ s < s + 1) by omega), if_neg (show ¬ (k = 39 ∧ i = 0 ∧ s < s + 1) by omega)]
  · rw [if_neg (by omega), if_neg (by omega)]
    have e : (s < n + 1) = (s < n) := propext ⟨fun z => by omega, fun z => by omega⟩
    simp only [e]
theorem bgI_RI {im : IM} (h : RI im) (n : Nat) : RI (bgI im n) := by
  intro k i s
  rw [bgI_app]
  (repeat' split) <;> first | exact h _ _ _ | (constructor <;> omega)
theorem bgI_c {im : IM} (n : Nat) {k i s : Nat} (h : ¬ (k = 38 ∨ k = 39)) (h2 : ¬ (k = 30 ∧ 30 ≤ s ∧ s ≤ 33)) : bgI im n k i s = im k i s := by
  rw [bgI_app, if_neg (by omega), if_neg (by omega), if_neg (by omega), if_neg (by omega)]

set_option maxHeartbeats 4000000 in
theorem g_X9_begins (l : Launch) (G : GS) (im : IM) (bt rt : Nat) (lm : IM) (hR : RI im) : Cn l (XR G) yX9_begins Y_X9_begins [vR 30 0] (im, rs bt rt, lm) (pV fun m' => m' = (bgI im 50, rs bt rt, lm)) := by
  refine cn_of (by decide) (okR G) rfl (Nat.le_of_ble_eq_true rfl) ?_
  intro M ad hMl F
  subst hMl
  refine wp_pad 1 ?_
  show Wp M (XR G) ad Y_X9_begins (pV fun m' => m' = (bgI im 50, rs bt rt, lm)) 0 [some (vR 30 0), none] [] (im, rs bt rt, lm)
  refine q_aload_n (t := 1) F dX9_begins_0 rfl rfl rfl ?_
  refine q_iconst (t := 2) F dX9_begins_1 rfl ?_
  refine p_X9_370 (t := 5) F dX9_begins_2 rfl rfl ?_
  refine q_aload_n (t := 6) F dX9_begins_5 rfl rfl rfl ?_
  refine q_iconst (t := 7) F dX9_begins_6 rfl ?_
  refine p_X9_373 (t := 10) F dX9_begins_7 rfl rfl ?_
  refine q_aload_n (t := 11) F dX9_begins_10 rfl rfl rfl ?_
  refine q_iconst (t := 12) F dX9_begins_11 rfl ?_
  refine p_X9_376 (t := 15) F dX9_begins_12 rfl rfl ?_
  refine q_aload_n (t := 16) F dX9_begins_15 rfl rfl rfl ?_
  refine q_iconst (t := 17) F dX9_begins_16 rfl ?_
  refine p_X9_379 (t := 20) F dX9_begins_17 rfl rfl ?_
  refine q_iconst (t := 21) F dX9_begins_20 rfl ?_
  refine q_istore_n (t := 22) F dX9_begins_21 rfl (by decide) rfl rfl ?_
  have L22 : ∀ (fz : Nat) (n : Nat), 50 - n < fz → n ≤ 50 → Wp M (XR G) ad Y_X9_begins (pV fun m' => m' = (bgI im 50, rs bt rt, lm)) 22 [some (vR 30 0), some (vI (n : Int))] [] (bgI im n, rs bt rt, lm) := by
    intro fz
    induction fz with
    | zero => intro n h; exact absurd h (Nat.not_lt_zero _)
    | succ fz ih =>
      have ih22 := ih
      intro n hmeas hn
      refine q_iload_n (t := 23) F dX9_begins_22 rfl rfl rfl ?_
      refine q_bipush (t := 25) F dX9_begins_23 (by decide) rfl ?_
      refine q_icmp_ge (t := 28) (u := 48) F dX9_begins_25 (by constructor <;> omega) (by constructor <;> omega) (by decide) rfl (fun c25 => ?_) (fun c25 => ?_)
      · refine q_vret F dX9_begins_48 rfl ?_
        obtain rfl : n = 50 := by omega
        exact ⟨rfl, rfl⟩
      · refine q_aload_n (t := 29) F dX9_begins_28 rfl rfl rfl ?_
        refine g_X9_38 (t := 32) F dX9_begins_29 rfl rfl ?_
        refine q_iload_n (t := 33) F dX9_begins_32 rfl rfl rfl ?_
        refine q_iconst (t := 34) F dX9_begins_33 rfl ?_
        first | refine stN_38 (t := 35) F dX9_begins_34 (by omega) rfl ?_ | refine st_38 (t := 35) F dX9_begins_34 (by omega) (by omega) rfl ?_
        refine q_aload_n (t := 36) F dX9_begins_35 rfl rfl rfl ?_
        refine g_X9_41 (t := 39) F dX9_begins_36 rfl rfl ?_
        refine q_iload_n (t := 40) F dX9_begins_39 rfl rfl rfl ?_
        refine q_iconst (t := 41) F dX9_begins_40 rfl ?_
        first | refine stN_39 (t := 42) F dX9_begins_41 (by omega) rfl ?_ | refine st_39 (t := 42) F dX9_begins_41 (by omega) (by omega) rfl ?_
        refine q_iinc (t := 45) F dX9_begins_42 rfl (by decide) rfl rfl ?_
        refine q_goto (t := 22) F dX9_begins_45 (by decide) ?_
        rw [show (n : Int) + 1 = ((n + 1 : Nat) : Int) by omega, bgI_s]
        exact ih22 (n + 1) (by omega) (by omega)
  have L0 := L22 _ 0 (Nat.lt_succ_self _) (Nat.zero_le _)
  rw [← bgI_0] at L0
  exact L0

def asideI (im : IM) : IM := (bgI (up (up (cp2 im 40 36 41 37 50) 30 0 38 (im 30 0 7)) 30 0 39 (im 30 0 9)) 50)
set_option maxHeartbeats 4000000 in
theorem g_X9_laysAside (l : Launch) (G : GS) (im : IM) (bt rt : Nat) (lm : IM) (hR : RI im) : Cn l (XR G) yX9_laysAside Y_X9_laysAside [vR 30 0] (im, rs bt rt, lm) (pV fun m' => m' = (asideI im, rs bt rt, lm)) := by
  refine cn_of (by decide) (okR G) rfl (Nat.le_of_ble_eq_true rfl) ?_
  intro M ad hMl F
  subst hMl
  refine wp_pad 1 ?_
  show Wp M (XR G) ad Y_X9_laysAside (pV fun m' => m' = (asideI im, rs bt rt, lm)) 0 [some (vR 30 0), none] [] (im, rs bt rt, lm)
  refine q_iconst (t := 1) F dX9_laysAside_0 rfl ?_
  refine q_istore_n (t := 2) F dX9_laysAside_1 rfl (by decide) rfl rfl ?_
  have L2 : ∀ (fz : Nat) (n : Nat), 50 - n < fz → n ≤ 50 → Wp M (XR G) ad Y_X9_laysAside (pV fun m' => m' = (asideI im, rs bt rt, lm)) 2 [some (vR 30 0), some (vI (n : Int))] [] (cp2 im 40 36 41 37 n, rs bt rt, lm) := by
    intro fz
    induction fz with
    | zero => intro n h; exact absurd h (Nat.not_lt_zero _)
    | succ fz ih =>
      have ih2 := ih
      intro n hmeas hn
      have c36 : cp2 im 40 36 41 37 n 36 0 n = im 36 0 n := rfl
      have c37 : cp2 im 40 36 41 37 n 37 0 n = im 37 0 n := rfl
      have c7 : cp2 im 40 36 41 37 n 30 0 7 = im 30 0 7 := rfl
      have c9 : cp2 im 40 36 41 37 n 30 0 9 = im 30 0 9 := rfl
      refine q_iload_n (t := 3) F dX9_laysAside_2 rfl rfl rfl ?_
      refine q_bipush (t := 5) F dX9_laysAside_3 (by decide) rfl ?_
      refine q_icmp_ge (t := 8) (u := 38) F dX9_laysAside_5 (by constructor <;> omega) (by constructor <;> omega) (by decide) rfl (fun c5 => ?_) (fun c5 => ?_)
      · refine q_aload_n (t := 39) F dX9_laysAside_38 rfl rfl rfl ?_
        refine q_aload_n (t := 40) F dX9_laysAside_39 rfl rfl rfl ?_
        refine g_X9_117 (t := 43) F dX9_laysAside_40 rfl rfl ?_
        rw [c7]
        refine p_X9_395 (t := 46) F dX9_laysAside_43 rfl rfl ?_
        refine q_aload_n (t := 47) F dX9_laysAside_46 rfl rfl rfl ?_
        refine q_aload_n (t := 48) F dX9_laysAside_47 rfl rfl rfl ?_
        refine g_X9_385 (t := 51) F dX9_laysAside_48 rfl rfl ?_
        try simp only [up_app, row_app, scr_app, cpy_app, Nat.reduceEqDiff, Int.reduceToNat, Int.toNat_natCast, and_true, true_and, and_false, false_and, and_self, reduceIte]
        rw [c9]
        refine p_X9_398 (t := 54) F dX9_laysAside_51 rfl rfl ?_
        refine q_aload_n (t := 55) F dX9_laysAside_54 rfl rfl rfl ?_
        refine wp_callV (t := 58) [] F dX9_laysAside_55 k_X9_begins v_X9_begins ml_X9_388 rfl rfl rfl rfl (Nat.le_of_ble_eq_true rfl) (by decide) (m_30 (by omega)) (g_X9_begins _ G _ bt rt lm (RI_up (RI_up (cp2_RI hR 40 36 41 37 n) (hR 30 0 7)) (hR 30 0 9))) rfl (kV ?_)
        rintro m' rfl
        refine q_vret F dX9_laysAside_58 rfl ?_
        obtain rfl : n = 50 := by omega
        exact ⟨rfl, rfl⟩
      · refine q_aload_n (t := 9) F dX9_laysAside_8 rfl rfl rfl ?_
        refine g_X9_44 (t := 12) F dX9_laysAside_9 rfl rfl ?_
        refine q_iload_n (t := 13) F dX9_laysAside_12 rfl rfl rfl ?_
        refine q_aload_n (t := 14) F dX9_laysAside_13 rfl rfl rfl ?_
        refine g_X9_32 (t := 17) F dX9_laysAside_14 rfl rfl ?_
        refine q_iload_n (t := 18) F dX9_laysAside_17 rfl rfl rfl ?_
        first | refine ldN_36 (t := 19) F dX9_laysAside_18 (by omega) rfl ?_ | refine ld_36 (t := 19) F dX9_laysAside_18 (by omega) (by omega) rfl ?_
        rw [c36]
        first | refine stN_40 (t := 20) F dX9_laysAside_19 (by omega) rfl ?_ | refine st_40 (t := 20) F dX9_laysAside_19 (by omega) (by omega) rfl ?_
        refine q_aload_n (t := 21) F dX9_laysAside_20 rfl rfl rfl ?_
        refine g_X9_47 (t := 24) F dX9_laysAside_21 rfl rfl ?_
        refine q_iload_n (t := 25) F dX9_laysAside_24 rfl rfl rfl ?_
        refine q_aload_n (t := 26) F dX9_laysAside_25 rfl rfl rfl ?_
        refine g_X9_35 (t := 29) F dX9_laysAside_26 rfl rfl ?_
        refine q_iload_n (t := 30) F dX9_laysAside_29 rfl rfl rfl ?_
        first | refine ldN_37 (t := 31) F dX9_laysAside_30 (by omega) rfl ?_ | refine ld_37 (t := 31) F dX9_laysAside_30 (by omega) (by omega) rfl ?_
        try simp only [up_app, row_app, scr_app, cpy_app, Nat.reduceEqDiff, Int.reduceToNat, Int.toNat_natCast, and_true, true_and, and_false, false_and, and_self, reduceIte]
        rw [c37]
        first | refine stN_41 (t := 32) F dX9_laysAside_31 (by omega) rfl ?_ | refine st_41 (t := 32) F dX9_laysAside_31 (by omega) (by omega) rfl ?_
        refine q_iinc (t := 35) F dX9_laysAside_32 rfl (by decide) rfl rfl ?_
        refine q_goto (t := 2) F dX9_laysAside_35 (by decide) ?_
        rw [show (n : Int) + 1 = ((n + 1 : Nat) : Int) by omega, cp2_s im n (by omega)]
        exact ih2 (n + 1) (by omega) (by omega)
  have L0 := L2 _ 0 (Nat.lt_succ_self _) (Nat.zero_le _)
  rw [cp2_0] at L0
  exact L0

def backI (im : IM) : IM := up (up (up (cp2 im 36 40 37 41 50) 30 0 40 (bm (im 30 0 9 - im 30 0 39))) 30 0 7 (im 30 0 38)) 30 0 9 (im 30 0 39)
set_option maxHeartbeats 4000000 in
theorem g_X9_laysBack (l : Launch) (G : GS) (im : IM) (bt rt : Nat) (lm : IM) (hR : RI im) : Cn l (XR G) yX9_laysBack Y_X9_laysBack [vR 30 0] (im, rs bt rt, lm) (pV fun m' => m' = (backI im, rs bt rt, lm)) := by
  refine cn_of (by decide) (okR G) rfl (Nat.le_of_ble_eq_true rfl) ?_
  intro M ad hMl F
  subst hMl
  refine wp_pad 1 ?_
  show Wp M (XR G) ad Y_X9_laysBack (pV fun m' => m' = (backI im, rs bt rt, lm)) 0 [some (vR 30 0), none] [] (im, rs bt rt, lm)
  refine q_iconst (t := 1) F dX9_laysBack_0 rfl ?_
  refine q_istore_n (t := 2) F dX9_laysBack_1 rfl (by decide) rfl rfl ?_
  have L2 : ∀ (fz : Nat) (n : Nat), 50 - n < fz → n ≤ 50 → Wp M (XR G) ad Y_X9_laysBack (pV fun m' => m' = (backI im, rs bt rt, lm)) 2 [some (vR 30 0), some (vI (n : Int))] [] (cp2 im 36 40 37 41 n, rs bt rt, lm) := by
    intro fz
    induction fz with
    | zero => intro n h; exact absurd h (Nat.not_lt_zero _)
    | succ fz ih =>
      have ih2 := ih
      intro n hmeas hn
      have c40 : cp2 im 36 40 37 41 n 40 0 n = im 40 0 n := rfl
      have c41 : cp2 im 36 40 37 41 n 41 0 n = im 41 0 n := rfl
      have c9 : cp2 im 36 40 37 41 n 30 0 9 = im 30 0 9 := rfl
      have c39 : cp2 im 36 40 37 41 n 30 0 39 = im 30 0 39 := rfl
      have c38 : cp2 im 36 40 37 41 n 30 0 38 = im 30 0 38 := rfl
      refine q_iload_n (t := 3) F dX9_laysBack_2 rfl rfl rfl ?_
      refine q_bipush (t := 5) F dX9_laysBack_3 (by decide) rfl ?_
      refine q_icmp_ge (t := 8) (u := 38) F dX9_laysBack_5 (by constructor <;> omega) (by constructor <;> omega) (by decide) rfl (fun c5 => ?_) (fun c5 => ?_)
      · refine q_aload_n (t := 39) F dX9_laysBack_38 rfl rfl rfl ?_
        refine q_aload_n (t := 40) F dX9_laysBack_39 rfl rfl rfl ?_
        refine g_X9_385 (t := 43) F dX9_laysBack_40 rfl rfl ?_
        rw [c9]
        refine q_aload_n (t := 44) F dX9_laysBack_43 rfl rfl rfl ?_
        refine g_X9_398 (t := 47) F dX9_laysBack_44 rfl rfl ?_
        rw [c39]
        refine q_isub (t := 48) F dX9_laysBack_47 rfl ?_
        refine q_norm ?_
        refine p_X9_401 (t := 51) F dX9_laysBack_48 rfl rfl ?_
        refine q_aload_n (t := 52) F dX9_laysBack_51 rfl rfl rfl ?_
        refine q_aload_n (t := 53) F dX9_laysBack_52 rfl rfl rfl ?_
        refine g_X9_395 (t := 56) F dX9_laysBack_53 rfl rfl ?_
        try simp only [up_app, row_app, scr_app, cpy_app, Nat.reduceEqDiff, Int.reduceToNat, Int.toNat_natCast, and_true, true_and, and_false, false_and, and_self, reduceIte]
        rw [c38]
        refine p_X9_117 (t := 59) F dX9_laysBack_56 rfl rfl ?_
        refine q_aload_n (t := 60) F dX9_laysBack_59 rfl rfl rfl ?_
        refine q_aload_n (t := 61) F dX9_laysBack_60 rfl rfl rfl ?_
        refine g_X9_398 (t := 64) F dX9_laysBack_61 rfl rfl ?_
        try simp only [up_app, row_app, scr_app, cpy_app, Nat.reduceEqDiff, Int.reduceToNat, Int.toNat_natCast, and_true, true_and, and_false, false_and, and_self, reduceIte]
        rw [c39]
        refine p_X9_385 (t := 67) F dX9_laysBack_64 rfl rfl ?_
        refine q_vret F dX9_laysBack_67 rfl ?_
        obtain rfl : n = 50 := by omega
        exact ⟨rfl, rfl⟩
      · refine q_aload_n (t := 9) F dX9_laysBack_8 rfl rfl rfl ?_
        refine g_X9_32 (t := 12) F dX9_laysBack_9 rfl rfl ?_
        refine q_iload_n (t := 13) F dX9_laysBack_12 rfl rfl rfl ?_
        refine q_aload_n (t := 14) F dX9_laysBack_13 rfl rfl rfl ?_
        refine g_X9_44 (t := 17) F dX9_laysBack_14 rfl rfl ?_
        refine q_iload_n (t := 18) F dX9_laysBack_17 rfl rfl rfl ?_
        first | refine ldN_40 (t := 19) F dX9_laysBack_18 (by omega) rfl ?_ | refine ld_40 (t := 19) F dX9_laysBack_18 (by omega) (by omega) rfl ?_
        rw [c40]
        first | refine stN_36 (t := 20) F dX9_laysBack_19 (by omega) rfl ?_ | refine st_36 (t := 20) F dX9_laysBack_19 (by omega) (by omega) rfl ?_
        refine q_aload_n (t := 21) F dX9_laysBack_20 rfl rfl rfl ?_
        refine g_X9_35 (t := 24) F dX9_laysBack_21 rfl rfl ?_
        refine q_iload_n (t := 25) F dX9_laysBack_24 rfl rfl rfl ?_
        refine q_aload_n (t := 26) F dX9_laysBack_25 rfl rfl rfl ?_
        refine g_X9_47 (t := 29) F dX9_laysBack_26 rfl rfl ?_
        refine q_iload_n (t := 30) F dX9_laysBack_29 rfl rfl rfl ?_
        first | refine ldN_41 (t := 31) F dX9_laysBack_30 (by omega) rfl ?_ | refine ld_41 (t := 31) F dX9_laysBack_30 (by omega) (by omega) rfl ?_
        try simp only [up_app, row_app, scr_app, cpy_app, Nat.reduceEqDiff, Int.reduceToNat, Int.toNat_natCast, and_true, true_and, and_false, false_and, and_self, reduceIte]
        rw [c41]
        first | refine stN_37 (t := 32) F dX9_laysBack_31 (by omega) rfl ?_ | refine st_37 (t := 32) F dX9_laysBack_31 (by omega) (by omega) rfl ?_
        refine q_iinc (t := 35) F dX9_laysBack_32 rfl (by decide) rfl rfl ?_
        refine q_goto (t := 2) F dX9_laysBack_35 (by decide) ?_
        rw [show (n : Int) + 1 = ((n + 1 : Nat) : Int) by omega, cp2_s im n (by omega)]
        exact ih2 (n + 1) (by omega) (by omega)
  have L0 := L2 _ 0 (Nat.lt_succ_self _) (Nat.zero_le _)
  rw [cp2_0] at L0
  exact L0

/-- what RC looks at -/
def agC (a b : IM) : Prop := (∀ k s, 31 ≤ k → k ≤ 37 → a k 0 s = b k 0 s) ∧ a 30 0 3 = b 30 0 3 ∧ a 30 0 4 = b 30 0 4 ∧ a 30 0 6 = b 30 0 6 ∧ a 30 0 8 = b 30 0 8 ∧ a 30 0 12 = b 30 0 12
theorem RC.C {a b : IM} (h : RC b) (hR : RI a) (hc : agC a b) (h7 : 0 ≤ a 30 0 7 ∧ a 30 0 7 ≤ 1100) : RC a := by
  obtain ⟨-, hX, h4, h12, -, h8, hP⟩ := h
  obtain ⟨c, e3, e4, e6, e8, e12⟩ := hc
  refine ⟨hR, hX.same (fun s => c 31 s (by omega) (by omega)) (fun s => c 32 s (by omega) (by omega)) (fun s => c 33 s (by omega) (by omega)) e3 e6, by rw [e4, e3]; exact h4, by rw [e12]; exact h12, h7, by rw [e8]; exact h8, fun p hp => ?_⟩
  rw [e12] at hp
  have hp0 := hP p hp
  unfold RP at hp0 ⊢
  rw [c 34 p (by omega) (by omega), c 35 p (by omega) (by omega)]
  refine ⟨hp0.1, hp0.2.1, fun g hg => ?_⟩
  rw [c 36 _ (by omega) (by omega), c 37 _ (by omega) (by omega)]
  exact hp0.2.2 g hg
theorem AG.C {a b : IM} {x : Int} (h : AG b x) (hc : agC a b) : AG a x := by
  intro q hq hne
  obtain ⟨c, e3, e4, e6, e8, e12⟩ := hc
  rw [e12] at hq
  rw [c 36 _ (by omega) (by omega)] at hne
  rw [c 37 _ (by omega) (by omega)]
  exact h q hq hne
theorem bgI_C (im : IM) (n : Nat) : agC (bgI im n) im := ⟨fun k s h1 h2 => bgI_c n (by omega) (by omega), bgI_c n (by omega) (by omega), bgI_c n (by omega) (by omega), bgI_c n (by omega) (by omega), bgI_c n (by omega) (by omega), bgI_c n (by omega) (by omega)⟩
theorem AG.mono {im : IM} {x y : Int} (h : AG im x) (hxy : x ≤ y) : AG im y := fun q hq hn => Int.le_trans (h q hq hn) hxy

set_option maxHeartbeats 4000000 in
theorem c_X9_live (l : Launch) (G : GS) (im : IM) (bt rt : Nat) (lm : IM) (h : RC im) (hA : AG im 1000) : Cn l (XR G) yX9_live Y_X9_live [vR 30 0] (im, rs bt rt, lm) (pI fun x m' => (im 30 0 7 = 999 → x = -3 ∧ m' = (im, rs bt rt, lm)) ∧ (im 30 0 7 ≠ 999 → ∃ im' lm', x = cnI (bgI im 50) (10 * im 30 0 12).toNat ∧ RI im' ∧ agY im' (up (lvN (bgI im 50) 0 (10 * im 30 0 12).toNat) 30 0 7 (im 30 0 7 + 1)) ∧ lgQ lm' lm ∧ m' = (im', rs bt rt, lm'))) := by
  refine cn_of (by decide) (okR G) rfl (Nat.le_of_ble_eq_true rfl) ?_
  intro M ad hMl F
  subst hMl
  have hR := h.1
  have hRb := bgI_RI hR 50
  have hRCb : RC (bgI im 50) := h.C hRb (bgI_C im 50) h.2.2.2.2.1
  have hAb : AG (bgI im 50) 1000 := hA.C (bgI_C im 50)
  have b12 : bgI im 50 30 0 12 = im 30 0 12 := rfl
  have b7 : bgI im 50 30 0 7 = im 30 0 7 := rfl
  refine wp_pad 0 ?_
  show Wp M (XR G) ad Y_X9_live (pI fun x m' => (im 30 0 7 = 999 → x = -3 ∧ m' = (im, rs bt rt, lm)) ∧ (im 30 0 7 ≠ 999 → ∃ im' lm', x = cnI (bgI im 50) (10 * im 30 0 12).toNat ∧ RI im' ∧ agY im' (up (lvN (bgI im 50) 0 (10 * im 30 0 12).toNat) 30 0 7 (im 30 0 7 + 1)) ∧ lgQ lm' lm ∧ m' = (im', rs bt rt, lm'))) 0 [some (vR 30 0)] [] (im, rs bt rt, lm)
  refine q_aload_n (t := 1) F dX9_live_0 rfl rfl rfl ?_
  refine g_X9_117 (t := 4) F dX9_live_1 rfl rfl ?_
  refine q_sipush (t := 7) F dX9_live_4 (by decide) rfl ?_
  refine q_icmp_ne (t := 10) (u := 13) F dX9_live_7 (by exact hR _ _ _) (by constructor <;> omega) (by decide) rfl (fun c7 => ?_) (fun c7 => ?_)
  · refine q_aload_n (t := 14) F dX9_live_13 rfl rfl rfl ?_
    refine wp_callV (t := 17) [] F dX9_live_14 k_X9_begins v_X9_begins ml_X9_388 rfl rfl rfl rfl (Nat.le_of_ble_eq_true rfl) (by decide) (m_30 (by omega)) (g_X9_begins _ G im bt rt lm hR) rfl (kV ?_)
    rintro m' rfl
    refine q_aload_n (t := 18) F dX9_live_17 rfl rfl rfl ?_
    refine q_iconst (t := 19) F dX9_live_18 rfl ?_
    refine wp_callV (t := 22) [_] F dX9_live_19 k_X9_lives v_X9_lives ml_X9_391 rfl rfl rfl rfl (Nat.le_of_ble_eq_true rfl) (by decide) (m_30 (by omega)) (c_X9_lives _ G (bgI im 50) bt rt lm hRCb hAb 0 (by constructor <;> omega) (by omega)) rfl (kV ?_)
    rintro m' ⟨im2, lm2, hR2, hag2, hlg2, rfl⟩
    have hL := LV_N (bgI im 50) (t := 0) (by omega) (10 * im 30 0 12).toNat
    refine q_aload_n (t := 23) F dX9_live_22 rfl rfl rfl ?_
    refine g_X9_370 (t := 26) F dX9_live_23 rfl rfl ?_
    try simp only [up_app, row_app, scr_app, cpy_app, Nat.reduceEqDiff, Int.reduceToNat, Int.toNat_natCast, and_true, true_and, and_false, false_and, and_self, reduceIte]
    refine q_iret F dX9_live_26 rfl ?_
    first
      | exact ⟨_, rfl, fun _ => ⟨rfl, rfl⟩, fun z => absurd (by omega) z⟩
      | (refine ⟨_, rfl, fun z => absurd z (by omega), fun _ => ⟨im2, lm2, ?_, hR2, hag2, hlg2, rfl⟩⟩
         rw [hag2 30 0 30 (by omega), up_app, if_neg (by omega)]
         exact hL.2.2.2.2.1)
  · refine q_bipush (t := 12) F dX9_live_10 (by decide) rfl ?_
    refine q_iret F dX9_live_12 rfl ?_
    first
      | exact ⟨_, rfl, fun _ => ⟨rfl, rfl⟩, fun z => absurd (by omega) z⟩
      | (refine ⟨_, rfl, fun z => absurd z (by omega), fun _ => ⟨im2, lm2, ?_, hR2, hag2, hlg2, rfl⟩⟩
         rw [hag2 30 0 30 (by omega), up_app, if_neg (by omega)]
         exact hL.2.2.2.2.1)
end
