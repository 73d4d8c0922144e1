/-! THE REFERENCE READS: its tokens -/
/-- the letters that it reads -/
def BRr (b : Nat → Int) (n : Nat) (im : IM) : Prop := im 30 0 22 = n ∧ ∃ t : Nat, t < 6 ∧ im 30 0 21 = ((160 * t : Nat) : Int) ∧ ∀ i, i < 160 → im 31 0 (160 * t + i) = b i
theorem BRr_ag {b : Nat → Int} {n : Nat} {im im' : IM} (h : BRr b n im) (h22 : im' 30 0 22 = im 30 0 22) (h21 : im' 30 0 21 = im 30 0 21) (h31 : ∀ s, im' 31 0 s = im 31 0 s) : BRr b n im' := by
  obtain ⟨e, t, ht, e2, e3⟩ := h
  exact ⟨h22.trans e, t, ht, h21.trans e2, fun i hi => (h31 _).trans (e3 i hi)⟩
theorem BRr_up {b : Nat → Int} {n s : Nat} {x : Int} {im : IM} (h : BRr b n im) (h1 : s ≠ 21) (h2 : s ≠ 22) : BRr b n (up im 30 0 s x) := BRr_ag h (by rw [up_app, if_neg (by omega)]) (by rw [up_app, if_neg (by omega)]) (fun s' => by rw [up_app, if_neg (by omega)])
/-- its token at a place -/
def TKr (b : Nat → Int) (n : Nat) (im lm : IM) (p : Nat) : Prop := (n ≤ p → im 30 0 24 = 0) ∧ (p < n → isL (b p) = true → im 30 0 24 = 1 ∧ im 30 0 23 = span isL b n p) ∧ (p < n → ¬ isL (b p) = true → isD (b p) = true → im 30 0 23 = span isD b n p ∧ (im 30 0 24 = if 4 < span isD b n p - p then 4 else 2) ∧ (span isD b n p - p ≤ 4 → lm 30 0 26 = numF b p (span isD b n p - p))) ∧ (p < n → ¬ isL (b p) = true → ¬ isD (b p) = true → (sgn (b p) → im 30 0 24 = 3 ∧ lm 30 0 26 = b p ∧ im 30 0 23 = (p : Int) + 1) ∧ (¬ sgn (b p) → im 30 0 24 = 4))
def agN (a b : IM) : Prop := ∀ k i s, ¬ (k = 30 ∧ 23 ≤ s ∧ s ≤ 25) → a k i s = b k i s
theorem agN_rfl (a : IM) : agN a a := fun _ _ _ _ => rfl
theorem agN_up {a b : IM} {s : Nat} {x : Int} (h : agN a b) (h1 : 23 ≤ s) (h2 : s ≤ 25) : agN (up a 30 0 s x) b := fun k i s' hs => by rw [up_app, if_neg (by omega)]; exact h k i s' hs
theorem BRr_agN {b : Nat → Int} {n : Nat} {im im' : IM} (h : BRr b n im) (ha : agN im' im) : BRr b n im' := BRr_ag h (ha 30 0 22 (by omega)) (ha 30 0 21 (by omega)) (fun s => ha 31 0 s (by omega))

set_option maxHeartbeats 4000000 in
theorem c_X9_byteAt (l : Launch) (G : GS) (im : IM) (bt rt : Nat) (lm : IM) (b : Nat → Int) (n : Nat) (hb : byt b n) (hR : RI im) (hB : BRr b n im) (i : Nat) (hi : i ≤ 160) : Cn l (XR G) yX9_byteAt Y_X9_byteAt [vR 30 0, vI (i : Int)] (im, rs bt rt, lm) (pI fun x m' => (i < n ∧ x = b i ∨ n ≤ i ∧ x = -1) ∧ m' = (im, rs bt rt, lm)) := by
  refine cn_of (by decide) (okR G) rfl (Nat.le_of_ble_eq_true rfl) ?_
  intro M ad hMl F
  subst hMl
  obtain ⟨e22, t, ht, e21, e31⟩ := hB
  have hn := hb.1
  refine wp_pad 0 ?_
  show Wp M (XR G) ad Y_X9_byteAt (pI fun x m' => (i < n ∧ x = b i ∨ n ≤ i ∧ x = -1) ∧ m' = (im, rs bt rt, lm)) 0 [some (vR 30 0), some (vI (i : Int))] [] (im, rs bt rt, lm)
  refine q_iload_n (t := 1) F dX9_byteAt_0 rfl rfl rfl ?_
  refine q_aload_n (t := 2) F dX9_byteAt_1 rfl rfl rfl ?_
  refine g_X9_149 (t := 5) F dX9_byteAt_2 rfl rfl ?_
  refine q_icmp_ge (t := 8) (u := 22) F dX9_byteAt_5 (by constructor <;> omega) (by exact hR _ _ _) (by decide) rfl (fun c5 => ?_) (fun c5 => ?_)
  · refine q_iconst (t := 23) F dX9_byteAt_22 rfl ?_
    refine q_iret F dX9_byteAt_23 rfl ?_
    first
      | exact ⟨_, rfl, Or.inl ⟨by omega, rfl⟩, rfl⟩
      | exact ⟨_, rfl, Or.inr ⟨by omega, rfl⟩, rfl⟩
  · refine q_aload_n (t := 9) F dX9_byteAt_8 rfl rfl rfl ?_
    refine g_X9_13 (t := 12) F dX9_byteAt_9 rfl rfl ?_
    refine q_aload_n (t := 13) F dX9_byteAt_12 rfl rfl rfl ?_
    refine g_X9_152 (t := 16) F dX9_byteAt_13 rfl rfl ?_
    refine q_iload_n (t := 17) F dX9_byteAt_16 rfl rfl rfl ?_
    refine q_iadd (t := 18) F dX9_byteAt_17 rfl ?_
    rw [e21, show ((160 * t : Nat) : Int) + (i : Int) = ((160 * t + i : Nat) : Int) by omega]
    first | refine ldN_31 (t := 19) F dX9_byteAt_18 (by omega) rfl ?_ | refine ld_31 (t := 19) F dX9_byteAt_18 (by omega) (by omega) rfl ?_
    rw [e31 i (by omega)]
    refine q_goto (t := 23) F dX9_byteAt_19 (by decide) ?_
    refine q_iret F dX9_byteAt_23 rfl ?_
    first
      | exact ⟨_, rfl, Or.inl ⟨by omega, rfl⟩, rfl⟩
      | exact ⟨_, rfl, Or.inr ⟨by omega, rfl⟩, rfl⟩

set_option maxHeartbeats 4000000 in
theorem c_X9_next (l : Launch) (G : GS) (im : IM) (bt rt : Nat) (lm : IM) (b : Nat → Int) (n : Nat) (hb : byt b n) (hR : RI im) (hB : BRr b n im) (q : Nat) (hq : q ≤ n) (h23 : im 30 0 23 = q) : Cn l (XR G) yX9_next Y_X9_next [vR 30 0] (im, rs bt rt, lm) (pV fun m' => ∃ im' lm', RI im' ∧ TKr b n im' lm' (span isW b n q) ∧ im' 30 0 25 = span isW b n q ∧ agN im' im ∧ (∀ k i s, ¬ (k = 30 ∧ s = 26) → lm' k i s = lm k i s) ∧ m' = (im', rs bt rt, lm')) := by
  refine cn_of (by decide) (okR G) rfl (Nat.le_of_ble_eq_true rfl) ?_
  intro M ad hMl F
  subst hMl
  have hn := hb.1
  refine wp_pad 2 ?_
  show Wp M (XR G) ad Y_X9_next (pV fun m' => ∃ im' lm', RI im' ∧ TKr b n im' lm' (span isW b n q) ∧ im' 30 0 25 = span isW b n q ∧ agN im' im ∧ (∀ k i s, ¬ (k = 30 ∧ s = 26) → lm' k i s = lm k i s) ∧ m' = (im', rs bt rt, lm')) 0 [some (vR 30 0), none, none] [] (im, rs bt rt, lm)
  have L0 : ∀ (fz : Nat) (p : Nat) (im1 : IM), n - p < fz → q ≤ p → p ≤ n → RI im1 → agN im1 im → im1 30 0 23 = p → span isW b n q = span isW b n p → Wp M (XR G) ad Y_X9_next (pV fun m' => ∃ im' lm', RI im' ∧ TKr b n im' lm' (span isW b n q) ∧ im' 30 0 25 = span isW b n q ∧ agN im' im ∧ (∀ k i s, ¬ (k = 30 ∧ s = 26) → lm' k i s = lm k i s) ∧ m' = (im', rs bt rt, lm')) 0 [some (vR 30 0), none, none] [] (im1, rs bt rt, lm) := by
    intro fz
    induction fz with
    | zero => intro p im1 h; exact absurd h (Nat.not_lt_zero _)
    | succ fz ih =>
      have ih0 := ih
      intro p im1 hmeas hqp hpn hR1 hag g23 hsp
      have hB1 := BRr_agN hB hag
      have hbp : p < n → 0 ≤ b p ∧ b p ≤ 255 := fun h => hb.2 p (by omega)
      have hbq : 0 ≤ b p ∧ b p ≤ 255 ∨ n ≤ p := by
        by_cases h : p < n
        · exact Or.inl (hbp h)
        · exact Or.inr (by omega)
      refine q_aload_n (t := 1) F dX9_next_0 rfl rfl rfl ?_
      refine q_aload_n (t := 2) F dX9_next_1 rfl rfl rfl ?_
      refine g_X9_155 (t := 5) F dX9_next_2 rfl rfl ?_
      rw [g23]
      refine wp_callV (t := 8) [_] F dX9_next_5 k_X9_byteAt v_X9_byteAt ml_X9_158 rfl rfl rfl rfl (Nat.le_of_ble_eq_true rfl) (by decide) (m_30 (by omega)) (c_X9_byteAt _ G im1 bt rt _ b n hb hR1 hB1 p (by omega)) rfl (kI ?_)
      rintro x5 m' ⟨hx5, rfl⟩
      refine q_bipush (t := 10) F dX9_next_8 (by decide) rfl ?_
      refine q_icmp_eq (t := 13) (u := 26) F dX9_next_10 (by constructor <;> omega) (by constructor <;> omega) (by decide) rfl (fun c10 => ?_) (fun c10 => ?_)
      · refine q_aload_n (t := 27) F dX9_next_26 rfl rfl rfl ?_
        refine q_dupR (t := 28) F dX9_next_27 rfl ?_
        refine g_X9_155 (t := 31) F dX9_next_28 rfl rfl ?_
        try simp only [up_app, row_app, scr_app, cpy_app, Nat.reduceEqDiff, Int.reduceToNat, Int.toNat_natCast, and_true, true_and, and_false, false_and, and_self, reduceIte]
        refine q_iconst (t := 32) F dX9_next_31 rfl ?_
        refine q_iadd (t := 33) F dX9_next_32 rfl ?_
        refine p_X9_155 (t := 36) F dX9_next_33 rfl rfl ?_
        refine q_goto (t := 0) F dX9_next_36 (by decide) ?_
        have hlt : p < n ∧ (b p = 32 ∨ b p = 10) := by
          rcases hx5 with h | h
          · first
              | omega
              | (rcases hx18 with h2 | h2 <;> omega)
          · first
              | omega
              | (rcases hx18 with h2 | h2 <;> omega)
        exact ih0 (p + 1) _ (by omega) (by omega) (by omega) (RI_up hR1 (by rw [g23]; constructor <;> omega)) (agN_up hag (by omega) (by omega)) (by rw [up_app, if_pos ⟨rfl, rfl, rfl⟩, g23]; omega) (by rw [hsp, span_y hlt.1 (isW_iff.mpr hlt.2)])
      · refine q_aload_n (t := 14) F dX9_next_13 rfl rfl rfl ?_
        refine q_aload_n (t := 15) F dX9_next_14 rfl rfl rfl ?_
        refine g_X9_155 (t := 18) F dX9_next_15 rfl rfl ?_
        try simp only [up_app, row_app, scr_app, cpy_app, Nat.reduceEqDiff, Int.reduceToNat, Int.toNat_natCast, and_true, true_and, and_false, false_and, and_self, reduceIte]
        rw [g23]
        refine wp_callV (t := 21) [_] F dX9_next_18 k_X9_byteAt v_X9_byteAt ml_X9_158 rfl rfl rfl rfl (Nat.le_of_ble_eq_true rfl) (by decide) (m_30 (by omega)) (c_X9_byteAt _ G im1 bt rt _ b n hb hR1 hB1 p (by omega)) rfl (kI ?_)
        rintro x18 m' ⟨hx18, rfl⟩
        refine q_bipush (t := 23) F dX9_next_21 (by decide) rfl ?_
        refine q_icmp_ne (t := 26) (u := 39) F dX9_next_23 (by constructor <;> omega) (by constructor <;> omega) (by decide) rfl (fun c23 => ?_) (fun c23 => ?_)
        · have hspq : span isW b n q = p := by
            rw [hsp]
            refine span_n (fun z => ?_)
            have z2 := isW_iff.mp z.2
            rcases hx5 with h | h
            · first
                | omega
                | (rcases hx18 with h2 | h2 <;> omega)
            · omega
          have hRa : RI (up im1 30 0 25 (p : Int)) := RI_up hR1 (by constructor <;> omega)
          have hBa : BRr b n (up im1 30 0 25 (p : Int)) := BRr_up hB1 (by omega) (by omega)
          refine q_aload_n (t := 40) F dX9_next_39 rfl rfl rfl ?_
          refine q_aload_n (t := 41) F dX9_next_40 rfl rfl rfl ?_
          refine g_X9_155 (t := 44) F dX9_next_41 rfl rfl ?_
          try simp only [up_app, row_app, scr_app, cpy_app, Nat.reduceEqDiff, Int.reduceToNat, Int.toNat_natCast, and_true, true_and, and_false, false_and, and_self, reduceIte]
          rw [g23]
          refine p_X9_161 (t := 47) F dX9_next_44 rfl rfl ?_
          refine q_aload_n (t := 48) F dX9_next_47 rfl rfl rfl ?_
          refine q_aload_n (t := 49) F dX9_next_48 rfl rfl rfl ?_
          refine g_X9_155 (t := 52) F dX9_next_49 rfl rfl ?_
          try simp only [up_app, row_app, scr_app, cpy_app, Nat.reduceEqDiff, Int.reduceToNat, Int.toNat_natCast, and_true, true_and, and_false, false_and, and_self, reduceIte]
          rw [g23]
          refine wp_callV (t := 55) [_] F dX9_next_52 k_X9_byteAt v_X9_byteAt ml_X9_158 rfl rfl rfl rfl (Nat.le_of_ble_eq_true rfl) (by decide) (m_30 (by omega)) (c_X9_byteAt _ G _ bt rt _ b n hb hRa hBa p (by omega)) rfl (kI ?_)
          rintro x52 m' ⟨hx52, rfl⟩
          refine q_istore_n (t := 56) F dX9_next_55 rfl (by decide) rfl rfl ?_
          refine q_aload_n (t := 57) F dX9_next_56 rfl rfl rfl ?_
          refine q_iconst (t := 58) F dX9_next_57 rfl ?_
          refine p_X9_164 (t := 61) F dX9_next_58 rfl rfl ?_
          refine q_iload_n (t := 62) F dX9_next_61 rfl rfl rfl ?_
          refine q_if_ge (t := 65) (u := 81) F dX9_next_62 (by constructor <;> omega) (by decide) rfl (fun c62 => ?_) (fun c62 => ?_)
          · refine q_iload_n (t := 82) F dX9_next_81 rfl rfl rfl ?_
            refine q_i2l (t := 83) F dX9_next_82 (by first | exact hR _ _ _ | (constructor <;> omega)) rfl ?_
            refine q_ldc2 (t := 86) (x := 97) F dX9_next_83 kl_X9_167 (by decide) rfl ?_
            refine q_ldc2 (t := 89) (x := 122) F dX9_next_86 kl_X9_169 (by decide) rfl ?_
            refine wp_callS (t := 92) [_, _, _] F dX9_next_89 k_X9_in st_X9_in ml_X9_91 rfl rfl (Nat.le_of_ble_eq_true rfl) (by decide) (c_X9_in _ G _ _ _ _ _ _ _ (by constructor <;> omega) (by constructor <;> omega) (by constructor <;> omega)) rfl (kI ?_)
            rintro x89 m' ⟨hx89, rfl⟩
            have hx89 := if01 hx89
            refine q_if_eq (t := 95) (u := 134) F dX9_next_92 (by first | exact hR _ _ _ | (constructor <;> omega)) (by decide) rfl (fun c92 => ?_) (fun c92 => ?_)
            · refine q_iload_n (t := 135) F dX9_next_134 rfl rfl rfl ?_
              refine q_i2l (t := 136) F dX9_next_135 (by first | exact hR _ _ _ | (constructor <;> omega)) rfl ?_
              refine q_ldc2 (t := 139) (x := 48) F dX9_next_136 kl_X9_171 (by decide) rfl ?_
              refine q_ldc2 (t := 142) (x := 57) F dX9_next_139 kl_X9_173 (by decide) rfl ?_
              refine wp_callS (t := 145) [_, _, _] F dX9_next_142 k_X9_in st_X9_in ml_X9_91 rfl rfl (Nat.le_of_ble_eq_true rfl) (by decide) (c_X9_in _ G _ _ _ _ _ _ _ (by constructor <;> omega) (by constructor <;> omega) (by constructor <;> omega)) rfl (kI ?_)
              rintro x142 m' ⟨hx142, rfl⟩
              have hx142 := if01 hx142
              refine q_if_eq (t := 148) (u := 252) F dX9_next_145 (by first | exact hR _ _ _ | (constructor <;> omega)) (by decide) rfl (fun c145 => ?_) (fun c145 => ?_)
              · refine q_iload_n (t := 253) F dX9_next_252 rfl rfl rfl ?_
                refine q_bipush (t := 255) F dX9_next_253 (by decide) rfl ?_
                refine q_icmp_eq (t := 258) (u := 300) F dX9_next_255 (by constructor <;> omega) (by constructor <;> omega) (by decide) rfl (fun c255 => ?_) (fun c255 => ?_)
                · refine q_aload_n (t := 301) F dX9_next_300 rfl rfl rfl ?_
                  refine q_iconst (t := 302) F dX9_next_301 rfl ?_
                  refine p_X9_164 (t := 305) F dX9_next_302 rfl rfl ?_
                  refine q_aload_n (t := 306) F dX9_next_305 rfl rfl rfl ?_
                  refine q_iload_n (t := 307) F dX9_next_306 rfl rfl rfl ?_
                  refine q_i2l (t := 308) F dX9_next_307 (by first | exact hR _ _ _ | (constructor <;> omega)) rfl ?_
                  refine p_X9_175 (t := 311) F dX9_next_308 rfl rfl ?_
                  refine q_aload_n (t := 312) F dX9_next_311 rfl rfl rfl ?_
                  refine q_dupR (t := 313) F dX9_next_312 rfl ?_
                  refine g_X9_155 (t := 316) F dX9_next_313 rfl rfl ?_
                  try simp only [up_app, row_app, scr_app, cpy_app, Nat.reduceEqDiff, Int.reduceToNat, Int.toNat_natCast, and_true, true_and, and_false, false_and, and_self, reduceIte]
                  refine q_iconst (t := 317) F dX9_next_316 rfl ?_
                  refine q_iadd (t := 318) F dX9_next_317 rfl ?_
                  refine p_X9_155 (t := 321) F dX9_next_318 rfl rfl ?_
                  refine q_vret F dX9_next_321 rfl ?_
                  first
                    | (have hlt : p < n ∧ 97 ≤ b p ∧ b p ≤ 122 := by rcases hx52 with h | h <;> omega
                       have hrs : span isL b n p = r := by
                         rw [hsr]
                         exact span_n (fun z => by have z2 := isL_iff.mp z.2; rcases hx105 with h | h <;> omega)
                       refine ⟨rfl, im2, lm, hR2, ?_, ?_, hag2, (fun _ _ _ _ => rfl), rfl⟩
                       · rw [hspq]
                         exact ⟨fun h => by omega, fun _ _ => ⟨k24, by rw [hrs]; exact k23⟩, fun _ h => absurd (isL_iff.mpr hlt.2) h, fun _ h => absurd (isL_iff.mpr hlt.2) h⟩
                       · rw [hspq]; exact k25)
                    | (have hlt : p < n ∧ ¬ (97 ≤ b p ∧ b p ≤ 122) ∧ 48 ≤ b p ∧ b p ≤ 57 := by rcases hx52 with h | h <;> omega
                       have hrs : span isD b n p = r := by
                         rw [hsr]
                         exact span_n (fun z => by have z2 := isD_iff.mp z.2; rcases hx165 with h | h <;> omega)
                       refine ⟨rfl, _, lm2, RI_up hR2 (by constructor <;> omega), ?_, ?_, agN_up hag2 (by omega) (by omega), hlg, rfl⟩
                       · rw [hspq]
                         refine ⟨fun h => by omega, fun _ h => absurd (isL_iff.mp h) hlt.2.1, fun _ _ _ => ⟨by rw [up_app, if_neg (by omega), hrs]; exact k23, ?_, fun h4 => by rw [hrs] at h4 ⊢; exact hnm h4⟩, fun _ _ h => absurd (isD_iff.mpr hlt.2.2) h⟩
                         rw [up_app, if_pos ⟨rfl, rfl, rfl⟩, hrs]
                         first
                           | rw [if_pos (by omega)]
                           | rw [if_neg (by omega)]
                       · rw [hspq, up_app, if_neg (by omega)]; exact k25)
                    | (have hnp : n ≤ p := by rcases hx52 with h | h <;> omega
                       have e22 : im1 30 0 22 = n := hB1.1
                       refine ⟨rfl, _, lm, RI_up (RI_up (RI_up (RI_up hR1 (by constructor <;> omega)) (by constructor <;> omega)) (by constructor <;> omega)) (hR1 _ _ _), ?_, ?_, agN_up (agN_up (agN_up (agN_up hag (by omega) (by omega)) (by omega) (by omega)) (by omega) (by omega)) (by omega) (by omega), (fun _ _ _ _ => rfl), rfl⟩
                       · rw [hspq]
                         exact ⟨fun _ => by rw [up_app, if_neg (by omega), up_app, if_pos ⟨rfl, rfl, rfl⟩], fun h => by omega, fun h => by omega, fun h => by omega⟩
                       · rw [hspq, up_app, if_pos ⟨rfl, rfl, rfl⟩]; omega)
                    | (have hlt : p < n ∧ x52 = b p := by rcases hx52 with h | h <;> omega
                       have hsg : sgn (b p) := by unfold sgn; omega
                       refine ⟨rfl, _, _, RI_up (RI_up (RI_up (RI_up hR1 (by constructor <;> omega)) (by constructor <;> omega)) (by constructor <;> omega)) (by rw [g23]; constructor <;> omega), ?_, ?_, agN_up (agN_up (agN_up (agN_up hag (by omega) (by omega)) (by omega) (by omega)) (by omega) (by omega)) (by omega) (by omega), (fun k i s h => by rw [up_app, if_neg (by omega)]), rfl⟩
                       · rw [hspq]
                         refine ⟨fun h => by omega, fun _ h => absurd (isL_iff.mp h) (by omega), fun _ _ h => absurd (isD_iff.mp h) (by omega), fun _ _ _ => ⟨fun _ => ⟨?_, ?_, ?_⟩, fun h => absurd hsg h⟩⟩
                         · rw [up_app, if_neg (by omega), up_app, if_pos ⟨rfl, rfl, rfl⟩]
                         · rw [up_app, if_pos ⟨rfl, rfl, rfl⟩]; exact hlt.2
                         · rw [up_app, if_pos ⟨rfl, rfl, rfl⟩, g23]
                       · rw [hspq]; simp only [up_app]; repeat (first | rfl | rw [if_neg (by omega)] | rw [if_pos (by omega)]))
                    | (have hlt : p < n ∧ x52 = b p := by rcases hx52 with h | h <;> omega
                       have hsg : ¬ sgn (b p) := by unfold sgn; omega
                       refine ⟨rfl, _, lm, RI_up (RI_up hR1 (by constructor <;> omega)) (by constructor <;> omega), ?_, ?_, agN_up (agN_up hag (by omega) (by omega)) (by omega) (by omega), (fun _ _ _ _ => rfl), rfl⟩
                       · rw [hspq]
                         exact ⟨fun h => by omega, fun _ h => absurd (isL_iff.mp h) (by omega), fun _ _ h => absurd (isD_iff.mp h) (by omega), fun _ _ _ => ⟨fun h => absurd h hsg, fun _ => by rw [up_app, if_pos ⟨rfl, rfl, rfl⟩]⟩⟩
                       · rw [hspq, up_app, if_neg (by omega), up_app, if_pos ⟨rfl, rfl, rfl⟩])
                · refine q_iload_n (t := 259) F dX9_next_258 rfl rfl rfl ?_
                  refine q_bipush (t := 261) F dX9_next_259 (by decide) rfl ?_
                  refine q_icmp_eq (t := 264) (u := 300) F dX9_next_261 (by constructor <;> omega) (by constructor <;> omega) (by decide) rfl (fun c261 => ?_) (fun c261 => ?_)
                  · refine q_aload_n (t := 301) F dX9_next_300 rfl rfl rfl ?_
                    refine q_iconst (t := 302) F dX9_next_301 rfl ?_
                    refine p_X9_164 (t := 305) F dX9_next_302 rfl rfl ?_
                    refine q_aload_n (t := 306) F dX9_next_305 rfl rfl rfl ?_
                    refine q_iload_n (t := 307) F dX9_next_306 rfl rfl rfl ?_
                    refine q_i2l (t := 308) F dX9_next_307 (by first | exact hR _ _ _ | (constructor <;> omega)) rfl ?_
                    refine p_X9_175 (t := 311) F dX9_next_308 rfl rfl ?_
                    refine q_aload_n (t := 312) F dX9_next_311 rfl rfl rfl ?_
                    refine q_dupR (t := 313) F dX9_next_312 rfl ?_
                    refine g_X9_155 (t := 316) F dX9_next_313 rfl rfl ?_
                    try simp only [up_app, row_app, scr_app, cpy_app, Nat.reduceEqDiff, Int.reduceToNat, Int.toNat_natCast, and_true, true_and, and_false, false_and, and_self, reduceIte]
                    refine q_iconst (t := 317) F dX9_next_316 rfl ?_
                    refine q_iadd (t := 318) F dX9_next_317 rfl ?_
                    refine p_X9_155 (t := 321) F dX9_next_318 rfl rfl ?_
                    refine q_vret F dX9_next_321 rfl ?_
                    first
                      | (have hlt : p < n ∧ 97 ≤ b p ∧ b p ≤ 122 := by rcases hx52 with h | h <;> omega
                         have hrs : span isL b n p = r := by
                           rw [hsr]
                           exact span_n (fun z => by have z2 := isL_iff.mp z.2; rcases hx105 with h | h <;> omega)
                         refine ⟨rfl, im2, lm, hR2, ?_, ?_, hag2, (fun _ _ _ _ => rfl), rfl⟩
                         · rw [hspq]
                           exact ⟨fun h => by omega, fun _ _ => ⟨k24, by rw [hrs]; exact k23⟩, fun _ h => absurd (isL_iff.mpr hlt.2) h, fun _ h => absurd (isL_iff.mpr hlt.2) h⟩
                         · rw [hspq]; exact k25)
                      | (have hlt : p < n ∧ ¬ (97 ≤ b p ∧ b p ≤ 122) ∧ 48 ≤ b p ∧ b p ≤ 57 := by rcases hx52 with h | h <;> omega
                         have hrs : span isD b n p = r := by
                           rw [hsr]
                           exact span_n (fun z => by have z2 := isD_iff.mp z.2; rcases hx165 with h | h <;> omega)
                         refine ⟨rfl, _, lm2, RI_up hR2 (by constructor <;> omega), ?_, ?_, agN_up hag2 (by omega) (by omega), hlg, rfl⟩
                         · rw [hspq]
                           refine ⟨fun h => by omega, fun _ h => absurd (isL_iff.mp h) hlt.2.1, fun _ _ _ => ⟨by rw [up_app, if_neg (by omega), hrs]; exact k23, ?_, fun h4 => by rw [hrs] at h4 ⊢; exact hnm h4⟩, fun _ _ h => absurd (isD_iff.mpr hlt.2.2) h⟩
                           rw [up_app, if_pos ⟨rfl, rfl, rfl⟩, hrs]
                           first
                             | rw [if_pos (by omega)]
                             | rw [if_neg (by omega)]
                         · rw [hspq, up_app, if_neg (by omega)]; exact k25)
                      | (have hnp : n ≤ p := by rcases hx52 with h | h <;> omega
                         have e22 : im1 30 0 22 = n := hB1.1
                         refine ⟨rfl, _, lm, RI_up (RI_up (RI_up (RI_up hR1 (by constructor <;> omega)) (by constructor <;> omega)) (by constructor <;> omega)) (hR1 _ _ _), ?_, ?_, agN_up (agN_up (agN_up (agN_up hag (by omega) (by omega)) (by omega) (by omega)) (by omega) (by omega)) (by omega) (by omega), (fun _ _ _ _ => rfl), rfl⟩
                         · rw [hspq]
                           exact ⟨fun _ => by rw [up_app, if_neg (by omega), up_app, if_pos ⟨rfl, rfl, rfl⟩], fun h => by omega, fun h => by omega, fun h => by omega⟩
                         · rw [hspq, up_app, if_pos ⟨rfl, rfl, rfl⟩]; omega)
                      | (have hlt : p < n ∧ x52 = b p := by rcases hx52 with h | h <;> omega
                         have hsg : sgn (b p) := by unfold sgn; omega
                         refine ⟨rfl, _, _, RI_up (RI_up (RI_up (RI_up hR1 (by constructor <;> omega)) (by constructor <;> omega)) (by constructor <;> omega)) (by rw [g23]; constructor <;> omega), ?_, ?_, agN_up (agN_up (agN_up (agN_up hag (by omega) (by omega)) (by omega) (by omega)) (by omega) (by omega)) (by omega) (by omega), (fun k i s h => by rw [up_app, if_neg (by omega)]), rfl⟩
                         · rw [hspq]
                           refine ⟨fun h => by omega, fun _ h => absurd (isL_iff.mp h) (by omega), fun _ _ h => absurd (isD_iff.mp h) (by omega), fun _ _ _ => ⟨fun _ => ⟨?_, ?_, ?_⟩, fun h => absurd hsg h⟩⟩
                           · rw [up_app, if_neg (by omega), up_app, if_pos ⟨rfl, rfl, rfl⟩]
                           · rw [up_app, if_pos ⟨rfl, rfl, rfl⟩]; exact hlt.2
                           · rw [up_app, if_pos ⟨rfl, rfl, rfl⟩, g23]
                         · rw [hspq]; simp only [up_app]; repeat (first | rfl | rw [if_neg (by omega)] | rw [if_pos (by omega)]))
                      | (have hlt : p < n ∧ x52 = b p := by rcases hx52 with h | h <;> omega
                         have hsg : ¬ sgn (b p) := by unfold sgn; omega
                         refine ⟨rfl, _, lm, RI_up (RI_up hR1 (by constructor <;> omega)) (by constructor <;> omega), ?_, ?_, agN_up (agN_up hag (by omega) (by omega)) (by omega) (by omega), (fun _ _ _ _ => rfl), rfl⟩
                         · rw [hspq]
                           exact ⟨fun h => by omega, fun _ h => absurd (isL_iff.mp h) (by omega), fun _ _ h => absurd (isD_iff.mp h) (by omega), fun _ _ _ => ⟨fun h => absurd h hsg, fun _ => by rw [up_app, if_pos ⟨rfl, rfl, rfl⟩]⟩⟩
                         · rw [hspq, up_app, if_neg (by omega), up_app, if_pos ⟨rfl, rfl, rfl⟩])
                  · refine q_iload_n (t := 265) F dX9_next_264 rfl rfl rfl ?_
                    refine q_bipush (t := 267) F dX9_next_265 (by decide) rfl ?_
                    refine q_icmp_eq (t := 270) (u := 300) F dX9_next_267 (by constructor <;> omega) (by constructor <;> omega) (by decide) rfl (fun c267 => ?_) (fun c267 => ?_)
                    · refine q_aload_n (t := 301) F dX9_next_300 rfl rfl rfl ?_
                      refine q_iconst (t := 302) F dX9_next_301 rfl ?_
                      refine p_X9_164 (t := 305) F dX9_next_302 rfl rfl ?_
                      refine q_aload_n (t := 306) F dX9_next_305 rfl rfl rfl ?_
                      refine q_iload_n (t := 307) F dX9_next_306 rfl rfl rfl ?_
                      refine q_i2l (t := 308) F dX9_next_307 (by first | exact hR _ _ _ | (constructor <;> omega)) rfl ?_
                      refine p_X9_175 (t := 311) F dX9_next_308 rfl rfl ?_
                      refine q_aload_n (t := 312) F dX9_next_311 rfl rfl rfl ?_
                      refine q_dupR (t := 313) F dX9_next_312 rfl ?_
                      refine g_X9_155 (t := 316) F dX9_next_313 rfl rfl ?_
                      try simp only [up_app, row_app, scr_app, cpy_app, Nat.reduceEqDiff, Int.reduceToNat, Int.toNat_natCast, and_true, true_and, and_false, false_and, and_self, reduceIte]
                      refine q_iconst (t := 317) F dX9_next_316 rfl ?_
                      refine q_iadd (t := 318) F dX9_next_317 rfl ?_
                      refine p_X9_155 (t := 321) F dX9_next_318 rfl rfl ?_
                      refine q_vret F dX9_next_321 rfl ?_
                      first
                        | (have hlt : p < n ∧ 97 ≤ b p ∧ b p ≤ 122 := by rcases hx52 with h | h <;> omega
                           have hrs : span isL b n p = r := by
                             rw [hsr]
                             exact span_n (fun z => by have z2 := isL_iff.mp z.2; rcases hx105 with h | h <;> omega)
                           refine ⟨rfl, im2, lm, hR2, ?_, ?_, hag2, (fun _ _ _ _ => rfl), rfl⟩
                           · rw [hspq]
                             exact ⟨fun h => by omega, fun _ _ => ⟨k24, by rw [hrs]; exact k23⟩, fun _ h => absurd (isL_iff.mpr hlt.2) h, fun _ h => absurd (isL_iff.mpr hlt.2) h⟩
                           · rw [hspq]; exact k25)
                        | (have hlt : p < n ∧ ¬ (97 ≤ b p ∧ b p ≤ 122) ∧ 48 ≤ b p ∧ b p ≤ 57 := by rcases hx52 with h | h <;> omega
                           have hrs : span isD b n p = r := by
                             rw [hsr]
                             exact span_n (fun z => by have z2 := isD_iff.mp z.2; rcases hx165 with h | h <;> omega)
                           refine ⟨rfl, _, lm2, RI_up hR2 (by constructor <;> omega), ?_, ?_, agN_up hag2 (by omega) (by omega), hlg, rfl⟩
                           · rw [hspq]
                             refine ⟨fun h => by omega, fun _ h => absurd (isL_iff.mp h) hlt.2.1, fun _ _ _ => ⟨by rw [up_app, if_neg (by omega), hrs]; exact k23, ?_, fun h4 => by rw [hrs] at h4 ⊢; exact hnm h4⟩, fun _ _ h => absurd (isD_iff.mpr hlt.2.2) h⟩
                             rw [up_app, if_pos ⟨rfl, rfl, rfl⟩, hrs]
                             first
                               | rw [if_pos (by omega)]
                               | rw [if_neg (by omega)]
                           · rw [hspq, up_app, if_neg (by omega)]; exact k25)
                        | (have hnp : n ≤ p := by rcases hx52 with h | h <;> omega
                           have e22 : im1 30 0 22 = n := hB1.1
                           refine ⟨rfl, _, lm, RI_up (RI_up (RI_up (RI_up hR1 (by constructor <;> omega)) (by constructor <;> omega)) (by constructor <;> omega)) (hR1 _ _ _), ?_, ?_, agN_up (agN_up (agN_up (agN_up hag (by omega) (by omega)) (by omega) (by omega)) (by omega) (by omega)) (by omega) (by omega), (fun _ _ _ _ => rfl), rfl⟩
                           · rw [hspq]
                             exact ⟨fun _ => by rw [up_app, if_neg (by omega), up_app, if_pos ⟨rfl, rfl, rfl⟩], fun h => by omega, fun h => by omega, fun h => by omega⟩
                           · rw [hspq, up_app, if_pos ⟨rfl, rfl, rfl⟩]; omega)
                        | (have hlt : p < n ∧ x52 = b p := by rcases hx52 with h | h <;> omega
                           have hsg : sgn (b p) := by unfold sgn; omega
                           refine ⟨rfl, _, _, RI_up (RI_up (RI_up (RI_up hR1 (by constructor <;> omega)) (by constructor <;> omega)) (by constructor <;> omega)) (by rw [g23]; constructor <;> omega), ?_, ?_, agN_up (agN_up (agN_up (agN_up hag (by omega) (by omega)) (by omega) (by omega)) (by omega) (by omega)) (by omega) (by omega), (fun k i s h => by rw [up_app, if_neg (by omega)]), rfl⟩
                           · rw [hspq]
                             refine ⟨fun h => by omega, fun _ h => absurd (isL_iff.mp h) (by omega), fun _ _ h => absurd (isD_iff.mp h) (by omega), fun _ _ _ => ⟨fun _ => ⟨?_, ?_, ?_⟩, fun h => absurd hsg h⟩⟩
                             · rw [up_app, if_neg (by omega), up_app, if_pos ⟨rfl, rfl, rfl⟩]
                             · rw [up_app, if_pos ⟨rfl, rfl, rfl⟩]; exact hlt.2
                             · rw [up_app, if_pos ⟨rfl, rfl, rfl⟩, g23]
                           · rw [hspq]; simp only [up_app]; repeat (first | rfl | rw [if_neg (by omega)] | rw [if_pos (by omega)]))
                        | (have hlt : p < n ∧ x52 = b p := by rcases hx52 with h | h <;> omega
                           have hsg : ¬ sgn (b p) := by unfold sgn; omega
                           refine ⟨rfl, _, lm, RI_up (RI_up hR1 (by constructor <;> omega)) (by constructor <;> omega), ?_, ?_, agN_up (agN_up hag (by omega) (by omega)) (by omega) (by omega), (fun _ _ _ _ => rfl), rfl⟩
                           · rw [hspq]
                             exact ⟨fun h => by omega, fun _ h => absurd (isL_iff.mp h) (by omega), fun _ _ h => absurd (isD_iff.mp h) (by omega), fun _ _ _ => ⟨fun h => absurd h hsg, fun _ => by rw [up_app, if_pos ⟨rfl, rfl, rfl⟩]⟩⟩
                           · rw [hspq, up_app, if_neg (by omega), up_app, if_pos ⟨rfl, rfl, rfl⟩])
                    · refine q_iload_n (t := 271) F dX9_next_270 rfl rfl rfl ?_
                      refine q_bipush (t := 273) F dX9_next_271 (by decide) rfl ?_
                      refine q_icmp_eq (t := 276) (u := 300) F dX9_next_273 (by constructor <;> omega) (by constructor <;> omega) (by decide) rfl (fun c273 => ?_) (fun c273 => ?_)
                      · refine q_aload_n (t := 301) F dX9_next_300 rfl rfl rfl ?_
                        refine q_iconst (t := 302) F dX9_next_301 rfl ?_
                        refine p_X9_164 (t := 305) F dX9_next_302 rfl rfl ?_
                        refine q_aload_n (t := 306) F dX9_next_305 rfl rfl rfl ?_
                        refine q_iload_n (t := 307) F dX9_next_306 rfl rfl rfl ?_
                        refine q_i2l (t := 308) F dX9_next_307 (by first | exact hR _ _ _ | (constructor <;> omega)) rfl ?_
                        refine p_X9_175 (t := 311) F dX9_next_308 rfl rfl ?_
                        refine q_aload_n (t := 312) F dX9_next_311 rfl rfl rfl ?_
                        refine q_dupR (t := 313) F dX9_next_312 rfl ?_
                        refine g_X9_155 (t := 316) F dX9_next_313 rfl rfl ?_
                        try simp only [up_app, row_app, scr_app, cpy_app, Nat.reduceEqDiff, Int.reduceToNat, Int.toNat_natCast, and_true, true_and, and_false, false_and, and_self, reduceIte]
                        refine q_iconst (t := 317) F dX9_next_316 rfl ?_
                        refine q_iadd (t := 318) F dX9_next_317 rfl ?_
                        refine p_X9_155 (t := 321) F dX9_next_318 rfl rfl ?_
                        refine q_vret F dX9_next_321 rfl ?_
                        first
                          | (have hlt : p < n ∧ 97 ≤ b p ∧ b p ≤ 122 := by rcases hx52 with h | h <;> omega
                             have hrs : span isL b n p = r := by
                               rw [hsr]
                               exact span_n (fun z => by have z2 := isL_iff.mp z.2; rcases hx105 with h | h <;> omega)
                             refine ⟨rfl, im2, lm, hR2, ?_, ?_, hag2, (fun _ _ _ _ => rfl), rfl⟩
                             · rw [hspq]
                               exact ⟨fun h => by omega, fun _ _ => ⟨k24, by rw [hrs]; exact k23⟩, fun _ h => absurd (isL_iff.mpr hlt.2) h, fun _ h => absurd (isL_iff.mpr hlt.2) h⟩
                             · rw [hspq]; exact k25)
                          | (have hlt : p < n ∧ ¬ (97 ≤ b p ∧ b p ≤ 122) ∧ 48 ≤ b p ∧ b p ≤ 57 := by rcases hx52 with h | h <;> omega
                             have hrs : span isD b n p = r := by
                               rw [hsr]
                               exact span_n (fun z => by have z2 := isD_iff.mp z.2; rcases hx165 with h | h <;> omega)
                             refine ⟨rfl, _, lm2, RI_up hR2 (by constructor <;> omega), ?_, ?_, agN_up hag2 (by omega) (by omega), hlg, rfl⟩
                             · rw [hspq]
                               refine ⟨fun h => by omega, fun _ h => absurd (isL_iff.mp h) hlt.2.1, fun _ _ _ => ⟨by rw [up_app, if_neg (by omega), hrs]; exact k23, ?_, fun h4 => by rw [hrs] at h4 ⊢; exact hnm h4⟩, fun _ _ h => absurd (isD_iff.mpr hlt.2.2) h⟩
                               rw [up_app, if_pos ⟨rfl, rfl, rfl⟩, hrs]
                               first
                                 | rw [if_pos (by omega)]
                                 | rw [if_neg (by omega)]
                             · rw [hspq, up_app, if_neg (by omega)]; exact k25)
                          | (have hnp : n ≤ p := by rcases hx52 with h | h <;> omega
                             have e22 : im1 30 0 22 = n := hB1.1
                             refine ⟨rfl, _, lm, RI_up (RI_up (RI_up (RI_up hR1 (by constructor <;> omega)) (by constructor <;> omega)) (by constructor <;> omega)) (hR1 _ _ _), ?_, ?_, agN_up (agN_up (agN_up (agN_up hag (by omega) (by omega)) (by omega) (by omega)) (by omega) (by omega)) (by omega) (by omega), (fun _ _ _ _ => rfl), rfl⟩
                             · rw [hspq]
                               exact ⟨fun _ => by rw [up_app, if_neg (by omega), up_app, if_pos ⟨rfl, rfl, rfl⟩], fun h => by omega, fun h => by omega, fun h => by omega⟩
                             · rw [hspq, up_app, if_pos ⟨rfl, rfl, rfl⟩]; omega)
                          | (have hlt : p < n ∧ x52 = b p := by rcases hx52 with h | h <;> omega
                             have hsg : sgn (b p) := by unfold sgn; omega
                             refine ⟨rfl, _, _, RI_up (RI_up (RI_up (RI_up hR1 (by constructor <;> omega)) (by constructor <;> omega)) (by constructor <;> omega)) (by rw [g23]; constructor <;> omega), ?_, ?_, agN_up (agN_up (agN_up (agN_up hag (by omega) (by omega)) (by omega) (by omega)) (by omega) (by omega)) (by omega) (by omega), (fun k i s h => by rw [up_app, if_neg (by omega)]), rfl⟩
                             · rw [hspq]
                               refine ⟨fun h => by omega, fun _ h => absurd (isL_iff.mp h) (by omega), fun _ _ h => absurd (isD_iff.mp h) (by omega), fun _ _ _ => ⟨fun _ => ⟨?_, ?_, ?_⟩, fun h => absurd hsg h⟩⟩
                               · rw [up_app, if_neg (by omega), up_app, if_pos ⟨rfl, rfl, rfl⟩]
                               · rw [up_app, if_pos ⟨rfl, rfl, rfl⟩]; exact hlt.2
                               · rw [up_app, if_pos ⟨rfl, rfl, rfl⟩, g23]
                             · rw [hspq]; simp only [up_app]; repeat (first | rfl | rw [if_neg (by omega)] | rw [if_pos (by omega)]))
                          | (have hlt : p < n ∧ x52 = b p := by rcases hx52 with h | h <;> omega
                             have hsg : ¬ sgn (b p) := by unfold sgn; omega
                             refine ⟨rfl, _, lm, RI_up (RI_up hR1 (by constructor <;> omega)) (by constructor <;> omega), ?_, ?_, agN_up (agN_up hag (by omega) (by omega)) (by omega) (by omega), (fun _ _ _ _ => rfl), rfl⟩
                             · rw [hspq]
                               exact ⟨fun h => by omega, fun _ h => absurd (isL_iff.mp h) (by omega), fun _ _ h => absurd (isD_iff.mp h) (by omega), fun _ _ _ => ⟨fun h => absurd h hsg, fun _ => by rw [up_app, if_pos ⟨rfl, rfl, rfl⟩]⟩⟩
                             · rw [hspq, up_app, if_neg (by omega), up_app, if_pos ⟨rfl, rfl, rfl⟩])
                      · refine q_iload_n (t := 277) F dX9_next_276 rfl rfl rfl ?_
                        refine q_bipush (t := 279) F dX9_next_277 (by decide) rfl ?_
                        refine q_icmp_eq (t := 282) (u := 300) F dX9_next_279 (by constructor <;> omega) (by constructor <;> omega) (by decide) rfl (fun c279 => ?_) (fun c279 => ?_)
                        · refine q_aload_n (t := 301) F dX9_next_300 rfl rfl rfl ?_
                          refine q_iconst (t := 302) F dX9_next_301 rfl ?_
                          refine p_X9_164 (t := 305) F dX9_next_302 rfl rfl ?_
                          refine q_aload_n (t := 306) F dX9_next_305 rfl rfl rfl ?_
                          refine q_iload_n (t := 307) F dX9_next_306 rfl rfl rfl ?_
                          refine q_i2l (t := 308) F dX9_next_307 (by first | exact hR _ _ _ | (constructor <;> omega)) rfl ?_
                          refine p_X9_175 (t := 311) F dX9_next_308 rfl rfl ?_
                          refine q_aload_n (t := 312) F dX9_next_311 rfl rfl rfl ?_
                          refine q_dupR (t := 313) F dX9_next_312 rfl ?_
                          refine g_X9_155 (t := 316) F dX9_next_313 rfl rfl ?_
                          try simp only [up_app, row_app, scr_app, cpy_app, Nat.reduceEqDiff, Int.reduceToNat, Int.toNat_natCast, and_true, true_and, and_false, false_and, and_self, reduceIte]
                          refine q_iconst (t := 317) F dX9_next_316 rfl ?_
                          refine q_iadd (t := 318) F dX9_next_317 rfl ?_
                          refine p_X9_155 (t := 321) F dX9_next_318 rfl rfl ?_
                          refine q_vret F dX9_next_321 rfl ?_
                          first
                            | (have hlt : p < n ∧ 97 ≤ b p ∧ b p ≤ 122 := by rcases hx52 with h | h <;> omega
                               have hrs : span isL b n p = r := by
                                 rw [hsr]
                                 exact span_n (fun z => by have z2 := isL_iff.mp z.2; rcases hx105 with h | h <;> omega)
                               refine ⟨rfl, im2, lm, hR2, ?_, ?_, hag2, (fun _ _ _ _ => rfl), rfl⟩
                               · rw [hspq]
                                 exact ⟨fun h => by omega, fun _ _ => ⟨k24, by rw [hrs]; exact k23⟩, fun _ h => absurd (isL_iff.mpr hlt.2) h, fun _ h => absurd (isL_iff.mpr hlt.2) h⟩
                               · rw [hspq]; exact k25)
                            | (have hlt : p < n ∧ ¬ (97 ≤ b p ∧ b p ≤ 122) ∧ 48 ≤ b p ∧ b p ≤ 57 := by rcases hx52 with h | h <;> omega
                               have hrs : span isD b n p = r := by
                                 rw [hsr]
                                 exact span_n (fun z => by have z2 := isD_iff.mp z.2; rcases hx165 with h | h <;> omega)
                               refine ⟨rfl, _, lm2, RI_up hR2 (by constructor <;> omega), ?_, ?_, agN_up hag2 (by omega) (by omega), hlg, rfl⟩
                               · rw [hspq]
                                 refine ⟨fun h => by omega, fun _ h => absurd (isL_iff.mp h) hlt.2.1, fun _ _ _ => ⟨by rw [up_app, if_neg (by omega), hrs]; exact k23, ?_, fun h4 => by rw [hrs] at h4 ⊢; exact hnm h4⟩, fun _ _ h => absurd (isD_iff.mpr hlt.2.2) h⟩
                                 rw [up_app, if_pos ⟨rfl, rfl, rfl⟩, hrs]
                                 first
                                   | rw [if_pos (by omega)]
                                   | rw [if_neg (by omega)]
                               · rw [hspq, up_app, if_neg (by omega)]; exact k25)
                            | (have hnp : n ≤ p := by rcases hx52 with h | h <;> omega
                               have e22 : im1 30 0 22 = n := hB1.1
                               refine ⟨rfl, _, lm, RI_up (RI_up (RI_up (RI_up hR1 (by constructor <;> omega)) (by constructor <;> omega)) (by constructor <;> omega)) (hR1 _ _ _), ?_, ?_, agN_up (agN_up (agN_up (agN_up hag (by omega) (by omega)) (by omega) (by omega)) (by omega) (by omega)) (by omega) (by omega), (fun _ _ _ _ => rfl), rfl⟩
                               · rw [hspq]
                                 exact ⟨fun _ => by rw [up_app, if_neg (by omega), up_app, if_pos ⟨rfl, rfl, rfl⟩], fun h => by omega, fun h => by omega, fun h => by omega⟩
                               · rw [hspq, up_app, if_pos ⟨rfl, rfl, rfl⟩]; omega)
                            | (have hlt : p < n ∧ x52 = b p := by rcases hx52 with h | h <;> omega
                               have hsg : sgn (b p) := by unfold sgn; omega
                               refine ⟨rfl, _, _, RI_up (RI_up (RI_up (RI_up hR1 (by constructor <;> omega)) (by constructor <;> omega)) (by constructor <;> omega)) (by rw [g23]; constructor <;> omega), ?_, ?_, agN_up (agN_up (agN_up (agN_up hag (by omega) (by omega)) (by omega) (by omega)) (by omega) (by omega)) (by omega) (by omega), (fun k i s h => by rw [up_app, if_neg (by omega)]), rfl⟩
                               · rw [hspq]
                                 refine ⟨fun h => by omega, fun _ h => absurd (isL_iff.mp h) (by omega), fun _ _ h => absurd (isD_iff.mp h) (by omega), fun _ _ _ => ⟨fun _ => ⟨?_, ?_, ?_⟩, fun h => absurd hsg h⟩⟩
                                 · rw [up_app, if_neg (by omega), up_app, if_pos ⟨rfl, rfl, rfl⟩]
                                 · rw [up_app, if_pos ⟨rfl, rfl, rfl⟩]; exact hlt.2
                                 · rw [up_app, if_pos ⟨rfl, rfl, rfl⟩, g23]
                               · rw [hspq]; simp only [up_app]; repeat (first | rfl | rw [if_neg (by omega)] | rw [if_pos (by omega)]))
                            | (have hlt : p < n ∧ x52 = b p := by rcases hx52 with h | h <;> omega
                               have hsg : ¬ sgn (b p) := by unfold sgn; omega
                               refine ⟨rfl, _, lm, RI_up (RI_up hR1 (by constructor <;> omega)) (by constructor <;> omega), ?_, ?_, agN_up (agN_up hag (by omega) (by omega)) (by omega) (by omega), (fun _ _ _ _ => rfl), rfl⟩
                               · rw [hspq]
                                 exact ⟨fun h => by omega, fun _ h => absurd (isL_iff.mp h) (by omega), fun _ _ h => absurd (isD_iff.mp h) (by omega), fun _ _ _ => ⟨fun h => absurd h hsg, fun _ => by rw [up_app, if_pos ⟨rfl, rfl, rfl⟩]⟩⟩
                               · rw [hspq, up_app, if_neg (by omega), up_app, if_pos ⟨rfl, rfl, rfl⟩])
                        · refine q_iload_n (t := 283) F dX9_next_282 rfl rfl rfl ?_
                          refine q_bipush (t := 285) F dX9_next_283 (by decide) rfl ?_
                          refine q_icmp_eq (t := 288) (u := 300) F dX9_next_285 (by constructor <;> omega) (by constructor <;> omega) (by decide) rfl (fun c285 => ?_) (fun c285 => ?_)
                          · refine q_aload_n (t := 301) F dX9_next_300 rfl rfl rfl ?_
                            refine q_iconst (t := 302) F dX9_next_301 rfl ?_
                            refine p_X9_164 (t := 305) F dX9_next_302 rfl rfl ?_
                            refine q_aload_n (t := 306) F dX9_next_305 rfl rfl rfl ?_
                            refine q_iload_n (t := 307) F dX9_next_306 rfl rfl rfl ?_
                            refine q_i2l (t := 308) F dX9_next_307 (by first | exact hR _ _ _ | (constructor <;> omega)) rfl ?_
                            refine p_X9_175 (t := 311) F dX9_next_308 rfl rfl ?_
                            refine q_aload_n (t := 312) F dX9_next_311 rfl rfl rfl ?_
                            refine q_dupR (t := 313) F dX9_next_312 rfl ?_
                            refine g_X9_155 (t := 316) F dX9_next_313 rfl rfl ?_
                            try simp only [up_app, row_app, scr_app, cpy_app, Nat.reduceEqDiff, Int.reduceToNat, Int.toNat_natCast, and_true, true_and, and_false, false_and, and_self, reduceIte]
                            refine q_iconst (t := 317) F dX9_next_316 rfl ?_
                            refine q_iadd (t := 318) F dX9_next_317 rfl ?_
                            refine p_X9_155 (t := 321) F dX9_next_318 rfl rfl ?_
                            refine q_vret F dX9_next_321 rfl ?_
                            first
                              | (have hlt : p < n ∧ 97 ≤ b p ∧ b p ≤ 122 := by rcases hx52 with h | h <;> omega
                                 have hrs : span isL b n p = r := by
                                   rw [hsr]
                                   exact span_n (fun z => by have z2 := isL_iff.mp z.2; rcases hx105 with h | h <;> omega)
                                 refine ⟨rfl, im2, lm, hR2, ?_, ?_, hag2, (fun _ _ _ _ => rfl), rfl⟩
                                 · rw [hspq]
                                   exact ⟨fun h => by omega, fun _ _ => ⟨k24, by rw [hrs]; exact k23⟩, fun _ h => absurd (isL_iff.mpr hlt.2) h, fun _ h => absurd (isL_iff.mpr hlt.2) h⟩
                                 · rw [hspq]; exact k25)
                              | (have hlt : p < n ∧ ¬ (97 ≤ b p ∧ b p ≤ 122) ∧ 48 ≤ b p ∧ b p ≤ 57 := by rcases hx52 with h | h <;> omega
                                 have hrs : span isD b n p = r := by
                                   rw [hsr]
                                   exact span_n (fun z => by have z2 := isD_iff.mp z.2; rcases hx165 with h | h <;> omega)
                                 refine ⟨rfl, _, lm2, RI_up hR2 (by constructor <;> omega), ?_, ?_, agN_up hag2 (by omega) (by omega), hlg, rfl⟩
                                 · rw [hspq]
                                   refine ⟨fun h => by omega, fun _ h => absurd (isL_iff.mp h) hlt.2.1, fun _ _ _ => ⟨by rw [up_app, if_neg (by omega), hrs]; exact k23, ?_, fun h4 => by rw [hrs] at h4 ⊢; exact hnm h4⟩, fun _ _ h => absurd (isD_iff.mpr hlt.2.2) h⟩
                                   rw [up_app, if_pos ⟨rfl, rfl, rfl⟩, hrs]
                                   first
                                     | rw [if_pos (by omega)]
                                     | rw [if_neg (by omega)]
                                 · rw [hspq, up_app, if_neg (by omega)]; exact k25)
                              | (have hnp : n ≤ p := by rcases hx52 with h | h <;> omega
                                 have e22 : im1 30 0 22 = n := hB1.1
                                 refine ⟨rfl, _, lm, RI_up (RI_up (RI_up (RI_up hR1 (by constructor <;> omega)) (by constructor <;> omega)) (by constructor <;> omega)) (hR1 _ _ _), ?_, ?_, agN_up (agN_up (agN_up (agN_up hag (by omega) (by omega)) (by omega) (by omega)) (by omega) (by omega)) (by omega) (by omega), (fun _ _ _ _ => rfl), rfl⟩
                                 · rw [hspq]
                                   exact ⟨fun _ => by rw [up_app, if_neg (by omega), up_app, if_pos ⟨rfl, rfl, rfl⟩], fun h => by omega, fun h => by omega, fun h => by omega⟩
                                 · rw [hspq, up_app, if_pos ⟨rfl, rfl, rfl⟩]; omega)
                              | (have hlt : p < n ∧ x52 = b p := by rcases hx52 with h | h <;> omega
                                 have hsg : sgn (b p) := by unfold sgn; omega
                                 refine ⟨rfl, _, _, RI_up (RI_up (RI_up (RI_up hR1 (by constructor <;> omega)) (by constructor <;> omega)) (by constructor <;> omega)) (by rw [g23]; constructor <;> omega), ?_, ?_, agN_up (agN_up (agN_up (agN_up hag (by omega) (by omega)) (by omega) (by omega)) (by omega) (by omega)) (by omega) (by omega), (fun k i s h => by rw [up_app, if_neg (by omega)]), rfl⟩
                                 · rw [hspq]
                                   refine ⟨fun h => by omega, fun _ h => absurd (isL_iff.mp h) (by omega), fun _ _ h => absurd (isD_iff.mp h) (by omega), fun _ _ _ => ⟨fun _ => ⟨?_, ?_, ?_⟩, fun h => absurd hsg h⟩⟩
                                   · rw [up_app, if_neg (by omega), up_app, if_pos ⟨rfl, rfl, rfl⟩]
                                   · rw [up_app, if_pos ⟨rfl, rfl, rfl⟩]; exact hlt.2
                                   · rw [up_app, if_pos ⟨rfl, rfl, rfl⟩, g23]
                                 · rw [hspq]; simp only [up_app]; repeat (first | rfl | rw [if_neg (by omega)] | rw [if_pos (by omega)]))
                              | (have hlt : p < n ∧ x52 = b p := by rcases hx52 with h | h <;> omega
                                 have hsg : ¬ sgn (b p) := by unfold sgn; omega
                                 refine ⟨rfl, _, lm, RI_up (RI_up hR1 (by constructor <;> omega)) (by constructor <;> omega), ?_, ?_, agN_up (agN_up hag (by omega) (by omega)) (by omega) (by omega), (fun _ _ _ _ => rfl), rfl⟩
                                 · rw [hspq]
                                   exact ⟨fun h => by omega, fun _ h => absurd (isL_iff.mp h) (by omega), fun _ _ h => absurd (isD_iff.mp h) (by omega), fun _ _ _ => ⟨fun h => absurd h hsg, fun _ => by rw [up_app, if_pos ⟨rfl, rfl, rfl⟩]⟩⟩
                                 · rw [hspq, up_app, if_neg (by omega), up_app, if_pos ⟨rfl, rfl, rfl⟩])
                          · refine q_iload_n (t := 289) F dX9_next_288 rfl rfl rfl ?_
                            refine q_bipush (t := 291) F dX9_next_289 (by decide) rfl ?_
                            refine q_icmp_eq (t := 294) (u := 300) F dX9_next_291 (by constructor <;> omega) (by constructor <;> omega) (by decide) rfl (fun c291 => ?_) (fun c291 => ?_)
                            · refine q_aload_n (t := 301) F dX9_next_300 rfl rfl rfl ?_
                              refine q_iconst (t := 302) F dX9_next_301 rfl ?_
                              refine p_X9_164 (t := 305) F dX9_next_302 rfl rfl ?_
                              refine q_aload_n (t := 306) F dX9_next_305 rfl rfl rfl ?_
                              refine q_iload_n (t := 307) F dX9_next_306 rfl rfl rfl ?_
                              refine q_i2l (t := 308) F dX9_next_307 (by first | exact hR _ _ _ | (constructor <;> omega)) rfl ?_
                              refine p_X9_175 (t := 311) F dX9_next_308 rfl rfl ?_
                              refine q_aload_n (t := 312) F dX9_next_311 rfl rfl rfl ?_
                              refine q_dupR (t := 313) F dX9_next_312 rfl ?_
                              refine g_X9_155 (t := 316) F dX9_next_313 rfl rfl ?_
                              try simp only [up_app, row_app, scr_app, cpy_app, Nat.reduceEqDiff, Int.reduceToNat, Int.toNat_natCast, and_true, true_and, and_false, false_and, and_self, reduceIte]
                              refine q_iconst (t := 317) F dX9_next_316 rfl ?_
                              refine q_iadd (t := 318) F dX9_next_317 rfl ?_
                              refine p_X9_155 (t := 321) F dX9_next_318 rfl rfl ?_
                              refine q_vret F dX9_next_321 rfl ?_
                              first
                                | (have hlt : p < n ∧ 97 ≤ b p ∧ b p ≤ 122 := by rcases hx52 with h | h <;> omega
                                   have hrs : span isL b n p = r := by
                                     rw [hsr]
                                     exact span_n (fun z => by have z2 := isL_iff.mp z.2; rcases hx105 with h | h <;> omega)
                                   refine ⟨rfl, im2, lm, hR2, ?_, ?_, hag2, (fun _ _ _ _ => rfl), rfl⟩
                                   · rw [hspq]
                                     exact ⟨fun h => by omega, fun _ _ => ⟨k24, by rw [hrs]; exact k23⟩, fun _ h => absurd (isL_iff.mpr hlt.2) h, fun _ h => absurd (isL_iff.mpr hlt.2) h⟩
                                   · rw [hspq]; exact k25)
                                | (have hlt : p < n ∧ ¬ (97 ≤ b p ∧ b p ≤ 122) ∧ 48 ≤ b p ∧ b p ≤ 57 := by rcases hx52 with h | h <;> omega
                                   have hrs : span isD b n p = r := by
                                     rw [hsr]
                                     exact span_n (fun z => by have z2 := isD_iff.mp z.2; rcases hx165 with h | h <;> omega)
                                   refine ⟨rfl, _, lm2, RI_up hR2 (by constructor <;> omega), ?_, ?_, agN_up hag2 (by omega) (by omega), hlg, rfl⟩
                                   · rw [hspq]
                                     refine ⟨fun h => by omega, fun _ h => absurd (isL_iff.mp h) hlt.2.1, fun _ _ _ => ⟨by rw [up_app, if_neg (by omega), hrs]; exact k23, ?_, fun h4 => by rw [hrs] at h4 ⊢; exact hnm h4⟩, fun _ _ h => absurd (isD_iff.mpr hlt.2.2) h⟩
                                     rw [up_app, if_pos ⟨rfl, rfl, rfl⟩, hrs]
                                     first
                                       | rw [if_pos (by omega)]
                                       | rw [if_neg (by omega)]
                                   · rw [hspq, up_app, if_neg (by omega)]; exact k25)
                                | (have hnp : n ≤ p := by rcases hx52 with h | h <;> omega
                                   have e22 : im1 30 0 22 = n := hB1.1
                                   refine ⟨rfl, _, lm, RI_up (RI_up (RI_up (RI_up hR1 (by constructor <;> omega)) (by constructor <;> omega)) (by constructor <;> omega)) (hR1 _ _ _), ?_, ?_, agN_up (agN_up (agN_up (agN_up hag (by omega) (by omega)) (by omega) (by omega)) (by omega) (by omega)) (by omega) (by omega), (fun _ _ _ _ => rfl), rfl⟩
                                   · rw [hspq]
                                     exact ⟨fun _ => by rw [up_app, if_neg (by omega), up_app, if_pos ⟨rfl, rfl, rfl⟩], fun h => by omega, fun h => by omega, fun h => by omega⟩
                                   · rw [hspq, up_app, if_pos ⟨rfl, rfl, rfl⟩]; omega)
                                | (have hlt : p < n ∧ x52 = b p := by rcases hx52 with h | h <;> omega
                                   have hsg : sgn (b p) := by unfold sgn; omega
                                   refine ⟨rfl, _, _, RI_up (RI_up (RI_up (RI_up hR1 (by constructor <;> omega)) (by constructor <;> omega)) (by constructor <;> omega)) (by rw [g23]; constructor <;> omega), ?_, ?_, agN_up (agN_up (agN_up (agN_up hag (by omega) (by omega)) (by omega) (by omega)) (by omega) (by omega)) (by omega) (by omega), (fun k i s h => by rw [up_app, if_neg (by omega)]), rfl⟩
                                   · rw [hspq]
                                     refine ⟨fun h => by omega, fun _ h => absurd (isL_iff.mp h) (by omega), fun _ _ h => absurd (isD_iff.mp h) (by omega), fun _ _ _ => ⟨fun _ => ⟨?_, ?_, ?_⟩, fun h => absurd hsg h⟩⟩
                                     · rw [up_app, if_neg (by omega), up_app, if_pos ⟨rfl, rfl, rfl⟩]
                                     · rw [up_app, if_pos ⟨rfl, rfl, rfl⟩]; exact hlt.2
                                     · rw [up_app, if_pos ⟨rfl, rfl, rfl⟩, g23]
                                   · rw [hspq]; simp only [up_app]; repeat (first | rfl | rw [if_neg (by omega)] | rw [if_pos (by omega)]))
                                | (have hlt : p < n ∧ x52 = b p := by rcases hx52 with h | h <;> omega
                                   have hsg : ¬ sgn (b p) := by unfold sgn; omega
                                   refine ⟨rfl, _, lm, RI_up (RI_up hR1 (by constructor <;> omega)) (by constructor <;> omega), ?_, ?_, agN_up (agN_up hag (by omega) (by omega)) (by omega) (by omega), (fun _ _ _ _ => rfl), rfl⟩
                                   · rw [hspq]
                                     exact ⟨fun h => by omega, fun _ h => absurd (isL_iff.mp h) (by omega), fun _ _ h => absurd (isD_iff.mp h) (by omega), fun _ _ _ => ⟨fun h => absurd h hsg, fun _ => by rw [up_app, if_pos ⟨rfl, rfl, rfl⟩]⟩⟩
                                   · rw [hspq, up_app, if_neg (by omega), up_app, if_pos ⟨rfl, rfl, rfl⟩])
                            · refine q_iload_n (t := 295) F dX9_next_294 rfl rfl rfl ?_
                              refine q_bipush (t := 297) F dX9_next_295 (by decide) rfl ?_
                              refine q_icmp_ne (t := 300) (u := 321) F dX9_next_297 (by constructor <;> omega) (by constructor <;> omega) (by decide) rfl (fun c297 => ?_) (fun c297 => ?_)
                              · refine q_vret F dX9_next_321 rfl ?_
                                first
                                  | (have hlt : p < n ∧ 97 ≤ b p ∧ b p ≤ 122 := by rcases hx52 with h | h <;> omega
                                     have hrs : span isL b n p = r := by
                                       rw [hsr]
                                       exact span_n (fun z => by have z2 := isL_iff.mp z.2; rcases hx105 with h | h <;> omega)
                                     refine ⟨rfl, im2, lm, hR2, ?_, ?_, hag2, (fun _ _ _ _ => rfl), rfl⟩
                                     · rw [hspq]
                                       exact ⟨fun h => by omega, fun _ _ => ⟨k24, by rw [hrs]; exact k23⟩, fun _ h => absurd (isL_iff.mpr hlt.2) h, fun _ h => absurd (isL_iff.mpr hlt.2) h⟩
                                     · rw [hspq]; exact k25)
                                  | (have hlt : p < n ∧ ¬ (97 ≤ b p ∧ b p ≤ 122) ∧ 48 ≤ b p ∧ b p ≤ 57 := by rcases hx52 with h | h <;> omega
                                     have hrs : span isD b n p = r := by
                                       rw [hsr]
                                       exact span_n (fun z => by have z2 := isD_iff.mp z.2; rcases hx165 with h | h <;> omega)
                                     refine ⟨rfl, _, lm2, RI_up hR2 (by constructor <;> omega), ?_, ?_, agN_up hag2 (by omega) (by omega), hlg, rfl⟩
                                     · rw [hspq]
                                       refine ⟨fun h => by omega, fun _ h => absurd (isL_iff.mp h) hlt.2.1, fun _ _ _ => ⟨by rw [up_app, if_neg (by omega), hrs]; exact k23, ?_, fun h4 => by rw [hrs] at h4 ⊢; exact hnm h4⟩, fun _ _ h => absurd (isD_iff.mpr hlt.2.2) h⟩
                                       rw [up_app, if_pos ⟨rfl, rfl, rfl⟩, hrs]
                                       first
                                         | rw [if_pos (by omega)]
                                         | rw [if_neg (by omega)]
                                     · rw [hspq, up_app, if_neg (by omega)]; exact k25)
                                  | (have hnp : n ≤ p := by rcases hx52 with h | h <;> omega
                                     have e22 : im1 30 0 22 = n := hB1.1
                                     refine ⟨rfl, _, lm, RI_up (RI_up (RI_up (RI_up hR1 (by constructor <;> omega)) (by constructor <;> omega)) (by constructor <;> omega)) (hR1 _ _ _), ?_, ?_, agN_up (agN_up (agN_up (agN_up hag (by omega) (by omega)) (by omega) (by omega)) (by omega) (by omega)) (by omega) (by omega), (fun _ _ _ _ => rfl), rfl⟩
                                     · rw [hspq]
                                       exact ⟨fun _ => by rw [up_app, if_neg (by omega), up_app, if_pos ⟨rfl, rfl, rfl⟩], fun h => by omega, fun h => by omega, fun h => by omega⟩
                                     · rw [hspq, up_app, if_pos ⟨rfl, rfl, rfl⟩]; omega)
                                  | (have hlt : p < n ∧ x52 = b p := by rcases hx52 with h | h <;> omega
                                     have hsg : sgn (b p) := by unfold sgn; omega
                                     refine ⟨rfl, _, _, RI_up (RI_up (RI_up (RI_up hR1 (by constructor <;> omega)) (by constructor <;> omega)) (by constructor <;> omega)) (by rw [g23]; constructor <;> omega), ?_, ?_, agN_up (agN_up (agN_up (agN_up hag (by omega) (by omega)) (by omega) (by omega)) (by omega) (by omega)) (by omega) (by omega), (fun k i s h => by rw [up_app, if_neg (by omega)]), rfl⟩
                                     · rw [hspq]
                                       refine ⟨fun h => by omega, fun _ h => absurd (isL_iff.mp h) (by omega), fun _ _ h => absurd (isD_iff.mp h) (by omega), fun _ _ _ => ⟨fun _ => ⟨?_, ?_, ?_⟩, fun h => absurd hsg h⟩⟩
                                       · rw [up_app, if_neg (by omega), up_app, if_pos ⟨rfl, rfl, rfl⟩]
                                       · rw [up_app, if_pos ⟨rfl, rfl, rfl⟩]; exact hlt.2
                                       · rw [up_app, if_pos ⟨rfl, rfl, rfl⟩, g23]
                                     · rw [hspq]; simp only [up_app]; repeat (first | rfl | rw [if_neg (by omega)] | rw [if_pos (by omega)]))
                                  | (have hlt : p < n ∧ x52 = b p := by rcases hx52 with h | h <;> omega
                                     have hsg : ¬ sgn (b p) := by unfold sgn; omega
                                     refine ⟨rfl, _, lm, RI_up (RI_up hR1 (by constructor <;> omega)) (by constructor <;> omega), ?_, ?_, agN_up (agN_up hag (by omega) (by omega)) (by omega) (by omega), (fun _ _ _ _ => rfl), rfl⟩
                                     · rw [hspq]
                                       exact ⟨fun h => by omega, fun _ h => absurd (isL_iff.mp h) (by omega), fun _ _ h => absurd (isD_iff.mp h) (by omega), fun _ _ _ => ⟨fun h => absurd h hsg, fun _ => by rw [up_app, if_pos ⟨rfl, rfl, rfl⟩]⟩⟩
                                     · rw [hspq, up_app, if_neg (by omega), up_app, if_pos ⟨rfl, rfl, rfl⟩])
                              · refine q_aload_n (t := 301) F dX9_next_300 rfl rfl rfl ?_
                                refine q_iconst (t := 302) F dX9_next_301 rfl ?_
                                refine p_X9_164 (t := 305) F dX9_next_302 rfl rfl ?_
                                refine q_aload_n (t := 306) F dX9_next_305 rfl rfl rfl ?_
                                refine q_iload_n (t := 307) F dX9_next_306 rfl rfl rfl ?_
                                refine q_i2l (t := 308) F dX9_next_307 (by first | exact hR _ _ _ | (constructor <;> omega)) rfl ?_
                                refine p_X9_175 (t := 311) F dX9_next_308 rfl rfl ?_
                                refine q_aload_n (t := 312) F dX9_next_311 rfl rfl rfl ?_
                                refine q_dupR (t := 313) F dX9_next_312 rfl ?_
                                refine g_X9_155 (t := 316) F dX9_next_313 rfl rfl ?_
                                try simp only [up_app, row_app, scr_app, cpy_app, Nat.reduceEqDiff, Int.reduceToNat, Int.toNat_natCast, and_true, true_and, and_false, false_and, and_self, reduceIte]
                                refine q_iconst (t := 317) F dX9_next_316 rfl ?_
                                refine q_iadd (t := 318) F dX9_next_317 rfl ?_
                                refine p_X9_155 (t := 321) F dX9_next_318 rfl rfl ?_
                                refine q_vret F dX9_next_321 rfl ?_
                                first
                                  | (have hlt : p < n ∧ 97 ≤ b p ∧ b p ≤ 122 := by rcases hx52 with h | h <;> omega
                                     have hrs : span isL b n p = r := by
                                       rw [hsr]
                                       exact span_n (fun z => by have z2 := isL_iff.mp z.2; rcases hx105 with h | h <;> omega)
                                     refine ⟨rfl, im2, lm, hR2, ?_, ?_, hag2, (fun _ _ _ _ => rfl), rfl⟩
                                     · rw [hspq]
                                       exact ⟨fun h => by omega, fun _ _ => ⟨k24, by rw [hrs]; exact k23⟩, fun _ h => absurd (isL_iff.mpr hlt.2) h, fun _ h => absurd (isL_iff.mpr hlt.2) h⟩
                                     · rw [hspq]; exact k25)
                                  | (have hlt : p < n ∧ ¬ (97 ≤ b p ∧ b p ≤ 122) ∧ 48 ≤ b p ∧ b p ≤ 57 := by rcases hx52 with h | h <;> omega
                                     have hrs : span isD b n p = r := by
                                       rw [hsr]
                                       exact span_n (fun z => by have z2 := isD_iff.mp z.2; rcases hx165 with h | h <;> omega)
                                     refine ⟨rfl, _, lm2, RI_up hR2 (by constructor <;> omega), ?_, ?_, agN_up hag2 (by omega) (by omega), hlg, rfl⟩
                                     · rw [hspq]
                                       refine ⟨fun h => by omega, fun _ h => absurd (isL_iff.mp h) hlt.2.1, fun _ _ _ => ⟨by rw [up_app, if_neg (by omega), hrs]; exact k23, ?_, fun h4 => by rw [hrs] at h4 ⊢; exact hnm h4⟩, fun _ _ h => absurd (isD_iff.mpr hlt.2.2) h⟩
                                       rw [up_app, if_pos ⟨rfl, rfl, rfl⟩, hrs]
                                       first
                                         | rw [if_pos (by omega)]
                                         | rw [if_neg (by omega)]
                                     · rw [hspq, up_app, if_neg (by omega)]; exact k25)
                                  | (have hnp : n ≤ p := by rcases hx52 with h | h <;> omega
                                     have e22 : im1 30 0 22 = n := hB1.1
                                     refine ⟨rfl, _, lm, RI_up (RI_up (RI_up (RI_up hR1 (by constructor <;> omega)) (by constructor <;> omega)) (by constructor <;> omega)) (hR1 _ _ _), ?_, ?_, agN_up (agN_up (agN_up (agN_up hag (by omega) (by omega)) (by omega) (by omega)) (by omega) (by omega)) (by omega) (by omega), (fun _ _ _ _ => rfl), rfl⟩
                                     · rw [hspq]
                                       exact ⟨fun _ => by rw [up_app, if_neg (by omega), up_app, if_pos ⟨rfl, rfl, rfl⟩], fun h => by omega, fun h => by omega, fun h => by omega⟩
                                     · rw [hspq, up_app, if_pos ⟨rfl, rfl, rfl⟩]; omega)
                                  | (have hlt : p < n ∧ x52 = b p := by rcases hx52 with h | h <;> omega
                                     have hsg : sgn (b p) := by unfold sgn; omega
                                     refine ⟨rfl, _, _, RI_up (RI_up (RI_up (RI_up hR1 (by constructor <;> omega)) (by constructor <;> omega)) (by constructor <;> omega)) (by rw [g23]; constructor <;> omega), ?_, ?_, agN_up (agN_up (agN_up (agN_up hag (by omega) (by omega)) (by omega) (by omega)) (by omega) (by omega)) (by omega) (by omega), (fun k i s h => by rw [up_app, if_neg (by omega)]), rfl⟩
                                     · rw [hspq]
                                       refine ⟨fun h => by omega, fun _ h => absurd (isL_iff.mp h) (by omega), fun _ _ h => absurd (isD_iff.mp h) (by omega), fun _ _ _ => ⟨fun _ => ⟨?_, ?_, ?_⟩, fun h => absurd hsg h⟩⟩
                                       · rw [up_app, if_neg (by omega), up_app, if_pos ⟨rfl, rfl, rfl⟩]
                                       · rw [up_app, if_pos ⟨rfl, rfl, rfl⟩]; exact hlt.2
                                       · rw [up_app, if_pos ⟨rfl, rfl, rfl⟩, g23]
                                     · rw [hspq]; simp only [up_app]; repeat (first | rfl | rw [if_neg (by omega)] | rw [if_pos (by omega)]))
                                  | (have hlt : p < n ∧ x52 = b p := by rcases hx52 with h | h <;> omega
                                     have hsg : ¬ sgn (b p) := by unfold sgn; omega
                                     refine ⟨rfl, _, lm, RI_up (RI_up hR1 (by constructor <;> omega)) (by constructor <;> omega), ?_, ?_, agN_up (agN_up hag (by omega) (by omega)) (by omega) (by omega), (fun _ _ _ _ => rfl), rfl⟩
                                     · rw [hspq]
                                       exact ⟨fun h => by omega, fun _ h => absurd (isL_iff.mp h) (by omega), fun _ _ h => absurd (isD_iff.mp h) (by omega), fun _ _ _ => ⟨fun h => absurd h hsg, fun _ => by rw [up_app, if_pos ⟨rfl, rfl, rfl⟩]⟩⟩
                                     · rw [hspq, up_app, if_neg (by omega), up_app, if_pos ⟨rfl, rfl, rfl⟩])
              · refine q_aload_n (t := 149) F dX9_next_148 rfl rfl rfl ?_
                refine q_iconst (t := 150) F dX9_next_149 rfl ?_
                refine p_X9_164 (t := 153) F dX9_next_150 rfl rfl ?_
                refine q_aload_n (t := 154) F dX9_next_153 rfl rfl rfl ?_
                refine q_lconst (t := 155) (x := 0) F dX9_next_154 (by decide) rfl ?_
                refine p_X9_175 (t := 158) F dX9_next_155 rfl rfl ?_
                refine q_iconst (t := 159) F dX9_next_158 rfl ?_
                refine q_istore_n (t := 160) F dX9_next_159 rfl (by decide) rfl rfl ?_
                have L160 : ∀ (fz : Nat) (r : Nat) (im2 lm2 : IM), n - r < fz → p ≤ r → r ≤ n → RI im2 → agN im2 im → im2 30 0 23 = r → im2 30 0 25 = p → span isD b n p = span isD b n r → (r - p ≤ 4 → lm2 30 0 26 = numF b p (r - p)) → (∀ k i s, ¬ (k = 30 ∧ s = 26) → lm2 k i s = lm k i s) → Wp M (XR G) ad Y_X9_next (pV fun m' => ∃ im' lm', RI im' ∧ TKr b n im' lm' (span isW b n q) ∧ im' 30 0 25 = span isW b n q ∧ agN im' im ∧ (∀ k i s, ¬ (k = 30 ∧ s = 26) → lm' k i s = lm k i s) ∧ m' = (im', rs bt rt, lm')) 160 [some (vR 30 0), some (vI x52), some (vI ((r - p : Nat) : Int))] [] (im2, rs bt rt, lm2) := by
                  intro fz
                  induction fz with
                  | zero => intro r im2 lm2 h; exact absurd h (Nat.not_lt_zero _)
                  | succ fz ih =>
                    have ih160 := ih
                    intro r im2 lm2 hmeas hpr hrn hR2 hag2 k23 k25 hsr hnm hlg
                    have hB2 := BRr_agN hB hag2
                    have hbr : 0 ≤ b r ∧ b r ≤ 255 ∨ n ≤ r := by
                      by_cases h : r < n
                      · exact Or.inl (hb.2 r (by omega))
                      · exact Or.inr (by omega)
                    refine q_aload_n (t := 161) F dX9_next_160 rfl rfl rfl ?_
                    refine q_aload_n (t := 162) F dX9_next_161 rfl rfl rfl ?_
                    refine g_X9_155 (t := 165) F dX9_next_162 rfl rfl ?_
                    try simp only [up_app, row_app, scr_app, cpy_app, Nat.reduceEqDiff, Int.reduceToNat, Int.toNat_natCast, and_true, true_and, and_false, false_and, and_self, reduceIte]
                    rw [k23]
                    refine wp_callV (t := 168) [_] F dX9_next_165 k_X9_byteAt v_X9_byteAt ml_X9_158 rfl rfl rfl rfl (Nat.le_of_ble_eq_true rfl) (by decide) (m_30 (by omega)) (c_X9_byteAt _ G im2 bt rt _ b n hb hR2 hB2 r (by omega)) rfl (kI ?_)
                    rintro x165 m' ⟨hx165, rfl⟩
                    refine q_i2l (t := 169) F dX9_next_168 (by first | exact hR _ _ _ | (constructor <;> omega)) rfl ?_
                    refine q_ldc2 (t := 172) (x := 48) F dX9_next_169 kl_X9_171 (by decide) rfl ?_
                    refine q_ldc2 (t := 175) (x := 57) F dX9_next_172 kl_X9_173 (by decide) rfl ?_
                    refine wp_callS (t := 178) [_, _, _] F dX9_next_175 k_X9_in st_X9_in ml_X9_91 rfl rfl (Nat.le_of_ble_eq_true rfl) (by decide) (c_X9_in _ G _ _ _ _ _ _ _ (by constructor <;> omega) (by constructor <;> omega) (by constructor <;> omega)) rfl (kI ?_)
                    rintro x175 m' ⟨hx175, rfl⟩
                    have hx175 := if01 hx175
                    refine q_if_eq (t := 181) (u := 235) F dX9_next_178 (by first | exact hR _ _ _ | (constructor <;> omega)) (by decide) rfl (fun c178 => ?_) (fun c178 => ?_)
                    · refine q_aload_n (t := 236) F dX9_next_235 rfl rfl rfl ?_
                      refine q_iload_n (t := 237) F dX9_next_236 rfl rfl rfl ?_
                      refine q_iconst (t := 238) F dX9_next_237 rfl ?_
                      refine q_icmp_le (t := 241) (u := 245) F dX9_next_238 (by constructor <;> omega) (by constructor <;> omega) (by decide) rfl (fun c238 => ?_) (fun c238 => ?_)
                      · refine q_iconst (t := 246) F dX9_next_245 rfl ?_
                        refine p_X9_164 (t := 249) F dX9_next_246 rfl rfl ?_
                        refine q_goto (t := 321) F dX9_next_249 (by decide) ?_
                        refine q_vret F dX9_next_321 rfl ?_
                        first
                          | (have hlt : p < n ∧ 97 ≤ b p ∧ b p ≤ 122 := by rcases hx52 with h | h <;> omega
                             have hrs : span isL b n p = r := by
                               rw [hsr]
                               exact span_n (fun z => by have z2 := isL_iff.mp z.2; rcases hx105 with h | h <;> omega)
                             refine ⟨rfl, im2, lm, hR2, ?_, ?_, hag2, (fun _ _ _ _ => rfl), rfl⟩
                             · rw [hspq]
                               exact ⟨fun h => by omega, fun _ _ => ⟨k24, by rw [hrs]; exact k23⟩, fun _ h => absurd (isL_iff.mpr hlt.2) h, fun _ h => absurd (isL_iff.mpr hlt.2) h⟩
                             · rw [hspq]; exact k25)
                          | (have hlt : p < n ∧ ¬ (97 ≤ b p ∧ b p ≤ 122) ∧ 48 ≤ b p ∧ b p ≤ 57 := by rcases hx52 with h | h <;> omega
                             have hrs : span isD b n p = r := by
                               rw [hsr]
                               exact span_n (fun z => by have z2 := isD_iff.mp z.2; rcases hx165 with h | h <;> omega)
                             refine ⟨rfl, _, lm2, RI_up hR2 (by constructor <;> omega), ?_, ?_, agN_up hag2 (by omega) (by omega), hlg, rfl⟩
                             · rw [hspq]
                               refine ⟨fun h => by omega, fun _ h => absurd (isL_iff.mp h) hlt.2.1, fun _ _ _ => ⟨by rw [up_app, if_neg (by omega), hrs]; exact k23, ?_, fun h4 => by rw [hrs] at h4 ⊢; exact hnm h4⟩, fun _ _ h => absurd (isD_iff.mpr hlt.2.2) h⟩
                               rw [up_app, if_pos ⟨rfl, rfl, rfl⟩, hrs]
                               first
                                 | rw [if_pos (by omega)]
                                 | rw [if_neg (by omega)]
                             · rw [hspq, up_app, if_neg (by omega)]; exact k25)
                          | (have hnp : n ≤ p := by rcases hx52 with h | h <;> omega
                             have e22 : im1 30 0 22 = n := hB1.1
                             refine ⟨rfl, _, lm, RI_up (RI_up (RI_up (RI_up hR1 (by constructor <;> omega)) (by constructor <;> omega)) (by constructor <;> omega)) (hR1 _ _ _), ?_, ?_, agN_up (agN_up (agN_up (agN_up hag (by omega) (by omega)) (by omega) (by omega)) (by omega) (by omega)) (by omega) (by omega), (fun _ _ _ _ => rfl), rfl⟩
                             · rw [hspq]
                               exact ⟨fun _ => by rw [up_app, if_neg (by omega), up_app, if_pos ⟨rfl, rfl, rfl⟩], fun h => by omega, fun h => by omega, fun h => by omega⟩
                             · rw [hspq, up_app, if_pos ⟨rfl, rfl, rfl⟩]; omega)
                          | (have hlt : p < n ∧ x52 = b p := by rcases hx52 with h | h <;> omega
                             have hsg : sgn (b p) := by unfold sgn; omega
                             refine ⟨rfl, _, _, RI_up (RI_up (RI_up (RI_up hR1 (by constructor <;> omega)) (by constructor <;> omega)) (by constructor <;> omega)) (by rw [g23]; constructor <;> omega), ?_, ?_, agN_up (agN_up (agN_up (agN_up hag (by omega) (by omega)) (by omega) (by omega)) (by omega) (by omega)) (by omega) (by omega), (fun k i s h => by rw [up_app, if_neg (by omega)]), rfl⟩
                             · rw [hspq]
                               refine ⟨fun h => by omega, fun _ h => absurd (isL_iff.mp h) (by omega), fun _ _ h => absurd (isD_iff.mp h) (by omega), fun _ _ _ => ⟨fun _ => ⟨?_, ?_, ?_⟩, fun h => absurd hsg h⟩⟩
                               · rw [up_app, if_neg (by omega), up_app, if_pos ⟨rfl, rfl, rfl⟩]
                               · rw [up_app, if_pos ⟨rfl, rfl, rfl⟩]; exact hlt.2
                               · rw [up_app, if_pos ⟨rfl, rfl, rfl⟩, g23]
                             · rw [hspq]; simp only [up_app]; repeat (first | rfl | rw [if_neg (by omega)] | rw [if_pos (by omega)]))
                          | (have hlt : p < n ∧ x52 = b p := by rcases hx52 with h | h <;> omega
                             have hsg : ¬ sgn (b p) := by unfold sgn; omega
                             refine ⟨rfl, _, lm, RI_up (RI_up hR1 (by constructor <;> omega)) (by constructor <;> omega), ?_, ?_, agN_up (agN_up hag (by omega) (by omega)) (by omega) (by omega), (fun _ _ _ _ => rfl), rfl⟩
                             · rw [hspq]
                               exact ⟨fun h => by omega, fun _ h => absurd (isL_iff.mp h) (by omega), fun _ _ h => absurd (isD_iff.mp h) (by omega), fun _ _ _ => ⟨fun h => absurd h hsg, fun _ => by rw [up_app, if_pos ⟨rfl, rfl, rfl⟩]⟩⟩
                             · rw [hspq, up_app, if_neg (by omega), up_app, if_pos ⟨rfl, rfl, rfl⟩])
                      · refine q_iconst (t := 242) F dX9_next_241 rfl ?_
                        refine q_goto (t := 246) F dX9_next_242 (by decide) ?_
                        refine p_X9_164 (t := 249) F dX9_next_246 rfl rfl ?_
                        refine q_goto (t := 321) F dX9_next_249 (by decide) ?_
                        refine q_vret F dX9_next_321 rfl ?_
                        first
                          | (have hlt : p < n ∧ 97 ≤ b p ∧ b p ≤ 122 := by rcases hx52 with h | h <;> omega
                             have hrs : span isL b n p = r := by
                               rw [hsr]
                               exact span_n (fun z => by have z2 := isL_iff.mp z.2; rcases hx105 with h | h <;> omega)
                             refine ⟨rfl, im2, lm, hR2, ?_, ?_, hag2, (fun _ _ _ _ => rfl), rfl⟩
                             · rw [hspq]
                               exact ⟨fun h => by omega, fun _ _ => ⟨k24, by rw [hrs]; exact k23⟩, fun _ h => absurd (isL_iff.mpr hlt.2) h, fun _ h => absurd (isL_iff.mpr hlt.2) h⟩
                             · rw [hspq]; exact k25)
                          | (have hlt : p < n ∧ ¬ (97 ≤ b p ∧ b p ≤ 122) ∧ 48 ≤ b p ∧ b p ≤ 57 := by rcases hx52 with h | h <;> omega
                             have hrs : span isD b n p = r := by
                               rw [hsr]
                               exact span_n (fun z => by have z2 := isD_iff.mp z.2; rcases hx165 with h | h <;> omega)
                             refine ⟨rfl, _, lm2, RI_up hR2 (by constructor <;> omega), ?_, ?_, agN_up hag2 (by omega) (by omega), hlg, rfl⟩
                             · rw [hspq]
                               refine ⟨fun h => by omega, fun _ h => absurd (isL_iff.mp h) hlt.2.1, fun _ _ _ => ⟨by rw [up_app, if_neg (by omega), hrs]; exact k23, ?_, fun h4 => by rw [hrs] at h4 ⊢; exact hnm h4⟩, fun _ _ h => absurd (isD_iff.mpr hlt.2.2) h⟩
                               rw [up_app, if_pos ⟨rfl, rfl, rfl⟩, hrs]
                               first
                                 | rw [if_pos (by omega)]
                                 | rw [if_neg (by omega)]
                             · rw [hspq, up_app, if_neg (by omega)]; exact k25)
                          | (have hnp : n ≤ p := by rcases hx52 with h | h <;> omega
                             have e22 : im1 30 0 22 = n := hB1.1
                             refine ⟨rfl, _, lm, RI_up (RI_up (RI_up (RI_up hR1 (by constructor <;> omega)) (by constructor <;> omega)) (by constructor <;> omega)) (hR1 _ _ _), ?_, ?_, agN_up (agN_up (agN_up (agN_up hag (by omega) (by omega)) (by omega) (by omega)) (by omega) (by omega)) (by omega) (by omega), (fun _ _ _ _ => rfl), rfl⟩
                             · rw [hspq]
                               exact ⟨fun _ => by rw [up_app, if_neg (by omega), up_app, if_pos ⟨rfl, rfl, rfl⟩], fun h => by omega, fun h => by omega, fun h => by omega⟩
                             · rw [hspq, up_app, if_pos ⟨rfl, rfl, rfl⟩]; omega)
                          | (have hlt : p < n ∧ x52 = b p := by rcases hx52 with h | h <;> omega
                             have hsg : sgn (b p) := by unfold sgn; omega
                             refine ⟨rfl, _, _, RI_up (RI_up (RI_up (RI_up hR1 (by constructor <;> omega)) (by constructor <;> omega)) (by constructor <;> omega)) (by rw [g23]; constructor <;> omega), ?_, ?_, agN_up (agN_up (agN_up (agN_up hag (by omega) (by omega)) (by omega) (by omega)) (by omega) (by omega)) (by omega) (by omega), (fun k i s h => by rw [up_app, if_neg (by omega)]), rfl⟩
                             · rw [hspq]
                               refine ⟨fun h => by omega, fun _ h => absurd (isL_iff.mp h) (by omega), fun _ _ h => absurd (isD_iff.mp h) (by omega), fun _ _ _ => ⟨fun _ => ⟨?_, ?_, ?_⟩, fun h => absurd hsg h⟩⟩
                               · rw [up_app, if_neg (by omega), up_app, if_pos ⟨rfl, rfl, rfl⟩]
                               · rw [up_app, if_pos ⟨rfl, rfl, rfl⟩]; exact hlt.2
                               · rw [up_app, if_pos ⟨rfl, rfl, rfl⟩, g23]
                             · rw [hspq]; simp only [up_app]; repeat (first | rfl | rw [if_neg (by omega)] | rw [if_pos (by omega)]))
                          | (have hlt : p < n ∧ x52 = b p := by rcases hx52 with h | h <;> omega
                             have hsg : ¬ sgn (b p) := by unfold sgn; omega
                             refine ⟨rfl, _, lm, RI_up (RI_up hR1 (by constructor <;> omega)) (by constructor <;> omega), ?_, ?_, agN_up (agN_up hag (by omega) (by omega)) (by omega) (by omega), (fun _ _ _ _ => rfl), rfl⟩
                             · rw [hspq]
                               exact ⟨fun h => by omega, fun _ h => absurd (isL_iff.mp h) (by omega), fun _ _ h => absurd (isD_iff.mp h) (by omega), fun _ _ _ => ⟨fun h => absurd h hsg, fun _ => by rw [up_app, if_pos ⟨rfl, rfl, rfl⟩]⟩⟩
                             · rw [hspq, up_app, if_neg (by omega), up_app, if_pos ⟨rfl, rfl, rfl⟩])
                    · refine q_aload_n (t := 182) F dX9_next_181 rfl rfl rfl ?_
                      refine q_iload_n (t := 183) F dX9_next_182 rfl rfl rfl ?_
                      refine q_iconst (t := 184) F dX9_next_183 rfl ?_
                      refine q_icmp_ge (t := 187) (u := 212) F dX9_next_184 (by constructor <;> omega) (by constructor <;> omega) (by decide) rfl (fun c184 => ?_) (fun c184 => ?_)
                      · refine q_aload_n (t := 213) F dX9_next_212 rfl rfl rfl ?_
                        refine g_X9_175 (t := 216) F dX9_next_213 rfl rfl ?_
                        try simp only [up_app, row_app, scr_app, cpy_app, Nat.reduceEqDiff, Int.reduceToNat, Int.toNat_natCast, and_true, true_and, and_false, false_and, and_self, reduceIte]
                        refine p_X9_175 (t := 219) F dX9_next_216 rfl rfl ?_
                        refine q_iinc (t := 222) F dX9_next_219 rfl (by decide) rfl rfl ?_
                        refine q_aload_n (t := 223) F dX9_next_222 rfl rfl rfl ?_
                        refine q_dupR (t := 224) F dX9_next_223 rfl ?_
                        refine g_X9_155 (t := 227) F dX9_next_224 rfl rfl ?_
                        try simp only [up_app, row_app, scr_app, cpy_app, Nat.reduceEqDiff, Int.reduceToNat, Int.toNat_natCast, and_true, true_and, and_false, false_and, and_self, reduceIte]
                        refine q_iconst (t := 228) F dX9_next_227 rfl ?_
                        refine q_iadd (t := 229) F dX9_next_228 rfl ?_
                        refine p_X9_155 (t := 232) F dX9_next_229 rfl rfl ?_
                        refine q_goto (t := 160) F dX9_next_232 (by decide) ?_
                        have hlt : r < n ∧ 48 ≤ b r ∧ b r ≤ 57 := by
                          rcases hx165 with h | h
                          · omega
                          · omega
                        rw [show ((r - p : Nat) : Int) + 1 = ((r + 1 - p : Nat) : Int) by omega]
                        refine ih160 (r + 1) _ _ (by omega) (by omega) (by omega) (RI_up hR2 (by rw [k23]; constructor <;> omega)) (agN_up hag2 (by omega) (by omega)) (by rw [up_app, if_pos ⟨rfl, rfl, rfl⟩, k23]; omega) (by rw [up_app, if_neg (by omega)]; exact k25) (by rw [hsr, span_y hlt.1 (isD_iff.mpr hlt.2)]) (fun h4 => ?_) (fun k i s h => by rw [up_app, if_neg (by omega)]; exact hlg k i s h)
                        rw [up_app, if_pos ⟨rfl, rfl, rfl⟩]
                        first
                          | (exfalso; omega)
                          | (have hN := numF_in (b := b) (p := p) (r + 1 - p) h4 (fun d hd => isD_iff.mp (span_all (n := n) _ p rfl (p + d) (by omega) (by rw [hsr, span_y hlt.1 (isD_iff.mpr hlt.2)]; have := (span_in isD b n _ (r + 1) rfl).1; omega)))
                             have hN0 := numF_in (b := b) (p := p) (r - p) (by omega) (fun d hd => isD_iff.mp (span_all (n := n) _ p rfl (p + d) (by omega) (by rw [hsr, span_y hlt.1 (isD_iff.mpr hlt.2)]; have := (span_in isD b n _ (r + 1) rfl).1; omega)))
                             have h1000 : (10 : Int) ^ (r - p) ≤ 1000 := by
                               have : r - p ≤ 3 := by omega
                               generalize r - p = k at this
                               rcases (by omega : k = 0 ∨ k = 1 ∨ k = 2 ∨ k = 3) with rfl | rfl | rfl | rfl <;> decide
                             have hx : x200 = b r := by
                               rcases hx200 with h | h <;> omega
                             rw [hnm (by omega), hx, show r + 1 - p = (r - p) + 1 by omega, numF_s, show p + (r - p) = r by omega, show bm (numF b p (r - p) * 10 + b r - 48) = numF b p (r - p) * 10 + b r - 48 from bm_id ⟨by omega, by omega⟩]
                             omega)
                      · refine q_ldc2 (t := 190) (x := 10) F dX9_next_187 kl_X9_127 (by decide) rfl ?_
                        refine q_aload_n (t := 191) F dX9_next_190 rfl rfl rfl ?_
                        refine g_X9_175 (t := 194) F dX9_next_191 rfl rfl ?_
                        try simp only [up_app, row_app, scr_app, cpy_app, Nat.reduceEqDiff, Int.reduceToNat, Int.toNat_natCast, and_true, true_and, and_false, false_and, and_self, reduceIte]
                        refine q_lmul (t := 195) F dX9_next_194 rfl ?_
                        refine q_aload_n (t := 196) F dX9_next_195 rfl rfl rfl ?_
                        refine q_aload_n (t := 197) F dX9_next_196 rfl rfl rfl ?_
                        refine g_X9_155 (t := 200) F dX9_next_197 rfl rfl ?_
                        try simp only [up_app, row_app, scr_app, cpy_app, Nat.reduceEqDiff, Int.reduceToNat, Int.toNat_natCast, and_true, true_and, and_false, false_and, and_self, reduceIte]
                        rw [k23]
                        refine wp_callV (t := 203) [_] F dX9_next_200 k_X9_byteAt v_X9_byteAt ml_X9_158 rfl rfl rfl rfl (Nat.le_of_ble_eq_true rfl) (by decide) (m_30 (by omega)) (c_X9_byteAt _ G im2 bt rt _ b n hb hR2 hB2 r (by omega)) rfl (kI ?_)
                        rintro x200 m' ⟨hx200, rfl⟩
                        refine q_i2l (t := 204) F dX9_next_203 (by first | exact hR _ _ _ | (constructor <;> omega)) rfl ?_
                        refine q_ladd (t := 205) F dX9_next_204 rfl ?_
                        refine q_ldc2 (t := 208) (x := 48) F dX9_next_205 kl_X9_171 (by decide) rfl ?_
                        refine q_lsub (t := 209) F dX9_next_208 rfl ?_
                        refine q_goto (t := 216) F dX9_next_209 (by decide) ?_
                        refine p_X9_175 (t := 219) F dX9_next_216 rfl rfl ?_
                        refine q_iinc (t := 222) F dX9_next_219 rfl (by decide) rfl rfl ?_
                        refine q_aload_n (t := 223) F dX9_next_222 rfl rfl rfl ?_
                        refine q_dupR (t := 224) F dX9_next_223 rfl ?_
                        refine g_X9_155 (t := 227) F dX9_next_224 rfl rfl ?_
                        try simp only [up_app, row_app, scr_app, cpy_app, Nat.reduceEqDiff, Int.reduceToNat, Int.toNat_natCast, and_true, true_and, and_false, false_and, and_self, reduceIte]
                        refine q_iconst (t := 228) F dX9_next_227 rfl ?_
                        refine q_iadd (t := 229) F dX9_next_228 rfl ?_
                        refine p_X9_155 (t := 232) F dX9_next_229 rfl rfl ?_
                        refine q_goto (t := 160) F dX9_next_232 (by decide) ?_
                        have hlt : r < n ∧ 48 ≤ b r ∧ b r ≤ 57 := by
                          rcases hx165 with h | h
                          · omega
                          · omega
                        rw [show ((r - p : Nat) : Int) + 1 = ((r + 1 - p : Nat) : Int) by omega]
                        refine ih160 (r + 1) _ _ (by omega) (by omega) (by omega) (RI_up hR2 (by rw [k23]; constructor <;> omega)) (agN_up hag2 (by omega) (by omega)) (by rw [up_app, if_pos ⟨rfl, rfl, rfl⟩, k23]; omega) (by rw [up_app, if_neg (by omega)]; exact k25) (by rw [hsr, span_y hlt.1 (isD_iff.mpr hlt.2)]) (fun h4 => ?_) (fun k i s h => by rw [up_app, if_neg (by omega)]; exact hlg k i s h)
                        rw [up_app, if_pos ⟨rfl, rfl, rfl⟩]
                        first
                          | (exfalso; omega)
                          | (have hN := numF_in (b := b) (p := p) (r + 1 - p) h4 (fun d hd => isD_iff.mp (span_all (n := n) _ p rfl (p + d) (by omega) (by rw [hsr, span_y hlt.1 (isD_iff.mpr hlt.2)]; have := (span_in isD b n _ (r + 1) rfl).1; omega)))
                             have hN0 := numF_in (b := b) (p := p) (r - p) (by omega) (fun d hd => isD_iff.mp (span_all (n := n) _ p rfl (p + d) (by omega) (by rw [hsr, span_y hlt.1 (isD_iff.mpr hlt.2)]; have := (span_in isD b n _ (r + 1) rfl).1; omega)))
                             have h1000 : (10 : Int) ^ (r - p) ≤ 1000 := by
                               have : r - p ≤ 3 := by omega
                               generalize r - p = k at this
                               rcases (by omega : k = 0 ∨ k = 1 ∨ k = 2 ∨ k = 3) with rfl | rfl | rfl | rfl <;> decide
                             have hx : x200 = b r := by
                               rcases hx200 with h | h <;> omega
                             rw [hnm (by omega), hx, show r + 1 - p = (r - p) + 1 by omega, numF_s, show p + (r - p) = r by omega, show bm (numF b p (r - p) * 10 + b r - 48) = numF b p (r - p) * 10 + b r - 48 from bm_id ⟨by omega, by omega⟩]
                             omega)
                rw [show (0 : Int) = ((p - p : Nat) : Int) by omega]
                exact L160 _ p _ _ (Nat.lt_succ_self _) (Nat.le_refl _) hpn (RI_up (RI_up (RI_up hR1 (by constructor <;> omega)) (by constructor <;> omega)) (by constructor <;> omega)) (agN_up (agN_up (agN_up hag (by omega) (by omega)) (by omega) (by omega)) (by omega) (by omega)) (by simp only [up_app]; repeat (first | exact g23 | rw [if_neg (by omega)])) (by simp only [up_app]; repeat (first | rfl | rw [if_neg (by omega)] | rw [if_pos (by omega)])) rfl (fun _ => by rw [up_app, if_pos ⟨rfl, rfl, rfl⟩, Nat.sub_self]; simp [numF]) (fun k i s h => by rw [up_app, if_neg (by omega)])
            · refine q_aload_n (t := 96) F dX9_next_95 rfl rfl rfl ?_
              refine q_iconst (t := 97) F dX9_next_96 rfl ?_
              refine p_X9_164 (t := 100) F dX9_next_97 rfl rfl ?_
              have L100 : ∀ (fz : Nat) (r : Nat) (im2 : IM), n - r < fz → p ≤ r → r ≤ n → RI im2 → agN im2 im → im2 30 0 23 = r → im2 30 0 24 = 1 → im2 30 0 25 = p → span isL b n p = span isL b n r → Wp M (XR G) ad Y_X9_next (pV fun m' => ∃ im' lm', RI im' ∧ TKr b n im' lm' (span isW b n q) ∧ im' 30 0 25 = span isW b n q ∧ agN im' im ∧ (∀ k i s, ¬ (k = 30 ∧ s = 26) → lm' k i s = lm k i s) ∧ m' = (im', rs bt rt, lm')) 100 [some (vR 30 0), some (vI x52), none] [] (im2, rs bt rt, lm) := by
                intro fz
                induction fz with
                | zero => intro r im2 h; exact absurd h (Nat.not_lt_zero _)
                | succ fz ih =>
                  have ih100 := ih
                  intro r im2 hmeas hpr hrn hR2 hag2 k23 k24 k25 hsr
                  have hB2 := BRr_agN hB hag2
                  have hbr : 0 ≤ b r ∧ b r ≤ 255 ∨ n ≤ r := by
                    by_cases h : r < n
                    · exact Or.inl (hb.2 r (by omega))
                    · exact Or.inr (by omega)
                  refine q_aload_n (t := 101) F dX9_next_100 rfl rfl rfl ?_
                  refine q_aload_n (t := 102) F dX9_next_101 rfl rfl rfl ?_
                  refine g_X9_155 (t := 105) F dX9_next_102 rfl rfl ?_
                  try simp only [up_app, row_app, scr_app, cpy_app, Nat.reduceEqDiff, Int.reduceToNat, Int.toNat_natCast, and_true, true_and, and_false, false_and, and_self, reduceIte]
                  rw [k23]
                  refine wp_callV (t := 108) [_] F dX9_next_105 k_X9_byteAt v_X9_byteAt ml_X9_158 rfl rfl rfl rfl (Nat.le_of_ble_eq_true rfl) (by decide) (m_30 (by omega)) (c_X9_byteAt _ G im2 bt rt _ b n hb hR2 hB2 r (by omega)) rfl (kI ?_)
                  rintro x105 m' ⟨hx105, rfl⟩
                  refine q_i2l (t := 109) F dX9_next_108 (by first | exact hR _ _ _ | (constructor <;> omega)) rfl ?_
                  refine q_ldc2 (t := 112) (x := 97) F dX9_next_109 kl_X9_167 (by decide) rfl ?_
                  refine q_ldc2 (t := 115) (x := 122) F dX9_next_112 kl_X9_169 (by decide) rfl ?_
                  refine wp_callS (t := 118) [_, _, _] F dX9_next_115 k_X9_in st_X9_in ml_X9_91 rfl rfl (Nat.le_of_ble_eq_true rfl) (by decide) (c_X9_in _ G _ _ _ _ _ _ _ (by constructor <;> omega) (by constructor <;> omega) (by constructor <;> omega)) rfl (kI ?_)
                  rintro x115 m' ⟨hx115, rfl⟩
                  have hx115 := if01 hx115
                  refine q_if_eq (t := 121) (u := 321) F dX9_next_118 (by first | exact hR _ _ _ | (constructor <;> omega)) (by decide) rfl (fun c118 => ?_) (fun c118 => ?_)
                  · refine q_vret F dX9_next_321 rfl ?_
                    first
                      | (have hlt : p < n ∧ 97 ≤ b p ∧ b p ≤ 122 := by rcases hx52 with h | h <;> omega
                         have hrs : span isL b n p = r := by
                           rw [hsr]
                           exact span_n (fun z => by have z2 := isL_iff.mp z.2; rcases hx105 with h | h <;> omega)
                         refine ⟨rfl, im2, lm, hR2, ?_, ?_, hag2, (fun _ _ _ _ => rfl), rfl⟩
                         · rw [hspq]
                           exact ⟨fun h => by omega, fun _ _ => ⟨k24, by rw [hrs]; exact k23⟩, fun _ h => absurd (isL_iff.mpr hlt.2) h, fun _ h => absurd (isL_iff.mpr hlt.2) h⟩
                         · rw [hspq]; exact k25)
                      | (have hlt : p < n ∧ ¬ (97 ≤ b p ∧ b p ≤ 122) ∧ 48 ≤ b p ∧ b p ≤ 57 := by rcases hx52 with h | h <;> omega
                         have hrs : span isD b n p = r := by
                           rw [hsr]
                           exact span_n (fun z => by have z2 := isD_iff.mp z.2; rcases hx165 with h | h <;> omega)
                         refine ⟨rfl, _, lm2, RI_up hR2 (by constructor <;> omega), ?_, ?_, agN_up hag2 (by omega) (by omega), hlg, rfl⟩
                         · rw [hspq]
                           refine ⟨fun h => by omega, fun _ h => absurd (isL_iff.mp h) hlt.2.1, fun _ _ _ => ⟨by rw [up_app, if_neg (by omega), hrs]; exact k23, ?_, fun h4 => by rw [hrs] at h4 ⊢; exact hnm h4⟩, fun _ _ h => absurd (isD_iff.mpr hlt.2.2) h⟩
                           rw [up_app, if_pos ⟨rfl, rfl, rfl⟩, hrs]
                           first
                             | rw [if_pos (by omega)]
                             | rw [if_neg (by omega)]
                         · rw [hspq, up_app, if_neg (by omega)]; exact k25)
                      | (have hnp : n ≤ p := by rcases hx52 with h | h <;> omega
                         have e22 : im1 30 0 22 = n := hB1.1
                         refine ⟨rfl, _, lm, RI_up (RI_up (RI_up (RI_up hR1 (by constructor <;> omega)) (by constructor <;> omega)) (by constructor <;> omega)) (hR1 _ _ _), ?_, ?_, agN_up (agN_up (agN_up (agN_up hag (by omega) (by omega)) (by omega) (by omega)) (by omega) (by omega)) (by omega) (by omega), (fun _ _ _ _ => rfl), rfl⟩
                         · rw [hspq]
                           exact ⟨fun _ => by rw [up_app, if_neg (by omega), up_app, if_pos ⟨rfl, rfl, rfl⟩], fun h => by omega, fun h => by omega, fun h => by omega⟩
                         · rw [hspq, up_app, if_pos ⟨rfl, rfl, rfl⟩]; omega)
                      | (have hlt : p < n ∧ x52 = b p := by rcases hx52 with h | h <;> omega
                         have hsg : sgn (b p) := by unfold sgn; omega
                         refine ⟨rfl, _, _, RI_up (RI_up (RI_up (RI_up hR1 (by constructor <;> omega)) (by constructor <;> omega)) (by constructor <;> omega)) (by rw [g23]; constructor <;> omega), ?_, ?_, agN_up (agN_up (agN_up (agN_up hag (by omega) (by omega)) (by omega) (by omega)) (by omega) (by omega)) (by omega) (by omega), (fun k i s h => by rw [up_app, if_neg (by omega)]), rfl⟩
                         · rw [hspq]
                           refine ⟨fun h => by omega, fun _ h => absurd (isL_iff.mp h) (by omega), fun _ _ h => absurd (isD_iff.mp h) (by omega), fun _ _ _ => ⟨fun _ => ⟨?_, ?_, ?_⟩, fun h => absurd hsg h⟩⟩
                           · rw [up_app, if_neg (by omega), up_app, if_pos ⟨rfl, rfl, rfl⟩]
                           · rw [up_app, if_pos ⟨rfl, rfl, rfl⟩]; exact hlt.2
                           · rw [up_app, if_pos ⟨rfl, rfl, rfl⟩, g23]
                         · rw [hspq]; simp only [up_app]; repeat (first | rfl | rw [if_neg (by omega)] | rw [if_pos (by omega)]))
                      | (have hlt : p < n ∧ x52 = b p := by rcases hx52 with h | h <;> omega
                         have hsg : ¬ sgn (b p) := by unfold sgn; omega
                         refine ⟨rfl, _, lm, RI_up (RI_up hR1 (by constructor <;> omega)) (by constructor <;> omega), ?_, ?_, agN_up (agN_up hag (by omega) (by omega)) (by omega) (by omega), (fun _ _ _ _ => rfl), rfl⟩
                         · rw [hspq]
                           exact ⟨fun h => by omega, fun _ h => absurd (isL_iff.mp h) (by omega), fun _ _ h => absurd (isD_iff.mp h) (by omega), fun _ _ _ => ⟨fun h => absurd h hsg, fun _ => by rw [up_app, if_pos ⟨rfl, rfl, rfl⟩]⟩⟩
                         · rw [hspq, up_app, if_neg (by omega), up_app, if_pos ⟨rfl, rfl, rfl⟩])
                  · refine q_aload_n (t := 122) F dX9_next_121 rfl rfl rfl ?_
                    refine q_dupR (t := 123) F dX9_next_122 rfl ?_
                    refine g_X9_155 (t := 126) F dX9_next_123 rfl rfl ?_
                    try simp only [up_app, row_app, scr_app, cpy_app, Nat.reduceEqDiff, Int.reduceToNat, Int.toNat_natCast, and_true, true_and, and_false, false_and, and_self, reduceIte]
                    refine q_iconst (t := 127) F dX9_next_126 rfl ?_
                    refine q_iadd (t := 128) F dX9_next_127 rfl ?_
                    refine p_X9_155 (t := 131) F dX9_next_128 rfl rfl ?_
                    refine q_goto (t := 100) F dX9_next_131 (by decide) ?_
                    have hlt : r < n ∧ 97 ≤ b r ∧ b r ≤ 122 := by
                      rcases hx105 with h | h
                      · omega
                      · omega
                    exact ih100 (r + 1) _ (by omega) (by omega) (by omega) (RI_up hR2 (by rw [k23]; constructor <;> omega)) (agN_up hag2 (by omega) (by omega)) (by rw [up_app, if_pos ⟨rfl, rfl, rfl⟩, k23]; omega) (by rw [up_app, if_neg (by omega)]; exact k24) (by rw [up_app, if_neg (by omega)]; exact k25) (by rw [hsr, span_y hlt.1 (isL_iff.mpr hlt.2)])
              exact L100 _ p _ (Nat.lt_succ_self _) (Nat.le_refl _) hpn (RI_up (RI_up (RI_up hR1 (by constructor <;> omega)) (by constructor <;> omega)) (by constructor <;> omega)) (agN_up (agN_up (agN_up hag (by omega) (by omega)) (by omega) (by omega)) (by omega) (by omega)) (by simp only [up_app]; repeat (first | exact g23 | rw [if_neg (by omega)])) (by rw [up_app, if_pos ⟨rfl, rfl, rfl⟩]) (by simp only [up_app]; repeat (first | rfl | rw [if_neg (by omega)] | rw [if_pos (by omega)])) rfl
          · refine q_aload_n (t := 66) F dX9_next_65 rfl rfl rfl ?_
            refine q_iconst (t := 67) F dX9_next_66 rfl ?_
            refine p_X9_164 (t := 70) F dX9_next_67 rfl rfl ?_
            refine q_aload_n (t := 71) F dX9_next_70 rfl rfl rfl ?_
            refine q_aload_n (t := 72) F dX9_next_71 rfl rfl rfl ?_
            refine g_X9_149 (t := 75) F dX9_next_72 rfl rfl ?_
            try simp only [up_app, row_app, scr_app, cpy_app, Nat.reduceEqDiff, Int.reduceToNat, Int.toNat_natCast, and_true, true_and, and_false, false_and, and_self, reduceIte]
            refine p_X9_161 (t := 78) F dX9_next_75 rfl rfl ?_
            refine q_goto (t := 321) F dX9_next_78 (by decide) ?_
            refine q_vret F dX9_next_321 rfl ?_
            first
              | (have hlt : p < n ∧ 97 ≤ b p ∧ b p ≤ 122 := by rcases hx52 with h | h <;> omega
                 have hrs : span isL b n p = r := by
                   rw [hsr]
                   exact span_n (fun z => by have z2 := isL_iff.mp z.2; rcases hx105 with h | h <;> omega)
                 refine ⟨rfl, im2, lm, hR2, ?_, ?_, hag2, (fun _ _ _ _ => rfl), rfl⟩
                 · rw [hspq]
                   exact ⟨fun h => by omega, fun _ _ => ⟨k24, by rw [hrs]; exact k23⟩, fun _ h => absurd (isL_iff.mpr hlt.2) h, fun _ h => absurd (isL_iff.mpr hlt.2) h⟩
                 · rw [hspq]; exact k25)
              | (have hlt : p < n ∧ ¬ (97 ≤ b p ∧ b p ≤ 122) ∧ 48 ≤ b p ∧ b p ≤ 57 := by rcases hx52 with h | h <;> omega
                 have hrs : span isD b n p = r := by
                   rw [hsr]
                   exact span_n (fun z => by have z2 := isD_iff.mp z.2; rcases hx165 with h | h <;> omega)
                 refine ⟨rfl, _, lm2, RI_up hR2 (by constructor <;> omega), ?_, ?_, agN_up hag2 (by omega) (by omega), hlg, rfl⟩
                 · rw [hspq]
                   refine ⟨fun h => by omega, fun _ h => absurd (isL_iff.mp h) hlt.2.1, fun _ _ _ => ⟨by rw [up_app, if_neg (by omega), hrs]; exact k23, ?_, fun h4 => by rw [hrs] at h4 ⊢; exact hnm h4⟩, fun _ _ h => absurd (isD_iff.mpr hlt.2.2) h⟩
                   rw [up_app, if_pos ⟨rfl, rfl, rfl⟩, hrs]
                   first
                     | rw [if_pos (by omega)]
                     | rw [if_neg (by omega)]
                 · rw [hspq, up_app, if_neg (by omega)]; exact k25)
              | (have hnp : n ≤ p := by rcases hx52 with h | h <;> omega
                 have e22 : im1 30 0 22 = n := hB1.1
                 refine ⟨rfl, _, lm, RI_up (RI_up (RI_up (RI_up hR1 (by constructor <;> omega)) (by constructor <;> omega)) (by constructor <;> omega)) (hR1 _ _ _), ?_, ?_, agN_up (agN_up (agN_up (agN_up hag (by omega) (by omega)) (by omega) (by omega)) (by omega) (by omega)) (by omega) (by omega), (fun _ _ _ _ => rfl), rfl⟩
                 · rw [hspq]
                   exact ⟨fun _ => by rw [up_app, if_neg (by omega), up_app, if_pos ⟨rfl, rfl, rfl⟩], fun h => by omega, fun h => by omega, fun h => by omega⟩
                 · rw [hspq, up_app, if_pos ⟨rfl, rfl, rfl⟩]; omega)
              | (have hlt : p < n ∧ x52 = b p := by rcases hx52 with h | h <;> omega
                 have hsg : sgn (b p) := by unfold sgn; omega
                 refine ⟨rfl, _, _, RI_up (RI_up (RI_up (RI_up hR1 (by constructor <;> omega)) (by constructor <;> omega)) (by constructor <;> omega)) (by rw [g23]; constructor <;> omega), ?_, ?_, agN_up (agN_up (agN_up (agN_up hag (by omega) (by omega)) (by omega) (by omega)) (by omega) (by omega)) (by omega) (by omega), (fun k i s h => by rw [up_app, if_neg (by omega)]), rfl⟩
                 · rw [hspq]
                   refine ⟨fun h => by omega, fun _ h => absurd (isL_iff.mp h) (by omega), fun _ _ h => absurd (isD_iff.mp h) (by omega), fun _ _ _ => ⟨fun _ => ⟨?_, ?_, ?_⟩, fun h => absurd hsg h⟩⟩
                   · rw [up_app, if_neg (by omega), up_app, if_pos ⟨rfl, rfl, rfl⟩]
                   · rw [up_app, if_pos ⟨rfl, rfl, rfl⟩]; exact hlt.2
                   · rw [up_app, if_pos ⟨rfl, rfl, rfl⟩, g23]
                 · rw [hspq]; simp only [up_app]; repeat (first | rfl | rw [if_neg (by omega)] | rw [if_pos (by omega)]))
              | (have hlt : p < n ∧ x52 = b p := by rcases hx52 with h | h <;> omega
                 have hsg : ¬ sgn (b p) := by unfold sgn; omega
                 refine ⟨rfl, _, lm, RI_up (RI_up hR1 (by constructor <;> omega)) (by constructor <;> omega), ?_, ?_, agN_up (agN_up hag (by omega) (by omega)) (by omega) (by omega), (fun _ _ _ _ => rfl), rfl⟩
                 · rw [hspq]
                   exact ⟨fun h => by omega, fun _ h => absurd (isL_iff.mp h) (by omega), fun _ _ h => absurd (isD_iff.mp h) (by omega), fun _ _ _ => ⟨fun h => absurd h hsg, fun _ => by rw [up_app, if_pos ⟨rfl, rfl, rfl⟩]⟩⟩
                 · rw [hspq, up_app, if_neg (by omega), up_app, if_pos ⟨rfl, rfl, rfl⟩])
        · refine q_aload_n (t := 27) F dX9_next_26 rfl rfl rfl ?_
          refine q_dupR (t := 28) F dX9_next_27 rfl ?_
          refine g_X9_155 (t := 31) F dX9_next_28 rfl rfl ?_
          try simp only [up_app, row_app, scr_app, cpy_app, Nat.reduceEqDiff, Int.reduceToNat, Int.toNat_natCast, and_true, true_and, and_false, false_and, and_self, reduceIte]
          refine q_iconst (t := 32) F dX9_next_31 rfl ?_
          refine q_iadd (t := 33) F dX9_next_32 rfl ?_
          refine p_X9_155 (t := 36) F dX9_next_33 rfl rfl ?_
          refine q_goto (t := 0) F dX9_next_36 (by decide) ?_
          have hlt : p < n ∧ (b p = 32 ∨ b p = 10) := by
            rcases hx5 with h | h
            · first
                | omega
                | (rcases hx18 with h2 | h2 <;> omega)
            · first
                | omega
                | (rcases hx18 with h2 | h2 <;> omega)
          exact ih0 (p + 1) _ (by omega) (by omega) (by omega) (RI_up hR1 (by rw [g23]; constructor <;> omega)) (agN_up hag (by omega) (by omega)) (by rw [up_app, if_pos ⟨rfl, rfl, rfl⟩, g23]; omega) (by rw [hsp, span_y hlt.1 (isW_iff.mpr hlt.2)])
  exact L0 _ q im (Nat.lt_succ_self _) (Nat.le_refl _) hq hR (agN_rfl im) h23 rfl
