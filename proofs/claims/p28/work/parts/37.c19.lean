/-! the next token -/
theorem RS_end {b : Nat → Int} {n p : Nat} {im : IM} {f : Int} (h : n ≤ p) (h2 : im 14 0 2 = p) (h3 : im 14 0 3 = p) (h4 : im 14 0 4 = 0) (h6 : im 14 0 6 = f) : RS b n im p f := by
  have e : tk b n p = 0 := tk_0 h
  refine ⟨?_, h3, by rw [e]; exact h4, fun q => by rw [e] at q; omega, h6⟩
  unfold nx
  rw [if_pos h]; exact h2
theorem RS_L {b : Nat → Int} {n p : Nat} {im : IM} {f : Int} (h : p < n) (hl : isL (b p) = true) (h2 : im 14 0 2 = span isL b n p) (h3 : im 14 0 3 = p) (h4 : im 14 0 4 = tkW (wIx b p (span isL b n p) 12)) (h5 : wIx b p (span isL b n p) 12 ≠ -1 → im 14 0 5 = wIx b p (span isL b n p) 12) (h6 : im 14 0 6 = f) : RS b n im p f := by
  have e : tk b n p = tkW (wIx b p (span isL b n p) 12) := by unfold tk; rw [if_neg (by omega), if_pos hl]
  refine ⟨?_, h3, by rw [e]; exact h4, fun q => ?_, h6⟩
  · unfold nx
    rw [if_neg (by omega), if_pos hl]; exact h2
  · unfold vl
    rw [if_pos hl]
    refine h5 (fun z => ?_)
    rw [e, z] at q
    have : tkW (-1) = 1 := rfl
    omega
theorem RS_D {b : Nat → Int} {n p : Nat} {im : IM} {f : Int} (h : p < n) (hl : ¬ isL (b p) = true) (hd : isD (b p) = true) (h2 : im 14 0 2 = span isD b n p) (h3 : im 14 0 3 = p) (h4 : im 14 0 4 = (if 4 < span isD b n p - p then 1 else 2)) (h5 : im 14 0 5 = numF b p (span isD b n p - p)) (h6 : im 14 0 6 = f) : RS b n im p f := by
  refine ⟨?_, h3, ?_, fun q => ?_, h6⟩
  · unfold nx
    rw [if_neg (by omega), if_neg hl, if_pos hd]; exact h2
  · unfold tk
    rw [if_neg (by omega), if_neg hl, if_pos hd]; exact h4
  · unfold vl
    rw [if_neg hl]; exact h5
theorem RS_S {b : Nat → Int} {n p : Nat} {im : IM} {f : Int} (h : p < n) (hl : ¬ isL (b p) = true) (hd : ¬ isD (b p) = true) (h2 : im 14 0 2 = (p : Int) + 1) (h3 : im 14 0 3 = p) (h4 : im 14 0 4 = (if sgn (b p) then b p else 1)) (h6 : im 14 0 6 = f) : RS b n im p f := by
  have e : tk b n p = (if sgn (b p) then b p else 1) := by unfold tk; rw [if_neg (by omega), if_neg hl, if_neg hd]
  refine ⟨?_, h3, by rw [e]; exact h4, fun q => ?_, h6⟩
  · unfold nx
    rw [if_neg (by omega), if_neg hl, if_neg hd]; omega
  · rw [e] at q
    unfold sgn at q
    exfalso
    split at q <;> omega

set_option maxHeartbeats 4000000 in
theorem c_X4_advance (l : Launch) (G : GS) (im : IM) (bt j : Nat) (lm : IM) (b : Nat → Int) (n : Nat) (hb : byt b n) (hR : RI im) (hb2 : im 15 0 = b) (hsz : im 14 0 1 = n) (p0 : Nat) (hp0 : p0 ≤ n) (hnx : im 14 0 2 = p0) : Cn l (XC G) yX4_advance Y_X4_advance [vR 14 0] (im, rs bt j, lm) (pV fun m' => ∃ im', RI im' ∧ (∀ k i s, ¬ (k = 14 ∧ 2 ≤ s ∧ s ≤ 5) → im' k i s = im k i s) ∧ RS b n im' (span isW b n p0) (im 14 0 6) ∧ m' = (im', rs bt j, lm)) := by
  refine cn_of (by decide) (okC G) rfl (Nat.le_of_ble_eq_true rfl) ?_
  intro M ad hMl F
  subst hMl
  have hn := hb.1
  have e15 : ∀ s, im 15 0 s = b s := fun s => congrFun hb2 s
  refine wp_pad 0 ?_
  show Wp M (XC G) ad Y_X4_advance (pV fun m' => ∃ im', RI im' ∧ (∀ k i s, ¬ (k = 14 ∧ 2 ≤ s ∧ s ≤ 5) → im' k i s = im k i s) ∧ RS b n im' (span isW b n p0) (im 14 0 6) ∧ m' = (im', rs bt j, lm)) 0 [some (vR 14 0)] [] (im, rs bt j, lm)
  have L0 : ∀ (fz : Nat) (q : Nat) (im2 : IM), n - q < fz → p0 ≤ q → q ≤ n → RI im2 → (∀ k i s, ¬ (k = 14 ∧ s = 2) → im2 k i s = im k i s) → im2 14 0 2 = q → span isW b n p0 = span isW b n q → Wp M (XC G) ad Y_X4_advance (pV fun m' => ∃ im', RI im' ∧ (∀ k i s, ¬ (k = 14 ∧ 2 ≤ s ∧ s ≤ 5) → im' k i s = im k i s) ∧ RS b n im' (span isW b n p0) (im 14 0 6) ∧ m' = (im', rs bt j, lm)) 0 [some (vR 14 0)] [] (im2, rs bt j, lm) := by
    intro fz
    induction fz with
    | zero => intro q im2 h; exact absurd h (Nat.not_lt_zero _)
    | succ fz ih =>
      have ih0 := ih
      intro q im2 hmeas hpq hqn hR2 hag g2 hspn
      have g15 : ∀ s, im2 15 0 s = b s := fun s => (hag 15 0 s (by omega)).trans (e15 s)
      have g1 : im2 14 0 1 = n := (hag 14 0 1 (by omega)).trans hsz
      have g6 : im2 14 0 6 = im 14 0 6 := hag 14 0 6 (by omega)
      refine q_aload_n (t := 1) F dX4_advance_0 rfl rfl rfl ?_
      refine g_X4_31 (t := 4) F dX4_advance_1 rfl rfl ?_
      refine q_aload_n (t := 5) F dX4_advance_4 rfl rfl rfl ?_
      refine g_X4_19 (t := 8) F dX4_advance_5 rfl rfl ?_
      refine q_icmp_ge (t := 11) (u := 52) F dX4_advance_8 (by constructor <;> omega) (by constructor <;> omega) (by decide) rfl (fun c8 => ?_) (fun c8 => ?_)
      · have hsp : span isW b n p0 = q := by
          rw [hspn]
          exact span_n (fun z => by have z2 := isW_iff.mp z.2; omega)
        have hR3 : RI (up im2 14 0 3 (q : Int)) := RI_up hR2 (by constructor <;> omega)
        refine q_aload_n (t := 53) F dX4_advance_52 rfl rfl rfl ?_
        refine q_aload_n (t := 54) F dX4_advance_53 rfl rfl rfl ?_
        refine g_X4_31 (t := 57) F dX4_advance_54 rfl rfl ?_
        rw [g2]
        refine p_X4_57 (t := 60) F dX4_advance_57 rfl rfl ?_
        refine q_aload_n (t := 61) F dX4_advance_60 rfl rfl rfl ?_
        refine g_X4_31 (t := 64) F dX4_advance_61 rfl rfl ?_
        try simp only [up_app, row_app, scr_app, cpy_app, Nat.reduceEqDiff, Int.reduceToNat, Int.toNat_natCast, and_true, true_and, and_false, false_and, and_self, reduceIte]
        refine q_aload_n (t := 65) F dX4_advance_64 rfl rfl rfl ?_
        refine g_X4_19 (t := 68) F dX4_advance_65 rfl rfl ?_
        try simp only [up_app, row_app, scr_app, cpy_app, Nat.reduceEqDiff, Int.reduceToNat, Int.toNat_natCast, and_true, true_and, and_false, false_and, and_self, reduceIte]
        refine q_icmp_lt (t := 71) (u := 79) F dX4_advance_68 (by constructor <;> omega) (by constructor <;> omega) (by decide) rfl (fun c68 => ?_) (fun c68 => ?_)
        · have hbq2 := hb.2 q (by omega)
          refine q_aload_n (t := 80) F dX4_advance_79 rfl rfl rfl ?_
          refine g_X4_9 (t := 83) F dX4_advance_80 rfl rfl ?_
          refine q_aload_n (t := 84) F dX4_advance_83 rfl rfl rfl ?_
          refine g_X4_31 (t := 87) F dX4_advance_84 rfl rfl ?_
          try simp only [up_app, row_app, scr_app, cpy_app, Nat.reduceEqDiff, Int.reduceToNat, Int.toNat_natCast, and_true, true_and, and_false, false_and, and_self, reduceIte]
          rw [g2]
          first | refine ldN_15 (t := 88) F dX4_advance_87 (by omega) rfl ?_ | refine ld_15 (t := 88) F dX4_advance_87 (by omega) (by omega) rfl ?_
          try simp only [up_app, row_app, scr_app, cpy_app, Nat.reduceEqDiff, Int.reduceToNat, Int.toNat_natCast, and_true, true_and, and_false, false_and, and_self, reduceIte]
          rw [g15]
          refine wp_callS (t := 91) [_] F dX4_advance_88 k_X4_isLetter st_X4_isLetter ml_X4_85 rfl rfl (Nat.le_of_ble_eq_true rfl) (by decide) (c_X4_isLetter _ G _ bt j lm (b q) (by constructor <;> omega)) rfl (kI ?_)
          rintro x88 m' ⟨hx88, rfl⟩
          have hx88 := if01 hx88
          refine q_if_eq (t := 94) (u := 101) F dX4_advance_91 (by first | exact hR _ _ _ | (constructor <;> omega)) (by decide) rfl (fun c91 => ?_) (fun c91 => ?_)
          · refine q_aload_n (t := 102) F dX4_advance_101 rfl rfl rfl ?_
            refine g_X4_9 (t := 105) F dX4_advance_102 rfl rfl ?_
            refine q_aload_n (t := 106) F dX4_advance_105 rfl rfl rfl ?_
            refine g_X4_31 (t := 109) F dX4_advance_106 rfl rfl ?_
            try simp only [up_app, row_app, scr_app, cpy_app, Nat.reduceEqDiff, Int.reduceToNat, Int.toNat_natCast, and_true, true_and, and_false, false_and, and_self, reduceIte]
            rw [g2]
            first | refine ldN_15 (t := 110) F dX4_advance_109 (by omega) rfl ?_ | refine ld_15 (t := 110) F dX4_advance_109 (by omega) (by omega) rfl ?_
            try simp only [up_app, row_app, scr_app, cpy_app, Nat.reduceEqDiff, Int.reduceToNat, Int.toNat_natCast, and_true, true_and, and_false, false_and, and_self, reduceIte]
            rw [g15]
            refine wp_callS (t := 113) [_] F dX4_advance_110 k_X4_isDigit st_X4_isDigit ml_X4_91 rfl rfl (Nat.le_of_ble_eq_true rfl) (by decide) (c_X4_isDigit _ G _ bt j lm (b q) (by constructor <;> omega)) rfl (kI ?_)
            rintro x110 m' ⟨hx110, rfl⟩
            have hx110 := if01 hx110
            refine q_if_eq (t := 116) (u := 123) F dX4_advance_113 (by first | exact hR _ _ _ | (constructor <;> omega)) (by decide) rfl (fun c113 => ?_) (fun c113 => ?_)
            · refine q_aload_n (t := 124) F dX4_advance_123 rfl rfl rfl ?_
              refine wp_callV (t := 127) [] F dX4_advance_124 k_X4_readSign v_X4_readSign ml_X4_97 rfl rfl rfl rfl (Nat.le_of_ble_eq_true rfl) (by decide) (m_14 (by omega)) (c_X4_readSign _ G _ bt j lm b n hb hR3 (funext fun s => by rw [up_app, if_neg (by omega)]; exact g15 s) q (by omega) (by rw [up_app, if_neg (by omega)]; exact g2)) rfl (kV ?_)
              rintro m' rfl
              refine q_vret F dX4_advance_127 rfl ?_
              first
                | (have hl : isL (b q) = true := by
                     rcases hx88 with h | h
                     · exact h.2
                     · omega
                   refine ⟨rfl, im4, hR4, (fun k i s h => by rw [hag4 k i s (by omega), up_app, if_neg (by omega)]; exact hag k i s (by omega)), ?_, rfl⟩
                   rw [hsp]
                   exact RS_L (by omega) hl k2 (by rw [hag4 14 0 3 (by omega), up_app, if_pos ⟨rfl, rfl, rfl⟩]) k4 k5 (by rw [hag4 14 0 6 (by omega), up_app, if_neg (by omega)]; exact g6))
                | (have hl : ¬ isL (b q) = true := by
                     rcases hx88 with h | h
                     · omega
                     · exact h.2
                   have hd : isD (b q) = true := by
                     rcases hx110 with h | h
                     · exact h.2
                     · omega
                   refine ⟨rfl, im4, hR4, (fun k i s h => by rw [hag4 k i s (by omega), up_app, if_neg (by omega)]; exact hag k i s (by omega)), ?_, rfl⟩
                   rw [hsp]
                   exact RS_D (by omega) hl hd k2 (by rw [hag4 14 0 3 (by omega), up_app, if_pos ⟨rfl, rfl, rfl⟩]) k4 k5 (by rw [hag4 14 0 6 (by omega), up_app, if_neg (by omega)]; exact g6))
                | (have hl : ¬ isL (b q) = true := by
                     rcases hx88 with h | h
                     · omega
                     · exact h.2
                   have hd : ¬ isD (b q) = true := by
                     rcases hx110 with h | h
                     · omega
                     · exact h.2
                   refine ⟨rfl, _, RI_up (RI_up hR3 (by split <;> constructor <;> omega)) (by constructor <;> omega), (fun k i s h => by rw [up_app, if_neg (by omega), up_app, if_neg (by omega), up_app, if_neg (by omega)]; exact hag k i s (by omega)), ?_, rfl⟩
                   rw [hsp]
                   exact RS_S (by omega) hl hd rfl rfl rfl g6)
                | (refine ⟨rfl, _, RI_up hR3 (by constructor <;> omega), (fun k i s h => by rw [up_app, if_neg (by omega), up_app, if_neg (by omega)]; exact hag k i s (by omega)), ?_, rfl⟩
                   rw [hsp]
                   exact RS_end (by omega) (by rw [up_app, if_neg (by omega), up_app, if_neg (by omega)]; exact g2) rfl rfl g6)
            · refine q_aload_n (t := 117) F dX4_advance_116 rfl rfl rfl ?_
              refine wp_callV (t := 120) [] F dX4_advance_117 k_X4_readNumber v_X4_readNumber ml_X4_94 rfl rfl rfl rfl (Nat.le_of_ble_eq_true rfl) (by decide) (m_14 (by omega)) (c_X4_readNumber _ G _ bt j lm b n hb hR3 (funext fun s => by rw [up_app, if_neg (by omega)]; exact g15 s) (by rw [up_app, if_neg (by omega)]; exact g1) q (by omega) (by rw [up_app, if_neg (by omega)]; exact g2) (by rw [up_app, if_pos ⟨rfl, rfl, rfl⟩])) rfl (kV ?_)
              rintro m' ⟨im4, hR4, hag4, k2, k4, k5, rfl⟩
              refine q_goto (t := 127) F dX4_advance_120 (by decide) ?_
              refine q_vret F dX4_advance_127 rfl ?_
              first
                | (have hl : isL (b q) = true := by
                     rcases hx88 with h | h
                     · exact h.2
                     · omega
                   refine ⟨rfl, im4, hR4, (fun k i s h => by rw [hag4 k i s (by omega), up_app, if_neg (by omega)]; exact hag k i s (by omega)), ?_, rfl⟩
                   rw [hsp]
                   exact RS_L (by omega) hl k2 (by rw [hag4 14 0 3 (by omega), up_app, if_pos ⟨rfl, rfl, rfl⟩]) k4 k5 (by rw [hag4 14 0 6 (by omega), up_app, if_neg (by omega)]; exact g6))
                | (have hl : ¬ isL (b q) = true := by
                     rcases hx88 with h | h
                     · omega
                     · exact h.2
                   have hd : isD (b q) = true := by
                     rcases hx110 with h | h
                     · exact h.2
                     · omega
                   refine ⟨rfl, im4, hR4, (fun k i s h => by rw [hag4 k i s (by omega), up_app, if_neg (by omega)]; exact hag k i s (by omega)), ?_, rfl⟩
                   rw [hsp]
                   exact RS_D (by omega) hl hd k2 (by rw [hag4 14 0 3 (by omega), up_app, if_pos ⟨rfl, rfl, rfl⟩]) k4 k5 (by rw [hag4 14 0 6 (by omega), up_app, if_neg (by omega)]; exact g6))
                | (have hl : ¬ isL (b q) = true := by
                     rcases hx88 with h | h
                     · omega
                     · exact h.2
                   have hd : ¬ isD (b q) = true := by
                     rcases hx110 with h | h
                     · omega
                     · exact h.2
                   refine ⟨rfl, _, RI_up (RI_up hR3 (by split <;> constructor <;> omega)) (by constructor <;> omega), (fun k i s h => by rw [up_app, if_neg (by omega), up_app, if_neg (by omega), up_app, if_neg (by omega)]; exact hag k i s (by omega)), ?_, rfl⟩
                   rw [hsp]
                   exact RS_S (by omega) hl hd rfl rfl rfl g6)
                | (refine ⟨rfl, _, RI_up hR3 (by constructor <;> omega), (fun k i s h => by rw [up_app, if_neg (by omega), up_app, if_neg (by omega)]; exact hag k i s (by omega)), ?_, rfl⟩
                   rw [hsp]
                   exact RS_end (by omega) (by rw [up_app, if_neg (by omega), up_app, if_neg (by omega)]; exact g2) rfl rfl g6)
          · refine q_aload_n (t := 95) F dX4_advance_94 rfl rfl rfl ?_
            refine wp_callV (t := 98) [] F dX4_advance_95 k_X4_readWord v_X4_readWord ml_X4_88 rfl rfl rfl rfl (Nat.le_of_ble_eq_true rfl) (by decide) (m_14 (by omega)) (c_X4_readWord _ G _ bt j lm b n hb hR3 (funext fun s => by rw [up_app, if_neg (by omega)]; exact g15 s) (by rw [up_app, if_neg (by omega)]; exact g1) q (by omega) (by rcases hx88 with h | h; exact h.2; omega) (by rw [up_app, if_neg (by omega)]; exact g2) (by rw [up_app, if_pos ⟨rfl, rfl, rfl⟩])) rfl (kV ?_)
            rintro m' ⟨im4, hR4, hag4, k2, k4, k5, rfl⟩
            refine q_goto (t := 127) F dX4_advance_98 (by decide) ?_
            refine q_vret F dX4_advance_127 rfl ?_
            first
              | (have hl : isL (b q) = true := by
                   rcases hx88 with h | h
                   · exact h.2
                   · omega
                 refine ⟨rfl, im4, hR4, (fun k i s h => by rw [hag4 k i s (by omega), up_app, if_neg (by omega)]; exact hag k i s (by omega)), ?_, rfl⟩
                 rw [hsp]
                 exact RS_L (by omega) hl k2 (by rw [hag4 14 0 3 (by omega), up_app, if_pos ⟨rfl, rfl, rfl⟩]) k4 k5 (by rw [hag4 14 0 6 (by omega), up_app, if_neg (by omega)]; exact g6))
              | (have hl : ¬ isL (b q) = true := by
                   rcases hx88 with h | h
                   · omega
                   · exact h.2
                 have hd : isD (b q) = true := by
                   rcases hx110 with h | h
                   · exact h.2
                   · omega
                 refine ⟨rfl, im4, hR4, (fun k i s h => by rw [hag4 k i s (by omega), up_app, if_neg (by omega)]; exact hag k i s (by omega)), ?_, rfl⟩
                 rw [hsp]
                 exact RS_D (by omega) hl hd k2 (by rw [hag4 14 0 3 (by omega), up_app, if_pos ⟨rfl, rfl, rfl⟩]) k4 k5 (by rw [hag4 14 0 6 (by omega), up_app, if_neg (by omega)]; exact g6))
              | (have hl : ¬ isL (b q) = true := by
                   rcases hx88 with h | h
                   · omega
                   · exact h.2
                 have hd : ¬ isD (b q) = true := by
                   rcases hx110 with h | h
                   · omega
                   · exact h.2
                 refine ⟨rfl, _, RI_up (RI_up hR3 (by split <;> constructor <;> omega)) (by constructor <;> omega), (fun k i s h => by rw [up_app, if_neg (by omega), up_app, if_neg (by omega), up_app, if_neg (by omega)]; exact hag k i s (by omega)), ?_, rfl⟩
                 rw [hsp]
                 exact RS_S (by omega) hl hd rfl rfl rfl g6)
              | (refine ⟨rfl, _, RI_up hR3 (by constructor <;> omega), (fun k i s h => by rw [up_app, if_neg (by omega), up_app, if_neg (by omega)]; exact hag k i s (by omega)), ?_, rfl⟩
                 rw [hsp]
                 exact RS_end (by omega) (by rw [up_app, if_neg (by omega), up_app, if_neg (by omega)]; exact g2) rfl rfl g6)
        · refine q_aload_n (t := 72) F dX4_advance_71 rfl rfl rfl ?_
          refine q_iconst (t := 73) F dX4_advance_72 rfl ?_
          refine p_X4_54 (t := 76) F dX4_advance_73 rfl rfl ?_
          refine q_goto (t := 127) F dX4_advance_76 (by decide) ?_
          refine q_vret F dX4_advance_127 rfl ?_
          first
            | (have hl : isL (b q) = true := by
                 rcases hx88 with h | h
                 · exact h.2
                 · omega
               refine ⟨rfl, im4, hR4, (fun k i s h => by rw [hag4 k i s (by omega), up_app, if_neg (by omega)]; exact hag k i s (by omega)), ?_, rfl⟩
               rw [hsp]
               exact RS_L (by omega) hl k2 (by rw [hag4 14 0 3 (by omega), up_app, if_pos ⟨rfl, rfl, rfl⟩]) k4 k5 (by rw [hag4 14 0 6 (by omega), up_app, if_neg (by omega)]; exact g6))
            | (have hl : ¬ isL (b q) = true := by
                 rcases hx88 with h | h
                 · omega
                 · exact h.2
               have hd : isD (b q) = true := by
                 rcases hx110 with h | h
                 · exact h.2
                 · omega
               refine ⟨rfl, im4, hR4, (fun k i s h => by rw [hag4 k i s (by omega), up_app, if_neg (by omega)]; exact hag k i s (by omega)), ?_, rfl⟩
               rw [hsp]
               exact RS_D (by omega) hl hd k2 (by rw [hag4 14 0 3 (by omega), up_app, if_pos ⟨rfl, rfl, rfl⟩]) k4 k5 (by rw [hag4 14 0 6 (by omega), up_app, if_neg (by omega)]; exact g6))
            | (have hl : ¬ isL (b q) = true := by
                 rcases hx88 with h | h
                 · omega
                 · exact h.2
               have hd : ¬ isD (b q) = true := by
                 rcases hx110 with h | h
                 · omega
                 · exact h.2
               refine ⟨rfl, _, RI_up (RI_up hR3 (by split <;> constructor <;> omega)) (by constructor <;> omega), (fun k i s h => by rw [up_app, if_neg (by omega), up_app, if_neg (by omega), up_app, if_neg (by omega)]; exact hag k i s (by omega)), ?_, rfl⟩
               rw [hsp]
               exact RS_S (by omega) hl hd rfl rfl rfl g6)
            | (refine ⟨rfl, _, RI_up hR3 (by constructor <;> omega), (fun k i s h => by rw [up_app, if_neg (by omega), up_app, if_neg (by omega)]; exact hag k i s (by omega)), ?_, rfl⟩
               rw [hsp]
               exact RS_end (by omega) (by rw [up_app, if_neg (by omega), up_app, if_neg (by omega)]; exact g2) rfl rfl g6)
      · have hbq := hb.2 q (by omega)
        refine q_aload_n (t := 12) F dX4_advance_11 rfl rfl rfl ?_
        refine g_X4_9 (t := 15) F dX4_advance_12 rfl rfl ?_
        refine q_aload_n (t := 16) F dX4_advance_15 rfl rfl rfl ?_
        refine g_X4_31 (t := 19) F dX4_advance_16 rfl rfl ?_
        rw [g2]
        first | refine ldN_15 (t := 20) F dX4_advance_19 (by omega) rfl ?_ | refine ld_15 (t := 20) F dX4_advance_19 (by omega) (by omega) rfl ?_
        rw [g15]
        refine q_bipush (t := 22) F dX4_advance_20 (by decide) rfl ?_
        refine q_icmp_eq (t := 25) (u := 39) F dX4_advance_22 (by constructor <;> omega) (by constructor <;> omega) (by decide) rfl (fun c22 => ?_) (fun c22 => ?_)
        · refine q_aload_n (t := 40) F dX4_advance_39 rfl rfl rfl ?_
          refine q_dupR (t := 41) F dX4_advance_40 rfl ?_
          refine g_X4_31 (t := 44) F dX4_advance_41 rfl rfl ?_
          refine q_iconst (t := 45) F dX4_advance_44 rfl ?_
          refine q_iadd (t := 46) F dX4_advance_45 rfl ?_
          refine p_X4_31 (t := 49) F dX4_advance_46 rfl rfl ?_
          refine q_goto (t := 0) F dX4_advance_49 (by decide) ?_
          refine ih0 (q + 1) _ (by omega) (by omega) (by omega) (RI_up hR2 (by constructor <;> omega)) (fun k i s h => by rw [up_app, if_neg (by omega)]; exact hag k i s h) (by rw [up_app, if_pos ⟨rfl, rfl, rfl⟩, g2]; omega) (by rw [hspn, span_y (by omega) (isW_iff.mpr (by omega))])
        · refine q_aload_n (t := 26) F dX4_advance_25 rfl rfl rfl ?_
          refine g_X4_9 (t := 29) F dX4_advance_26 rfl rfl ?_
          refine q_aload_n (t := 30) F dX4_advance_29 rfl rfl rfl ?_
          refine g_X4_31 (t := 33) F dX4_advance_30 rfl rfl ?_
          rw [g2]
          first | refine ldN_15 (t := 34) F dX4_advance_33 (by omega) rfl ?_ | refine ld_15 (t := 34) F dX4_advance_33 (by omega) (by omega) rfl ?_
          rw [g15]
          refine q_bipush (t := 36) F dX4_advance_34 (by decide) rfl ?_
          refine q_icmp_ne (t := 39) (u := 52) F dX4_advance_36 (by constructor <;> omega) (by constructor <;> omega) (by decide) rfl (fun c36 => ?_) (fun c36 => ?_)
          · have hsp : span isW b n p0 = q := by
              rw [hspn]
              exact span_n (fun z => by have z2 := isW_iff.mp z.2; omega)
            have hR3 : RI (up im2 14 0 3 (q : Int)) := RI_up hR2 (by constructor <;> omega)
            refine q_aload_n (t := 53) F dX4_advance_52 rfl rfl rfl ?_
            refine q_aload_n (t := 54) F dX4_advance_53 rfl rfl rfl ?_
            refine g_X4_31 (t := 57) F dX4_advance_54 rfl rfl ?_
            rw [g2]
            refine p_X4_57 (t := 60) F dX4_advance_57 rfl rfl ?_
            refine q_aload_n (t := 61) F dX4_advance_60 rfl rfl rfl ?_
            refine g_X4_31 (t := 64) F dX4_advance_61 rfl rfl ?_
            try simp only [up_app, row_app, scr_app, cpy_app, Nat.reduceEqDiff, Int.reduceToNat, Int.toNat_natCast, and_true, true_and, and_false, false_and, and_self, reduceIte]
            refine q_aload_n (t := 65) F dX4_advance_64 rfl rfl rfl ?_
            refine g_X4_19 (t := 68) F dX4_advance_65 rfl rfl ?_
            try simp only [up_app, row_app, scr_app, cpy_app, Nat.reduceEqDiff, Int.reduceToNat, Int.toNat_natCast, and_true, true_and, and_false, false_and, and_self, reduceIte]
            refine q_icmp_lt (t := 71) (u := 79) F dX4_advance_68 (by constructor <;> omega) (by constructor <;> omega) (by decide) rfl (fun c68 => ?_) (fun c68 => ?_)
            · have hbq2 := hb.2 q (by omega)
              refine q_aload_n (t := 80) F dX4_advance_79 rfl rfl rfl ?_
              refine g_X4_9 (t := 83) F dX4_advance_80 rfl rfl ?_
              refine q_aload_n (t := 84) F dX4_advance_83 rfl rfl rfl ?_
              refine g_X4_31 (t := 87) F dX4_advance_84 rfl rfl ?_
              try simp only [up_app, row_app, scr_app, cpy_app, Nat.reduceEqDiff, Int.reduceToNat, Int.toNat_natCast, and_true, true_and, and_false, false_and, and_self, reduceIte]
              rw [g2]
              first | refine ldN_15 (t := 88) F dX4_advance_87 (by omega) rfl ?_ | refine ld_15 (t := 88) F dX4_advance_87 (by omega) (by omega) rfl ?_
              try simp only [up_app, row_app, scr_app, cpy_app, Nat.reduceEqDiff, Int.reduceToNat, Int.toNat_natCast, and_true, true_and, and_false, false_and, and_self, reduceIte]
              rw [g15]
              refine wp_callS (t := 91) [_] F dX4_advance_88 k_X4_isLetter st_X4_isLetter ml_X4_85 rfl rfl (Nat.le_of_ble_eq_true rfl) (by decide) (c_X4_isLetter _ G _ bt j lm (b q) (by constructor <;> omega)) rfl (kI ?_)
              rintro x88 m' ⟨hx88, rfl⟩
              have hx88 := if01 hx88
              refine q_if_eq (t := 94) (u := 101) F dX4_advance_91 (by first | exact hR _ _ _ | (constructor <;> omega)) (by decide) rfl (fun c91 => ?_) (fun c91 => ?_)
              · refine q_aload_n (t := 102) F dX4_advance_101 rfl rfl rfl ?_
                refine g_X4_9 (t := 105) F dX4_advance_102 rfl rfl ?_
                refine q_aload_n (t := 106) F dX4_advance_105 rfl rfl rfl ?_
                refine g_X4_31 (t := 109) F dX4_advance_106 rfl rfl ?_
                try simp only [up_app, row_app, scr_app, cpy_app, Nat.reduceEqDiff, Int.reduceToNat, Int.toNat_natCast, and_true, true_and, and_false, false_and, and_self, reduceIte]
                rw [g2]
                first | refine ldN_15 (t := 110) F dX4_advance_109 (by omega) rfl ?_ | refine ld_15 (t := 110) F dX4_advance_109 (by omega) (by omega) rfl ?_
                try simp only [up_app, row_app, scr_app, cpy_app, Nat.reduceEqDiff, Int.reduceToNat, Int.toNat_natCast, and_true, true_and, and_false, false_and, and_self, reduceIte]
                rw [g15]
                refine wp_callS (t := 113) [_] F dX4_advance_110 k_X4_isDigit st_X4_isDigit ml_X4_91 rfl rfl (Nat.le_of_ble_eq_true rfl) (by decide) (c_X4_isDigit _ G _ bt j lm (b q) (by constructor <;> omega)) rfl (kI ?_)
                rintro x110 m' ⟨hx110, rfl⟩
                have hx110 := if01 hx110
                refine q_if_eq (t := 116) (u := 123) F dX4_advance_113 (by first | exact hR _ _ _ | (constructor <;> omega)) (by decide) rfl (fun c113 => ?_) (fun c113 => ?_)
                · refine q_aload_n (t := 124) F dX4_advance_123 rfl rfl rfl ?_
                  refine wp_callV (t := 127) [] F dX4_advance_124 k_X4_readSign v_X4_readSign ml_X4_97 rfl rfl rfl rfl (Nat.le_of_ble_eq_true rfl) (by decide) (m_14 (by omega)) (c_X4_readSign _ G _ bt j lm b n hb hR3 (funext fun s => by rw [up_app, if_neg (by omega)]; exact g15 s) q (by omega) (by rw [up_app, if_neg (by omega)]; exact g2)) rfl (kV ?_)
                  rintro m' rfl
                  refine q_vret F dX4_advance_127 rfl ?_
                  first
                    | (have hl : isL (b q) = true := by
                         rcases hx88 with h | h
                         · exact h.2
                         · omega
                       refine ⟨rfl, im4, hR4, (fun k i s h => by rw [hag4 k i s (by omega), up_app, if_neg (by omega)]; exact hag k i s (by omega)), ?_, rfl⟩
                       rw [hsp]
                       exact RS_L (by omega) hl k2 (by rw [hag4 14 0 3 (by omega), up_app, if_pos ⟨rfl, rfl, rfl⟩]) k4 k5 (by rw [hag4 14 0 6 (by omega), up_app, if_neg (by omega)]; exact g6))
                    | (have hl : ¬ isL (b q) = true := by
                         rcases hx88 with h | h
                         · omega
                         · exact h.2
                       have hd : isD (b q) = true := by
                         rcases hx110 with h | h
                         · exact h.2
                         · omega
                       refine ⟨rfl, im4, hR4, (fun k i s h => by rw [hag4 k i s (by omega), up_app, if_neg (by omega)]; exact hag k i s (by omega)), ?_, rfl⟩
                       rw [hsp]
                       exact RS_D (by omega) hl hd k2 (by rw [hag4 14 0 3 (by omega), up_app, if_pos ⟨rfl, rfl, rfl⟩]) k4 k5 (by rw [hag4 14 0 6 (by omega), up_app, if_neg (by omega)]; exact g6))
                    | (have hl : ¬ isL (b q) = true := by
                         rcases hx88 with h | h
                         · omega
                         · exact h.2
                       have hd : ¬ isD (b q) = true := by
                         rcases hx110 with h | h
                         · omega
                         · exact h.2
                       refine ⟨rfl, _, RI_up (RI_up hR3 (by split <;> constructor <;> omega)) (by constructor <;> omega), (fun k i s h => by rw [up_app, if_neg (by omega), up_app, if_neg (by omega), up_app, if_neg (by omega)]; exact hag k i s (by omega)), ?_, rfl⟩
                       rw [hsp]
                       exact RS_S (by omega) hl hd rfl rfl rfl g6)
                    | (refine ⟨rfl, _, RI_up hR3 (by constructor <;> omega), (fun k i s h => by rw [up_app, if_neg (by omega), up_app, if_neg (by omega)]; exact hag k i s (by omega)), ?_, rfl⟩
                       rw [hsp]
                       exact RS_end (by omega) (by rw [up_app, if_neg (by omega), up_app, if_neg (by omega)]; exact g2) rfl rfl g6)
                · refine q_aload_n (t := 117) F dX4_advance_116 rfl rfl rfl ?_
                  refine wp_callV (t := 120) [] F dX4_advance_117 k_X4_readNumber v_X4_readNumber ml_X4_94 rfl rfl rfl rfl (Nat.le_of_ble_eq_true rfl) (by decide) (m_14 (by omega)) (c_X4_readNumber _ G _ bt j lm b n hb hR3 (funext fun s => by rw [up_app, if_neg (by omega)]; exact g15 s) (by rw [up_app, if_neg (by omega)]; exact g1) q (by omega) (by rw [up_app, if_neg (by omega)]; exact g2) (by rw [up_app, if_pos ⟨rfl, rfl, rfl⟩])) rfl (kV ?_)
                  rintro m' ⟨im4, hR4, hag4, k2, k4, k5, rfl⟩
                  refine q_goto (t := 127) F dX4_advance_120 (by decide) ?_
                  refine q_vret F dX4_advance_127 rfl ?_
                  first
                    | (have hl : isL (b q) = true := by
                         rcases hx88 with h | h
                         · exact h.2
                         · omega
                       refine ⟨rfl, im4, hR4, (fun k i s h => by rw [hag4 k i s (by omega), up_app, if_neg (by omega)]; exact hag k i s (by omega)), ?_, rfl⟩
                       rw [hsp]
                       exact RS_L (by omega) hl k2 (by rw [hag4 14 0 3 (by omega), up_app, if_pos ⟨rfl, rfl, rfl⟩]) k4 k5 (by rw [hag4 14 0 6 (by omega), up_app, if_neg (by omega)]; exact g6))
                    | (have hl : ¬ isL (b q) = true := by
                         rcases hx88 with h | h
                         · omega
                         · exact h.2
                       have hd : isD (b q) = true := by
                         rcases hx110 with h | h
                         · exact h.2
                         · omega
                       refine ⟨rfl, im4, hR4, (fun k i s h => by rw [hag4 k i s (by omega), up_app, if_neg (by omega)]; exact hag k i s (by omega)), ?_, rfl⟩
                       rw [hsp]
                       exact RS_D (by omega) hl hd k2 (by rw [hag4 14 0 3 (by omega), up_app, if_pos ⟨rfl, rfl, rfl⟩]) k4 k5 (by rw [hag4 14 0 6 (by omega), up_app, if_neg (by omega)]; exact g6))
                    | (have hl : ¬ isL (b q) = true := by
                         rcases hx88 with h | h
                         · omega
                         · exact h.2
                       have hd : ¬ isD (b q) = true := by
                         rcases hx110 with h | h
                         · omega
                         · exact h.2
                       refine ⟨rfl, _, RI_up (RI_up hR3 (by split <;> constructor <;> omega)) (by constructor <;> omega), (fun k i s h => by rw [up_app, if_neg (by omega), up_app, if_neg (by omega), up_app, if_neg (by omega)]; exact hag k i s (by omega)), ?_, rfl⟩
                       rw [hsp]
                       exact RS_S (by omega) hl hd rfl rfl rfl g6)
                    | (refine ⟨rfl, _, RI_up hR3 (by constructor <;> omega), (fun k i s h => by rw [up_app, if_neg (by omega), up_app, if_neg (by omega)]; exact hag k i s (by omega)), ?_, rfl⟩
                       rw [hsp]
                       exact RS_end (by omega) (by rw [up_app, if_neg (by omega), up_app, if_neg (by omega)]; exact g2) rfl rfl g6)
              · refine q_aload_n (t := 95) F dX4_advance_94 rfl rfl rfl ?_
                refine wp_callV (t := 98) [] F dX4_advance_95 k_X4_readWord v_X4_readWord ml_X4_88 rfl rfl rfl rfl (Nat.le_of_ble_eq_true rfl) (by decide) (m_14 (by omega)) (c_X4_readWord _ G _ bt j lm b n hb hR3 (funext fun s => by rw [up_app, if_neg (by omega)]; exact g15 s) (by rw [up_app, if_neg (by omega)]; exact g1) q (by omega) (by rcases hx88 with h | h; exact h.2; omega) (by rw [up_app, if_neg (by omega)]; exact g2) (by rw [up_app, if_pos ⟨rfl, rfl, rfl⟩])) rfl (kV ?_)
                rintro m' ⟨im4, hR4, hag4, k2, k4, k5, rfl⟩
                refine q_goto (t := 127) F dX4_advance_98 (by decide) ?_
                refine q_vret F dX4_advance_127 rfl ?_
                first
                  | (have hl : isL (b q) = true := by
                       rcases hx88 with h | h
                       · exact h.2
                       · omega
                     refine ⟨rfl, im4, hR4, (fun k i s h => by rw [hag4 k i s (by omega), up_app, if_neg (by omega)]; exact hag k i s (by omega)), ?_, rfl⟩
                     rw [hsp]
                     exact RS_L (by omega) hl k2 (by rw [hag4 14 0 3 (by omega), up_app, if_pos ⟨rfl, rfl, rfl⟩]) k4 k5 (by rw [hag4 14 0 6 (by omega), up_app, if_neg (by omega)]; exact g6))
                  | (have hl : ¬ isL (b q) = true := by
                       rcases hx88 with h | h
                       · omega
                       · exact h.2
                     have hd : isD (b q) = true := by
                       rcases hx110 with h | h
                       · exact h.2
                       · omega
                     refine ⟨rfl, im4, hR4, (fun k i s h => by rw [hag4 k i s (by omega), up_app, if_neg (by omega)]; exact hag k i s (by omega)), ?_, rfl⟩
                     rw [hsp]
                     exact RS_D (by omega) hl hd k2 (by rw [hag4 14 0 3 (by omega), up_app, if_pos ⟨rfl, rfl, rfl⟩]) k4 k5 (by rw [hag4 14 0 6 (by omega), up_app, if_neg (by omega)]; exact g6))
                  | (have hl : ¬ isL (b q) = true := by
                       rcases hx88 with h | h
                       · omega
                       · exact h.2
                     have hd : ¬ isD (b q) = true := by
                       rcases hx110 with h | h
                       · omega
                       · exact h.2
                     refine ⟨rfl, _, RI_up (RI_up hR3 (by split <;> constructor <;> omega)) (by constructor <;> omega), (fun k i s h => by rw [up_app, if_neg (by omega), up_app, if_neg (by omega), up_app, if_neg (by omega)]; exact hag k i s (by omega)), ?_, rfl⟩
                     rw [hsp]
                     exact RS_S (by omega) hl hd rfl rfl rfl g6)
                  | (refine ⟨rfl, _, RI_up hR3 (by constructor <;> omega), (fun k i s h => by rw [up_app, if_neg (by omega), up_app, if_neg (by omega)]; exact hag k i s (by omega)), ?_, rfl⟩
                     rw [hsp]
                     exact RS_end (by omega) (by rw [up_app, if_neg (by omega), up_app, if_neg (by omega)]; exact g2) rfl rfl g6)
            · refine q_aload_n (t := 72) F dX4_advance_71 rfl rfl rfl ?_
              refine q_iconst (t := 73) F dX4_advance_72 rfl ?_
              refine p_X4_54 (t := 76) F dX4_advance_73 rfl rfl ?_
              refine q_goto (t := 127) F dX4_advance_76 (by decide) ?_
              refine q_vret F dX4_advance_127 rfl ?_
              first
                | (have hl : isL (b q) = true := by
                     rcases hx88 with h | h
                     · exact h.2
                     · omega
                   refine ⟨rfl, im4, hR4, (fun k i s h => by rw [hag4 k i s (by omega), up_app, if_neg (by omega)]; exact hag k i s (by omega)), ?_, rfl⟩
                   rw [hsp]
                   exact RS_L (by omega) hl k2 (by rw [hag4 14 0 3 (by omega), up_app, if_pos ⟨rfl, rfl, rfl⟩]) k4 k5 (by rw [hag4 14 0 6 (by omega), up_app, if_neg (by omega)]; exact g6))
                | (have hl : ¬ isL (b q) = true := by
                     rcases hx88 with h | h
                     · omega
                     · exact h.2
                   have hd : isD (b q) = true := by
                     rcases hx110 with h | h
                     · exact h.2
                     · omega
                   refine ⟨rfl, im4, hR4, (fun k i s h => by rw [hag4 k i s (by omega), up_app, if_neg (by omega)]; exact hag k i s (by omega)), ?_, rfl⟩
                   rw [hsp]
                   exact RS_D (by omega) hl hd k2 (by rw [hag4 14 0 3 (by omega), up_app, if_pos ⟨rfl, rfl, rfl⟩]) k4 k5 (by rw [hag4 14 0 6 (by omega), up_app, if_neg (by omega)]; exact g6))
                | (have hl : ¬ isL (b q) = true := by
                     rcases hx88 with h | h
                     · omega
                     · exact h.2
                   have hd : ¬ isD (b q) = true := by
                     rcases hx110 with h | h
                     · omega
                     · exact h.2
                   refine ⟨rfl, _, RI_up (RI_up hR3 (by split <;> constructor <;> omega)) (by constructor <;> omega), (fun k i s h => by rw [up_app, if_neg (by omega), up_app, if_neg (by omega), up_app, if_neg (by omega)]; exact hag k i s (by omega)), ?_, rfl⟩
                   rw [hsp]
                   exact RS_S (by omega) hl hd rfl rfl rfl g6)
                | (refine ⟨rfl, _, RI_up hR3 (by constructor <;> omega), (fun k i s h => by rw [up_app, if_neg (by omega), up_app, if_neg (by omega)]; exact hag k i s (by omega)), ?_, rfl⟩
                   rw [hsp]
                   exact RS_end (by omega) (by rw [up_app, if_neg (by omega), up_app, if_neg (by omega)]; exact g2) rfl rfl g6)
          · refine q_aload_n (t := 40) F dX4_advance_39 rfl rfl rfl ?_
            refine q_dupR (t := 41) F dX4_advance_40 rfl ?_
            refine g_X4_31 (t := 44) F dX4_advance_41 rfl rfl ?_
            refine q_iconst (t := 45) F dX4_advance_44 rfl ?_
            refine q_iadd (t := 46) F dX4_advance_45 rfl ?_
            refine p_X4_31 (t := 49) F dX4_advance_46 rfl rfl ?_
            refine q_goto (t := 0) F dX4_advance_49 (by decide) ?_
            refine ih0 (q + 1) _ (by omega) (by omega) (by omega) (RI_up hR2 (by constructor <;> omega)) (fun k i s h => by rw [up_app, if_neg (by omega)]; exact hag k i s h) (by rw [up_app, if_pos ⟨rfl, rfl, rfl⟩, g2]; omega) (by rw [hspn, span_y (by omega) (isW_iff.mpr (by omega))])
  exact L0 _ p0 im (Nat.lt_succ_self _) (Nat.le_refl _) hp0 hR (fun k i s h => rfl) hnx rfl
