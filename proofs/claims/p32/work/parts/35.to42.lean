section
/-! THE TAPE'S READER -/
def byt (b : Nat → Int) (n : Nat) : Prop := n ≤ 160 ∧ ∀ i, i < 160 → 0 ≤ b i ∧ b i ≤ 255
/-- where the reading stands -/
def RS (b : Nat → Int) (n : Nat) (im : IM) (p : Nat) (f : Int) : Prop := im 14 0 2 = nx b n p ∧ im 14 0 3 = p ∧ im 14 0 4 = tk b n p ∧ (tk b n p = 2 ∨ tk b n p = 3 → im 14 0 5 = vl b n p) ∧ im 14 0 6 = f
def PR (b : Nat → Int) (n j : Nat) (im : IM) (p : Nat) (f : Int) : Prop := RS b n im p f ∧ RI im ∧ im 15 0 = b ∧ im 14 0 1 = n ∧ (0 ≤ im 2 j 3 ∧ im 2 j 3 ≤ 160) ∧ p ≤ n ∧ (f = -1 → im 2 j 3 ≤ p)
/-- the same but for the reading -/
def agR (j : Nat) (a b : IM) : Prop := ∀ k i s, ¬ (k = 14 ∧ 2 ≤ s ∧ s ≤ 6) → ¬ (k = 2 ∧ i = j ∧ s = 3) → ¬ (k = 3 ∧ i = j) → a k i s = b k i s
theorem agR_rfl (j : Nat) (a : IM) : agR j a a := fun _ _ _ _ _ _ => rfl
theorem agR.trans {j : Nat} {a b c : IM} (h : agR j a b) (h2 : agR j b c) : agR j a c := fun k i s h1 h3 h4 => (h k i s h1 h3 h4).trans (h2 k i s h1 h3 h4)
theorem agR_up {j : Nat} {a b : IM} {k i s : Nat} {x : Int} (h : agR j a b) (hk : (k = 14 ∧ 2 ≤ s ∧ s ≤ 6) ∨ (k = 2 ∧ i = j ∧ s = 3) ∨ (k = 3 ∧ i = j)) : agR j (up a k i s x) b := fun k' i' s' h1 h2 h3 => by
  rw [up_app, if_neg (by omega)]
  exact h k' i' s' h1 h2 h3

set_option maxHeartbeats 4000000 in
theorem c_X4_isLetter (l : Launch) (G : GS) (im : IM) (bt j : Nat) (lm : IM) (c : Int) (hc : ri c) : Cn l (XC G) yX4_isLetter Y_X4_isLetter [vI c] (im, rs bt j, lm) (pI fun x m' => x = (if isL c = true then 1 else 0) ∧ m' = (im, rs bt j, lm)) := by
  refine cn_of (by decide) (okC G) rfl (Nat.le_of_ble_eq_true rfl) ?_
  intro M ad hMl F
  subst hMl
  have hc1 := hc.1
  have hc2 := hc.2
  refine wp_pad 0 ?_
  show Wp M (XC G) ad Y_X4_isLetter (pI fun x m' => x = (if isL c = true then 1 else 0) ∧ m' = (im, rs bt j, lm)) 0 [some (vI c)] [] (im, rs bt j, lm)
  refine q_iload_n (t := 1) F dX4_isLetter_0 rfl rfl rfl ?_
  refine q_bipush (t := 3) F dX4_isLetter_1 (by decide) rfl ?_
  refine q_icmp_lt (t := 6) (u := 16) F dX4_isLetter_3 (by first | exact hR _ _ _ | (constructor <;> omega)) (by first | exact hR _ _ _ | (constructor <;> omega)) (by decide) rfl (fun c3 => ?_) (fun c3 => ?_)
  · refine q_iconst (t := 17) F dX4_isLetter_16 rfl ?_
    refine q_zret F dX4_isLetter_17 rfl (by decide) ?_
    first
      | exact ⟨_, rfl, by rw [if_pos (isL_iff.mpr (by omega))], rfl⟩
      | exact ⟨_, rfl, by rw [if_neg (fun q => by have := isL_iff.mp q; omega)], rfl⟩
  · refine q_iload_n (t := 7) F dX4_isLetter_6 rfl rfl rfl ?_
    refine q_bipush (t := 9) F dX4_isLetter_7 (by decide) rfl ?_
    refine q_icmp_gt (t := 12) (u := 16) F dX4_isLetter_9 (by first | exact hR _ _ _ | (constructor <;> omega)) (by first | exact hR _ _ _ | (constructor <;> omega)) (by decide) rfl (fun c9 => ?_) (fun c9 => ?_)
    · refine q_iconst (t := 17) F dX4_isLetter_16 rfl ?_
      refine q_zret F dX4_isLetter_17 rfl (by decide) ?_
      first
        | exact ⟨_, rfl, by rw [if_pos (isL_iff.mpr (by omega))], rfl⟩
        | exact ⟨_, rfl, by rw [if_neg (fun q => by have := isL_iff.mp q; omega)], rfl⟩
    · refine q_iconst (t := 13) F dX4_isLetter_12 rfl ?_
      refine q_goto (t := 17) F dX4_isLetter_13 (by decide) ?_
      refine q_zret F dX4_isLetter_17 rfl (by decide) ?_
      first
        | exact ⟨_, rfl, by rw [if_pos (isL_iff.mpr (by omega))], rfl⟩
        | exact ⟨_, rfl, by rw [if_neg (fun q => by have := isL_iff.mp q; omega)], rfl⟩

set_option maxHeartbeats 4000000 in
theorem c_X4_isDigit (l : Launch) (G : GS) (im : IM) (bt j : Nat) (lm : IM) (c : Int) (hc : ri c) : Cn l (XC G) yX4_isDigit Y_X4_isDigit [vI c] (im, rs bt j, lm) (pI fun x m' => x = (if isD c = true then 1 else 0) ∧ m' = (im, rs bt j, lm)) := by
  refine cn_of (by decide) (okC G) rfl (Nat.le_of_ble_eq_true rfl) ?_
  intro M ad hMl F
  subst hMl
  have hc1 := hc.1
  have hc2 := hc.2
  refine wp_pad 0 ?_
  show Wp M (XC G) ad Y_X4_isDigit (pI fun x m' => x = (if isD c = true then 1 else 0) ∧ m' = (im, rs bt j, lm)) 0 [some (vI c)] [] (im, rs bt j, lm)
  refine q_iload_n (t := 1) F dX4_isDigit_0 rfl rfl rfl ?_
  refine q_bipush (t := 3) F dX4_isDigit_1 (by decide) rfl ?_
  refine q_icmp_lt (t := 6) (u := 16) F dX4_isDigit_3 (by first | exact hR _ _ _ | (constructor <;> omega)) (by first | exact hR _ _ _ | (constructor <;> omega)) (by decide) rfl (fun c3 => ?_) (fun c3 => ?_)
  · refine q_iconst (t := 17) F dX4_isDigit_16 rfl ?_
    refine q_zret F dX4_isDigit_17 rfl (by decide) ?_
    first
      | exact ⟨_, rfl, by rw [if_pos (isD_iff.mpr (by omega))], rfl⟩
      | exact ⟨_, rfl, by rw [if_neg (fun q => by have := isD_iff.mp q; omega)], rfl⟩
  · refine q_iload_n (t := 7) F dX4_isDigit_6 rfl rfl rfl ?_
    refine q_bipush (t := 9) F dX4_isDigit_7 (by decide) rfl ?_
    refine q_icmp_gt (t := 12) (u := 16) F dX4_isDigit_9 (by first | exact hR _ _ _ | (constructor <;> omega)) (by first | exact hR _ _ _ | (constructor <;> omega)) (by decide) rfl (fun c9 => ?_) (fun c9 => ?_)
    · refine q_iconst (t := 17) F dX4_isDigit_16 rfl ?_
      refine q_zret F dX4_isDigit_17 rfl (by decide) ?_
      first
        | exact ⟨_, rfl, by rw [if_pos (isD_iff.mpr (by omega))], rfl⟩
        | exact ⟨_, rfl, by rw [if_neg (fun q => by have := isD_iff.mp q; omega)], rfl⟩
    · refine q_iconst (t := 13) F dX4_isDigit_12 rfl ?_
      refine q_goto (t := 17) F dX4_isDigit_13 (by decide) ?_
      refine q_zret F dX4_isDigit_17 rfl (by decide) ?_
      first
        | exact ⟨_, rfl, by rw [if_pos (isD_iff.mpr (by omega))], rfl⟩
        | exact ⟨_, rfl, by rw [if_neg (fun q => by have := isD_iff.mp q; omega)], rfl⟩

set_option maxHeartbeats 4000000 in
theorem c_X4_at (l : Launch) (G : GS) (im : IM) (bt j : Nat) (lm : IM) (hR : RI im) (k : Int) (hk : ri k) : Cn l (XC G) yX4_at Y_X4_at [vR 14 0, vI k] (im, rs bt j, lm) (pI fun x m' => x = (if im 14 0 6 = -1 ∧ im 14 0 4 = k then 1 else 0) ∧ m' = (im, rs bt j, lm)) := by
  refine cn_of (by decide) (okC G) rfl (Nat.le_of_ble_eq_true rfl) ?_
  intro M ad hMl F
  subst hMl
  have hk1 := hk.1
  have hk2 := hk.2
  refine wp_pad 0 ?_
  show Wp M (XC G) ad Y_X4_at (pI fun x m' => x = (if im 14 0 6 = -1 ∧ im 14 0 4 = k then 1 else 0) ∧ m' = (im, rs bt j, lm)) 0 [some (vR 14 0), some (vI k)] [] (im, rs bt j, lm)
  refine q_aload_n (t := 1) F dX4_at_0 rfl rfl rfl ?_
  refine g_X4_28 (t := 4) F dX4_at_1 rfl rfl ?_
  refine q_iconst (t := 5) F dX4_at_4 rfl ?_
  refine q_icmp_ne (t := 8) (u := 20) F dX4_at_5 (by first | exact hR _ _ _ | (constructor <;> omega)) (by first | exact hR _ _ _ | (constructor <;> omega)) (by decide) rfl (fun c5 => ?_) (fun c5 => ?_)
  · refine q_iconst (t := 21) F dX4_at_20 rfl ?_
    refine q_zret F dX4_at_21 rfl (by decide) ?_
    first
      | exact ⟨_, rfl, by rw [if_pos (by omega)], rfl⟩
      | exact ⟨_, rfl, by rw [if_neg (by omega)], rfl⟩
  · refine q_aload_n (t := 9) F dX4_at_8 rfl rfl rfl ?_
    refine g_X4_54 (t := 12) F dX4_at_9 rfl rfl ?_
    refine q_iload_n (t := 13) F dX4_at_12 rfl rfl rfl ?_
    refine q_icmp_ne (t := 16) (u := 20) F dX4_at_13 (by exact hR _ _ _) (by constructor <;> omega) (by decide) rfl (fun c13 => ?_) (fun c13 => ?_)
    · refine q_iconst (t := 21) F dX4_at_20 rfl ?_
      refine q_zret F dX4_at_21 rfl (by decide) ?_
      first
        | exact ⟨_, rfl, by rw [if_pos (by omega)], rfl⟩
        | exact ⟨_, rfl, by rw [if_neg (by omega)], rfl⟩
    · refine q_iconst (t := 17) F dX4_at_16 rfl ?_
      refine q_goto (t := 21) F dX4_at_17 (by decide) ?_
      refine q_zret F dX4_at_21 rfl (by decide) ?_
      first
        | exact ⟨_, rfl, by rw [if_pos (by omega)], rfl⟩
        | exact ⟨_, rfl, by rw [if_neg (by omega)], rfl⟩

set_option maxHeartbeats 4000000 in
theorem c_X4_fail (l : Launch) (G : GS) (im : IM) (bt j : Nat) (lm : IM) (hR : RI im) : Cn l (XC G) yX4_fail Y_X4_fail [vR 14 0] (im, rs bt j, lm) (pV fun m' => m' = ((if im 14 0 6 = -1 then up im 14 0 6 (im 14 0 3) else im), rs bt j, lm)) := by
  refine cn_of (by decide) (okC G) rfl (Nat.le_of_ble_eq_true rfl) ?_
  intro M ad hMl F
  subst hMl
  refine wp_pad 0 ?_
  show Wp M (XC G) ad Y_X4_fail (pV fun m' => m' = ((if im 14 0 6 = -1 then up im 14 0 6 (im 14 0 3) else im), rs bt j, lm)) 0 [some (vR 14 0)] [] (im, rs bt j, lm)
  refine q_aload_n (t := 1) F dX4_fail_0 rfl rfl rfl ?_
  refine g_X4_28 (t := 4) F dX4_fail_1 rfl rfl ?_
  refine q_iconst (t := 5) F dX4_fail_4 rfl ?_
  refine q_icmp_ne (t := 8) (u := 16) F dX4_fail_5 (by first | exact hR _ _ _ | (constructor <;> omega)) (by first | exact hR _ _ _ | (constructor <;> omega)) (by decide) rfl (fun c5 => ?_) (fun c5 => ?_)
  · refine q_vret F dX4_fail_16 rfl ?_
    first
      | exact ⟨rfl, by rw [if_pos (by omega)]⟩
      | exact ⟨rfl, by rw [if_neg (by omega)]⟩
  · refine q_aload_n (t := 9) F dX4_fail_8 rfl rfl rfl ?_
    refine q_aload_n (t := 10) F dX4_fail_9 rfl rfl rfl ?_
    refine g_X4_57 (t := 13) F dX4_fail_10 rfl rfl ?_
    refine p_X4_28 (t := 16) F dX4_fail_13 rfl rfl ?_
    refine q_vret F dX4_fail_16 rfl ?_
    first
      | exact ⟨rfl, by rw [if_pos (by omega)]⟩
      | exact ⟨rfl, by rw [if_neg (by omega)]⟩

set_option maxHeartbeats 4000000 in
theorem c_X4_readSign (l : Launch) (G : GS) (im : IM) (bt j : Nat) (lm : IM) (b : Nat → Int) (n : Nat) (hb : byt b n) (hR : RI im) (hb2 : im 15 0 = b) (p : Nat) (hp : p < n) (hnx : im 14 0 2 = p) : Cn l (XC G) yX4_readSign Y_X4_readSign [vR 14 0] (im, rs bt j, lm) (pV fun m' => m' = (up (up im 14 0 4 (if sgn (b p) then b p else 1)) 14 0 2 ((p : Int) + 1), rs bt j, lm)) := by
  refine cn_of (by decide) (okC G) rfl (Nat.le_of_ble_eq_true rfl) ?_
  intro M ad hMl F
  subst hMl
  have hn := hb.1
  have hbp := hb.2 p (by omega)
  have e15 : ∀ s, im 15 0 s = b s := fun s => congrFun hb2 s
  refine wp_pad 2 ?_
  show Wp M (XC G) ad Y_X4_readSign (pV fun m' => m' = (up (up im 14 0 4 (if sgn (b p) then b p else 1)) 14 0 2 ((p : Int) + 1), rs bt j, lm)) 0 [some (vR 14 0), none, none] [] (im, rs bt j, lm)
  refine q_aload_n (t := 1) F dX4_readSign_0 rfl rfl rfl ?_
  refine g_X4_9 (t := 4) F dX4_readSign_1 rfl rfl ?_
  refine q_aload_n (t := 5) F dX4_readSign_4 rfl rfl rfl ?_
  refine g_X4_31 (t := 8) F dX4_readSign_5 rfl rfl ?_
  try simp only [up_app, row_app, scr_app, cpy_app, Nat.reduceEqDiff, Int.reduceToNat, Int.toNat_natCast, and_true, true_and, and_false, false_and, and_self, reduceIte]
  rw [hnx]
  first | refine ldN_15 (t := 9) F dX4_readSign_8 (by omega) rfl ?_ | refine ld_15 (t := 9) F dX4_readSign_8 (by omega) (by omega) rfl ?_
  try simp only [up_app, row_app, scr_app, cpy_app, Nat.reduceEqDiff, Int.reduceToNat, Int.toNat_natCast, and_true, true_and, and_false, false_and, and_self, reduceIte]
  rw [e15]
  refine q_istore_n (t := 10) F dX4_readSign_9 rfl (by decide) rfl rfl ?_
  refine q_iload_n (t := 11) F dX4_readSign_10 rfl rfl rfl ?_
  refine q_bipush (t := 13) F dX4_readSign_11 (by decide) rfl ?_
  refine q_icmp_eq (t := 16) (u := 58) F dX4_readSign_13 (by first | exact hR _ _ _ | (constructor <;> omega)) (by first | exact hR _ _ _ | (constructor <;> omega)) (by decide) rfl (fun c13 => ?_) (fun c13 => ?_)
  · refine q_iconst (t := 59) F dX4_readSign_58 rfl ?_
    refine q_goto (t := 63) F dX4_readSign_59 (by decide) ?_
    refine q_istore_n (t := 64) F dX4_readSign_63 rfl (by decide) rfl rfl ?_
    refine q_aload_n (t := 65) F dX4_readSign_64 rfl rfl rfl ?_
    refine q_iload_n (t := 66) F dX4_readSign_65 rfl rfl rfl ?_
    refine q_if_eq (t := 69) (u := 73) F dX4_readSign_66 (by first | exact hR _ _ _ | (constructor <;> omega)) (by decide) rfl (fun c66 => ?_) (fun c66 => ?_)
    · refine q_iconst (t := 74) F dX4_readSign_73 rfl ?_
      refine p_X4_54 (t := 77) F dX4_readSign_74 rfl rfl ?_
      refine q_aload_n (t := 78) F dX4_readSign_77 rfl rfl rfl ?_
      refine q_dupR (t := 79) F dX4_readSign_78 rfl ?_
      refine g_X4_31 (t := 82) F dX4_readSign_79 rfl rfl ?_
      try simp only [up_app, row_app, scr_app, cpy_app, Nat.reduceEqDiff, Int.reduceToNat, Int.toNat_natCast, and_true, true_and, and_false, false_and, and_self, reduceIte]
      refine q_iconst (t := 83) F dX4_readSign_82 rfl ?_
      refine q_iadd (t := 84) F dX4_readSign_83 rfl ?_
      refine p_X4_31 (t := 87) F dX4_readSign_84 rfl rfl ?_
      refine q_vret F dX4_readSign_87 rfl ?_
      first
        | (exfalso; omega)
        | (refine ⟨rfl, ?_⟩
           show (_ : Mem) = _
           rw [hnx]
           first | rw [if_pos (by omega)] | rw [if_neg (by omega)])
    · refine q_iload_n (t := 70) F dX4_readSign_69 rfl rfl rfl ?_
      refine q_goto (t := 74) F dX4_readSign_70 (by decide) ?_
      refine p_X4_54 (t := 77) F dX4_readSign_74 rfl rfl ?_
      refine q_aload_n (t := 78) F dX4_readSign_77 rfl rfl rfl ?_
      refine q_dupR (t := 79) F dX4_readSign_78 rfl ?_
      refine g_X4_31 (t := 82) F dX4_readSign_79 rfl rfl ?_
      try simp only [up_app, row_app, scr_app, cpy_app, Nat.reduceEqDiff, Int.reduceToNat, Int.toNat_natCast, and_true, true_and, and_false, false_and, and_self, reduceIte]
      refine q_iconst (t := 83) F dX4_readSign_82 rfl ?_
      refine q_iadd (t := 84) F dX4_readSign_83 rfl ?_
      refine p_X4_31 (t := 87) F dX4_readSign_84 rfl rfl ?_
      refine q_vret F dX4_readSign_87 rfl ?_
      first
        | (exfalso; omega)
        | (refine ⟨rfl, ?_⟩
           show (_ : Mem) = _
           rw [hnx]
           first | rw [if_pos (by omega)] | rw [if_neg (by omega)])
  · refine q_iload_n (t := 17) F dX4_readSign_16 rfl rfl rfl ?_
    refine q_bipush (t := 19) F dX4_readSign_17 (by decide) rfl ?_
    refine q_icmp_eq (t := 22) (u := 58) F dX4_readSign_19 (by first | exact hR _ _ _ | (constructor <;> omega)) (by first | exact hR _ _ _ | (constructor <;> omega)) (by decide) rfl (fun c19 => ?_) (fun c19 => ?_)
    · refine q_iconst (t := 59) F dX4_readSign_58 rfl ?_
      refine q_goto (t := 63) F dX4_readSign_59 (by decide) ?_
      refine q_istore_n (t := 64) F dX4_readSign_63 rfl (by decide) rfl rfl ?_
      refine q_aload_n (t := 65) F dX4_readSign_64 rfl rfl rfl ?_
      refine q_iload_n (t := 66) F dX4_readSign_65 rfl rfl rfl ?_
      refine q_if_eq (t := 69) (u := 73) F dX4_readSign_66 (by first | exact hR _ _ _ | (constructor <;> omega)) (by decide) rfl (fun c66 => ?_) (fun c66 => ?_)
      · refine q_iconst (t := 74) F dX4_readSign_73 rfl ?_
        refine p_X4_54 (t := 77) F dX4_readSign_74 rfl rfl ?_
        refine q_aload_n (t := 78) F dX4_readSign_77 rfl rfl rfl ?_
        refine q_dupR (t := 79) F dX4_readSign_78 rfl ?_
        refine g_X4_31 (t := 82) F dX4_readSign_79 rfl rfl ?_
        try simp only [up_app, row_app, scr_app, cpy_app, Nat.reduceEqDiff, Int.reduceToNat, Int.toNat_natCast, and_true, true_and, and_false, false_and, and_self, reduceIte]
        refine q_iconst (t := 83) F dX4_readSign_82 rfl ?_
        refine q_iadd (t := 84) F dX4_readSign_83 rfl ?_
        refine p_X4_31 (t := 87) F dX4_readSign_84 rfl rfl ?_
        refine q_vret F dX4_readSign_87 rfl ?_
        first
          | (exfalso; omega)
          | (refine ⟨rfl, ?_⟩
             show (_ : Mem) = _
             rw [hnx]
             first | rw [if_pos (by omega)] | rw [if_neg (by omega)])
      · refine q_iload_n (t := 70) F dX4_readSign_69 rfl rfl rfl ?_
        refine q_goto (t := 74) F dX4_readSign_70 (by decide) ?_
        refine p_X4_54 (t := 77) F dX4_readSign_74 rfl rfl ?_
        refine q_aload_n (t := 78) F dX4_readSign_77 rfl rfl rfl ?_
        refine q_dupR (t := 79) F dX4_readSign_78 rfl ?_
        refine g_X4_31 (t := 82) F dX4_readSign_79 rfl rfl ?_
        try simp only [up_app, row_app, scr_app, cpy_app, Nat.reduceEqDiff, Int.reduceToNat, Int.toNat_natCast, and_true, true_and, and_false, false_and, and_self, reduceIte]
        refine q_iconst (t := 83) F dX4_readSign_82 rfl ?_
        refine q_iadd (t := 84) F dX4_readSign_83 rfl ?_
        refine p_X4_31 (t := 87) F dX4_readSign_84 rfl rfl ?_
        refine q_vret F dX4_readSign_87 rfl ?_
        first
          | (exfalso; omega)
          | (refine ⟨rfl, ?_⟩
             show (_ : Mem) = _
             rw [hnx]
             first | rw [if_pos (by omega)] | rw [if_neg (by omega)])
    · refine q_iload_n (t := 23) F dX4_readSign_22 rfl rfl rfl ?_
      refine q_bipush (t := 25) F dX4_readSign_23 (by decide) rfl ?_
      refine q_icmp_eq (t := 28) (u := 58) F dX4_readSign_25 (by first | exact hR _ _ _ | (constructor <;> omega)) (by first | exact hR _ _ _ | (constructor <;> omega)) (by decide) rfl (fun c25 => ?_) (fun c25 => ?_)
      · refine q_iconst (t := 59) F dX4_readSign_58 rfl ?_
        refine q_goto (t := 63) F dX4_readSign_59 (by decide) ?_
        refine q_istore_n (t := 64) F dX4_readSign_63 rfl (by decide) rfl rfl ?_
        refine q_aload_n (t := 65) F dX4_readSign_64 rfl rfl rfl ?_
        refine q_iload_n (t := 66) F dX4_readSign_65 rfl rfl rfl ?_
        refine q_if_eq (t := 69) (u := 73) F dX4_readSign_66 (by first | exact hR _ _ _ | (constructor <;> omega)) (by decide) rfl (fun c66 => ?_) (fun c66 => ?_)
        · refine q_iconst (t := 74) F dX4_readSign_73 rfl ?_
          refine p_X4_54 (t := 77) F dX4_readSign_74 rfl rfl ?_
          refine q_aload_n (t := 78) F dX4_readSign_77 rfl rfl rfl ?_
          refine q_dupR (t := 79) F dX4_readSign_78 rfl ?_
          refine g_X4_31 (t := 82) F dX4_readSign_79 rfl rfl ?_
          try simp only [up_app, row_app, scr_app, cpy_app, Nat.reduceEqDiff, Int.reduceToNat, Int.toNat_natCast, and_true, true_and, and_false, false_and, and_self, reduceIte]
          refine q_iconst (t := 83) F dX4_readSign_82 rfl ?_
          refine q_iadd (t := 84) F dX4_readSign_83 rfl ?_
          refine p_X4_31 (t := 87) F dX4_readSign_84 rfl rfl ?_
          refine q_vret F dX4_readSign_87 rfl ?_
          first
            | (exfalso; omega)
            | (refine ⟨rfl, ?_⟩
               show (_ : Mem) = _
               rw [hnx]
               first | rw [if_pos (by omega)] | rw [if_neg (by omega)])
        · refine q_iload_n (t := 70) F dX4_readSign_69 rfl rfl rfl ?_
          refine q_goto (t := 74) F dX4_readSign_70 (by decide) ?_
          refine p_X4_54 (t := 77) F dX4_readSign_74 rfl rfl ?_
          refine q_aload_n (t := 78) F dX4_readSign_77 rfl rfl rfl ?_
          refine q_dupR (t := 79) F dX4_readSign_78 rfl ?_
          refine g_X4_31 (t := 82) F dX4_readSign_79 rfl rfl ?_
          try simp only [up_app, row_app, scr_app, cpy_app, Nat.reduceEqDiff, Int.reduceToNat, Int.toNat_natCast, and_true, true_and, and_false, false_and, and_self, reduceIte]
          refine q_iconst (t := 83) F dX4_readSign_82 rfl ?_
          refine q_iadd (t := 84) F dX4_readSign_83 rfl ?_
          refine p_X4_31 (t := 87) F dX4_readSign_84 rfl rfl ?_
          refine q_vret F dX4_readSign_87 rfl ?_
          first
            | (exfalso; omega)
            | (refine ⟨rfl, ?_⟩
               show (_ : Mem) = _
               rw [hnx]
               first | rw [if_pos (by omega)] | rw [if_neg (by omega)])
      · refine q_iload_n (t := 29) F dX4_readSign_28 rfl rfl rfl ?_
        refine q_bipush (t := 31) F dX4_readSign_29 (by decide) rfl ?_
        refine q_icmp_eq (t := 34) (u := 58) F dX4_readSign_31 (by first | exact hR _ _ _ | (constructor <;> omega)) (by first | exact hR _ _ _ | (constructor <;> omega)) (by decide) rfl (fun c31 => ?_) (fun c31 => ?_)
        · refine q_iconst (t := 59) F dX4_readSign_58 rfl ?_
          refine q_goto (t := 63) F dX4_readSign_59 (by decide) ?_
          refine q_istore_n (t := 64) F dX4_readSign_63 rfl (by decide) rfl rfl ?_
          refine q_aload_n (t := 65) F dX4_readSign_64 rfl rfl rfl ?_
          refine q_iload_n (t := 66) F dX4_readSign_65 rfl rfl rfl ?_
          refine q_if_eq (t := 69) (u := 73) F dX4_readSign_66 (by first | exact hR _ _ _ | (constructor <;> omega)) (by decide) rfl (fun c66 => ?_) (fun c66 => ?_)
          · refine q_iconst (t := 74) F dX4_readSign_73 rfl ?_
            refine p_X4_54 (t := 77) F dX4_readSign_74 rfl rfl ?_
            refine q_aload_n (t := 78) F dX4_readSign_77 rfl rfl rfl ?_
            refine q_dupR (t := 79) F dX4_readSign_78 rfl ?_
            refine g_X4_31 (t := 82) F dX4_readSign_79 rfl rfl ?_
            try simp only [up_app, row_app, scr_app, cpy_app, Nat.reduceEqDiff, Int.reduceToNat, Int.toNat_natCast, and_true, true_and, and_false, false_and, and_self, reduceIte]
            refine q_iconst (t := 83) F dX4_readSign_82 rfl ?_
            refine q_iadd (t := 84) F dX4_readSign_83 rfl ?_
            refine p_X4_31 (t := 87) F dX4_readSign_84 rfl rfl ?_
            refine q_vret F dX4_readSign_87 rfl ?_
            first
              | (exfalso; omega)
              | (refine ⟨rfl, ?_⟩
                 show (_ : Mem) = _
                 rw [hnx]
                 first | rw [if_pos (by omega)] | rw [if_neg (by omega)])
          · refine q_iload_n (t := 70) F dX4_readSign_69 rfl rfl rfl ?_
            refine q_goto (t := 74) F dX4_readSign_70 (by decide) ?_
            refine p_X4_54 (t := 77) F dX4_readSign_74 rfl rfl ?_
            refine q_aload_n (t := 78) F dX4_readSign_77 rfl rfl rfl ?_
            refine q_dupR (t := 79) F dX4_readSign_78 rfl ?_
            refine g_X4_31 (t := 82) F dX4_readSign_79 rfl rfl ?_
            try simp only [up_app, row_app, scr_app, cpy_app, Nat.reduceEqDiff, Int.reduceToNat, Int.toNat_natCast, and_true, true_and, and_false, false_and, and_self, reduceIte]
            refine q_iconst (t := 83) F dX4_readSign_82 rfl ?_
            refine q_iadd (t := 84) F dX4_readSign_83 rfl ?_
            refine p_X4_31 (t := 87) F dX4_readSign_84 rfl rfl ?_
            refine q_vret F dX4_readSign_87 rfl ?_
            first
              | (exfalso; omega)
              | (refine ⟨rfl, ?_⟩
                 show (_ : Mem) = _
                 rw [hnx]
                 first | rw [if_pos (by omega)] | rw [if_neg (by omega)])
        · refine q_iload_n (t := 35) F dX4_readSign_34 rfl rfl rfl ?_
          refine q_bipush (t := 37) F dX4_readSign_35 (by decide) rfl ?_
          refine q_icmp_eq (t := 40) (u := 58) F dX4_readSign_37 (by first | exact hR _ _ _ | (constructor <;> omega)) (by first | exact hR _ _ _ | (constructor <;> omega)) (by decide) rfl (fun c37 => ?_) (fun c37 => ?_)
          · refine q_iconst (t := 59) F dX4_readSign_58 rfl ?_
            refine q_goto (t := 63) F dX4_readSign_59 (by decide) ?_
            refine q_istore_n (t := 64) F dX4_readSign_63 rfl (by decide) rfl rfl ?_
            refine q_aload_n (t := 65) F dX4_readSign_64 rfl rfl rfl ?_
            refine q_iload_n (t := 66) F dX4_readSign_65 rfl rfl rfl ?_
            refine q_if_eq (t := 69) (u := 73) F dX4_readSign_66 (by first | exact hR _ _ _ | (constructor <;> omega)) (by decide) rfl (fun c66 => ?_) (fun c66 => ?_)
            · refine q_iconst (t := 74) F dX4_readSign_73 rfl ?_
              refine p_X4_54 (t := 77) F dX4_readSign_74 rfl rfl ?_
              refine q_aload_n (t := 78) F dX4_readSign_77 rfl rfl rfl ?_
              refine q_dupR (t := 79) F dX4_readSign_78 rfl ?_
              refine g_X4_31 (t := 82) F dX4_readSign_79 rfl rfl ?_
              try simp only [up_app, row_app, scr_app, cpy_app, Nat.reduceEqDiff, Int.reduceToNat, Int.toNat_natCast, and_true, true_and, and_false, false_and, and_self, reduceIte]
              refine q_iconst (t := 83) F dX4_readSign_82 rfl ?_
              refine q_iadd (t := 84) F dX4_readSign_83 rfl ?_
              refine p_X4_31 (t := 87) F dX4_readSign_84 rfl rfl ?_
              refine q_vret F dX4_readSign_87 rfl ?_
              first
                | (exfalso; omega)
                | (refine ⟨rfl, ?_⟩
                   show (_ : Mem) = _
                   rw [hnx]
                   first | rw [if_pos (by omega)] | rw [if_neg (by omega)])
            · refine q_iload_n (t := 70) F dX4_readSign_69 rfl rfl rfl ?_
              refine q_goto (t := 74) F dX4_readSign_70 (by decide) ?_
              refine p_X4_54 (t := 77) F dX4_readSign_74 rfl rfl ?_
              refine q_aload_n (t := 78) F dX4_readSign_77 rfl rfl rfl ?_
              refine q_dupR (t := 79) F dX4_readSign_78 rfl ?_
              refine g_X4_31 (t := 82) F dX4_readSign_79 rfl rfl ?_
              try simp only [up_app, row_app, scr_app, cpy_app, Nat.reduceEqDiff, Int.reduceToNat, Int.toNat_natCast, and_true, true_and, and_false, false_and, and_self, reduceIte]
              refine q_iconst (t := 83) F dX4_readSign_82 rfl ?_
              refine q_iadd (t := 84) F dX4_readSign_83 rfl ?_
              refine p_X4_31 (t := 87) F dX4_readSign_84 rfl rfl ?_
              refine q_vret F dX4_readSign_87 rfl ?_
              first
                | (exfalso; omega)
                | (refine ⟨rfl, ?_⟩
                   show (_ : Mem) = _
                   rw [hnx]
                   first | rw [if_pos (by omega)] | rw [if_neg (by omega)])
          · refine q_iload_n (t := 41) F dX4_readSign_40 rfl rfl rfl ?_
            refine q_bipush (t := 43) F dX4_readSign_41 (by decide) rfl ?_
            refine q_icmp_eq (t := 46) (u := 58) F dX4_readSign_43 (by first | exact hR _ _ _ | (constructor <;> omega)) (by first | exact hR _ _ _ | (constructor <;> omega)) (by decide) rfl (fun c43 => ?_) (fun c43 => ?_)
            · refine q_iconst (t := 59) F dX4_readSign_58 rfl ?_
              refine q_goto (t := 63) F dX4_readSign_59 (by decide) ?_
              refine q_istore_n (t := 64) F dX4_readSign_63 rfl (by decide) rfl rfl ?_
              refine q_aload_n (t := 65) F dX4_readSign_64 rfl rfl rfl ?_
              refine q_iload_n (t := 66) F dX4_readSign_65 rfl rfl rfl ?_
              refine q_if_eq (t := 69) (u := 73) F dX4_readSign_66 (by first | exact hR _ _ _ | (constructor <;> omega)) (by decide) rfl (fun c66 => ?_) (fun c66 => ?_)
              · refine q_iconst (t := 74) F dX4_readSign_73 rfl ?_
                refine p_X4_54 (t := 77) F dX4_readSign_74 rfl rfl ?_
                refine q_aload_n (t := 78) F dX4_readSign_77 rfl rfl rfl ?_
                refine q_dupR (t := 79) F dX4_readSign_78 rfl ?_
                refine g_X4_31 (t := 82) F dX4_readSign_79 rfl rfl ?_
                try simp only [up_app, row_app, scr_app, cpy_app, Nat.reduceEqDiff, Int.reduceToNat, Int.toNat_natCast, and_true, true_and, and_false, false_and, and_self, reduceIte]
                refine q_iconst (t := 83) F dX4_readSign_82 rfl ?_
                refine q_iadd (t := 84) F dX4_readSign_83 rfl ?_
                refine p_X4_31 (t := 87) F dX4_readSign_84 rfl rfl ?_
                refine q_vret F dX4_readSign_87 rfl ?_
                first
                  | (exfalso; omega)
                  | (refine ⟨rfl, ?_⟩
                     show (_ : Mem) = _
                     rw [hnx]
                     first | rw [if_pos (by omega)] | rw [if_neg (by omega)])
              · refine q_iload_n (t := 70) F dX4_readSign_69 rfl rfl rfl ?_
                refine q_goto (t := 74) F dX4_readSign_70 (by decide) ?_
                refine p_X4_54 (t := 77) F dX4_readSign_74 rfl rfl ?_
                refine q_aload_n (t := 78) F dX4_readSign_77 rfl rfl rfl ?_
                refine q_dupR (t := 79) F dX4_readSign_78 rfl ?_
                refine g_X4_31 (t := 82) F dX4_readSign_79 rfl rfl ?_
                try simp only [up_app, row_app, scr_app, cpy_app, Nat.reduceEqDiff, Int.reduceToNat, Int.toNat_natCast, and_true, true_and, and_false, false_and, and_self, reduceIte]
                refine q_iconst (t := 83) F dX4_readSign_82 rfl ?_
                refine q_iadd (t := 84) F dX4_readSign_83 rfl ?_
                refine p_X4_31 (t := 87) F dX4_readSign_84 rfl rfl ?_
                refine q_vret F dX4_readSign_87 rfl ?_
                first
                  | (exfalso; omega)
                  | (refine ⟨rfl, ?_⟩
                     show (_ : Mem) = _
                     rw [hnx]
                     first | rw [if_pos (by omega)] | rw [if_neg (by omega)])
            · refine q_iload_n (t := 47) F dX4_readSign_46 rfl rfl rfl ?_
              refine q_bipush (t := 49) F dX4_readSign_47 (by decide) rfl ?_
              refine q_icmp_eq (t := 52) (u := 58) F dX4_readSign_49 (by first | exact hR _ _ _ | (constructor <;> omega)) (by first | exact hR _ _ _ | (constructor <;> omega)) (by decide) rfl (fun c49 => ?_) (fun c49 => ?_)
              · refine q_iconst (t := 59) F dX4_readSign_58 rfl ?_
                refine q_goto (t := 63) F dX4_readSign_59 (by decide) ?_
                refine q_istore_n (t := 64) F dX4_readSign_63 rfl (by decide) rfl rfl ?_
                refine q_aload_n (t := 65) F dX4_readSign_64 rfl rfl rfl ?_
                refine q_iload_n (t := 66) F dX4_readSign_65 rfl rfl rfl ?_
                refine q_if_eq (t := 69) (u := 73) F dX4_readSign_66 (by first | exact hR _ _ _ | (constructor <;> omega)) (by decide) rfl (fun c66 => ?_) (fun c66 => ?_)
                · refine q_iconst (t := 74) F dX4_readSign_73 rfl ?_
                  refine p_X4_54 (t := 77) F dX4_readSign_74 rfl rfl ?_
                  refine q_aload_n (t := 78) F dX4_readSign_77 rfl rfl rfl ?_
                  refine q_dupR (t := 79) F dX4_readSign_78 rfl ?_
                  refine g_X4_31 (t := 82) F dX4_readSign_79 rfl rfl ?_
                  try simp only [up_app, row_app, scr_app, cpy_app, Nat.reduceEqDiff, Int.reduceToNat, Int.toNat_natCast, and_true, true_and, and_false, false_and, and_self, reduceIte]
                  refine q_iconst (t := 83) F dX4_readSign_82 rfl ?_
                  refine q_iadd (t := 84) F dX4_readSign_83 rfl ?_
                  refine p_X4_31 (t := 87) F dX4_readSign_84 rfl rfl ?_
                  refine q_vret F dX4_readSign_87 rfl ?_
                  first
                    | (exfalso; omega)
                    | (refine ⟨rfl, ?_⟩
                       show (_ : Mem) = _
                       rw [hnx]
                       first | rw [if_pos (by omega)] | rw [if_neg (by omega)])
                · refine q_iload_n (t := 70) F dX4_readSign_69 rfl rfl rfl ?_
                  refine q_goto (t := 74) F dX4_readSign_70 (by decide) ?_
                  refine p_X4_54 (t := 77) F dX4_readSign_74 rfl rfl ?_
                  refine q_aload_n (t := 78) F dX4_readSign_77 rfl rfl rfl ?_
                  refine q_dupR (t := 79) F dX4_readSign_78 rfl ?_
                  refine g_X4_31 (t := 82) F dX4_readSign_79 rfl rfl ?_
                  try simp only [up_app, row_app, scr_app, cpy_app, Nat.reduceEqDiff, Int.reduceToNat, Int.toNat_natCast, and_true, true_and, and_false, false_and, and_self, reduceIte]
                  refine q_iconst (t := 83) F dX4_readSign_82 rfl ?_
                  refine q_iadd (t := 84) F dX4_readSign_83 rfl ?_
                  refine p_X4_31 (t := 87) F dX4_readSign_84 rfl rfl ?_
                  refine q_vret F dX4_readSign_87 rfl ?_
                  first
                    | (exfalso; omega)
                    | (refine ⟨rfl, ?_⟩
                       show (_ : Mem) = _
                       rw [hnx]
                       first | rw [if_pos (by omega)] | rw [if_neg (by omega)])
              · refine q_iload_n (t := 53) F dX4_readSign_52 rfl rfl rfl ?_
                refine q_bipush (t := 55) F dX4_readSign_53 (by decide) rfl ?_
                refine q_icmp_ne (t := 58) (u := 62) F dX4_readSign_55 (by first | exact hR _ _ _ | (constructor <;> omega)) (by first | exact hR _ _ _ | (constructor <;> omega)) (by decide) rfl (fun c55 => ?_) (fun c55 => ?_)
                · refine q_iconst (t := 63) F dX4_readSign_62 rfl ?_
                  refine q_istore_n (t := 64) F dX4_readSign_63 rfl (by decide) rfl rfl ?_
                  refine q_aload_n (t := 65) F dX4_readSign_64 rfl rfl rfl ?_
                  refine q_iload_n (t := 66) F dX4_readSign_65 rfl rfl rfl ?_
                  refine q_if_eq (t := 69) (u := 73) F dX4_readSign_66 (by first | exact hR _ _ _ | (constructor <;> omega)) (by decide) rfl (fun c66 => ?_) (fun c66 => ?_)
                  · refine q_iconst (t := 74) F dX4_readSign_73 rfl ?_
                    refine p_X4_54 (t := 77) F dX4_readSign_74 rfl rfl ?_
                    refine q_aload_n (t := 78) F dX4_readSign_77 rfl rfl rfl ?_
                    refine q_dupR (t := 79) F dX4_readSign_78 rfl ?_
                    refine g_X4_31 (t := 82) F dX4_readSign_79 rfl rfl ?_
                    try simp only [up_app, row_app, scr_app, cpy_app, Nat.reduceEqDiff, Int.reduceToNat, Int.toNat_natCast, and_true, true_and, and_false, false_and, and_self, reduceIte]
                    refine q_iconst (t := 83) F dX4_readSign_82 rfl ?_
                    refine q_iadd (t := 84) F dX4_readSign_83 rfl ?_
                    refine p_X4_31 (t := 87) F dX4_readSign_84 rfl rfl ?_
                    refine q_vret F dX4_readSign_87 rfl ?_
                    first
                      | (exfalso; omega)
                      | (refine ⟨rfl, ?_⟩
                         show (_ : Mem) = _
                         rw [hnx]
                         first | rw [if_pos (by omega)] | rw [if_neg (by omega)])
                  · refine q_iload_n (t := 70) F dX4_readSign_69 rfl rfl rfl ?_
                    refine q_goto (t := 74) F dX4_readSign_70 (by decide) ?_
                    refine p_X4_54 (t := 77) F dX4_readSign_74 rfl rfl ?_
                    refine q_aload_n (t := 78) F dX4_readSign_77 rfl rfl rfl ?_
                    refine q_dupR (t := 79) F dX4_readSign_78 rfl ?_
                    refine g_X4_31 (t := 82) F dX4_readSign_79 rfl rfl ?_
                    try simp only [up_app, row_app, scr_app, cpy_app, Nat.reduceEqDiff, Int.reduceToNat, Int.toNat_natCast, and_true, true_and, and_false, false_and, and_self, reduceIte]
                    refine q_iconst (t := 83) F dX4_readSign_82 rfl ?_
                    refine q_iadd (t := 84) F dX4_readSign_83 rfl ?_
                    refine p_X4_31 (t := 87) F dX4_readSign_84 rfl rfl ?_
                    refine q_vret F dX4_readSign_87 rfl ?_
                    first
                      | (exfalso; omega)
                      | (refine ⟨rfl, ?_⟩
                         show (_ : Mem) = _
                         rw [hnx]
                         first | rw [if_pos (by omega)] | rw [if_neg (by omega)])
                · refine q_iconst (t := 59) F dX4_readSign_58 rfl ?_
                  refine q_goto (t := 63) F dX4_readSign_59 (by decide) ?_
                  refine q_istore_n (t := 64) F dX4_readSign_63 rfl (by decide) rfl rfl ?_
                  refine q_aload_n (t := 65) F dX4_readSign_64 rfl rfl rfl ?_
                  refine q_iload_n (t := 66) F dX4_readSign_65 rfl rfl rfl ?_
                  refine q_if_eq (t := 69) (u := 73) F dX4_readSign_66 (by first | exact hR _ _ _ | (constructor <;> omega)) (by decide) rfl (fun c66 => ?_) (fun c66 => ?_)
                  · refine q_iconst (t := 74) F dX4_readSign_73 rfl ?_
                    refine p_X4_54 (t := 77) F dX4_readSign_74 rfl rfl ?_
                    refine q_aload_n (t := 78) F dX4_readSign_77 rfl rfl rfl ?_
                    refine q_dupR (t := 79) F dX4_readSign_78 rfl ?_
                    refine g_X4_31 (t := 82) F dX4_readSign_79 rfl rfl ?_
                    try simp only [up_app, row_app, scr_app, cpy_app, Nat.reduceEqDiff, Int.reduceToNat, Int.toNat_natCast, and_true, true_and, and_false, false_and, and_self, reduceIte]
                    refine q_iconst (t := 83) F dX4_readSign_82 rfl ?_
                    refine q_iadd (t := 84) F dX4_readSign_83 rfl ?_
                    refine p_X4_31 (t := 87) F dX4_readSign_84 rfl rfl ?_
                    refine q_vret F dX4_readSign_87 rfl ?_
                    first
                      | (exfalso; omega)
                      | (refine ⟨rfl, ?_⟩
                         show (_ : Mem) = _
                         rw [hnx]
                         first | rw [if_pos (by omega)] | rw [if_neg (by omega)])
                  · refine q_iload_n (t := 70) F dX4_readSign_69 rfl rfl rfl ?_
                    refine q_goto (t := 74) F dX4_readSign_70 (by decide) ?_
                    refine p_X4_54 (t := 77) F dX4_readSign_74 rfl rfl ?_
                    refine q_aload_n (t := 78) F dX4_readSign_77 rfl rfl rfl ?_
                    refine q_dupR (t := 79) F dX4_readSign_78 rfl ?_
                    refine g_X4_31 (t := 82) F dX4_readSign_79 rfl rfl ?_
                    try simp only [up_app, row_app, scr_app, cpy_app, Nat.reduceEqDiff, Int.reduceToNat, Int.toNat_natCast, and_true, true_and, and_false, false_and, and_self, reduceIte]
                    refine q_iconst (t := 83) F dX4_readSign_82 rfl ?_
                    refine q_iadd (t := 84) F dX4_readSign_83 rfl ?_
                    refine p_X4_31 (t := 87) F dX4_readSign_84 rfl rfl ?_
                    refine q_vret F dX4_readSign_87 rfl ?_
                    first
                      | (exfalso; omega)
                      | (refine ⟨rfl, ?_⟩
                         show (_ : Mem) = _
                         rw [hnx]
                         first | rw [if_pos (by omega)] | rw [if_neg (by omega)])

theorem numF_s (b : Nat → Int) (p k : Nat) : numF b p (k + 1) = bm (numF b p k * 10 + b (p + k) - 48) := rfl
set_option maxHeartbeats 4000000 in
theorem c_X4_readNumber (l : Launch) (G : GS) (im : IM) (bt j : Nat) (lm : IM) (b : Nat → Int) (n : Nat) (hb : byt b n) (hR : RI im) (hb2 : im 15 0 = b) (hsz : im 14 0 1 = n) (p : Nat) (hp : p < n) (hnx : im 14 0 2 = p) (hst : im 14 0 3 = p) : Cn l (XC G) yX4_readNumber Y_X4_readNumber [vR 14 0] (im, rs bt j, lm) (pV fun m' => ∃ im', RI im' ∧ (∀ k i s, ¬ (k = 14 ∧ (s = 2 ∨ s = 4 ∨ s = 5)) → im' k i s = im k i s) ∧ im' 14 0 2 = span isD b n p ∧ im' 14 0 4 = (if 4 < span isD b n p - p then 1 else 2) ∧ im' 14 0 5 = numF b p (span isD b n p - p) ∧ m' = (im', rs bt j, lm)) := by
  refine cn_of (by decide) (okC G) rfl (Nat.le_of_ble_eq_true rfl) ?_
  intro M ad hMl F
  subst hMl
  have hn := hb.1
  have e15 : ∀ s, im 15 0 s = b s := fun s => congrFun hb2 s
  refine wp_pad 0 ?_
  show Wp M (XC G) ad Y_X4_readNumber (pV fun m' => ∃ im', RI im' ∧ (∀ k i s, ¬ (k = 14 ∧ (s = 2 ∨ s = 4 ∨ s = 5)) → im' k i s = im k i s) ∧ im' 14 0 2 = span isD b n p ∧ im' 14 0 4 = (if 4 < span isD b n p - p then 1 else 2) ∧ im' 14 0 5 = numF b p (span isD b n p - p) ∧ m' = (im', rs bt j, lm)) 0 [some (vR 14 0)] [] (im, rs bt j, lm)
  refine q_aload_n (t := 1) F dX4_readNumber_0 rfl rfl rfl ?_
  refine q_iconst (t := 2) F dX4_readNumber_1 rfl ?_
  refine p_X4_82 (t := 5) F dX4_readNumber_2 rfl rfl ?_
  have L5 : ∀ (fz : Nat) (q : Nat) (im2 : IM), n - q < fz → p ≤ q → q ≤ n → RI im2 → (∀ k i s, ¬ (k = 14 ∧ (s = 2 ∨ s = 4 ∨ s = 5)) → im2 k i s = im k i s) → im2 14 0 2 = q → im2 14 0 5 = numF b p (q - p) → span isD b n p = span isD b n q → Wp M (XC G) ad Y_X4_readNumber (pV fun m' => ∃ im', RI im' ∧ (∀ k i s, ¬ (k = 14 ∧ (s = 2 ∨ s = 4 ∨ s = 5)) → im' k i s = im k i s) ∧ im' 14 0 2 = span isD b n p ∧ im' 14 0 4 = (if 4 < span isD b n p - p then 1 else 2) ∧ im' 14 0 5 = numF b p (span isD b n p - p) ∧ m' = (im', rs bt j, lm)) 5 [some (vR 14 0)] [] (im2, rs bt j, lm) := by
    intro fz
    induction fz with
    | zero => intro q im2 h; exact absurd h (Nat.not_lt_zero _)
    | succ fz ih =>
      have ih5 := ih
      intro q im2 hmeas hpq hqn hR2 hag g2 g5 hspn
      have g15 : ∀ s, im2 15 0 s = b s := fun s => (hag 15 0 s (by omega)).trans (e15 s)
      have g1 : im2 14 0 1 = n := (hag 14 0 1 (by omega)).trans hsz
      have g3 : im2 14 0 3 = p := (hag 14 0 3 (by omega)).trans hst
      refine q_aload_n (t := 6) F dX4_readNumber_5 rfl rfl rfl ?_
      refine g_X4_31 (t := 9) F dX4_readNumber_6 rfl rfl ?_
      try simp only [up_app, row_app, scr_app, cpy_app, Nat.reduceEqDiff, Int.reduceToNat, Int.toNat_natCast, and_true, true_and, and_false, false_and, and_self, reduceIte]
      refine q_aload_n (t := 10) F dX4_readNumber_9 rfl rfl rfl ?_
      refine g_X4_19 (t := 13) F dX4_readNumber_10 rfl rfl ?_
      try simp only [up_app, row_app, scr_app, cpy_app, Nat.reduceEqDiff, Int.reduceToNat, Int.toNat_natCast, and_true, true_and, and_false, false_and, and_self, reduceIte]
      refine q_icmp_ge (t := 16) (u := 68) F dX4_readNumber_13 (by constructor <;> omega) (by exact hR2 _ _ _) (by decide) rfl (fun c13 => ?_) (fun c13 => ?_)
      · refine q_aload_n (t := 69) F dX4_readNumber_68 rfl rfl rfl ?_
        refine q_aload_n (t := 70) F dX4_readNumber_69 rfl rfl rfl ?_
        refine g_X4_31 (t := 73) F dX4_readNumber_70 rfl rfl ?_
        try simp only [up_app, row_app, scr_app, cpy_app, Nat.reduceEqDiff, Int.reduceToNat, Int.toNat_natCast, and_true, true_and, and_false, false_and, and_self, reduceIte]
        refine q_aload_n (t := 74) F dX4_readNumber_73 rfl rfl rfl ?_
        refine g_X4_57 (t := 77) F dX4_readNumber_74 rfl rfl ?_
        try simp only [up_app, row_app, scr_app, cpy_app, Nat.reduceEqDiff, Int.reduceToNat, Int.toNat_natCast, and_true, true_and, and_false, false_and, and_self, reduceIte]
        refine q_isub (t := 78) F dX4_readNumber_77 rfl ?_
        refine q_iconst (t := 79) F dX4_readNumber_78 rfl ?_
        refine q_icmp_le (t := 82) (u := 86) F dX4_readNumber_79 (by constructor <;> omega) (by constructor <;> omega) (by decide) rfl (fun c79 => ?_) (fun c79 => ?_)
        · refine q_iconst (t := 87) F dX4_readNumber_86 rfl ?_
          refine p_X4_54 (t := 90) F dX4_readNumber_87 rfl rfl ?_
          refine q_vret F dX4_readNumber_90 rfl ?_
          have hspq : span isD b n p = q := by
            rw [hspn]
            refine span_n (fun z => ?_)
            first
              | omega
              | (rcases hx25 with h | h
                 · omega
                 · exact h.2 z.2)
          have hd : im2 14 0 2 - im2 14 0 3 = ((q - p : Nat) : Int) := by omega
          first
            | (refine ⟨rfl, _, RI_up hR2 (by constructor <;> omega), (fun k i s h => by rw [up_app, if_neg (by omega)]; exact hag k i s h), ?_, ?_, ?_, rfl⟩
               · rw [up_app, if_neg (by omega), hspq]; exact g2
               · rw [up_app, if_pos ⟨rfl, rfl, rfl⟩, hspq, if_pos (by omega)]
               · rw [up_app, if_neg (by omega), hspq]; exact g5)
            | (refine ⟨rfl, _, RI_up hR2 (by constructor <;> omega), (fun k i s h => by rw [up_app, if_neg (by omega)]; exact hag k i s h), ?_, ?_, ?_, rfl⟩
               · rw [up_app, if_neg (by omega), hspq]; exact g2
               · rw [up_app, if_pos ⟨rfl, rfl, rfl⟩, hspq, if_neg (by omega)]
               · rw [up_app, if_neg (by omega), hspq]; exact g5)
        · refine q_iconst (t := 83) F dX4_readNumber_82 rfl ?_
          refine q_goto (t := 87) F dX4_readNumber_83 (by decide) ?_
          refine p_X4_54 (t := 90) F dX4_readNumber_87 rfl rfl ?_
          refine q_vret F dX4_readNumber_90 rfl ?_
          have hspq : span isD b n p = q := by
            rw [hspn]
            refine span_n (fun z => ?_)
            first
              | omega
              | (rcases hx25 with h | h
                 · omega
                 · exact h.2 z.2)
          have hd : im2 14 0 2 - im2 14 0 3 = ((q - p : Nat) : Int) := by omega
          first
            | (refine ⟨rfl, _, RI_up hR2 (by constructor <;> omega), (fun k i s h => by rw [up_app, if_neg (by omega)]; exact hag k i s h), ?_, ?_, ?_, rfl⟩
               · rw [up_app, if_neg (by omega), hspq]; exact g2
               · rw [up_app, if_pos ⟨rfl, rfl, rfl⟩, hspq, if_pos (by omega)]
               · rw [up_app, if_neg (by omega), hspq]; exact g5)
            | (refine ⟨rfl, _, RI_up hR2 (by constructor <;> omega), (fun k i s h => by rw [up_app, if_neg (by omega)]; exact hag k i s h), ?_, ?_, ?_, rfl⟩
               · rw [up_app, if_neg (by omega), hspq]; exact g2
               · rw [up_app, if_pos ⟨rfl, rfl, rfl⟩, hspq, if_neg (by omega)]
               · rw [up_app, if_neg (by omega), hspq]; exact g5)
      · refine q_aload_n (t := 17) F dX4_readNumber_16 rfl rfl rfl ?_
        refine g_X4_9 (t := 20) F dX4_readNumber_17 rfl rfl ?_
        refine q_aload_n (t := 21) F dX4_readNumber_20 rfl rfl rfl ?_
        refine g_X4_31 (t := 24) F dX4_readNumber_21 rfl rfl ?_
        try simp only [up_app, row_app, scr_app, cpy_app, Nat.reduceEqDiff, Int.reduceToNat, Int.toNat_natCast, and_true, true_and, and_false, false_and, and_self, reduceIte]
        rw [g2]
        first | refine ldN_15 (t := 25) F dX4_readNumber_24 (by omega) rfl ?_ | refine ld_15 (t := 25) F dX4_readNumber_24 (by omega) (by omega) rfl ?_
        try simp only [up_app, row_app, scr_app, cpy_app, Nat.reduceEqDiff, Int.reduceToNat, Int.toNat_natCast, and_true, true_and, and_false, false_and, and_self, reduceIte]
        rw [g15]
        refine wp_callS (t := 28) [_] F dX4_readNumber_25 k_X4_isDigit st_X4_isDigit ml_X4_91 rfl rfl (Nat.le_of_ble_eq_true rfl) (by decide) (c_X4_isDigit _ G im2 bt j lm (b q) (by have := hb.2 q (by omega); constructor <;> omega)) rfl (kI ?_)
        rintro x25 m' ⟨hx25, rfl⟩
        have hx25 := if01 hx25
        refine q_if_eq (t := 31) (u := 68) F dX4_readNumber_28 (by first | exact hR _ _ _ | (constructor <;> omega)) (by decide) rfl (fun c28 => ?_) (fun c28 => ?_)
        · refine q_aload_n (t := 69) F dX4_readNumber_68 rfl rfl rfl ?_
          refine q_aload_n (t := 70) F dX4_readNumber_69 rfl rfl rfl ?_
          refine g_X4_31 (t := 73) F dX4_readNumber_70 rfl rfl ?_
          try simp only [up_app, row_app, scr_app, cpy_app, Nat.reduceEqDiff, Int.reduceToNat, Int.toNat_natCast, and_true, true_and, and_false, false_and, and_self, reduceIte]
          refine q_aload_n (t := 74) F dX4_readNumber_73 rfl rfl rfl ?_
          refine g_X4_57 (t := 77) F dX4_readNumber_74 rfl rfl ?_
          try simp only [up_app, row_app, scr_app, cpy_app, Nat.reduceEqDiff, Int.reduceToNat, Int.toNat_natCast, and_true, true_and, and_false, false_and, and_self, reduceIte]
          refine q_isub (t := 78) F dX4_readNumber_77 rfl ?_
          refine q_iconst (t := 79) F dX4_readNumber_78 rfl ?_
          refine q_icmp_le (t := 82) (u := 86) F dX4_readNumber_79 (by constructor <;> omega) (by constructor <;> omega) (by decide) rfl (fun c79 => ?_) (fun c79 => ?_)
          · refine q_iconst (t := 87) F dX4_readNumber_86 rfl ?_
            refine p_X4_54 (t := 90) F dX4_readNumber_87 rfl rfl ?_
            refine q_vret F dX4_readNumber_90 rfl ?_
            have hspq : span isD b n p = q := by
              rw [hspn]
              refine span_n (fun z => ?_)
              first
                | omega
                | (rcases hx25 with h | h
                   · omega
                   · exact h.2 z.2)
            have hd : im2 14 0 2 - im2 14 0 3 = ((q - p : Nat) : Int) := by omega
            first
              | (refine ⟨rfl, _, RI_up hR2 (by constructor <;> omega), (fun k i s h => by rw [up_app, if_neg (by omega)]; exact hag k i s h), ?_, ?_, ?_, rfl⟩
                 · rw [up_app, if_neg (by omega), hspq]; exact g2
                 · rw [up_app, if_pos ⟨rfl, rfl, rfl⟩, hspq, if_pos (by omega)]
                 · rw [up_app, if_neg (by omega), hspq]; exact g5)
              | (refine ⟨rfl, _, RI_up hR2 (by constructor <;> omega), (fun k i s h => by rw [up_app, if_neg (by omega)]; exact hag k i s h), ?_, ?_, ?_, rfl⟩
                 · rw [up_app, if_neg (by omega), hspq]; exact g2
                 · rw [up_app, if_pos ⟨rfl, rfl, rfl⟩, hspq, if_neg (by omega)]
                 · rw [up_app, if_neg (by omega), hspq]; exact g5)
          · refine q_iconst (t := 83) F dX4_readNumber_82 rfl ?_
            refine q_goto (t := 87) F dX4_readNumber_83 (by decide) ?_
            refine p_X4_54 (t := 90) F dX4_readNumber_87 rfl rfl ?_
            refine q_vret F dX4_readNumber_90 rfl ?_
            have hspq : span isD b n p = q := by
              rw [hspn]
              refine span_n (fun z => ?_)
              first
                | omega
                | (rcases hx25 with h | h
                   · omega
                   · exact h.2 z.2)
            have hd : im2 14 0 2 - im2 14 0 3 = ((q - p : Nat) : Int) := by omega
            first
              | (refine ⟨rfl, _, RI_up hR2 (by constructor <;> omega), (fun k i s h => by rw [up_app, if_neg (by omega)]; exact hag k i s h), ?_, ?_, ?_, rfl⟩
                 · rw [up_app, if_neg (by omega), hspq]; exact g2
                 · rw [up_app, if_pos ⟨rfl, rfl, rfl⟩, hspq, if_pos (by omega)]
                 · rw [up_app, if_neg (by omega), hspq]; exact g5)
              | (refine ⟨rfl, _, RI_up hR2 (by constructor <;> omega), (fun k i s h => by rw [up_app, if_neg (by omega)]; exact hag k i s h), ?_, ?_, ?_, rfl⟩
                 · rw [up_app, if_neg (by omega), hspq]; exact g2
                 · rw [up_app, if_pos ⟨rfl, rfl, rfl⟩, hspq, if_neg (by omega)]
                 · rw [up_app, if_neg (by omega), hspq]; exact g5)
        · refine q_aload_n (t := 32) F dX4_readNumber_31 rfl rfl rfl ?_
          refine q_aload_n (t := 33) F dX4_readNumber_32 rfl rfl rfl ?_
          refine g_X4_82 (t := 36) F dX4_readNumber_33 rfl rfl ?_
          try simp only [up_app, row_app, scr_app, cpy_app, Nat.reduceEqDiff, Int.reduceToNat, Int.toNat_natCast, and_true, true_and, and_false, false_and, and_self, reduceIte]
          refine q_bipush (t := 38) F dX4_readNumber_36 (by decide) rfl ?_
          refine q_imul (t := 39) F dX4_readNumber_38 rfl ?_
          refine q_aload_n (t := 40) F dX4_readNumber_39 rfl rfl rfl ?_
          refine g_X4_9 (t := 43) F dX4_readNumber_40 rfl rfl ?_
          refine q_aload_n (t := 44) F dX4_readNumber_43 rfl rfl rfl ?_
          refine g_X4_31 (t := 47) F dX4_readNumber_44 rfl rfl ?_
          try simp only [up_app, row_app, scr_app, cpy_app, Nat.reduceEqDiff, Int.reduceToNat, Int.toNat_natCast, and_true, true_and, and_false, false_and, and_self, reduceIte]
          rw [g2]
          first | refine ldN_15 (t := 48) F dX4_readNumber_47 (by omega) rfl ?_ | refine ld_15 (t := 48) F dX4_readNumber_47 (by omega) (by omega) rfl ?_
          try simp only [up_app, row_app, scr_app, cpy_app, Nat.reduceEqDiff, Int.reduceToNat, Int.toNat_natCast, and_true, true_and, and_false, false_and, and_self, reduceIte]
          rw [g15, g5]
          refine q_iadd (t := 49) F dX4_readNumber_48 rfl ?_
          refine q_bipush (t := 51) F dX4_readNumber_49 (by decide) rfl ?_
          refine q_isub (t := 52) F dX4_readNumber_51 rfl ?_
          refine q_norm ?_
          refine p_X4_82 (t := 55) F dX4_readNumber_52 rfl rfl ?_
          refine q_aload_n (t := 56) F dX4_readNumber_55 rfl rfl rfl ?_
          refine q_dupR (t := 57) F dX4_readNumber_56 rfl ?_
          refine g_X4_31 (t := 60) F dX4_readNumber_57 rfl rfl ?_
          try simp only [up_app, row_app, scr_app, cpy_app, Nat.reduceEqDiff, Int.reduceToNat, Int.toNat_natCast, and_true, true_and, and_false, false_and, and_self, reduceIte]
          refine q_iconst (t := 61) F dX4_readNumber_60 rfl ?_
          refine q_iadd (t := 62) F dX4_readNumber_61 rfl ?_
          
          refine p_X4_31 (t := 65) F dX4_readNumber_62 rfl rfl ?_
          refine q_goto (t := 5) F dX4_readNumber_65 (by decide) ?_
          refine ih5 (q + 1) _ (by omega) (by omega) (by omega) (RI_up (RI_up hR2 (ri_b _)) (by constructor <;> omega)) (fun k i s h => by rw [up_app, if_neg (by omega), up_app, if_neg (by omega)]; exact hag k i s h) ?_ ?_ ?_
          · rw [up_app, if_pos ⟨rfl, rfl, rfl⟩, g2]; omega
          · rw [up_app, if_neg (by omega), up_app, if_pos ⟨rfl, rfl, rfl⟩, show q + 1 - p = (q - p) + 1 by omega, numF_s, show p + (q - p) = q by omega]
          · rw [hspn, span_y (by omega) (by rcases hx25 with h | h
                                            · exact h.2
                                            · omega)]
  exact L5 _ p _ (Nat.lt_succ_self _) (Nat.le_refl _) (by omega) (RI_up hR (by constructor <;> omega)) (fun k i s h => by rw [up_app, if_neg (by omega)]) (by rw [up_app, if_neg (by omega)]; exact hnx) (by rw [up_app, if_pos ⟨rfl, rfl, rfl⟩, Nat.sub_self]; rfl) rfl
end
section
/-! words -/
theorem refS_0 : ("AWordStuck$Reader", 118, "word", 0) ∈ refS := by unfold refS; repeat (first | exact List.mem_cons_self | apply List.mem_cons_of_mem)
theorem refS_1 : ("AWordStuck$Reader", 120, "food", 1) ∈ refS := by unfold refS; repeat (first | exact List.mem_cons_self | apply List.mem_cons_of_mem)
theorem refS_2 : ("AWordStuck$Reader", 122, "hour", 2) ∈ refS := by unfold refS; repeat (first | exact List.mem_cons_self | apply List.mem_cons_of_mem)
theorem refS_3 : ("AWordStuck$Reader", 124, "number", 3) ∈ refS := by unfold refS; repeat (first | exact List.mem_cons_self | apply List.mem_cons_of_mem)
theorem refS_4 : ("AWordStuck$Reader", 126, "gap", 4) ∈ refS := by unfold refS; repeat (first | exact List.mem_cons_self | apply List.mem_cons_of_mem)
theorem refS_5 : ("AWordStuck$Reader", 128, "stuck", 5) ∈ refS := by unfold refS; repeat (first | exact List.mem_cons_self | apply List.mem_cons_of_mem)
theorem refS_6 : ("AWordStuck$Reader", 130, "sticks", 6) ∈ refS := by unfold refS; repeat (first | exact List.mem_cons_self | apply List.mem_cons_of_mem)
theorem refS_7 : ("AWordStuck$Reader", 132, "lasts", 7) ∈ refS := by unfold refS; repeat (first | exact List.mem_cons_self | apply List.mem_cons_of_mem)
theorem refS_8 : ("AWordStuck$Reader", 134, "shames", 8) ∈ refS := by unfold refS; repeat (first | exact List.mem_cons_self | apply List.mem_cons_of_mem)
theorem refS_9 : ("AWordStuck$Reader", 136, "or", 9) ∈ refS := by unfold refS; repeat (first | exact List.mem_cons_self | apply List.mem_cons_of_mem)
theorem refS_10 : ("AWordStuck$Reader", 138, "and", 10) ∈ refS := by unfold refS; repeat (first | exact List.mem_cons_self | apply List.mem_cons_of_mem)
theorem refS_11 : ("AWordStuck$Reader", 140, "not", 11) ∈ refS := by unfold refS; repeat (first | exact List.mem_cons_self | apply List.mem_cons_of_mem)
theorem refS_12 : ("AWordStuck", 61, "sticks word + food * 3 ; lasts 5 ; shames 10 ;", 12) ∈ refS := by unfold refS; repeat (first | exact List.mem_cons_self | apply List.mem_cons_of_mem)
set_option maxHeartbeats 4000000 in
theorem c_X4_known (l : Launch) (G : GS) (im : IM) (bt j : Nat) (lm : IM) (i : Nat) (hi : i < 12) : Cn l (XC G) yX4_known Y_X4_known [vI (i : Int)] (im, rs bt j, lm) (pR fun k q m' => k = 99 ∧ q = i ∧ m' = (im, rs bt j, lm)) := by
  refine cn_of (by decide) (okC G) rfl (Nat.le_of_ble_eq_true rfl) ?_
  intro M ad hMl F
  subst hMl
  refine wp_pad 0 ?_
  show Wp M (XC G) ad Y_X4_known (pR fun k q m' => k = 99 ∧ q = i ∧ m' = (im, rs bt j, lm)) 0 [some (vI (i : Int))] [] (im, rs bt j, lm)
  refine q_iload_n (t := 1) F dX4_known_0 rfl rfl rfl ?_
  have sw1 : (i : Int) < 0 ∨ 10 < (i : Int) ∨ (i : Int) = 0 ∨ (i : Int) = 1 ∨ (i : Int) = 2 ∨ (i : Int) = 3 ∨ (i : Int) = 4 ∨ (i : Int) = 5 ∨ (i : Int) = 6 ∨ (i : Int) = 7 ∨ (i : Int) = 8 ∨ (i : Int) = 9 ∨ (i : Int) = 10 := by omega
  rcases sw1 with c1 | c1 | c1 | c1 | c1 | c1 | c1 | c1 | c1 | c1 | c1 | c1 | c1
  · refine q_tableOut (t := 93) F dX4_known_1 (by first | exact hR _ _ _ | (constructor <;> omega)) (Or.inl c1) (by decide) ?_
    refine q_ldcS (t := 95) 11 F dX4_known_93 refS_11 rfl ?_
    refine q_rret F dX4_known_95 rfl ?_
    first
      | exact ⟨_, _, rfl, rfl, by omega, rfl⟩
  · refine q_tableOut (t := 93) F dX4_known_1 (by first | exact hR _ _ _ | (constructor <;> omega)) (Or.inr c1) (by decide) ?_
    refine q_ldcS (t := 95) 11 F dX4_known_93 refS_11 rfl ?_
    refine q_rret F dX4_known_95 rfl ?_
    first
      | exact ⟨_, _, rfl, rfl, by omega, rfl⟩
  · refine q_tableIn (t := 60) F dX4_known_1 (by first | exact hR _ _ _ | (constructor <;> omega)) (by omega) (by omega) (by rw [c1]; rfl) (by decide) ?_
    refine q_ldcS (t := 62) 0 F dX4_known_60 refS_0 rfl ?_
    refine q_rret F dX4_known_62 rfl ?_
    first
      | exact ⟨_, _, rfl, rfl, by omega, rfl⟩
  · refine q_tableIn (t := 63) F dX4_known_1 (by first | exact hR _ _ _ | (constructor <;> omega)) (by omega) (by omega) (by rw [c1]; rfl) (by decide) ?_
    refine q_ldcS (t := 65) 1 F dX4_known_63 refS_1 rfl ?_
    refine q_rret F dX4_known_65 rfl ?_
    first
      | exact ⟨_, _, rfl, rfl, by omega, rfl⟩
  · refine q_tableIn (t := 66) F dX4_known_1 (by first | exact hR _ _ _ | (constructor <;> omega)) (by omega) (by omega) (by rw [c1]; rfl) (by decide) ?_
    refine q_ldcS (t := 68) 2 F dX4_known_66 refS_2 rfl ?_
    refine q_rret F dX4_known_68 rfl ?_
    first
      | exact ⟨_, _, rfl, rfl, by omega, rfl⟩
  · refine q_tableIn (t := 69) F dX4_known_1 (by first | exact hR _ _ _ | (constructor <;> omega)) (by omega) (by omega) (by rw [c1]; rfl) (by decide) ?_
    refine q_ldcS (t := 71) 3 F dX4_known_69 refS_3 rfl ?_
    refine q_rret F dX4_known_71 rfl ?_
    first
      | exact ⟨_, _, rfl, rfl, by omega, rfl⟩
  · refine q_tableIn (t := 72) F dX4_known_1 (by first | exact hR _ _ _ | (constructor <;> omega)) (by omega) (by omega) (by rw [c1]; rfl) (by decide) ?_
    refine q_ldcS (t := 74) 4 F dX4_known_72 refS_4 rfl ?_
    refine q_rret F dX4_known_74 rfl ?_
    first
      | exact ⟨_, _, rfl, rfl, by omega, rfl⟩
  · refine q_tableIn (t := 75) F dX4_known_1 (by first | exact hR _ _ _ | (constructor <;> omega)) (by omega) (by omega) (by rw [c1]; rfl) (by decide) ?_
    refine q_ldcS (t := 77) 5 F dX4_known_75 refS_5 rfl ?_
    refine q_rret F dX4_known_77 rfl ?_
    first
      | exact ⟨_, _, rfl, rfl, by omega, rfl⟩
  · refine q_tableIn (t := 78) F dX4_known_1 (by first | exact hR _ _ _ | (constructor <;> omega)) (by omega) (by omega) (by rw [c1]; rfl) (by decide) ?_
    refine q_ldcS (t := 80) 6 F dX4_known_78 refS_6 rfl ?_
    refine q_rret F dX4_known_80 rfl ?_
    first
      | exact ⟨_, _, rfl, rfl, by omega, rfl⟩
  · refine q_tableIn (t := 81) F dX4_known_1 (by first | exact hR _ _ _ | (constructor <;> omega)) (by omega) (by omega) (by rw [c1]; rfl) (by decide) ?_
    refine q_ldcS (t := 83) 7 F dX4_known_81 refS_7 rfl ?_
    refine q_rret F dX4_known_83 rfl ?_
    first
      | exact ⟨_, _, rfl, rfl, by omega, rfl⟩
  · refine q_tableIn (t := 84) F dX4_known_1 (by first | exact hR _ _ _ | (constructor <;> omega)) (by omega) (by omega) (by rw [c1]; rfl) (by decide) ?_
    refine q_ldcS (t := 86) 8 F dX4_known_84 refS_8 rfl ?_
    refine q_rret F dX4_known_86 rfl ?_
    first
      | exact ⟨_, _, rfl, rfl, by omega, rfl⟩
  · refine q_tableIn (t := 87) F dX4_known_1 (by first | exact hR _ _ _ | (constructor <;> omega)) (by omega) (by omega) (by rw [c1]; rfl) (by decide) ?_
    refine q_ldcS (t := 89) 9 F dX4_known_87 refS_9 rfl ?_
    refine q_rret F dX4_known_89 rfl ?_
    first
      | exact ⟨_, _, rfl, rfl, by omega, rfl⟩
  · refine q_tableIn (t := 90) F dX4_known_1 (by first | exact hR _ _ _ | (constructor <;> omega)) (by omega) (by omega) (by rw [c1]; rfl) (by decide) ?_
    refine q_ldcS (t := 92) 10 F dX4_known_90 refS_10 rfl ?_
    refine q_rret F dX4_known_92 rfl ?_
    first
      | exact ⟨_, _, rfl, rfl, by omega, rfl⟩

set_option maxHeartbeats 4000000 in
theorem c_X4_stands (l : Launch) (G : GS) (im : IM) (bt j : Nat) (lm : IM) (b : Nat → Int) (n : Nat) (hb : byt b n) (hR : RI im) (hb2 : im 15 0 = b) (p q i : Nat) (hi : i < 12) (hpq : p < q) (hqn : q ≤ n) (hnx : im 14 0 2 = q) (hst : im 14 0 3 = p) : Cn l (XC G) yX4_stands Y_X4_stands [vR 14 0, vR 99 i] (im, rs bt j, lm) (pI fun x m' => x = (if stdS b p q i then 1 else 0) ∧ m' = (im, rs bt j, lm)) := by
  refine cn_of (by decide) (okC G) rfl (Nat.le_of_ble_eq_true rfl) ?_
  intro M ad hMl F
  subst hMl
  have hn := hb.1
  have e15 : ∀ s, im 15 0 s = b s := fun s => congrFun hb2 s
  have hL := len_in i (by omega)
  refine wp_pad 1 ?_
  show Wp M (XC G) ad Y_X4_stands (pI fun x m' => x = (if stdS b p q i then 1 else 0) ∧ m' = (im, rs bt j, lm)) 0 [some (vR 14 0), some (vR 99 i), none] [] (im, rs bt j, lm)
  refine q_aload_n (t := 1) F dX4_stands_0 rfl rfl rfl ?_
  refine wp_callK (t := 4) [] F (by omega) rfl dX4_stands_1 k_J0_length_8abf5 v_J0_length_8abf5 ml_X4_108 rfl rfl (Nat.le_of_ble_eq_true rfl) (by decide) (c_J0_length_8abf5 _ G _ i (by omega)) rfl (kI ?_)
  rintro x1 m' ⟨rfl, rfl⟩
  refine q_aload_n (t := 5) F dX4_stands_4 rfl rfl rfl ?_
  refine g_X4_31 (t := 8) F dX4_stands_5 rfl rfl ?_
  try simp only [up_app, row_app, scr_app, cpy_app, Nat.reduceEqDiff, Int.reduceToNat, Int.toNat_natCast, and_true, true_and, and_false, false_and, and_self, reduceIte]
  refine q_aload_n (t := 9) F dX4_stands_8 rfl rfl rfl ?_
  refine g_X4_57 (t := 12) F dX4_stands_9 rfl rfl ?_
  try simp only [up_app, row_app, scr_app, cpy_app, Nat.reduceEqDiff, Int.reduceToNat, Int.toNat_natCast, and_true, true_and, and_false, false_and, and_self, reduceIte]
  refine q_isub (t := 13) F dX4_stands_12 rfl ?_
  refine q_icmp_eq (t := 16) (u := 18) F dX4_stands_13 (by constructor <;> omega) (by constructor <;> omega) (by decide) rfl (fun c13 => ?_) (fun c13 => ?_)
  · refine q_iconst (t := 19) F dX4_stands_18 rfl ?_
    refine q_istore_n (t := 20) F dX4_stands_19 rfl (by decide) rfl rfl ?_
    have L20 : ∀ (fz : Nat) (k : Nat), 160 - k < fz → k ≤ lenS.getD i 0 → (∀ s, s < k → b (p + s) = letS i s) → Wp M (XC G) ad Y_X4_stands (pI fun x m' => x = (if stdS b p q i then 1 else 0) ∧ m' = (im, rs bt j, lm)) 20 [some (vR 14 0), some (vR 99 i), some (vI (k : Int))] [] (im, rs bt j, lm) := by
      intro fz
      induction fz with
      | zero => intro k h; exact absurd h (Nat.not_lt_zero _)
      | succ fz ih =>
        have ih20 := ih
        intro k hmeas hk hall
        refine q_iload_n (t := 21) F dX4_stands_20 rfl rfl rfl ?_
        refine q_aload_n (t := 22) F dX4_stands_21 rfl rfl rfl ?_
        refine wp_callK (t := 25) [] F (by omega) rfl dX4_stands_22 k_J0_length_8abf5 v_J0_length_8abf5 ml_X4_108 rfl rfl (Nat.le_of_ble_eq_true rfl) (by decide) (c_J0_length_8abf5 _ G _ i (by omega)) rfl (kI ?_)
        rintro x22 m' ⟨rfl, rfl⟩
        refine q_icmp_ge (t := 28) (u := 55) F dX4_stands_25 (by constructor <;> omega) (by constructor <;> omega) (by decide) rfl (fun c25 => ?_) (fun c25 => ?_)
        · refine q_iconst (t := 56) F dX4_stands_55 rfl ?_
          refine q_zret F dX4_stands_56 rfl (by decide) ?_
          exact ⟨_, rfl, by rw [if_pos ⟨by omega, fun s hs => hall s (by omega)⟩], rfl⟩
        · refine q_aload_n (t := 29) F dX4_stands_28 rfl rfl rfl ?_
          refine g_X4_9 (t := 32) F dX4_stands_29 rfl rfl ?_
          refine q_aload_n (t := 33) F dX4_stands_32 rfl rfl rfl ?_
          refine g_X4_57 (t := 36) F dX4_stands_33 rfl rfl ?_
          try simp only [up_app, row_app, scr_app, cpy_app, Nat.reduceEqDiff, Int.reduceToNat, Int.toNat_natCast, and_true, true_and, and_false, false_and, and_self, reduceIte]
          refine q_iload_n (t := 37) F dX4_stands_36 rfl rfl rfl ?_
          rw [hst]
          refine q_iadd (t := 38) F dX4_stands_37 rfl ?_
          rw [show (p : Int) + (k : Int) = ((p + k : Nat) : Int) by omega]
          first | refine ldN_15 (t := 39) F dX4_stands_38 (by omega) rfl ?_ | refine ld_15 (t := 39) F dX4_stands_38 (by omega) (by omega) rfl ?_
          try simp only [up_app, row_app, scr_app, cpy_app, Nat.reduceEqDiff, Int.reduceToNat, Int.toNat_natCast, and_true, true_and, and_false, false_and, and_self, reduceIte]
          rw [e15]
          refine q_aload_n (t := 40) F dX4_stands_39 rfl rfl rfl ?_
          refine q_iload_n (t := 41) F dX4_stands_40 rfl rfl rfl ?_
          refine wp_callK (t := 44) [_] F (by omega) rfl dX4_stands_41 k_J0_charAt_5068e v_J0_charAt_5068e ml_X4_114 rfl rfl (Nat.le_of_ble_eq_true rfl) (by decide) (c_J0_charAt_5068e _ G _ i k (by omega) (by omega)) rfl (kI ?_)
          rintro x41 m' ⟨rfl, rfl⟩
          refine q_icmp_eq (t := 47) (u := 49) F dX4_stands_44 (by have := hb.2 (p + k) (by omega); constructor <;> omega) (by have : 0 ≤ letS i k ∧ letS i k < 128 := let_in (by omega) (by omega); constructor <;> omega) (by decide) rfl (fun c44 => ?_) (fun c44 => ?_)
          · refine q_iinc (t := 52) F dX4_stands_49 rfl (by decide) rfl rfl ?_
            refine q_goto (t := 20) F dX4_stands_52 (by decide) ?_
            refine ih20 (k + 1) (by omega) (by omega) (fun s hs => ?_)
            by_cases h : s = k
            · subst h; assumption
            · exact hall s (by omega)
          · refine q_iconst (t := 48) F dX4_stands_47 rfl ?_
            refine q_zret F dX4_stands_48 rfl (by decide) ?_
            exact ⟨_, rfl, by rw [if_neg (fun z => by have := z.2 k (by omega); omega)], rfl⟩
    exact L20 _ 0 (Nat.lt_succ_self _) (by omega) (fun s hs => absurd hs (Nat.not_lt_zero _))
  · refine q_iconst (t := 17) F dX4_stands_16 rfl ?_
    refine q_zret F dX4_stands_17 rfl (by decide) ?_
    exact ⟨_, rfl, by rw [if_neg (fun z => by have := z.1; omega)], rfl⟩

set_option maxHeartbeats 4000000 in
theorem c_X4_readWord (l : Launch) (G : GS) (im : IM) (bt j : Nat) (lm : IM) (b : Nat → Int) (n : Nat) (hb : byt b n) (hR : RI im) (hb2 : im 15 0 = b) (hsz : im 14 0 1 = n) (p : Nat) (hp : p < n) (hpl : isL (b p) = true) (hnx : im 14 0 2 = p) (hst : im 14 0 3 = p) : Cn l (XC G) yX4_readWord Y_X4_readWord [vR 14 0] (im, rs bt j, lm) (pV fun m' => ∃ im', RI im' ∧ (∀ k i s, ¬ (k = 14 ∧ (s = 2 ∨ s = 4 ∨ s = 5)) → im' k i s = im k i s) ∧ im' 14 0 2 = span isL b n p ∧ im' 14 0 4 = tkW (wIx b p (span isL b n p) 12) ∧ (wIx b p (span isL b n p) 12 ≠ -1 → im' 14 0 5 = wIx b p (span isL b n p) 12) ∧ m' = (im', rs bt j, lm)) := by
  refine cn_of (by decide) (okC G) rfl (Nat.le_of_ble_eq_true rfl) ?_
  intro M ad hMl F
  subst hMl
  have hn := hb.1
  have e15 : ∀ s, im 15 0 s = b s := fun s => congrFun hb2 s
  refine wp_pad 1 ?_
  show Wp M (XC G) ad Y_X4_readWord (pV fun m' => ∃ im', RI im' ∧ (∀ k i s, ¬ (k = 14 ∧ (s = 2 ∨ s = 4 ∨ s = 5)) → im' k i s = im k i s) ∧ im' 14 0 2 = span isL b n p ∧ im' 14 0 4 = tkW (wIx b p (span isL b n p) 12) ∧ (wIx b p (span isL b n p) 12 ≠ -1 → im' 14 0 5 = wIx b p (span isL b n p) 12) ∧ m' = (im', rs bt j, lm)) 0 [some (vR 14 0), none] [] (im, rs bt j, lm)
  have L0 : ∀ (fz : Nat) (q : Nat) (im2 : IM), n - q < fz → p ≤ q → q ≤ n → RI im2 → (∀ k i s, ¬ (k = 14 ∧ (s = 2 ∨ s = 4 ∨ s = 5)) → im2 k i s = im k i s) → im2 14 0 2 = q → span isL b n p = span isL b n q → Wp M (XC G) ad Y_X4_readWord (pV fun m' => ∃ im', RI im' ∧ (∀ k i s, ¬ (k = 14 ∧ (s = 2 ∨ s = 4 ∨ s = 5)) → im' k i s = im k i s) ∧ im' 14 0 2 = span isL b n p ∧ im' 14 0 4 = tkW (wIx b p (span isL b n p) 12) ∧ (wIx b p (span isL b n p) 12 ≠ -1 → im' 14 0 5 = wIx b p (span isL b n p) 12) ∧ m' = (im', rs bt j, lm)) 0 [some (vR 14 0), none] [] (im2, rs bt j, lm) := by
    intro fz
    induction fz with
    | zero => intro q im2 h; exact absurd h (Nat.not_lt_zero _)
    | succ fz ih =>
      have ih0 := ih
      intro q im2 hmeas hpq hqn hR2 hag g2 hspn
      have g15 : ∀ s, im2 15 0 s = b s := fun s => (hag 15 0 s (by omega)).trans (e15 s)
      have g1 : im2 14 0 1 = n := (hag 14 0 1 (by omega)).trans hsz
      have g3 : im2 14 0 3 = p := (hag 14 0 3 (by omega)).trans hst
      refine q_aload_n (t := 1) F dX4_readWord_0 rfl rfl rfl ?_
      refine g_X4_31 (t := 4) F dX4_readWord_1 rfl rfl ?_
      refine q_aload_n (t := 5) F dX4_readWord_4 rfl rfl rfl ?_
      refine g_X4_19 (t := 8) F dX4_readWord_5 rfl rfl ?_
      refine q_icmp_ge (t := 11) (u := 39) F dX4_readWord_8 (by constructor <;> omega) (by exact hR2 _ _ _) (by decide) rfl (fun c8 => ?_) (fun c8 => ?_)
      · have hspq : span isL b n p = q := by
          rw [hspn]
          refine span_n (fun z => ?_)
          first
            | omega
            | (rcases hx20 with h | h
               · omega
               · exact h.2 z.2)
        have hpq2 : p < q := by
          rw [← hspq, span_y hp hpl]
          have := (span_in isL b n _ (p + 1) rfl).1
          omega
        refine q_aload_n (t := 40) F dX4_readWord_39 rfl rfl rfl ?_
        refine q_iconst (t := 41) F dX4_readWord_40 rfl ?_
        refine p_X4_54 (t := 44) F dX4_readWord_41 rfl rfl ?_
        refine q_iconst (t := 45) F dX4_readWord_44 rfl ?_
        refine q_istore_n (t := 46) F dX4_readWord_45 rfl (by decide) rfl rfl ?_
        have L46 : ∀ (fz : Nat) (i : Nat) (im3 : IM), 12 - i < fz → i ≤ 12 → RI im3 → (∀ k i s, ¬ (k = 14 ∧ (s = 2 ∨ s = 4 ∨ s = 5)) → im3 k i s = im k i s) → im3 14 0 2 = q → im3 14 0 4 = tkW (wIx b p q i) → (wIx b p q i ≠ -1 → im3 14 0 5 = wIx b p q i) → Wp M (XC G) ad Y_X4_readWord (pV fun m' => ∃ im', RI im' ∧ (∀ k i s, ¬ (k = 14 ∧ (s = 2 ∨ s = 4 ∨ s = 5)) → im' k i s = im k i s) ∧ im' 14 0 2 = span isL b n p ∧ im' 14 0 4 = tkW (wIx b p (span isL b n p) 12) ∧ (wIx b p (span isL b n p) 12 ≠ -1 → im' 14 0 5 = wIx b p (span isL b n p) 12) ∧ m' = (im', rs bt j, lm)) 46 [some (vR 14 0), some (vI (i : Int))] [] (im3, rs bt j, lm) := by
          intro fz
          induction fz with
          | zero => intro i im3 h; exact absurd h (Nat.not_lt_zero _)
          | succ fz ih =>
            have ih46 := ih
            intro i im3 hmeas hi hR3 hag3 g32 g34 g36
            have g35 : ∀ s, im3 15 0 s = b s := fun s => (hag3 15 0 s (by omega)).trans (e15 s)
            have g33 : im3 14 0 3 = p := (hag3 14 0 3 (by omega)).trans hst
            refine q_iload_n (t := 47) F dX4_readWord_46 rfl rfl rfl ?_
            refine q_bipush (t := 49) F dX4_readWord_47 (by decide) rfl ?_
            refine q_icmp_ge (t := 52) (u := 97) F dX4_readWord_49 (by constructor <;> omega) (by constructor <;> omega) (by decide) rfl (fun c49 => ?_) (fun c49 => ?_)
            · refine q_vret F dX4_readWord_97 rfl ?_
              obtain rfl : i = 12 := by omega
              refine ⟨rfl, im3, hR3, hag3, ?_, ?_, ?_, rfl⟩
              · rw [hspq]; exact g32
              · rw [hspq]; exact g34
              · rw [hspq]; exact g36
            · refine q_aload_n (t := 53) F dX4_readWord_52 rfl rfl rfl ?_
              refine q_iload_n (t := 54) F dX4_readWord_53 rfl rfl rfl ?_
              refine wp_callS (t := 57) [_] F dX4_readWord_54 k_X4_known st_X4_known ml_X4_100 rfl rfl (Nat.le_of_ble_eq_true rfl) (by decide) (c_X4_known _ G im3 bt j lm i (by omega)) rfl (kR ?_)
              rintro k0 i0 m' ⟨rfl, rfl, rfl⟩
              refine wp_callV (t := 60) [_] F dX4_readWord_57 k_X4_stands v_X4_stands ml_X4_104 rfl rfl rfl rfl (Nat.le_of_ble_eq_true rfl) (by decide) (m_14 (by omega)) (c_X4_stands _ G im3 bt j lm b n hb hR3 (funext g35) p q i0 (by omega) hpq2 hqn g32 g33) rfl (kI ?_)
              rintro x57 m' ⟨hx57, rfl⟩
              have hx57 := if01 hx57
              refine q_if_ne (t := 63) (u := 66) F dX4_readWord_60 (by first | exact hR _ _ _ | (constructor <;> omega)) (by decide) rfl (fun c60 => ?_) (fun c60 => ?_)
              · refine q_aload_n (t := 67) F dX4_readWord_66 rfl rfl rfl ?_
                refine q_iload_n (t := 68) F dX4_readWord_67 rfl rfl rfl ?_
                refine q_bipush (t := 70) F dX4_readWord_68 (by decide) rfl ?_
                refine q_icmp_ge (t := 73) (u := 77) F dX4_readWord_70 (by first | exact hR _ _ _ | (constructor <;> omega)) (by first | exact hR _ _ _ | (constructor <;> omega)) (by decide) rfl (fun c70 => ?_) (fun c70 => ?_)
                · refine q_iconst (t := 78) F dX4_readWord_77 rfl ?_
                  refine q_iload_n (t := 79) F dX4_readWord_78 rfl rfl rfl ?_
                  refine q_iadd (t := 80) F dX4_readWord_79 rfl ?_
                  refine q_bipush (t := 82) F dX4_readWord_80 (by decide) rfl ?_
                  refine q_isub (t := 83) F dX4_readWord_82 rfl ?_
                  refine p_X4_54 (t := 86) F dX4_readWord_83 rfl rfl ?_
                  refine q_aload_n (t := 87) F dX4_readWord_86 rfl rfl rfl ?_
                  refine q_iload_n (t := 88) F dX4_readWord_87 rfl rfl rfl ?_
                  refine p_X4_82 (t := 91) F dX4_readWord_88 rfl rfl ?_
                  refine q_iinc (t := 94) F dX4_readWord_91 rfl (by decide) rfl rfl ?_
                  refine q_goto (t := 46) F dX4_readWord_94 (by decide) ?_
                  first
                    | (have hns : ¬ stdS b p q i0 := by
                         rcases hx57 with h | h
                         · omega
                         · exact h.2
                       refine ih46 (i0 + 1) im3 (by omega) (by omega) hR3 hag3 g32 ?_ ?_
                       · rw [wIx_s, if_neg hns]; exact g34
                       · rw [wIx_s, if_neg hns]; exact g36)
                    | (have hst2 : stdS b p q i0 := by
                         rcases hx57 with h | h
                         · exact h.2
                         · omega
                       refine ih46 (i0 + 1) _ (by omega) (by omega) (RI_up (RI_up hR3 (by constructor <;> omega)) (by constructor <;> omega)) (fun k i s h => by rw [up_app, if_neg (by omega), up_app, if_neg (by omega)]; exact hag3 k i s h) ?_ ?_ ?_
                       · rw [up_app, if_neg (by omega), up_app, if_neg (by omega)]; exact g32
                       · rw [up_app, if_neg (by omega), up_app, if_pos ⟨rfl, rfl, rfl⟩, wIx_s, if_pos hst2]
                         unfold tkW
                         (repeat' split) <;> omega
                       · intro _
                         rw [up_app, if_pos ⟨rfl, rfl, rfl⟩, wIx_s, if_pos hst2])
                · refine q_iconst (t := 74) F dX4_readWord_73 rfl ?_
                  refine q_goto (t := 83) F dX4_readWord_74 (by decide) ?_
                  refine p_X4_54 (t := 86) F dX4_readWord_83 rfl rfl ?_
                  refine q_aload_n (t := 87) F dX4_readWord_86 rfl rfl rfl ?_
                  refine q_iload_n (t := 88) F dX4_readWord_87 rfl rfl rfl ?_
                  refine p_X4_82 (t := 91) F dX4_readWord_88 rfl rfl ?_
                  refine q_iinc (t := 94) F dX4_readWord_91 rfl (by decide) rfl rfl ?_
                  refine q_goto (t := 46) F dX4_readWord_94 (by decide) ?_
                  first
                    | (have hns : ¬ stdS b p q i0 := by
                         rcases hx57 with h | h
                         · omega
                         · exact h.2
                       refine ih46 (i0 + 1) im3 (by omega) (by omega) hR3 hag3 g32 ?_ ?_
                       · rw [wIx_s, if_neg hns]; exact g34
                       · rw [wIx_s, if_neg hns]; exact g36)
                    | (have hst2 : stdS b p q i0 := by
                         rcases hx57 with h | h
                         · exact h.2
                         · omega
                       refine ih46 (i0 + 1) _ (by omega) (by omega) (RI_up (RI_up hR3 (by constructor <;> omega)) (by constructor <;> omega)) (fun k i s h => by rw [up_app, if_neg (by omega), up_app, if_neg (by omega)]; exact hag3 k i s h) ?_ ?_ ?_
                       · rw [up_app, if_neg (by omega), up_app, if_neg (by omega)]; exact g32
                       · rw [up_app, if_neg (by omega), up_app, if_pos ⟨rfl, rfl, rfl⟩, wIx_s, if_pos hst2]
                         unfold tkW
                         (repeat' split) <;> omega
                       · intro _
                         rw [up_app, if_pos ⟨rfl, rfl, rfl⟩, wIx_s, if_pos hst2])
              · refine q_goto (t := 91) F dX4_readWord_63 (by decide) ?_
                refine q_iinc (t := 94) F dX4_readWord_91 rfl (by decide) rfl rfl ?_
                refine q_goto (t := 46) F dX4_readWord_94 (by decide) ?_
                first
                  | (have hns : ¬ stdS b p q i0 := by
                       rcases hx57 with h | h
                       · omega
                       · exact h.2
                     refine ih46 (i0 + 1) im3 (by omega) (by omega) hR3 hag3 g32 ?_ ?_
                     · rw [wIx_s, if_neg hns]; exact g34
                     · rw [wIx_s, if_neg hns]; exact g36)
                  | (have hst2 : stdS b p q i0 := by
                       rcases hx57 with h | h
                       · exact h.2
                       · omega
                     refine ih46 (i0 + 1) _ (by omega) (by omega) (RI_up (RI_up hR3 (by constructor <;> omega)) (by constructor <;> omega)) (fun k i s h => by rw [up_app, if_neg (by omega), up_app, if_neg (by omega)]; exact hag3 k i s h) ?_ ?_ ?_
                     · rw [up_app, if_neg (by omega), up_app, if_neg (by omega)]; exact g32
                     · rw [up_app, if_neg (by omega), up_app, if_pos ⟨rfl, rfl, rfl⟩, wIx_s, if_pos hst2]
                       unfold tkW
                       (repeat' split) <;> omega
                     · intro _
                       rw [up_app, if_pos ⟨rfl, rfl, rfl⟩, wIx_s, if_pos hst2])
        exact L46 _ 0 _ (Nat.lt_succ_self _) (by omega) (RI_up hR2 (by constructor <;> omega)) (fun k i s h => by rw [up_app, if_neg (by omega)]; exact hag k i s h) (by rw [up_app, if_neg (by omega)]; exact g2) (by rw [up_app, if_pos ⟨rfl, rfl, rfl⟩]; rfl) (fun h => absurd rfl h)
      · refine q_aload_n (t := 12) F dX4_readWord_11 rfl rfl rfl ?_
        refine g_X4_9 (t := 15) F dX4_readWord_12 rfl rfl ?_
        refine q_aload_n (t := 16) F dX4_readWord_15 rfl rfl rfl ?_
        refine g_X4_31 (t := 19) F dX4_readWord_16 rfl rfl ?_
        rw [g2]
        first | refine ldN_15 (t := 20) F dX4_readWord_19 (by omega) rfl ?_ | refine ld_15 (t := 20) F dX4_readWord_19 (by omega) (by omega) rfl ?_
        rw [g15]
        refine wp_callS (t := 23) [_] F dX4_readWord_20 k_X4_isLetter st_X4_isLetter ml_X4_85 rfl rfl (Nat.le_of_ble_eq_true rfl) (by decide) (c_X4_isLetter _ G im2 bt j lm (b q) (by have := hb.2 q (by omega); constructor <;> omega)) rfl (kI ?_)
        rintro x20 m' ⟨hx20, rfl⟩
        have hx20 := if01 hx20
        refine q_if_eq (t := 26) (u := 39) F dX4_readWord_23 (by first | exact hR _ _ _ | (constructor <;> omega)) (by decide) rfl (fun c23 => ?_) (fun c23 => ?_)
        · have hspq : span isL b n p = q := by
            rw [hspn]
            refine span_n (fun z => ?_)
            first
              | omega
              | (rcases hx20 with h | h
                 · omega
                 · exact h.2 z.2)
          have hpq2 : p < q := by
            rw [← hspq, span_y hp hpl]
            have := (span_in isL b n _ (p + 1) rfl).1
            omega
          refine q_aload_n (t := 40) F dX4_readWord_39 rfl rfl rfl ?_
          refine q_iconst (t := 41) F dX4_readWord_40 rfl ?_
          refine p_X4_54 (t := 44) F dX4_readWord_41 rfl rfl ?_
          refine q_iconst (t := 45) F dX4_readWord_44 rfl ?_
          refine q_istore_n (t := 46) F dX4_readWord_45 rfl (by decide) rfl rfl ?_
          have L46 : ∀ (fz : Nat) (i : Nat) (im3 : IM), 12 - i < fz → i ≤ 12 → RI im3 → (∀ k i s, ¬ (k = 14 ∧ (s = 2 ∨ s = 4 ∨ s = 5)) → im3 k i s = im k i s) → im3 14 0 2 = q → im3 14 0 4 = tkW (wIx b p q i) → (wIx b p q i ≠ -1 → im3 14 0 5 = wIx b p q i) → Wp M (XC G) ad Y_X4_readWord (pV fun m' => ∃ im', RI im' ∧ (∀ k i s, ¬ (k = 14 ∧ (s = 2 ∨ s = 4 ∨ s = 5)) → im' k i s = im k i s) ∧ im' 14 0 2 = span isL b n p ∧ im' 14 0 4 = tkW (wIx b p (span isL b n p) 12) ∧ (wIx b p (span isL b n p) 12 ≠ -1 → im' 14 0 5 = wIx b p (span isL b n p) 12) ∧ m' = (im', rs bt j, lm)) 46 [some (vR 14 0), some (vI (i : Int))] [] (im3, rs bt j, lm) := by
            intro fz
            induction fz with
            | zero => intro i im3 h; exact absurd h (Nat.not_lt_zero _)
            | succ fz ih =>
              have ih46 := ih
              intro i im3 hmeas hi hR3 hag3 g32 g34 g36
              have g35 : ∀ s, im3 15 0 s = b s := fun s => (hag3 15 0 s (by omega)).trans (e15 s)
              have g33 : im3 14 0 3 = p := (hag3 14 0 3 (by omega)).trans hst
              refine q_iload_n (t := 47) F dX4_readWord_46 rfl rfl rfl ?_
              refine q_bipush (t := 49) F dX4_readWord_47 (by decide) rfl ?_
              refine q_icmp_ge (t := 52) (u := 97) F dX4_readWord_49 (by constructor <;> omega) (by constructor <;> omega) (by decide) rfl (fun c49 => ?_) (fun c49 => ?_)
              · refine q_vret F dX4_readWord_97 rfl ?_
                obtain rfl : i = 12 := by omega
                refine ⟨rfl, im3, hR3, hag3, ?_, ?_, ?_, rfl⟩
                · rw [hspq]; exact g32
                · rw [hspq]; exact g34
                · rw [hspq]; exact g36
              · refine q_aload_n (t := 53) F dX4_readWord_52 rfl rfl rfl ?_
                refine q_iload_n (t := 54) F dX4_readWord_53 rfl rfl rfl ?_
                refine wp_callS (t := 57) [_] F dX4_readWord_54 k_X4_known st_X4_known ml_X4_100 rfl rfl (Nat.le_of_ble_eq_true rfl) (by decide) (c_X4_known _ G im3 bt j lm i (by omega)) rfl (kR ?_)
                rintro k0 i0 m' ⟨rfl, rfl, rfl⟩
                refine wp_callV (t := 60) [_] F dX4_readWord_57 k_X4_stands v_X4_stands ml_X4_104 rfl rfl rfl rfl (Nat.le_of_ble_eq_true rfl) (by decide) (m_14 (by omega)) (c_X4_stands _ G im3 bt j lm b n hb hR3 (funext g35) p q i0 (by omega) hpq2 hqn g32 g33) rfl (kI ?_)
                rintro x57 m' ⟨hx57, rfl⟩
                have hx57 := if01 hx57
                refine q_if_ne (t := 63) (u := 66) F dX4_readWord_60 (by first | exact hR _ _ _ | (constructor <;> omega)) (by decide) rfl (fun c60 => ?_) (fun c60 => ?_)
                · refine q_aload_n (t := 67) F dX4_readWord_66 rfl rfl rfl ?_
                  refine q_iload_n (t := 68) F dX4_readWord_67 rfl rfl rfl ?_
                  refine q_bipush (t := 70) F dX4_readWord_68 (by decide) rfl ?_
                  refine q_icmp_ge (t := 73) (u := 77) F dX4_readWord_70 (by first | exact hR _ _ _ | (constructor <;> omega)) (by first | exact hR _ _ _ | (constructor <;> omega)) (by decide) rfl (fun c70 => ?_) (fun c70 => ?_)
                  · refine q_iconst (t := 78) F dX4_readWord_77 rfl ?_
                    refine q_iload_n (t := 79) F dX4_readWord_78 rfl rfl rfl ?_
                    refine q_iadd (t := 80) F dX4_readWord_79 rfl ?_
                    refine q_bipush (t := 82) F dX4_readWord_80 (by decide) rfl ?_
                    refine q_isub (t := 83) F dX4_readWord_82 rfl ?_
                    refine p_X4_54 (t := 86) F dX4_readWord_83 rfl rfl ?_
                    refine q_aload_n (t := 87) F dX4_readWord_86 rfl rfl rfl ?_
                    refine q_iload_n (t := 88) F dX4_readWord_87 rfl rfl rfl ?_
                    refine p_X4_82 (t := 91) F dX4_readWord_88 rfl rfl ?_
                    refine q_iinc (t := 94) F dX4_readWord_91 rfl (by decide) rfl rfl ?_
                    refine q_goto (t := 46) F dX4_readWord_94 (by decide) ?_
                    first
                      | (have hns : ¬ stdS b p q i0 := by
                           rcases hx57 with h | h
                           · omega
                           · exact h.2
                         refine ih46 (i0 + 1) im3 (by omega) (by omega) hR3 hag3 g32 ?_ ?_
                         · rw [wIx_s, if_neg hns]; exact g34
                         · rw [wIx_s, if_neg hns]; exact g36)
                      | (have hst2 : stdS b p q i0 := by
                           rcases hx57 with h | h
                           · exact h.2
                           · omega
                         refine ih46 (i0 + 1) _ (by omega) (by omega) (RI_up (RI_up hR3 (by constructor <;> omega)) (by constructor <;> omega)) (fun k i s h => by rw [up_app, if_neg (by omega), up_app, if_neg (by omega)]; exact hag3 k i s h) ?_ ?_ ?_
                         · rw [up_app, if_neg (by omega), up_app, if_neg (by omega)]; exact g32
                         · rw [up_app, if_neg (by omega), up_app, if_pos ⟨rfl, rfl, rfl⟩, wIx_s, if_pos hst2]
                           unfold tkW
                           (repeat' split) <;> omega
                         · intro _
                           rw [up_app, if_pos ⟨rfl, rfl, rfl⟩, wIx_s, if_pos hst2])
                  · refine q_iconst (t := 74) F dX4_readWord_73 rfl ?_
                    refine q_goto (t := 83) F dX4_readWord_74 (by decide) ?_
                    refine p_X4_54 (t := 86) F dX4_readWord_83 rfl rfl ?_
                    refine q_aload_n (t := 87) F dX4_readWord_86 rfl rfl rfl ?_
                    refine q_iload_n (t := 88) F dX4_readWord_87 rfl rfl rfl ?_
                    refine p_X4_82 (t := 91) F dX4_readWord_88 rfl rfl ?_
                    refine q_iinc (t := 94) F dX4_readWord_91 rfl (by decide) rfl rfl ?_
                    refine q_goto (t := 46) F dX4_readWord_94 (by decide) ?_
                    first
                      | (have hns : ¬ stdS b p q i0 := by
                           rcases hx57 with h | h
                           · omega
                           · exact h.2
                         refine ih46 (i0 + 1) im3 (by omega) (by omega) hR3 hag3 g32 ?_ ?_
                         · rw [wIx_s, if_neg hns]; exact g34
                         · rw [wIx_s, if_neg hns]; exact g36)
                      | (have hst2 : stdS b p q i0 := by
                           rcases hx57 with h | h
                           · exact h.2
                           · omega
                         refine ih46 (i0 + 1) _ (by omega) (by omega) (RI_up (RI_up hR3 (by constructor <;> omega)) (by constructor <;> omega)) (fun k i s h => by rw [up_app, if_neg (by omega), up_app, if_neg (by omega)]; exact hag3 k i s h) ?_ ?_ ?_
                         · rw [up_app, if_neg (by omega), up_app, if_neg (by omega)]; exact g32
                         · rw [up_app, if_neg (by omega), up_app, if_pos ⟨rfl, rfl, rfl⟩, wIx_s, if_pos hst2]
                           unfold tkW
                           (repeat' split) <;> omega
                         · intro _
                           rw [up_app, if_pos ⟨rfl, rfl, rfl⟩, wIx_s, if_pos hst2])
                · refine q_goto (t := 91) F dX4_readWord_63 (by decide) ?_
                  refine q_iinc (t := 94) F dX4_readWord_91 rfl (by decide) rfl rfl ?_
                  refine q_goto (t := 46) F dX4_readWord_94 (by decide) ?_
                  first
                    | (have hns : ¬ stdS b p q i0 := by
                         rcases hx57 with h | h
                         · omega
                         · exact h.2
                       refine ih46 (i0 + 1) im3 (by omega) (by omega) hR3 hag3 g32 ?_ ?_
                       · rw [wIx_s, if_neg hns]; exact g34
                       · rw [wIx_s, if_neg hns]; exact g36)
                    | (have hst2 : stdS b p q i0 := by
                         rcases hx57 with h | h
                         · exact h.2
                         · omega
                       refine ih46 (i0 + 1) _ (by omega) (by omega) (RI_up (RI_up hR3 (by constructor <;> omega)) (by constructor <;> omega)) (fun k i s h => by rw [up_app, if_neg (by omega), up_app, if_neg (by omega)]; exact hag3 k i s h) ?_ ?_ ?_
                       · rw [up_app, if_neg (by omega), up_app, if_neg (by omega)]; exact g32
                       · rw [up_app, if_neg (by omega), up_app, if_pos ⟨rfl, rfl, rfl⟩, wIx_s, if_pos hst2]
                         unfold tkW
                         (repeat' split) <;> omega
                       · intro _
                         rw [up_app, if_pos ⟨rfl, rfl, rfl⟩, wIx_s, if_pos hst2])
          exact L46 _ 0 _ (Nat.lt_succ_self _) (by omega) (RI_up hR2 (by constructor <;> omega)) (fun k i s h => by rw [up_app, if_neg (by omega)]; exact hag k i s h) (by rw [up_app, if_neg (by omega)]; exact g2) (by rw [up_app, if_pos ⟨rfl, rfl, rfl⟩]; rfl) (fun h => absurd rfl h)
        · refine q_aload_n (t := 27) F dX4_readWord_26 rfl rfl rfl ?_
          refine q_dupR (t := 28) F dX4_readWord_27 rfl ?_
          refine g_X4_31 (t := 31) F dX4_readWord_28 rfl rfl ?_
          try simp only [up_app, row_app, scr_app, cpy_app, Nat.reduceEqDiff, Int.reduceToNat, Int.toNat_natCast, and_true, true_and, and_false, false_and, and_self, reduceIte]
          refine q_iconst (t := 32) F dX4_readWord_31 rfl ?_
          refine q_iadd (t := 33) F dX4_readWord_32 rfl ?_
          refine p_X4_31 (t := 36) F dX4_readWord_33 rfl rfl ?_
          refine q_goto (t := 0) F dX4_readWord_36 (by decide) ?_
          refine ih0 (q + 1) _ (by omega) (by omega) (by omega) (RI_up hR2 (by constructor <;> omega)) (fun k i s h => by rw [up_app, if_neg (by omega)]; exact hag k i s h) ?_ ?_
          · rw [up_app, if_pos ⟨rfl, rfl, rfl⟩, g2]; omega
          · rw [hspn, span_y (by omega) (by rcases hx20 with h | h
                                            · exact h.2
                                            · omega)]
  exact L0 _ p im (Nat.lt_succ_self _) (Nat.le_refl _) (by omega) hR (fun k i s h => rfl) hnx rfl
end
section
/-! the next token -/
theorem RS_end {b : Nat → Int} {n p : Nat} {im : IM} {f : Int} (h : n ≤ p) (h2 : im 14 0 2 = p) (h3 : im 14 0 3 = p) (h4 : im 14 0 4 = 0) (h6 : im 14 0 6 = f) : RS b n im p f := by
  have e : tk b n p = 0 := tk_0 h
  refine ⟨?_, h3, by rw [e]; exact h4, fun q => by rw [e] at q; omega, h6⟩
  unfold nx
  rw [if_pos h]; exact h2
theorem RS_L {b : Nat → Int} {n p : Nat} {im : IM} {f : Int} (h : p < n) (hl : isL (b p) = true) (h2 : im 14 0 2 = span isL b n p) (h3 : im 14 0 3 = p) (h4 : im 14 0 4 = tkW (wIx b p (span isL b n p) 12)) (h5 : wIx b p (span isL b n p) 12 ≠ -1 → im 14 0 5 = wIx b p (span isL b n p) 12) (h6 : im 14 0 6 = f) : RS b n im p f := by
  have e : tk b n p = tkW (wIx b p (span isL b n p) 12) := by unfold tk; rw [if_neg (by omega), if_pos hl]
  refine ⟨?_, h3, by rw [e]; exact h4, fun q => ?_, h6⟩
  · unfold nx
    rw [if_neg (by omega), if_pos hl]; exact h2
  · unfold vl
    rw [if_pos hl]
    refine h5 (fun z => ?_)
    rw [e, z] at q
    have : tkW (-1) = 1 := rfl
    omega
theorem RS_D {b : Nat → Int} {n p : Nat} {im : IM} {f : Int} (h : p < n) (hl : ¬ isL (b p) = true) (hd : isD (b p) = true) (h2 : im 14 0 2 = span isD b n p) (h3 : im 14 0 3 = p) (h4 : im 14 0 4 = (if 4 < span isD b n p - p then 1 else 2)) (h5 : im 14 0 5 = numF b p (span isD b n p - p)) (h6 : im 14 0 6 = f) : RS b n im p f := by
  refine ⟨?_, h3, ?_, fun q => ?_, h6⟩
  · unfold nx
    rw [if_neg (by omega), if_neg hl, if_pos hd]; exact h2
  · unfold tk
    rw [if_neg (by omega), if_neg hl, if_pos hd]; exact h4
  · unfold vl
    rw [if_neg hl]; exact h5
theorem RS_S {b : Nat → Int} {n p : Nat} {im : IM} {f : Int} (h : p < n) (hl : ¬ isL (b p) = true) (hd : ¬ isD (b p) = true) (h2 : im 14 0 2 = (p : Int) + 1) (h3 : im 14 0 3 = p) (h4 : im 14 0 4 = (if sgn (b p) then b p else 1)) (h6 : im 14 0 6 = f) : RS b n im p f := by
  have e : tk b n p = (if sgn (b p) then b p else 1) := by unfold tk; rw [if_neg (by omega), if_neg hl, if_neg hd]
  refine ⟨?_, h3, by rw [e]; exact h4, fun q => ?_, h6⟩
  · unfold nx
    rw [if_neg (by omega), if_neg hl, if_neg hd]; omega
  · rw [e] at q
    unfold sgn at q
    exfalso
    split at q <;> omega

set_option maxHeartbeats 4000000 in
theorem c_X4_advance (l : Launch) (G : GS) (im : IM) (bt j : Nat) (lm : IM) (b : Nat → Int) (n : Nat) (hb : byt b n) (hR : RI im) (hb2 : im 15 0 = b) (hsz : im 14 0 1 = n) (p0 : Nat) (hp0 : p0 ≤ n) (hnx : im 14 0 2 = p0) : Cn l (XC G) yX4_advance Y_X4_advance [vR 14 0] (im, rs bt j, lm) (pV fun m' => ∃ im', RI im' ∧ (∀ k i s, ¬ (k = 14 ∧ 2 ≤ s ∧ s ≤ 5) → im' k i s = im k i s) ∧ RS b n im' (span isW b n p0) (im 14 0 6) ∧ m' = (im', rs bt j, lm)) := by
  refine cn_of (by decide) (okC G) rfl (Nat.le_of_ble_eq_true rfl) ?_
  intro M ad hMl F
  subst hMl
  have hn := hb.1
  have e15 : ∀ s, im 15 0 s = b s := fun s => congrFun hb2 s
  refine wp_pad 0 ?_
  show Wp M (XC G) ad Y_X4_advance (pV fun m' => ∃ im', RI im' ∧ (∀ k i s, ¬ (k = 14 ∧ 2 ≤ s ∧ s ≤ 5) → im' k i s = im k i s) ∧ RS b n im' (span isW b n p0) (im 14 0 6) ∧ m' = (im', rs bt j, lm)) 0 [some (vR 14 0)] [] (im, rs bt j, lm)
  have L0 : ∀ (fz : Nat) (q : Nat) (im2 : IM), n - q < fz → p0 ≤ q → q ≤ n → RI im2 → (∀ k i s, ¬ (k = 14 ∧ s = 2) → im2 k i s = im k i s) → im2 14 0 2 = q → span isW b n p0 = span isW b n q → Wp M (XC G) ad Y_X4_advance (pV fun m' => ∃ im', RI im' ∧ (∀ k i s, ¬ (k = 14 ∧ 2 ≤ s ∧ s ≤ 5) → im' k i s = im k i s) ∧ RS b n im' (span isW b n p0) (im 14 0 6) ∧ m' = (im', rs bt j, lm)) 0 [some (vR 14 0)] [] (im2, rs bt j, lm) := by
    intro fz
    induction fz with
    | zero => intro q im2 h; exact absurd h (Nat.not_lt_zero _)
    | succ fz ih =>
      have ih0 := ih
      intro q im2 hmeas hpq hqn hR2 hag g2 hspn
      have g15 : ∀ s, im2 15 0 s = b s := fun s => (hag 15 0 s (by omega)).trans (e15 s)
      have g1 : im2 14 0 1 = n := (hag 14 0 1 (by omega)).trans hsz
      have g6 : im2 14 0 6 = im 14 0 6 := hag 14 0 6 (by omega)
      refine q_aload_n (t := 1) F dX4_advance_0 rfl rfl rfl ?_
      refine g_X4_31 (t := 4) F dX4_advance_1 rfl rfl ?_
      refine q_aload_n (t := 5) F dX4_advance_4 rfl rfl rfl ?_
      refine g_X4_19 (t := 8) F dX4_advance_5 rfl rfl ?_
      refine q_icmp_ge (t := 11) (u := 52) F dX4_advance_8 (by constructor <;> omega) (by constructor <;> omega) (by decide) rfl (fun c8 => ?_) (fun c8 => ?_)
      · have hsp : span isW b n p0 = q := by
          rw [hspn]
          exact span_n (fun z => by have z2 := isW_iff.mp z.2; omega)
        have hR3 : RI (up im2 14 0 3 (q : Int)) := RI_up hR2 (by constructor <;> omega)
        refine q_aload_n (t := 53) F dX4_advance_52 rfl rfl rfl ?_
        refine q_aload_n (t := 54) F dX4_advance_53 rfl rfl rfl ?_
        refine g_X4_31 (t := 57) F dX4_advance_54 rfl rfl ?_
        rw [g2]
        refine p_X4_57 (t := 60) F dX4_advance_57 rfl rfl ?_
        refine q_aload_n (t := 61) F dX4_advance_60 rfl rfl rfl ?_
        refine g_X4_31 (t := 64) F dX4_advance_61 rfl rfl ?_
        try simp only [up_app, row_app, scr_app, cpy_app, Nat.reduceEqDiff, Int.reduceToNat, Int.toNat_natCast, and_true, true_and, and_false, false_and, and_self, reduceIte]
        refine q_aload_n (t := 65) F dX4_advance_64 rfl rfl rfl ?_
        refine g_X4_19 (t := 68) F dX4_advance_65 rfl rfl ?_
        try simp only [up_app, row_app, scr_app, cpy_app, Nat.reduceEqDiff, Int.reduceToNat, Int.toNat_natCast, and_true, true_and, and_false, false_and, and_self, reduceIte]
        refine q_icmp_lt (t := 71) (u := 79) F dX4_advance_68 (by constructor <;> omega) (by constructor <;> omega) (by decide) rfl (fun c68 => ?_) (fun c68 => ?_)
        · have hbq2 := hb.2 q (by omega)
          refine q_aload_n (t := 80) F dX4_advance_79 rfl rfl rfl ?_
          refine g_X4_9 (t := 83) F dX4_advance_80 rfl rfl ?_
          refine q_aload_n (t := 84) F dX4_advance_83 rfl rfl rfl ?_
          refine g_X4_31 (t := 87) F dX4_advance_84 rfl rfl ?_
          try simp only [up_app, row_app, scr_app, cpy_app, Nat.reduceEqDiff, Int.reduceToNat, Int.toNat_natCast, and_true, true_and, and_false, false_and, and_self, reduceIte]
          rw [g2]
          first | refine ldN_15 (t := 88) F dX4_advance_87 (by omega) rfl ?_ | refine ld_15 (t := 88) F dX4_advance_87 (by omega) (by omega) rfl ?_
          try simp only [up_app, row_app, scr_app, cpy_app, Nat.reduceEqDiff, Int.reduceToNat, Int.toNat_natCast, and_true, true_and, and_false, false_and, and_self, reduceIte]
          rw [g15]
          refine wp_callS (t := 91) [_] F dX4_advance_88 k_X4_isLetter st_X4_isLetter ml_X4_85 rfl rfl (Nat.le_of_ble_eq_true rfl) (by decide) (c_X4_isLetter _ G _ bt j lm (b q) (by constructor <;> omega)) rfl (kI ?_)
          rintro x88 m' ⟨hx88, rfl⟩
          have hx88 := if01 hx88
          refine q_if_eq (t := 94) (u := 101) F dX4_advance_91 (by first | exact hR _ _ _ | (constructor <;> omega)) (by decide) rfl (fun c91 => ?_) (fun c91 => ?_)
          · refine q_aload_n (t := 102) F dX4_advance_101 rfl rfl rfl ?_
            refine g_X4_9 (t := 105) F dX4_advance_102 rfl rfl ?_
            refine q_aload_n (t := 106) F dX4_advance_105 rfl rfl rfl ?_
            refine g_X4_31 (t := 109) F dX4_advance_106 rfl rfl ?_
            try simp only [up_app, row_app, scr_app, cpy_app, Nat.reduceEqDiff, Int.reduceToNat, Int.toNat_natCast, and_true, true_and, and_false, false_and, and_self, reduceIte]
            rw [g2]
            first | refine ldN_15 (t := 110) F dX4_advance_109 (by omega) rfl ?_ | refine ld_15 (t := 110) F dX4_advance_109 (by omega) (by omega) rfl ?_
            try simp only [up_app, row_app, scr_app, cpy_app, Nat.reduceEqDiff, Int.reduceToNat, Int.toNat_natCast, and_true, true_and, and_false, false_and, and_self, reduceIte]
            rw [g15]
            refine wp_callS (t := 113) [_] F dX4_advance_110 k_X4_isDigit st_X4_isDigit ml_X4_91 rfl rfl (Nat.le_of_ble_eq_true rfl) (by decide) (c_X4_isDigit _ G _ bt j lm (b q) (by constructor <;> omega)) rfl (kI ?_)
            rintro x110 m' ⟨hx110, rfl⟩
            have hx110 := if01 hx110
            refine q_if_eq (t := 116) (u := 123) F dX4_advance_113 (by first | exact hR _ _ _ | (constructor <;> omega)) (by decide) rfl (fun c113 => ?_) (fun c113 => ?_)
            · refine q_aload_n (t := 124) F dX4_advance_123 rfl rfl rfl ?_
              refine wp_callV (t := 127) [] F dX4_advance_124 k_X4_readSign v_X4_readSign ml_X4_97 rfl rfl rfl rfl (Nat.le_of_ble_eq_true rfl) (by decide) (m_14 (by omega)) (c_X4_readSign _ G _ bt j lm b n hb hR3 (funext fun s => by rw [up_app, if_neg (by omega)]; exact g15 s) q (by omega) (by rw [up_app, if_neg (by omega)]; exact g2)) rfl (kV ?_)
              rintro m' rfl
              refine q_vret F dX4_advance_127 rfl ?_
              first
                | (have hl : isL (b q) = true := by
                     rcases hx88 with h | h
                     · exact h.2
                     · omega
                   refine ⟨rfl, im4, hR4, (fun k i s h => by rw [hag4 k i s (by omega), up_app, if_neg (by omega)]; exact hag k i s (by omega)), ?_, rfl⟩
                   rw [hsp]
                   exact RS_L (by omega) hl k2 (by rw [hag4 14 0 3 (by omega), up_app, if_pos ⟨rfl, rfl, rfl⟩]) k4 k5 (by rw [hag4 14 0 6 (by omega), up_app, if_neg (by omega)]; exact g6))
                | (have hl : ¬ isL (b q) = true := by
                     rcases hx88 with h | h
                     · omega
                     · exact h.2
                   have hd : isD (b q) = true := by
                     rcases hx110 with h | h
                     · exact h.2
                     · omega
                   refine ⟨rfl, im4, hR4, (fun k i s h => by rw [hag4 k i s (by omega), up_app, if_neg (by omega)]; exact hag k i s (by omega)), ?_, rfl⟩
                   rw [hsp]
                   exact RS_D (by omega) hl hd k2 (by rw [hag4 14 0 3 (by omega), up_app, if_pos ⟨rfl, rfl, rfl⟩]) k4 k5 (by rw [hag4 14 0 6 (by omega), up_app, if_neg (by omega)]; exact g6))
                | (have hl : ¬ isL (b q) = true := by
                     rcases hx88 with h | h
                     · omega
                     · exact h.2
                   have hd : ¬ isD (b q) = true := by
                     rcases hx110 with h | h
                     · omega
                     · exact h.2
                   refine ⟨rfl, _, RI_up (RI_up hR3 (by split <;> constructor <;> omega)) (by constructor <;> omega), (fun k i s h => by rw [up_app, if_neg (by omega), up_app, if_neg (by omega), up_app, if_neg (by omega)]; exact hag k i s (by omega)), ?_, rfl⟩
                   rw [hsp]
                   exact RS_S (by omega) hl hd rfl rfl rfl g6)
                | (refine ⟨rfl, _, RI_up hR3 (by constructor <;> omega), (fun k i s h => by rw [up_app, if_neg (by omega), up_app, if_neg (by omega)]; exact hag k i s (by omega)), ?_, rfl⟩
                   rw [hsp]
                   exact RS_end (by omega) (by rw [up_app, if_neg (by omega), up_app, if_neg (by omega)]; exact g2) rfl rfl g6)
            · refine q_aload_n (t := 117) F dX4_advance_116 rfl rfl rfl ?_
              refine wp_callV (t := 120) [] F dX4_advance_117 k_X4_readNumber v_X4_readNumber ml_X4_94 rfl rfl rfl rfl (Nat.le_of_ble_eq_true rfl) (by decide) (m_14 (by omega)) (c_X4_readNumber _ G _ bt j lm b n hb hR3 (funext fun s => by rw [up_app, if_neg (by omega)]; exact g15 s) (by rw [up_app, if_neg (by omega)]; exact g1) q (by omega) (by rw [up_app, if_neg (by omega)]; exact g2) (by rw [up_app, if_pos ⟨rfl, rfl, rfl⟩])) rfl (kV ?_)
              rintro m' ⟨im4, hR4, hag4, k2, k4, k5, rfl⟩
              refine q_goto (t := 127) F dX4_advance_120 (by decide) ?_
              refine q_vret F dX4_advance_127 rfl ?_
              first
                | (have hl : isL (b q) = true := by
                     rcases hx88 with h | h
                     · exact h.2
                     · omega
                   refine ⟨rfl, im4, hR4, (fun k i s h => by rw [hag4 k i s (by omega), up_app, if_neg (by omega)]; exact hag k i s (by omega)), ?_, rfl⟩
                   rw [hsp]
                   exact RS_L (by omega) hl k2 (by rw [hag4 14 0 3 (by omega), up_app, if_pos ⟨rfl, rfl, rfl⟩]) k4 k5 (by rw [hag4 14 0 6 (by omega), up_app, if_neg (by omega)]; exact g6))
                | (have hl : ¬ isL (b q) = true := by
                     rcases hx88 with h | h
                     · omega
                     · exact h.2
                   have hd : isD (b q) = true := by
                     rcases hx110 with h | h
                     · exact h.2
                     · omega
                   refine ⟨rfl, im4, hR4, (fun k i s h => by rw [hag4 k i s (by omega), up_app, if_neg (by omega)]; exact hag k i s (by omega)), ?_, rfl⟩
                   rw [hsp]
                   exact RS_D (by omega) hl hd k2 (by rw [hag4 14 0 3 (by omega), up_app, if_pos ⟨rfl, rfl, rfl⟩]) k4 k5 (by rw [hag4 14 0 6 (by omega), up_app, if_neg (by omega)]; exact g6))
                | (have hl : ¬ isL (b q) = true := by
                     rcases hx88 with h | h
                     · omega
                     · exact h.2
                   have hd : ¬ isD (b q) = true := by
                     rcases hx110 with h | h
                     · omega
                     · exact h.2
                   refine ⟨rfl, _, RI_up (RI_up hR3 (by split <;> constructor <;> omega)) (by constructor <;> omega), (fun k i s h => by rw [up_app, if_neg (by omega), up_app, if_neg (by omega), up_app, if_neg (by omega)]; exact hag k i s (by omega)), ?_, rfl⟩
                   rw [hsp]
                   exact RS_S (by omega) hl hd rfl rfl rfl g6)
                | (refine ⟨rfl, _, RI_up hR3 (by constructor <;> omega), (fun k i s h => by rw [up_app, if_neg (by omega), up_app, if_neg (by omega)]; exact hag k i s (by omega)), ?_, rfl⟩
                   rw [hsp]
                   exact RS_end (by omega) (by rw [up_app, if_neg (by omega), up_app, if_neg (by omega)]; exact g2) rfl rfl g6)
          · refine q_aload_n (t := 95) F dX4_advance_94 rfl rfl rfl ?_
            refine wp_callV (t := 98) [] F dX4_advance_95 k_X4_readWord v_X4_readWord ml_X4_88 rfl rfl rfl rfl (Nat.le_of_ble_eq_true rfl) (by decide) (m_14 (by omega)) (c_X4_readWord _ G _ bt j lm b n hb hR3 (funext fun s => by rw [up_app, if_neg (by omega)]; exact g15 s) (by rw [up_app, if_neg (by omega)]; exact g1) q (by omega) (by rcases hx88 with h | h; exact h.2; omega) (by rw [up_app, if_neg (by omega)]; exact g2) (by rw [up_app, if_pos ⟨rfl, rfl, rfl⟩])) rfl (kV ?_)
            rintro m' ⟨im4, hR4, hag4, k2, k4, k5, rfl⟩
            refine q_goto (t := 127) F dX4_advance_98 (by decide) ?_
            refine q_vret F dX4_advance_127 rfl ?_
            first
              | (have hl : isL (b q) = true := by
                   rcases hx88 with h | h
                   · exact h.2
                   · omega
                 refine ⟨rfl, im4, hR4, (fun k i s h => by rw [hag4 k i s (by omega), up_app, if_neg (by omega)]; exact hag k i s (by omega)), ?_, rfl⟩
                 rw [hsp]
                 exact RS_L (by omega) hl k2 (by rw [hag4 14 0 3 (by omega), up_app, if_pos ⟨rfl, rfl, rfl⟩]) k4 k5 (by rw [hag4 14 0 6 (by omega), up_app, if_neg (by omega)]; exact g6))
              | (have hl : ¬ isL (b q) = true := by
                   rcases hx88 with h | h
                   · omega
                   · exact h.2
                 have hd : isD (b q) = true := by
                   rcases hx110 with h | h
                   · exact h.2
                   · omega
                 refine ⟨rfl, im4, hR4, (fun k i s h => by rw [hag4 k i s (by omega), up_app, if_neg (by omega)]; exact hag k i s (by omega)), ?_, rfl⟩
                 rw [hsp]
                 exact RS_D (by omega) hl hd k2 (by rw [hag4 14 0 3 (by omega), up_app, if_pos ⟨rfl, rfl, rfl⟩]) k4 k5 (by rw [hag4 14 0 6 (by omega), up_app, if_neg (by omega)]; exact g6))
              | (have hl : ¬ isL (b q) = true := by
                   rcases hx88 with h | h
                   · omega
                   · exact h.2
                 have hd : ¬ isD (b q) = true := by
                   rcases hx110 with h | h
                   · omega
                   · exact h.2
                 refine ⟨rfl, _, RI_up (RI_up hR3 (by split <;> constructor <;> omega)) (by constructor <;> omega), (fun k i s h => by rw [up_app, if_neg (by omega), up_app, if_neg (by omega), up_app, if_neg (by omega)]; exact hag k i s (by omega)), ?_, rfl⟩
                 rw [hsp]
                 exact RS_S (by omega) hl hd rfl rfl rfl g6)
              | (refine ⟨rfl, _, RI_up hR3 (by constructor <;> omega), (fun k i s h => by rw [up_app, if_neg (by omega), up_app, if_neg (by omega)]; exact hag k i s (by omega)), ?_, rfl⟩
                 rw [hsp]
                 exact RS_end (by omega) (by rw [up_app, if_neg (by omega), up_app, if_neg (by omega)]; exact g2) rfl rfl g6)
        · refine q_aload_n (t := 72) F dX4_advance_71 rfl rfl rfl ?_
          refine q_iconst (t := 73) F dX4_advance_72 rfl ?_
          refine p_X4_54 (t := 76) F dX4_advance_73 rfl rfl ?_
          refine q_goto (t := 127) F dX4_advance_76 (by decide) ?_
          refine q_vret F dX4_advance_127 rfl ?_
          first
            | (have hl : isL (b q) = true := by
                 rcases hx88 with h | h
                 · exact h.2
                 · omega
               refine ⟨rfl, im4, hR4, (fun k i s h => by rw [hag4 k i s (by omega), up_app, if_neg (by omega)]; exact hag k i s (by omega)), ?_, rfl⟩
               rw [hsp]
               exact RS_L (by omega) hl k2 (by rw [hag4 14 0 3 (by omega), up_app, if_pos ⟨rfl, rfl, rfl⟩]) k4 k5 (by rw [hag4 14 0 6 (by omega), up_app, if_neg (by omega)]; exact g6))
            | (have hl : ¬ isL (b q) = true := by
                 rcases hx88 with h | h
                 · omega
                 · exact h.2
               have hd : isD (b q) = true := by
                 rcases hx110 with h | h
                 · exact h.2
                 · omega
               refine ⟨rfl, im4, hR4, (fun k i s h => by rw [hag4 k i s (by omega), up_app, if_neg (by omega)]; exact hag k i s (by omega)), ?_, rfl⟩
               rw [hsp]
               exact RS_D (by omega) hl hd k2 (by rw [hag4 14 0 3 (by omega), up_app, if_pos ⟨rfl, rfl, rfl⟩]) k4 k5 (by rw [hag4 14 0 6 (by omega), up_app, if_neg (by omega)]; exact g6))
            | (have hl : ¬ isL (b q) = true := by
                 rcases hx88 with h | h
                 · omega
                 · exact h.2
               have hd : ¬ isD (b q) = true := by
                 rcases hx110 with h | h
                 · omega
                 · exact h.2
               refine ⟨rfl, _, RI_up (RI_up hR3 (by split <;> constructor <;> omega)) (by constructor <;> omega), (fun k i s h => by rw [up_app, if_neg (by omega), up_app, if_neg (by omega), up_app, if_neg (by omega)]; exact hag k i s (by omega)), ?_, rfl⟩
               rw [hsp]
               exact RS_S (by omega) hl hd rfl rfl rfl g6)
            | (refine ⟨rfl, _, RI_up hR3 (by constructor <;> omega), (fun k i s h => by rw [up_app, if_neg (by omega), up_app, if_neg (by omega)]; exact hag k i s (by omega)), ?_, rfl⟩
               rw [hsp]
               exact RS_end (by omega) (by rw [up_app, if_neg (by omega), up_app, if_neg (by omega)]; exact g2) rfl rfl g6)
      · have hbq := hb.2 q (by omega)
        refine q_aload_n (t := 12) F dX4_advance_11 rfl rfl rfl ?_
        refine g_X4_9 (t := 15) F dX4_advance_12 rfl rfl ?_
        refine q_aload_n (t := 16) F dX4_advance_15 rfl rfl rfl ?_
        refine g_X4_31 (t := 19) F dX4_advance_16 rfl rfl ?_
        rw [g2]
        first | refine ldN_15 (t := 20) F dX4_advance_19 (by omega) rfl ?_ | refine ld_15 (t := 20) F dX4_advance_19 (by omega) (by omega) rfl ?_
        rw [g15]
        refine q_bipush (t := 22) F dX4_advance_20 (by decide) rfl ?_
        refine q_icmp_eq (t := 25) (u := 39) F dX4_advance_22 (by constructor <;> omega) (by constructor <;> omega) (by decide) rfl (fun c22 => ?_) (fun c22 => ?_)
        · refine q_aload_n (t := 40) F dX4_advance_39 rfl rfl rfl ?_
          refine q_dupR (t := 41) F dX4_advance_40 rfl ?_
          refine g_X4_31 (t := 44) F dX4_advance_41 rfl rfl ?_
          refine q_iconst (t := 45) F dX4_advance_44 rfl ?_
          refine q_iadd (t := 46) F dX4_advance_45 rfl ?_
          refine p_X4_31 (t := 49) F dX4_advance_46 rfl rfl ?_
          refine q_goto (t := 0) F dX4_advance_49 (by decide) ?_
          refine ih0 (q + 1) _ (by omega) (by omega) (by omega) (RI_up hR2 (by constructor <;> omega)) (fun k i s h => by rw [up_app, if_neg (by omega)]; exact hag k i s h) (by rw [up_app, if_pos ⟨rfl, rfl, rfl⟩, g2]; omega) (by rw [hspn, span_y (by omega) (isW_iff.mpr (by omega))])
        · refine q_aload_n (t := 26) F dX4_advance_25 rfl rfl rfl ?_
          refine g_X4_9 (t := 29) F dX4_advance_26 rfl rfl ?_
          refine q_aload_n (t := 30) F dX4_advance_29 rfl rfl rfl ?_
          refine g_X4_31 (t := 33) F dX4_advance_30 rfl rfl ?_
          rw [g2]
          first | refine ldN_15 (t := 34) F dX4_advance_33 (by omega) rfl ?_ | refine ld_15 (t := 34) F dX4_advance_33 (by omega) (by omega) rfl ?_
          rw [g15]
          refine q_bipush (t := 36) F dX4_advance_34 (by decide) rfl ?_
          refine q_icmp_ne (t := 39) (u := 52) F dX4_advance_36 (by constructor <;> omega) (by constructor <;> omega) (by decide) rfl (fun c36 => ?_) (fun c36 => ?_)
          · have hsp : span isW b n p0 = q := by
              rw [hspn]
              exact span_n (fun z => by have z2 := isW_iff.mp z.2; omega)
            have hR3 : RI (up im2 14 0 3 (q : Int)) := RI_up hR2 (by constructor <;> omega)
            refine q_aload_n (t := 53) F dX4_advance_52 rfl rfl rfl ?_
            refine q_aload_n (t := 54) F dX4_advance_53 rfl rfl rfl ?_
            refine g_X4_31 (t := 57) F dX4_advance_54 rfl rfl ?_
            rw [g2]
            refine p_X4_57 (t := 60) F dX4_advance_57 rfl rfl ?_
            refine q_aload_n (t := 61) F dX4_advance_60 rfl rfl rfl ?_
            refine g_X4_31 (t := 64) F dX4_advance_61 rfl rfl ?_
            try simp only [up_app, row_app, scr_app, cpy_app, Nat.reduceEqDiff, Int.reduceToNat, Int.toNat_natCast, and_true, true_and, and_false, false_and, and_self, reduceIte]
            refine q_aload_n (t := 65) F dX4_advance_64 rfl rfl rfl ?_
            refine g_X4_19 (t := 68) F dX4_advance_65 rfl rfl ?_
            try simp only [up_app, row_app, scr_app, cpy_app, Nat.reduceEqDiff, Int.reduceToNat, Int.toNat_natCast, and_true, true_and, and_false, false_and, and_self, reduceIte]
            refine q_icmp_lt (t := 71) (u := 79) F dX4_advance_68 (by constructor <;> omega) (by constructor <;> omega) (by decide) rfl (fun c68 => ?_) (fun c68 => ?_)
            · have hbq2 := hb.2 q (by omega)
              refine q_aload_n (t := 80) F dX4_advance_79 rfl rfl rfl ?_
              refine g_X4_9 (t := 83) F dX4_advance_80 rfl rfl ?_
              refine q_aload_n (t := 84) F dX4_advance_83 rfl rfl rfl ?_
              refine g_X4_31 (t := 87) F dX4_advance_84 rfl rfl ?_
              try simp only [up_app, row_app, scr_app, cpy_app, Nat.reduceEqDiff, Int.reduceToNat, Int.toNat_natCast, and_true, true_and, and_false, false_and, and_self, reduceIte]
              rw [g2]
              first | refine ldN_15 (t := 88) F dX4_advance_87 (by omega) rfl ?_ | refine ld_15 (t := 88) F dX4_advance_87 (by omega) (by omega) rfl ?_
              try simp only [up_app, row_app, scr_app, cpy_app, Nat.reduceEqDiff, Int.reduceToNat, Int.toNat_natCast, and_true, true_and, and_false, false_and, and_self, reduceIte]
              rw [g15]
              refine wp_callS (t := 91) [_] F dX4_advance_88 k_X4_isLetter st_X4_isLetter ml_X4_85 rfl rfl (Nat.le_of_ble_eq_true rfl) (by decide) (c_X4_isLetter _ G _ bt j lm (b q) (by constructor <;> omega)) rfl (kI ?_)
              rintro x88 m' ⟨hx88, rfl⟩
              have hx88 := if01 hx88
              refine q_if_eq (t := 94) (u := 101) F dX4_advance_91 (by first | exact hR _ _ _ | (constructor <;> omega)) (by decide) rfl (fun c91 => ?_) (fun c91 => ?_)
              · refine q_aload_n (t := 102) F dX4_advance_101 rfl rfl rfl ?_
                refine g_X4_9 (t := 105) F dX4_advance_102 rfl rfl ?_
                refine q_aload_n (t := 106) F dX4_advance_105 rfl rfl rfl ?_
                refine g_X4_31 (t := 109) F dX4_advance_106 rfl rfl ?_
                try simp only [up_app, row_app, scr_app, cpy_app, Nat.reduceEqDiff, Int.reduceToNat, Int.toNat_natCast, and_true, true_and, and_false, false_and, and_self, reduceIte]
                rw [g2]
                first | refine ldN_15 (t := 110) F dX4_advance_109 (by omega) rfl ?_ | refine ld_15 (t := 110) F dX4_advance_109 (by omega) (by omega) rfl ?_
                try simp only [up_app, row_app, scr_app, cpy_app, Nat.reduceEqDiff, Int.reduceToNat, Int.toNat_natCast, and_true, true_and, and_false, false_and, and_self, reduceIte]
                rw [g15]
                refine wp_callS (t := 113) [_] F dX4_advance_110 k_X4_isDigit st_X4_isDigit ml_X4_91 rfl rfl (Nat.le_of_ble_eq_true rfl) (by decide) (c_X4_isDigit _ G _ bt j lm (b q) (by constructor <;> omega)) rfl (kI ?_)
                rintro x110 m' ⟨hx110, rfl⟩
                have hx110 := if01 hx110
                refine q_if_eq (t := 116) (u := 123) F dX4_advance_113 (by first | exact hR _ _ _ | (constructor <;> omega)) (by decide) rfl (fun c113 => ?_) (fun c113 => ?_)
                · refine q_aload_n (t := 124) F dX4_advance_123 rfl rfl rfl ?_
                  refine wp_callV (t := 127) [] F dX4_advance_124 k_X4_readSign v_X4_readSign ml_X4_97 rfl rfl rfl rfl (Nat.le_of_ble_eq_true rfl) (by decide) (m_14 (by omega)) (c_X4_readSign _ G _ bt j lm b n hb hR3 (funext fun s => by rw [up_app, if_neg (by omega)]; exact g15 s) q (by omega) (by rw [up_app, if_neg (by omega)]; exact g2)) rfl (kV ?_)
                  rintro m' rfl
                  refine q_vret F dX4_advance_127 rfl ?_
                  first
                    | (have hl : isL (b q) = true := by
                         rcases hx88 with h | h
                         · exact h.2
                         · omega
                       refine ⟨rfl, im4, hR4, (fun k i s h => by rw [hag4 k i s (by omega), up_app, if_neg (by omega)]; exact hag k i s (by omega)), ?_, rfl⟩
                       rw [hsp]
                       exact RS_L (by omega) hl k2 (by rw [hag4 14 0 3 (by omega), up_app, if_pos ⟨rfl, rfl, rfl⟩]) k4 k5 (by rw [hag4 14 0 6 (by omega), up_app, if_neg (by omega)]; exact g6))
                    | (have hl : ¬ isL (b q) = true := by
                         rcases hx88 with h | h
                         · omega
                         · exact h.2
                       have hd : isD (b q) = true := by
                         rcases hx110 with h | h
                         · exact h.2
                         · omega
                       refine ⟨rfl, im4, hR4, (fun k i s h => by rw [hag4 k i s (by omega), up_app, if_neg (by omega)]; exact hag k i s (by omega)), ?_, rfl⟩
                       rw [hsp]
                       exact RS_D (by omega) hl hd k2 (by rw [hag4 14 0 3 (by omega), up_app, if_pos ⟨rfl, rfl, rfl⟩]) k4 k5 (by rw [hag4 14 0 6 (by omega), up_app, if_neg (by omega)]; exact g6))
                    | (have hl : ¬ isL (b q) = true := by
                         rcases hx88 with h | h
                         · omega
                         · exact h.2
                       have hd : ¬ isD (b q) = true := by
                         rcases hx110 with h | h
                         · omega
                         · exact h.2
                       refine ⟨rfl, _, RI_up (RI_up hR3 (by split <;> constructor <;> omega)) (by constructor <;> omega), (fun k i s h => by rw [up_app, if_neg (by omega), up_app, if_neg (by omega), up_app, if_neg (by omega)]; exact hag k i s (by omega)), ?_, rfl⟩
                       rw [hsp]
                       exact RS_S (by omega) hl hd rfl rfl rfl g6)
                    | (refine ⟨rfl, _, RI_up hR3 (by constructor <;> omega), (fun k i s h => by rw [up_app, if_neg (by omega), up_app, if_neg (by omega)]; exact hag k i s (by omega)), ?_, rfl⟩
                       rw [hsp]
                       exact RS_end (by omega) (by rw [up_app, if_neg (by omega), up_app, if_neg (by omega)]; exact g2) rfl rfl g6)
                · refine q_aload_n (t := 117) F dX4_advance_116 rfl rfl rfl ?_
                  refine wp_callV (t := 120) [] F dX4_advance_117 k_X4_readNumber v_X4_readNumber ml_X4_94 rfl rfl rfl rfl (Nat.le_of_ble_eq_true rfl) (by decide) (m_14 (by omega)) (c_X4_readNumber _ G _ bt j lm b n hb hR3 (funext fun s => by rw [up_app, if_neg (by omega)]; exact g15 s) (by rw [up_app, if_neg (by omega)]; exact g1) q (by omega) (by rw [up_app, if_neg (by omega)]; exact g2) (by rw [up_app, if_pos ⟨rfl, rfl, rfl⟩])) rfl (kV ?_)
                  rintro m' ⟨im4, hR4, hag4, k2, k4, k5, rfl⟩
                  refine q_goto (t := 127) F dX4_advance_120 (by decide) ?_
                  refine q_vret F dX4_advance_127 rfl ?_
                  first
                    | (have hl : isL (b q) = true := by
                         rcases hx88 with h | h
                         · exact h.2
                         · omega
                       refine ⟨rfl, im4, hR4, (fun k i s h => by rw [hag4 k i s (by omega), up_app, if_neg (by omega)]; exact hag k i s (by omega)), ?_, rfl⟩
                       rw [hsp]
                       exact RS_L (by omega) hl k2 (by rw [hag4 14 0 3 (by omega), up_app, if_pos ⟨rfl, rfl, rfl⟩]) k4 k5 (by rw [hag4 14 0 6 (by omega), up_app, if_neg (by omega)]; exact g6))
                    | (have hl : ¬ isL (b q) = true := by
                         rcases hx88 with h | h
                         · omega
                         · exact h.2
                       have hd : isD (b q) = true := by
                         rcases hx110 with h | h
                         · exact h.2
                         · omega
                       refine ⟨rfl, im4, hR4, (fun k i s h => by rw [hag4 k i s (by omega), up_app, if_neg (by omega)]; exact hag k i s (by omega)), ?_, rfl⟩
                       rw [hsp]
                       exact RS_D (by omega) hl hd k2 (by rw [hag4 14 0 3 (by omega), up_app, if_pos ⟨rfl, rfl, rfl⟩]) k4 k5 (by rw [hag4 14 0 6 (by omega), up_app, if_neg (by omega)]; exact g6))
                    | (have hl : ¬ isL (b q) = true := by
                         rcases hx88 with h | h
                         · omega
                         · exact h.2
                       have hd : ¬ isD (b q) = true := by
                         rcases hx110 with h | h
                         · omega
                         · exact h.2
                       refine ⟨rfl, _, RI_up (RI_up hR3 (by split <;> constructor <;> omega)) (by constructor <;> omega), (fun k i s h => by rw [up_app, if_neg (by omega), up_app, if_neg (by omega), up_app, if_neg (by omega)]; exact hag k i s (by omega)), ?_, rfl⟩
                       rw [hsp]
                       exact RS_S (by omega) hl hd rfl rfl rfl g6)
                    | (refine ⟨rfl, _, RI_up hR3 (by constructor <;> omega), (fun k i s h => by rw [up_app, if_neg (by omega), up_app, if_neg (by omega)]; exact hag k i s (by omega)), ?_, rfl⟩
                       rw [hsp]
                       exact RS_end (by omega) (by rw [up_app, if_neg (by omega), up_app, if_neg (by omega)]; exact g2) rfl rfl g6)
              · refine q_aload_n (t := 95) F dX4_advance_94 rfl rfl rfl ?_
                refine wp_callV (t := 98) [] F dX4_advance_95 k_X4_readWord v_X4_readWord ml_X4_88 rfl rfl rfl rfl (Nat.le_of_ble_eq_true rfl) (by decide) (m_14 (by omega)) (c_X4_readWord _ G _ bt j lm b n hb hR3 (funext fun s => by rw [up_app, if_neg (by omega)]; exact g15 s) (by rw [up_app, if_neg (by omega)]; exact g1) q (by omega) (by rcases hx88 with h | h; exact h.2; omega) (by rw [up_app, if_neg (by omega)]; exact g2) (by rw [up_app, if_pos ⟨rfl, rfl, rfl⟩])) rfl (kV ?_)
                rintro m' ⟨im4, hR4, hag4, k2, k4, k5, rfl⟩
                refine q_goto (t := 127) F dX4_advance_98 (by decide) ?_
                refine q_vret F dX4_advance_127 rfl ?_
                first
                  | (have hl : isL (b q) = true := by
                       rcases hx88 with h | h
                       · exact h.2
                       · omega
                     refine ⟨rfl, im4, hR4, (fun k i s h => by rw [hag4 k i s (by omega), up_app, if_neg (by omega)]; exact hag k i s (by omega)), ?_, rfl⟩
                     rw [hsp]
                     exact RS_L (by omega) hl k2 (by rw [hag4 14 0 3 (by omega), up_app, if_pos ⟨rfl, rfl, rfl⟩]) k4 k5 (by rw [hag4 14 0 6 (by omega), up_app, if_neg (by omega)]; exact g6))
                  | (have hl : ¬ isL (b q) = true := by
                       rcases hx88 with h | h
                       · omega
                       · exact h.2
                     have hd : isD (b q) = true := by
                       rcases hx110 with h | h
                       · exact h.2
                       · omega
                     refine ⟨rfl, im4, hR4, (fun k i s h => by rw [hag4 k i s (by omega), up_app, if_neg (by omega)]; exact hag k i s (by omega)), ?_, rfl⟩
                     rw [hsp]
                     exact RS_D (by omega) hl hd k2 (by rw [hag4 14 0 3 (by omega), up_app, if_pos ⟨rfl, rfl, rfl⟩]) k4 k5 (by rw [hag4 14 0 6 (by omega), up_app, if_neg (by omega)]; exact g6))
                  | (have hl : ¬ isL (b q) = true := by
                       rcases hx88 with h | h
                       · omega
                       · exact h.2
                     have hd : ¬ isD (b q) = true := by
                       rcases hx110 with h | h
                       · omega
                       · exact h.2
                     refine ⟨rfl, _, RI_up (RI_up hR3 (by split <;> constructor <;> omega)) (by constructor <;> omega), (fun k i s h => by rw [up_app, if_neg (by omega), up_app, if_neg (by omega), up_app, if_neg (by omega)]; exact hag k i s (by omega)), ?_, rfl⟩
                     rw [hsp]
                     exact RS_S (by omega) hl hd rfl rfl rfl g6)
                  | (refine ⟨rfl, _, RI_up hR3 (by constructor <;> omega), (fun k i s h => by rw [up_app, if_neg (by omega), up_app, if_neg (by omega)]; exact hag k i s (by omega)), ?_, rfl⟩
                     rw [hsp]
                     exact RS_end (by omega) (by rw [up_app, if_neg (by omega), up_app, if_neg (by omega)]; exact g2) rfl rfl g6)
            · refine q_aload_n (t := 72) F dX4_advance_71 rfl rfl rfl ?_
              refine q_iconst (t := 73) F dX4_advance_72 rfl ?_
              refine p_X4_54 (t := 76) F dX4_advance_73 rfl rfl ?_
              refine q_goto (t := 127) F dX4_advance_76 (by decide) ?_
              refine q_vret F dX4_advance_127 rfl ?_
              first
                | (have hl : isL (b q) = true := by
                     rcases hx88 with h | h
                     · exact h.2
                     · omega
                   refine ⟨rfl, im4, hR4, (fun k i s h => by rw [hag4 k i s (by omega), up_app, if_neg (by omega)]; exact hag k i s (by omega)), ?_, rfl⟩
                   rw [hsp]
                   exact RS_L (by omega) hl k2 (by rw [hag4 14 0 3 (by omega), up_app, if_pos ⟨rfl, rfl, rfl⟩]) k4 k5 (by rw [hag4 14 0 6 (by omega), up_app, if_neg (by omega)]; exact g6))
                | (have hl : ¬ isL (b q) = true := by
                     rcases hx88 with h | h
                     · omega
                     · exact h.2
                   have hd : isD (b q) = true := by
                     rcases hx110 with h | h
                     · exact h.2
                     · omega
                   refine ⟨rfl, im4, hR4, (fun k i s h => by rw [hag4 k i s (by omega), up_app, if_neg (by omega)]; exact hag k i s (by omega)), ?_, rfl⟩
                   rw [hsp]
                   exact RS_D (by omega) hl hd k2 (by rw [hag4 14 0 3 (by omega), up_app, if_pos ⟨rfl, rfl, rfl⟩]) k4 k5 (by rw [hag4 14 0 6 (by omega), up_app, if_neg (by omega)]; exact g6))
                | (have hl : ¬ isL (b q) = true := by
                     rcases hx88 with h | h
                     · omega
                     · exact h.2
                   have hd : ¬ isD (b q) = true := by
                     rcases hx110 with h | h
                     · omega
                     · exact h.2
                   refine ⟨rfl, _, RI_up (RI_up hR3 (by split <;> constructor <;> omega)) (by constructor <;> omega), (fun k i s h => by rw [up_app, if_neg (by omega), up_app, if_neg (by omega), up_app, if_neg (by omega)]; exact hag k i s (by omega)), ?_, rfl⟩
                   rw [hsp]
                   exact RS_S (by omega) hl hd rfl rfl rfl g6)
                | (refine ⟨rfl, _, RI_up hR3 (by constructor <;> omega), (fun k i s h => by rw [up_app, if_neg (by omega), up_app, if_neg (by omega)]; exact hag k i s (by omega)), ?_, rfl⟩
                   rw [hsp]
                   exact RS_end (by omega) (by rw [up_app, if_neg (by omega), up_app, if_neg (by omega)]; exact g2) rfl rfl g6)
          · refine q_aload_n (t := 40) F dX4_advance_39 rfl rfl rfl ?_
            refine q_dupR (t := 41) F dX4_advance_40 rfl ?_
            refine g_X4_31 (t := 44) F dX4_advance_41 rfl rfl ?_
            refine q_iconst (t := 45) F dX4_advance_44 rfl ?_
            refine q_iadd (t := 46) F dX4_advance_45 rfl ?_
            refine p_X4_31 (t := 49) F dX4_advance_46 rfl rfl ?_
            refine q_goto (t := 0) F dX4_advance_49 (by decide) ?_
            refine ih0 (q + 1) _ (by omega) (by omega) (by omega) (RI_up hR2 (by constructor <;> omega)) (fun k i s h => by rw [up_app, if_neg (by omega)]; exact hag k i s h) (by rw [up_app, if_pos ⟨rfl, rfl, rfl⟩, g2]; omega) (by rw [hspn, span_y (by omega) (isW_iff.mpr (by omega))])
  exact L0 _ p0 im (Nat.lt_succ_self _) (Nat.le_refl _) hp0 hR (fun k i s h => rfl) hnx rfl
end
section
/-! steps more -/
def ap (j : Nat) (a : IM) (L : List Int) (c : IM) : Prop := c 2 j 3 = a 2 j 3 + L.length ∧ (∀ s : Nat, (s : Int) < a 2 j 3 → c 3 j s = a 3 j s) ∧ ∀ s : Nat, s < L.length → c 3 j ((a 2 j 3).toNat + s) = L.getD s 0
theorem ap_nil {j : Nat} {a c : IM} (h2 : c 2 j 3 = a 2 j 3) (h3 : ∀ s, c 3 j s = a 3 j s) : ap j a [] c := ⟨by rw [h2]; exact (Int.add_zero _).symm, fun s _ => h3 s, fun s h => absurd h (Nat.not_lt_zero _)⟩
theorem ap.app {j : Nat} {a b c : IM} {L L2 : List Int} (h0 : 0 ≤ a 2 j 3) (h : ap j a L b) (h2 : ap j b L2 c) : ap j a (L ++ L2) c := by
  have e := h.1
  have e2 := h2.1
  refine ⟨by rw [List.length_append]; omega, fun s hs => (h2.2.1 s (by omega)).trans (h.2.1 s hs), fun s hs => ?_⟩
  rw [List.length_append] at hs
  rw [List.getD_eq_getElem?_getD]
  by_cases hl : s < L.length
  · rw [List.getElem?_append_left hl, ← List.getD_eq_getElem?_getD]
    rw [h2.2.1 _ (by omega)]
    exact h.2.2 s hl
  · rw [List.getElem?_append_right (by omega), ← List.getD_eq_getElem?_getD]
    have h3 := h2.2.2 (s - L.length) (by omega)
    rw [show (b 2 j 3).toNat + (s - L.length) = (a 2 j 3).toNat + s by omega] at h3
    exact h3
/-- what stands behind a reading from im: place, fault, steps -/
def PO (b : Nat → Int) (n j : Nat) (im : IM) (r : PT) (im' : IM) : Prop := PR b n j im' r.1 r.2.1 ∧ agR j im' im ∧ (r.2.1 = -1 → ap j im r.2.2.1 im')
theorem PO_id {b : Nat → Int} {n j : Nat} {im : IM} {p : Nat} {f : Int} {V : (Nat → Int) → Int} (h : PR b n j im p f) : PO b n j im (p, f, [], V) im := ⟨h, agR_rfl j im, fun _ => ap_nil rfl (fun _ => rfl)⟩
theorem PO.seq {b : Nat → Int} {n j : Nat} {im im2 im3 : IM} {r r2 : PT} {V : (Nat → Int) → Int} (z : 0 ≤ im 2 j 3) (h : PO b n j im r im2) (h1 : r2.2.1 = -1 → r.2.1 = -1) (h2 : PO b n j im2 r2 im3) : PO b n j im (r2.1, r2.2.1, r.2.2.1 ++ r2.2.2.1, V) im3 := ⟨h2.1, h2.2.1.trans h.2.1, fun q => ap.app z (h.2.2 (h1 q)) (h2.2.2 q)⟩
theorem PO.seq0 {b : Nat → Int} {n j : Nat} {im im2 im3 : IM} {r r2 : PT} {V : (Nat → Int) → Int} (z : 0 ≤ im 2 j 3) (h : PO b n j im r im2) (h1 : r2.2.1 = -1 → r.2.1 = -1) (e : r2.2.1 = -1 → r2.2.2.1 = []) (h2 : PO b n j im2 r2 im3) : PO b n j im (r2.1, r2.2.1, r.2.2.1, V) im3 := ⟨h2.1, h2.2.1.trans h.2.1, fun q => by
  have h4 := h2.2.2 q
  rw [e q] at h4
  have h5 := ap.app z (h.2.2 (h1 q)) h4
  rw [List.append_nil] at h5
  exact h5⟩
theorem PR.z {b : Nat → Int} {n j : Nat} {im : IM} {p : Nat} {f : Int} (h : PR b n j im p f) : 0 ≤ im 2 j 3 := h.2.2.2.2.1.1
theorem addM_k {im : IM} {j : Nat} {s : Int} {k i t : Nat} (h2 : ¬ (k = 2 ∧ i = j ∧ t = 3)) (h3 : ¬ (k = 3 ∧ i = j)) : addM im j s k i t = im k i t := by
  unfold addM
  split
  · rw [up_app, if_neg h2, up_app, if_neg (fun q => h3 ⟨q.1, q.2.1⟩)]
  · rfl
theorem PO.add {b : Nat → Int} {n j : Nat} {im im2 : IM} {r : PT} {V : (Nat → Int) → Int} {s : Int} (hn : n ≤ 160) (hs : ri s) (h : PO b n j im r im2) (hz : 0 ≤ im 2 j 3) (hl : r.2.1 = -1 → im2 2 j 3 < r.1) : PO b n j im (r.1, r.2.1, r.2.2.1 ++ [s], V) (addM im2 j s) := by
  obtain ⟨⟨⟨a1, a2, a3, a4, a5⟩, hR, h15, h1, hst, hp, hf⟩, hag, hap⟩ := h
  have e14 : ∀ t, addM im2 j s 14 0 t = im2 14 0 t := fun t => addM_k (by omega) (by omega)
  have e2 : addM im2 j s 2 j 3 = if im2 2 j 3 < 160 then im2 2 j 3 + 1 else im2 2 j 3 := by
    unfold addM
    split
    · rw [up_app, if_pos ⟨rfl, rfl, rfl⟩]
    · rfl
  refine ⟨⟨⟨(e14 2).trans a1, (e14 3).trans a2, (e14 4).trans a3, fun q => (e14 5).trans (a4 q), (e14 6).trans a5⟩, ?_, (funext fun t => addM_k (by omega) (by omega)).trans h15, (e14 1).trans h1, ?_, hp, fun q => ?_⟩, ?_, fun q => ?_⟩
  · unfold addM
    split
    · exact RI_up (RI_up hR hs) (by constructor <;> omega)
    · exact hR
  · rw [e2]; split <;> omega
  · have := hl q
    show addM im2 j s 2 j 3 ≤ r.1
    rw [e2]; split <;> omega
  · intro k i t q1 q2 q3
    rw [addM_k q2 q3]
    exact hag k i t q1 q2 q3
  · have hlt := hl q
    have hp' : r.1 ≤ n := hp
    refine ap.app hz (hap q) ?_
    have e3 : ∀ t : Nat, addM im2 j s 3 j t = if t = (im2 2 j 3).toNat then s else im2 3 j t := by
      intro t
      unfold addM
      rw [if_pos (by omega), up_app, if_neg (by omega), up_app]
      by_cases ht : t = (im2 2 j 3).toNat
      · rw [if_pos ⟨rfl, rfl, ht⟩, if_pos ht]
      · rw [if_neg (fun z => ht z.2.2), if_neg ht]
    refine ⟨?_, fun t ht => ?_, fun t ht => ?_⟩
    · rw [e2, if_pos (by omega)]; rfl
    · rw [e3, if_neg (by omega)]
    · have ht0 : t = 0 := by have : t < 1 := ht; omega
      subst ht0
      rw [e3, if_pos (by omega)]
      rfl
/-! advance, expect, openAll -/
theorem c_adv (l : Launch) (G : GS) (im : IM) (bt j : Nat) (lm : IM) (b : Nat → Int) (n : Nat) (hb : byt b n) (p : Nat) (f : Int) (h : PR b n j im p f) : Cn l (XC G) yX4_advance Y_X4_advance [vR 14 0] (im, rs bt j, lm) (pV fun m' => ∃ im', (p < n → PO b n j im (adv b n p, f, [], fun _ => 0) im') ∧ m' = (im', rs bt j, lm)) := by
  obtain ⟨⟨a1, a2, a3, a4, a5⟩, hR, h15, h1, hst, hp, hf⟩ := h
  have hnx : nx b n p ≤ n := by
    by_cases hlt : p < n
    · exact (nx_in hlt).2
    · unfold nx
      rw [if_pos (by omega)]; exact hp
  refine (c_X4_advance l G im bt j lm b n hb hR h15 h1 (nx b n p) hnx a1).mono (fun r m' hq => ?_)
  obtain ⟨hr, im', hR', hag, hRS, hm⟩ := hq
  refine ⟨hr, im', fun hlt => ?_, hm⟩
  have ha := adv_in (b := b) hlt
  refine ⟨⟨⟨hRS.1, hRS.2.1, hRS.2.2.1, hRS.2.2.2.1, hRS.2.2.2.2.trans a5⟩, hR', (funext fun t => hag 15 0 t (by omega)).trans h15, (hag 14 0 1 (by omega)).trans h1, ?_, ha.2, fun q => ?_⟩, fun k i t q1 q2 q3 => hag k i t (by omega), fun _ => ap_nil (hag 2 j 3 (by omega)) (fun t => hag 3 j t (by omega))⟩
  · rw [hag 2 j 3 (by omega)]; exact hst
  · rw [hag 2 j 3 (by omega)]
    have := hf q
    show im 2 j 3 ≤ (adv b n p : Nat)
    omega
/-- a token that must stand there -/
def exP (b : Nat → Int) (n : Nat) (key : Int) (p : Nat) : PT := if tk b n p = key then (adv b n p, -1, [], fun _ => 0) else pFail p

theorem PO_fault {b : Nat → Int} {n j : Nat} {im : IM} {p : Nat} {V : (Nat → Int) → Int} (h : PR b n j im p (-1)) : PO b n j im (p, (p : Int), [], V) (up im 14 0 6 (p : Int)) := by
  obtain ⟨⟨a1, a2, a3, a4, a5⟩, hR, h15, h1, hst, hp, hf⟩ := h
  refine ⟨⟨⟨a1, a2, a3, a4, rfl⟩, RI_up hR ?_, h15, h1, hst, hp, fun q => ?_⟩, agR_up (agR_rfl j im) (by omega), fun q => ?_⟩
  · have := hf rfl
    have h2 := hR 2 j 3
    have h3 := hR 14 0 3
    rw [a2] at h3
    exact h3
  · have : ((p : Nat) : Int) = -1 := q
    omega
  · have : ((p : Nat) : Int) = -1 := q
    omega
/-- failing where it stands -/
theorem PO_fail {b : Nat → Int} {n j : Nat} {im : IM} {p : Nat} {f : Int} {F : Nat → PT} (h : PR b n j im p f) (hF : f = -1 → F p = pFail p) : PO b n j im (stP F p f) (if im 14 0 6 = -1 then up im 14 0 6 (im 14 0 3) else im) := by
  have g6 : im 14 0 6 = f := h.1.2.2.2.2
  have g3 : im 14 0 3 = p := h.1.2.1
  rw [g6]
  unfold stP
  by_cases hf : f = -1
  · rw [if_pos hf, if_pos hf, hF hf, g3]
    subst hf
    exact PO_fault h
  · rw [if_neg hf, if_neg hf]
    exact PO_id h

set_option maxHeartbeats 4000000 in
theorem c_X4_expect (l : Launch) (G : GS) (im : IM) (bt j : Nat) (lm : IM) (b : Nat → Int) (n : Nat) (hb : byt b n) (key : Int) (hk : 0 < key) (hk2 : key < 100) (p : Nat) (f : Int) (h : PR b n j im p f) : Cn l (XC G) yX4_expect Y_X4_expect [vR 14 0, vI key] (im, rs bt j, lm) (pV fun m' => ∃ im', PO b n j im (stP (exP b n key) p f) im' ∧ m' = (im', rs bt j, lm)) := by
  refine cn_of (by decide) (okC G) rfl (Nat.le_of_ble_eq_true rfl) ?_
  intro M ad hMl F
  subst hMl
  have hn := hb.1
  have hR := h.2.1
  have hz := h.z
  have g4 : im 14 0 4 = tk b n p := h.1.2.2.1
  have g6 : im 14 0 6 = f := h.1.2.2.2.2
  have g3 : im 14 0 3 = p := h.1.2.1
  have hti := tk_in b n p
  refine wp_pad 0 ?_
  show Wp M (XC G) ad Y_X4_expect (pV fun m' => ∃ im', PO b n j im (stP (exP b n key) p f) im' ∧ m' = (im', rs bt j, lm)) 0 [some (vR 14 0), some (vI key)] [] (im, rs bt j, lm)
  refine q_aload_n (t := 1) F dX4_expect_0 rfl rfl rfl ?_
  refine q_iload_n (t := 2) F dX4_expect_1 rfl rfl rfl ?_
  refine wp_callV (t := 5) [_] F dX4_expect_2 k_X4_at v_X4_at ml_X4_47 rfl rfl rfl rfl (Nat.le_of_ble_eq_true rfl) (by decide) (m_14 (by omega)) (c_X4_at _ G im bt j lm hR key (by constructor <;> omega)) rfl (kI ?_)
  rintro x2 m' ⟨hx2, rfl⟩
  have hx2 := if01 hx2
  refine q_if_eq (t := 8) (u := 15) F dX4_expect_5 (by first | exact hR _ _ _ | (constructor <;> omega)) (by decide) rfl (fun c5 => ?_) (fun c5 => ?_)
  · refine q_aload_n (t := 16) F dX4_expect_15 rfl rfl rfl ?_
    refine wp_callV (t := 19) [] F dX4_expect_16 k_X4_fail v_X4_fail ml_X4_51 rfl rfl rfl rfl (Nat.le_of_ble_eq_true rfl) (by decide) (m_14 (by omega)) (c_X4_fail _ G im bt j lm hR) rfl (kV ?_)
    rintro m' rfl
    refine q_vret F dX4_expect_19 rfl ?_
    first
      | (have hq : f = -1 ∧ tk b n p = key := by
           rcases hx2 with q | q
           · omega
           · omega
         have hlt : p < n := tk_lt (b := b) (by omega)
         refine ⟨rfl, im2, ?_, rfl⟩
         unfold stP
         rw [if_pos hq.1]
         unfold exP
         rw [if_pos hq.2]
         have h3 := h2 hlt
         rw [hq.1] at h3
         exact h3)
      | (refine ⟨rfl, _, PO_fail h (fun q => ?_), rfl⟩
         unfold exP
         rw [if_neg (by
           rcases hx2 with q | q
           · omega
           · omega)])
  · refine q_aload_n (t := 9) F dX4_expect_8 rfl rfl rfl ?_
    refine wp_callV (t := 12) [] F dX4_expect_9 k_X4_advance v_X4_advance ml_X4_34 rfl rfl rfl rfl (Nat.le_of_ble_eq_true rfl) (by decide) (m_14 (by omega)) (c_adv _ G im bt j lm b n hb p f h) rfl (kV ?_)
    rintro m' ⟨im2, h2, rfl⟩
    refine q_goto (t := 19) F dX4_expect_12 (by decide) ?_
    refine q_vret F dX4_expect_19 rfl ?_
    first
      | (have hq : f = -1 ∧ tk b n p = key := by
           rcases hx2 with q | q
           · omega
           · omega
         have hlt : p < n := tk_lt (b := b) (by omega)
         refine ⟨rfl, im2, ?_, rfl⟩
         unfold stP
         rw [if_pos hq.1]
         unfold exP
         rw [if_pos hq.2]
         have h3 := h2 hlt
         rw [hq.1] at h3
         exact h3)
      | (refine ⟨rfl, _, PO_fail h (fun q => ?_), rfl⟩
         unfold exP
         rw [if_neg (by
           rcases hx2 with q | q
           · omega
           · omega)])

/-- how many more may be opened, where it stands, the fault, behind all of a token -/
def OAL (b : Nat → Int) (n : Nat) (key : Int) (m p : Nat) (f : Int) (m' p' : Nat) (f' : Int) : Prop := (f = -1 → opn b n key m p = (m', p') ∧ f' = if tk b n p' = key then (p' : Int) else -1) ∧ (f ≠ -1 → m' = m ∧ p' = p ∧ f' = f)
theorem opn_y {b : Nat → Int} {n : Nat} {key : Int} {m p : Nat} (h : tk b n p = key) : opn b n key (m + 1) p = opn b n key m (adv b n p) := by
  show (if _ then _ else _) = _
  rw [if_pos h]
theorem opn_n {b : Nat → Int} {n : Nat} {key : Int} {m p : Nat} (h : tk b n p ≠ key) : opn b n key m p = (m, p) := by
  cases m with
  | zero => rfl
  | succ m =>
    show (if _ then _ else _) = _
    rw [if_neg h]

set_option maxHeartbeats 4000000 in
theorem c_X4_openAll (l : Launch) (G : GS) (im : IM) (bt j : Nat) (lm : IM) (b : Nat → Int) (n : Nat) (hb : byt b n) (key : Int) (hk : 0 < key) (hk2 : key < 100) (m a : Nat) (hma : m + a = 5) (p : Nat) (f : Int) (h : PR b n j im p f) : Cn l (XC G) yX4_openAll Y_X4_openAll [vR 14 0, vI key, vI (a : Int)] (im, rs bt j, lm) (pI fun x m' => ∃ (im' : IM) (m2 a2 p2 : Nat) (f2 : Int), x = (a2 : Int) ∧ m2 + a2 = 5 ∧ m2 ≤ m ∧ OAL b n key m p f m2 p2 f2 ∧ p + (m - m2) ≤ p2 ∧ PO b n j im (p2, f2, [], fun _ => 0) im' ∧ m' = (im', rs bt j, lm)) := by
  refine cn_of (by decide) (okC G) rfl (Nat.le_of_ble_eq_true rfl) ?_
  intro M ad hMl F
  subst hMl
  have hn := hb.1
  have hz0 := h.z
  refine wp_pad 1 ?_
  show Wp M (XC G) ad Y_X4_openAll (pI fun x m' => ∃ (im' : IM) (m2 a2 p2 : Nat) (f2 : Int), x = (a2 : Int) ∧ m2 + a2 = 5 ∧ m2 ≤ m ∧ OAL b n key m p f m2 p2 f2 ∧ p + (m - m2) ≤ p2 ∧ PO b n j im (p2, f2, [], fun _ => 0) im' ∧ m' = (im', rs bt j, lm)) 0 [some (vR 14 0), some (vI key), some (vI (a : Int)), none] [] (im, rs bt j, lm)
  refine q_iload_n (t := 1) F dX4_openAll_0 rfl rfl rfl ?_
  refine q_istore_n (t := 2) F dX4_openAll_1 rfl (by decide) rfl rfl ?_
  have L2 : ∀ (fz : Nat) (m1 a1 p1 : Nat) (im1 : IM), m1 < fz → m1 + a1 = 5 → m1 ≤ m → (f = -1 → opn b n key m p = opn b n key m1 p1) → (f ≠ -1 → m1 = m ∧ p1 = p) → p + (m - m1) ≤ p1 → PO b n j im (p1, f, [], fun _ => 0) im1 → Wp M (XC G) ad Y_X4_openAll (pI fun x m' => ∃ (im' : IM) (m2 a2 p2 : Nat) (f2 : Int), x = (a2 : Int) ∧ m2 + a2 = 5 ∧ m2 ≤ m ∧ OAL b n key m p f m2 p2 f2 ∧ p + (m - m2) ≤ p2 ∧ PO b n j im (p2, f2, [], fun _ => 0) im' ∧ m' = (im', rs bt j, lm)) 2 [some (vR 14 0), some (vI key), some (vI (a : Int)), some (vI (a1 : Int))] [] (im1, rs bt j, lm) := by
    intro fz
    induction fz with
    | zero => intro m1 a1 p1 im1 h; exact absurd h (Nat.not_lt_zero _)
    | succ fz ih =>
      have ih2 := ih
      intro m1 a1 p1 im1 hmeas hma1 hmm ho1 ho2 hpp h1
      have h11 : PR b n j im1 p1 f := h1.1
      have hR1 := h11.2.1
      have g4 : im1 14 0 4 = tk b n p1 := h11.1.2.2.1
      have g6 : im1 14 0 6 = f := h11.1.2.2.2.2
      have hti := tk_in b n p1
      refine q_iload_n (t := 3) F dX4_openAll_2 rfl rfl rfl ?_
      refine q_iconst (t := 4) F dX4_openAll_3 rfl ?_
      refine q_icmp_ge (t := 7) (u := 25) F dX4_openAll_4 (by constructor <;> omega) (by constructor <;> omega) (by decide) rfl (fun c4 => ?_) (fun c4 => ?_)
      · refine q_aload_n (t := 26) F dX4_openAll_25 rfl rfl rfl ?_
        refine q_iload_n (t := 27) F dX4_openAll_26 rfl rfl rfl ?_
        refine wp_callV (t := 30) [_] F dX4_openAll_27 k_X4_at v_X4_at ml_X4_47 rfl rfl rfl rfl (Nat.le_of_ble_eq_true rfl) (by decide) (m_14 (by omega)) (c_X4_at _ G im1 bt j lm hR1 key (by constructor <;> omega)) rfl (kI ?_)
        rintro x27 m' ⟨hx27, rfl⟩
        have hx27 := if01 hx27
        refine q_if_eq (t := 33) (u := 37) F dX4_openAll_30 (by first | exact hR _ _ _ | (constructor <;> omega)) (by decide) rfl (fun c30 => ?_) (fun c30 => ?_)
        · refine q_iload_n (t := 38) F dX4_openAll_37 rfl rfl rfl ?_
          refine q_iret F dX4_openAll_38 rfl ?_
          first
            | (have hq : f = -1 ∧ tk b n p1 = key := by
                 rcases hx27 with q | q
                 · omega
                 · omega
               have hm0 : m1 = 0 := by
                 first
                   | omega
                   | (rcases hx9 with q | q <;> omega)
               subst hm0
               refine ⟨_, rfl, _, 0, a1, p1, (p1 : Int), rfl, by omega, by omega, ⟨fun q => ⟨(ho1 q).trans rfl, by rw [if_pos hq.2]⟩, fun q => absurd hq.1 q⟩, by omega, ?_, rfl⟩
               have h4 := PO_fail (F := pFail) h11 (fun _ => rfl)
               rw [show stP pFail p1 f = pFail p1 by unfold stP; rw [if_pos hq.1]] at h4
               exact PO.seq0 hz0 h1 (fun _ => hq.1) (fun q => rfl) h4)
            | (refine ⟨_, rfl, _, m1, a1, p1, f, rfl, hma1, hmm, ⟨fun q => ?_, fun q => ⟨(ho2 q).1, (ho2 q).2, rfl⟩⟩, hpp, h1, rfl⟩
               have hne : tk b n p1 ≠ key := by
                 intro z
                 rcases hx27 with q2 | q2 <;> omega
               refine ⟨by rw [ho1 q, opn_n hne], ?_⟩
               rw [if_neg hne]
               exact q)
        · refine q_aload_n (t := 34) F dX4_openAll_33 rfl rfl rfl ?_
          refine wp_callV (t := 37) [] F dX4_openAll_34 k_X4_fail v_X4_fail ml_X4_51 rfl rfl rfl rfl (Nat.le_of_ble_eq_true rfl) (by decide) (m_14 (by omega)) (c_X4_fail _ G im1 bt j lm hR1) rfl (kV ?_)
          rintro m' rfl
          refine q_iload_n (t := 38) F dX4_openAll_37 rfl rfl rfl ?_
          refine q_iret F dX4_openAll_38 rfl ?_
          first
            | (have hq : f = -1 ∧ tk b n p1 = key := by
                 rcases hx27 with q | q
                 · omega
                 · omega
               have hm0 : m1 = 0 := by
                 first
                   | omega
                   | (rcases hx9 with q | q <;> omega)
               subst hm0
               refine ⟨_, rfl, _, 0, a1, p1, (p1 : Int), rfl, by omega, by omega, ⟨fun q => ⟨(ho1 q).trans rfl, by rw [if_pos hq.2]⟩, fun q => absurd hq.1 q⟩, by omega, ?_, rfl⟩
               have h4 := PO_fail (F := pFail) h11 (fun _ => rfl)
               rw [show stP pFail p1 f = pFail p1 by unfold stP; rw [if_pos hq.1]] at h4
               exact PO.seq0 hz0 h1 (fun _ => hq.1) (fun q => rfl) h4)
            | (refine ⟨_, rfl, _, m1, a1, p1, f, rfl, hma1, hmm, ⟨fun q => ?_, fun q => ⟨(ho2 q).1, (ho2 q).2, rfl⟩⟩, hpp, h1, rfl⟩
               have hne : tk b n p1 ≠ key := by
                 intro z
                 rcases hx27 with q2 | q2 <;> omega
               refine ⟨by rw [ho1 q, opn_n hne], ?_⟩
               rw [if_neg hne]
               exact q)
      · refine q_aload_n (t := 8) F dX4_openAll_7 rfl rfl rfl ?_
        refine q_iload_n (t := 9) F dX4_openAll_8 rfl rfl rfl ?_
        refine wp_callV (t := 12) [_] F dX4_openAll_9 k_X4_at v_X4_at ml_X4_47 rfl rfl rfl rfl (Nat.le_of_ble_eq_true rfl) (by decide) (m_14 (by omega)) (c_X4_at _ G im1 bt j lm hR1 key (by constructor <;> omega)) rfl (kI ?_)
        rintro x9 m' ⟨hx9, rfl⟩
        have hx9 := if01 hx9
        refine q_if_eq (t := 15) (u := 25) F dX4_openAll_12 (by first | exact hR _ _ _ | (constructor <;> omega)) (by decide) rfl (fun c12 => ?_) (fun c12 => ?_)
        · refine q_aload_n (t := 26) F dX4_openAll_25 rfl rfl rfl ?_
          refine q_iload_n (t := 27) F dX4_openAll_26 rfl rfl rfl ?_
          refine wp_callV (t := 30) [_] F dX4_openAll_27 k_X4_at v_X4_at ml_X4_47 rfl rfl rfl rfl (Nat.le_of_ble_eq_true rfl) (by decide) (m_14 (by omega)) (c_X4_at _ G im1 bt j lm hR1 key (by constructor <;> omega)) rfl (kI ?_)
          rintro x27 m' ⟨hx27, rfl⟩
          have hx27 := if01 hx27
          refine q_if_eq (t := 33) (u := 37) F dX4_openAll_30 (by first | exact hR _ _ _ | (constructor <;> omega)) (by decide) rfl (fun c30 => ?_) (fun c30 => ?_)
          · refine q_iload_n (t := 38) F dX4_openAll_37 rfl rfl rfl ?_
            refine q_iret F dX4_openAll_38 rfl ?_
            first
              | (have hq : f = -1 ∧ tk b n p1 = key := by
                   rcases hx27 with q | q
                   · omega
                   · omega
                 have hm0 : m1 = 0 := by
                   first
                     | omega
                     | (rcases hx9 with q | q <;> omega)
                 subst hm0
                 refine ⟨_, rfl, _, 0, a1, p1, (p1 : Int), rfl, by omega, by omega, ⟨fun q => ⟨(ho1 q).trans rfl, by rw [if_pos hq.2]⟩, fun q => absurd hq.1 q⟩, by omega, ?_, rfl⟩
                 have h4 := PO_fail (F := pFail) h11 (fun _ => rfl)
                 rw [show stP pFail p1 f = pFail p1 by unfold stP; rw [if_pos hq.1]] at h4
                 exact PO.seq0 hz0 h1 (fun _ => hq.1) (fun q => rfl) h4)
              | (refine ⟨_, rfl, _, m1, a1, p1, f, rfl, hma1, hmm, ⟨fun q => ?_, fun q => ⟨(ho2 q).1, (ho2 q).2, rfl⟩⟩, hpp, h1, rfl⟩
                 have hne : tk b n p1 ≠ key := by
                   intro z
                   rcases hx27 with q2 | q2 <;> omega
                 refine ⟨by rw [ho1 q, opn_n hne], ?_⟩
                 rw [if_neg hne]
                 exact q)
          · refine q_aload_n (t := 34) F dX4_openAll_33 rfl rfl rfl ?_
            refine wp_callV (t := 37) [] F dX4_openAll_34 k_X4_fail v_X4_fail ml_X4_51 rfl rfl rfl rfl (Nat.le_of_ble_eq_true rfl) (by decide) (m_14 (by omega)) (c_X4_fail _ G im1 bt j lm hR1) rfl (kV ?_)
            rintro m' rfl
            refine q_iload_n (t := 38) F dX4_openAll_37 rfl rfl rfl ?_
            refine q_iret F dX4_openAll_38 rfl ?_
            first
              | (have hq : f = -1 ∧ tk b n p1 = key := by
                   rcases hx27 with q | q
                   · omega
                   · omega
                 have hm0 : m1 = 0 := by
                   first
                     | omega
                     | (rcases hx9 with q | q <;> omega)
                 subst hm0
                 refine ⟨_, rfl, _, 0, a1, p1, (p1 : Int), rfl, by omega, by omega, ⟨fun q => ⟨(ho1 q).trans rfl, by rw [if_pos hq.2]⟩, fun q => absurd hq.1 q⟩, by omega, ?_, rfl⟩
                 have h4 := PO_fail (F := pFail) h11 (fun _ => rfl)
                 rw [show stP pFail p1 f = pFail p1 by unfold stP; rw [if_pos hq.1]] at h4
                 exact PO.seq0 hz0 h1 (fun _ => hq.1) (fun q => rfl) h4)
              | (refine ⟨_, rfl, _, m1, a1, p1, f, rfl, hma1, hmm, ⟨fun q => ?_, fun q => ⟨(ho2 q).1, (ho2 q).2, rfl⟩⟩, hpp, h1, rfl⟩
                 have hne : tk b n p1 ≠ key := by
                   intro z
                   rcases hx27 with q2 | q2 <;> omega
                 refine ⟨by rw [ho1 q, opn_n hne], ?_⟩
                 rw [if_neg hne]
                 exact q)
        · refine q_aload_n (t := 16) F dX4_openAll_15 rfl rfl rfl ?_
          refine wp_callV (t := 19) [] F dX4_openAll_16 k_X4_advance v_X4_advance ml_X4_34 rfl rfl rfl rfl (Nat.le_of_ble_eq_true rfl) (by decide) (m_14 (by omega)) (c_adv _ G im1 bt j lm b n hb p1 f h11) rfl (kV ?_)
          rintro m' ⟨im3, h3, rfl⟩
          refine q_iinc (t := 22) F dX4_openAll_19 rfl (by decide) rfl rfl ?_
          refine q_goto (t := 2) F dX4_openAll_22 (by decide) ?_
          have hq : f = -1 ∧ tk b n p1 = key := by
            rcases hx9 with q | q
            · omega
            · omega
          have hlt : p1 < n := tk_lt (b := b) (by omega)
          have ha := adv_in (b := b) hlt
          obtain ⟨m3, rfl⟩ : ∃ m3, m1 = m3 + 1 := ⟨m1 - 1, by omega⟩
          rw [show (a1 : Int) + 1 = ((a1 + 1 : Nat) : Int) by omega]
          exact ih2 m3 (a1 + 1) (adv b n p1) im3 (by omega) (by omega) (by omega) (fun q => by rw [ho1 q, opn_y hq.2]) (fun q => absurd hq.1 q) (by omega) (PO.seq0 (r2 := (adv b n p1, f, [], fun _ => 0)) hz0 h1 (fun q => q) (fun _ => rfl) (h3 hlt))
  exact L2 _ m a p im (Nat.lt_succ_self _) hma (Nat.le_refl _) (fun _ => rfl) (fun _ => ⟨rfl, rfl⟩) (by omega) (PO_id h)
end
section
/-! the grammar -/
def CT (l : Launch) (G : GS) (bt j : Nat) (lm : IM) (b : Nat → Int) (n : Nat) (y : MethodName) (Y : YS) (F : Nat → PT) (o : Nat) : Prop := ∀ (im : IM) (p : Nat) (f : Int), PR b n j im p f → Cn l (XC G) y Y [vR 14 0, vI (o : Int)] (im, rs bt j, lm) (pV fun m' => ∃ im', PO b n j im (stP F p f) im' ∧ m' = (im', rs bt j, lm))
theorem PO.cg {b : Nat → Int} {n j : Nat} {im im' : IM} {r r' : PT} (h : PO b n j im r im') (e1 : r'.1 = r.1) (e2 : r'.2.1 = r.2.1) (e3 : r'.2.2.1 = r.2.2.1) : PO b n j im r' im' := by
  unfold PO
  rw [e1, e2, e3]
  exact h
theorem addM_c {im : IM} {j : Nat} {s : Int} (h : im 2 j 3 < 160) : addM im j s 2 j 3 = im 2 j 3 + 1 := by
  unfold addM
  rw [if_pos h, up_app, if_pos ⟨rfl, rfl, rfl⟩]
theorem stP_y {F : Nat → PT} {p : Nat} : stP F p (-1) = F p := by
  unfold stP
  rw [if_pos rfl]
theorem stP_n {F : Nat → PT} {p : Nat} {f : Int} (h : f ≠ -1) : stP F p f = (p, f, [], fun _ => 0) := by
  unfold stP
  rw [if_neg h]
theorem stP_loop {b : Nat → Int} {n : Nat} {op : Int → Int} {sub F : Nat → PT} {k p : Nat} {f : Int} : stP (fun q => loopP b n op sub k (F q)) p f = loopP b n op sub k (stP F p f) := by
  by_cases h : f = -1
  · subst h
    rw [stP_y, stP_y]
  · rw [stP_n h, stP_n h]
    exact (loopP_n (fun q => h q.1)).symm
/-- one more behind a sign -/
def lpS (b : Nat → Int) (n : Nat) (op : Int → Int) (sub : Nat → PT) (r : PT) : PT := ((sub (adv b n r.1)).1, (sub (adv b n r.1)).2.1, r.2.2.1 ++ (sub (adv b n r.1)).2.2.1 ++ [op (tk b n r.1)], fun nm => bi2 (op (tk b n r.1)) (r.2.2.2 nm) ((sub (adv b n r.1)).2.2.2 nm))
theorem loopP_y2 {b : Nat → Int} {n : Nat} {op : Int → Int} {sub : Nat → PT} {f : Nat} {r : PT} (h1 : r.2.1 = -1) (h2 : op (tk b n r.1) ≠ 0) : loopP b n op sub (f + 1) r = loopP b n op sub f (lpS b n op sub r) := loopP_y h1 h2
theorem LP_step {b : Nat → Int} {n j : Nat} {op : Int → Int} {sub : Nat → PT} {im im2 im3 im4 : IM} {r : PT} {s : Int} (hn : n ≤ 160) (hz : 0 ≤ im 2 j 3) (h : PO b n j im r im2) (h1 : r.2.1 = -1) (hs : op (tk b n r.1) = s) (hs2 : ri s) (hlt : r.1 < n) (h3 : PO b n j im2 (adv b n r.1, -1, [], fun _ => 0) im3) (hg : PG n sub) (h4 : PO b n j im3 (stP sub (adv b n r.1) (-1)) im4) : PO b n j im (lpS b n op sub r) (addM im4 j s) := by
  rw [stP_y] at h4
  have ha := adv_in (b := b) hlt
  have h13 := PO.seq0 (V := fun _ => 0) hz h (fun _ => h1) (fun _ => rfl) h3
  have h14 := PO.seq (V := fun _ => 0) hz h13 (fun _ => rfl) h4
  have h15 := PO.add (V := fun _ => 0) (s := s) hn hs2 h14 hz (fun q => ?_)
  · refine h15.cg rfl rfl ?_
    show _ ++ [op (tk b n r.1)] = _
    rw [hs]
  · have q2 : (sub (adv b n r.1)).2.1 = -1 := q
    have h5 := h4.2.2 q2
    have h6 := h3.2.2 rfl
    have h7 := h.1.2.2.2.2.2.2 h1
    have h8 := (hg (adv b n r.1) ha.2).2.2.1 q2
    have h9 := h5.1
    have h10 : im3 2 j 3 = im2 2 j 3 + 0 := h6.1
    show im4 2 j 3 < ((sub (adv b n r.1)).1 : Int)
    omega
theorem wrapK_1 (s : Int) (r : PT) (k : Nat) : (wrapK s k r).1 = r.1 ∧ (wrapK s k r).2.1 = r.2.1 := by
  induction k with
  | zero => exact ⟨rfl, rfl⟩
  | succ k ih => exact ih
theorem wrapK_s (s : Int) (r : PT) (k : Nat) : wrapK s (k + 1) r = wrap1 s (wrapK s k r) := rfl
theorem OAL_f {b : Nat → Int} {n : Nat} {key : Int} {m p : Nat} {f : Int} {m2 p2 : Nat} {f2 : Int} (h : OAL b n key m p f m2 p2 f2) (h2 : f2 = -1) : f = -1 ∧ opn b n key m p = (m2, p2) ∧ tk b n p2 ≠ key := by
  by_cases hf : f = -1
  · have h3 := h.1 hf
    refine ⟨hf, h3.1, fun q => ?_⟩
    have h4 := h3.2
    rw [if_pos q] at h4
    omega
  · have := (h.2 hf).2.2
    omega
theorem one_eq {b : Nat → Int} {n m p : Nat} {f : Int} {m2 p2 : Nat} {f2 : Int} (h : OAL b n 45 m p f m2 p2 f2) : (f2 = -1 → stP (oneL b n m) p f = wrapK (-7) (m - m2) (atomX b n m2 (eitB b n m2) p2)) ∧ (f2 ≠ -1 → stP (oneL b n m) p f = wrapK (-7) (m - m2) (p2, f2, [], fun _ => 0)) := by
  refine ⟨fun h2 => ?_, fun h2 => ?_⟩
  · obtain ⟨hf, ho, ht⟩ := OAL_f h h2
    subst hf
    rw [stP_y, oneL_opn, ho]
    show (if tk b n p2 = 45 then _ else _) = _
    rw [if_neg ht]
  · by_cases hf : f = -1
    · have h3 := h.1 hf
      have ht : tk b n p2 = 45 := by
        refine Classical.byContradiction (fun q => h2 ?_)
        rw [h3.2, if_neg q]
      subst hf
      rw [stP_y, oneL_opn, h3.1]
      show (if tk b n p2 = 45 then _ else _) = _
      rw [if_pos ht]
      have h4 := h3.2
      rw [if_pos ht] at h4
      rw [h4]
      rfl
    · obtain ⟨e1, e2, e3⟩ := h.2 hf
      subst e1 e2 e3
      rw [stP_n hf, Nat.sub_self]
      rfl
theorem den_eq {b : Nat → Int} {n m p : Nat} {f : Int} {m2 p2 : Nat} {f2 : Int} (h : OAL b n 9 m p f m2 p2 f2) : (f2 = -1 → stP (denL b n m) p f = wrapK (-8) (m - m2) (denX b n (oneL b n m2) p2)) ∧ (f2 ≠ -1 → stP (denL b n m) p f = wrapK (-8) (m - m2) (p2, f2, [], fun _ => 0)) := by
  refine ⟨fun h2 => ?_, fun h2 => ?_⟩
  · obtain ⟨hf, ho, ht⟩ := OAL_f h h2
    subst hf
    rw [stP_y, denL_opn, ho]
    show (if tk b n p2 = 9 then _ else _) = _
    rw [if_neg ht]
  · by_cases hf : f = -1
    · have h3 := h.1 hf
      have ht : tk b n p2 = 9 := by
        refine Classical.byContradiction (fun q => h2 ?_)
        rw [h3.2, if_neg q]
      subst hf
      rw [stP_y, denL_opn, h3.1]
      show (if tk b n p2 = 9 then _ else _) = _
      rw [if_pos ht]
      have h4 := h3.2
      rw [if_pos ht] at h4
      rw [h4]
      rfl
    · obtain ⟨e1, e2, e3⟩ := h.2 hf
      subst e1 e2 e3
      rw [stP_n hf, Nat.sub_self]
      rfl
theorem ap_add {im : IM} {j : Nat} {s : Int} (h0 : 0 ≤ im 2 j 3) (h : im 2 j 3 < 160) : ap j im [s] (addM im j s) := by
  have e3 : ∀ t : Nat, addM im j s 3 j t = if t = (im 2 j 3).toNat then s else im 3 j t := by
    intro t
    unfold addM
    rw [if_pos h, up_app, if_neg (by omega), up_app]
    by_cases ht : t = (im 2 j 3).toNat
    · rw [if_pos ⟨rfl, rfl, ht⟩, if_pos ht]
    · rw [if_neg (fun z => ht z.2.2), if_neg ht]
  refine ⟨addM_c h, fun t ht => ?_, fun t ht => ?_⟩
  · rw [e3, if_neg (by omega)]
  · have ht0 : t = 0 := by have : t < 1 := ht; omega
    subst ht0
    rw [e3, if_pos (by omega)]
    rfl
theorem atomX_par {b : Nat → Int} {n m p : Nat} {nE : Nat → PT} (h : tk b n p = 40) (hm : m ≠ 0) : (atomX b n m nE p).1 = (stP (exP b n 41) (nE (adv b n p)).1 (nE (adv b n p)).2.1).1 ∧ (atomX b n m nE p).2.1 = (stP (exP b n 41) (nE (adv b n p)).1 (nE (adv b n p)).2.1).2.1 ∧ (atomX b n m nE p).2.2.1 = (nE (adv b n p)).2.2.1 ∧ ((stP (exP b n 41) (nE (adv b n p)).1 (nE (adv b n p)).2.1).2.1 = -1 → (nE (adv b n p)).2.1 = -1 ∧ (stP (exP b n 41) (nE (adv b n p)).1 (nE (adv b n p)).2.1).2.2.1 = []) := by
  unfold atomX
  rw [if_pos ⟨h, hm⟩]
  by_cases h1 : (nE (adv b n p)).2.1 = -1
  · rw [if_pos h1, h1, stP_y]
    unfold exP
    by_cases h2 : tk b n (nE (adv b n p)).1 = 41
    · rw [if_pos h2, if_pos h2]
      exact ⟨rfl, rfl, rfl, fun _ => ⟨rfl, rfl⟩⟩
    · rw [if_neg h2, if_neg h2]
      exact ⟨rfl, rfl, rfl, fun _ => ⟨rfl, rfl⟩⟩
  · rw [if_neg h1, stP_n h1]
    exact ⟨rfl, rfl, rfl, fun q => absurd q h1⟩
/-- a number or a name, and on -/
theorem c_advN (l : Launch) (G : GS) (im : IM) (bt j : Nat) (lm : IM) (b : Nat → Int) (n : Nat) (hb : byt b n) (p : Nat) (s : Int) (hs : ri s) (h : PR b n j im p (-1)) (hlt : p < n) : Cn l (XC G) yX4_advance Y_X4_advance [vR 14 0] (addM im j s, rs bt j, lm) (pV fun m' => ∃ im', PO b n j im (adv b n p, -1, [s], fun _ => 0) im' ∧ m' = (im', rs bt j, lm)) := by
  obtain ⟨⟨a1, a2, a3, a4, a5⟩, hR, h15, h1, hst, hp, hf⟩ := h
  have hn := hb.1
  have hf2 := hf rfl
  have hc : im 2 j 3 < 160 := by omega
  have e14 : ∀ t, addM im j s 14 0 t = im 14 0 t := fun t => addM_k (by omega) (by omega)
  have ha := adv_in (b := b) hlt
  have hR2 : RI (addM im j s) := by
    unfold addM
    rw [if_pos hc]
    exact RI_up (RI_up hR hs) (by constructor <;> omega)
  refine (c_X4_advance l G (addM im j s) bt j lm b n hb hR2 ((funext fun t => addM_k (by omega) (by omega)).trans h15) ((e14 1).trans h1) (nx b n p) (nx_in hlt).2 ((e14 2).trans a1)).mono (fun r m' hq => ?_)
  obtain ⟨hr, im', hR', hag, hRS, hm⟩ := hq
  have e3 : ap j im [s] im' := by
    have := ap.app (L2 := []) hst.1 (ap_add (s := s) hst.1 hc) (ap_nil (hag 2 j 3 (by omega)) (fun t => hag 3 j t (by omega)))
    exact this
  refine ⟨hr, im', ⟨⟨⟨hRS.1, hRS.2.1, hRS.2.2.1, hRS.2.2.2.1, hRS.2.2.2.2.trans ((e14 6).trans a5)⟩, hR', (funext fun t => (hag 15 0 t (by omega)).trans (addM_k (by omega) (by omega))).trans h15, ((hag 14 0 1 (by omega)).trans (e14 1)).trans h1, ?_, ha.2, fun q => ?_⟩, fun k i t q1 q2 q3 => (hag k i t (by omega)).trans (addM_k q2 q3), fun _ => e3⟩, hm⟩
  · rw [hag 2 j 3 (by omega), addM_c hc]; omega
  · rw [hag 2 j 3 (by omega), addM_c hc]
    show im 2 j 3 + 1 ≤ (adv b n p : Nat)
    omega

set_option maxHeartbeats 4000000 in
theorem c_X4_one (l : Launch) (G : GS) (im : IM) (bt j : Nat) (lm : IM) (hj : j < 6) (b : Nat → Int) (n : Nat) (hb : byt b n) (m o : Nat) (hmo : m + o = 5) (hE : ∀ m2 o2, m2 + o2 = 5 → m2 < m → CT l G bt j lm b n yX4_either (Y_X4_either o2) (eitL b n m2) o2) (p : Nat) (f : Int) (h : PR b n j im p f) : Cn l (XC G) yX4_one (Y_X4_one o) [vR 14 0, vI (o : Int)] (im, rs bt j, lm) (pV fun m' => ∃ im', PO b n j im (stP (oneL b n m) p f) im' ∧ m' = (im', rs bt j, lm)) := by
  refine cn_of (by decide) (okC G) rfl (Nat.le_of_ble_eq_true rfl) ?_
  intro M ad hMl F
  subst hMl
  have hn := hb.1
  have hR := h.2.1
  have hz := h.z
  refine wp_pad 2 ?_
  show Wp M (XC G) ad (Y_X4_one o) (pV fun m' => ∃ im', PO b n j im (stP (oneL b n m) p f) im' ∧ m' = (im', rs bt j, lm)) 0 [some (vR 14 0), some (vI (o : Int)), none, none] [] (im, rs bt j, lm)
  have T97 : ∀ (m2 a2 p2 : Nat) (im3 : IM) (r : PT), m2 + a2 = 5 → m2 ≤ m → PO b n j im r im3 → stP (oneL b n m) p f = wrapK (-7) (m - m2) r → (r.2.1 = -1 → f = -1 ∧ p2 + r.2.2.1.length ≤ r.1) → p + (m - m2) ≤ p2 → Wp M (XC G) ad (Y_X4_one o) (pV fun m' => ∃ im', PO b n j im (stP (oneL b n m) p f) im' ∧ m' = (im', rs bt j, lm)) 97 [some (vR 14 0), some (vI (o : Int)), some (vI (a2 : Int)), none] [] (im3, rs bt j, lm) := by
    intro m2 a2 p2 im3 r hma2 hmm2 h3 heq hsl hpp
    refine q_iload_n (t := 98) F dX4_one_97 rfl rfl rfl ?_
    refine q_istore_n (t := 99) F dX4_one_98 rfl (by first | decide | exact Nat.le_of_ble_eq_true rfl) rfl rfl ?_
    have L99 : ∀ (fz : Nat) (k : Nat) (im1 : IM), m - m2 - k < fz → k ≤ m - m2 → PO b n j im (wrapK (-7) k r) im1 → (r.2.1 = -1 → im1 2 j 3 + ((m - m2 - k : Nat) : Int) ≤ r.1) → Wp M (XC G) ad (Y_X4_one o) (pV fun m' => ∃ im', PO b n j im (stP (oneL b n m) p f) im' ∧ m' = (im', rs bt j, lm)) 99 [some (vR 14 0), some (vI (o : Int)), some (vI (a2 : Int)), some (vI ((o + k : Nat) : Int))] [] (im1, rs bt j, lm) := by
      intro fz
      induction fz with
      | zero => intro k im1 h; exact absurd h (Nat.not_lt_zero _)
      | succ fz ih =>
        have ih99 := ih
        intro k im1 hmeas hk hk1 hks
        have hz1 := hk1.1.z
        have hR1 := hk1.1.2.1
        have hz2 := hk1.1.2.2.2.2.1.2
        have hwk := wrapK_1 (-7) r k
        have hle : r.1 ≤ n := h3.1.2.2.2.2.2.1
        refine q_iload_n (t := 100) F dX4_one_99 rfl rfl rfl ?_
        refine q_iload_n (t := 101) F dX4_one_100 rfl rfl rfl ?_
        refine q_icmp_ge (t := 104) (u := 119) F dX4_one_101 (by constructor <;> omega) (by constructor <;> omega) (by decide) rfl (fun c101 => ?_) (fun c101 => ?_)
        · refine q_vret F dX4_one_119 rfl ?_
          obtain rfl : k = m - m2 := by omega
          exact ⟨rfl, im1, by rw [heq]; exact hk1, rfl⟩
        · refine q_aload_n (t := 105) F dX4_one_104 rfl rfl rfl ?_
          refine g_X4_15 (t := 108) F dX4_one_105 rfl rfl ?_
          refine q_bipush (t := 110) F dX4_one_108 (by decide) rfl ?_
          refine wp_callV (t := 113) [_] F dX4_one_110 k_X6_add v_X6_add ml_X4_63 rfl rfl rfl rfl (Nat.le_of_ble_eq_true rfl) (by first | exact Nat.le_of_ble_eq_true rfl | (simp only [Y_X4_one, Y_X4_term, Y_X4_sum, Y_X4_denial, Y_X4_both, Y_X4_either, Y_X4_advance, Y_X6_add, Y_X4_at, Y_X4_fail, Y_X4_expect, Y_X4_openAll]; omega)) (m_2 (by omega)) (c_X6_add _ G _ bt j lm j hj _ hz1 hz2 hR1) rfl (kV ?_)
          rintro m' rfl
          refine q_iinc (t := 116) F dX4_one_113 rfl (by first | decide | exact Nat.le_of_ble_eq_true rfl) rfl rfl ?_
          refine q_goto (t := 99) F dX4_one_116 (by decide) ?_
          rw [show ((o + k : Nat) : Int) + 1 = ((o + (k + 1) : Nat) : Int) by omega]
          refine ih99 (k + 1) _ (by omega) (by omega) ?_ (fun q => ?_)
          · rw [wrapK_s]
            refine (PO.add (V := fun _ => 0) (s := -7) hn (by constructor <;> omega) hk1 hz (fun q => ?_)).cg rfl rfl rfl
            rw [hwk.2] at q
            have := hks q
            rw [hwk.1]
            omega
          · have := hks q
            rw [addM_c (by omega)]
            omega
    refine L99 _ 0 im3 (Nat.lt_succ_self _) (Nat.zero_le _) h3 (fun q => ?_)
    have q1 := (h3.2.2 q).1
    have q2 := hsl q
    have q3 := h.2.2.2.2.2.2 q2.1
    omega
  refine q_aload_n (t := 1) F dX4_one_0 rfl rfl rfl ?_
  refine q_bipush (t := 3) F dX4_one_1 (by decide) rfl ?_
  refine q_iload_n (t := 4) F dX4_one_3 rfl rfl rfl ?_
  refine wp_callV (t := 7) [_, _] F dX4_one_4 k_X4_openAll v_X4_openAll ml_X4_69 rfl rfl rfl rfl (Nat.le_of_ble_eq_true rfl) (by first | exact Nat.le_of_ble_eq_true rfl | (simp only [Y_X4_one, Y_X4_term, Y_X4_sum, Y_X4_denial, Y_X4_both, Y_X4_either, Y_X4_advance, Y_X6_add, Y_X4_at, Y_X4_fail, Y_X4_expect, Y_X4_openAll]; omega)) (m_14 (by omega)) (c_X4_openAll _ G im bt j lm b n hb 45 (by omega) (by omega) m o hmo p f h) rfl (kI ?_)
  rintro x4 m' ⟨im2, m2, a2, p2, f2, rfl, hma2, hmm2, hO, hpp, h2, rfl⟩
  have h22 : PR b n j im2 p2 f2 := h2.1
  have hR2 := h22.2.1
  have hp2 : p2 ≤ n := h22.2.2.2.2.2.1
  have g4 : im2 14 0 4 = tk b n p2 := h22.1.2.2.1
  have g6 : im2 14 0 6 = f2 := h22.1.2.2.2.2
  have hti := tk_in b n p2
  refine q_istore_n (t := 8) F dX4_one_7 rfl (by first | decide | exact Nat.le_of_ble_eq_true rfl) rfl rfl ?_
  refine q_aload_n (t := 9) F dX4_one_8 rfl rfl rfl ?_
  refine q_iconst (t := 10) F dX4_one_9 rfl ?_
  refine wp_callV (t := 13) [_] F dX4_one_10 k_X4_at v_X4_at ml_X4_47 rfl rfl rfl rfl (Nat.le_of_ble_eq_true rfl) (by first | exact Nat.le_of_ble_eq_true rfl | (simp only [Y_X4_one, Y_X4_term, Y_X4_sum, Y_X4_denial, Y_X4_both, Y_X4_either, Y_X4_advance, Y_X6_add, Y_X4_at, Y_X4_fail, Y_X4_expect, Y_X4_openAll]; omega)) (m_14 (by omega)) (c_X4_at _ G im2 bt j lm hR2 2 (by constructor <;> omega)) rfl (kI ?_)
  rintro x10 m' ⟨hx10, rfl⟩
  have hx10 := if01 hx10
  refine q_if_ne (t := 16) (u := 24) F dX4_one_13 (by first | exact hR _ _ _ | (constructor <;> omega)) (by decide) rfl (fun c13 => ?_) (fun c13 => ?_)
  · have hq : f2 = -1 ∧ (tk b n p2 = 2 ∨ tk b n p2 = 3) := by omega
    have hlt2 : p2 < n := tk_lt (b := b) (by omega)
    have hq1 : PR b n j im2 p2 (-1) := by
      have h0 := h22
      rw [hq.1] at h0
      exact h0
    have g5 : im2 14 0 5 = vl b n p2 := h22.1.2.2.2.1 hq.2
    have hv0 := hR2 14 0 5
    have hv1 := hv0.1
    have hv2 := hv0.2
    refine q_aload_n (t := 25) F dX4_one_24 rfl rfl rfl ?_
    refine g_X4_15 (t := 28) F dX4_one_25 rfl rfl ?_
    refine q_aload_n (t := 29) F dX4_one_28 rfl rfl rfl ?_
    refine g_X4_54 (t := 32) F dX4_one_29 rfl rfl ?_
    try simp only [up_app, row_app, scr_app, cpy_app, Nat.reduceEqDiff, Int.reduceToNat, Int.toNat_natCast, and_true, true_and, and_false, false_and, and_self, reduceIte]
    refine q_iconst (t := 33) F dX4_one_32 rfl ?_
    refine q_icmp_ne (t := 36) (u := 43) F dX4_one_33 (by rw [g4]; constructor <;> omega) (by constructor <;> omega) (by decide) rfl (fun c33 => ?_) (fun c33 => ?_)
    · have hvr : ri (-1 - im2 14 0 5) := by constructor <;> omega
      have hax : atomX b n m2 (eitB b n m2) p2 = (adv b n p2, -1, [-1 - im2 14 0 5], fun nm => nm (vl b n p2).toNat) := by
        unfold atomX
        rw [if_neg (by omega), if_neg (by omega), if_pos (by omega), g5]
      have hax1 : (atomX b n m2 (eitB b n m2) p2).1 = adv b n p2 := by rw [hax]
      have hax2 : (atomX b n m2 (eitB b n m2) p2).2.1 = -1 := by rw [hax]
      have hax3 : (atomX b n m2 (eitB b n m2) p2).2.2.1 = [-1 - im2 14 0 5] := by rw [hax]
      refine q_iconst (t := 44) F dX4_one_43 rfl ?_
      refine q_aload_n (t := 45) F dX4_one_44 rfl rfl rfl ?_
      refine g_X4_82 (t := 48) F dX4_one_45 rfl rfl ?_
      try simp only [up_app, row_app, scr_app, cpy_app, Nat.reduceEqDiff, Int.reduceToNat, Int.toNat_natCast, and_true, true_and, and_false, false_and, and_self, reduceIte]
      refine q_isub (t := 49) F dX4_one_48 rfl ?_
      refine wp_callV (t := 52) [_] F dX4_one_49 k_X6_add v_X6_add ml_X4_63 rfl rfl rfl rfl (Nat.le_of_ble_eq_true rfl) (by first | exact Nat.le_of_ble_eq_true rfl | (simp only [Y_X4_one, Y_X4_term, Y_X4_sum, Y_X4_denial, Y_X4_both, Y_X4_either, Y_X4_advance, Y_X6_add, Y_X4_at, Y_X4_fail, Y_X4_expect, Y_X4_openAll]; omega)) (m_2 (by omega)) (c_X6_add _ G im2 bt j lm j hj _ h22.2.2.2.2.1.1 h22.2.2.2.2.1.2 hR2) rfl (kV ?_)
      rintro m' rfl
      refine q_aload_n (t := 53) F dX4_one_52 rfl rfl rfl ?_
      refine wp_callV (t := 56) [] F dX4_one_53 k_X4_advance v_X4_advance ml_X4_34 rfl rfl rfl rfl (Nat.le_of_ble_eq_true rfl) (by first | exact Nat.le_of_ble_eq_true rfl | (simp only [Y_X4_one, Y_X4_term, Y_X4_sum, Y_X4_denial, Y_X4_both, Y_X4_either, Y_X4_advance, Y_X6_add, Y_X4_at, Y_X4_fail, Y_X4_expect, Y_X4_openAll]; omega)) (m_14 (by omega)) (c_advN _ G im2 bt j lm b n hb p2 _ hvr hq1 hlt2) rfl (kV ?_)
      rintro m' ⟨im5, h5, rfl⟩
      refine q_goto (t := 97) F dX4_one_56 (by decide) ?_
      exact T97 m2 a2 p2 im5 (atomX b n m2 (eitB b n m2) p2) hma2 hmm2 ((PO.seq (V := fun _ => 0) hz h2 (fun _ => hq.1) h5).cg hax1 hax2 hax3) ((one_eq hO).1 hq.1) (fun q => ⟨(OAL_f hO hq.1).1, ((PG_atomX (PG_eitB b n m2)) p2 hp2).2.2.1 q⟩) hpp
    · have hvr : ri (im2 14 0 5) := hv0
      have hax : atomX b n m2 (eitB b n m2) p2 = (adv b n p2, -1, [im2 14 0 5], fun _ => vl b n p2) := by
        unfold atomX
        rw [if_neg (by omega), if_pos (by omega), g5]
      have hax1 : (atomX b n m2 (eitB b n m2) p2).1 = adv b n p2 := by rw [hax]
      have hax2 : (atomX b n m2 (eitB b n m2) p2).2.1 = -1 := by rw [hax]
      have hax3 : (atomX b n m2 (eitB b n m2) p2).2.2.1 = [im2 14 0 5] := by rw [hax]
      refine q_aload_n (t := 37) F dX4_one_36 rfl rfl rfl ?_
      refine g_X4_82 (t := 40) F dX4_one_37 rfl rfl ?_
      try simp only [up_app, row_app, scr_app, cpy_app, Nat.reduceEqDiff, Int.reduceToNat, Int.toNat_natCast, and_true, true_and, and_false, false_and, and_self, reduceIte]
      refine q_goto (t := 49) F dX4_one_40 (by decide) ?_
      refine wp_callV (t := 52) [_] F dX4_one_49 k_X6_add v_X6_add ml_X4_63 rfl rfl rfl rfl (Nat.le_of_ble_eq_true rfl) (by first | exact Nat.le_of_ble_eq_true rfl | (simp only [Y_X4_one, Y_X4_term, Y_X4_sum, Y_X4_denial, Y_X4_both, Y_X4_either, Y_X4_advance, Y_X6_add, Y_X4_at, Y_X4_fail, Y_X4_expect, Y_X4_openAll]; omega)) (m_2 (by omega)) (c_X6_add _ G im2 bt j lm j hj _ h22.2.2.2.2.1.1 h22.2.2.2.2.1.2 hR2) rfl (kV ?_)
      rintro m' rfl
      refine q_aload_n (t := 53) F dX4_one_52 rfl rfl rfl ?_
      refine wp_callV (t := 56) [] F dX4_one_53 k_X4_advance v_X4_advance ml_X4_34 rfl rfl rfl rfl (Nat.le_of_ble_eq_true rfl) (by first | exact Nat.le_of_ble_eq_true rfl | (simp only [Y_X4_one, Y_X4_term, Y_X4_sum, Y_X4_denial, Y_X4_both, Y_X4_either, Y_X4_advance, Y_X6_add, Y_X4_at, Y_X4_fail, Y_X4_expect, Y_X4_openAll]; omega)) (m_14 (by omega)) (c_advN _ G im2 bt j lm b n hb p2 _ hvr hq1 hlt2) rfl (kV ?_)
      rintro m' ⟨im5, h5, rfl⟩
      refine q_goto (t := 97) F dX4_one_56 (by decide) ?_
      exact T97 m2 a2 p2 im5 (atomX b n m2 (eitB b n m2) p2) hma2 hmm2 ((PO.seq (V := fun _ => 0) hz h2 (fun _ => hq.1) h5).cg hax1 hax2 hax3) ((one_eq hO).1 hq.1) (fun q => ⟨(OAL_f hO hq.1).1, ((PG_atomX (PG_eitB b n m2)) p2 hp2).2.2.1 q⟩) hpp
  · refine q_aload_n (t := 17) F dX4_one_16 rfl rfl rfl ?_
    refine q_iconst (t := 18) F dX4_one_17 rfl ?_
    refine wp_callV (t := 21) [_] F dX4_one_18 k_X4_at v_X4_at ml_X4_47 rfl rfl rfl rfl (Nat.le_of_ble_eq_true rfl) (by first | exact Nat.le_of_ble_eq_true rfl | (simp only [Y_X4_one, Y_X4_term, Y_X4_sum, Y_X4_denial, Y_X4_both, Y_X4_either, Y_X4_advance, Y_X6_add, Y_X4_at, Y_X4_fail, Y_X4_expect, Y_X4_openAll]; omega)) (m_14 (by omega)) (c_X4_at _ G im2 bt j lm hR2 3 (by constructor <;> omega)) rfl (kI ?_)
    rintro x18 m' ⟨hx18, rfl⟩
    have hx18 := if01 hx18
    refine q_if_eq (t := 24) (u := 59) F dX4_one_21 (by first | exact hR _ _ _ | (constructor <;> omega)) (by decide) rfl (fun c21 => ?_) (fun c21 => ?_)
    · refine q_aload_n (t := 60) F dX4_one_59 rfl rfl rfl ?_
      refine q_bipush (t := 62) F dX4_one_60 (by decide) rfl ?_
      refine wp_callV (t := 65) [_] F dX4_one_62 k_X4_at v_X4_at ml_X4_47 rfl rfl rfl rfl (Nat.le_of_ble_eq_true rfl) (by first | exact Nat.le_of_ble_eq_true rfl | (simp only [Y_X4_one, Y_X4_term, Y_X4_sum, Y_X4_denial, Y_X4_both, Y_X4_either, Y_X4_advance, Y_X6_add, Y_X4_at, Y_X4_fail, Y_X4_expect, Y_X4_openAll]; omega)) (m_14 (by omega)) (c_X4_at _ G im2 bt j lm hR2 40 (by constructor <;> omega)) rfl (kI ?_)
      rintro x62 m' ⟨hx62, rfl⟩
      have hx62 := if01 hx62
      refine q_if_eq (t := 68) (u := 93) F dX4_one_65 (by first | exact hR _ _ _ | (constructor <;> omega)) (by decide) rfl (fun c65 => ?_) (fun c65 => ?_)
      · refine q_aload_n (t := 94) F dX4_one_93 rfl rfl rfl ?_
        refine wp_callV (t := 97) [] F dX4_one_94 k_X4_fail v_X4_fail ml_X4_51 rfl rfl rfl rfl (Nat.le_of_ble_eq_true rfl) (by first | exact Nat.le_of_ble_eq_true rfl | (simp only [Y_X4_one, Y_X4_term, Y_X4_sum, Y_X4_denial, Y_X4_both, Y_X4_either, Y_X4_advance, Y_X6_add, Y_X4_at, Y_X4_fail, Y_X4_expect, Y_X4_openAll]; omega)) (m_14 (by omega)) (c_X4_fail _ G im2 bt j lm hR2) rfl (kV ?_)
        rintro m' rfl
        have h5 := PO_fail (F := pFail) h22 (fun _ => rfl)
        by_cases hf2 : f2 = -1
        · have hat : atomX b n m2 (eitB b n m2) p2 = pFail p2 := by
            unfold atomX
            rw [if_neg (by omega), if_neg (by omega), if_neg (by omega)]
          refine T97 m2 a2 p2 _ (pFail p2) hma2 hmm2 ?_ (by rw [(one_eq hO).1 hf2, hat]) (fun q => ?_) hpp
          · rw [show stP pFail p2 f2 = pFail p2 by rw [hf2, stP_y]] at h5
            exact PO.seq0 (V := fun _ => 0) hz h2 (fun _ => hf2) (fun _ => rfl) h5
          · have : ((p2 : Nat) : Int) = -1 := q
            omega
        · refine T97 m2 a2 p2 _ (p2, f2, [], fun _ => 0) hma2 hmm2 ?_ ((one_eq hO).2 hf2) (fun q => absurd q hf2) hpp
          rw [stP_n hf2] at h5
          exact PO.seq0 (V := fun _ => 0) hz h2 (fun q => q) (fun _ => rfl) h5
      · refine q_iload_n (t := 69) F dX4_one_68 rfl rfl rfl ?_
        refine q_iconst (t := 70) F dX4_one_69 rfl ?_
        refine q_icmp_ge (t := 73) (u := 93) F dX4_one_70 (by constructor <;> omega) (by constructor <;> omega) (by decide) rfl (fun c70 => ?_) (fun c70 => ?_)
        · refine q_aload_n (t := 94) F dX4_one_93 rfl rfl rfl ?_
          refine wp_callV (t := 97) [] F dX4_one_94 k_X4_fail v_X4_fail ml_X4_51 rfl rfl rfl rfl (Nat.le_of_ble_eq_true rfl) (by first | exact Nat.le_of_ble_eq_true rfl | (simp only [Y_X4_one, Y_X4_term, Y_X4_sum, Y_X4_denial, Y_X4_both, Y_X4_either, Y_X4_advance, Y_X6_add, Y_X4_at, Y_X4_fail, Y_X4_expect, Y_X4_openAll]; omega)) (m_14 (by omega)) (c_X4_fail _ G im2 bt j lm hR2) rfl (kV ?_)
          rintro m' rfl
          have h5 := PO_fail (F := pFail) h22 (fun _ => rfl)
          by_cases hf2 : f2 = -1
          · have hat : atomX b n m2 (eitB b n m2) p2 = pFail p2 := by
              unfold atomX
              rw [if_neg (by omega), if_neg (by omega), if_neg (by omega)]
            refine T97 m2 a2 p2 _ (pFail p2) hma2 hmm2 ?_ (by rw [(one_eq hO).1 hf2, hat]) (fun q => ?_) hpp
            · rw [show stP pFail p2 f2 = pFail p2 by rw [hf2, stP_y]] at h5
              exact PO.seq0 (V := fun _ => 0) hz h2 (fun _ => hf2) (fun _ => rfl) h5
            · have : ((p2 : Nat) : Int) = -1 := q
              omega
          · refine T97 m2 a2 p2 _ (p2, f2, [], fun _ => 0) hma2 hmm2 ?_ ((one_eq hO).2 hf2) (fun q => absurd q hf2) hpp
            rw [stP_n hf2] at h5
            exact PO.seq0 (V := fun _ => 0) hz h2 (fun q => q) (fun _ => rfl) h5
        · refine q_aload_n (t := 74) F dX4_one_73 rfl rfl rfl ?_
          refine wp_callV (t := 77) [] F dX4_one_74 k_X4_advance v_X4_advance ml_X4_34 rfl rfl rfl rfl (Nat.le_of_ble_eq_true rfl) (by first | exact Nat.le_of_ble_eq_true rfl | (simp only [Y_X4_one, Y_X4_term, Y_X4_sum, Y_X4_denial, Y_X4_both, Y_X4_either, Y_X4_advance, Y_X6_add, Y_X4_at, Y_X4_fail, Y_X4_expect, Y_X4_openAll]; omega)) (m_14 (by omega)) (c_adv _ G im2 bt j lm b n hb p2 f2 h22) rfl (kV ?_)
          rintro m' ⟨im3, h3, rfl⟩
          have hq : f2 = -1 ∧ tk b n p2 = 40 ∧ m2 ≠ 0 := by omega
          have h3 := h3 (tk_lt (b := b) (by omega))
          rw [hq.1] at h3
          obtain ⟨m3, hm3⟩ : ∃ m3, m2 = m3 + 1 := ⟨m2 - 1, by omega⟩
          have heB : eitB b n m2 = eitL b n m3 := by rw [hm3]; rfl
          refine q_aload_n (t := 78) F dX4_one_77 rfl rfl rfl ?_
          refine q_iload_n (t := 79) F dX4_one_78 rfl rfl rfl ?_
          refine q_iconst (t := 80) F dX4_one_79 rfl ?_
          refine q_iadd (t := 81) F dX4_one_80 rfl ?_
          rw [show (a2 : Int) + 1 = ((a2 + 1 : Nat) : Int) by omega]
          refine wp_callV (t := 84) [_] F dX4_one_81 (k_X4_either _) v_X4_either ml_X4_41 rfl rfl rfl rfl (Nat.le_of_ble_eq_true rfl) (by first | exact Nat.le_of_ble_eq_true rfl | (simp only [Y_X4_one, Y_X4_term, Y_X4_sum, Y_X4_denial, Y_X4_both, Y_X4_either, Y_X4_advance, Y_X6_add, Y_X4_at, Y_X4_fail, Y_X4_expect, Y_X4_openAll]; omega)) (m_14 (by omega)) (hE m3 (a2 + 1) (by omega) (by omega) im3 (adv b n p2) (-1) h3.1) rfl (kV ?_)
          rintro m' ⟨im4, h4, rfl⟩
          rw [stP_y] at h4
          refine q_aload_n (t := 85) F dX4_one_84 rfl rfl rfl ?_
          refine q_bipush (t := 87) F dX4_one_85 (by decide) rfl ?_
          refine wp_callV (t := 90) [_] F dX4_one_87 k_X4_expect v_X4_expect ml_X4_37 rfl rfl rfl rfl (Nat.le_of_ble_eq_true rfl) (by first | exact Nat.le_of_ble_eq_true rfl | (simp only [Y_X4_one, Y_X4_term, Y_X4_sum, Y_X4_denial, Y_X4_both, Y_X4_either, Y_X4_advance, Y_X6_add, Y_X4_at, Y_X4_fail, Y_X4_expect, Y_X4_openAll]; omega)) (m_14 (by omega)) (c_X4_expect _ G im4 bt j lm b n hb 41 (by omega) (by omega) _ _ h4.1) rfl (kV ?_)
          rintro m' ⟨im5, h5, rfl⟩
          refine q_goto (t := 97) F dX4_one_90 (by decide) ?_
          have hap := atomX_par (b := b) (n := n) (m := m2) (p := p2) (nE := eitL b n m3) hq.2.1 hq.2.2
          have hpar : PO b n j im (atomX b n m2 (eitL b n m3) p2) im5 := by
            have k1 := PO.seq0 (V := fun _ => 0) hz h2 (fun _ => hq.1) (fun _ => rfl) h3
            have k2 := PO.seq (V := fun _ => 0) hz k1 (fun _ => rfl) h4
            have k3 := PO.seq0 (V := fun _ => 0) hz k2 (fun q => (hap.2.2.2 q).1) (fun q => (hap.2.2.2 q).2) h5
            exact k3.cg hap.1 hap.2.1 hap.2.2.1
          rw [← heB] at hpar
          exact T97 m2 a2 p2 im5 (atomX b n m2 (eitB b n m2) p2) hma2 hmm2 hpar ((one_eq hO).1 hq.1) (fun q => ⟨(OAL_f hO hq.1).1, ((PG_atomX (PG_eitB b n m2)) p2 hp2).2.2.1 q⟩) hpp
    · have hq : f2 = -1 ∧ (tk b n p2 = 2 ∨ tk b n p2 = 3) := by omega
      have hlt2 : p2 < n := tk_lt (b := b) (by omega)
      have hq1 : PR b n j im2 p2 (-1) := by
        have h0 := h22
        rw [hq.1] at h0
        exact h0
      have g5 : im2 14 0 5 = vl b n p2 := h22.1.2.2.2.1 hq.2
      have hv0 := hR2 14 0 5
      have hv1 := hv0.1
      have hv2 := hv0.2
      refine q_aload_n (t := 25) F dX4_one_24 rfl rfl rfl ?_
      refine g_X4_15 (t := 28) F dX4_one_25 rfl rfl ?_
      refine q_aload_n (t := 29) F dX4_one_28 rfl rfl rfl ?_
      refine g_X4_54 (t := 32) F dX4_one_29 rfl rfl ?_
      try simp only [up_app, row_app, scr_app, cpy_app, Nat.reduceEqDiff, Int.reduceToNat, Int.toNat_natCast, and_true, true_and, and_false, false_and, and_self, reduceIte]
      refine q_iconst (t := 33) F dX4_one_32 rfl ?_
      refine q_icmp_ne (t := 36) (u := 43) F dX4_one_33 (by rw [g4]; constructor <;> omega) (by constructor <;> omega) (by decide) rfl (fun c33 => ?_) (fun c33 => ?_)
      · have hvr : ri (-1 - im2 14 0 5) := by constructor <;> omega
        have hax : atomX b n m2 (eitB b n m2) p2 = (adv b n p2, -1, [-1 - im2 14 0 5], fun nm => nm (vl b n p2).toNat) := by
          unfold atomX
          rw [if_neg (by omega), if_neg (by omega), if_pos (by omega), g5]
        have hax1 : (atomX b n m2 (eitB b n m2) p2).1 = adv b n p2 := by rw [hax]
        have hax2 : (atomX b n m2 (eitB b n m2) p2).2.1 = -1 := by rw [hax]
        have hax3 : (atomX b n m2 (eitB b n m2) p2).2.2.1 = [-1 - im2 14 0 5] := by rw [hax]
        refine q_iconst (t := 44) F dX4_one_43 rfl ?_
        refine q_aload_n (t := 45) F dX4_one_44 rfl rfl rfl ?_
        refine g_X4_82 (t := 48) F dX4_one_45 rfl rfl ?_
        try simp only [up_app, row_app, scr_app, cpy_app, Nat.reduceEqDiff, Int.reduceToNat, Int.toNat_natCast, and_true, true_and, and_false, false_and, and_self, reduceIte]
        refine q_isub (t := 49) F dX4_one_48 rfl ?_
        refine wp_callV (t := 52) [_] F dX4_one_49 k_X6_add v_X6_add ml_X4_63 rfl rfl rfl rfl (Nat.le_of_ble_eq_true rfl) (by first | exact Nat.le_of_ble_eq_true rfl | (simp only [Y_X4_one, Y_X4_term, Y_X4_sum, Y_X4_denial, Y_X4_both, Y_X4_either, Y_X4_advance, Y_X6_add, Y_X4_at, Y_X4_fail, Y_X4_expect, Y_X4_openAll]; omega)) (m_2 (by omega)) (c_X6_add _ G im2 bt j lm j hj _ h22.2.2.2.2.1.1 h22.2.2.2.2.1.2 hR2) rfl (kV ?_)
        rintro m' rfl
        refine q_aload_n (t := 53) F dX4_one_52 rfl rfl rfl ?_
        refine wp_callV (t := 56) [] F dX4_one_53 k_X4_advance v_X4_advance ml_X4_34 rfl rfl rfl rfl (Nat.le_of_ble_eq_true rfl) (by first | exact Nat.le_of_ble_eq_true rfl | (simp only [Y_X4_one, Y_X4_term, Y_X4_sum, Y_X4_denial, Y_X4_both, Y_X4_either, Y_X4_advance, Y_X6_add, Y_X4_at, Y_X4_fail, Y_X4_expect, Y_X4_openAll]; omega)) (m_14 (by omega)) (c_advN _ G im2 bt j lm b n hb p2 _ hvr hq1 hlt2) rfl (kV ?_)
        rintro m' ⟨im5, h5, rfl⟩
        refine q_goto (t := 97) F dX4_one_56 (by decide) ?_
        exact T97 m2 a2 p2 im5 (atomX b n m2 (eitB b n m2) p2) hma2 hmm2 ((PO.seq (V := fun _ => 0) hz h2 (fun _ => hq.1) h5).cg hax1 hax2 hax3) ((one_eq hO).1 hq.1) (fun q => ⟨(OAL_f hO hq.1).1, ((PG_atomX (PG_eitB b n m2)) p2 hp2).2.2.1 q⟩) hpp
      · have hvr : ri (im2 14 0 5) := hv0
        have hax : atomX b n m2 (eitB b n m2) p2 = (adv b n p2, -1, [im2 14 0 5], fun _ => vl b n p2) := by
          unfold atomX
          rw [if_neg (by omega), if_pos (by omega), g5]
        have hax1 : (atomX b n m2 (eitB b n m2) p2).1 = adv b n p2 := by rw [hax]
        have hax2 : (atomX b n m2 (eitB b n m2) p2).2.1 = -1 := by rw [hax]
        have hax3 : (atomX b n m2 (eitB b n m2) p2).2.2.1 = [im2 14 0 5] := by rw [hax]
        refine q_aload_n (t := 37) F dX4_one_36 rfl rfl rfl ?_
        refine g_X4_82 (t := 40) F dX4_one_37 rfl rfl ?_
        try simp only [up_app, row_app, scr_app, cpy_app, Nat.reduceEqDiff, Int.reduceToNat, Int.toNat_natCast, and_true, true_and, and_false, false_and, and_self, reduceIte]
        refine q_goto (t := 49) F dX4_one_40 (by decide) ?_
        refine wp_callV (t := 52) [_] F dX4_one_49 k_X6_add v_X6_add ml_X4_63 rfl rfl rfl rfl (Nat.le_of_ble_eq_true rfl) (by first | exact Nat.le_of_ble_eq_true rfl | (simp only [Y_X4_one, Y_X4_term, Y_X4_sum, Y_X4_denial, Y_X4_both, Y_X4_either, Y_X4_advance, Y_X6_add, Y_X4_at, Y_X4_fail, Y_X4_expect, Y_X4_openAll]; omega)) (m_2 (by omega)) (c_X6_add _ G im2 bt j lm j hj _ h22.2.2.2.2.1.1 h22.2.2.2.2.1.2 hR2) rfl (kV ?_)
        rintro m' rfl
        refine q_aload_n (t := 53) F dX4_one_52 rfl rfl rfl ?_
        refine wp_callV (t := 56) [] F dX4_one_53 k_X4_advance v_X4_advance ml_X4_34 rfl rfl rfl rfl (Nat.le_of_ble_eq_true rfl) (by first | exact Nat.le_of_ble_eq_true rfl | (simp only [Y_X4_one, Y_X4_term, Y_X4_sum, Y_X4_denial, Y_X4_both, Y_X4_either, Y_X4_advance, Y_X6_add, Y_X4_at, Y_X4_fail, Y_X4_expect, Y_X4_openAll]; omega)) (m_14 (by omega)) (c_advN _ G im2 bt j lm b n hb p2 _ hvr hq1 hlt2) rfl (kV ?_)
        rintro m' ⟨im5, h5, rfl⟩
        refine q_goto (t := 97) F dX4_one_56 (by decide) ?_
        exact T97 m2 a2 p2 im5 (atomX b n m2 (eitB b n m2) p2) hma2 hmm2 ((PO.seq (V := fun _ => 0) hz h2 (fun _ => hq.1) h5).cg hax1 hax2 hax3) ((one_eq hO).1 hq.1) (fun q => ⟨(OAL_f hO hq.1).1, ((PG_atomX (PG_eitB b n m2)) p2 hp2).2.2.1 q⟩) hpp

set_option maxHeartbeats 4000000 in
theorem c_X4_term (l : Launch) (G : GS) (im : IM) (bt j : Nat) (lm : IM) (hj : j < 6) (b : Nat → Int) (n : Nat) (hb : byt b n) (m o : Nat) (hmo : m + o = 5) (hO : CT l G bt j lm b n yX4_one (Y_X4_one o) (oneL b n m) o) (p : Nat) (f : Int) (h : PR b n j im p f) : Cn l (XC G) yX4_term (Y_X4_term o) [vR 14 0, vI (o : Int)] (im, rs bt j, lm) (pV fun m' => ∃ im', PO b n j im (stP (termL b n m) p f) im' ∧ m' = (im', rs bt j, lm)) := by
  refine cn_of (by decide) (okC G) rfl (Nat.le_of_ble_eq_true rfl) ?_
  intro M ad hMl F
  subst hMl
  have hn := hb.1
  have hR := h.2.1
  have hz := h.z
  refine wp_pad 1 ?_
  show Wp M (XC G) ad (Y_X4_term o) (pV fun m' => ∃ im', PO b n j im (stP (termL b n m) p f) im' ∧ m' = (im', rs bt j, lm)) 0 [some (vR 14 0), some (vI (o : Int)), none] [] (im, rs bt j, lm)
  refine q_aload_n (t := 1) F dX4_term_0 rfl rfl rfl ?_
  refine q_iload_n (t := 2) F dX4_term_1 rfl rfl rfl ?_
  refine wp_callV (t := 5) [_] F dX4_term_2 (k_X4_one _) v_X4_one ml_X4_79 rfl rfl rfl rfl (Nat.le_of_ble_eq_true rfl) (by first | exact Nat.le_of_ble_eq_true rfl | (simp only [Y_X4_one, Y_X4_term, Y_X4_sum, Y_X4_denial, Y_X4_both, Y_X4_either, Y_X4_advance, Y_X6_add, Y_X4_at, Y_X4_fail, Y_X4_expect, Y_X4_openAll]; omega)) (m_14 (by omega)) (hO im p f h) rfl (kV ?_)
  rintro m' ⟨im0, h0, rfl⟩
  refine q_iconst (t := 6) F dX4_term_5 rfl ?_
  refine q_istore_n (t := 7) F dX4_term_6 rfl (by first | decide | exact Nat.le_of_ble_eq_true rfl) rfl rfl ?_
  have L7 : ∀ (fz : Nat) (i : Nat) (r : PT) (im1 : IM), 160 - i < fz → i ≤ 160 → loopP b n opM (oneL b n m) 160 (stP (oneL b n m) p f) = loopP b n opM (oneL b n m) (160 - i) r → PO b n j im r im1 → Wp M (XC G) ad (Y_X4_term o) (pV fun m' => ∃ im', PO b n j im (stP (termL b n m) p f) im' ∧ m' = (im', rs bt j, lm)) 7 [some (vR 14 0), some (vI (o : Int)), some (vI (i : Int))] [] (im1, rs bt j, lm) := by
    intro fz
    induction fz with
    | zero => intro i r im1 h; exact absurd h (Nat.not_lt_zero _)
    | succ fz ih =>
      have ih7 := ih
      intro i r im1 hmeas hi hlp hr
      have h11 : PR b n j im1 r.1 r.2.1 := hr.1
      have hR1 := h11.2.1
      have g4 : im1 14 0 4 = tk b n r.1 := h11.1.2.2.1
      have g6 : im1 14 0 6 = r.2.1 := h11.1.2.2.2.2
      have hti := tk_in b n r.1
      refine q_iload_n (t := 8) F dX4_term_7 rfl rfl rfl ?_
      refine q_sipush (t := 11) F dX4_term_8 (by decide) rfl ?_
      refine q_icmp_ge (t := 14) (u := 47) F dX4_term_11 (by constructor <;> omega) (by constructor <;> omega) (by decide) rfl (fun c11 => ?_) (fun c11 => ?_)
      · refine q_vret F dX4_term_47 rfl ?_
        have e : stP (termL b n m) p f = r := by
          have e0 : stP (termL b n m) p f = loopP b n opM (oneL b n m) 160 (stP (oneL b n m) p f) := stP_loop (F := oneL b n m) (k := 160)
          rw [e0, hlp]
          first
            | (rw [show 160 - i = 0 by omega]; rfl)
            | (refine loopP_n (fun q => ?_)
               have q2 := q.2
               unfold opM at q2
               rw [if_neg (by omega)] at q2
               exact q2 rfl)
        exact ⟨rfl, im1, by rw [e]; exact hr, rfl⟩
      · refine q_aload_n (t := 15) F dX4_term_14 rfl rfl rfl ?_
        refine q_bipush (t := 17) F dX4_term_15 (by decide) rfl ?_
        refine wp_callV (t := 20) [_] F dX4_term_17 k_X4_at v_X4_at ml_X4_47 rfl rfl rfl rfl (Nat.le_of_ble_eq_true rfl) (by first | exact Nat.le_of_ble_eq_true rfl | (simp only [Y_X4_one, Y_X4_term, Y_X4_sum, Y_X4_denial, Y_X4_both, Y_X4_either, Y_X4_advance, Y_X6_add, Y_X4_at, Y_X4_fail, Y_X4_expect, Y_X4_openAll]; omega)) (m_14 (by omega)) (c_X4_at _ G im1 bt j lm hR1 42 (by constructor <;> omega)) rfl (kI ?_)
        rintro x17 m' ⟨hx17, rfl⟩
        have hx17 := if01 hx17
        refine q_if_eq (t := 23) (u := 47) F dX4_term_20 (by first | exact hR _ _ _ | (constructor <;> omega)) (by decide) rfl (fun c20 => ?_) (fun c20 => ?_)
        · refine q_vret F dX4_term_47 rfl ?_
          have e : stP (termL b n m) p f = r := by
            have e0 : stP (termL b n m) p f = loopP b n opM (oneL b n m) 160 (stP (oneL b n m) p f) := stP_loop (F := oneL b n m) (k := 160)
            rw [e0, hlp]
            first
              | (rw [show 160 - i = 0 by omega]; rfl)
              | (refine loopP_n (fun q => ?_)
                 have q2 := q.2
                 unfold opM at q2
                 rw [if_neg (by omega)] at q2
                 exact q2 rfl)
          exact ⟨rfl, im1, by rw [e]; exact hr, rfl⟩
        · refine q_aload_n (t := 24) F dX4_term_23 rfl rfl rfl ?_
          refine wp_callV (t := 27) [] F dX4_term_24 k_X4_advance v_X4_advance ml_X4_34 rfl rfl rfl rfl (Nat.le_of_ble_eq_true rfl) (by first | exact Nat.le_of_ble_eq_true rfl | (simp only [Y_X4_one, Y_X4_term, Y_X4_sum, Y_X4_denial, Y_X4_both, Y_X4_either, Y_X4_advance, Y_X6_add, Y_X4_at, Y_X4_fail, Y_X4_expect, Y_X4_openAll]; omega)) (m_14 (by omega)) (c_adv _ G im1 bt j lm b n hb r.1 r.2.1 h11) rfl (kV ?_)
          rintro m' ⟨im2, h2, rfl⟩
          have hq : r.2.1 = -1 ∧ tk b n r.1 = 42 := by omega
          have hlt : r.1 < n := tk_lt (b := b) (by omega)
          have h2 := h2 hlt
          rw [hq.1] at h2
          have hop : opM (tk b n r.1) = -9 := by unfold opM; rw [if_pos hq.2]
          refine q_aload_n (t := 28) F dX4_term_27 rfl rfl rfl ?_
          refine q_iload_n (t := 29) F dX4_term_28 rfl rfl rfl ?_
          refine wp_callV (t := 32) [_] F dX4_term_29 (k_X4_one _) v_X4_one ml_X4_79 rfl rfl rfl rfl (Nat.le_of_ble_eq_true rfl) (by first | exact Nat.le_of_ble_eq_true rfl | (simp only [Y_X4_one, Y_X4_term, Y_X4_sum, Y_X4_denial, Y_X4_both, Y_X4_either, Y_X4_advance, Y_X6_add, Y_X4_at, Y_X4_fail, Y_X4_expect, Y_X4_openAll]; omega)) (m_14 (by omega)) (hO im2 (adv b n r.1) (-1) h2.1) rfl (kV ?_)
          rintro m' ⟨im3, h3, rfl⟩
          refine q_aload_n (t := 33) F dX4_term_32 rfl rfl rfl ?_
          refine g_X4_15 (t := 36) F dX4_term_33 rfl rfl ?_
          refine q_bipush (t := 38) F dX4_term_36 (by decide) rfl ?_
          refine wp_callV (t := 41) [_] F dX4_term_38 k_X6_add v_X6_add ml_X4_63 rfl rfl rfl rfl (Nat.le_of_ble_eq_true rfl) (by first | exact Nat.le_of_ble_eq_true rfl | (simp only [Y_X4_one, Y_X4_term, Y_X4_sum, Y_X4_denial, Y_X4_both, Y_X4_either, Y_X4_advance, Y_X6_add, Y_X4_at, Y_X4_fail, Y_X4_expect, Y_X4_openAll]; omega)) (m_2 (by omega)) (c_X6_add _ G im3 bt j lm j hj _ h3.1.2.2.2.2.1.1 h3.1.2.2.2.2.1.2 h3.1.2.1) rfl (kV ?_)
          rintro m' rfl
          refine q_iinc (t := 44) F dX4_term_41 rfl (by first | decide | exact Nat.le_of_ble_eq_true rfl) rfl rfl ?_
          refine q_goto (t := 7) F dX4_term_44 (by decide) ?_
          refine ih7 (i + 1) (lpS b n opM (oneL b n m) r) (addM im3 j (-9)) (by omega) (by omega) ?_ (LP_step hn hz hr hq.1 hop (by constructor <;> omega) hlt h2 (PG_one b n m) h3)
          rw [hlp, show 160 - i = (160 - (i + 1)) + 1 by omega, loopP_y2 hq.1 (by rw [hop]; decide)]
  exact L7 _ 0 _ im0 (Nat.lt_succ_self _) (Nat.zero_le _) rfl h0

theorem PG_termL (b : Nat → Int) (n m : Nat) : PG n (termL b n m) := PG_term (PG_one b n m)
theorem PG_sumL (b : Nat → Int) (n m : Nat) : PG n (sumL b n m) := PG_sum (PG_one b n m)
theorem PG_bothL (b : Nat → Int) (n m : Nat) : PG n (bothL b n m) := PG_both (PG_den b n m)

set_option maxHeartbeats 4000000 in
theorem c_X4_sum (l : Launch) (G : GS) (im : IM) (bt j : Nat) (lm : IM) (hj : j < 6) (b : Nat → Int) (n : Nat) (hb : byt b n) (m o : Nat) (hmo : m + o = 5) (hO : CT l G bt j lm b n yX4_term (Y_X4_term o) (termL b n m) o) (p : Nat) (f : Int) (h : PR b n j im p f) : Cn l (XC G) yX4_sum (Y_X4_sum o) [vR 14 0, vI (o : Int)] (im, rs bt j, lm) (pV fun m' => ∃ im', PO b n j im (stP (sumL b n m) p f) im' ∧ m' = (im', rs bt j, lm)) := by
  refine cn_of (by decide) (okC G) rfl (Nat.le_of_ble_eq_true rfl) ?_
  intro M ad hMl F
  subst hMl
  have hn := hb.1
  have hR := h.2.1
  have hz := h.z
  refine wp_pad 2 ?_
  show Wp M (XC G) ad (Y_X4_sum o) (pV fun m' => ∃ im', PO b n j im (stP (sumL b n m) p f) im' ∧ m' = (im', rs bt j, lm)) 0 [some (vR 14 0), some (vI (o : Int)), none, none] [] (im, rs bt j, lm)
  refine q_aload_n (t := 1) F dX4_sum_0 rfl rfl rfl ?_
  refine q_iload_n (t := 2) F dX4_sum_1 rfl rfl rfl ?_
  refine wp_callV (t := 5) [_] F dX4_sum_2 (k_X4_term _) v_X4_term ml_X4_76 rfl rfl rfl rfl (Nat.le_of_ble_eq_true rfl) (by first | exact Nat.le_of_ble_eq_true rfl | (simp only [Y_X4_one, Y_X4_term, Y_X4_sum, Y_X4_denial, Y_X4_both, Y_X4_either, Y_X4_advance, Y_X6_add, Y_X4_at, Y_X4_fail, Y_X4_expect, Y_X4_openAll]; omega)) (m_14 (by omega)) (hO im p f h) rfl (kV ?_)
  rintro m' ⟨im0, h0, rfl⟩
  refine q_iconst (t := 6) F dX4_sum_5 rfl ?_
  refine q_istore_n (t := 7) F dX4_sum_6 rfl (by first | decide | exact Nat.le_of_ble_eq_true rfl) rfl rfl ?_
  have L7 : ∀ (fz : Nat) (i : Nat) (r : PT) (im1 : IM), 160 - i < fz → i ≤ 160 → loopP b n opS (termL b n m) 160 (stP (termL b n m) p f) = loopP b n opS (termL b n m) (160 - i) r → PO b n j im r im1 → Wp M (XC G) ad (Y_X4_sum o) (pV fun m' => ∃ im', PO b n j im (stP (sumL b n m) p f) im' ∧ m' = (im', rs bt j, lm)) 7 [some (vR 14 0), some (vI (o : Int)), some (vI (i : Int)), none] [] (im1, rs bt j, lm) := by
    intro fz
    induction fz with
    | zero => intro i r im1 h; exact absurd h (Nat.not_lt_zero _)
    | succ fz ih =>
      have ih7 := ih
      intro i r im1 hmeas hi hlp hr
      have h11 : PR b n j im1 r.1 r.2.1 := hr.1
      have hR1 := h11.2.1
      have g4 : im1 14 0 4 = tk b n r.1 := h11.1.2.2.1
      have g6 : im1 14 0 6 = r.2.1 := h11.1.2.2.2.2
      have hti := tk_in b n r.1
      refine q_iload_n (t := 8) F dX4_sum_7 rfl rfl rfl ?_
      refine q_sipush (t := 11) F dX4_sum_8 (by decide) rfl ?_
      refine q_icmp_ge (t := 14) (u := 72) F dX4_sum_11 (by constructor <;> omega) (by constructor <;> omega) (by decide) rfl (fun c11 => ?_) (fun c11 => ?_)
      · refine q_vret F dX4_sum_72 rfl ?_
        have e : stP (sumL b n m) p f = r := by
          have e0 : stP (sumL b n m) p f = loopP b n opS (termL b n m) 160 (stP (termL b n m) p f) := stP_loop (F := termL b n m) (k := 160)
          rw [e0, hlp]
          first
            | (rw [show 160 - i = 0 by omega]; rfl)
            | (refine loopP_n (fun q => ?_)
               have q2 := q.2
               unfold opS at q2
               rw [if_neg (by omega), if_neg (by omega)] at q2
               exact q2 rfl)
        exact ⟨rfl, im1, by rw [e]; exact hr, rfl⟩
      · refine q_aload_n (t := 15) F dX4_sum_14 rfl rfl rfl ?_
        refine q_bipush (t := 17) F dX4_sum_15 (by decide) rfl ?_
        refine wp_callV (t := 20) [_] F dX4_sum_17 k_X4_at v_X4_at ml_X4_47 rfl rfl rfl rfl (Nat.le_of_ble_eq_true rfl) (by first | exact Nat.le_of_ble_eq_true rfl | (simp only [Y_X4_one, Y_X4_term, Y_X4_sum, Y_X4_denial, Y_X4_both, Y_X4_either, Y_X4_advance, Y_X6_add, Y_X4_at, Y_X4_fail, Y_X4_expect, Y_X4_openAll]; omega)) (m_14 (by omega)) (c_X4_at _ G im1 bt j lm hR1 43 (by constructor <;> omega)) rfl (kI ?_)
        rintro x17 m' ⟨hx17, rfl⟩
        have hx17 := if01 hx17
        refine q_if_ne (t := 23) (u := 32) F dX4_sum_20 (by first | exact hR _ _ _ | (constructor <;> omega)) (by decide) rfl (fun c20 => ?_) (fun c20 => ?_)
        · have hq : r.2.1 = -1 ∧ (tk b n r.1 = 43 ∨ tk b n r.1 = 45) := by omega
          refine q_aload_n (t := 33) F dX4_sum_32 rfl rfl rfl ?_
          refine g_X4_54 (t := 36) F dX4_sum_33 rfl rfl ?_
          try simp only [up_app, row_app, scr_app, cpy_app, Nat.reduceEqDiff, Int.reduceToNat, Int.toNat_natCast, and_true, true_and, and_false, false_and, and_self, reduceIte]
          refine q_bipush (t := 38) F dX4_sum_36 (by decide) rfl ?_
          refine q_icmp_ne (t := 41) (u := 46) F dX4_sum_38 (by rw [g4]; constructor <;> omega) (by constructor <;> omega) (by decide) rfl (fun c38 => ?_) (fun c38 => ?_)
          · have hop : opS (tk b n r.1) = -11 := by unfold opS; rw [if_neg (by omega), if_pos (by omega)]
            refine q_bipush (t := 48) F dX4_sum_46 (by decide) rfl ?_
            refine q_istore_n (t := 49) F dX4_sum_48 rfl (by first | decide | exact Nat.le_of_ble_eq_true rfl) rfl rfl ?_
            refine q_aload_n (t := 50) F dX4_sum_49 rfl rfl rfl ?_
            refine wp_callV (t := 53) [] F dX4_sum_50 k_X4_advance v_X4_advance ml_X4_34 rfl rfl rfl rfl (Nat.le_of_ble_eq_true rfl) (by first | exact Nat.le_of_ble_eq_true rfl | (simp only [Y_X4_one, Y_X4_term, Y_X4_sum, Y_X4_denial, Y_X4_both, Y_X4_either, Y_X4_advance, Y_X6_add, Y_X4_at, Y_X4_fail, Y_X4_expect, Y_X4_openAll]; omega)) (m_14 (by omega)) (c_adv _ G im1 bt j lm b n hb r.1 r.2.1 h11) rfl (kV ?_)
            rintro m' ⟨im2, h2, rfl⟩
            have hlt : r.1 < n := tk_lt (b := b) (by omega)
            have h2 := h2 hlt
            rw [hq.1] at h2
            refine q_aload_n (t := 54) F dX4_sum_53 rfl rfl rfl ?_
            refine q_iload_n (t := 55) F dX4_sum_54 rfl rfl rfl ?_
            refine wp_callV (t := 58) [_] F dX4_sum_55 (k_X4_term _) v_X4_term ml_X4_76 rfl rfl rfl rfl (Nat.le_of_ble_eq_true rfl) (by first | exact Nat.le_of_ble_eq_true rfl | (simp only [Y_X4_one, Y_X4_term, Y_X4_sum, Y_X4_denial, Y_X4_both, Y_X4_either, Y_X4_advance, Y_X6_add, Y_X4_at, Y_X4_fail, Y_X4_expect, Y_X4_openAll]; omega)) (m_14 (by omega)) (hO im2 (adv b n r.1) (-1) h2.1) rfl (kV ?_)
            rintro m' ⟨im3, h3, rfl⟩
            refine q_aload_n (t := 59) F dX4_sum_58 rfl rfl rfl ?_
            refine g_X4_15 (t := 62) F dX4_sum_59 rfl rfl ?_
            refine q_iload_n (t := 63) F dX4_sum_62 rfl rfl rfl ?_
            refine wp_callV (t := 66) [_] F dX4_sum_63 k_X6_add v_X6_add ml_X4_63 rfl rfl rfl rfl (Nat.le_of_ble_eq_true rfl) (by first | exact Nat.le_of_ble_eq_true rfl | (simp only [Y_X4_one, Y_X4_term, Y_X4_sum, Y_X4_denial, Y_X4_both, Y_X4_either, Y_X4_advance, Y_X6_add, Y_X4_at, Y_X4_fail, Y_X4_expect, Y_X4_openAll]; omega)) (m_2 (by omega)) (c_X6_add _ G im3 bt j lm j hj _ h3.1.2.2.2.2.1.1 h3.1.2.2.2.2.1.2 h3.1.2.1) rfl (kV ?_)
            rintro m' rfl
            refine q_iinc (t := 69) F dX4_sum_66 rfl (by first | decide | exact Nat.le_of_ble_eq_true rfl) rfl rfl ?_
            refine q_goto (t := 7) F dX4_sum_69 (by decide) ?_
            refine wp_less 3 ?_
            refine ih7 (i + 1) (lpS b n opS (termL b n m) r) _ (by omega) (by omega) ?_ (LP_step hn hz hr hq.1 hop (by constructor <;> omega) hlt h2 (PG_termL b n m) h3)
            rw [hlp, show 160 - i = (160 - (i + 1)) + 1 by omega, loopP_y2 hq.1 (by rw [hop]; decide)]
          · have hop : opS (tk b n r.1) = -10 := by unfold opS; rw [if_pos (by omega)]
            refine q_bipush (t := 43) F dX4_sum_41 (by decide) rfl ?_
            refine q_goto (t := 48) F dX4_sum_43 (by decide) ?_
            refine q_istore_n (t := 49) F dX4_sum_48 rfl (by first | decide | exact Nat.le_of_ble_eq_true rfl) rfl rfl ?_
            refine q_aload_n (t := 50) F dX4_sum_49 rfl rfl rfl ?_
            refine wp_callV (t := 53) [] F dX4_sum_50 k_X4_advance v_X4_advance ml_X4_34 rfl rfl rfl rfl (Nat.le_of_ble_eq_true rfl) (by first | exact Nat.le_of_ble_eq_true rfl | (simp only [Y_X4_one, Y_X4_term, Y_X4_sum, Y_X4_denial, Y_X4_both, Y_X4_either, Y_X4_advance, Y_X6_add, Y_X4_at, Y_X4_fail, Y_X4_expect, Y_X4_openAll]; omega)) (m_14 (by omega)) (c_adv _ G im1 bt j lm b n hb r.1 r.2.1 h11) rfl (kV ?_)
            rintro m' ⟨im2, h2, rfl⟩
            have hlt : r.1 < n := tk_lt (b := b) (by omega)
            have h2 := h2 hlt
            rw [hq.1] at h2
            refine q_aload_n (t := 54) F dX4_sum_53 rfl rfl rfl ?_
            refine q_iload_n (t := 55) F dX4_sum_54 rfl rfl rfl ?_
            refine wp_callV (t := 58) [_] F dX4_sum_55 (k_X4_term _) v_X4_term ml_X4_76 rfl rfl rfl rfl (Nat.le_of_ble_eq_true rfl) (by first | exact Nat.le_of_ble_eq_true rfl | (simp only [Y_X4_one, Y_X4_term, Y_X4_sum, Y_X4_denial, Y_X4_both, Y_X4_either, Y_X4_advance, Y_X6_add, Y_X4_at, Y_X4_fail, Y_X4_expect, Y_X4_openAll]; omega)) (m_14 (by omega)) (hO im2 (adv b n r.1) (-1) h2.1) rfl (kV ?_)
            rintro m' ⟨im3, h3, rfl⟩
            refine q_aload_n (t := 59) F dX4_sum_58 rfl rfl rfl ?_
            refine g_X4_15 (t := 62) F dX4_sum_59 rfl rfl ?_
            refine q_iload_n (t := 63) F dX4_sum_62 rfl rfl rfl ?_
            refine wp_callV (t := 66) [_] F dX4_sum_63 k_X6_add v_X6_add ml_X4_63 rfl rfl rfl rfl (Nat.le_of_ble_eq_true rfl) (by first | exact Nat.le_of_ble_eq_true rfl | (simp only [Y_X4_one, Y_X4_term, Y_X4_sum, Y_X4_denial, Y_X4_both, Y_X4_either, Y_X4_advance, Y_X6_add, Y_X4_at, Y_X4_fail, Y_X4_expect, Y_X4_openAll]; omega)) (m_2 (by omega)) (c_X6_add _ G im3 bt j lm j hj _ h3.1.2.2.2.2.1.1 h3.1.2.2.2.2.1.2 h3.1.2.1) rfl (kV ?_)
            rintro m' rfl
            refine q_iinc (t := 69) F dX4_sum_66 rfl (by first | decide | exact Nat.le_of_ble_eq_true rfl) rfl rfl ?_
            refine q_goto (t := 7) F dX4_sum_69 (by decide) ?_
            refine wp_less 3 ?_
            refine ih7 (i + 1) (lpS b n opS (termL b n m) r) _ (by omega) (by omega) ?_ (LP_step hn hz hr hq.1 hop (by constructor <;> omega) hlt h2 (PG_termL b n m) h3)
            rw [hlp, show 160 - i = (160 - (i + 1)) + 1 by omega, loopP_y2 hq.1 (by rw [hop]; decide)]
        · refine q_aload_n (t := 24) F dX4_sum_23 rfl rfl rfl ?_
          refine q_bipush (t := 26) F dX4_sum_24 (by decide) rfl ?_
          refine wp_callV (t := 29) [_] F dX4_sum_26 k_X4_at v_X4_at ml_X4_47 rfl rfl rfl rfl (Nat.le_of_ble_eq_true rfl) (by first | exact Nat.le_of_ble_eq_true rfl | (simp only [Y_X4_one, Y_X4_term, Y_X4_sum, Y_X4_denial, Y_X4_both, Y_X4_either, Y_X4_advance, Y_X6_add, Y_X4_at, Y_X4_fail, Y_X4_expect, Y_X4_openAll]; omega)) (m_14 (by omega)) (c_X4_at _ G im1 bt j lm hR1 45 (by constructor <;> omega)) rfl (kI ?_)
          rintro x26 m' ⟨hx26, rfl⟩
          have hx26 := if01 hx26
          refine q_if_eq (t := 32) (u := 72) F dX4_sum_29 (by first | exact hR _ _ _ | (constructor <;> omega)) (by decide) rfl (fun c29 => ?_) (fun c29 => ?_)
          · refine q_vret F dX4_sum_72 rfl ?_
            have e : stP (sumL b n m) p f = r := by
              have e0 : stP (sumL b n m) p f = loopP b n opS (termL b n m) 160 (stP (termL b n m) p f) := stP_loop (F := termL b n m) (k := 160)
              rw [e0, hlp]
              first
                | (rw [show 160 - i = 0 by omega]; rfl)
                | (refine loopP_n (fun q => ?_)
                   have q2 := q.2
                   unfold opS at q2
                   rw [if_neg (by omega), if_neg (by omega)] at q2
                   exact q2 rfl)
            exact ⟨rfl, im1, by rw [e]; exact hr, rfl⟩
          · have hq : r.2.1 = -1 ∧ (tk b n r.1 = 43 ∨ tk b n r.1 = 45) := by omega
            refine q_aload_n (t := 33) F dX4_sum_32 rfl rfl rfl ?_
            refine g_X4_54 (t := 36) F dX4_sum_33 rfl rfl ?_
            try simp only [up_app, row_app, scr_app, cpy_app, Nat.reduceEqDiff, Int.reduceToNat, Int.toNat_natCast, and_true, true_and, and_false, false_and, and_self, reduceIte]
            refine q_bipush (t := 38) F dX4_sum_36 (by decide) rfl ?_
            refine q_icmp_ne (t := 41) (u := 46) F dX4_sum_38 (by rw [g4]; constructor <;> omega) (by constructor <;> omega) (by decide) rfl (fun c38 => ?_) (fun c38 => ?_)
            · have hop : opS (tk b n r.1) = -11 := by unfold opS; rw [if_neg (by omega), if_pos (by omega)]
              refine q_bipush (t := 48) F dX4_sum_46 (by decide) rfl ?_
              refine q_istore_n (t := 49) F dX4_sum_48 rfl (by first | decide | exact Nat.le_of_ble_eq_true rfl) rfl rfl ?_
              refine q_aload_n (t := 50) F dX4_sum_49 rfl rfl rfl ?_
              refine wp_callV (t := 53) [] F dX4_sum_50 k_X4_advance v_X4_advance ml_X4_34 rfl rfl rfl rfl (Nat.le_of_ble_eq_true rfl) (by first | exact Nat.le_of_ble_eq_true rfl | (simp only [Y_X4_one, Y_X4_term, Y_X4_sum, Y_X4_denial, Y_X4_both, Y_X4_either, Y_X4_advance, Y_X6_add, Y_X4_at, Y_X4_fail, Y_X4_expect, Y_X4_openAll]; omega)) (m_14 (by omega)) (c_adv _ G im1 bt j lm b n hb r.1 r.2.1 h11) rfl (kV ?_)
              rintro m' ⟨im2, h2, rfl⟩
              have hlt : r.1 < n := tk_lt (b := b) (by omega)
              have h2 := h2 hlt
              rw [hq.1] at h2
              refine q_aload_n (t := 54) F dX4_sum_53 rfl rfl rfl ?_
              refine q_iload_n (t := 55) F dX4_sum_54 rfl rfl rfl ?_
              refine wp_callV (t := 58) [_] F dX4_sum_55 (k_X4_term _) v_X4_term ml_X4_76 rfl rfl rfl rfl (Nat.le_of_ble_eq_true rfl) (by first | exact Nat.le_of_ble_eq_true rfl | (simp only [Y_X4_one, Y_X4_term, Y_X4_sum, Y_X4_denial, Y_X4_both, Y_X4_either, Y_X4_advance, Y_X6_add, Y_X4_at, Y_X4_fail, Y_X4_expect, Y_X4_openAll]; omega)) (m_14 (by omega)) (hO im2 (adv b n r.1) (-1) h2.1) rfl (kV ?_)
              rintro m' ⟨im3, h3, rfl⟩
              refine q_aload_n (t := 59) F dX4_sum_58 rfl rfl rfl ?_
              refine g_X4_15 (t := 62) F dX4_sum_59 rfl rfl ?_
              refine q_iload_n (t := 63) F dX4_sum_62 rfl rfl rfl ?_
              refine wp_callV (t := 66) [_] F dX4_sum_63 k_X6_add v_X6_add ml_X4_63 rfl rfl rfl rfl (Nat.le_of_ble_eq_true rfl) (by first | exact Nat.le_of_ble_eq_true rfl | (simp only [Y_X4_one, Y_X4_term, Y_X4_sum, Y_X4_denial, Y_X4_both, Y_X4_either, Y_X4_advance, Y_X6_add, Y_X4_at, Y_X4_fail, Y_X4_expect, Y_X4_openAll]; omega)) (m_2 (by omega)) (c_X6_add _ G im3 bt j lm j hj _ h3.1.2.2.2.2.1.1 h3.1.2.2.2.2.1.2 h3.1.2.1) rfl (kV ?_)
              rintro m' rfl
              refine q_iinc (t := 69) F dX4_sum_66 rfl (by first | decide | exact Nat.le_of_ble_eq_true rfl) rfl rfl ?_
              refine q_goto (t := 7) F dX4_sum_69 (by decide) ?_
              refine wp_less 3 ?_
              refine ih7 (i + 1) (lpS b n opS (termL b n m) r) _ (by omega) (by omega) ?_ (LP_step hn hz hr hq.1 hop (by constructor <;> omega) hlt h2 (PG_termL b n m) h3)
              rw [hlp, show 160 - i = (160 - (i + 1)) + 1 by omega, loopP_y2 hq.1 (by rw [hop]; decide)]
            · have hop : opS (tk b n r.1) = -10 := by unfold opS; rw [if_pos (by omega)]
              refine q_bipush (t := 43) F dX4_sum_41 (by decide) rfl ?_
              refine q_goto (t := 48) F dX4_sum_43 (by decide) ?_
              refine q_istore_n (t := 49) F dX4_sum_48 rfl (by first | decide | exact Nat.le_of_ble_eq_true rfl) rfl rfl ?_
              refine q_aload_n (t := 50) F dX4_sum_49 rfl rfl rfl ?_
              refine wp_callV (t := 53) [] F dX4_sum_50 k_X4_advance v_X4_advance ml_X4_34 rfl rfl rfl rfl (Nat.le_of_ble_eq_true rfl) (by first | exact Nat.le_of_ble_eq_true rfl | (simp only [Y_X4_one, Y_X4_term, Y_X4_sum, Y_X4_denial, Y_X4_both, Y_X4_either, Y_X4_advance, Y_X6_add, Y_X4_at, Y_X4_fail, Y_X4_expect, Y_X4_openAll]; omega)) (m_14 (by omega)) (c_adv _ G im1 bt j lm b n hb r.1 r.2.1 h11) rfl (kV ?_)
              rintro m' ⟨im2, h2, rfl⟩
              have hlt : r.1 < n := tk_lt (b := b) (by omega)
              have h2 := h2 hlt
              rw [hq.1] at h2
              refine q_aload_n (t := 54) F dX4_sum_53 rfl rfl rfl ?_
              refine q_iload_n (t := 55) F dX4_sum_54 rfl rfl rfl ?_
              refine wp_callV (t := 58) [_] F dX4_sum_55 (k_X4_term _) v_X4_term ml_X4_76 rfl rfl rfl rfl (Nat.le_of_ble_eq_true rfl) (by first | exact Nat.le_of_ble_eq_true rfl | (simp only [Y_X4_one, Y_X4_term, Y_X4_sum, Y_X4_denial, Y_X4_both, Y_X4_either, Y_X4_advance, Y_X6_add, Y_X4_at, Y_X4_fail, Y_X4_expect, Y_X4_openAll]; omega)) (m_14 (by omega)) (hO im2 (adv b n r.1) (-1) h2.1) rfl (kV ?_)
              rintro m' ⟨im3, h3, rfl⟩
              refine q_aload_n (t := 59) F dX4_sum_58 rfl rfl rfl ?_
              refine g_X4_15 (t := 62) F dX4_sum_59 rfl rfl ?_
              refine q_iload_n (t := 63) F dX4_sum_62 rfl rfl rfl ?_
              refine wp_callV (t := 66) [_] F dX4_sum_63 k_X6_add v_X6_add ml_X4_63 rfl rfl rfl rfl (Nat.le_of_ble_eq_true rfl) (by first | exact Nat.le_of_ble_eq_true rfl | (simp only [Y_X4_one, Y_X4_term, Y_X4_sum, Y_X4_denial, Y_X4_both, Y_X4_either, Y_X4_advance, Y_X6_add, Y_X4_at, Y_X4_fail, Y_X4_expect, Y_X4_openAll]; omega)) (m_2 (by omega)) (c_X6_add _ G im3 bt j lm j hj _ h3.1.2.2.2.2.1.1 h3.1.2.2.2.2.1.2 h3.1.2.1) rfl (kV ?_)
              rintro m' rfl
              refine q_iinc (t := 69) F dX4_sum_66 rfl (by first | decide | exact Nat.le_of_ble_eq_true rfl) rfl rfl ?_
              refine q_goto (t := 7) F dX4_sum_69 (by decide) ?_
              refine wp_less 3 ?_
              refine ih7 (i + 1) (lpS b n opS (termL b n m) r) _ (by omega) (by omega) ?_ (LP_step hn hz hr hq.1 hop (by constructor <;> omega) hlt h2 (PG_termL b n m) h3)
              rw [hlp, show 160 - i = (160 - (i + 1)) + 1 by omega, loopP_y2 hq.1 (by rw [hop]; decide)]
  exact L7 _ 0 _ im0 (Nat.lt_succ_self _) (Nat.zero_le _) rfl h0

set_option maxHeartbeats 4000000 in
theorem c_X4_denial (l : Launch) (G : GS) (im : IM) (bt j : Nat) (lm : IM) (hj : j < 6) (b : Nat → Int) (n : Nat) (hb : byt b n) (m o : Nat) (hmo : m + o = 5) (hS : ∀ m2 o2, m2 + o2 = 5 → m2 ≤ m → CT l G bt j lm b n yX4_sum (Y_X4_sum o2) (sumL b n m2) o2) (p : Nat) (f : Int) (h : PR b n j im p f) : Cn l (XC G) yX4_denial (Y_X4_denial o) [vR 14 0, vI (o : Int)] (im, rs bt j, lm) (pV fun m' => ∃ im', PO b n j im (stP (denL b n m) p f) im' ∧ m' = (im', rs bt j, lm)) := by
  refine cn_of (by decide) (okC G) rfl (Nat.le_of_ble_eq_true rfl) ?_
  intro M ad hMl F
  subst hMl
  have hn := hb.1
  have hR := h.2.1
  have hz := h.z
  refine wp_pad 2 ?_
  show Wp M (XC G) ad (Y_X4_denial o) (pV fun m' => ∃ im', PO b n j im (stP (denL b n m) p f) im' ∧ m' = (im', rs bt j, lm)) 0 [some (vR 14 0), some (vI (o : Int)), none, none] [] (im, rs bt j, lm)
  have T65 : ∀ (m2 a2 p2 : Nat) (im3 : IM) (r : PT), m2 + a2 = 5 → m2 ≤ m → PO b n j im r im3 → stP (denL b n m) p f = wrapK (-8) (m - m2) r → (r.2.1 = -1 → f = -1 ∧ p2 + r.2.2.1.length ≤ r.1) → p + (m - m2) ≤ p2 → Wp M (XC G) ad (Y_X4_denial o) (pV fun m' => ∃ im', PO b n j im (stP (denL b n m) p f) im' ∧ m' = (im', rs bt j, lm)) 65 [some (vR 14 0), some (vI (o : Int)), some (vI (a2 : Int)), none] [] (im3, rs bt j, lm) := by
    intro m2 a2 p2 im3 r hma2 hmm2 h3 heq hsl hpp
    refine q_iload_n (t := 66) F dX4_denial_65 rfl rfl rfl ?_
    refine q_istore_n (t := 67) F dX4_denial_66 rfl (by first | decide | exact Nat.le_of_ble_eq_true rfl) rfl rfl ?_
    have L67 : ∀ (fz : Nat) (k : Nat) (im1 : IM), m - m2 - k < fz → k ≤ m - m2 → PO b n j im (wrapK (-8) k r) im1 → (r.2.1 = -1 → im1 2 j 3 + ((m - m2 - k : Nat) : Int) ≤ r.1) → Wp M (XC G) ad (Y_X4_denial o) (pV fun m' => ∃ im', PO b n j im (stP (denL b n m) p f) im' ∧ m' = (im', rs bt j, lm)) 67 [some (vR 14 0), some (vI (o : Int)), some (vI (a2 : Int)), some (vI ((o + k : Nat) : Int))] [] (im1, rs bt j, lm) := by
      intro fz
      induction fz with
      | zero => intro k im1 h; exact absurd h (Nat.not_lt_zero _)
      | succ fz ih =>
        have ih67 := ih
        intro k im1 hmeas hk hk1 hks
        have hz1 := hk1.1.z
        have hR1 := hk1.1.2.1
        have hz2 := hk1.1.2.2.2.2.1.2
        have hwk := wrapK_1 (-8) r k
        have hle : r.1 ≤ n := h3.1.2.2.2.2.2.1
        refine q_iload_n (t := 68) F dX4_denial_67 rfl rfl rfl ?_
        refine q_iload_n (t := 69) F dX4_denial_68 rfl rfl rfl ?_
        refine q_icmp_ge (t := 72) (u := 87) F dX4_denial_69 (by constructor <;> omega) (by constructor <;> omega) (by decide) rfl (fun c69 => ?_) (fun c69 => ?_)
        · refine q_vret F dX4_denial_87 rfl ?_
          obtain rfl : k = m - m2 := by omega
          exact ⟨rfl, im1, by rw [heq]; exact hk1, rfl⟩
        · refine q_aload_n (t := 73) F dX4_denial_72 rfl rfl rfl ?_
          refine g_X4_15 (t := 76) F dX4_denial_73 rfl rfl ?_
          refine q_bipush (t := 78) F dX4_denial_76 (by decide) rfl ?_
          refine wp_callV (t := 81) [_] F dX4_denial_78 k_X6_add v_X6_add ml_X4_63 rfl rfl rfl rfl (Nat.le_of_ble_eq_true rfl) (by first | exact Nat.le_of_ble_eq_true rfl | (simp only [Y_X4_one, Y_X4_term, Y_X4_sum, Y_X4_denial, Y_X4_both, Y_X4_either, Y_X4_advance, Y_X6_add, Y_X4_at, Y_X4_fail, Y_X4_expect, Y_X4_openAll]; omega)) (m_2 (by omega)) (c_X6_add _ G _ bt j lm j hj _ hz1 hz2 hR1) rfl (kV ?_)
          rintro m' rfl
          refine q_iinc (t := 84) F dX4_denial_81 rfl (by first | decide | exact Nat.le_of_ble_eq_true rfl) rfl rfl ?_
          refine q_goto (t := 67) F dX4_denial_84 (by decide) ?_
          rw [show ((o + k : Nat) : Int) + 1 = ((o + (k + 1) : Nat) : Int) by omega]
          refine ih67 (k + 1) _ (by omega) (by omega) ?_ (fun q => ?_)
          · rw [wrapK_s]
            refine (PO.add (V := fun _ => 0) (s := -8) hn (by constructor <;> omega) hk1 hz (fun q => ?_)).cg rfl rfl rfl
            rw [hwk.2] at q
            have := hks q
            rw [hwk.1]
            omega
          · have := hks q
            rw [addM_c (by omega)]
            omega
    refine L67 _ 0 im3 (Nat.lt_succ_self _) (Nat.zero_le _) h3 (fun q => ?_)
    have q1 := (h3.2.2 q).1
    have q2 := hsl q
    have q3 := h.2.2.2.2.2.2 q2.1
    omega
  refine q_aload_n (t := 1) F dX4_denial_0 rfl rfl rfl ?_
  refine q_bipush (t := 3) F dX4_denial_1 (by decide) rfl ?_
  refine q_iload_n (t := 4) F dX4_denial_3 rfl rfl rfl ?_
  refine wp_callV (t := 7) [_, _] F dX4_denial_4 k_X4_openAll v_X4_openAll ml_X4_69 rfl rfl rfl rfl (Nat.le_of_ble_eq_true rfl) (by first | exact Nat.le_of_ble_eq_true rfl | (simp only [Y_X4_one, Y_X4_term, Y_X4_sum, Y_X4_denial, Y_X4_both, Y_X4_either, Y_X4_advance, Y_X6_add, Y_X4_at, Y_X4_fail, Y_X4_expect, Y_X4_openAll]; omega)) (m_14 (by omega)) (c_X4_openAll _ G im bt j lm b n hb 9 (by omega) (by omega) m o hmo p f h) rfl (kI ?_)
  rintro x4 m' ⟨im2, m2, a2, p2, f2, rfl, hma2, hmm2, hO, hpp, h2, rfl⟩
  have h22 : PR b n j im2 p2 f2 := h2.1
  have hR2 := h22.2.1
  have hp2 : p2 ≤ n := h22.2.2.2.2.2.1
  have g4 : im2 14 0 4 = tk b n p2 := h22.1.2.2.1
  have g6 : im2 14 0 6 = f2 := h22.1.2.2.2.2
  have hti := tk_in b n p2
  refine q_istore_n (t := 8) F dX4_denial_7 rfl (by first | decide | exact Nat.le_of_ble_eq_true rfl) rfl rfl ?_
  refine q_aload_n (t := 9) F dX4_denial_8 rfl rfl rfl ?_
  refine q_iload_n (t := 10) F dX4_denial_9 rfl rfl rfl ?_
  refine wp_callV (t := 13) [_] F dX4_denial_10 (k_X4_sum _) v_X4_sum ml_X4_73 rfl rfl rfl rfl (Nat.le_of_ble_eq_true rfl) (by first | exact Nat.le_of_ble_eq_true rfl | (simp only [Y_X4_one, Y_X4_term, Y_X4_sum, Y_X4_denial, Y_X4_both, Y_X4_either, Y_X4_advance, Y_X6_add, Y_X4_at, Y_X4_fail, Y_X4_expect, Y_X4_openAll]; omega)) (m_14 (by omega)) (hS m2 a2 hma2 hmm2 im2 p2 f2 h22) rfl (kV ?_)
  rintro m' ⟨im3, h3, rfl⟩
  have h33 := h3.1
  have hR3 := h33.2.1
  have k4 : im3 14 0 4 = tk b n (stP (sumL b n m2) p2 f2).1 := h33.1.2.2.1
  have k6 : im3 14 0 6 = (stP (sumL b n m2) p2 f2).2.1 := h33.1.2.2.2.2
  have hti3 := tk_in b n (stP (sumL b n m2) p2 f2).1
  have hr1 : PO b n j im (stP (sumL b n m2) p2 f2) im3 := by
    refine (PO.seq (V := fun _ => 0) hz h2 (fun q => ?_) h3).cg rfl rfl rfl
    refine Classical.byContradiction (fun z => ?_)
    rw [stP_n z] at q
    exact z q
  refine q_aload_n (t := 14) F dX4_denial_13 rfl rfl rfl ?_
  refine q_bipush (t := 16) F dX4_denial_14 (by decide) rfl ?_
  refine wp_callV (t := 19) [_] F dX4_denial_16 k_X4_at v_X4_at ml_X4_47 rfl rfl rfl rfl (Nat.le_of_ble_eq_true rfl) (by first | exact Nat.le_of_ble_eq_true rfl | (simp only [Y_X4_one, Y_X4_term, Y_X4_sum, Y_X4_denial, Y_X4_both, Y_X4_either, Y_X4_advance, Y_X6_add, Y_X4_at, Y_X4_fail, Y_X4_expect, Y_X4_openAll]; omega)) (m_14 (by omega)) (c_X4_at _ G im3 bt j lm hR3 60 (by constructor <;> omega)) rfl (kI ?_)
  rintro x16 m' ⟨hx16, rfl⟩
  have hx16 := if01 hx16
  refine q_if_ne (t := 22) (u := 31) F dX4_denial_19 (by first | exact hR _ _ _ | (constructor <;> omega)) (by decide) rfl (fun c19 => ?_) (fun c19 => ?_)
  · have hq : (stP (sumL b n m2) p2 f2).2.1 = -1 ∧ (tk b n (stP (sumL b n m2) p2 f2).1 = 60 ∨ tk b n (stP (sumL b n m2) p2 f2).1 = 61) := by omega
    refine q_aload_n (t := 32) F dX4_denial_31 rfl rfl rfl ?_
    refine g_X4_54 (t := 35) F dX4_denial_32 rfl rfl ?_
    try simp only [up_app, row_app, scr_app, cpy_app, Nat.reduceEqDiff, Int.reduceToNat, Int.toNat_natCast, and_true, true_and, and_false, false_and, and_self, reduceIte]
    refine q_bipush (t := 37) F dX4_denial_35 (by decide) rfl ?_
    refine q_icmp_ne (t := 40) (u := 45) F dX4_denial_37 (by rw [k4]; constructor <;> omega) (by constructor <;> omega) (by decide) rfl (fun c37 => ?_) (fun c37 => ?_)
    · have hop : opC (tk b n (stP (sumL b n m2) p2 f2).1) = -13 := by unfold opC; rw [if_neg (by omega), if_pos (by omega)]
      refine q_bipush (t := 47) F dX4_denial_45 (by decide) rfl ?_
      refine q_istore_n (t := 48) F dX4_denial_47 rfl (by first | decide | exact Nat.le_of_ble_eq_true rfl) rfl rfl ?_
      refine q_aload_n (t := 49) F dX4_denial_48 rfl rfl rfl ?_
      refine wp_callV (t := 52) [] F dX4_denial_49 k_X4_advance v_X4_advance ml_X4_34 rfl rfl rfl rfl (Nat.le_of_ble_eq_true rfl) (by first | exact Nat.le_of_ble_eq_true rfl | (simp only [Y_X4_one, Y_X4_term, Y_X4_sum, Y_X4_denial, Y_X4_both, Y_X4_either, Y_X4_advance, Y_X6_add, Y_X4_at, Y_X4_fail, Y_X4_expect, Y_X4_openAll]; omega)) (m_14 (by omega)) (c_adv _ G im3 bt j lm b n hb _ _ h33) rfl (kV ?_)
      rintro m' ⟨im4, h4, rfl⟩
      have hlt : (stP (sumL b n m2) p2 f2).1 < n := tk_lt (b := b) (by omega)
      have h4 := h4 hlt
      rw [hq.1] at h4
      refine q_aload_n (t := 53) F dX4_denial_52 rfl rfl rfl ?_
      refine q_iload_n (t := 54) F dX4_denial_53 rfl rfl rfl ?_
      refine wp_callV (t := 57) [_] F dX4_denial_54 (k_X4_sum _) v_X4_sum ml_X4_73 rfl rfl rfl rfl (Nat.le_of_ble_eq_true rfl) (by first | exact Nat.le_of_ble_eq_true rfl | (simp only [Y_X4_one, Y_X4_term, Y_X4_sum, Y_X4_denial, Y_X4_both, Y_X4_either, Y_X4_advance, Y_X6_add, Y_X4_at, Y_X4_fail, Y_X4_expect, Y_X4_openAll]; omega)) (m_14 (by omega)) (hS m2 a2 hma2 hmm2 im4 _ _ h4.1) rfl (kV ?_)
      rintro m' ⟨im5, h5, rfl⟩
      refine q_aload_n (t := 58) F dX4_denial_57 rfl rfl rfl ?_
      refine g_X4_15 (t := 61) F dX4_denial_58 rfl rfl ?_
      refine q_iload_n (t := 62) F dX4_denial_61 rfl rfl rfl ?_
      refine wp_callV (t := 65) [_] F dX4_denial_62 k_X6_add v_X6_add ml_X4_63 rfl rfl rfl rfl (Nat.le_of_ble_eq_true rfl) (by first | exact Nat.le_of_ble_eq_true rfl | (simp only [Y_X4_one, Y_X4_term, Y_X4_sum, Y_X4_denial, Y_X4_both, Y_X4_either, Y_X4_advance, Y_X6_add, Y_X4_at, Y_X4_fail, Y_X4_expect, Y_X4_openAll]; omega)) (m_2 (by omega)) (c_X6_add _ G im5 bt j lm j hj _ h5.1.2.2.2.2.1.1 h5.1.2.2.2.2.1.2 h5.1.2.1) rfl (kV ?_)
      rintro m' rfl
      refine wp_less 3 ?_
      have hf2 : f2 = -1 := by
        refine Classical.byContradiction (fun z => ?_)
        have q1 := hq.1
        rw [stP_n z] at q1
        exact z q1
      have hdx : denX b n (oneL b n m2) p2 = lpS b n opC (sumL b n m2) (stP (sumL b n m2) p2 f2) := by
        have e0 : denX b n (oneL b n m2) p2 = loopP b n opC (sumL b n m2) (0 + 1) (stP (sumL b n m2) p2 f2) := by
          rw [hf2, stP_y]
          rfl
        rw [e0, loopP_y2 hq.1 (by rw [hop]; decide)]
        rfl
      refine T65 m2 a2 p2 _ (lpS b n opC (sumL b n m2) (stP (sumL b n m2) p2 f2)) hma2 hmm2 (LP_step hn hz hr1 hq.1 hop (by constructor <;> omega) hlt h4 (PG_sumL b n m2) h5) ?_ (fun q => ⟨(OAL_f hO hf2).1, ?_⟩) hpp
      · rw [(den_eq hO).1 hf2, hdx]
      · rw [← hdx] at q ⊢
        exact (PG_denX (PG_one b n m2) p2 hp2).2.2.1 q
    · have hop : opC (tk b n (stP (sumL b n m2) p2 f2).1) = -12 := by unfold opC; rw [if_pos (by omega)]
      refine q_bipush (t := 42) F dX4_denial_40 (by decide) rfl ?_
      refine q_goto (t := 47) F dX4_denial_42 (by decide) ?_
      refine q_istore_n (t := 48) F dX4_denial_47 rfl (by first | decide | exact Nat.le_of_ble_eq_true rfl) rfl rfl ?_
      refine q_aload_n (t := 49) F dX4_denial_48 rfl rfl rfl ?_
      refine wp_callV (t := 52) [] F dX4_denial_49 k_X4_advance v_X4_advance ml_X4_34 rfl rfl rfl rfl (Nat.le_of_ble_eq_true rfl) (by first | exact Nat.le_of_ble_eq_true rfl | (simp only [Y_X4_one, Y_X4_term, Y_X4_sum, Y_X4_denial, Y_X4_both, Y_X4_either, Y_X4_advance, Y_X6_add, Y_X4_at, Y_X4_fail, Y_X4_expect, Y_X4_openAll]; omega)) (m_14 (by omega)) (c_adv _ G im3 bt j lm b n hb _ _ h33) rfl (kV ?_)
      rintro m' ⟨im4, h4, rfl⟩
      have hlt : (stP (sumL b n m2) p2 f2).1 < n := tk_lt (b := b) (by omega)
      have h4 := h4 hlt
      rw [hq.1] at h4
      refine q_aload_n (t := 53) F dX4_denial_52 rfl rfl rfl ?_
      refine q_iload_n (t := 54) F dX4_denial_53 rfl rfl rfl ?_
      refine wp_callV (t := 57) [_] F dX4_denial_54 (k_X4_sum _) v_X4_sum ml_X4_73 rfl rfl rfl rfl (Nat.le_of_ble_eq_true rfl) (by first | exact Nat.le_of_ble_eq_true rfl | (simp only [Y_X4_one, Y_X4_term, Y_X4_sum, Y_X4_denial, Y_X4_both, Y_X4_either, Y_X4_advance, Y_X6_add, Y_X4_at, Y_X4_fail, Y_X4_expect, Y_X4_openAll]; omega)) (m_14 (by omega)) (hS m2 a2 hma2 hmm2 im4 _ _ h4.1) rfl (kV ?_)
      rintro m' ⟨im5, h5, rfl⟩
      refine q_aload_n (t := 58) F dX4_denial_57 rfl rfl rfl ?_
      refine g_X4_15 (t := 61) F dX4_denial_58 rfl rfl ?_
      refine q_iload_n (t := 62) F dX4_denial_61 rfl rfl rfl ?_
      refine wp_callV (t := 65) [_] F dX4_denial_62 k_X6_add v_X6_add ml_X4_63 rfl rfl rfl rfl (Nat.le_of_ble_eq_true rfl) (by first | exact Nat.le_of_ble_eq_true rfl | (simp only [Y_X4_one, Y_X4_term, Y_X4_sum, Y_X4_denial, Y_X4_both, Y_X4_either, Y_X4_advance, Y_X6_add, Y_X4_at, Y_X4_fail, Y_X4_expect, Y_X4_openAll]; omega)) (m_2 (by omega)) (c_X6_add _ G im5 bt j lm j hj _ h5.1.2.2.2.2.1.1 h5.1.2.2.2.2.1.2 h5.1.2.1) rfl (kV ?_)
      rintro m' rfl
      refine wp_less 3 ?_
      have hf2 : f2 = -1 := by
        refine Classical.byContradiction (fun z => ?_)
        have q1 := hq.1
        rw [stP_n z] at q1
        exact z q1
      have hdx : denX b n (oneL b n m2) p2 = lpS b n opC (sumL b n m2) (stP (sumL b n m2) p2 f2) := by
        have e0 : denX b n (oneL b n m2) p2 = loopP b n opC (sumL b n m2) (0 + 1) (stP (sumL b n m2) p2 f2) := by
          rw [hf2, stP_y]
          rfl
        rw [e0, loopP_y2 hq.1 (by rw [hop]; decide)]
        rfl
      refine T65 m2 a2 p2 _ (lpS b n opC (sumL b n m2) (stP (sumL b n m2) p2 f2)) hma2 hmm2 (LP_step hn hz hr1 hq.1 hop (by constructor <;> omega) hlt h4 (PG_sumL b n m2) h5) ?_ (fun q => ⟨(OAL_f hO hf2).1, ?_⟩) hpp
      · rw [(den_eq hO).1 hf2, hdx]
      · rw [← hdx] at q ⊢
        exact (PG_denX (PG_one b n m2) p2 hp2).2.2.1 q
  · refine q_aload_n (t := 23) F dX4_denial_22 rfl rfl rfl ?_
    refine q_bipush (t := 25) F dX4_denial_23 (by decide) rfl ?_
    refine wp_callV (t := 28) [_] F dX4_denial_25 k_X4_at v_X4_at ml_X4_47 rfl rfl rfl rfl (Nat.le_of_ble_eq_true rfl) (by first | exact Nat.le_of_ble_eq_true rfl | (simp only [Y_X4_one, Y_X4_term, Y_X4_sum, Y_X4_denial, Y_X4_both, Y_X4_either, Y_X4_advance, Y_X6_add, Y_X4_at, Y_X4_fail, Y_X4_expect, Y_X4_openAll]; omega)) (m_14 (by omega)) (c_X4_at _ G im3 bt j lm hR3 61 (by constructor <;> omega)) rfl (kI ?_)
    rintro x25 m' ⟨hx25, rfl⟩
    have hx25 := if01 hx25
    refine q_if_eq (t := 31) (u := 65) F dX4_denial_28 (by first | exact hR _ _ _ | (constructor <;> omega)) (by decide) rfl (fun c28 => ?_) (fun c28 => ?_)
    · have hnl : loopP b n opC (sumL b n m2) 1 (stP (sumL b n m2) p2 f2) = stP (sumL b n m2) p2 f2 := by
        refine loopP_n (fun q => ?_)
        have q1 := q.1
        have q2 := q.2
        unfold opC at q2
        rw [if_neg (by omega), if_neg (by omega)] at q2
        exact q2 rfl
      by_cases hf2 : f2 = -1
      · refine T65 m2 a2 p2 im3 (stP (sumL b n m2) p2 f2) hma2 hmm2 hr1 ?_ (fun q => ⟨(OAL_f hO hf2).1, ?_⟩) hpp
        · rw [(den_eq hO).1 hf2, ← hnl, hf2, stP_y]
          rfl
        · rw [hf2, stP_y] at q ⊢
          exact (PG_sumL b n m2 p2 hp2).2.2.1 q
      · rw [stP_n hf2] at hr1
        exact T65 m2 a2 p2 im3 (p2, f2, [], fun _ => 0) hma2 hmm2 hr1 ((den_eq hO).2 hf2) (fun q => absurd q hf2) hpp
    · have hq : (stP (sumL b n m2) p2 f2).2.1 = -1 ∧ (tk b n (stP (sumL b n m2) p2 f2).1 = 60 ∨ tk b n (stP (sumL b n m2) p2 f2).1 = 61) := by omega
      refine q_aload_n (t := 32) F dX4_denial_31 rfl rfl rfl ?_
      refine g_X4_54 (t := 35) F dX4_denial_32 rfl rfl ?_
      try simp only [up_app, row_app, scr_app, cpy_app, Nat.reduceEqDiff, Int.reduceToNat, Int.toNat_natCast, and_true, true_and, and_false, false_and, and_self, reduceIte]
      refine q_bipush (t := 37) F dX4_denial_35 (by decide) rfl ?_
      refine q_icmp_ne (t := 40) (u := 45) F dX4_denial_37 (by rw [k4]; constructor <;> omega) (by constructor <;> omega) (by decide) rfl (fun c37 => ?_) (fun c37 => ?_)
      · have hop : opC (tk b n (stP (sumL b n m2) p2 f2).1) = -13 := by unfold opC; rw [if_neg (by omega), if_pos (by omega)]
        refine q_bipush (t := 47) F dX4_denial_45 (by decide) rfl ?_
        refine q_istore_n (t := 48) F dX4_denial_47 rfl (by first | decide | exact Nat.le_of_ble_eq_true rfl) rfl rfl ?_
        refine q_aload_n (t := 49) F dX4_denial_48 rfl rfl rfl ?_
        refine wp_callV (t := 52) [] F dX4_denial_49 k_X4_advance v_X4_advance ml_X4_34 rfl rfl rfl rfl (Nat.le_of_ble_eq_true rfl) (by first | exact Nat.le_of_ble_eq_true rfl | (simp only [Y_X4_one, Y_X4_term, Y_X4_sum, Y_X4_denial, Y_X4_both, Y_X4_either, Y_X4_advance, Y_X6_add, Y_X4_at, Y_X4_fail, Y_X4_expect, Y_X4_openAll]; omega)) (m_14 (by omega)) (c_adv _ G im3 bt j lm b n hb _ _ h33) rfl (kV ?_)
        rintro m' ⟨im4, h4, rfl⟩
        have hlt : (stP (sumL b n m2) p2 f2).1 < n := tk_lt (b := b) (by omega)
        have h4 := h4 hlt
        rw [hq.1] at h4
        refine q_aload_n (t := 53) F dX4_denial_52 rfl rfl rfl ?_
        refine q_iload_n (t := 54) F dX4_denial_53 rfl rfl rfl ?_
        refine wp_callV (t := 57) [_] F dX4_denial_54 (k_X4_sum _) v_X4_sum ml_X4_73 rfl rfl rfl rfl (Nat.le_of_ble_eq_true rfl) (by first | exact Nat.le_of_ble_eq_true rfl | (simp only [Y_X4_one, Y_X4_term, Y_X4_sum, Y_X4_denial, Y_X4_both, Y_X4_either, Y_X4_advance, Y_X6_add, Y_X4_at, Y_X4_fail, Y_X4_expect, Y_X4_openAll]; omega)) (m_14 (by omega)) (hS m2 a2 hma2 hmm2 im4 _ _ h4.1) rfl (kV ?_)
        rintro m' ⟨im5, h5, rfl⟩
        refine q_aload_n (t := 58) F dX4_denial_57 rfl rfl rfl ?_
        refine g_X4_15 (t := 61) F dX4_denial_58 rfl rfl ?_
        refine q_iload_n (t := 62) F dX4_denial_61 rfl rfl rfl ?_
        refine wp_callV (t := 65) [_] F dX4_denial_62 k_X6_add v_X6_add ml_X4_63 rfl rfl rfl rfl (Nat.le_of_ble_eq_true rfl) (by first | exact Nat.le_of_ble_eq_true rfl | (simp only [Y_X4_one, Y_X4_term, Y_X4_sum, Y_X4_denial, Y_X4_both, Y_X4_either, Y_X4_advance, Y_X6_add, Y_X4_at, Y_X4_fail, Y_X4_expect, Y_X4_openAll]; omega)) (m_2 (by omega)) (c_X6_add _ G im5 bt j lm j hj _ h5.1.2.2.2.2.1.1 h5.1.2.2.2.2.1.2 h5.1.2.1) rfl (kV ?_)
        rintro m' rfl
        refine wp_less 3 ?_
        have hf2 : f2 = -1 := by
          refine Classical.byContradiction (fun z => ?_)
          have q1 := hq.1
          rw [stP_n z] at q1
          exact z q1
        have hdx : denX b n (oneL b n m2) p2 = lpS b n opC (sumL b n m2) (stP (sumL b n m2) p2 f2) := by
          have e0 : denX b n (oneL b n m2) p2 = loopP b n opC (sumL b n m2) (0 + 1) (stP (sumL b n m2) p2 f2) := by
            rw [hf2, stP_y]
            rfl
          rw [e0, loopP_y2 hq.1 (by rw [hop]; decide)]
          rfl
        refine T65 m2 a2 p2 _ (lpS b n opC (sumL b n m2) (stP (sumL b n m2) p2 f2)) hma2 hmm2 (LP_step hn hz hr1 hq.1 hop (by constructor <;> omega) hlt h4 (PG_sumL b n m2) h5) ?_ (fun q => ⟨(OAL_f hO hf2).1, ?_⟩) hpp
        · rw [(den_eq hO).1 hf2, hdx]
        · rw [← hdx] at q ⊢
          exact (PG_denX (PG_one b n m2) p2 hp2).2.2.1 q
      · have hop : opC (tk b n (stP (sumL b n m2) p2 f2).1) = -12 := by unfold opC; rw [if_pos (by omega)]
        refine q_bipush (t := 42) F dX4_denial_40 (by decide) rfl ?_
        refine q_goto (t := 47) F dX4_denial_42 (by decide) ?_
        refine q_istore_n (t := 48) F dX4_denial_47 rfl (by first | decide | exact Nat.le_of_ble_eq_true rfl) rfl rfl ?_
        refine q_aload_n (t := 49) F dX4_denial_48 rfl rfl rfl ?_
        refine wp_callV (t := 52) [] F dX4_denial_49 k_X4_advance v_X4_advance ml_X4_34 rfl rfl rfl rfl (Nat.le_of_ble_eq_true rfl) (by first | exact Nat.le_of_ble_eq_true rfl | (simp only [Y_X4_one, Y_X4_term, Y_X4_sum, Y_X4_denial, Y_X4_both, Y_X4_either, Y_X4_advance, Y_X6_add, Y_X4_at, Y_X4_fail, Y_X4_expect, Y_X4_openAll]; omega)) (m_14 (by omega)) (c_adv _ G im3 bt j lm b n hb _ _ h33) rfl (kV ?_)
        rintro m' ⟨im4, h4, rfl⟩
        have hlt : (stP (sumL b n m2) p2 f2).1 < n := tk_lt (b := b) (by omega)
        have h4 := h4 hlt
        rw [hq.1] at h4
        refine q_aload_n (t := 53) F dX4_denial_52 rfl rfl rfl ?_
        refine q_iload_n (t := 54) F dX4_denial_53 rfl rfl rfl ?_
        refine wp_callV (t := 57) [_] F dX4_denial_54 (k_X4_sum _) v_X4_sum ml_X4_73 rfl rfl rfl rfl (Nat.le_of_ble_eq_true rfl) (by first | exact Nat.le_of_ble_eq_true rfl | (simp only [Y_X4_one, Y_X4_term, Y_X4_sum, Y_X4_denial, Y_X4_both, Y_X4_either, Y_X4_advance, Y_X6_add, Y_X4_at, Y_X4_fail, Y_X4_expect, Y_X4_openAll]; omega)) (m_14 (by omega)) (hS m2 a2 hma2 hmm2 im4 _ _ h4.1) rfl (kV ?_)
        rintro m' ⟨im5, h5, rfl⟩
        refine q_aload_n (t := 58) F dX4_denial_57 rfl rfl rfl ?_
        refine g_X4_15 (t := 61) F dX4_denial_58 rfl rfl ?_
        refine q_iload_n (t := 62) F dX4_denial_61 rfl rfl rfl ?_
        refine wp_callV (t := 65) [_] F dX4_denial_62 k_X6_add v_X6_add ml_X4_63 rfl rfl rfl rfl (Nat.le_of_ble_eq_true rfl) (by first | exact Nat.le_of_ble_eq_true rfl | (simp only [Y_X4_one, Y_X4_term, Y_X4_sum, Y_X4_denial, Y_X4_both, Y_X4_either, Y_X4_advance, Y_X6_add, Y_X4_at, Y_X4_fail, Y_X4_expect, Y_X4_openAll]; omega)) (m_2 (by omega)) (c_X6_add _ G im5 bt j lm j hj _ h5.1.2.2.2.2.1.1 h5.1.2.2.2.2.1.2 h5.1.2.1) rfl (kV ?_)
        rintro m' rfl
        refine wp_less 3 ?_
        have hf2 : f2 = -1 := by
          refine Classical.byContradiction (fun z => ?_)
          have q1 := hq.1
          rw [stP_n z] at q1
          exact z q1
        have hdx : denX b n (oneL b n m2) p2 = lpS b n opC (sumL b n m2) (stP (sumL b n m2) p2 f2) := by
          have e0 : denX b n (oneL b n m2) p2 = loopP b n opC (sumL b n m2) (0 + 1) (stP (sumL b n m2) p2 f2) := by
            rw [hf2, stP_y]
            rfl
          rw [e0, loopP_y2 hq.1 (by rw [hop]; decide)]
          rfl
        refine T65 m2 a2 p2 _ (lpS b n opC (sumL b n m2) (stP (sumL b n m2) p2 f2)) hma2 hmm2 (LP_step hn hz hr1 hq.1 hop (by constructor <;> omega) hlt h4 (PG_sumL b n m2) h5) ?_ (fun q => ⟨(OAL_f hO hf2).1, ?_⟩) hpp
        · rw [(den_eq hO).1 hf2, hdx]
        · rw [← hdx] at q ⊢
          exact (PG_denX (PG_one b n m2) p2 hp2).2.2.1 q

set_option maxHeartbeats 4000000 in
theorem c_X4_both (l : Launch) (G : GS) (im : IM) (bt j : Nat) (lm : IM) (hj : j < 6) (b : Nat → Int) (n : Nat) (hb : byt b n) (m o : Nat) (hmo : m + o = 5) (hO : CT l G bt j lm b n yX4_denial (Y_X4_denial o) (denL b n m) o) (p : Nat) (f : Int) (h : PR b n j im p f) : Cn l (XC G) yX4_both (Y_X4_both o) [vR 14 0, vI (o : Int)] (im, rs bt j, lm) (pV fun m' => ∃ im', PO b n j im (stP (bothL b n m) p f) im' ∧ m' = (im', rs bt j, lm)) := by
  refine cn_of (by decide) (okC G) rfl (Nat.le_of_ble_eq_true rfl) ?_
  intro M ad hMl F
  subst hMl
  have hn := hb.1
  have hR := h.2.1
  have hz := h.z
  refine wp_pad 1 ?_
  show Wp M (XC G) ad (Y_X4_both o) (pV fun m' => ∃ im', PO b n j im (stP (bothL b n m) p f) im' ∧ m' = (im', rs bt j, lm)) 0 [some (vR 14 0), some (vI (o : Int)), none] [] (im, rs bt j, lm)
  refine q_aload_n (t := 1) F dX4_both_0 rfl rfl rfl ?_
  refine q_iload_n (t := 2) F dX4_both_1 rfl rfl rfl ?_
  refine wp_callV (t := 5) [_] F dX4_both_2 (k_X4_denial _) v_X4_denial ml_X4_66 rfl rfl rfl rfl (Nat.le_of_ble_eq_true rfl) (by first | exact Nat.le_of_ble_eq_true rfl | (simp only [Y_X4_one, Y_X4_term, Y_X4_sum, Y_X4_denial, Y_X4_both, Y_X4_either, Y_X4_advance, Y_X6_add, Y_X4_at, Y_X4_fail, Y_X4_expect, Y_X4_openAll]; omega)) (m_14 (by omega)) (hO im p f h) rfl (kV ?_)
  rintro m' ⟨im0, h0, rfl⟩
  refine q_iconst (t := 6) F dX4_both_5 rfl ?_
  refine q_istore_n (t := 7) F dX4_both_6 rfl (by first | decide | exact Nat.le_of_ble_eq_true rfl) rfl rfl ?_
  have L7 : ∀ (fz : Nat) (i : Nat) (r : PT) (im1 : IM), 160 - i < fz → i ≤ 160 → loopP b n opA (denL b n m) 160 (stP (denL b n m) p f) = loopP b n opA (denL b n m) (160 - i) r → PO b n j im r im1 → Wp M (XC G) ad (Y_X4_both o) (pV fun m' => ∃ im', PO b n j im (stP (bothL b n m) p f) im' ∧ m' = (im', rs bt j, lm)) 7 [some (vR 14 0), some (vI (o : Int)), some (vI (i : Int))] [] (im1, rs bt j, lm) := by
    intro fz
    induction fz with
    | zero => intro i r im1 h; exact absurd h (Nat.not_lt_zero _)
    | succ fz ih =>
      have ih7 := ih
      intro i r im1 hmeas hi hlp hr
      have h11 : PR b n j im1 r.1 r.2.1 := hr.1
      have hR1 := h11.2.1
      have g4 : im1 14 0 4 = tk b n r.1 := h11.1.2.2.1
      have g6 : im1 14 0 6 = r.2.1 := h11.1.2.2.2.2
      have hti := tk_in b n r.1
      refine q_iload_n (t := 8) F dX4_both_7 rfl rfl rfl ?_
      refine q_sipush (t := 11) F dX4_both_8 (by decide) rfl ?_
      refine q_icmp_ge (t := 14) (u := 47) F dX4_both_11 (by constructor <;> omega) (by constructor <;> omega) (by decide) rfl (fun c11 => ?_) (fun c11 => ?_)
      · refine q_vret F dX4_both_47 rfl ?_
        have e : stP (bothL b n m) p f = r := by
          have e0 : stP (bothL b n m) p f = loopP b n opA (denL b n m) 160 (stP (denL b n m) p f) := stP_loop (F := denL b n m) (k := 160)
          rw [e0, hlp]
          first
            | (rw [show 160 - i = 0 by omega]; rfl)
            | (refine loopP_n (fun q => ?_)
               have q2 := q.2
               unfold opA at q2
               rw [if_neg (by omega)] at q2
               exact q2 rfl)
        exact ⟨rfl, im1, by rw [e]; exact hr, rfl⟩
      · refine q_aload_n (t := 15) F dX4_both_14 rfl rfl rfl ?_
        refine q_bipush (t := 17) F dX4_both_15 (by decide) rfl ?_
        refine wp_callV (t := 20) [_] F dX4_both_17 k_X4_at v_X4_at ml_X4_47 rfl rfl rfl rfl (Nat.le_of_ble_eq_true rfl) (by first | exact Nat.le_of_ble_eq_true rfl | (simp only [Y_X4_one, Y_X4_term, Y_X4_sum, Y_X4_denial, Y_X4_both, Y_X4_either, Y_X4_advance, Y_X6_add, Y_X4_at, Y_X4_fail, Y_X4_expect, Y_X4_openAll]; omega)) (m_14 (by omega)) (c_X4_at _ G im1 bt j lm hR1 8 (by constructor <;> omega)) rfl (kI ?_)
        rintro x17 m' ⟨hx17, rfl⟩
        have hx17 := if01 hx17
        refine q_if_eq (t := 23) (u := 47) F dX4_both_20 (by first | exact hR _ _ _ | (constructor <;> omega)) (by decide) rfl (fun c20 => ?_) (fun c20 => ?_)
        · refine q_vret F dX4_both_47 rfl ?_
          have e : stP (bothL b n m) p f = r := by
            have e0 : stP (bothL b n m) p f = loopP b n opA (denL b n m) 160 (stP (denL b n m) p f) := stP_loop (F := denL b n m) (k := 160)
            rw [e0, hlp]
            first
              | (rw [show 160 - i = 0 by omega]; rfl)
              | (refine loopP_n (fun q => ?_)
                 have q2 := q.2
                 unfold opA at q2
                 rw [if_neg (by omega)] at q2
                 exact q2 rfl)
          exact ⟨rfl, im1, by rw [e]; exact hr, rfl⟩
        · refine q_aload_n (t := 24) F dX4_both_23 rfl rfl rfl ?_
          refine wp_callV (t := 27) [] F dX4_both_24 k_X4_advance v_X4_advance ml_X4_34 rfl rfl rfl rfl (Nat.le_of_ble_eq_true rfl) (by first | exact Nat.le_of_ble_eq_true rfl | (simp only [Y_X4_one, Y_X4_term, Y_X4_sum, Y_X4_denial, Y_X4_both, Y_X4_either, Y_X4_advance, Y_X6_add, Y_X4_at, Y_X4_fail, Y_X4_expect, Y_X4_openAll]; omega)) (m_14 (by omega)) (c_adv _ G im1 bt j lm b n hb r.1 r.2.1 h11) rfl (kV ?_)
          rintro m' ⟨im2, h2, rfl⟩
          have hq : r.2.1 = -1 ∧ tk b n r.1 = 8 := by omega
          have hlt : r.1 < n := tk_lt (b := b) (by omega)
          have h2 := h2 hlt
          rw [hq.1] at h2
          have hop : opA (tk b n r.1) = -14 := by unfold opA; rw [if_pos hq.2]
          refine q_aload_n (t := 28) F dX4_both_27 rfl rfl rfl ?_
          refine q_iload_n (t := 29) F dX4_both_28 rfl rfl rfl ?_
          refine wp_callV (t := 32) [_] F dX4_both_29 (k_X4_denial _) v_X4_denial ml_X4_66 rfl rfl rfl rfl (Nat.le_of_ble_eq_true rfl) (by first | exact Nat.le_of_ble_eq_true rfl | (simp only [Y_X4_one, Y_X4_term, Y_X4_sum, Y_X4_denial, Y_X4_both, Y_X4_either, Y_X4_advance, Y_X6_add, Y_X4_at, Y_X4_fail, Y_X4_expect, Y_X4_openAll]; omega)) (m_14 (by omega)) (hO im2 (adv b n r.1) (-1) h2.1) rfl (kV ?_)
          rintro m' ⟨im3, h3, rfl⟩
          refine q_aload_n (t := 33) F dX4_both_32 rfl rfl rfl ?_
          refine g_X4_15 (t := 36) F dX4_both_33 rfl rfl ?_
          refine q_bipush (t := 38) F dX4_both_36 (by decide) rfl ?_
          refine wp_callV (t := 41) [_] F dX4_both_38 k_X6_add v_X6_add ml_X4_63 rfl rfl rfl rfl (Nat.le_of_ble_eq_true rfl) (by first | exact Nat.le_of_ble_eq_true rfl | (simp only [Y_X4_one, Y_X4_term, Y_X4_sum, Y_X4_denial, Y_X4_both, Y_X4_either, Y_X4_advance, Y_X6_add, Y_X4_at, Y_X4_fail, Y_X4_expect, Y_X4_openAll]; omega)) (m_2 (by omega)) (c_X6_add _ G im3 bt j lm j hj _ h3.1.2.2.2.2.1.1 h3.1.2.2.2.2.1.2 h3.1.2.1) rfl (kV ?_)
          rintro m' rfl
          refine q_iinc (t := 44) F dX4_both_41 rfl (by first | decide | exact Nat.le_of_ble_eq_true rfl) rfl rfl ?_
          refine q_goto (t := 7) F dX4_both_44 (by decide) ?_
          refine ih7 (i + 1) (lpS b n opA (denL b n m) r) (addM im3 j (-14)) (by omega) (by omega) ?_ (LP_step hn hz hr hq.1 hop (by constructor <;> omega) hlt h2 (PG_den b n m) h3)
          rw [hlp, show 160 - i = (160 - (i + 1)) + 1 by omega, loopP_y2 hq.1 (by rw [hop]; decide)]
  exact L7 _ 0 _ im0 (Nat.lt_succ_self _) (Nat.zero_le _) rfl h0

set_option maxHeartbeats 4000000 in
theorem c_X4_either (l : Launch) (G : GS) (im : IM) (bt j : Nat) (lm : IM) (hj : j < 6) (b : Nat → Int) (n : Nat) (hb : byt b n) (m o : Nat) (hmo : m + o = 5) (hO : CT l G bt j lm b n yX4_both (Y_X4_both o) (bothL b n m) o) (p : Nat) (f : Int) (h : PR b n j im p f) : Cn l (XC G) yX4_either (Y_X4_either o) [vR 14 0, vI (o : Int)] (im, rs bt j, lm) (pV fun m' => ∃ im', PO b n j im (stP (eitL b n m) p f) im' ∧ m' = (im', rs bt j, lm)) := by
  refine cn_of (by decide) (okC G) rfl (Nat.le_of_ble_eq_true rfl) ?_
  intro M ad hMl F
  subst hMl
  have hn := hb.1
  have hR := h.2.1
  have hz := h.z
  refine wp_pad 1 ?_
  show Wp M (XC G) ad (Y_X4_either o) (pV fun m' => ∃ im', PO b n j im (stP (eitL b n m) p f) im' ∧ m' = (im', rs bt j, lm)) 0 [some (vR 14 0), some (vI (o : Int)), none] [] (im, rs bt j, lm)
  refine q_aload_n (t := 1) F dX4_either_0 rfl rfl rfl ?_
  refine q_iload_n (t := 2) F dX4_either_1 rfl rfl rfl ?_
  refine wp_callV (t := 5) [_] F dX4_either_2 (k_X4_both _) v_X4_both ml_X4_60 rfl rfl rfl rfl (Nat.le_of_ble_eq_true rfl) (by first | exact Nat.le_of_ble_eq_true rfl | (simp only [Y_X4_one, Y_X4_term, Y_X4_sum, Y_X4_denial, Y_X4_both, Y_X4_either, Y_X4_advance, Y_X6_add, Y_X4_at, Y_X4_fail, Y_X4_expect, Y_X4_openAll]; omega)) (m_14 (by omega)) (hO im p f h) rfl (kV ?_)
  rintro m' ⟨im0, h0, rfl⟩
  refine q_iconst (t := 6) F dX4_either_5 rfl ?_
  refine q_istore_n (t := 7) F dX4_either_6 rfl (by first | decide | exact Nat.le_of_ble_eq_true rfl) rfl rfl ?_
  have L7 : ∀ (fz : Nat) (i : Nat) (r : PT) (im1 : IM), 160 - i < fz → i ≤ 160 → loopP b n opO (bothL b n m) 160 (stP (bothL b n m) p f) = loopP b n opO (bothL b n m) (160 - i) r → PO b n j im r im1 → Wp M (XC G) ad (Y_X4_either o) (pV fun m' => ∃ im', PO b n j im (stP (eitL b n m) p f) im' ∧ m' = (im', rs bt j, lm)) 7 [some (vR 14 0), some (vI (o : Int)), some (vI (i : Int))] [] (im1, rs bt j, lm) := by
    intro fz
    induction fz with
    | zero => intro i r im1 h; exact absurd h (Nat.not_lt_zero _)
    | succ fz ih =>
      have ih7 := ih
      intro i r im1 hmeas hi hlp hr
      have h11 : PR b n j im1 r.1 r.2.1 := hr.1
      have hR1 := h11.2.1
      have g4 : im1 14 0 4 = tk b n r.1 := h11.1.2.2.1
      have g6 : im1 14 0 6 = r.2.1 := h11.1.2.2.2.2
      have hti := tk_in b n r.1
      refine q_iload_n (t := 8) F dX4_either_7 rfl rfl rfl ?_
      refine q_sipush (t := 11) F dX4_either_8 (by decide) rfl ?_
      refine q_icmp_ge (t := 14) (u := 47) F dX4_either_11 (by constructor <;> omega) (by constructor <;> omega) (by decide) rfl (fun c11 => ?_) (fun c11 => ?_)
      · refine q_vret F dX4_either_47 rfl ?_
        have e : stP (eitL b n m) p f = r := by
          have e0 : stP (eitL b n m) p f = loopP b n opO (bothL b n m) 160 (stP (bothL b n m) p f) := stP_loop (F := bothL b n m) (k := 160)
          rw [e0, hlp]
          first
            | (rw [show 160 - i = 0 by omega]; rfl)
            | (refine loopP_n (fun q => ?_)
               have q2 := q.2
               unfold opO at q2
               rw [if_neg (by omega)] at q2
               exact q2 rfl)
        exact ⟨rfl, im1, by rw [e]; exact hr, rfl⟩
      · refine q_aload_n (t := 15) F dX4_either_14 rfl rfl rfl ?_
        refine q_bipush (t := 17) F dX4_either_15 (by decide) rfl ?_
        refine wp_callV (t := 20) [_] F dX4_either_17 k_X4_at v_X4_at ml_X4_47 rfl rfl rfl rfl (Nat.le_of_ble_eq_true rfl) (by first | exact Nat.le_of_ble_eq_true rfl | (simp only [Y_X4_one, Y_X4_term, Y_X4_sum, Y_X4_denial, Y_X4_both, Y_X4_either, Y_X4_advance, Y_X6_add, Y_X4_at, Y_X4_fail, Y_X4_expect, Y_X4_openAll]; omega)) (m_14 (by omega)) (c_X4_at _ G im1 bt j lm hR1 7 (by constructor <;> omega)) rfl (kI ?_)
        rintro x17 m' ⟨hx17, rfl⟩
        have hx17 := if01 hx17
        refine q_if_eq (t := 23) (u := 47) F dX4_either_20 (by first | exact hR _ _ _ | (constructor <;> omega)) (by decide) rfl (fun c20 => ?_) (fun c20 => ?_)
        · refine q_vret F dX4_either_47 rfl ?_
          have e : stP (eitL b n m) p f = r := by
            have e0 : stP (eitL b n m) p f = loopP b n opO (bothL b n m) 160 (stP (bothL b n m) p f) := stP_loop (F := bothL b n m) (k := 160)
            rw [e0, hlp]
            first
              | (rw [show 160 - i = 0 by omega]; rfl)
              | (refine loopP_n (fun q => ?_)
                 have q2 := q.2
                 unfold opO at q2
                 rw [if_neg (by omega)] at q2
                 exact q2 rfl)
          exact ⟨rfl, im1, by rw [e]; exact hr, rfl⟩
        · refine q_aload_n (t := 24) F dX4_either_23 rfl rfl rfl ?_
          refine wp_callV (t := 27) [] F dX4_either_24 k_X4_advance v_X4_advance ml_X4_34 rfl rfl rfl rfl (Nat.le_of_ble_eq_true rfl) (by first | exact Nat.le_of_ble_eq_true rfl | (simp only [Y_X4_one, Y_X4_term, Y_X4_sum, Y_X4_denial, Y_X4_both, Y_X4_either, Y_X4_advance, Y_X6_add, Y_X4_at, Y_X4_fail, Y_X4_expect, Y_X4_openAll]; omega)) (m_14 (by omega)) (c_adv _ G im1 bt j lm b n hb r.1 r.2.1 h11) rfl (kV ?_)
          rintro m' ⟨im2, h2, rfl⟩
          have hq : r.2.1 = -1 ∧ tk b n r.1 = 7 := by omega
          have hlt : r.1 < n := tk_lt (b := b) (by omega)
          have h2 := h2 hlt
          rw [hq.1] at h2
          have hop : opO (tk b n r.1) = -15 := by unfold opO; rw [if_pos hq.2]
          refine q_aload_n (t := 28) F dX4_either_27 rfl rfl rfl ?_
          refine q_iload_n (t := 29) F dX4_either_28 rfl rfl rfl ?_
          refine wp_callV (t := 32) [_] F dX4_either_29 (k_X4_both _) v_X4_both ml_X4_60 rfl rfl rfl rfl (Nat.le_of_ble_eq_true rfl) (by first | exact Nat.le_of_ble_eq_true rfl | (simp only [Y_X4_one, Y_X4_term, Y_X4_sum, Y_X4_denial, Y_X4_both, Y_X4_either, Y_X4_advance, Y_X6_add, Y_X4_at, Y_X4_fail, Y_X4_expect, Y_X4_openAll]; omega)) (m_14 (by omega)) (hO im2 (adv b n r.1) (-1) h2.1) rfl (kV ?_)
          rintro m' ⟨im3, h3, rfl⟩
          refine q_aload_n (t := 33) F dX4_either_32 rfl rfl rfl ?_
          refine g_X4_15 (t := 36) F dX4_either_33 rfl rfl ?_
          refine q_bipush (t := 38) F dX4_either_36 (by decide) rfl ?_
          refine wp_callV (t := 41) [_] F dX4_either_38 k_X6_add v_X6_add ml_X4_63 rfl rfl rfl rfl (Nat.le_of_ble_eq_true rfl) (by first | exact Nat.le_of_ble_eq_true rfl | (simp only [Y_X4_one, Y_X4_term, Y_X4_sum, Y_X4_denial, Y_X4_both, Y_X4_either, Y_X4_advance, Y_X6_add, Y_X4_at, Y_X4_fail, Y_X4_expect, Y_X4_openAll]; omega)) (m_2 (by omega)) (c_X6_add _ G im3 bt j lm j hj _ h3.1.2.2.2.2.1.1 h3.1.2.2.2.2.1.2 h3.1.2.1) rfl (kV ?_)
          rintro m' rfl
          refine q_iinc (t := 44) F dX4_either_41 rfl (by first | decide | exact Nat.le_of_ble_eq_true rfl) rfl rfl ?_
          refine q_goto (t := 7) F dX4_either_44 (by decide) ?_
          refine ih7 (i + 1) (lpS b n opO (bothL b n m) r) (addM im3 j (-15)) (by omega) (by omega) ?_ (LP_step hn hz hr hq.1 hop (by constructor <;> omega) hlt h2 (PG_bothL b n m) h3)
          rw [hlp, show 160 - i = (160 - (i + 1)) + 1 by omega, loopP_y2 hq.1 (by rw [hop]; decide)]
  exact L7 _ 0 _ im0 (Nat.lt_succ_self _) (Nat.zero_le _) rfl h0

/-- all six, wherever they stand -/
theorem c_gram (l : Launch) (G : GS) (bt j : Nat) (lm : IM) (hj : j < 6) (b : Nat → Int) (n : Nat) (hb : byt b n) : ∀ (m o : Nat), m + o = 5 → CT l G bt j lm b n yX4_sum (Y_X4_sum o) (sumL b n m) o ∧ CT l G bt j lm b n yX4_either (Y_X4_either o) (eitL b n m) o := by
  intro m
  induction m using Nat.strongRecOn with
  | _ m ih =>
    intro o hmo
    have h1 : CT l G bt j lm b n yX4_one (Y_X4_one o) (oneL b n m) o := fun im p f h => c_X4_one l G im bt j lm hj b n hb m o hmo (fun m2 o2 h2 h3 => (ih m2 h3 o2 h2).2) p f h
    have h2 : CT l G bt j lm b n yX4_term (Y_X4_term o) (termL b n m) o := fun im p f h => c_X4_term l G im bt j lm hj b n hb m o hmo h1 p f h
    have h3 : CT l G bt j lm b n yX4_sum (Y_X4_sum o) (sumL b n m) o := fun im p f h => c_X4_sum l G im bt j lm hj b n hb m o hmo h2 p f h
    have h4 : CT l G bt j lm b n yX4_denial (Y_X4_denial o) (denL b n m) o := fun im p f h => c_X4_denial l G im bt j lm hj b n hb m o hmo (fun m2 o2 k1 k2 => by
      by_cases hm : m2 = m
      · subst hm
        obtain rfl : o2 = o := by omega
        exact h3
      · exact (ih m2 (by omega) o2 k1).1) p f h
    have h5 : CT l G bt j lm b n yX4_both (Y_X4_both o) (bothL b n m) o := fun im p f h => c_X4_both l G im bt j lm hj b n hb m o hmo h4 p f h
    exact ⟨h3, fun im p f h => c_X4_either l G im bt j lm hj b n hb m o hmo h5 p f h⟩
end
section
/-! reading the tape -/
def rdk (b : Nat → Int) (n : Nat) : Nat → PT
  | 0 => (span isW b n 0, -1, [], fun _ => 0)
  | k + 1 => stP (partP b n (4 + (k : Int))) (rdk b n k).1 (rdk b n k).2.1
def stL (b : Nat → Int) (n : Nat) : Nat → List Int
  | 0 => []
  | k + 1 => stL b n k ++ (rdk b n (k + 1)).2.2.1
theorem rdk_1 (b : Nat → Int) (n : Nat) : rdk b n 1 = rd0 b n := stP_y
theorem rdk_2 (b : Nat → Int) (n : Nat) : rdk b n 2 = rd1 b n := by
  show stP (partP b n 5) (rdk b n 1).1 (rdk b n 1).2.1 = _
  rw [rdk_1]
  rfl
theorem rdk_3 (b : Nat → Int) (n : Nat) : rdk b n 3 = rd2 b n := by
  show stP (partP b n 6) (rdk b n 2).1 (rdk b n 2).2.1 = _
  rw [rdk_2]
  rfl
/-- the steps so far -/
def TS (j : Nat) (L : List Int) (im : IM) : Prop := im 2 j 3 = L.length ∧ ∀ s : Nat, s < L.length → im 3 j s = L.getD s 0
theorem TS.app {j : Nat} {a c : IM} {L L2 : List Int} (h : TS j L a) (h2 : ap j a L2 c) : TS j (L ++ L2) c := by
  have e := h.1
  have e2 := h2.1
  refine ⟨by rw [List.length_append]; omega, fun s hs => ?_⟩
  rw [List.length_append] at hs
  rw [List.getD_eq_getElem?_getD]
  by_cases hl : s < L.length
  · rw [List.getElem?_append_left hl, ← List.getD_eq_getElem?_getD, h2.2.1 _ (by omega)]
    exact h.2 s hl
  · rw [List.getElem?_append_right (by omega), ← List.getD_eq_getElem?_getD]
    have h3 := h2.2.2 (s - L.length) (by omega)
    rw [show (a 2 j 3).toNat + (s - L.length) = s by omega] at h3
    exact h3
theorem part_eq (b : Nat → Int) (n : Nat) (key : Int) (p : Nat) (f : Int) : let x1 := stP (exP b n key) p f; let x2 := stP (eitL b n 5) x1.1 x1.2.1; let x3 := stP (exP b n 59) x2.1 x2.2.1; (stP (partP b n key) p f).1 = x3.1 ∧ (stP (partP b n key) p f).2.1 = x3.2.1 ∧ (x3.2.1 = -1 → f = -1 ∧ x1.2.1 = -1 ∧ x2.2.1 = -1 ∧ x1.2.2.1 = [] ∧ x3.2.2.1 = [] ∧ (stP (partP b n key) p f).2.2.1 = x2.2.2.1) := by
  intro x1 x2 x3
  by_cases hf : f = -1
  · subst hf
    by_cases hk : tk b n p = key
    · have e1 : x1 = (adv b n p, -1, [], fun _ => 0) := by
        show stP (exP b n key) p (-1) = _
        rw [stP_y]
        unfold exP
        rw [if_pos hk]
      have e2 : x2 = eitL b n 5 (adv b n p) := by
        show stP (eitL b n 5) x1.1 x1.2.1 = _
        rw [e1, stP_y]
      have e3 : x3 = stP (exP b n 59) (eitL b n 5 (adv b n p)).1 (eitL b n 5 (adv b n p)).2.1 := by
        show stP (exP b n 59) x2.1 x2.2.1 = _
        rw [e2]
      rw [stP_y, e3, e2, e1]
      unfold partP
      rw [if_pos hk]
      by_cases h1 : (eitL b n 5 (adv b n p)).2.1 = -1
      · rw [if_pos h1, h1, stP_y]
        unfold exP
        by_cases h2 : tk b n (eitL b n 5 (adv b n p)).1 = 59
        · rw [if_pos h2, if_pos h2]
          exact ⟨rfl, rfl, fun _ => ⟨rfl, rfl, rfl, rfl, rfl, rfl⟩⟩
        · rw [if_neg h2, if_neg h2]
          exact ⟨rfl, rfl, fun _ => ⟨rfl, rfl, rfl, rfl, rfl, rfl⟩⟩
      · rw [if_neg h1, stP_n h1]
        exact ⟨rfl, rfl, fun q => absurd q h1⟩
    · have e1 : x1 = pFail p := by
        show stP (exP b n key) p (-1) = _
        rw [stP_y]
        unfold exP
        rw [if_neg hk]
      have hp : (pFail p).2.1 ≠ -1 := fun q => by have : ((p : Nat) : Int) = -1 := q; omega
      have e2 : x2 = pFail p := by
        show stP (eitL b n 5) x1.1 x1.2.1 = _
        rw [e1, stP_n hp]
        rfl
      have e3 : x3 = pFail p := by
        show stP (exP b n 59) x2.1 x2.2.1 = _
        rw [e2, stP_n hp]
        rfl
      rw [stP_y, e3]
      unfold partP
      rw [if_neg hk]
      exact ⟨rfl, rfl, fun q => absurd q hp⟩
  · have e1 : x1 = (p, f, [], fun _ => 0) := stP_n hf
    have e2 : x2 = (p, f, [], fun _ => 0) := by
      show stP (eitL b n 5) x1.1 x1.2.1 = _
      rw [e1]
      exact stP_n hf
    have e3 : x3 = (p, f, [], fun _ => 0) := by
      show stP (exP b n 59) x2.1 x2.2.1 = _
      rw [e2]
      exact stP_n hf
    rw [stP_n hf, e3]
    exact ⟨rfl, rfl, fun q => absurd q hf⟩
/-- the same but for the reading, and the text's ends -/
def agT (j : Nat) (a b : IM) : Prop := ∀ k i s, k ≠ 14 → ¬ (k = 2 ∧ i = j ∧ s = 3) → ¬ (k = 3 ∧ i = j) → ¬ (k = 4 ∧ i = j) → a k i s = b k i s
/-- a text that was read -/
def TX (b : Nat → Int) (n j : Nat) (im : IM) : Prop := (∀ k, k < 3 → im 4 j k = (stL b n (k + 1)).length) ∧ ∀ s : Nat, s < (stL b n 3).length → im 3 j s = (stL b n 3).getD s 0
theorem rdF_eq (b : Nat → Int) (n : Nat) : rdF b n = if (rdk b n 3).2.1 = -1 then (if tk b n (rdk b n 3).1 = 0 then -1 else ((rdk b n 3).1 : Int)) else (rdk b n 3).2.1 := by
  rw [rdk_3]
  rfl

set_option maxHeartbeats 4000000 in
theorem c_X4_read (l : Launch) (G : GS) (im : IM) (bt rt j : Nat) (lm : IM) (hj : j < 6) (b : Nat → Int) (n : Nat) (hb : byt b n) (hR : RI im) (hb2 : im 15 0 = b) (hsz : im 14 0 1 = n) : Cn l (XC G) yX4_read Y_X4_read [vR 14 0, vR 2 j] (im, rs bt rt, lm) (pI fun x m' => ∃ im', x = rdF b n ∧ RI im' ∧ agT j im' im ∧ im' 14 0 1 = 0 ∧ (rdF b n = -1 → TX b n j im') ∧ m' = (im', rs bt j, lm)) := by
  refine cn_of (by decide) (okC G) rfl (Nat.le_of_ble_eq_true rfl) ?_
  intro M ad hMl F
  subst hMl
  have hn := hb.1
  refine wp_pad 1 ?_
  show Wp M (XC G) ad Y_X4_read (pI fun x m' => ∃ im', x = rdF b n ∧ RI im' ∧ agT j im' im ∧ im' 14 0 1 = 0 ∧ (rdF b n = -1 → TX b n j im') ∧ m' = (im', rs bt j, lm)) 0 [some (vR 14 0), some (vR 2 j), none] [] (im, rs bt rt, lm)
  refine q_aload_n (t := 1) F dX4_read_0 rfl rfl rfl ?_
  refine q_aload_n (t := 2) F dX4_read_1 rfl rfl rfl ?_
  refine p_X4_15 (t := 5) F dX4_read_2 rfl rfl ?_
  refine q_aload_n (t := 6) F dX4_read_5 rfl rfl rfl ?_
  refine g_X4_15 (t := 9) F dX4_read_6 rfl rfl ?_
  refine wp_callV (t := 12) [] F dX4_read_9 k_X6_clear v_X6_clear ml_X4_23 rfl rfl rfl rfl (Nat.le_of_ble_eq_true rfl) (by decide) (m_2 (by omega)) (c_X6_clear _ G im bt j lm j hj) rfl (kV ?_)
  rintro m' rfl
  refine q_aload_n (t := 13) F dX4_read_12 rfl rfl rfl ?_
  refine q_iconst (t := 14) F dX4_read_13 rfl ?_
  refine p_X4_28 (t := 17) F dX4_read_14 rfl rfl ?_
  refine q_aload_n (t := 18) F dX4_read_17 rfl rfl rfl ?_
  refine q_iconst (t := 19) F dX4_read_18 rfl ?_
  refine p_X4_31 (t := 22) F dX4_read_19 rfl rfl ?_
  refine q_aload_n (t := 23) F dX4_read_22 rfl rfl rfl ?_
  refine wp_callV (t := 26) [] F dX4_read_23 k_X4_advance v_X4_advance ml_X4_34 rfl rfl rfl rfl (Nat.le_of_ble_eq_true rfl) (by decide) (m_14 (by omega)) (c_X4_advance _ G _ bt j lm b n hb (RI_up (RI_up (RI_up hR (by constructor <;> omega)) (by constructor <;> omega)) (by constructor <;> omega)) ((funext fun s => by rw [up_app, if_neg (by omega), up_app, if_neg (by omega), up_app, if_neg (by omega)]; exact congrFun hb2 s)) (by rw [up_app, if_neg (by omega), up_app, if_neg (by omega), up_app, if_neg (by omega)]; exact hsz) 0 (Nat.zero_le _) rfl) rfl (kV ?_)
  rintro m' ⟨im0, hR0, hag0, hRS0, rfl⟩
  have hsp := span_in isW b n _ 0 rfl
  have hr0 : PR b n j im0 (rdk b n 0).1 (rdk b n 0).2.1 := by
    refine ⟨hRS0, hR0, (funext fun s => hag0 15 0 s (by omega)).trans hb2, (hag0 14 0 1 (by omega)).trans hsz, ?_, ?_, fun _ => ?_⟩
    · rw [hag0 2 j 3 (by omega), up_app, if_neg (by omega), up_app, if_neg (by omega), up_app, if_pos ⟨rfl, rfl, rfl⟩]; omega
    · show span isW b n 0 ≤ n
      omega
    · rw [hag0 2 j 3 (by omega), up_app, if_neg (by omega), up_app, if_neg (by omega), up_app, if_pos ⟨rfl, rfl, rfl⟩]
      show (0 : Int) ≤ (span isW b n 0 : Nat)
      omega
  have hz0 : im0 2 j 3 = 0 := by rw [hag0 2 j 3 (by omega), up_app, if_neg (by omega), up_app, if_neg (by omega), up_app, if_pos ⟨rfl, rfl, rfl⟩]
  have ha0 : agT j im0 im := fun k i s h1 h2 h3 h4 => by rw [hag0 k i s (by omega), up_app, if_neg (by omega), up_app, if_neg (by omega), up_app, if_neg (by omega)]
  refine q_iconst (t := 27) F dX4_read_26 rfl ?_
  refine q_istore_n (t := 28) F dX4_read_27 rfl (by decide) rfl rfl ?_
  have L28 : ∀ (fz : Nat) (k : Nat) (im1 : IM), 3 - k < fz → k ≤ 3 → PR b n j im1 (rdk b n k).1 (rdk b n k).2.1 → agT j im1 im → ((rdk b n k).2.1 = -1 → TS j (stL b n k) im1 ∧ ∀ q, q < k → im1 4 j q = (stL b n (q + 1)).length) → Wp M (XC G) ad Y_X4_read (pI fun x m' => ∃ im', x = rdF b n ∧ RI im' ∧ agT j im' im ∧ im' 14 0 1 = 0 ∧ (rdF b n = -1 → TX b n j im') ∧ m' = (im', rs bt j, lm)) 28 [some (vR 14 0), some (vR 2 j), some (vI (k : Int))] [] (im1, rs bt j, lm) := by
    intro fz
    induction fz with
    | zero => intro k im1 h; exact absurd h (Nat.not_lt_zero _)
    | succ fz ih =>
      have ih28 := ih
      intro k im1 hmeas hk h1 ha ht
      have hR1 := h1.2.1
      have g4 : im1 14 0 4 = tk b n (rdk b n k).1 := h1.1.2.2.1
      have g3 : im1 14 0 3 = (rdk b n k).1 := h1.1.2.1
      have g6 : im1 14 0 6 = (rdk b n k).2.1 := h1.1.2.2.2.2
      refine q_iload_n (t := 29) F dX4_read_28 rfl rfl rfl ?_
      refine q_iconst (t := 30) F dX4_read_29 rfl ?_
      refine q_icmp_ge (t := 33) (u := 65) F dX4_read_30 (by constructor <;> omega) (by constructor <;> omega) (by decide) rfl (fun c30 => ?_) (fun c30 => ?_)
      · refine q_aload_n (t := 66) F dX4_read_65 rfl rfl rfl ?_
        refine q_iconst (t := 67) F dX4_read_66 rfl ?_
        refine wp_callV (t := 70) [_] F dX4_read_67 k_X4_at v_X4_at ml_X4_47 rfl rfl rfl rfl (Nat.le_of_ble_eq_true rfl) (by decide) (m_14 (by omega)) (c_X4_at _ G im1 bt j lm hR1 0 (by constructor <;> omega)) rfl (kI ?_)
        rintro x67 m' ⟨hx67, rfl⟩
        have hx67 := if01 hx67
        refine q_if_ne (t := 73) (u := 77) F dX4_read_70 (by first | exact hR _ _ _ | (constructor <;> omega)) (by decide) rfl (fun c70 => ?_) (fun c70 => ?_)
        · refine q_aload_n (t := 78) F dX4_read_77 rfl rfl rfl ?_
          refine q_iconst (t := 79) F dX4_read_78 rfl ?_
          refine p_X4_19 (t := 82) F dX4_read_79 rfl rfl ?_
          refine q_aload_n (t := 83) F dX4_read_82 rfl rfl rfl ?_
          refine g_X4_28 (t := 86) F dX4_read_83 rfl rfl ?_
          try simp only [up_app, row_app, scr_app, cpy_app, Nat.reduceEqDiff, Int.reduceToNat, Int.toNat_natCast, and_true, true_and, and_false, false_and, and_self, reduceIte]
          refine q_iret F dX4_read_86 rfl ?_
          obtain rfl : k = 3 := by omega
          have hre := rdF_eq b n
          have hTX : (rdk b n 3).2.1 = -1 → ∀ m2 : IM, (∀ t s, t ≠ 14 → m2 t j s = im1 t j s) → TX b n j m2 := fun q m2 hm => by
            have t0 := ht q
            exact ⟨fun s hs => by rw [hm 4 s (by omega)]; exact t0.2 s hs, fun s hs => by rw [hm 3 s (by omega)]; exact t0.1.2 s hs⟩
          by_cases hf : (rdk b n 3).2.1 = -1
          · rw [if_pos hf] at hre
            by_cases ht0 : tk b n (rdk b n 3).1 = 0
            · rw [if_pos ht0] at hre
              first
                | (exfalso; omega)
                | exact ⟨_, rfl, _, by rw [hre, ← hf, ← g6] <;> rfl, RI_up hR1 (by constructor <;> omega), (fun t i s q1 q2 q3 q4 => by rw [up_app, if_neg (by omega)]; exact ha t i s q1 q2 q3 q4), rfl, (fun _ => hTX hf _ (fun t s q => by rw [up_app, if_neg (by omega)])), rfl⟩
            · rw [if_neg ht0] at hre
              first
                | (exfalso; omega)
                | (rw [if_pos (by omega)]
                   refine ⟨_, rfl, _, by rw [hre, ← g3] <;> rfl, RI_up (RI_up hR1 (hR1 _ _ _)) (by constructor <;> omega), (fun t i s q1 q2 q3 q4 => by rw [up_app, if_neg (by omega), up_app, if_neg (by omega)]; exact ha t i s q1 q2 q3 q4), rfl, (fun q => ?_), rfl⟩
                   rw [hre] at q
                   omega)
          · rw [if_neg hf] at hre
            first
              | (exfalso; omega)
              | (rw [if_neg (by omega)]
                 refine ⟨_, rfl, _, by rw [hre, ← g6] <;> rfl, RI_up hR1 (by constructor <;> omega), (fun t i s q1 q2 q3 q4 => by rw [up_app, if_neg (by omega)]; exact ha t i s q1 q2 q3 q4), rfl, (fun q => ?_), rfl⟩
                 rw [hre] at q
                 omega)
        · refine q_aload_n (t := 74) F dX4_read_73 rfl rfl rfl ?_
          refine wp_callV (t := 77) [] F dX4_read_74 k_X4_fail v_X4_fail ml_X4_51 rfl rfl rfl rfl (Nat.le_of_ble_eq_true rfl) (by decide) (m_14 (by omega)) (c_X4_fail _ G im1 bt j lm hR1) rfl (kV ?_)
          rintro m' rfl
          refine q_aload_n (t := 78) F dX4_read_77 rfl rfl rfl ?_
          refine q_iconst (t := 79) F dX4_read_78 rfl ?_
          refine p_X4_19 (t := 82) F dX4_read_79 rfl rfl ?_
          refine q_aload_n (t := 83) F dX4_read_82 rfl rfl rfl ?_
          refine g_X4_28 (t := 86) F dX4_read_83 rfl rfl ?_
          try simp only [up_app, row_app, scr_app, cpy_app, Nat.reduceEqDiff, Int.reduceToNat, Int.toNat_natCast, and_true, true_and, and_false, false_and, and_self, reduceIte]
          refine q_iret F dX4_read_86 rfl ?_
          obtain rfl : k = 3 := by omega
          have hre := rdF_eq b n
          have hTX : (rdk b n 3).2.1 = -1 → ∀ m2 : IM, (∀ t s, t ≠ 14 → m2 t j s = im1 t j s) → TX b n j m2 := fun q m2 hm => by
            have t0 := ht q
            exact ⟨fun s hs => by rw [hm 4 s (by omega)]; exact t0.2 s hs, fun s hs => by rw [hm 3 s (by omega)]; exact t0.1.2 s hs⟩
          by_cases hf : (rdk b n 3).2.1 = -1
          · rw [if_pos hf] at hre
            by_cases ht0 : tk b n (rdk b n 3).1 = 0
            · rw [if_pos ht0] at hre
              first
                | (exfalso; omega)
                | exact ⟨_, rfl, _, by rw [hre, ← hf, ← g6] <;> rfl, RI_up hR1 (by constructor <;> omega), (fun t i s q1 q2 q3 q4 => by rw [up_app, if_neg (by omega)]; exact ha t i s q1 q2 q3 q4), rfl, (fun _ => hTX hf _ (fun t s q => by rw [up_app, if_neg (by omega)])), rfl⟩
            · rw [if_neg ht0] at hre
              first
                | (exfalso; omega)
                | (rw [if_pos (by omega)]
                   refine ⟨_, rfl, _, by rw [hre, ← g3] <;> rfl, RI_up (RI_up hR1 (hR1 _ _ _)) (by constructor <;> omega), (fun t i s q1 q2 q3 q4 => by rw [up_app, if_neg (by omega), up_app, if_neg (by omega)]; exact ha t i s q1 q2 q3 q4), rfl, (fun q => ?_), rfl⟩
                   rw [hre] at q
                   omega)
          · rw [if_neg hf] at hre
            first
              | (exfalso; omega)
              | (rw [if_neg (by omega)]
                 refine ⟨_, rfl, _, by rw [hre, ← g6] <;> rfl, RI_up hR1 (by constructor <;> omega), (fun t i s q1 q2 q3 q4 => by rw [up_app, if_neg (by omega)]; exact ha t i s q1 q2 q3 q4), rfl, (fun q => ?_), rfl⟩
                 rw [hre] at q
                 omega)
      · refine q_aload_n (t := 34) F dX4_read_33 rfl rfl rfl ?_
        refine q_iconst (t := 35) F dX4_read_34 rfl ?_
        refine q_iload_n (t := 36) F dX4_read_35 rfl rfl rfl ?_
        refine q_iadd (t := 37) F dX4_read_36 rfl ?_
        refine wp_callV (t := 40) [_] F dX4_read_37 k_X4_expect v_X4_expect ml_X4_37 rfl rfl rfl rfl (Nat.le_of_ble_eq_true rfl) (by decide) (m_14 (by omega)) (c_X4_expect _ G im1 bt j lm b n hb (4 + (k : Int)) (by omega) (by omega) _ _ h1) rfl (kV ?_)
        rintro m' ⟨im2, h2, rfl⟩
        refine q_aload_n (t := 41) F dX4_read_40 rfl rfl rfl ?_
        refine q_iconst (t := 42) F dX4_read_41 rfl ?_
        refine wp_callV (t := 45) [_] F dX4_read_42 (k_X4_either _) v_X4_either ml_X4_41 rfl rfl rfl rfl (Nat.le_of_ble_eq_true rfl) (by decide) (m_14 (by omega)) ((c_gram _ G bt j lm hj b n hb 5 0 rfl).2 im2 _ _ h2.1) rfl (kV ?_)
        rintro m' ⟨im3, h3, rfl⟩
        refine q_aload_n (t := 46) F dX4_read_45 rfl rfl rfl ?_
        refine q_bipush (t := 48) F dX4_read_46 (by decide) rfl ?_
        refine wp_callV (t := 51) [_] F dX4_read_48 k_X4_expect v_X4_expect ml_X4_37 rfl rfl rfl rfl (Nat.le_of_ble_eq_true rfl) (by decide) (m_14 (by omega)) (c_X4_expect _ G im3 bt j lm b n hb 59 (by omega) (by omega) _ _ h3.1) rfl (kV ?_)
        rintro m' ⟨im4, h4, rfl⟩
        refine q_aload_n (t := 52) F dX4_read_51 rfl rfl rfl ?_
        refine g_X4_15 (t := 55) F dX4_read_52 rfl rfl ?_
        refine q_iload_n (t := 56) F dX4_read_55 rfl rfl rfl ?_
        refine wp_callV (t := 59) [_] F dX4_read_56 k_X6_endPart v_X6_endPart ml_X4_44 rfl rfl rfl rfl (Nat.le_of_ble_eq_true rfl) (by decide) (m_2 (by omega)) (c_X6_endPart _ G im4 bt j lm j hj k (by omega)) rfl (kV ?_)
        rintro m' rfl
        refine q_iinc (t := 62) F dX4_read_59 rfl (by decide) rfl rfl ?_
        refine q_goto (t := 28) F dX4_read_62 (by decide) ?_
        have hpe := part_eq b n (4 + (k : Int)) (rdk b n k).1 (rdk b n k).2.1
        have h41 := h4.1
        rw [← hpe.1, ← hpe.2.1] at h41
        have h41 : PR b n j im4 (rdk b n (k + 1)).1 (rdk b n (k + 1)).2.1 := h41
        have ea : ∀ t s, t ≠ 4 → up im4 4 j k (im4 2 j 3) t j s = im4 t j s := fun t s h => by rw [up_app, if_neg (by omega)]
        have e14 : ∀ s, up im4 4 j k (im4 2 j 3) 14 0 s = im4 14 0 s := fun s => by rw [up_app, if_neg (by omega)]
        refine ih28 (k + 1) _ (by omega) (by omega) ⟨⟨h41.1.1, h41.1.2.1, h41.1.2.2.1, h41.1.2.2.2.1, h41.1.2.2.2.2⟩, RI_up h41.2.1 (h41.2.1 _ _ _), (funext fun s => by rw [up_app, if_neg (by omega)]).trans h41.2.2.1, (e14 1).trans h41.2.2.2.1, ?_, h41.2.2.2.2.2.1, fun q => ?_⟩ (fun t i s q1 q2 q3 q4 => ?_) (fun q => ?_)
        · rw [ea 2 3 (by omega)]; exact h41.2.2.2.2.1
        · rw [ea 2 3 (by omega)]; exact h41.2.2.2.2.2.2 q
        · rw [up_app, if_neg (by omega), h4.2.1 t i s (by omega) (by omega) (by omega), h3.2.1 t i s (by omega) (by omega) (by omega), h2.2.1 t i s (by omega) (by omega) (by omega)]
          exact ha t i s q1 q2 q3 q4
        · have q2 : (stP (exP b n 59) (stP (eitL b n 5) (stP (exP b n (4 + (k : Int))) (rdk b n k).1 (rdk b n k).2.1).1 (stP (exP b n (4 + (k : Int))) (rdk b n k).1 (rdk b n k).2.1).2.1).1 (stP (eitL b n 5) (stP (exP b n (4 + (k : Int))) (rdk b n k).1 (rdk b n k).2.1).1 (stP (exP b n (4 + (k : Int))) (rdk b n k).1 (rdk b n k).2.1).2.1).2.1).2.1 = -1 := hpe.2.1.symm.trans q
          obtain ⟨f1, f2, f3, f4, f5, f6⟩ := hpe.2.2 q2
          have t0 := ht f1
          have a2 := h2.2.2 f2
          have a3 := h3.2.2 f3
          have a4 := h4.2.2 q2
          rw [f4] at a2
          rw [f5] at a4
          rw [← f6] at a3
          have t4 := ((t0.1.app a2).app a3).app a4
          rw [List.append_nil, List.append_nil] at t4
          have t4 : TS j (stL b n (k + 1)) im4 := t4
          refine ⟨⟨?_, fun s hs => ?_⟩, fun s hs => ?_⟩
          · rw [ea 2 3 (by omega)]; exact t4.1
          · rw [ea 3 s (by omega)]; exact t4.2 s hs
          · rw [up_app]
            by_cases hsk : s = k
            · rw [if_pos ⟨rfl, rfl, hsk⟩, hsk]; exact t4.1
            · rw [if_neg (by omega), h4.2.1 4 j s (by omega) (by omega) (by omega), h3.2.1 4 j s (by omega) (by omega) (by omega), h2.2.1 4 j s (by omega) (by omega) (by omega)]
              exact t0.2 s (by omega)
  exact L28 _ 0 im0 (Nat.lt_succ_self _) (Nat.zero_le _) hr0 ha0 (fun _ => ⟨⟨hz0, fun s hs => absurd hs (Nat.not_lt_zero _)⟩, fun q hq => absurd hq (Nat.not_lt_zero _)⟩)
end
section
/-! WHAT THE STEPS OF A TEXT MAKE -/
theorem runS_app (f nm : Nat → Int) (a c : Nat) : ∀ (i : Nat) (q : Nat × (Nat → Int)), runS f nm i (a + c) q = runS f nm (i + a) c (runS f nm i a q) := by
  induction a with
  | zero => intro i q; rw [Nat.zero_add, Nat.add_zero]; rfl
  | succ a ih =>
    intro i q
    rw [show a + 1 + c = (a + c) + 1 by omega]
    show runS f nm (i + 1) (a + c) (stepS nm (f i) q) = runS f nm (i + (a + 1)) c (runS f nm (i + 1) a (stepS nm (f i) q))
    rw [ih, show i + 1 + a = i + (a + 1) by omega]
def EV (d : Nat) (L : List Int) (V : (Nat → Int) → Int) : Prop := ∀ (f nm : Nat → Int) (i t : Nat) (k : Nat → Int), (∀ s, s < L.length → f (i + s) = L.getD s 0) → t + d ≤ 31 → ∃ k', runS f nm i L.length (t, k) = (t + 1, k') ∧ k' t = V nm ∧ ∀ s, s < t → k' s = k s
theorem EV.le {d d2 : Nat} {L : List Int} {V : (Nat → Int) → Int} (h : EV d L V) (hd : d ≤ d2) : EV d2 L V := fun f nm i t k h1 h2 => h f nm i t k h1 (by omega)
theorem us_at (k : Nat → Int) (t : Nat) (x : Int) : us k t x t = x := if_pos rfl
theorem us_ne {k : Nat → Int} {t s : Nat} {x : Int} (h : s ≠ t) : us k t x s = k s := if_neg h
theorem EV_put {d : Nat} {s : Int} {V : (Nat → Int) → Int} (hd : 1 ≤ d) (hs : -7 < s) (hV : ∀ nm : Nat → Int, (if 0 ≤ s then s else nm (-1 - s).toNat) = V nm) : EV d [s] V := by
  intro f nm i t k h1 h2
  have e : f i = s := h1 0 Nat.zero_lt_one
  refine ⟨us k t (V nm), ?_, us_at _ _ _, fun q hq => us_ne (by omega)⟩
  show stepS nm (f i) (t, k) = _
  rw [e]
  unfold stepS
  rw [if_pos hs]
  unfold putS
  rw [if_pos (show t < 31 by omega)]
  show (t + 1, us k t (if 0 ≤ s then s else nm (-1 - s).toNat)) = _
  rw [hV]
theorem runS_1 (f nm : Nat → Int) (i : Nat) (q : Nat × (Nat → Int)) : runS f nm i 1 q = stepS nm (f i) q := rfl
theorem EV_un {d : Nat} {L : List Int} {V : (Nat → Int) → Int} {s : Int} (h : EV d L V) (hs : s = -7 ∨ s = -8) : EV d (L ++ [s]) (fun nm => un1 s (V nm)) := by
  intro f nm i t k h1 h2
  obtain ⟨k', e1, e2, e3⟩ := h f nm i t k (fun q hq => by rw [h1 q (by rw [List.length_append]; omega), List.getD_eq_getElem?_getD, List.getElem?_append_left hq, ← List.getD_eq_getElem?_getD]) h2
  have e4 : f (i + L.length) = s := by
    rw [h1 L.length (by rw [List.length_append, List.length_singleton]; omega), List.getD_eq_getElem?_getD, List.getElem?_append_right (Nat.le_refl _), Nat.sub_self]
    rfl
  refine ⟨us k' t (un1 s (V nm)), ?_, us_at _ _ _, fun q hq => (us_ne (by omega)).trans (e3 q hq)⟩
  rw [List.length_append, List.length_singleton, runS_app, e1, runS_1, e4]
  unfold stepS
  rw [if_neg (by omega), joinS_1 (by omega), e2]
theorem EV_bin {d : Nat} {L1 L2 : List Int} {V1 V2 : (Nat → Int) → Int} {s : Int} (h : EV (d + 1) L1 V1) (h2 : EV d L2 V2) (hs : s < -8) : EV (d + 1) (L1 ++ L2 ++ [s]) (fun nm => bi2 s (V1 nm) (V2 nm)) := by
  intro f nm i t k k1 k2
  have g : ∀ q, q < L1.length + L2.length + 1 → f (i + q) = (L1 ++ L2 ++ [s]).getD q 0 := fun q hq => k1 q (by rw [List.length_append, List.length_append, List.length_singleton]; omega)
  obtain ⟨ka, a1, a2, a3⟩ := h f nm i t k (fun q hq => by rw [g q (by omega), List.append_assoc, List.getD_eq_getElem?_getD, List.getElem?_append_left hq, ← List.getD_eq_getElem?_getD]) k2
  obtain ⟨kb, b1, b2, b3⟩ := h2 f nm (i + L1.length) (t + 1) ka (fun q hq => by
    rw [show i + L1.length + q = i + (L1.length + q) by omega, g _ (by omega), List.append_assoc, List.getD_eq_getElem?_getD, List.getElem?_append_right (by omega), show L1.length + q - L1.length = q by omega, List.getElem?_append_left hq, ← List.getD_eq_getElem?_getD]) (by omega)
  have e4 : f (i + L1.length + L2.length) = s := by
    rw [show i + L1.length + L2.length = i + (L1.length + L2.length) by omega, g _ (by omega), List.getD_eq_getElem?_getD, List.getElem?_append_right (by rw [List.length_append]; omega), List.length_append, Nat.sub_self]
    rfl
  refine ⟨us kb t (bi2 s (V1 nm) (V2 nm)), ?_, us_at _ _ _, fun q hq => (us_ne (by omega)).trans ((b3 q (by omega)).trans (a3 q hq))⟩
  rw [List.length_append, List.length_append, List.length_singleton, runS_app, runS_app, a1, b1, runS_1, show i + (L1.length + L2.length) = i + L1.length + L2.length by omega, e4]
  unfold stepS
  rw [if_neg (by omega), joinS_2 hs, b2, b3 t (by omega), a2]
/-- so many places of the stack are enough for what stands at any place -/
def EVP (n d : Nat) (F : Nat → PT) : Prop := ∀ p, p ≤ n → (F p).2.1 = -1 → EV d (F p).2.2.1 (F p).2.2.2
theorem EVP_fail (n d : Nat) : EVP n d pFail := fun p _ h => by have : ((p : Nat) : Int) = -1 := h; omega
theorem EV_loop {b : Nat → Int} {n d : Nat} {op : Int → Int} {sub : Nat → PT} (h0 : op 0 = 0) (hop : ∀ t, op t ≠ 0 → op t < -8) (hg : PG n sub) (hs : EVP n d sub) : ∀ (f : Nat) (r : PT), r.1 ≤ n → (r.2.1 = -1 → EV (d + 1) r.2.2.1 r.2.2.2) → (loopP b n op sub f r).2.1 = -1 → EV (d + 1) (loopP b n op sub f r).2.2.1 (loopP b n op sub f r).2.2.2 := by
  intro f
  induction f with
  | zero => intro r hr h hf; exact h hf
  | succ f ih =>
    intro r hr h
    by_cases hc : r.2.1 = -1 ∧ op (tk b n r.1) ≠ 0
    · rw [loopP_y hc.1 hc.2]
      have hlt : r.1 < n := tk_lt (fun z => hc.2 (by rw [z]; exact h0))
      have ha := adv_in (b := b) hlt
      exact ih _ (hg _ ha.2).2.1 (fun q => EV_bin (h hc.1) (hs _ ha.2 q) (hop _ hc.2))
    · rw [loopP_n hc]
      exact h
theorem opM_lt (t : Int) (h : opM t ≠ 0) : opM t < -8 := by unfold opM at *; split at h <;> simp_all
theorem opS_lt (t : Int) (h : opS t ≠ 0) : opS t < -8 := by unfold opS at *; (repeat' split at h) <;> simp_all
theorem opA_lt (t : Int) (h : opA t ≠ 0) : opA t < -8 := by unfold opA at *; split at h <;> simp_all
theorem opO_lt (t : Int) (h : opO t ≠ 0) : opO t < -8 := by unfold opO at *; split at h <;> simp_all
theorem opC_lt (t : Int) (h : opC t ≠ 0) : opC t < -8 := by unfold opC at *; (repeat' split at h) <;> simp_all
theorem EVP_term {b : Nat → Int} {n d : Nat} {one : Nat → PT} (hg : PG n one) (h : EVP n d one) : EVP n (d + 1) (termP b n one) := fun p hp hf => EV_loop (by decide) opM_lt hg h 160 (one p) (hg p hp).2.1 (fun q => (h p hp q).le (by omega)) hf
theorem EVP_sum {b : Nat → Int} {n d : Nat} {one : Nat → PT} (hg : PG n one) (h : EVP n d one) : EVP n (d + 2) (sumP b n one) := fun p hp hf => EV_loop (by decide) opS_lt (PG_term hg) (EVP_term hg h) 160 _ (PG_term hg p hp).2.1 (fun q => (EVP_term hg h p hp q).le (by omega)) hf
theorem EVP_denX {b : Nat → Int} {n d : Nat} {one : Nat → PT} (hg : PG n one) (h : EVP n d one) : EVP n (d + 3) (denX b n one) := fun p hp hf => EV_loop (by decide) opC_lt (PG_sum hg) (EVP_sum hg h) 1 _ (PG_sum hg p hp).2.1 (fun q => (EVP_sum hg h p hp q).le (by omega)) hf
theorem EVP_both {b : Nat → Int} {n d : Nat} {den : Nat → PT} (hg : PG n den) (h : EVP n d den) : EVP n (d + 1) (bothP b n den) := fun p hp hf => EV_loop (by decide) opA_lt hg h 160 _ (hg p hp).2.1 (fun q => (h p hp q).le (by omega)) hf
theorem EVP_eit {b : Nat → Int} {n d : Nat} {den : Nat → PT} (hg : PG n den) (h : EVP n d den) : EVP n (d + 2) (eitP b n den) := fun p hp hf => EV_loop (by decide) opO_lt (PG_both hg) (EVP_both hg h) 160 _ (PG_both hg p hp).2.1 (fun q => (EVP_both hg h p hp q).le (by omega)) hf
theorem span_all {P : Int → Bool} {b : Nat → Int} {n : Nat} : ∀ (k p : Nat), n - p = k → ∀ q, p ≤ q → q < span P b n p → P (b q) = true := by
  intro k
  induction k with
  | zero =>
    intro p hk q h1 h2
    rw [span_n (by omega)] at h2
    omega
  | succ k ih =>
    intro p hk q h1 h2
    by_cases h : P (b p) = true
    · rw [span_y (by omega) h] at h2
      by_cases hq : q = p
      · rw [hq]; exact h
      · exact ih (p + 1) (by omega) q (by omega) h2
    · rw [span_n (fun z => h z.2)] at h2
      omega
theorem numF_in {b : Nat → Int} {p : Nat} : ∀ (k : Nat), k ≤ 4 → (∀ q, q < k → 48 ≤ b (p + q) ∧ b (p + q) ≤ 57) → 0 ≤ numF b p k ∧ numF b p k < 10 ^ k := by
  intro k
  induction k with
  | zero => intro _ _; exact ⟨Int.le_refl 0, by show (0 : Int) < 1; omega⟩
  | succ k ih =>
    intro hk h
    have h1 := ih (by omega) (fun q hq => h q (by omega))
    have h2 := h k (by omega)
    have h3 : (10 : Int) ^ k ≤ 1000 := by
      rcases (by omega : k = 0 ∨ k = 1 ∨ k = 2 ∨ k = 3) with rfl | rfl | rfl | rfl <;> decide
    rw [numF_s, show bm (numF b p k * 10 + b (p + k) - 48) = numF b p k * 10 + b (p + k) - 48 from bm_id ⟨by omega, by omega⟩, Int.pow_succ]
    constructor <;> omega
theorem tk_num {b : Nat → Int} {n p : Nat} (h : tk b n p = 2) : 0 ≤ vl b n p ∧ vl b n p < 10000 := by
  have hlt : p < n := tk_lt (by rw [h]; decide)
  have hw := wIx_in b p (span isL b n p) 12
  unfold tk at h
  rw [if_neg (by omega)] at h
  unfold vl
  by_cases hl : isL (b p) = true
  · rw [if_pos hl] at h
    unfold tkW at h
    (repeat' split at h) <;> omega
  · rw [if_neg hl] at h ⊢
    by_cases hd : isD (b p) = true
    · rw [if_pos hd] at h
      have hk : span isD b n p - p ≤ 4 := by split at h <;> omega
      have h1 := numF_in (b := b) (p := p) (span isD b n p - p) hk (fun q hq => isD_iff.mp (span_all (n := n) _ p rfl (p + q) (by omega) (by omega)))
      have h2 : (10 : Int) ^ (span isD b n p - p) ≤ 10000 := by
        generalize span isD b n p - p = k at hk
        rcases (by omega : k = 0 ∨ k = 1 ∨ k = 2 ∨ k = 3 ∨ k = 4) with rfl | rfl | rfl | rfl | rfl <;> decide
      omega
    · rw [if_neg hd] at h
      unfold sgn at h
      exfalso
      split at h <;> omega
theorem tk_nam {b : Nat → Int} {n p : Nat} (h : tk b n p = 3) : 0 ≤ vl b n p ∧ vl b n p < 6 := by
  have hlt : p < n := tk_lt (by rw [h]; decide)
  have hw := wIx_in b p (span isL b n p) 12
  unfold tk at h
  rw [if_neg (by omega)] at h
  unfold vl
  by_cases hl : isL (b p) = true
  · rw [if_pos hl] at h ⊢
    unfold tkW at h
    (repeat' split at h) <;> omega
  · rw [if_neg hl] at h
    exfalso
    by_cases hd : isD (b p) = true
    · rw [if_pos hd] at h
      split at h <;> omega
    · rw [if_neg hd] at h
      unfold sgn at h
      split at h <;> omega
theorem EVP_atomX {b : Nat → Int} {n m d : Nat} {nE : Nat → PT} (hd : 1 ≤ d) (h : m ≠ 0 → EVP n d nE) : EVP n d (atomX b n m nE) := by
  intro p hp
  unfold atomX
  split
  · rename_i h1
    have ha := adv_in (b := b) (tk_lt (b := b) (n := n) (p := p) (by rw [h1.1]; decide))
    split
    · rename_i h2
      split
      · exact fun _ => h h1.2 _ ha.2 h2
      · exact fun q => by have : (((nE (adv b n p)).1 : Nat) : Int) = -1 := q; omega
    · rename_i h2
      exact fun q => absurd q h2
  split
  · rename_i h1
    have hv := tk_num h1
    exact fun _ => EV_put hd (by omega) (fun nm => if_pos hv.1)
  split
  · rename_i h1
    have hv := tk_nam h1
    refine fun _ => EV_put hd (by omega) (fun nm => ?_)
    rw [if_neg (by omega), show (-1 - (-1 - vl b n p)) = vl b n p by omega]
  · exact EVP_fail n d p hp
theorem EVP_lvl (b : Nat → Int) (n : Nat) : ∀ m, EVP n (1 + 5 * m) (oneL b n m) ∧ EVP n (4 + 5 * m) (denL b n m) := by
  intro m
  induction m with
  | zero =>
    have h1 : EVP n (1 + 5 * 0) (oneL b n 0) := by
      intro p hp
      rw [oneL_0]
      split
      · exact EVP_fail n _ p hp
      · exact EVP_atomX (Nat.le_refl _) (fun q => absurd rfl q) p hp
    refine ⟨h1, fun p hp => ?_⟩
    rw [denL_0]
    split
    · exact EVP_fail n _ p hp
    · exact EVP_denX (PG_one b n 0) h1 p hp
  | succ m ih =>
    have hE : EVP n (1 + 5 * (m + 1)) (eitL b n m) := fun p hp hf => (EVP_eit (PG_den b n m) ih.2 p hp hf).le (by omega)
    have h1 : EVP n (1 + 5 * (m + 1)) (oneL b n (m + 1)) := by
      intro p hp
      rw [oneL_s]
      split
      · rename_i h
        have ha := adv_in (b := b) (tk_lt (b := b) (n := n) (p := p) (by rw [h]; decide))
        exact fun q => EV_un ((ih.1 _ ha.2 q).le (by omega)) (Or.inl rfl)
      · exact EVP_atomX (by omega) (fun _ => hE) p hp
    refine ⟨h1, fun p hp => ?_⟩
    rw [denL_s]
    split
    · rename_i h
      have ha := adv_in (b := b) (tk_lt (b := b) (n := n) (p := p) (by rw [h]; decide))
      exact fun q => EV_un ((ih.2 _ ha.2 q).le (by omega)) (Or.inr rfl)
    · exact fun q => (EVP_denX (PG_one b n (m + 1)) h1 p hp q).le (by omega)
theorem EVP_eit5 (b : Nat → Int) (n : Nat) : EVP n 31 (eitL b n 5) := EVP_eit (PG_den b n 5) (EVP_lvl b n 5).2
theorem EVP_part (b : Nat → Int) (n : Nat) (key : Int) (hk : key ≠ 0) : EVP n 31 (partP b n key) := by
  intro p hp
  unfold partP
  split
  · rename_i h
    have ha := adv_in (b := b) (tk_lt (b := b) (n := n) (p := p) (by rw [h]; exact hk))
    split
    · rename_i h2
      split
      · exact fun _ => EVP_eit5 b n _ ha.2 h2
      · exact fun q => by have : (((eitL b n 5 (adv b n p)).1 : Nat) : Int) = -1 := q; omega
    · rename_i h2
      exact fun q => absurd q h2
  · exact EVP_fail n _ p hp
end
section
/-! a text that was read: what it tells -/
theorem rdk_s (b : Nat → Int) (n k : Nat) : rdk b n (k + 1) = stP (partP b n (4 + (k : Int))) (rdk b n k).1 (rdk b n k).2.1 := rfl
theorem rdk_f {b : Nat → Int} {n k : Nat} (h : (rdk b n (k + 1)).2.1 = -1) : (rdk b n k).2.1 = -1 := by
  refine Classical.byContradiction (fun z => ?_)
  rw [rdk_s, stP_n z] at h
  exact z h
theorem rdk_y {b : Nat → Int} {n k : Nat} (h : (rdk b n k).2.1 = -1) : rdk b n (k + 1) = partP b n (4 + (k : Int)) (rdk b n k).1 := by rw [rdk_s, h, stP_y]
theorem rdk_le (b : Nat → Int) (n : Nat) : ∀ k, (rdk b n k).1 ≤ n := by
  intro k
  induction k with
  | zero => exact (span_in isW b n _ 0 rfl).2 (Nat.zero_le _)
  | succ k ih =>
    by_cases h : (rdk b n k).2.1 = -1
    · rw [rdk_y h]
      exact (PG_part b n _ (by omega) _ ih).2.1
    · rw [rdk_s, stP_n h]
      exact ih
theorem rdk_len (b : Nat → Int) (n : Nat) : ∀ k, (rdk b n k).2.1 = -1 → (stL b n k).length ≤ (rdk b n k).1 := by
  intro k
  induction k with
  | zero => intro _; exact Nat.zero_le _
  | succ k ih =>
    intro h
    have h0 := rdk_f h
    have h1 := ih h0
    have h2 := PG_part b n (4 + (k : Int)) (by omega) _ (rdk_le b n k)
    have h3 : (stL b n (k + 1)).length = (stL b n k).length + (rdk b n (k + 1)).2.2.1.length := List.length_append
    rw [h3]
    rw [rdk_y h0] at h ⊢
    have := h2.2.2.1 h
    omega
theorem rdk_EV {b : Nat → Int} {n k : Nat} (h : (rdk b n (k + 1)).2.1 = -1) : EV 31 (rdk b n (k + 1)).2.2.1 (rdk b n (k + 1)).2.2.2 := by
  have h0 := rdk_f h
  rw [rdk_y h0] at h ⊢
  exact EVP_part b n _ (by omega) _ (rdk_le b n k) h
theorem stL_pre (b : Nat → Int) (n k q : Nat) (hq : q < (stL b n k).length) : ∀ d, (stL b n (k + d)).getD q 0 = (stL b n k).getD q 0 := by
  have hl : ∀ d, (stL b n k).length ≤ (stL b n (k + d)).length := by
    intro d
    induction d with
    | zero => exact Nat.le_refl _
    | succ d ih =>
      have : (stL b n (k + (d + 1))).length = (stL b n (k + d)).length + (rdk b n (k + d + 1)).2.2.1.length := List.length_append
      omega
  intro d
  induction d with
  | zero => rfl
  | succ d ih =>
    rw [← ih]
    show (stL b n (k + d) ++ (rdk b n (k + d + 1)).2.2.1).getD q 0 = _
    have := hl d
    rw [List.getD_eq_getElem?_getD, List.getElem?_append_left (by omega), ← List.getD_eq_getElem?_getD]
theorem stL_get (b : Nat → Int) (n k s : Nat) (hk : k < 3) (hs : s < (rdk b n (k + 1)).2.2.1.length) : (stL b n 3).getD ((stL b n k).length + s) 0 = (rdk b n (k + 1)).2.2.1.getD s 0 ∧ (stL b n k).length + s < (stL b n 3).length := by
  have h3 : (stL b n (k + 1)).length = (stL b n k).length + (rdk b n (k + 1)).2.2.1.length := List.length_append
  have hl : ∀ d, (stL b n (k + 1)).length ≤ (stL b n (k + 1 + d)).length := by
    intro d
    induction d with
    | zero => exact Nat.le_refl _
    | succ d ih =>
      have : (stL b n (k + 1 + (d + 1))).length = (stL b n (k + 1 + d)).length + (rdk b n (k + 1 + d + 1)).2.2.1.length := List.length_append
      omega
  have h4 := stL_pre b n (k + 1) ((stL b n k).length + s) (by omega) (2 - k)
  have h5 := hl (2 - k)
  rw [show k + 1 + (2 - k) = 3 by omega] at h4 h5
  refine ⟨?_, by omega⟩
  rw [h4]
  show (stL b n k ++ (rdk b n (k + 1)).2.2.1).getD _ 0 = _
  rw [List.getD_eq_getElem?_getD, List.getElem?_append_right (by omega), ← List.getD_eq_getElem?_getD, show (stL b n k).length + s - (stL b n k).length = s by omega]
theorem rdF_k {b : Nat → Int} {n : Nat} (h : rdF b n = -1) : ∀ k, k ≤ 3 → (rdk b n k).2.1 = -1 := by
  have h3 : (rdk b n 3).2.1 = -1 := by
    rw [rdF_eq] at h
    refine Classical.byContradiction (fun z => ?_)
    rw [if_neg z] at h
    exact z h
  have h2 := rdk_f h3
  have h1 := rdk_f h2
  have h0 := rdk_f h1
  intro k hk
  rcases (by omega : k = 0 ∨ k = 1 ∨ k = 2 ∨ k = 3) with rfl | rfl | rfl | rfl <;> assumption
/-- what a part of a text that was read says, under names -/
def valT (b : Nat → Int) (n part : Nat) (nm : Nat → Int) : Int := (rdk b n (part + 1)).2.2.2 nm
theorem TX_tell {b : Nat → Int} {n j : Nat} {im : IM} (hF : rdF b n = -1) (h : TX b n j im) (part : Nat) (hp : part < 3) (nm k : Nat → Int) : (tellQ im j part nm k).2 0 = valT b n part nm := by
  have hk := rdF_k hF (part + 1) (by omega)
  have ea : pa im j part = (stL b n part).length := by
    unfold pa
    by_cases h0 : part = 0
    · rw [if_pos h0, h0]; rfl
    · rw [if_neg h0, h.1 (part - 1) (by omega), show part - 1 + 1 = part by omega]
      exact Int.toNat_natCast _
  have eb : pb im j part = (stL b n part).length + (rdk b n (part + 1)).2.2.1.length := by
    unfold pb
    rw [h.1 part hp, Int.toNat_natCast]
    exact List.length_append
  have hE := rdk_EV hk (im 3 j) nm (stL b n part).length 0 k (fun s hs => by
    have hg := stL_get b n part s hp hs
    rw [h.2 _ hg.2]
    exact hg.1) (Nat.le_refl _)
  obtain ⟨k', e1, e2, -⟩ := hE
  unfold tellQ
  rw [ea, eb, show (stL b n part).length + (rdk b n (part + 1)).2.2.1.length - (stL b n part).length = (rdk b n (part + 1)).2.2.1.length by omega, e1]
  exact e2
theorem TX_good {b : Nat → Int} {n j : Nat} {im : IM} (hn : n ≤ 160) (hF : rdF b n = -1) (h : TX b n j im) : goodT im j := by
  refine ⟨fun part hp => ?_, fun part hp nm k => by rw [TX_tell hF h part hp, TX_tell hF h part hp]⟩
  rw [h.1 part hp]
  have h1 := rdk_len b n (part + 1) (rdF_k hF _ (by omega))
  have h2 := rdk_le b n (part + 1)
  omega
theorem TX_tellV {b : Nat → Int} {n j : Nat} {im : IM} (hF : rdF b n = -1) (h : TX b n j im) (part : Nat) (hp : part < 3) (nm : Nat → Int) : tellV im j part nm = clip (valT b n part nm) := by
  unfold tellV
  rw [TX_tell hF h part hp]
def textF (im : IM) : Int := rdF (im 15 0) (im 14 0 1).toNat
def textA (im : IM) : Int := if im 0 0 8 < 6 then (if textF im = -1 then im 0 0 8 else -100 - textF im) else -4
/-- behind text() -/
def textR (im F : IM) : Prop := if im 0 0 8 < 6 then (∀ k i s, k ≠ 14 → ¬ (k = 2 ∧ i = (im 0 0 8).toNat ∧ s = 3) → ¬ (k = 3 ∧ i = (im 0 0 8).toNat) → ¬ (k = 4 ∧ i = (im 0 0 8).toNat) → ¬ (k = 0 ∧ i = 0 ∧ s = 8) → F k i s = im k i s) ∧ F 14 0 1 = 0 ∧ (textF im = -1 → TX (im 15 0) (im 14 0 1).toNat (im 0 0 8).toNat F ∧ F 0 0 8 = im 0 0 8 + 1) ∧ (textF im ≠ -1 → F 0 0 8 = im 0 0 8) else F = im
theorem rdF_in (b : Nat → Int) (n : Nat) : rdF b n = -1 ∨ 0 ≤ rdF b n ∧ rdF b n ≤ n := by
  have h : ∀ k, (rdk b n k).2.1 = -1 ∨ 0 ≤ (rdk b n k).2.1 ∧ (rdk b n k).2.1 ≤ n := by
    intro k
    induction k with
    | zero => exact Or.inl rfl
    | succ k ih =>
      by_cases h0 : (rdk b n k).2.1 = -1
      · rw [rdk_y h0]
        exact (PG_part b n _ (by omega) _ (rdk_le b n k)).2.2.2
      · rw [rdk_s, stP_n h0]
        exact ih
  have h3 := h 3
  have hl := rdk_le b n 3
  rw [rdF_eq]
  (repeat' split) <;> omega

set_option maxHeartbeats 4000000 in
theorem c_X8_text (l : Launch) (G : GS) (im : IM) (bt rt : Nat) (lm : IM) (hbt : bt < 6) (hrt : rt < 6) (hS : SC im) : Cn l (XC G) yX8_text Y_X8_text [vR 0 0] (im, rs bt rt, lm) (pI fun x m' => x = textA im ∧ ∃ F, textR im F ∧ RI F ∧ stC lm F m') := by
  refine cn_of (by decide) (okC G) rfl (Nat.le_of_ble_eq_true rfl) ?_
  intro M ad hMl F
  subst hMl
  obtain ⟨hR, hW, hh, htc, hru, hgt, hz, hrd, hsh, him, htp⟩ := hS
  have w1 := hW.1
  have w2 := hW.2.1
  have w3 := hW.2.2.1
  have w4 := hW.2.2.2.1
  have w5 := hW.2.2.2.2.1
  obtain ⟨c, hc⟩ : ∃ c : Nat, im 0 0 8 = c := ⟨(im 0 0 8).toNat, by omega⟩
  obtain ⟨n, hn⟩ : ∃ n : Nat, im 14 0 1 = n := ⟨(im 14 0 1).toNat, by omega⟩
  have hFi := rdF_in (im 15 0) n
  have htF : textF im = rdF (im 15 0) n := by unfold textF; rw [hn]; rfl
  have hby : byt (im 15 0) n := ⟨by omega, htp⟩
  refine wp_pad 1 ?_
  show Wp M (XC G) ad Y_X8_text (pI fun x m' => x = textA im ∧ ∃ F, textR im F ∧ RI F ∧ stC lm F m') 0 [some (vR 0 0), none] [] (im, rs bt rt, lm)
  refine q_aload_n (t := 1) F dX8_text_0 rfl rfl rfl ?_
  refine g_X8_81 (t := 4) F dX8_text_1 rfl rfl ?_
  refine q_bipush (t := 6) F dX8_text_4 (by decide) rfl ?_
  refine q_icmp_lt (t := 9) (u := 12) F dX8_text_6 (by constructor <;> omega) (by constructor <;> omega) (by decide) rfl (fun c6 => ?_) (fun c6 => ?_)
  · refine q_aload_n (t := 13) F dX8_text_12 rfl rfl rfl ?_
    refine g_X8_35 (t := 16) F dX8_text_13 rfl rfl ?_
    refine q_aload_n (t := 17) F dX8_text_16 rfl rfl rfl ?_
    refine g_X8_11 (t := 20) F dX8_text_17 rfl rfl ?_
    refine q_aload_n (t := 21) F dX8_text_20 rfl rfl rfl ?_
    refine g_X8_81 (t := 24) F dX8_text_21 rfl rfl ?_
    rw [hc]
    first | refine laN_1 (t := 25) F dX8_text_24 (by omega) rfl ?_ | refine la_1 (t := 25) F dX8_text_24 (by omega) (by omega) rfl ?_
    refine wp_callV (t := 28) [_] F dX8_text_25 k_X4_read v_X4_read ml_X8_77 rfl rfl rfl rfl (Nat.le_of_ble_eq_true rfl) (by decide) (m_14 (by omega)) (c_X4_read _ G im bt rt c lm (by omega) (im 15 0) n hby hR rfl hn) rfl (kI ?_)
    rintro x25 m' ⟨im1, rfl, hR1, ha1, h141, hTX, rfl⟩
    have e08 : im1 0 0 8 = im 0 0 8 := ha1 0 0 8 (by omega) (by omega) (by omega) (by omega)
    refine q_istore_n (t := 29) F dX8_text_28 rfl (by decide) rfl rfl ?_
    refine q_iload_n (t := 30) F dX8_text_29 rfl rfl rfl ?_
    refine q_iconst (t := 31) F dX8_text_30 rfl ?_
    refine q_icmp_eq (t := 34) (u := 39) F dX8_text_31 (by constructor <;> omega) (by constructor <;> omega) (by decide) rfl (fun c31 => ?_) (fun c31 => ?_)
    · refine q_aload_n (t := 40) F dX8_text_39 rfl rfl rfl ?_
      refine q_dupR (t := 41) F dX8_text_40 rfl ?_
      refine g_X8_81 (t := 44) F dX8_text_41 rfl rfl ?_
      try simp only [up_app, row_app, scr_app, cpy_app, Nat.reduceEqDiff, Int.reduceToNat, Int.toNat_natCast, and_true, true_and, and_false, false_and, and_self, reduceIte]
      refine q_iconst (t := 45) F dX8_text_44 rfl ?_
      refine q_iadd (t := 46) F dX8_text_45 rfl ?_
      refine p_X8_81 (t := 49) F dX8_text_46 rfl rfl ?_
      refine q_aload_n (t := 50) F dX8_text_49 rfl rfl rfl ?_
      refine g_X8_81 (t := 53) F dX8_text_50 rfl rfl ?_
      try simp only [up_app, row_app, scr_app, cpy_app, Nat.reduceEqDiff, Int.reduceToNat, Int.toNat_natCast, and_true, true_and, and_false, false_and, and_self, reduceIte]
      refine q_iconst (t := 54) F dX8_text_53 rfl ?_
      refine q_isub (t := 55) F dX8_text_54 rfl ?_
      refine q_iret F dX8_text_55 rfl ?_
      refine ⟨_, rfl, ?_, up im1 0 0 8 (im1 0 0 8 + 1), ?_, RI_up hR1 (by constructor <;> omega), up im1 0 0 8 (im1 0 0 8 + 1), bt, c, hbt, by omega, RI_up hR1 (by constructor <;> omega), agP_rfl _, rfl⟩
      · unfold textA
        rw [if_pos (by omega), if_pos (by omega)]
        omega
      · unfold textR
        rw [if_pos (by omega), hc, hn, Int.toNat_natCast, Int.toNat_natCast]
        refine ⟨fun k i s q1 q2 q3 q4 q5 => by rw [up_app, if_neg (by omega)]; exact ha1 k i s q1 q2 q3 q4, by rw [up_app, if_neg (by omega)]; exact h141, fun q => ⟨?_, ?_⟩, fun q => absurd (by omega) q⟩
        · have h1 := hTX (by omega)
          exact ⟨fun k hk => by rw [up_app, if_neg (by omega)]; exact h1.1 k hk, fun s hs => by rw [up_app, if_neg (by omega)]; exact h1.2 s hs⟩
        · rw [up_app, if_pos ⟨rfl, rfl, rfl⟩, e08, hc]
    · refine q_bipush (t := 36) F dX8_text_34 (by decide) rfl ?_
      refine q_iload_n (t := 37) F dX8_text_36 rfl rfl rfl ?_
      refine q_isub (t := 38) F dX8_text_37 rfl ?_
      refine q_iret F dX8_text_38 rfl ?_
      refine ⟨_, rfl, ?_, im1, ?_, hR1, im1, bt, c, hbt, by omega, hR1, agP_rfl _, rfl⟩
      · unfold textA
        rw [if_pos (by omega), if_neg (by omega), htF]
      · unfold textR
        rw [if_pos (by omega), hc, Int.toNat_natCast]
        exact ⟨fun k i s q1 q2 q3 q4 _ => ha1 k i s q1 q2 q3 q4, h141, fun q => by omega, fun _ => by omega⟩
  · refine q_bipush (t := 11) F dX8_text_9 (by decide) rfl ?_
    refine q_iret F dX8_text_11 rfl ?_
    refine ⟨_, rfl, ?_, im, ?_, hR, im, bt, rt, hbt, hrt, hR, agP_rfl _, rfl⟩
    · unfold textA
      rw [if_neg (by omega)]
    · unfold textR
      rw [if_neg (by omega)]

theorem SC_text {im F : IM} (hS : SC im) (hR : RI F) (h : textR im F) : SC F := by
  unfold textR at h
  split at h
  · rename_i hlt
    obtain ⟨hf, h14, hy, hn⟩ := h
    obtain ⟨hRi, hW, hh, htc, hru, hgt, hz, hrd, hsh, him, htp⟩ := hS
    have e08 : F 0 0 8 = im 0 0 8 ∨ F 0 0 8 = im 0 0 8 + 1 := by
      by_cases q : textF im = -1
      · exact Or.inr (hy q).2
      · exact Or.inl (hn q)
    have e00 : ∀ s, s ≠ 8 → F 0 0 s = im 0 0 s := fun s hs => hf 0 0 s (by omega) (by omega) (by omega) (by omega) (by omega)
    have e18 : ∀ i s, F 18 i s = im 18 i s := fun i s => hf 18 i s (by omega) (by omega) (by omega) (by omega) (by omega)
    have eT : ∀ k i s, (k = 3 ∨ k = 4) → i ≠ (im 0 0 8).toNat → F k i s = im k i s := fun k i s hk hi => hf k i s (by omega) (by omega) (by omega) (by omega) (by omega)
    have eP : ∀ k i s, 5 ≤ k → k ≠ 14 → F k i s = im k i s := fun k i s hk hk2 => hf k i s hk2 (by omega) (by omega) (by omega) (by omega)
    have hWI : ∀ w, im 18 w 7 < im 0 0 8 → WI im w → WI F w := by
      intro w hr hw
      have w4 := hw.2.2.2.1
      unfold WI
      simp only [e18]
      refine ⟨hw.1, hw.2.1, hw.2.2.1, hw.2.2.2.1, goodT_congr (fun s => eT 3 _ s (Or.inl rfl) (by omega)) (fun s => eT 4 _ s (Or.inr rfl) (by omega)) hw.2.2.2.2.1, fun p hp => ?_⟩
      have hq := hw.2.2.2.2.2 p hp
      unfold PI at hq ⊢
      simp only [eP 21 _ _ (by omega) (by omega), eP 22 _ _ (by omega) (by omega), eP 23 _ _ (by omega) (by omega)]
      exact hq
    refine ⟨hR, hWI 0 hru hW, ?_, by omega, ?_, ?_, ?_, ?_, ?_, ?_, ?_⟩
    · rw [e18]; exact hh
    · rw [e18]; omega
    · intro j hj
      by_cases hjc : j = (im 0 0 8).toNat
      · by_cases q : textF im = -1
        · rw [hjc]
          exact TX_good (by omega) q (hy q).1
        · have := hn q
          omega
      · exact goodT_congr (fun s => eT 3 _ s (Or.inl rfl) hjc) (fun s => eT 4 _ s (Or.inr rfl) hjc) (hgt j (by omega))
    · rw [eP 13 0 0 (by omega) (by omega)]; exact hz
    · rw [h14]; omega
    · intro j hj
      rw [eP 7 j 1 (by omega) (by omega), eP 7 j 2 (by omega) (by omega)]
      exact hsh j hj
    · rw [e00 9 (by omega), e18, e18]
      refine ⟨him.1, fun h9 => ?_⟩
      have := him.2 h9
      exact ⟨hWI 2 this.2.2 this.1, this.2.1, by omega⟩
    · intro i hi
      rw [eP 15 0 i (by omega) (by omega)]; exact htp i hi
  · rw [h]; exact hS
end
