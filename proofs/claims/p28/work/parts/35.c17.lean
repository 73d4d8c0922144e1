/-! THE TAPE'S READER -/
def byt (b : Nat → Int) (n : Nat) : Prop := n ≤ 160 ∧ ∀ i, i < 160 → 0 ≤ b i ∧ b i ≤ 255
/-- where the reading stands -/
def RS (b : Nat → Int) (n : Nat) (im : IM) (p : Nat) (f : Int) : Prop := im 14 0 2 = nx b n p ∧ im 14 0 3 = p ∧ im 14 0 4 = tk b n p ∧ (tk b n p = 2 ∨ tk b n p = 3 → im 14 0 5 = vl b n p) ∧ im 14 0 6 = f
def PR (b : Nat → Int) (n j : Nat) (im : IM) (p : Nat) (f : Int) : Prop := RS b n im p f ∧ RI im ∧ im 15 0 = b ∧ im 14 0 1 = n ∧ (0 ≤ im 2 j 3 ∧ im 2 j 3 ≤ 160) ∧ p ≤ n ∧ (f = -1 → im 2 j 3 ≤ p)
/-- the same but for the reading -/
def agR (j : Nat) (a b : IM) : Prop := ∀ k i s, ¬ (k = 14 ∧ 2 ≤ s ∧ s ≤ 6) → ¬ (k = 2 ∧ i = j ∧ s = 3) → ¬ (k = 3 ∧ i = j) → a k i s = b k i s
theorem agR_rfl (j : Nat) (a : IM) : agR j a a := fun _ _ _ _ _ _ => rfl
theorem agR.trans {j : Nat} {a b c : IM} (h : agR j a b) (h2 : agR j b c) : agR j a c := fun k i s h1 h3 h4 => (h k i s h1 h3 h4).trans (h2 k i s h1 h3 h4)
theorem agR_up {j : Nat} {a b : IM} {k i s : Nat} {x : Int} (h : agR j a b) (hk : (k = 14 ∧ 2 ≤ s ∧ s ≤ 6) ∨ (k = 2 ∧ i = j ∧ s = 3) ∨ (k = 3 ∧ i = j)) : agR j (up a k i s x) b := fun k' i' s' h1 h2 h3 => by
  rw [up_app, if_neg (by omega)]
  exact h k' i' s' h1 h2 h3

set_option maxHeartbeats 4000000 in
theorem c_X4_isLetter (l : Launch) (G : GS) (im : IM) (bt j : Nat) (lm : IM) (c : Int) (hc : ri c) : Cn l (XC G) yX4_isLetter Y_X4_isLetter [vI c] (im, rs bt j, lm) (pI fun x m' => x = (if isL c = true then 1 else 0) ∧ m' = (im, rs bt j, lm)) := by
  refine cn_of (by decide) (okC G) rfl (Nat.le_of_ble_eq_true rfl) ?_
  intro M ad hMl F
  subst hMl
  have hc1 := hc.1
  have hc2 := hc.2
  refine wp_pad 0 ?_
  show Wp M (XC G) ad Y_X4_isLetter (pI fun x m' => x = (if isL c = true then 1 else 0) ∧ m' = (im, rs bt j, lm)) 0 [some (vI c)] [] (im, rs bt j, lm)
  refine q_iload_n (t := 1) F dX4_isLetter_0 rfl rfl rfl ?_
  refine q_bipush (t := 3) F dX4_isLetter_1 (by decide) rfl ?_
  refine q_icmp_lt (t := 6) (u := 16) F dX4_isLetter_3 (by first | exact hR _ _ _ | (constructor <;> omega)) (by first | exact hR _ _ _ | (constructor <;> omega)) (by decide) rfl (fun c3 => ?_) (fun c3 => ?_)
  · refine q_iconst (t := 17) F dX4_isLetter_16 rfl ?_
    refine q_zret F dX4_isLetter_17 rfl (by decide) ?_
    first
      | exact ⟨_, rfl, by rw [if_pos (isL_iff.mpr (by omega))], rfl⟩
      | exact ⟨_, rfl, by rw [if_neg (fun q => by have := isL_iff.mp q; omega)], rfl⟩
  · refine q_iload_n (t := 7) F dX4_isLetter_6 rfl rfl rfl ?_
    refine q_bipush (t := 9) F dX4_isLetter_7 (by decide) rfl ?_
    refine q_icmp_gt (t := 12) (u := 16) F dX4_isLetter_9 (by first | exact hR _ _ _ | (constructor <;> omega)) (by first | exact hR _ _ _ | (constructor <;> omega)) (by decide) rfl (fun c9 => ?_) (fun c9 => ?_)
    · refine q_iconst (t := 17) F dX4_isLetter_16 rfl ?_
      refine q_zret F dX4_isLetter_17 rfl (by decide) ?_
      first
        | exact ⟨_, rfl, by rw [if_pos (isL_iff.mpr (by omega))], rfl⟩
        | exact ⟨_, rfl, by rw [if_neg (fun q => by have := isL_iff.mp q; omega)], rfl⟩
    · refine q_iconst (t := 13) F dX4_isLetter_12 rfl ?_
      refine q_goto (t := 17) F dX4_isLetter_13 (by decide) ?_
      refine q_zret F dX4_isLetter_17 rfl (by decide) ?_
      first
        | exact ⟨_, rfl, by rw [if_pos (isL_iff.mpr (by omega))], rfl⟩
        | exact ⟨_, rfl, by rw [if_neg (fun q => by have := isL_iff.mp q; omega)], rfl⟩

set_option maxHeartbeats 4000000 in
theorem c_X4_isDigit (l : Launch) (G : GS) (im : IM) (bt j : Nat) (lm : IM) (c : Int) (hc : ri c) : Cn l (XC G) yX4_isDigit Y_X4_isDigit [vI c] (im, rs bt j, lm) (pI fun x m' => x = (if isD c = true then 1 else 0) ∧ m' = (im, rs bt j, lm)) := by
  refine cn_of (by decide) (okC G) rfl (Nat.le_of_ble_eq_true rfl) ?_
  intro M ad hMl F
  subst hMl
  have hc1 := hc.1
  have hc2 := hc.2
  refine wp_pad 0 ?_
  show Wp M (XC G) ad Y_X4_isDigit (pI fun x m' => x = (if isD c = true then 1 else 0) ∧ m' = (im, rs bt j, lm)) 0 [some (vI c)] [] (im, rs bt j, lm)
  refine q_iload_n (t := 1) F dX4_isDigit_0 rfl rfl rfl ?_
  refine q_bipush (t := 3) F dX4_isDigit_1 (by decide) rfl ?_
  refine q_icmp_lt (t := 6) (u := 16) F dX4_isDigit_3 (by first | exact hR _ _ _ | (constructor <;> omega)) (by first | exact hR _ _ _ | (constructor <;> omega)) (by decide) rfl (fun c3 => ?_) (fun c3 => ?_)
  · refine q_iconst (t := 17) F dX4_isDigit_16 rfl ?_
    refine q_zret F dX4_isDigit_17 rfl (by decide) ?_
    first
      | exact ⟨_, rfl, by rw [if_pos (isD_iff.mpr (by omega))], rfl⟩
      | exact ⟨_, rfl, by rw [if_neg (fun q => by have := isD_iff.mp q; omega)], rfl⟩
  · refine q_iload_n (t := 7) F dX4_isDigit_6 rfl rfl rfl ?_
    refine q_bipush (t := 9) F dX4_isDigit_7 (by decide) rfl ?_
    refine q_icmp_gt (t := 12) (u := 16) F dX4_isDigit_9 (by first | exact hR _ _ _ | (constructor <;> omega)) (by first | exact hR _ _ _ | (constructor <;> omega)) (by decide) rfl (fun c9 => ?_) (fun c9 => ?_)
    · refine q_iconst (t := 17) F dX4_isDigit_16 rfl ?_
      refine q_zret F dX4_isDigit_17 rfl (by decide) ?_
      first
        | exact ⟨_, rfl, by rw [if_pos (isD_iff.mpr (by omega))], rfl⟩
        | exact ⟨_, rfl, by rw [if_neg (fun q => by have := isD_iff.mp q; omega)], rfl⟩
    · refine q_iconst (t := 13) F dX4_isDigit_12 rfl ?_
      refine q_goto (t := 17) F dX4_isDigit_13 (by decide) ?_
      refine q_zret F dX4_isDigit_17 rfl (by decide) ?_
      first
        | exact ⟨_, rfl, by rw [if_pos (isD_iff.mpr (by omega))], rfl⟩
        | exact ⟨_, rfl, by rw [if_neg (fun q => by have := isD_iff.mp q; omega)], rfl⟩

set_option maxHeartbeats 4000000 in
theorem c_X4_at (l : Launch) (G : GS) (im : IM) (bt j : Nat) (lm : IM) (hR : RI im) (k : Int) (hk : ri k) : Cn l (XC G) yX4_at Y_X4_at [vR 14 0, vI k] (im, rs bt j, lm) (pI fun x m' => x = (if im 14 0 6 = -1 ∧ im 14 0 4 = k then 1 else 0) ∧ m' = (im, rs bt j, lm)) := by
  refine cn_of (by decide) (okC G) rfl (Nat.le_of_ble_eq_true rfl) ?_
  intro M ad hMl F
  subst hMl
  have hk1 := hk.1
  have hk2 := hk.2
  refine wp_pad 0 ?_
  show Wp M (XC G) ad Y_X4_at (pI fun x m' => x = (if im 14 0 6 = -1 ∧ im 14 0 4 = k then 1 else 0) ∧ m' = (im, rs bt j, lm)) 0 [some (vR 14 0), some (vI k)] [] (im, rs bt j, lm)
  refine q_aload_n (t := 1) F dX4_at_0 rfl rfl rfl ?_
  refine g_X4_28 (t := 4) F dX4_at_1 rfl rfl ?_
  refine q_iconst (t := 5) F dX4_at_4 rfl ?_
  refine q_icmp_ne (t := 8) (u := 20) F dX4_at_5 (by first | exact hR _ _ _ | (constructor <;> omega)) (by first | exact hR _ _ _ | (constructor <;> omega)) (by decide) rfl (fun c5 => ?_) (fun c5 => ?_)
  · refine q_iconst (t := 21) F dX4_at_20 rfl ?_
    refine q_zret F dX4_at_21 rfl (by decide) ?_
    first
      | exact ⟨_, rfl, by rw [if_pos (by omega)], rfl⟩
      | exact ⟨_, rfl, by rw [if_neg (by omega)], rfl⟩
  · refine q_aload_n (t := 9) F dX4_at_8 rfl rfl rfl ?_
    refine g_X4_54 (t := 12) F dX4_at_9 rfl rfl ?_
    refine q_iload_n (t := 13) F dX4_at_12 rfl rfl rfl ?_
    refine q_icmp_ne (t := 16) (u := 20) F dX4_at_13 (by exact hR _ _ _) (by constructor <;> omega) (by decide) rfl (fun c13 => ?_) (fun c13 => ?_)
    · refine q_iconst (t := 21) F dX4_at_20 rfl ?_
      refine q_zret F dX4_at_21 rfl (by decide) ?_
      first
        | exact ⟨_, rfl, by rw [if_pos (by omega)], rfl⟩
        | exact ⟨_, rfl, by rw [if_neg (by omega)], rfl⟩
    · refine q_iconst (t := 17) F dX4_at_16 rfl ?_
      refine q_goto (t := 21) F dX4_at_17 (by decide) ?_
      refine q_zret F dX4_at_21 rfl (by decide) ?_
      first
        | exact ⟨_, rfl, by rw [if_pos (by omega)], rfl⟩
        | exact ⟨_, rfl, by rw [if_neg (by omega)], rfl⟩

set_option maxHeartbeats 4000000 in
theorem c_X4_fail (l : Launch) (G : GS) (im : IM) (bt j : Nat) (lm : IM) (hR : RI im) : Cn l (XC G) yX4_fail Y_X4_fail [vR 14 0] (im, rs bt j, lm) (pV fun m' => m' = ((if im 14 0 6 = -1 then up im 14 0 6 (im 14 0 3) else im), rs bt j, lm)) := by
  refine cn_of (by decide) (okC G) rfl (Nat.le_of_ble_eq_true rfl) ?_
  intro M ad hMl F
  subst hMl
  refine wp_pad 0 ?_
  show Wp M (XC G) ad Y_X4_fail (pV fun m' => m' = ((if im 14 0 6 = -1 then up im 14 0 6 (im 14 0 3) else im), rs bt j, lm)) 0 [some (vR 14 0)] [] (im, rs bt j, lm)
  refine q_aload_n (t := 1) F dX4_fail_0 rfl rfl rfl ?_
  refine g_X4_28 (t := 4) F dX4_fail_1 rfl rfl ?_
  refine q_iconst (t := 5) F dX4_fail_4 rfl ?_
  refine q_icmp_ne (t := 8) (u := 16) F dX4_fail_5 (by first | exact hR _ _ _ | (constructor <;> omega)) (by first | exact hR _ _ _ | (constructor <;> omega)) (by decide) rfl (fun c5 => ?_) (fun c5 => ?_)
  · refine q_vret F dX4_fail_16 rfl ?_
    first
      | exact ⟨rfl, by rw [if_pos (by omega)]⟩
      | exact ⟨rfl, by rw [if_neg (by omega)]⟩
  · refine q_aload_n (t := 9) F dX4_fail_8 rfl rfl rfl ?_
    refine q_aload_n (t := 10) F dX4_fail_9 rfl rfl rfl ?_
    refine g_X4_57 (t := 13) F dX4_fail_10 rfl rfl ?_
    refine p_X4_28 (t := 16) F dX4_fail_13 rfl rfl ?_
    refine q_vret F dX4_fail_16 rfl ?_
    first
      | exact ⟨rfl, by rw [if_pos (by omega)]⟩
      | exact ⟨rfl, by rw [if_neg (by omega)]⟩

set_option maxHeartbeats 4000000 in
theorem c_X4_readSign (l : Launch) (G : GS) (im : IM) (bt j : Nat) (lm : IM) (b : Nat → Int) (n : Nat) (hb : byt b n) (hR : RI im) (hb2 : im 15 0 = b) (p : Nat) (hp : p < n) (hnx : im 14 0 2 = p) : Cn l (XC G) yX4_readSign Y_X4_readSign [vR 14 0] (im, rs bt j, lm) (pV fun m' => m' = (up (up im 14 0 4 (if sgn (b p) then b p else 1)) 14 0 2 ((p : Int) + 1), rs bt j, lm)) := by
  refine cn_of (by decide) (okC G) rfl (Nat.le_of_ble_eq_true rfl) ?_
  intro M ad hMl F
  subst hMl
  have hn := hb.1
  have hbp := hb.2 p (by omega)
  have e15 : ∀ s, im 15 0 s = b s := fun s => congrFun hb2 s
  refine wp_pad 2 ?_
  show Wp M (XC G) ad Y_X4_readSign (pV fun m' => m' = (up (up im 14 0 4 (if sgn (b p) then b p else 1)) 14 0 2 ((p : Int) + 1), rs bt j, lm)) 0 [some (vR 14 0), none, none] [] (im, rs bt j, lm)
  refine q_aload_n (t := 1) F dX4_readSign_0 rfl rfl rfl ?_
  refine g_X4_9 (t := 4) F dX4_readSign_1 rfl rfl ?_
  refine q_aload_n (t := 5) F dX4_readSign_4 rfl rfl rfl ?_
  refine g_X4_31 (t := 8) F dX4_readSign_5 rfl rfl ?_
  try simp only [up_app, row_app, scr_app, cpy_app, Nat.reduceEqDiff, Int.reduceToNat, Int.toNat_natCast, and_true, true_and, and_false, false_and, and_self, reduceIte]
  rw [hnx]
  first | refine ldN_15 (t := 9) F dX4_readSign_8 (by omega) rfl ?_ | refine ld_15 (t := 9) F dX4_readSign_8 (by omega) (by omega) rfl ?_
  try simp only [up_app, row_app, scr_app, cpy_app, Nat.reduceEqDiff, Int.reduceToNat, Int.toNat_natCast, and_true, true_and, and_false, false_and, and_self, reduceIte]
  rw [e15]
  refine q_istore_n (t := 10) F dX4_readSign_9 rfl (by decide) rfl rfl ?_
  refine q_iload_n (t := 11) F dX4_readSign_10 rfl rfl rfl ?_
  refine q_bipush (t := 13) F dX4_readSign_11 (by decide) rfl ?_
  refine q_icmp_eq (t := 16) (u := 58) F dX4_readSign_13 (by first | exact hR _ _ _ | (constructor <;> omega)) (by first | exact hR _ _ _ | (constructor <;> omega)) (by decide) rfl (fun c13 => ?_) (fun c13 => ?_)
  · refine q_iconst (t := 59) F dX4_readSign_58 rfl ?_
    refine q_goto (t := 63) F dX4_readSign_59 (by decide) ?_
    refine q_istore_n (t := 64) F dX4_readSign_63 rfl (by decide) rfl rfl ?_
    refine q_aload_n (t := 65) F dX4_readSign_64 rfl rfl rfl ?_
    refine q_iload_n (t := 66) F dX4_readSign_65 rfl rfl rfl ?_
    refine q_if_eq (t := 69) (u := 73) F dX4_readSign_66 (by first | exact hR _ _ _ | (constructor <;> omega)) (by decide) rfl (fun c66 => ?_) (fun c66 => ?_)
    · refine q_iconst (t := 74) F dX4_readSign_73 rfl ?_
      refine p_X4_54 (t := 77) F dX4_readSign_74 rfl rfl ?_
      refine q_aload_n (t := 78) F dX4_readSign_77 rfl rfl rfl ?_
      refine q_dupR (t := 79) F dX4_readSign_78 rfl ?_
      refine g_X4_31 (t := 82) F dX4_readSign_79 rfl rfl ?_
      try simp only [up_app, row_app, scr_app, cpy_app, Nat.reduceEqDiff, Int.reduceToNat, Int.toNat_natCast, and_true, true_and, and_false, false_and, and_self, reduceIte]
      refine q_iconst (t := 83) F dX4_readSign_82 rfl ?_
      refine q_iadd (t := 84) F dX4_readSign_83 rfl ?_
      refine p_X4_31 (t := 87) F dX4_readSign_84 rfl rfl ?_
      refine q_vret F dX4_readSign_87 rfl ?_
      first
        | (exfalso; omega)
        | (refine ⟨rfl, ?_⟩
           show (_ : Mem) = _
           rw [hnx]
           first | rw [if_pos (by omega)] | rw [if_neg (by omega)])
    · refine q_iload_n (t := 70) F dX4_readSign_69 rfl rfl rfl ?_
      refine q_goto (t := 74) F dX4_readSign_70 (by decide) ?_
      refine p_X4_54 (t := 77) F dX4_readSign_74 rfl rfl ?_
      refine q_aload_n (t := 78) F dX4_readSign_77 rfl rfl rfl ?_
      refine q_dupR (t := 79) F dX4_readSign_78 rfl ?_
      refine g_X4_31 (t := 82) F dX4_readSign_79 rfl rfl ?_
      try simp only [up_app, row_app, scr_app, cpy_app, Nat.reduceEqDiff, Int.reduceToNat, Int.toNat_natCast, and_true, true_and, and_false, false_and, and_self, reduceIte]
      refine q_iconst (t := 83) F dX4_readSign_82 rfl ?_
      refine q_iadd (t := 84) F dX4_readSign_83 rfl ?_
      refine p_X4_31 (t := 87) F dX4_readSign_84 rfl rfl ?_
      refine q_vret F dX4_readSign_87 rfl ?_
      first
        | (exfalso; omega)
        | (refine ⟨rfl, ?_⟩
           show (_ : Mem) = _
           rw [hnx]
           first | rw [if_pos (by omega)] | rw [if_neg (by omega)])
  · refine q_iload_n (t := 17) F dX4_readSign_16 rfl rfl rfl ?_
    refine q_bipush (t := 19) F dX4_readSign_17 (by decide) rfl ?_
    refine q_icmp_eq (t := 22) (u := 58) F dX4_readSign_19 (by first | exact hR _ _ _ | (constructor <;> omega)) (by first | exact hR _ _ _ | (constructor <;> omega)) (by decide) rfl (fun c19 => ?_) (fun c19 => ?_)
    · refine q_iconst (t := 59) F dX4_readSign_58 rfl ?_
      refine q_goto (t := 63) F dX4_readSign_59 (by decide) ?_
      refine q_istore_n (t := 64) F dX4_readSign_63 rfl (by decide) rfl rfl ?_
      refine q_aload_n (t := 65) F dX4_readSign_64 rfl rfl rfl ?_
      refine q_iload_n (t := 66) F dX4_readSign_65 rfl rfl rfl ?_
      refine q_if_eq (t := 69) (u := 73) F dX4_readSign_66 (by first | exact hR _ _ _ | (constructor <;> omega)) (by decide) rfl (fun c66 => ?_) (fun c66 => ?_)
      · refine q_iconst (t := 74) F dX4_readSign_73 rfl ?_
        refine p_X4_54 (t := 77) F dX4_readSign_74 rfl rfl ?_
        refine q_aload_n (t := 78) F dX4_readSign_77 rfl rfl rfl ?_
        refine q_dupR (t := 79) F dX4_readSign_78 rfl ?_
        refine g_X4_31 (t := 82) F dX4_readSign_79 rfl rfl ?_
        try simp only [up_app, row_app, scr_app, cpy_app, Nat.reduceEqDiff, Int.reduceToNat, Int.toNat_natCast, and_true, true_and, and_false, false_and, and_self, reduceIte]
        refine q_iconst (t := 83) F dX4_readSign_82 rfl ?_
        refine q_iadd (t := 84) F dX4_readSign_83 rfl ?_
        refine p_X4_31 (t := 87) F dX4_readSign_84 rfl rfl ?_
        refine q_vret F dX4_readSign_87 rfl ?_
        first
          | (exfalso; omega)
          | (refine ⟨rfl, ?_⟩
             show (_ : Mem) = _
             rw [hnx]
             first | rw [if_pos (by omega)] | rw [if_neg (by omega)])
      · refine q_iload_n (t := 70) F dX4_readSign_69 rfl rfl rfl ?_
        refine q_goto (t := 74) F dX4_readSign_70 (by decide) ?_
        refine p_X4_54 (t := 77) F dX4_readSign_74 rfl rfl ?_
        refine q_aload_n (t := 78) F dX4_readSign_77 rfl rfl rfl ?_
        refine q_dupR (t := 79) F dX4_readSign_78 rfl ?_
        refine g_X4_31 (t := 82) F dX4_readSign_79 rfl rfl ?_
        try simp only [up_app, row_app, scr_app, cpy_app, Nat.reduceEqDiff, Int.reduceToNat, Int.toNat_natCast, and_true, true_and, and_false, false_and, and_self, reduceIte]
        refine q_iconst (t := 83) F dX4_readSign_82 rfl ?_
        refine q_iadd (t := 84) F dX4_readSign_83 rfl ?_
        refine p_X4_31 (t := 87) F dX4_readSign_84 rfl rfl ?_
        refine q_vret F dX4_readSign_87 rfl ?_
        first
          | (exfalso; omega)
          | (refine ⟨rfl, ?_⟩
             show (_ : Mem) = _
             rw [hnx]
             first | rw [if_pos (by omega)] | rw [if_neg (by omega)])
    · refine q_iload_n (t := 23) F dX4_readSign_22 rfl rfl rfl ?_
      refine q_bipush (t := 25) F dX4_readSign_23 (by decide) rfl ?_
      refine q_icmp_eq (t := 28) (u := 58) F dX4_readSign_25 (by first | exact hR _ _ _ | (constructor <;> omega)) (by first | exact hR _ _ _ | (constructor <;> omega)) (by decide) rfl (fun c25 => ?_) (fun c25 => ?_)
      · refine q_iconst (t := 59) F dX4_readSign_58 rfl ?_
        refine q_goto (t := 63) F dX4_readSign_59 (by decide) ?_
        refine q_istore_n (t := 64) F dX4_readSign_63 rfl (by decide) rfl rfl ?_
        refine q_aload_n (t := 65) F dX4_readSign_64 rfl rfl rfl ?_
        refine q_iload_n (t := 66) F dX4_readSign_65 rfl rfl rfl ?_
        refine q_if_eq (t := 69) (u := 73) F dX4_readSign_66 (by first | exact hR _ _ _ | (constructor <;> omega)) (by decide) rfl (fun c66 => ?_) (fun c66 => ?_)
        · refine q_iconst (t := 74) F dX4_readSign_73 rfl ?_
          refine p_X4_54 (t := 77) F dX4_readSign_74 rfl rfl ?_
          refine q_aload_n (t := 78) F dX4_readSign_77 rfl rfl rfl ?_
          refine q_dupR (t := 79) F dX4_readSign_78 rfl ?_
          refine g_X4_31 (t := 82) F dX4_readSign_79 rfl rfl ?_
          try simp only [up_app, row_app, scr_app, cpy_app, Nat.reduceEqDiff, Int.reduceToNat, Int.toNat_natCast, and_true, true_and, and_false, false_and, and_self, reduceIte]
          refine q_iconst (t := 83) F dX4_readSign_82 rfl ?_
          refine q_iadd (t := 84) F dX4_readSign_83 rfl ?_
          refine p_X4_31 (t := 87) F dX4_readSign_84 rfl rfl ?_
          refine q_vret F dX4_readSign_87 rfl ?_
          first
            | (exfalso; omega)
            | (refine ⟨rfl, ?_⟩
               show (_ : Mem) = _
               rw [hnx]
               first | rw [if_pos (by omega)] | rw [if_neg (by omega)])
        · refine q_iload_n (t := 70) F dX4_readSign_69 rfl rfl rfl ?_
          refine q_goto (t := 74) F dX4_readSign_70 (by decide) ?_
          refine p_X4_54 (t := 77) F dX4_readSign_74 rfl rfl ?_
          refine q_aload_n (t := 78) F dX4_readSign_77 rfl rfl rfl ?_
          refine q_dupR (t := 79) F dX4_readSign_78 rfl ?_
          refine g_X4_31 (t := 82) F dX4_readSign_79 rfl rfl ?_
          try simp only [up_app, row_app, scr_app, cpy_app, Nat.reduceEqDiff, Int.reduceToNat, Int.toNat_natCast, and_true, true_and, and_false, false_and, and_self, reduceIte]
          refine q_iconst (t := 83) F dX4_readSign_82 rfl ?_
          refine q_iadd (t := 84) F dX4_readSign_83 rfl ?_
          refine p_X4_31 (t := 87) F dX4_readSign_84 rfl rfl ?_
          refine q_vret F dX4_readSign_87 rfl ?_
          first
            | (exfalso; omega)
            | (refine ⟨rfl, ?_⟩
               show (_ : Mem) = _
               rw [hnx]
               first | rw [if_pos (by omega)] | rw [if_neg (by omega)])
      · refine q_iload_n (t := 29) F dX4_readSign_28 rfl rfl rfl ?_
        refine q_bipush (t := 31) F dX4_readSign_29 (by decide) rfl ?_
        refine q_icmp_eq (t := 34) (u := 58) F dX4_readSign_31 (by first | exact hR _ _ _ | (constructor <;> omega)) (by first | exact hR _ _ _ | (constructor <;> omega)) (by decide) rfl (fun c31 => ?_) (fun c31 => ?_)
        · refine q_iconst (t := 59) F dX4_readSign_58 rfl ?_
          refine q_goto (t := 63) F dX4_readSign_59 (by decide) ?_
          refine q_istore_n (t := 64) F dX4_readSign_63 rfl (by decide) rfl rfl ?_
          refine q_aload_n (t := 65) F dX4_readSign_64 rfl rfl rfl ?_
          refine q_iload_n (t := 66) F dX4_readSign_65 rfl rfl rfl ?_
          refine q_if_eq (t := 69) (u := 73) F dX4_readSign_66 (by first | exact hR _ _ _ | (constructor <;> omega)) (by decide) rfl (fun c66 => ?_) (fun c66 => ?_)
          · refine q_iconst (t := 74) F dX4_readSign_73 rfl ?_
            refine p_X4_54 (t := 77) F dX4_readSign_74 rfl rfl ?_
            refine q_aload_n (t := 78) F dX4_readSign_77 rfl rfl rfl ?_
            refine q_dupR (t := 79) F dX4_readSign_78 rfl ?_
            refine g_X4_31 (t := 82) F dX4_readSign_79 rfl rfl ?_
            try simp only [up_app, row_app, scr_app, cpy_app, Nat.reduceEqDiff, Int.reduceToNat, Int.toNat_natCast, and_true, true_and, and_false, false_and, and_self, reduceIte]
            refine q_iconst (t := 83) F dX4_readSign_82 rfl ?_
            refine q_iadd (t := 84) F dX4_readSign_83 rfl ?_
            refine p_X4_31 (t := 87) F dX4_readSign_84 rfl rfl ?_
            refine q_vret F dX4_readSign_87 rfl ?_
            first
              | (exfalso; omega)
              | (refine ⟨rfl, ?_⟩
                 show (_ : Mem) = _
                 rw [hnx]
                 first | rw [if_pos (by omega)] | rw [if_neg (by omega)])
          · refine q_iload_n (t := 70) F dX4_readSign_69 rfl rfl rfl ?_
            refine q_goto (t := 74) F dX4_readSign_70 (by decide) ?_
            refine p_X4_54 (t := 77) F dX4_readSign_74 rfl rfl ?_
            refine q_aload_n (t := 78) F dX4_readSign_77 rfl rfl rfl ?_
            refine q_dupR (t := 79) F dX4_readSign_78 rfl ?_
            refine g_X4_31 (t := 82) F dX4_readSign_79 rfl rfl ?_
            try simp only [up_app, row_app, scr_app, cpy_app, Nat.reduceEqDiff, Int.reduceToNat, Int.toNat_natCast, and_true, true_and, and_false, false_and, and_self, reduceIte]
            refine q_iconst (t := 83) F dX4_readSign_82 rfl ?_
            refine q_iadd (t := 84) F dX4_readSign_83 rfl ?_
            refine p_X4_31 (t := 87) F dX4_readSign_84 rfl rfl ?_
            refine q_vret F dX4_readSign_87 rfl ?_
            first
              | (exfalso; omega)
              | (refine ⟨rfl, ?_⟩
                 show (_ : Mem) = _
                 rw [hnx]
                 first | rw [if_pos (by omega)] | rw [if_neg (by omega)])
        · refine q_iload_n (t := 35) F dX4_readSign_34 rfl rfl rfl ?_
          refine q_bipush (t := 37) F dX4_readSign_35 (by decide) rfl ?_
          refine q_icmp_eq (t := 40) (u := 58) F dX4_readSign_37 (by first | exact hR _ _ _ | (constructor <;> omega)) (by first | exact hR _ _ _ | (constructor <;> omega)) (by decide) rfl (fun c37 => ?_) (fun c37 => ?_)
          · refine q_iconst (t := 59) F dX4_readSign_58 rfl ?_
            refine q_goto (t := 63) F dX4_readSign_59 (by decide) ?_
            refine q_istore_n (t := 64) F dX4_readSign_63 rfl (by decide) rfl rfl ?_
            refine q_aload_n (t := 65) F dX4_readSign_64 rfl rfl rfl ?_
            refine q_iload_n (t := 66) F dX4_readSign_65 rfl rfl rfl ?_
            refine q_if_eq (t := 69) (u := 73) F dX4_readSign_66 (by first | exact hR _ _ _ | (constructor <;> omega)) (by decide) rfl (fun c66 => ?_) (fun c66 => ?_)
            · refine q_iconst (t := 74) F dX4_readSign_73 rfl ?_
              refine p_X4_54 (t := 77) F dX4_readSign_74 rfl rfl ?_
              refine q_aload_n (t := 78) F dX4_readSign_77 rfl rfl rfl ?_
              refine q_dupR (t := 79) F dX4_readSign_78 rfl ?_
              refine g_X4_31 (t := 82) F dX4_readSign_79 rfl rfl ?_
              try simp only [up_app, row_app, scr_app, cpy_app, Nat.reduceEqDiff, Int.reduceToNat, Int.toNat_natCast, and_true, true_and, and_false, false_and, and_self, reduceIte]
              refine q_iconst (t := 83) F dX4_readSign_82 rfl ?_
              refine q_iadd (t := 84) F dX4_readSign_83 rfl ?_
              refine p_X4_31 (t := 87) F dX4_readSign_84 rfl rfl ?_
              refine q_vret F dX4_readSign_87 rfl ?_
              first
                | (exfalso; omega)
                | (refine ⟨rfl, ?_⟩
                   show (_ : Mem) = _
                   rw [hnx]
                   first | rw [if_pos (by omega)] | rw [if_neg (by omega)])
            · refine q_iload_n (t := 70) F dX4_readSign_69 rfl rfl rfl ?_
              refine q_goto (t := 74) F dX4_readSign_70 (by decide) ?_
              refine p_X4_54 (t := 77) F dX4_readSign_74 rfl rfl ?_
              refine q_aload_n (t := 78) F dX4_readSign_77 rfl rfl rfl ?_
              refine q_dupR (t := 79) F dX4_readSign_78 rfl ?_
              refine g_X4_31 (t := 82) F dX4_readSign_79 rfl rfl ?_
              try simp only [up_app, row_app, scr_app, cpy_app, Nat.reduceEqDiff, Int.reduceToNat, Int.toNat_natCast, and_true, true_and, and_false, false_and, and_self, reduceIte]
              refine q_iconst (t := 83) F dX4_readSign_82 rfl ?_
              refine q_iadd (t := 84) F dX4_readSign_83 rfl ?_
              refine p_X4_31 (t := 87) F dX4_readSign_84 rfl rfl ?_
              refine q_vret F dX4_readSign_87 rfl ?_
              first
                | (exfalso; omega)
                | (refine ⟨rfl, ?_⟩
                   show (_ : Mem) = _
                   rw [hnx]
                   first | rw [if_pos (by omega)] | rw [if_neg (by omega)])
          · refine q_iload_n (t := 41) F dX4_readSign_40 rfl rfl rfl ?_
            refine q_bipush (t := 43) F dX4_readSign_41 (by decide) rfl ?_
            refine q_icmp_eq (t := 46) (u := 58) F dX4_readSign_43 (by first | exact hR _ _ _ | (constructor <;> omega)) (by first | exact hR _ _ _ | (constructor <;> omega)) (by decide) rfl (fun c43 => ?_) (fun c43 => ?_)
            · refine q_iconst (t := 59) F dX4_readSign_58 rfl ?_
              refine q_goto (t := 63) F dX4_readSign_59 (by decide) ?_
              refine q_istore_n (t := 64) F dX4_readSign_63 rfl (by decide) rfl rfl ?_
              refine q_aload_n (t := 65) F dX4_readSign_64 rfl rfl rfl ?_
              refine q_iload_n (t := 66) F dX4_readSign_65 rfl rfl rfl ?_
              refine q_if_eq (t := 69) (u := 73) F dX4_readSign_66 (by first | exact hR _ _ _ | (constructor <;> omega)) (by decide) rfl (fun c66 => ?_) (fun c66 => ?_)
              · refine q_iconst (t := 74) F dX4_readSign_73 rfl ?_
                refine p_X4_54 (t := 77) F dX4_readSign_74 rfl rfl ?_
                refine q_aload_n (t := 78) F dX4_readSign_77 rfl rfl rfl ?_
                refine q_dupR (t := 79) F dX4_readSign_78 rfl ?_
                refine g_X4_31 (t := 82) F dX4_readSign_79 rfl rfl ?_
                try simp only [up_app, row_app, scr_app, cpy_app, Nat.reduceEqDiff, Int.reduceToNat, Int.toNat_natCast, and_true, true_and, and_false, false_and, and_self, reduceIte]
                refine q_iconst (t := 83) F dX4_readSign_82 rfl ?_
                refine q_iadd (t := 84) F dX4_readSign_83 rfl ?_
                refine p_X4_31 (t := 87) F dX4_readSign_84 rfl rfl ?_
                refine q_vret F dX4_readSign_87 rfl ?_
                first
                  | (exfalso; omega)
                  | (refine ⟨rfl, ?_⟩
                     show (_ : Mem) = _
                     rw [hnx]
                     first | rw [if_pos (by omega)] | rw [if_neg (by omega)])
              · refine q_iload_n (t := 70) F dX4_readSign_69 rfl rfl rfl ?_
                refine q_goto (t := 74) F dX4_readSign_70 (by decide) ?_
                refine p_X4_54 (t := 77) F dX4_readSign_74 rfl rfl ?_
                refine q_aload_n (t := 78) F dX4_readSign_77 rfl rfl rfl ?_
                refine q_dupR (t := 79) F dX4_readSign_78 rfl ?_
                refine g_X4_31 (t := 82) F dX4_readSign_79 rfl rfl ?_
                try simp only [up_app, row_app, scr_app, cpy_app, Nat.reduceEqDiff, Int.reduceToNat, Int.toNat_natCast, and_true, true_and, and_false, false_and, and_self, reduceIte]
                refine q_iconst (t := 83) F dX4_readSign_82 rfl ?_
                refine q_iadd (t := 84) F dX4_readSign_83 rfl ?_
                refine p_X4_31 (t := 87) F dX4_readSign_84 rfl rfl ?_
                refine q_vret F dX4_readSign_87 rfl ?_
                first
                  | (exfalso; omega)
                  | (refine ⟨rfl, ?_⟩
                     show (_ : Mem) = _
                     rw [hnx]
                     first | rw [if_pos (by omega)] | rw [if_neg (by omega)])
            · refine q_iload_n (t := 47) F dX4_readSign_46 rfl rfl rfl ?_
              refine q_bipush (t := 49) F dX4_readSign_47 (by decide) rfl ?_
              refine q_icmp_eq (t := 52) (u := 58) F dX4_readSign_49 (by first | exact hR _ _ _ | (constructor <;> omega)) (by first | exact hR _ _ _ | (constructor <;> omega)) (by decide) rfl (fun c49 => ?_) (fun c49 => ?_)
              · refine q_iconst (t := 59) F dX4_readSign_58 rfl ?_
                refine q_goto (t := 63) F dX4_readSign_59 (by decide) ?_
                refine q_istore_n (t := 64) F dX4_readSign_63 rfl (by decide) rfl rfl ?_
                refine q_aload_n (t := 65) F dX4_readSign_64 rfl rfl rfl ?_
                refine q_iload_n (t := 66) F dX4_readSign_65 rfl rfl rfl ?_
                refine q_if_eq (t := 69) (u := 73) F dX4_readSign_66 (by first | exact hR _ _ _ | (constructor <;> omega)) (by decide) rfl (fun c66 => ?_) (fun c66 => ?_)
                · refine q_iconst (t := 74) F dX4_readSign_73 rfl ?_
                  refine p_X4_54 (t := 77) F dX4_readSign_74 rfl rfl ?_
                  refine q_aload_n (t := 78) F dX4_readSign_77 rfl rfl rfl ?_
                  refine q_dupR (t := 79) F dX4_readSign_78 rfl ?_
                  refine g_X4_31 (t := 82) F dX4_readSign_79 rfl rfl ?_
                  try simp only [up_app, row_app, scr_app, cpy_app, Nat.reduceEqDiff, Int.reduceToNat, Int.toNat_natCast, and_true, true_and, and_false, false_and, and_self, reduceIte]
                  refine q_iconst (t := 83) F dX4_readSign_82 rfl ?_
                  refine q_iadd (t := 84) F dX4_readSign_83 rfl ?_
                  refine p_X4_31 (t := 87) F dX4_readSign_84 rfl rfl ?_
                  refine q_vret F dX4_readSign_87 rfl ?_
                  first
                    | (exfalso; omega)
                    | (refine ⟨rfl, ?_⟩
                       show (_ : Mem) = _
                       rw [hnx]
                       first | rw [if_pos (by omega)] | rw [if_neg (by omega)])
                · refine q_iload_n (t := 70) F dX4_readSign_69 rfl rfl rfl ?_
                  refine q_goto (t := 74) F dX4_readSign_70 (by decide) ?_
                  refine p_X4_54 (t := 77) F dX4_readSign_74 rfl rfl ?_
                  refine q_aload_n (t := 78) F dX4_readSign_77 rfl rfl rfl ?_
                  refine q_dupR (t := 79) F dX4_readSign_78 rfl ?_
                  refine g_X4_31 (t := 82) F dX4_readSign_79 rfl rfl ?_
                  try simp only [up_app, row_app, scr_app, cpy_app, Nat.reduceEqDiff, Int.reduceToNat, Int.toNat_natCast, and_true, true_and, and_false, false_and, and_self, reduceIte]
                  refine q_iconst (t := 83) F dX4_readSign_82 rfl ?_
                  refine q_iadd (t := 84) F dX4_readSign_83 rfl ?_
                  refine p_X4_31 (t := 87) F dX4_readSign_84 rfl rfl ?_
                  refine q_vret F dX4_readSign_87 rfl ?_
                  first
                    | (exfalso; omega)
                    | (refine ⟨rfl, ?_⟩
                       show (_ : Mem) = _
                       rw [hnx]
                       first | rw [if_pos (by omega)] | rw [if_neg (by omega)])
              · refine q_iload_n (t := 53) F dX4_readSign_52 rfl rfl rfl ?_
                refine q_bipush (t := 55) F dX4_readSign_53 (by decide) rfl ?_
                refine q_icmp_ne (t := 58) (u := 62) F dX4_readSign_55 (by first | exact hR _ _ _ | (constructor <;> omega)) (by first | exact hR _ _ _ | (constructor <;> omega)) (by decide) rfl (fun c55 => ?_) (fun c55 => ?_)
                · refine q_iconst (t := 63) F dX4_readSign_62 rfl ?_
                  refine q_istore_n (t := 64) F dX4_readSign_63 rfl (by decide) rfl rfl ?_
                  refine q_aload_n (t := 65) F dX4_readSign_64 rfl rfl rfl ?_
                  refine q_iload_n (t := 66) F dX4_readSign_65 rfl rfl rfl ?_
                  refine q_if_eq (t := 69) (u := 73) F dX4_readSign_66 (by first | exact hR _ _ _ | (constructor <;> omega)) (by decide) rfl (fun c66 => ?_) (fun c66 => ?_)
                  · refine q_iconst (t := 74) F dX4_readSign_73 rfl ?_
                    refine p_X4_54 (t := 77) F dX4_readSign_74 rfl rfl ?_
                    refine q_aload_n (t := 78) F dX4_readSign_77 rfl rfl rfl ?_
                    refine q_dupR (t := 79) F dX4_readSign_78 rfl ?_
                    refine g_X4_31 (t := 82) F dX4_readSign_79 rfl rfl ?_
                    try simp only [up_app, row_app, scr_app, cpy_app, Nat.reduceEqDiff, Int.reduceToNat, Int.toNat_natCast, and_true, true_and, and_false, false_and, and_self, reduceIte]
                    refine q_iconst (t := 83) F dX4_readSign_82 rfl ?_
                    refine q_iadd (t := 84) F dX4_readSign_83 rfl ?_
                    refine p_X4_31 (t := 87) F dX4_readSign_84 rfl rfl ?_
                    refine q_vret F dX4_readSign_87 rfl ?_
                    first
                      | (exfalso; omega)
                      | (refine ⟨rfl, ?_⟩
                         show (_ : Mem) = _
                         rw [hnx]
                         first | rw [if_pos (by omega)] | rw [if_neg (by omega)])
                  · refine q_iload_n (t := 70) F dX4_readSign_69 rfl rfl rfl ?_
                    refine q_goto (t := 74) F dX4_readSign_70 (by decide) ?_
                    refine p_X4_54 (t := 77) F dX4_readSign_74 rfl rfl ?_
                    refine q_aload_n (t := 78) F dX4_readSign_77 rfl rfl rfl ?_
                    refine q_dupR (t := 79) F dX4_readSign_78 rfl ?_
                    refine g_X4_31 (t := 82) F dX4_readSign_79 rfl rfl ?_
                    try simp only [up_app, row_app, scr_app, cpy_app, Nat.reduceEqDiff, Int.reduceToNat, Int.toNat_natCast, and_true, true_and, and_false, false_and, and_self, reduceIte]
                    refine q_iconst (t := 83) F dX4_readSign_82 rfl ?_
                    refine q_iadd (t := 84) F dX4_readSign_83 rfl ?_
                    refine p_X4_31 (t := 87) F dX4_readSign_84 rfl rfl ?_
                    refine q_vret F dX4_readSign_87 rfl ?_
                    first
                      | (exfalso; omega)
                      | (refine ⟨rfl, ?_⟩
                         show (_ : Mem) = _
                         rw [hnx]
                         first | rw [if_pos (by omega)] | rw [if_neg (by omega)])
                · refine q_iconst (t := 59) F dX4_readSign_58 rfl ?_
                  refine q_goto (t := 63) F dX4_readSign_59 (by decide) ?_
                  refine q_istore_n (t := 64) F dX4_readSign_63 rfl (by decide) rfl rfl ?_
                  refine q_aload_n (t := 65) F dX4_readSign_64 rfl rfl rfl ?_
                  refine q_iload_n (t := 66) F dX4_readSign_65 rfl rfl rfl ?_
                  refine q_if_eq (t := 69) (u := 73) F dX4_readSign_66 (by first | exact hR _ _ _ | (constructor <;> omega)) (by decide) rfl (fun c66 => ?_) (fun c66 => ?_)
                  · refine q_iconst (t := 74) F dX4_readSign_73 rfl ?_
                    refine p_X4_54 (t := 77) F dX4_readSign_74 rfl rfl ?_
                    refine q_aload_n (t := 78) F dX4_readSign_77 rfl rfl rfl ?_
                    refine q_dupR (t := 79) F dX4_readSign_78 rfl ?_
                    refine g_X4_31 (t := 82) F dX4_readSign_79 rfl rfl ?_
                    try simp only [up_app, row_app, scr_app, cpy_app, Nat.reduceEqDiff, Int.reduceToNat, Int.toNat_natCast, and_true, true_and, and_false, false_and, and_self, reduceIte]
                    refine q_iconst (t := 83) F dX4_readSign_82 rfl ?_
                    refine q_iadd (t := 84) F dX4_readSign_83 rfl ?_
                    refine p_X4_31 (t := 87) F dX4_readSign_84 rfl rfl ?_
                    refine q_vret F dX4_readSign_87 rfl ?_
                    first
                      | (exfalso; omega)
                      | (refine ⟨rfl, ?_⟩
                         show (_ : Mem) = _
                         rw [hnx]
                         first | rw [if_pos (by omega)] | rw [if_neg (by omega)])
                  · refine q_iload_n (t := 70) F dX4_readSign_69 rfl rfl rfl ?_
                    refine q_goto (t := 74) F dX4_readSign_70 (by decide) ?_
                    refine p_X4_54 (t := 77) F dX4_readSign_74 rfl rfl ?_
                    refine q_aload_n (t := 78) F dX4_readSign_77 rfl rfl rfl ?_
                    refine q_dupR (t := 79) F dX4_readSign_78 rfl ?_
                    refine g_X4_31 (t := 82) F dX4_readSign_79 rfl rfl ?_
                    try simp only [up_app, row_app, scr_app, cpy_app, Nat.reduceEqDiff, Int.reduceToNat, Int.toNat_natCast, and_true, true_and, and_false, false_and, and_self, reduceIte]
                    refine q_iconst (t := 83) F dX4_readSign_82 rfl ?_
                    refine q_iadd (t := 84) F dX4_readSign_83 rfl ?_
                    refine p_X4_31 (t := 87) F dX4_readSign_84 rfl rfl ?_
                    refine q_vret F dX4_readSign_87 rfl ?_
                    first
                      | (exfalso; omega)
                      | (refine ⟨rfl, ?_⟩
                         show (_ : Mem) = _
                         rw [hnx]
                         first | rw [if_pos (by omega)] | rw [if_neg (by omega)])

theorem numF_s (b : Nat → Int) (p k : Nat) : numF b p (k + 1) = bm (numF b p k * 10 + b (p + k) - 48) := rfl
theorem numF_ri (b : Nat → Int) (p k : Nat) : ri (numF b p k) := by
  cases k with
  | zero => exact ⟨by show (-2147483648 : Int) ≤ 0; omega, by show (0 : Int) < 2147483648; omega⟩
  | succ k => exact ri_b _
theorem RI_14 {im : IM} {s : Nat} {x : Int} (h : RI im) (hx : ri x) : RI (up im 14 0 s x) := RI_up h hx

set_option maxHeartbeats 4000000 in
theorem c_X4_readNumber (l : Launch) (G : GS) (im : IM) (bt j : Nat) (lm : IM) (b : Nat → Int) (n : Nat) (hb : byt b n) (hR : RI im) (hb2 : im 15 0 = b) (hsz : im 14 0 1 = n) (p : Nat) (hp : p < n) (hnx : im 14 0 2 = p) (hst : im 14 0 3 = p) : Cn l (XC G) yX4_readNumber Y_X4_readNumber [vR 14 0] (im, rs bt j, lm) (pV fun m' => ∃ im', RI im' ∧ (∀ k i s, ¬ (k = 14 ∧ (s = 2 ∨ s = 4 ∨ s = 5)) → im' k i s = im k i s) ∧ im' 14 0 2 = span isD b n p ∧ im' 14 0 4 = (if 4 < span isD b n p - p then 1 else 2) ∧ im' 14 0 5 = numF b p (span isD b n p - p) ∧ m' = (im', rs bt j, lm)) := by
  refine cn_of (by decide) (okC G) rfl (Nat.le_of_ble_eq_true rfl) ?_
  intro M ad hMl F
  subst hMl
  have hn := hb.1
  have e15 : ∀ s, im 15 0 s = b s := fun s => congrFun hb2 s
  refine wp_pad 0 ?_
  show Wp M (XC G) ad Y_X4_readNumber (pV fun m' => ∃ im', RI im' ∧ (∀ k i s, ¬ (k = 14 ∧ (s = 2 ∨ s = 4 ∨ s = 5)) → im' k i s = im k i s) ∧ im' 14 0 2 = span isD b n p ∧ im' 14 0 4 = (if 4 < span isD b n p - p then 1 else 2) ∧ im' 14 0 5 = numF b p (span isD b n p - p) ∧ m' = (im', rs bt j, lm)) 0 [some (vR 14 0)] [] (im, rs bt j, lm)
  refine q_aload_n (t := 1) F dX4_readNumber_0 rfl rfl rfl ?_
  refine q_iconst (t := 2) F dX4_readNumber_1 rfl ?_
  refine p_X4_82 (t := 5) F dX4_readNumber_2 rfl rfl ?_
  have L5 : ∀ (fz : Nat) (q : Nat) (im2 : IM), n - q < fz → p ≤ q → q ≤ n → RI im2 → (∀ k i s, ¬ (k = 14 ∧ (s = 2 ∨ s = 4 ∨ s = 5)) → im2 k i s = im k i s) → im2 14 0 2 = q → im2 14 0 5 = numF b p (q - p) → span isD b n p = span isD b n q → Wp M (XC G) ad Y_X4_readNumber (pV fun m' => ∃ im', RI im' ∧ (∀ k i s, ¬ (k = 14 ∧ (s = 2 ∨ s = 4 ∨ s = 5)) → im' k i s = im k i s) ∧ im' 14 0 2 = span isD b n p ∧ im' 14 0 4 = (if 4 < span isD b n p - p then 1 else 2) ∧ im' 14 0 5 = numF b p (span isD b n p - p) ∧ m' = (im', rs bt j, lm)) 5 [some (vR 14 0)] [] (im2, rs bt j, lm) := by
    intro fz
    induction fz with
    | zero => intro q im2 h; exact absurd h (Nat.not_lt_zero _)
    | succ fz ih =>
      have ih5 := ih
      intro q im2 hmeas hpq hqn hR2 hag g2 g5 hspn
      have g15 : ∀ s, im2 15 0 s = b s := fun s => (hag 15 0 s (by omega)).trans (e15 s)
      have g1 : im2 14 0 1 = n := (hag 14 0 1 (by omega)).trans hsz
      have g3 : im2 14 0 3 = p := (hag 14 0 3 (by omega)).trans hst
      refine q_aload_n (t := 6) F dX4_readNumber_5 rfl rfl rfl ?_
      refine g_X4_31 (t := 9) F dX4_readNumber_6 rfl rfl ?_
      try simp only [up_app, row_app, scr_app, cpy_app, Nat.reduceEqDiff, Int.reduceToNat, Int.toNat_natCast, and_true, true_and, and_false, false_and, and_self, reduceIte]
      refine q_aload_n (t := 10) F dX4_readNumber_9 rfl rfl rfl ?_
      refine g_X4_19 (t := 13) F dX4_readNumber_10 rfl rfl ?_
      try simp only [up_app, row_app, scr_app, cpy_app, Nat.reduceEqDiff, Int.reduceToNat, Int.toNat_natCast, and_true, true_and, and_false, false_and, and_self, reduceIte]
      refine q_icmp_ge (t := 16) (u := 68) F dX4_readNumber_13 (by constructor <;> omega) (by exact hR2 _ _ _) (by decide) rfl (fun c13 => ?_) (fun c13 => ?_)
      · refine q_aload_n (t := 69) F dX4_readNumber_68 rfl rfl rfl ?_
        refine q_aload_n (t := 70) F dX4_readNumber_69 rfl rfl rfl ?_
        refine g_X4_31 (t := 73) F dX4_readNumber_70 rfl rfl ?_
        try simp only [up_app, row_app, scr_app, cpy_app, Nat.reduceEqDiff, Int.reduceToNat, Int.toNat_natCast, and_true, true_and, and_false, false_and, and_self, reduceIte]
        refine q_aload_n (t := 74) F dX4_readNumber_73 rfl rfl rfl ?_
        refine g_X4_57 (t := 77) F dX4_readNumber_74 rfl rfl ?_
        try simp only [up_app, row_app, scr_app, cpy_app, Nat.reduceEqDiff, Int.reduceToNat, Int.toNat_natCast, and_true, true_and, and_false, false_and, and_self, reduceIte]
        refine q_isub (t := 78) F dX4_readNumber_77 rfl ?_
        refine q_iconst (t := 79) F dX4_readNumber_78 rfl ?_
        refine q_icmp_le (t := 82) (u := 86) F dX4_readNumber_79 (by constructor <;> omega) (by constructor <;> omega) (by decide) rfl (fun c79 => ?_) (fun c79 => ?_)
        · refine q_iconst (t := 87) F dX4_readNumber_86 rfl ?_
          refine p_X4_54 (t := 90) F dX4_readNumber_87 rfl rfl ?_
          refine q_vret F dX4_readNumber_90 rfl ?_
          have hspq : span isD b n p = q := by
            rw [hspn]
            refine span_n (fun z => ?_)
            first
              | omega
              | (rcases hx25 with h | h
                 · omega
                 · exact h.2 z.2)
          have hd : im2 14 0 2 - im2 14 0 3 = ((q - p : Nat) : Int) := by omega
          first
            | (refine ⟨rfl, _, RI_up hR2 (by constructor <;> omega), (fun k i s h => by rw [up_app, if_neg (by omega)]; exact hag k i s h), ?_, ?_, ?_, rfl⟩
               · rw [up_app, if_neg (by omega), hspq]; exact g2
               · rw [up_app, if_pos ⟨rfl, rfl, rfl⟩, hspq, if_pos (by omega)]
               · rw [up_app, if_neg (by omega), hspq]; exact g5)
            | (refine ⟨rfl, _, RI_up hR2 (by constructor <;> omega), (fun k i s h => by rw [up_app, if_neg (by omega)]; exact hag k i s h), ?_, ?_, ?_, rfl⟩
               · rw [up_app, if_neg (by omega), hspq]; exact g2
               · rw [up_app, if_pos ⟨rfl, rfl, rfl⟩, hspq, if_neg (by omega)]
               · rw [up_app, if_neg (by omega), hspq]; exact g5)
        · refine q_iconst (t := 83) F dX4_readNumber_82 rfl ?_
          refine q_goto (t := 87) F dX4_readNumber_83 (by decide) ?_
          refine p_X4_54 (t := 90) F dX4_readNumber_87 rfl rfl ?_
          refine q_vret F dX4_readNumber_90 rfl ?_
          have hspq : span isD b n p = q := by
            rw [hspn]
            refine span_n (fun z => ?_)
            first
              | omega
              | (rcases hx25 with h | h
                 · omega
                 · exact h.2 z.2)
          have hd : im2 14 0 2 - im2 14 0 3 = ((q - p : Nat) : Int) := by omega
          first
            | (refine ⟨rfl, _, RI_up hR2 (by constructor <;> omega), (fun k i s h => by rw [up_app, if_neg (by omega)]; exact hag k i s h), ?_, ?_, ?_, rfl⟩
               · rw [up_app, if_neg (by omega), hspq]; exact g2
               · rw [up_app, if_pos ⟨rfl, rfl, rfl⟩, hspq, if_pos (by omega)]
               · rw [up_app, if_neg (by omega), hspq]; exact g5)
            | (refine ⟨rfl, _, RI_up hR2 (by constructor <;> omega), (fun k i s h => by rw [up_app, if_neg (by omega)]; exact hag k i s h), ?_, ?_, ?_, rfl⟩
               · rw [up_app, if_neg (by omega), hspq]; exact g2
               · rw [up_app, if_pos ⟨rfl, rfl, rfl⟩, hspq, if_neg (by omega)]
               · rw [up_app, if_neg (by omega), hspq]; exact g5)
      · refine q_aload_n (t := 17) F dX4_readNumber_16 rfl rfl rfl ?_
        refine g_X4_9 (t := 20) F dX4_readNumber_17 rfl rfl ?_
        refine q_aload_n (t := 21) F dX4_readNumber_20 rfl rfl rfl ?_
        refine g_X4_31 (t := 24) F dX4_readNumber_21 rfl rfl ?_
        try simp only [up_app, row_app, scr_app, cpy_app, Nat.reduceEqDiff, Int.reduceToNat, Int.toNat_natCast, and_true, true_and, and_false, false_and, and_self, reduceIte]
        rw [g2]
        first | refine ldN_15 (t := 25) F dX4_readNumber_24 (by omega) rfl ?_ | refine ld_15 (t := 25) F dX4_readNumber_24 (by omega) (by omega) rfl ?_
        try simp only [up_app, row_app, scr_app, cpy_app, Nat.reduceEqDiff, Int.reduceToNat, Int.toNat_natCast, and_true, true_and, and_false, false_and, and_self, reduceIte]
        rw [g15]
        refine wp_callS (t := 28) [_] F dX4_readNumber_25 k_X4_isDigit st_X4_isDigit ml_X4_91 rfl rfl (Nat.le_of_ble_eq_true rfl) (by decide) (c_X4_isDigit _ G im2 bt j lm (b q) (by have := hb.2 q (by omega); constructor <;> omega)) rfl (kI ?_)
        rintro x25 m' ⟨hx25, rfl⟩
        have hx25 := if01 hx25
        refine q_if_eq (t := 31) (u := 68) F dX4_readNumber_28 (by first | exact hR _ _ _ | (constructor <;> omega)) (by decide) rfl (fun c28 => ?_) (fun c28 => ?_)
        · refine q_aload_n (t := 69) F dX4_readNumber_68 rfl rfl rfl ?_
          refine q_aload_n (t := 70) F dX4_readNumber_69 rfl rfl rfl ?_
          refine g_X4_31 (t := 73) F dX4_readNumber_70 rfl rfl ?_
          try simp only [up_app, row_app, scr_app, cpy_app, Nat.reduceEqDiff, Int.reduceToNat, Int.toNat_natCast, and_true, true_and, and_false, false_and, and_self, reduceIte]
          refine q_aload_n (t := 74) F dX4_readNumber_73 rfl rfl rfl ?_
          refine g_X4_57 (t := 77) F dX4_readNumber_74 rfl rfl ?_
          try simp only [up_app, row_app, scr_app, cpy_app, Nat.reduceEqDiff, Int.reduceToNat, Int.toNat_natCast, and_true, true_and, and_false, false_and, and_self, reduceIte]
          refine q_isub (t := 78) F dX4_readNumber_77 rfl ?_
          refine q_iconst (t := 79) F dX4_readNumber_78 rfl ?_
          refine q_icmp_le (t := 82) (u := 86) F dX4_readNumber_79 (by constructor <;> omega) (by constructor <;> omega) (by decide) rfl (fun c79 => ?_) (fun c79 => ?_)
          · refine q_iconst (t := 87) F dX4_readNumber_86 rfl ?_
            refine p_X4_54 (t := 90) F dX4_readNumber_87 rfl rfl ?_
            refine q_vret F dX4_readNumber_90 rfl ?_
            have hspq : span isD b n p = q := by
              rw [hspn]
              refine span_n (fun z => ?_)
              first
                | omega
                | (rcases hx25 with h | h
                   · omega
                   · exact h.2 z.2)
            have hd : im2 14 0 2 - im2 14 0 3 = ((q - p : Nat) : Int) := by omega
            first
              | (refine ⟨rfl, _, RI_up hR2 (by constructor <;> omega), (fun k i s h => by rw [up_app, if_neg (by omega)]; exact hag k i s h), ?_, ?_, ?_, rfl⟩
                 · rw [up_app, if_neg (by omega), hspq]; exact g2
                 · rw [up_app, if_pos ⟨rfl, rfl, rfl⟩, hspq, if_pos (by omega)]
                 · rw [up_app, if_neg (by omega), hspq]; exact g5)
              | (refine ⟨rfl, _, RI_up hR2 (by constructor <;> omega), (fun k i s h => by rw [up_app, if_neg (by omega)]; exact hag k i s h), ?_, ?_, ?_, rfl⟩
                 · rw [up_app, if_neg (by omega), hspq]; exact g2
                 · rw [up_app, if_pos ⟨rfl, rfl, rfl⟩, hspq, if_neg (by omega)]
                 · rw [up_app, if_neg (by omega), hspq]; exact g5)
          · refine q_iconst (t := 83) F dX4_readNumber_82 rfl ?_
            refine q_goto (t := 87) F dX4_readNumber_83 (by decide) ?_
            refine p_X4_54 (t := 90) F dX4_readNumber_87 rfl rfl ?_
            refine q_vret F dX4_readNumber_90 rfl ?_
            have hspq : span isD b n p = q := by
              rw [hspn]
              refine span_n (fun z => ?_)
              first
                | omega
                | (rcases hx25 with h | h
                   · omega
                   · exact h.2 z.2)
            have hd : im2 14 0 2 - im2 14 0 3 = ((q - p : Nat) : Int) := by omega
            first
              | (refine ⟨rfl, _, RI_up hR2 (by constructor <;> omega), (fun k i s h => by rw [up_app, if_neg (by omega)]; exact hag k i s h), ?_, ?_, ?_, rfl⟩
                 · rw [up_app, if_neg (by omega), hspq]; exact g2
                 · rw [up_app, if_pos ⟨rfl, rfl, rfl⟩, hspq, if_pos (by omega)]
                 · rw [up_app, if_neg (by omega), hspq]; exact g5)
              | (refine ⟨rfl, _, RI_up hR2 (by constructor <;> omega), (fun k i s h => by rw [up_app, if_neg (by omega)]; exact hag k i s h), ?_, ?_, ?_, rfl⟩
                 · rw [up_app, if_neg (by omega), hspq]; exact g2
                 · rw [up_app, if_pos ⟨rfl, rfl, rfl⟩, hspq, if_neg (by omega)]
                 · rw [up_app, if_neg (by omega), hspq]; exact g5)
        · refine q_aload_n (t := 32) F dX4_readNumber_31 rfl rfl rfl ?_
          refine q_aload_n (t := 33) F dX4_readNumber_32 rfl rfl rfl ?_
          refine g_X4_82 (t := 36) F dX4_readNumber_33 rfl rfl ?_
          try simp only [up_app, row_app, scr_app, cpy_app, Nat.reduceEqDiff, Int.reduceToNat, Int.toNat_natCast, and_true, true_and, and_false, false_and, and_self, reduceIte]
          refine q_bipush (t := 38) F dX4_readNumber_36 (by decide) rfl ?_
          refine q_imul (t := 39) F dX4_readNumber_38 rfl ?_
          refine q_aload_n (t := 40) F dX4_readNumber_39 rfl rfl rfl ?_
          refine g_X4_9 (t := 43) F dX4_readNumber_40 rfl rfl ?_
          refine q_aload_n (t := 44) F dX4_readNumber_43 rfl rfl rfl ?_
          refine g_X4_31 (t := 47) F dX4_readNumber_44 rfl rfl ?_
          try simp only [up_app, row_app, scr_app, cpy_app, Nat.reduceEqDiff, Int.reduceToNat, Int.toNat_natCast, and_true, true_and, and_false, false_and, and_self, reduceIte]
          rw [g2]
          first | refine ldN_15 (t := 48) F dX4_readNumber_47 (by omega) rfl ?_ | refine ld_15 (t := 48) F dX4_readNumber_47 (by omega) (by omega) rfl ?_
          try simp only [up_app, row_app, scr_app, cpy_app, Nat.reduceEqDiff, Int.reduceToNat, Int.toNat_natCast, and_true, true_and, and_false, false_and, and_self, reduceIte]
          rw [g15, g5]
          refine q_iadd (t := 49) F dX4_readNumber_48 rfl ?_
          refine q_bipush (t := 51) F dX4_readNumber_49 (by decide) rfl ?_
          refine q_isub (t := 52) F dX4_readNumber_51 rfl ?_
          refine q_norm ?_
          refine p_X4_82 (t := 55) F dX4_readNumber_52 rfl rfl ?_
          refine q_aload_n (t := 56) F dX4_readNumber_55 rfl rfl rfl ?_
          refine q_dupR (t := 57) F dX4_readNumber_56 rfl ?_
          refine g_X4_31 (t := 60) F dX4_readNumber_57 rfl rfl ?_
          try simp only [up_app, row_app, scr_app, cpy_app, Nat.reduceEqDiff, Int.reduceToNat, Int.toNat_natCast, and_true, true_and, and_false, false_and, and_self, reduceIte]
          refine q_iconst (t := 61) F dX4_readNumber_60 rfl ?_
          refine q_iadd (t := 62) F dX4_readNumber_61 rfl ?_
          
          refine p_X4_31 (t := 65) F dX4_readNumber_62 rfl rfl ?_
          refine q_goto (t := 5) F dX4_readNumber_65 (by decide) ?_
          refine ih5 (q + 1) _ (by omega) (by omega) (by omega) (RI_up (RI_up hR2 (ri_b _)) (by constructor <;> omega)) (fun k i s h => by rw [up_app, if_neg (by omega), up_app, if_neg (by omega)]; exact hag k i s h) ?_ ?_ ?_
          · rw [up_app, if_pos ⟨rfl, rfl, rfl⟩, g2]; omega
          · rw [up_app, if_neg (by omega), up_app, if_pos ⟨rfl, rfl, rfl⟩, show q + 1 - p = (q - p) + 1 by omega, numF_s, show p + (q - p) = q by omega]
          · rw [hspn, span_y (by omega) (by rcases hx25 with h | h
                                            · exact h.2
                                            · omega)]
  exact L5 _ p _ (Nat.lt_succ_self _) (Nat.le_refl _) (by omega) (RI_up hR (by constructor <;> omega)) (fun k i s h => by rw [up_app, if_neg (by omega)]) (by rw [up_app, if_neg (by omega)]; exact hnx) (by rw [up_app, if_pos ⟨rfl, rfl, rfl⟩, Nat.sub_self]; rfl) rfl
