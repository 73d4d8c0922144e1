/-- the first n items of a row are v -/
def fl (im : IM) (k i n : Nat) (v : Int) : IM := fun k' i' s' => if k' = k ∧ i' = i ∧ s' < n then v else im k' i' s'
theorem fl_app (im : IM) (k i n : Nat) (v : Int) (k' i' s' : Nat) : fl im k i n v k' i' s' = if k' = k ∧ i' = i ∧ s' < n then v else im k' i' s' := rfl
theorem fl_0 (im : IM) (k i : Nat) (v : Int) : fl im k i 0 v = im := by
  funext k' i' s'
  rw [fl_app, if_neg (by omega)]
theorem fl_s (im : IM) (k i n : Nat) (v : Int) : up (fl im k i n v) k i n v = fl im k i (n + 1) v := by
  funext k' i' s'
  simp only [up_app, fl_app]
  repeat' split
  all_goals first | rfl | omega
theorem RI_fl {im : IM} {k i n : Nat} {v : Int} (h : RI im) (hv : ri v) : RI (fl im k i n v) := by
  intro k' i' s'
  rw [fl_app]
  split
  · exact hv
  · exact h _ _ _
/-- one more of a world's people -/
def welM (im : IM) (w : Nat) (a b : Int) : IM := up (fl (up (up im 21 (5 * w + (im 18 w 3).toNat) 0 a) 21 (5 * w + (im 18 w 3).toNat) 1 b) 22 (5 * w + (im 18 w 3).toNat) 10 (-1)) 18 w 3 (im 18 w 3 + 1)

set_option maxHeartbeats 4000000 in
theorem c_X7_welcome (l : Launch) (G : GS) (im : IM) (bt rt : Nat) (lm : IM) (w : Nat) (hw : w < 3) (a b : Int) (s0 : 0 ≤ im 18 w 3) (s1 : im 18 w 3 < 5) : Cn l (XC G) yX7_welcome Y_X7_welcome [vR 18 w, vI a, vI b] (im, rs bt rt, lm) (pI fun x m' => x = im 18 w 3 ∧ m' = (welM im w a b, rs bt rt, lm)) := by
  refine cn_of (by decide) (okC G) rfl (Nat.le_of_ble_eq_true rfl) ?_
  intro M ad hMl F
  subst hMl
  obtain ⟨p, hp⟩ : ∃ p : Nat, p = (im 18 w 3).toNat := ⟨_, rfl⟩
  obtain ⟨B, hB⟩ : ∃ B, B = up (up im 21 (5 * w + p) 0 a) 21 (5 * w + p) 1 b := ⟨_, rfl⟩
  refine wp_pad 2 ?_
  show Wp M (XC G) ad Y_X7_welcome (pI fun x m' => x = im 18 w 3 ∧ m' = (welM im w a b, rs bt rt, lm)) 0 [some (vR 18 w), some (vI a), some (vI b), none, none] [] (im, rs bt rt, lm)
  refine q_aload_n (t := 1) F dX7_welcome_0 rfl rfl rfl ?_
  refine g_X7_11 (t := 4) F dX7_welcome_1 rfl (by omega) rfl ?_
  refine q_aload_n (t := 5) F dX7_welcome_4 rfl rfl rfl ?_
  refine g_X7_30 (t := 8) F dX7_welcome_5 rfl (by omega) rfl ?_
  refine la_19 (t := 9) F dX7_welcome_8 (by omega) (by omega) (by omega) rfl ?_
  rw [← hp]
  refine q_astore_n (t := 10) F dX7_welcome_9 rfl (by decide) rfl rfl ?_
  refine q_aload_n (t := 11) F dX7_welcome_10 rfl rfl rfl ?_
  refine q_iload_n (t := 12) F dX7_welcome_11 rfl rfl rfl ?_
  refine p_X7_46 (t := 15) F dX7_welcome_12 rfl (by omega) rfl ?_
  refine q_aload_n (t := 16) F dX7_welcome_15 rfl rfl rfl ?_
  refine q_iload_n (t := 17) F dX7_welcome_16 rfl rfl rfl ?_
  refine p_X7_49 (t := 20) F dX7_welcome_17 rfl (by omega) rfl ?_
  refine q_iconst (t := 21) F dX7_welcome_20 rfl ?_
  refine q_istore (t := 23) F dX7_welcome_21 (by decide) rfl rfl ?_
  have L23 : ∀ (fz : Nat) (i : Nat), 10 - i < fz → i ≤ 10 → Wp M (XC G) ad Y_X7_welcome (pI fun x m' => x = im 18 w 3 ∧ m' = (welM im w a b, rs bt rt, lm)) 23 [some (vR 18 w), some (vI a), some (vI b), some (vR 21 (5 * w + p)), some (vI (i : Int))] [] (fl B 22 (5 * w + p) i (-1), rs bt rt, lm) := by
    intro fz
    induction fz with
    | zero => intro i h; exact absurd h (Nat.not_lt_zero _)
    | succ fz ih =>
      intro i hmeas hi
      refine q_iload (t := 25) F dX7_welcome_23 rfl rfl ?_
      refine q_bipush (t := 27) F dX7_welcome_25 (by decide) rfl ?_
      refine q_icmp_ge (t := 30) (u := 44) F dX7_welcome_27 (by first | exact hR _ _ _ | (constructor <;> omega)) (by first | exact hR _ _ _ | (constructor <;> omega)) (by decide) rfl (fun c27 => ?_) (fun c27 => ?_)
      · refine q_aload_n (t := 45) F dX7_welcome_44 rfl rfl rfl ?_
        refine q_dupR (t := 46) F dX7_welcome_45 rfl ?_
        refine g_X7_30 (t := 49) F dX7_welcome_46 rfl (by omega) rfl ?_
        try simp only [up_app, row_app, scr_app, cpy_app, Nat.reduceEqDiff, Int.reduceToNat, Int.toNat_natCast, and_true, true_and, and_false, false_and, and_self, reduceIte]
        refine q_iconst (t := 50) F dX7_welcome_49 rfl ?_
        rw [show fl B 22 (5 * w + p) i (-1) 18 w 3 = im 18 w 3 by rw [hB]; rfl]
        refine q_iadd (t := 51) F dX7_welcome_50 rfl ?_
        refine p_X7_30 (t := 54) F dX7_welcome_51 rfl (by omega) rfl ?_
        refine q_aload_n (t := 55) F dX7_welcome_54 rfl rfl rfl ?_
        refine g_X7_30 (t := 58) F dX7_welcome_55 rfl (by omega) rfl ?_
        try simp only [up_app, row_app, scr_app, cpy_app, Nat.reduceEqDiff, Int.reduceToNat, Int.toNat_natCast, and_true, true_and, and_false, false_and, and_self, reduceIte]
        refine q_iconst (t := 59) F dX7_welcome_58 rfl ?_
        refine q_isub (t := 60) F dX7_welcome_59 rfl ?_
        refine q_iret F dX7_welcome_60 rfl ?_
        refine ⟨_, rfl, ?_, ?_⟩
        · omega
        · unfold welM
          rw [← hp, hB, show i = 10 by omega]
      · refine q_aload_n (t := 31) F dX7_welcome_30 rfl rfl rfl ?_
        refine g_X7_52 (t := 34) F dX7_welcome_31 rfl (by omega) rfl ?_
        refine q_iload (t := 36) F dX7_welcome_34 rfl rfl ?_
        refine q_iconst (t := 37) F dX7_welcome_36 rfl ?_
        first | refine stN_22 (t := 38) F dX7_welcome_37 (by omega) (by omega) rfl ?_ | refine st_22 (t := 38) F dX7_welcome_37 (by omega) (by omega) (by omega) rfl ?_
        refine q_iinc (t := 41) F dX7_welcome_38 rfl (by decide) rfl rfl ?_
        refine q_goto (t := 23) F dX7_welcome_41 (by decide) ?_
        rw [fl_s]
        exact ih (i + 1) (by omega) (by omega)
  have h := L23 _ 0 (Nat.lt_succ_self _) (by omega)
  rw [fl_0, hB] at h
  exact h

theorem stepS_nm {nm nm' : Nat → Int} (h : ∀ s, s < 6 → nm s = nm' s) (s : Int) (q : Nat × (Nat → Int)) : stepS nm s q = stepS nm' s q := by
  unfold stepS putS
  split
  · split
    · split
      · rfl
      · rw [h _ (by omega)]
    · rfl
  · rfl
theorem runS_nm {nm nm' : Nat → Int} (h : ∀ s, s < 6 → nm s = nm' s) (f : Nat → Int) (n : Nat) : ∀ (i : Nat) (q : Nat × (Nat → Int)), runS f nm i n q = runS f nm' i n q := by
  induction n with
  | zero => intro i q; rfl
  | succ n ih =>
    intro i q
    show runS f nm (i + 1) n (stepS nm (f i) q) = runS f nm' (i + 1) n (stepS nm' (f i) q)
    rw [stepS_nm h, ih]
theorem tellV_nm {im : IM} {j part : Nat} {nm nm' : Nat → Int} (h : ∀ s, s < 6 → nm s = nm' s) : tellV im j part nm = tellV im j part nm' := by
  unfold tellV tellQ
  rw [runS_nm h]
/-- what a WORD's place is told by -/
def nmW (im : IM) (w man : Nat) (word food : Int) : Nat → Int := fun s => if s = 0 then word else if s = 1 then food else if s = 2 then im 18 w 4 else if s = 3 then im 21 (5 * w + man) 1 else if s = 4 then 0 else cntW (im 22 (5 * w + man)) 10
def takesW (im : IM) (w man : Nat) (word food : Int) : Int := takesK (im 21 (5 * w + man) 0) (tellV im (im 18 w 7).toNat 0 (nmW im w man word food))
theorem takesW_in (im : IM) (w man : Nat) (word food : Int) : -1 ≤ takesW im w man word food ∧ takesW im w man word food ≤ 9 := takesK_in (tellV_in _ _ _ _).1 (tellV_in _ _ _ _).2
theorem takesW_ag {a b : IM} {l : List Nat} {w : Nat} (h : ag l a b) (h0 : 18 ∉ l) (h1 : 21 ∉ l) (h2 : 22 ∉ l) (h4 : 3 ∉ l) (h5 : 4 ∉ l) (man : Nat) (word food : Int) : takesW a w man word food = takesW b w man word food := by
  have e22 : a 22 (5 * w + man) = b 22 (5 * w + man) := funext (fun s => h 22 h2 _ s)
  unfold takesW nmW
  simp only [h 18 h0, h 21 h1, e22]
  rw [tellV_congr (fun s => h 3 h4 _ s) (fun s => h 4 h5 _ s)]

/-- the names laid for it -/
def nmM (im : IM) (w man : Nat) (word food : Int) : IM := up (up (up (up (up (up im 20 w 0 word) 20 w 1 food) 20 w 2 (im 18 w 4)) 20 w 3 (im 21 (5 * w + man) 1)) 20 w 4 0) 20 w 5 (cntW (im 22 (5 * w + man)) 10)
theorem nmM_ag (im : IM) (w man : Nat) (word food : Int) : ag [5, 20] (nmM im w man word food) im := by
  unfold nmM
  exact ag_up (ag_up (ag_up (ag_up (ag_up (ag_up (ag_rfl _ _) (by decide)) (by decide)) (by decide)) (by decide)) (by decide)) (by decide)
theorem nmM_nm (im : IM) (w man : Nat) (word food : Int) : ∀ s, s < 6 → nmM im w man word food 20 w s = nmW im w man word food s := by
  intro s hs
  unfold nmM nmW
  rcases (show s = 0 ∨ s = 1 ∨ s = 2 ∨ s = 3 ∨ s = 4 ∨ s = 5 by omega) with rfl | rfl | rfl | rfl | rfl | rfl <;> simp [up_app]
theorem row_ag {l : List Nat} {a b : IM} {k i : Nat} {f : Nat → Int} (h : ag l a b) (hk : k ∈ l) : ag l (row a k i f) b := fun k' hk' i' s' => by
  rw [row_app, if_neg (fun (q : k' = k ∧ i' = i) => hk' (q.1 ▸ hk))]
  exact h k' hk' i' s'

set_option maxHeartbeats 4000000 in
theorem c_X7_takes (l : Launch) (G : GS) (im : IM) (bt rt : Nat) (lm : IM) (w : Nat) (hw : w < 3) (hR : RI im) (hW : WI im w) (man : Nat) (hm : (man : Int) < im 18 w 3) (word food : Int) (hwo : ri word) (hfo : ri food) : Cn l (XC G) yX7_takes Y_X7_takes [vR 18 w, vI (man : Int), vI word, vI food] (im, rs bt rt, lm) (pI fun x m' => x = takesW im w man word food ∧ ∃ im', RI im' ∧ ag [5, 20] im' im ∧ m' = (im', rs bt rt, lm)) := by
  refine cn_of (by decide) (okC G) rfl (Nat.le_of_ble_eq_true rfl) ?_
  intro M ad hMl F
  subst hMl
  have w1 := hW.1
  have w2 := hW.2.1
  have w4 := hW.2.2.2.1
  have hp := hW.2.2.2.2.2 man hm
  have hc := cntW_in (im 22 (5 * w + man)) 10
  have hR1 : RI (nmM im w man word food) := by
    unfold nmM
    refine RI_up (RI_up (RI_up (RI_up (RI_up (RI_up hR ?_) ?_) ?_) ?_) ?_) ?_
    all_goals first | assumption | exact hR _ _ _ | (constructor <;> omega)
  refine wp_pad 1 ?_
  show Wp M (XC G) ad Y_X7_takes (pI fun x m' => x = takesW im w man word food ∧ ∃ im', RI im' ∧ ag [5, 20] im' im ∧ m' = (im', rs bt rt, lm)) 0 [some (vR 18 w), some (vI (man : Int)), some (vI word), some (vI food), none] [] (im, rs bt rt, lm)
  refine q_aload_n (t := 1) F dX7_takes_0 rfl rfl rfl ?_
  refine g_X7_11 (t := 4) F dX7_takes_1 rfl (by omega) rfl ?_
  refine q_iload_n (t := 5) F dX7_takes_4 rfl rfl rfl ?_
  first | refine laN_19 (t := 6) F dX7_takes_5 (by omega) (by omega) rfl ?_ | refine la_19 (t := 6) F dX7_takes_5 (by omega) (by omega) (by omega) rfl ?_
  refine q_astore (t := 8) F dX7_takes_6 (by decide) rfl rfl ?_
  refine q_aload_n (t := 9) F dX7_takes_8 rfl rfl rfl ?_
  refine g_X7_17 (t := 12) F dX7_takes_9 rfl (by omega) rfl ?_
  refine q_iconst (t := 13) F dX7_takes_12 rfl ?_
  refine q_iload_n (t := 14) F dX7_takes_13 rfl rfl rfl ?_
  refine stN_20 (t := 15) (j := 0) F dX7_takes_14 (by omega) (by omega) rfl ?_
  refine q_aload_n (t := 16) F dX7_takes_15 rfl rfl rfl ?_
  refine g_X7_17 (t := 19) F dX7_takes_16 rfl (by omega) rfl ?_
  refine q_iconst (t := 20) F dX7_takes_19 rfl ?_
  refine q_iload_n (t := 21) F dX7_takes_20 rfl rfl rfl ?_
  refine stN_20 (t := 22) (j := 1) F dX7_takes_21 (by omega) (by omega) rfl ?_
  refine q_aload_n (t := 23) F dX7_takes_22 rfl rfl rfl ?_
  refine g_X7_17 (t := 26) F dX7_takes_23 rfl (by omega) rfl ?_
  refine q_iconst (t := 27) F dX7_takes_26 rfl ?_
  refine q_aload_n (t := 28) F dX7_takes_27 rfl rfl rfl ?_
  refine g_X7_33 (t := 31) F dX7_takes_28 rfl (by omega) rfl ?_
  try simp only [up_app, row_app, scr_app, cpy_app, Nat.reduceEqDiff, Int.reduceToNat, Int.toNat_natCast, and_true, true_and, and_false, false_and, and_self, reduceIte]
  refine stN_20 (t := 32) (j := 2) F dX7_takes_31 (by omega) (by omega) rfl ?_
  refine q_aload_n (t := 33) F dX7_takes_32 rfl rfl rfl ?_
  refine g_X7_17 (t := 36) F dX7_takes_33 rfl (by omega) rfl ?_
  refine q_iconst (t := 37) F dX7_takes_36 rfl ?_
  refine q_aload (t := 39) F dX7_takes_37 rfl rfl ?_
  refine g_X7_49 (t := 42) F dX7_takes_39 rfl (by omega) rfl ?_
  try simp only [up_app, row_app, scr_app, cpy_app, Nat.reduceEqDiff, Int.reduceToNat, Int.toNat_natCast, and_true, true_and, and_false, false_and, and_self, reduceIte]
  refine stN_20 (t := 43) (j := 3) F dX7_takes_42 (by omega) (by omega) rfl ?_
  refine q_aload_n (t := 44) F dX7_takes_43 rfl rfl rfl ?_
  refine g_X7_17 (t := 47) F dX7_takes_44 rfl (by omega) rfl ?_
  refine q_iconst (t := 48) F dX7_takes_47 rfl ?_
  refine q_iconst (t := 49) F dX7_takes_48 rfl ?_
  refine stN_20 (t := 50) (j := 4) F dX7_takes_49 (by omega) (by omega) rfl ?_
  refine q_aload_n (t := 51) F dX7_takes_50 rfl rfl rfl ?_
  refine g_X7_17 (t := 54) F dX7_takes_51 rfl (by omega) rfl ?_
  refine q_iconst (t := 55) F dX7_takes_54 rfl ?_
  refine q_aload (t := 57) F dX7_takes_55 rfl rfl ?_
  refine wp_callV (t := 60) [] F dX7_takes_57 k_X3_stuckInAll v_X3_stuckInAll ml_X7_55 rfl rfl rfl rfl (Nat.le_of_ble_eq_true rfl) (by decide) (m_21 (by omega)) (c_X3_stuckInAll _ G (up (up (up (up (up im 20 w 0 word) 20 w 1 food) 20 w 2 (im 18 w 4)) 20 w 3 (im 21 (5 * w + man) 1)) 20 w 4 0) bt rt lm (5 * w + man) (by omega) (RI_up (RI_up (RI_up (RI_up (RI_up hR (by assumption)) (by assumption)) (hR _ _ _)) (hR _ _ _)) (by constructor <;> omega))) rfl (kI ?_)
  rintro x m' ⟨rfl, rfl⟩
  rw [show (up (up (up (up (up im 20 w 0 word) 20 w 1 food) 20 w 2 (im 18 w 4)) 20 w 3 (im 21 (5 * w + man) 1)) 20 w 4 0) 22 (5 * w + man) = im 22 (5 * w + man) from rfl]
  refine stN_20 (t := 61) (j := 5) F dX7_takes_60 (by omega) (by omega) rfl ?_
  refine q_aload (t := 63) F dX7_takes_61 rfl rfl ?_
  refine g_X7_46 (t := 66) F dX7_takes_63 rfl (by omega) rfl ?_
  try simp only [up_app, row_app, scr_app, cpy_app, Nat.reduceEqDiff, Int.reduceToNat, Int.toNat_natCast, and_true, true_and, and_false, false_and, and_self, reduceIte]
  refine q_aload_n (t := 67) F dX7_takes_66 rfl rfl rfl ?_
  refine g_X7_25 (t := 70) F dX7_takes_67 rfl (by omega) rfl ?_
  refine q_aload_n (t := 71) F dX7_takes_70 rfl rfl rfl ?_
  refine g_X7_39 (t := 74) F dX7_takes_71 rfl (by omega) rfl ?_
  try simp only [up_app, row_app, scr_app, cpy_app, Nat.reduceEqDiff, Int.reduceToNat, Int.toNat_natCast, and_true, true_and, and_false, false_and, and_self, reduceIte]
  refine la_1 (t := 75) F dX7_takes_74 (by omega) (by omega) rfl ?_
  refine q_iconst (t := 76) F dX7_takes_75 rfl ?_
  refine q_aload_n (t := 77) F dX7_takes_76 rfl rfl rfl ?_
  refine g_X7_17 (t := 80) F dX7_takes_77 rfl (by omega) rfl ?_
  refine wp_callV (t := 83) [_, _] F dX7_takes_80 k_X6_tell v_X6_tell ml_X7_59 rfl rfl rfl rfl (Nat.le_of_ble_eq_true rfl) (by decide) (m_2 (by omega)) (c_X6_tell20 _ G (nmM im w man word food) bt rt lm (im 18 w 7).toNat (by omega) w hw 0 (by omega) hR1 (goodT_congr (fun s => rfl) (fun s => rfl) hW.2.2.2.2.1)) rfl (kI ?_)
  rintro v m' ⟨hv, kk, hkk, rfl⟩
  have hv2 := tellV_in (nmM im w man word food) (im 18 w 7).toNat 0 (nmM im w man word food 20 w)
  rw [← hv] at hv2
  refine wp_callS (t := 86) [_, _] F dX7_takes_83 k_X2_takes st_X2_takes ml_X7_65 rfl rfl (Nat.le_of_ble_eq_true rfl) (by decide) (c_X2_takes _ G _ bt rt lm (im 21 (5 * w + man) 0) v hp.1.1 hp.1.2 hv2.1 hv2.2) rfl (kI ?_)
  rintro x m' ⟨rfl, rfl⟩
  refine q_iret F dX7_takes_86 rfl ?_
  refine ⟨_, rfl, ?_, _, RI_row hR1 hkk, row_ag (nmM_ag im w man word food) (by decide), rfl⟩
  unfold takesW
  rw [hv, tellV_nm (nmM_nm im w man word food)]
  rw [show tellV (nmM im w man word food) (im 18 w 7).toNat 0 (nmW im w man word food) = tellV im (im 18 w 7).toNat 0 (nmW im w man word food) from tellV_congr (fun s => rfl) (fun s => rfl)]

/-- in which GAP it is STUCK then (-1: it isn't) -/
def uttW (im : IM) (w man : Nat) (word food : Int) : Int := if 0 ≤ takesW im w man word food ∧ im 22 (5 * w + man) (takesW im w man word food).toNat = -1 then takesW im w man word food else -1
def uttM (im : IM) (w man : Nat) (word food : Int) : IM := if uttW im w man word food = -1 then im else up (up im 22 (5 * w + man) (uttW im w man word food).toNat word) 23 (5 * w + man) (uttW im w man word food).toNat 0

set_option maxHeartbeats 4000000 in
theorem c_X7_utter (l : Launch) (G : GS) (im : IM) (bt rt : Nat) (lm : IM) (w : Nat) (hw : w < 3) (hR : RI im) (hW : WI im w) (man : Nat) (hm : (man : Int) < im 18 w 3) (word food : Int) (hwo : 0 ≤ word ∧ word < 16) (hfo : ri food) : Cn l (XC G) yX7_utter Y_X7_utter [vR 18 w, vI (man : Int), vI word, vI food] (im, rs bt rt, lm) (pI fun x m' => x = uttW im w man word food ∧ ∃ im', RI im' ∧ ag [5, 20] im' (uttM im w man word food) ∧ m' = (im', rs bt rt, lm)) := by
  refine cn_of (by decide) (okC G) rfl (Nat.le_of_ble_eq_true rfl) ?_
  intro M ad hMl F
  subst hMl
  have w1 := hW.1
  have ht := takesW_in im w man word food
  have hwr : ri word := by constructor <;> omega
  obtain ⟨tg, htg⟩ : ∃ z, z = takesW im w man word food := ⟨_, rfl⟩
  rw [← htg] at ht
  refine wp_pad 2 ?_
  show Wp M (XC G) ad Y_X7_utter (pI fun x m' => x = uttW im w man word food ∧ ∃ im', RI im' ∧ ag [5, 20] im' (uttM im w man word food) ∧ m' = (im', rs bt rt, lm)) 0 [some (vR 18 w), some (vI (man : Int)), some (vI word), some (vI food), none, none] [] (im, rs bt rt, lm)
  refine q_aload_n (t := 1) F dX7_utter_0 rfl rfl rfl ?_
  refine q_iload_n (t := 2) F dX7_utter_1 rfl rfl rfl ?_
  refine q_iload_n (t := 3) F dX7_utter_2 rfl rfl rfl ?_
  refine q_iload_n (t := 4) F dX7_utter_3 rfl rfl rfl ?_
  refine wp_callV (t := 7) [_, _, _] F dX7_utter_4 k_X7_takes v_X7_takes ml_X7_71 rfl rfl rfl rfl (Nat.le_of_ble_eq_true rfl) (by decide) (m_18 (by omega)) (c_X7_takes _ G im bt rt lm w hw hR hW man hm word food hwr hfo) rfl (kI ?_)
  rintro x m' ⟨rfl, im2, hR2, hag, rfl⟩
  rw [← htg]
  refine q_istore (t := 9) F dX7_utter_7 (by decide) rfl rfl ?_
  refine q_aload_n (t := 10) F dX7_utter_9 rfl rfl rfl ?_
  refine g_X7_11 (t := 13) F dX7_utter_10 rfl (by omega) rfl ?_
  refine q_iload_n (t := 14) F dX7_utter_13 rfl rfl rfl ?_
  first | refine laN_19 (t := 15) F dX7_utter_14 (by omega) (by omega) rfl ?_ | refine la_19 (t := 15) F dX7_utter_14 (by omega) (by omega) (by omega) rfl ?_
  refine q_astore (t := 17) F dX7_utter_15 (by decide) rfl rfl ?_
  refine q_iload (t := 19) F dX7_utter_17 rfl rfl ?_
  refine q_bipush (t := 21) F dX7_utter_19 (by decide) rfl ?_
  refine wp_callSN (t := 24) [_, _] F dX7_utter_21 k_X8_within st_X8_within (F.2.2.2.2.2.2.2.2.1.1 _ mn_X7_74) rfl rfl (Nat.le_of_ble_eq_true rfl) (by decide) (c_X8_within _ G _ bt rt lm tg 10 (by constructor <;> omega) (by constructor <;> omega)) rfl (kI ?_)
  rintro x m' ⟨rfl, rfl⟩
  refine q_if_eq (t := 27) (u := 39) F dX7_utter_24 (by split <;> (constructor <;> omega)) (by decide) rfl (fun c24 => ?_) (fun c24 => ?_)
  · refine q_iconst (t := 40) F dX7_utter_39 rfl ?_
    refine q_iret F dX7_utter_40 rfl ?_
    have hu : uttW im w man word food = -1 := by
      unfold uttW
      rw [← htg]
      first
        | (rw [if_neg]; intro hh; split at c24 <;> omega)
        | (rw [if_neg]; intro hh; rw [hag 22 (by decide)] at c36; exact c36 hh.2)
    exact ⟨_, rfl, hu.symm, im2, hR2, by unfold uttM; rw [if_pos hu]; exact hag, rfl⟩
  · refine q_aload (t := 29) F dX7_utter_27 rfl rfl ?_
    refine g_X7_52 (t := 32) F dX7_utter_29 rfl (by omega) rfl ?_
    refine q_iload (t := 34) F dX7_utter_32 rfl rfl ?_
    refine ld_22 (t := 35) F dX7_utter_34 (by omega) (by split at c24 <;> omega) (by split at c24 <;> omega) rfl ?_
    try simp only [up_app, row_app, scr_app, cpy_app, Nat.reduceEqDiff, Int.reduceToNat, Int.toNat_natCast, and_true, true_and, and_false, false_and, and_self, reduceIte]
    refine q_iconst (t := 36) F dX7_utter_35 rfl ?_
    refine q_icmp_eq (t := 39) (u := 41) F dX7_utter_36 (by exact hR2 _ _ _) (by constructor <;> omega) (by decide) rfl (fun c36 => ?_) (fun c36 => ?_)
    · refine q_aload (t := 43) F dX7_utter_41 rfl rfl ?_
      refine g_X7_52 (t := 46) F dX7_utter_43 rfl (by omega) rfl ?_
      refine q_iload (t := 48) F dX7_utter_46 rfl rfl ?_
      refine q_iload_n (t := 49) F dX7_utter_48 rfl rfl rfl ?_
      refine st_22 (t := 50) F dX7_utter_49 (by omega) (by omega) (by omega) rfl ?_
      refine q_aload (t := 52) F dX7_utter_50 rfl rfl ?_
      refine g_X7_78 (t := 55) F dX7_utter_52 rfl (by omega) rfl ?_
      refine q_iload (t := 57) F dX7_utter_55 rfl rfl ?_
      refine q_iconst (t := 58) F dX7_utter_57 rfl ?_
      refine st_23 (t := 59) F dX7_utter_58 (by omega) (by split at c24 <;> omega) (by split at c24 <;> omega) rfl ?_
      refine q_iload (t := 61) F dX7_utter_59 rfl rfl ?_
      refine q_iret F dX7_utter_61 rfl ?_
      have ht0 : 0 ≤ tg := by split at c24 <;> omega
      have hu : uttW im w man word food = tg := by
        unfold uttW
        rw [← htg, if_pos ⟨ht0, by rw [← hag 22 (by decide)]; exact c36⟩]
      refine ⟨_, rfl, hu.symm, _, RI_up (RI_up hR2 hwr) (by constructor <;> omega), ?_, rfl⟩
      unfold uttM
      rw [hu, if_neg (by omega)]
      exact ag_upup (ag_upup hag)
    · refine q_iconst (t := 40) F dX7_utter_39 rfl ?_
      refine q_iret F dX7_utter_40 rfl ?_
      have hu : uttW im w man word food = -1 := by
        unfold uttW
        rw [← htg]
        first
          | (rw [if_neg]; intro hh; split at c24 <;> omega)
          | (rw [if_neg]; intro hh; rw [hag 22 (by decide)] at c36; exact c36 hh.2)
      exact ⟨_, rfl, hu.symm, im2, hR2, by unfold uttM; rw [if_pos hu]; exact hag, rfl⟩

/-- KISSING: the first n GAPS -/
def hnd (im : IM) (p q n : Nat) : IM := fun k i s => if s < n ∧ im 22 p s ≠ -1 ∧ im 22 q s = -1 then (if k = 22 ∧ i = q then im 22 p s else if k = 22 ∧ i = p then -1 else if k = 23 ∧ i = q then 0 else im k i s) else im k i s
theorem hnd_app (im : IM) (p q n k i s : Nat) : hnd im p q n k i s = if s < n ∧ im 22 p s ≠ -1 ∧ im 22 q s = -1 then (if k = 22 ∧ i = q then im 22 p s else if k = 22 ∧ i = p then -1 else if k = 23 ∧ i = q then 0 else im k i s) else im k i s := rfl
def hndN (im : IM) (p q : Nat) : Nat → Int
  | 0 => 0
  | n + 1 => hndN im p q n + (if im 22 p n ≠ -1 ∧ im 22 q n = -1 then 1 else 0)
theorem hnd_0 (im : IM) (p q : Nat) : hnd im p q 0 = im := by
  funext k i s
  rw [hnd_app, if_neg (by omega)]
theorem hnd_n {im : IM} {p q n : Nat} (h : ¬ (im 22 p n ≠ -1 ∧ im 22 q n = -1)) : hnd im p q (n + 1) = hnd im p q n := by
  funext k i s
  rw [hnd_app, hnd_app]
  by_cases hs : s = n
  · subst hs
    rw [if_neg (fun z => h z.2), if_neg (fun z => h z.2)]
  · by_cases h2 : s < n ∧ im 22 p s ≠ -1 ∧ im 22 q s = -1
    · rw [if_pos ⟨by omega, h2.2⟩, if_pos h2]
    · rw [if_neg (fun z => h2 ⟨by omega, z.2⟩), if_neg h2]
theorem hnd_at {im : IM} {p q n : Nat} (k i : Nat) : hnd im p q n k i n = im k i n := by
  rw [hnd_app, if_neg (by omega)]
theorem hnd_y {im : IM} {p q n : Nat} (hpq : p ≠ q) (h : im 22 p n ≠ -1 ∧ im 22 q n = -1) : up (up (up (hnd im p q n) 22 p n (-1)) 22 q n (im 22 p n)) 23 q n 0 = hnd im p q (n + 1) := by
  funext k i s
  rw [hnd_app im p q (n + 1)]
  simp only [up_app]
  by_cases hs : s = n
  · subst hs
    rw [if_pos (show s < s + 1 ∧ im 22 p s ≠ -1 ∧ im 22 q s = -1 from ⟨Nat.lt_succ_self _, h⟩), hnd_at]
    by_cases h1 : k = 22 ∧ i = q
    · rw [if_neg (by omega), if_pos (by omega), if_pos h1]
    · by_cases h2 : k = 22 ∧ i = p
      · rw [if_neg (by omega), if_neg (by omega), if_pos (by omega), if_neg h1, if_pos h2]
      · by_cases h3 : k = 23 ∧ i = q
        · rw [if_pos (by omega), if_neg h1, if_neg h2, if_pos h3]
        · rw [if_neg (by omega), if_neg (by omega), if_neg (by omega), if_neg h1, if_neg h2, if_neg h3]
  · rw [if_neg (by omega), if_neg (by omega), if_neg (by omega), hnd_app]
    by_cases h2 : s < n ∧ im 22 p s ≠ -1 ∧ im 22 q s = -1
    · rw [if_pos h2, if_pos (show s < n + 1 ∧ im 22 p s ≠ -1 ∧ im 22 q s = -1 from ⟨by omega, h2.2⟩)]
    · rw [if_neg h2, if_neg (show ¬ (s < n + 1 ∧ im 22 p s ≠ -1 ∧ im 22 q s = -1) from fun z => h2 ⟨by omega, z.2⟩)]
theorem RI_hnd {im : IM} {p q n : Nat} (h : RI im) : RI (hnd im p q n) := by
  intro k i s
  rw [hnd_app]
  repeat' split
  all_goals first | exact h _ _ _ | (constructor <;> omega)
theorem hndN_in (im : IM) (p q n : Nat) : 0 ≤ hndN im p q n ∧ hndN im p q n ≤ n := by
  induction n with
  | zero => exact ⟨Int.le_refl 0, Int.le_refl 0⟩
  | succ n ih =>
    have h : hndN im p q (n + 1) = hndN im p q n + (if im 22 p n ≠ -1 ∧ im 22 q n = -1 then 1 else 0) := rfl
    rw [h]
    split <;> constructor <;> omega
theorem hndN_y {im : IM} {p q n : Nat} (h : im 22 p n ≠ -1 ∧ im 22 q n = -1) : hndN im p q (n + 1) = hndN im p q n + 1 := by
  show hndN im p q n + _ = _
  rw [if_pos h]
theorem hndN_n {im : IM} {p q n : Nat} (h : ¬ (im 22 p n ≠ -1 ∧ im 22 q n = -1)) : hndN im p q (n + 1) = hndN im p q n := by
  show hndN im p q n + _ = _
  rw [if_neg h, Int.add_zero]

set_option maxHeartbeats 4000000 in
theorem c_X7_handOn (l : Launch) (G : GS) (im : IM) (bt rt : Nat) (lm : IM) (w : Nat) (hw : w < 3) (hR : RI im) (a b : Nat) (ha : a < 5) (hb : b < 5) (hab : a ≠ b) : Cn l (XC G) yX7_handOn Y_X7_handOn [vR 18 w, vI (a : Int), vI (b : Int)] (im, rs bt rt, lm) (pI fun x m' => x = hndN im (5 * w + a) (5 * w + b) 10 ∧ m' = (hnd im (5 * w + a) (5 * w + b) 10, rs bt rt, lm)) := by
  refine cn_of (by decide) (okC G) rfl (Nat.le_of_ble_eq_true rfl) ?_
  intro M ad hMl F
  subst hMl
  refine wp_pad 4 ?_
  show Wp M (XC G) ad Y_X7_handOn (pI fun x m' => x = hndN im (5 * w + a) (5 * w + b) 10 ∧ m' = (hnd im (5 * w + a) (5 * w + b) 10, rs bt rt, lm)) 0 [some (vR 18 w), some (vI (a : Int)), some (vI (b : Int)), none, none, none, none] [] (im, rs bt rt, lm)
  refine q_aload_n (t := 1) F dX7_handOn_0 rfl rfl rfl ?_
  refine g_X7_11 (t := 4) F dX7_handOn_1 rfl (by omega) rfl ?_
  refine q_iload_n (t := 5) F dX7_handOn_4 rfl rfl rfl ?_
  first | refine laN_19 (t := 6) F dX7_handOn_5 (by omega) (by omega) rfl ?_ | refine la_19 (t := 6) F dX7_handOn_5 (by omega) (by omega) (by omega) rfl ?_
  refine q_astore_n (t := 7) F dX7_handOn_6 rfl (by decide) rfl rfl ?_
  refine q_aload_n (t := 8) F dX7_handOn_7 rfl rfl rfl ?_
  refine g_X7_11 (t := 11) F dX7_handOn_8 rfl (by omega) rfl ?_
  refine q_iload_n (t := 12) F dX7_handOn_11 rfl rfl rfl ?_
  first | refine laN_19 (t := 13) F dX7_handOn_12 (by omega) (by omega) rfl ?_ | refine la_19 (t := 13) F dX7_handOn_12 (by omega) (by omega) (by omega) rfl ?_
  refine q_astore (t := 15) F dX7_handOn_13 (by decide) rfl rfl ?_
  refine q_iconst (t := 16) F dX7_handOn_15 rfl ?_
  refine q_istore (t := 18) F dX7_handOn_16 (by decide) rfl rfl ?_
  refine q_iconst (t := 19) F dX7_handOn_18 rfl ?_
  refine q_istore (t := 21) F dX7_handOn_19 (by decide) rfl rfl ?_
  have L21 : ∀ (fz : Nat) (i : Nat), 10 - i < fz → i ≤ 10 → Wp M (XC G) ad Y_X7_handOn (pI fun x m' => x = hndN im (5 * w + a) (5 * w + b) 10 ∧ m' = (hnd im (5 * w + a) (5 * w + b) 10, rs bt rt, lm)) 21 [some (vR 18 w), some (vI (a : Int)), some (vI (b : Int)), some (vR 21 (5 * w + a)), some (vR 21 (5 * w + b)), some (vI (hndN im (5 * w + a) (5 * w + b) i)), some (vI (i : Int))] [] (hnd im (5 * w + a) (5 * w + b) i, rs bt rt, lm) := by
    intro fz
    induction fz with
    | zero => intro i h; exact absurd h (Nat.not_lt_zero _)
    | succ fz ih =>
      intro i hmeas hi
      have hRi : RI (hnd im (5 * w + a) (5 * w + b) i) := RI_hnd hR
      have hRR : ∀ k j, ri (im k j i) := fun k j => hR k j i
      refine q_iload (t := 23) F dX7_handOn_21 rfl rfl ?_
      refine q_bipush (t := 25) F dX7_handOn_23 (by decide) rfl ?_
      refine q_icmp_ge (t := 28) (u := 86) F dX7_handOn_25 (by first | exact hR _ _ _ | (constructor <;> omega)) (by first | exact hR _ _ _ | (constructor <;> omega)) (by decide) rfl (fun c25 => ?_) (fun c25 => ?_)
      · refine q_iload (t := 88) F dX7_handOn_86 rfl rfl ?_
        refine q_iret F dX7_handOn_88 rfl ?_
        exact ⟨_, rfl, by rw [show i = 10 by omega], by rw [show i = 10 by omega]⟩
      · refine q_aload_n (t := 29) F dX7_handOn_28 rfl rfl rfl ?_
        refine g_X7_52 (t := 32) F dX7_handOn_29 rfl (by omega) rfl ?_
        refine q_iload (t := 34) F dX7_handOn_32 rfl rfl ?_
        first | refine ldN_22 (t := 35) F dX7_handOn_34 (by omega) (by omega) rfl ?_ | refine ld_22 (t := 35) F dX7_handOn_34 (by omega) (by omega) (by omega) rfl ?_
        try rw [hnd_at]
        refine q_iconst (t := 36) F dX7_handOn_35 rfl ?_
        refine q_icmp_eq (t := 39) (u := 80) F dX7_handOn_36 (by first | exact hR _ _ _ | (constructor <;> omega)) (by first | exact hR _ _ _ | (constructor <;> omega)) (by decide) rfl (fun c36 => ?_) (fun c36 => ?_)
        · refine q_iinc (t := 83) F dX7_handOn_80 rfl (by decide) rfl rfl ?_
          refine q_goto (t := 21) F dX7_handOn_83 (by decide) ?_
          first
            | (rw [hnd_y (by omega) ⟨c36, c48⟩, ← hndN_y ⟨c36, c48⟩]
               exact ih (i + 1) (by omega) (by omega))
            | (have hno : ¬ (im 22 (5 * w + a) i ≠ -1 ∧ im 22 (5 * w + b) i = -1) := by omega
               rw [← hndN_n hno, ← hnd_n hno]
               exact ih (i + 1) (by omega) (by omega))
        · refine q_aload (t := 41) F dX7_handOn_39 rfl rfl ?_
          refine g_X7_52 (t := 44) F dX7_handOn_41 rfl (by omega) rfl ?_
          refine q_iload (t := 46) F dX7_handOn_44 rfl rfl ?_
          first | refine ldN_22 (t := 47) F dX7_handOn_46 (by omega) (by omega) rfl ?_ | refine ld_22 (t := 47) F dX7_handOn_46 (by omega) (by omega) (by omega) rfl ?_
          try rw [hnd_at]
          refine q_iconst (t := 48) F dX7_handOn_47 rfl ?_
          refine q_icmp_eq (t := 51) (u := 54) F dX7_handOn_48 (by first | exact hR _ _ _ | (constructor <;> omega)) (by first | exact hR _ _ _ | (constructor <;> omega)) (by decide) rfl (fun c48 => ?_) (fun c48 => ?_)
          · refine q_aload (t := 56) F dX7_handOn_54 rfl rfl ?_
            refine g_X7_52 (t := 59) F dX7_handOn_56 rfl (by omega) rfl ?_
            refine q_iload (t := 61) F dX7_handOn_59 rfl rfl ?_
            refine q_aload_n (t := 62) F dX7_handOn_61 rfl rfl rfl ?_
            refine q_iload (t := 64) F dX7_handOn_62 rfl rfl ?_
            refine wp_callV (t := 67) [_] F dX7_handOn_64 k_X3_empty v_X3_empty ml_X7_81 rfl rfl rfl rfl (Nat.le_of_ble_eq_true rfl) (by decide) (m_21 (by omega)) (c_X3_empty _ G (hnd im (5 * w + a) (5 * w + b) i) bt rt lm (5 * w + a) (by omega) i (by omega)) rfl (kI ?_)
            rintro x m' ⟨rfl, rfl⟩
            rw [hnd_at]
            first | refine stN_22 (t := 68) F dX7_handOn_67 (by omega) (by omega) rfl ?_ | refine st_22 (t := 68) F dX7_handOn_67 (by omega) (by omega) (by omega) rfl ?_
            refine q_aload (t := 70) F dX7_handOn_68 rfl rfl ?_
            refine g_X7_78 (t := 73) F dX7_handOn_70 rfl (by omega) rfl ?_
            refine q_iload (t := 75) F dX7_handOn_73 rfl rfl ?_
            refine q_iconst (t := 76) F dX7_handOn_75 rfl ?_
            first | refine stN_23 (t := 77) F dX7_handOn_76 (by omega) (by omega) rfl ?_ | refine st_23 (t := 77) F dX7_handOn_76 (by omega) (by omega) (by omega) rfl ?_
            refine q_iinc (t := 80) F dX7_handOn_77 rfl (by decide) rfl rfl ?_
            refine q_iinc (t := 83) F dX7_handOn_80 rfl (by decide) rfl rfl ?_
            refine q_goto (t := 21) F dX7_handOn_83 (by decide) ?_
            first
              | (rw [hnd_y (by omega) ⟨c36, c48⟩, ← hndN_y ⟨c36, c48⟩]
                 exact ih (i + 1) (by omega) (by omega))
              | (have hno : ¬ (im 22 (5 * w + a) i ≠ -1 ∧ im 22 (5 * w + b) i = -1) := by omega
                 rw [← hndN_n hno, ← hnd_n hno]
                 exact ih (i + 1) (by omega) (by omega))
          · refine q_goto (t := 80) F dX7_handOn_51 (by decide) ?_
            refine q_iinc (t := 83) F dX7_handOn_80 rfl (by decide) rfl rfl ?_
            refine q_goto (t := 21) F dX7_handOn_83 (by decide) ?_
            first
              | (rw [hnd_y (by omega) ⟨c36, c48⟩, ← hndN_y ⟨c36, c48⟩]
                 exact ih (i + 1) (by omega) (by omega))
              | (have hno : ¬ (im 22 (5 * w + a) i ≠ -1 ∧ im 22 (5 * w + b) i = -1) := by omega
                 rw [← hndN_n hno, ← hnd_n hno]
                 exact ih (i + 1) (by omega) (by omega))
  have h := L21 _ 0 (Nat.lt_succ_self _) (by omega)
  rw [hnd_0] at h
  exact h
