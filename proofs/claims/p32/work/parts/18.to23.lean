section
/-! Text -/
theorem row_self (im : IM) (k i : Nat) : row im k i (im k i) = im := by
  funext k' i' s'
  rw [row_app]
  split
  · rename_i h; obtain ⟨rfl, rfl⟩ := h; rfl
  · rfl
theorem up_row (im : IM) (k i s : Nat) (f : Nat → Int) (x : Int) : up (row im k i f) k i s x = row im k i (us f s x) := by
  funext k' i' s'
  simp only [row_app, up_app, us]
  repeat' split
  all_goals first | rfl | (exfalso; omega)
theorem bj2_9 (a b : Int) : bi2 (-9) a b = bm (a * b) := rfl
theorem bj2_10 (a b : Int) : bi2 (-10) a b = bm (a + b) := rfl
theorem bj2_11 (a b : Int) : bi2 (-11) a b = bm (a - b) := rfl
theorem bj2_12 (a b : Int) : bi2 (-12) a b = if a < b then 1 else 0 := rfl
theorem bj2_13 (a b : Int) : bi2 (-13) a b = if a = b then 1 else 0 := rfl
theorem bj2_14 (a b : Int) : bi2 (-14) a b = if a ≠ 0 ∧ b ≠ 0 then 1 else 0 := rfl
theorem bj2_o {s : Int} (h : s < -14) (a b : Int) : bi2 s a b = if a ≠ 0 ∨ b ≠ 0 then 1 else 0 := by
  unfold bi2
  rw [if_neg (by omega), if_neg (by omega), if_neg (by omega), if_neg (by omega), if_neg (by omega), if_neg (by omega)]
theorem joinS_1 {s : Int} {u : Nat} {k : Nat → Int} (h : -8 ≤ s) : joinS s (u + 1, k) = (u + 1, us k u (un1 s (k u))) := by
  unfold joinS
  rw [if_pos h, if_neg (by show ¬ (u + 1 < 1); omega)]
  rfl
theorem joinS_2 {s : Int} {u : Nat} {k : Nat → Int} (h : s < -8) : joinS s (u + 2, k) = (u + 1, us k u (bi2 s (k u) (k (u + 1)))) := by
  unfold joinS
  rw [if_neg (by omega), if_neg (by show ¬ (u + 2 < 2); omega)]
  rfl
theorem joinS_0 {s : Int} {t : Nat} {k : Nat → Int} (h : -8 ≤ s ∧ t < 1 ∨ s < -8 ∧ t < 2) : joinS s (t, k) = (t, k) := by
  unfold joinS
  split
  · rw [if_pos (by show t < 1; omega)]
  · rw [if_pos (by show t < 2; omega)]
theorem tellQ_congr {im im' : IM} {j part : Nat} {nm k : Nat → Int} (h3 : ∀ s, im' 3 j s = im 3 j s) (h4 : ∀ s, im' 4 j s = im 4 j s) : tellQ im' j part nm k = tellQ im j part nm k := by
  have e3 : im' 3 j = im 3 j := funext h3
  unfold tellQ pa pb
  simp only [h4, e3]
theorem tellV_congr {im im' : IM} {j part : Nat} {nm : Nat → Int} (h3 : ∀ s, im' 3 j s = im 3 j s) (h4 : ∀ s, im' 4 j s = im 4 j s) : tellV im' j part nm = tellV im j part nm := by
  unfold tellV
  rw [tellQ_congr h3 h4]
theorem goodT_congr {im im' : IM} {j : Nat} (h3 : ∀ s, im' 3 j s = im 3 j s) (h4 : ∀ s, im' 4 j s = im 4 j s) (h : goodT im j) : goodT im' j := by
  refine ⟨fun part hp => ?_, fun part hp nm k => ?_⟩
  · rw [h4]; exact h.1 part hp
  · rw [tellQ_congr h3 h4, tellQ_congr h3 h4]; exact h.2 part hp nm k

set_option maxHeartbeats 4000000 in
theorem c_X6_clear (l : Launch) (G : GS) (im : IM) (bt rt : Nat) (lm : IM) (j : Nat) (hj : j < 6) : Cn l (XC G) yX6_clear Y_X6_clear [vR 2 j] (im, rs bt rt, lm) (pV fun m' => m' = (up im 2 j 3 0, rs bt rt, lm)) := by
  refine cn_of (by decide) (okC G) rfl (Nat.le_of_ble_eq_true rfl) ?_
  intro M ad hMl F
  subst hMl
  refine wp_pad 0 ?_
  show Wp M (XC G) ad Y_X6_clear (pV fun m' => m' = (up im 2 j 3 0, rs bt rt, lm)) 0 [some (vR 2 j)] [] (im, rs bt rt, lm)
  refine q_aload_n (t := 1) F dX6_clear_0 rfl rfl rfl ?_
  refine q_iconst (t := 2) F dX6_clear_1 rfl ?_
  refine p_X6_21 (t := 5) F dX6_clear_2 rfl (by omega) rfl ?_
  refine q_vret F dX6_clear_5 rfl ?_
  exact ⟨rfl, rfl⟩

/-- a step more -/
def addM (im : IM) (j : Nat) (s : Int) : IM := if im 2 j 3 < 160 then up (up im 3 j (im 2 j 3).toNat s) 2 j 3 (im 2 j 3 + 1) else im

set_option maxHeartbeats 4000000 in
theorem c_X6_add (l : Launch) (G : GS) (im : IM) (bt rt : Nat) (lm : IM) (j : Nat) (hj : j < 6) (s : Int) (z0 : 0 ≤ im 2 j 3) (z1 : im 2 j 3 ≤ 160) (hR : RI im) : Cn l (XC G) yX6_add Y_X6_add [vR 2 j, vI s] (im, rs bt rt, lm) (pV fun m' => m' = (addM im j s, rs bt rt, lm)) := by
  refine cn_of (by decide) (okC G) rfl (Nat.le_of_ble_eq_true rfl) ?_
  intro M ad hMl F
  subst hMl
  refine wp_pad 0 ?_
  show Wp M (XC G) ad Y_X6_add (pV fun m' => m' = (addM im j s, rs bt rt, lm)) 0 [some (vR 2 j), some (vI s)] [] (im, rs bt rt, lm)
  refine q_aload_n (t := 1) F dX6_add_0 rfl rfl rfl ?_
  refine g_X6_21 (t := 4) F dX6_add_1 rfl (by omega) rfl ?_
  refine q_sipush (t := 7) F dX6_add_4 (by decide) rfl ?_
  refine q_icmp_lt (t := 10) (u := 11) F dX6_add_7 (by first | exact hR _ _ _ | (constructor <;> omega)) (by first | exact hR _ _ _ | (constructor <;> omega)) (by decide) rfl (fun c7 => ?_) (fun c7 => ?_)
  · refine q_aload_n (t := 12) F dX6_add_11 rfl rfl rfl ?_
    refine g_X6_9 (t := 15) F dX6_add_12 rfl (by omega) rfl ?_
    refine q_aload_n (t := 16) F dX6_add_15 rfl rfl rfl ?_
    refine g_X6_21 (t := 19) F dX6_add_16 rfl (by omega) rfl ?_
    refine q_iload_n (t := 20) F dX6_add_19 rfl rfl rfl ?_
    refine st_3 (t := 21) F dX6_add_20 (by omega) (by omega) (by omega) rfl ?_
    refine q_aload_n (t := 22) F dX6_add_21 rfl rfl rfl ?_
    refine q_dupR (t := 23) F dX6_add_22 rfl ?_
    refine g_X6_21 (t := 26) F dX6_add_23 rfl (by omega) rfl ?_
    try simp only [up_app, row_app, scr_app, cpy_app, Nat.reduceEqDiff, Int.reduceToNat, Int.toNat_natCast, and_true, true_and, and_false, false_and, and_self, reduceIte]
    refine q_iconst (t := 27) F dX6_add_26 rfl ?_
    refine q_iadd (t := 28) F dX6_add_27 rfl ?_
    refine p_X6_21 (t := 31) F dX6_add_28 rfl (by omega) rfl ?_
    refine q_vret F dX6_add_31 rfl ?_
    exact ⟨rfl, by unfold addM; rw [if_pos (by omega)]⟩
  · refine q_vret F dX6_add_10 rfl ?_
    exact ⟨rfl, by unfold addM; rw [if_neg (by omega)]⟩

set_option maxHeartbeats 4000000 in
theorem c_X6_endPart (l : Launch) (G : GS) (im : IM) (bt rt : Nat) (lm : IM) (j : Nat) (hj : j < 6) (part : Nat) (hp : part < 3) : Cn l (XC G) yX6_endPart Y_X6_endPart [vR 2 j, vI (part : Int)] (im, rs bt rt, lm) (pV fun m' => m' = (up im 4 j part (im 2 j 3), rs bt rt, lm)) := by
  refine cn_of (by decide) (okC G) rfl (Nat.le_of_ble_eq_true rfl) ?_
  intro M ad hMl F
  subst hMl
  refine wp_pad 0 ?_
  show Wp M (XC G) ad Y_X6_endPart (pV fun m' => m' = (up im 4 j part (im 2 j 3), rs bt rt, lm)) 0 [some (vR 2 j), some (vI (part : Int))] [] (im, rs bt rt, lm)
  refine q_aload_n (t := 1) F dX6_endPart_0 rfl rfl rfl ?_
  refine g_X6_15 (t := 4) F dX6_endPart_1 rfl (by omega) rfl ?_
  refine q_iload_n (t := 5) F dX6_endPart_4 rfl rfl rfl ?_
  refine q_aload_n (t := 6) F dX6_endPart_5 rfl rfl rfl ?_
  refine g_X6_21 (t := 9) F dX6_endPart_6 rfl (by omega) rfl ?_
  first | refine stN_4 (t := 10) F dX6_endPart_9 (by omega) (by omega) rfl ?_ | refine st_4 (t := 10) F dX6_endPart_9 (by omega) (by omega) (by omega) rfl ?_
  refine q_vret F dX6_endPart_10 rfl ?_
  exact ⟨rfl, rfl⟩

set_option maxHeartbeats 4000000 in
theorem c_X6_put17 (l : Launch) (G : GS) (im : IM) (bt rt : Nat) (lm : IM) (j : Nat) (hj : j < 6) (k : Nat → Int) (s : Int) (t : Nat) (hs : -7 < s) (hs2 : ri s) (ht : t ≤ 31) : Cn l (XC G) yX6_put Y_X6_put [vR 2 j, vI s, vI (t : Int), vR 17 0] (row im 5 j k, rs bt rt, lm) (pI fun x m' => x = ((putS (im 17 0) s (t, k)).1 : Int) ∧ m' = (row im 5 j (putS (im 17 0) s (t, k)).2, rs bt rt, lm)) := by
  refine cn_of (by decide) (okC G) rfl (Nat.le_of_ble_eq_true rfl) ?_
  intro M ad hMl F
  subst hMl
  have hs3 := hs2.1
  have hs4 := hs2.2
  refine wp_pad 0 ?_
  show Wp M (XC G) ad Y_X6_put (pI fun x m' => x = ((putS (im 17 0) s (t, k)).1 : Int) ∧ m' = (row im 5 j (putS (im 17 0) s (t, k)).2, rs bt rt, lm)) 0 [some (vR 2 j), some (vI s), some (vI (t : Int)), some (vR 17 0)] [] (row im 5 j k, rs bt rt, lm)
  refine q_iload_n (t := 1) F dX6_put_0 rfl rfl rfl ?_
  refine q_bipush (t := 3) F dX6_put_1 (by decide) rfl ?_
  refine q_icmp_lt (t := 6) (u := 8) F dX6_put_3 (by first | exact hR _ _ _ | (constructor <;> omega)) (by first | exact hR _ _ _ | (constructor <;> omega)) (by decide) rfl (fun c3 => ?_) (fun c3 => ?_)
  · refine q_aload_n (t := 9) F dX6_put_8 rfl rfl rfl ?_
    refine g_X6_18 (t := 12) F dX6_put_9 rfl (by omega) rfl ?_
    refine q_iload_n (t := 13) F dX6_put_12 rfl rfl rfl ?_
    refine q_iload_n (t := 14) F dX6_put_13 rfl rfl rfl ?_
    refine q_if_lt (t := 17) (u := 21) F dX6_put_14 (by first | exact hR _ _ _ | (constructor <;> omega)) (by decide) rfl (fun c14 => ?_) (fun c14 => ?_)
    · refine q_aload_n (t := 22) F dX6_put_21 rfl rfl rfl ?_
      refine q_iconst (t := 23) F dX6_put_22 rfl ?_
      refine q_iload_n (t := 24) F dX6_put_23 rfl rfl rfl ?_
      refine q_isub (t := 25) F dX6_put_24 rfl ?_
      rw [show (-1 : Int) - s = (((-1 - s).toNat : Nat) : Int) by omega]
      first | refine ldN_17 (t := 26) F dX6_put_25 (by omega) rfl ?_ | refine ld_17 (t := 26) F dX6_put_25 (by omega) (by omega) rfl ?_
      try simp only [up_app, row_app, scr_app, cpy_app, Nat.reduceEqDiff, Int.reduceToNat, Int.toNat_natCast, and_true, true_and, and_false, false_and, and_self, reduceIte]
      first | refine stN_5 (t := 27) F dX6_put_26 (by omega) (by omega) rfl ?_ | refine st_5 (t := 27) F dX6_put_26 (by omega) (by omega) (by omega) rfl ?_
      refine q_iload_n (t := 28) F dX6_put_27 rfl rfl rfl ?_
      refine q_iconst (t := 29) F dX6_put_28 rfl ?_
      refine q_iadd (t := 30) F dX6_put_29 rfl ?_
      refine q_iret F dX6_put_30 rfl ?_
      refine ⟨_, rfl, by unfold putS; rw [if_pos (by omega)]; rfl, ?_⟩
      rw [up_row]
      unfold putS
      rw [if_pos (by omega)]
      first | (rw [if_pos (by omega)]) | (rw [if_neg (by omega)])
    · refine q_iload_n (t := 18) F dX6_put_17 rfl rfl rfl ?_
      refine q_goto (t := 26) F dX6_put_18 (by decide) ?_
      try simp only [up_app, row_app, scr_app, cpy_app, Nat.reduceEqDiff, Int.reduceToNat, Int.toNat_natCast, and_true, true_and, and_false, false_and, and_self, reduceIte]
      first | refine stN_5 (t := 27) F dX6_put_26 (by omega) (by omega) rfl ?_ | refine st_5 (t := 27) F dX6_put_26 (by omega) (by omega) (by omega) rfl ?_
      refine q_iload_n (t := 28) F dX6_put_27 rfl rfl rfl ?_
      refine q_iconst (t := 29) F dX6_put_28 rfl ?_
      refine q_iadd (t := 30) F dX6_put_29 rfl ?_
      refine q_iret F dX6_put_30 rfl ?_
      refine ⟨_, rfl, by unfold putS; rw [if_pos (by omega)]; rfl, ?_⟩
      rw [up_row]
      unfold putS
      rw [if_pos (by omega)]
      first | (rw [if_pos (by omega)]) | (rw [if_neg (by omega)])
  · refine q_iload_n (t := 7) F dX6_put_6 rfl rfl rfl ?_
    refine q_iret F dX6_put_7 rfl ?_
    exact ⟨_, rfl, by unfold putS; rw [if_neg (by omega)], by unfold putS; rw [if_neg (by omega)]⟩

set_option maxHeartbeats 4000000 in
theorem c_X6_put20 (l : Launch) (G : GS) (im : IM) (bt rt : Nat) (lm : IM) (j : Nat) (hj : j < 6) (w : Nat) (hw : w < 3) (k : Nat → Int) (s : Int) (t : Nat) (hs : -7 < s) (hs2 : ri s) (ht : t ≤ 31) : Cn l (XC G) yX6_put Y_X6_put [vR 2 j, vI s, vI (t : Int), vR 20 w] (row im 5 j k, rs bt rt, lm) (pI fun x m' => x = ((putS (im 20 w) s (t, k)).1 : Int) ∧ m' = (row im 5 j (putS (im 20 w) s (t, k)).2, rs bt rt, lm)) := by
  refine cn_of (by decide) (okC G) rfl (Nat.le_of_ble_eq_true rfl) ?_
  intro M ad hMl F
  subst hMl
  have hs3 := hs2.1
  have hs4 := hs2.2
  refine wp_pad 0 ?_
  show Wp M (XC G) ad Y_X6_put (pI fun x m' => x = ((putS (im 20 w) s (t, k)).1 : Int) ∧ m' = (row im 5 j (putS (im 20 w) s (t, k)).2, rs bt rt, lm)) 0 [some (vR 2 j), some (vI s), some (vI (t : Int)), some (vR 20 w)] [] (row im 5 j k, rs bt rt, lm)
  refine q_iload_n (t := 1) F dX6_put_0 rfl rfl rfl ?_
  refine q_bipush (t := 3) F dX6_put_1 (by decide) rfl ?_
  refine q_icmp_lt (t := 6) (u := 8) F dX6_put_3 (by first | exact hR _ _ _ | (constructor <;> omega)) (by first | exact hR _ _ _ | (constructor <;> omega)) (by decide) rfl (fun c3 => ?_) (fun c3 => ?_)
  · refine q_aload_n (t := 9) F dX6_put_8 rfl rfl rfl ?_
    refine g_X6_18 (t := 12) F dX6_put_9 rfl (by omega) rfl ?_
    refine q_iload_n (t := 13) F dX6_put_12 rfl rfl rfl ?_
    refine q_iload_n (t := 14) F dX6_put_13 rfl rfl rfl ?_
    refine q_if_lt (t := 17) (u := 21) F dX6_put_14 (by first | exact hR _ _ _ | (constructor <;> omega)) (by decide) rfl (fun c14 => ?_) (fun c14 => ?_)
    · refine q_aload_n (t := 22) F dX6_put_21 rfl rfl rfl ?_
      refine q_iconst (t := 23) F dX6_put_22 rfl ?_
      refine q_iload_n (t := 24) F dX6_put_23 rfl rfl rfl ?_
      refine q_isub (t := 25) F dX6_put_24 rfl ?_
      rw [show (-1 : Int) - s = (((-1 - s).toNat : Nat) : Int) by omega]
      first | refine ldN_20 (t := 26) F dX6_put_25 (by omega) (by omega) rfl ?_ | refine ld_20 (t := 26) F dX6_put_25 (by omega) (by omega) (by omega) rfl ?_
      try simp only [up_app, row_app, scr_app, cpy_app, Nat.reduceEqDiff, Int.reduceToNat, Int.toNat_natCast, and_true, true_and, and_false, false_and, and_self, reduceIte]
      first | refine stN_5 (t := 27) F dX6_put_26 (by omega) (by omega) rfl ?_ | refine st_5 (t := 27) F dX6_put_26 (by omega) (by omega) (by omega) rfl ?_
      refine q_iload_n (t := 28) F dX6_put_27 rfl rfl rfl ?_
      refine q_iconst (t := 29) F dX6_put_28 rfl ?_
      refine q_iadd (t := 30) F dX6_put_29 rfl ?_
      refine q_iret F dX6_put_30 rfl ?_
      refine ⟨_, rfl, by unfold putS; rw [if_pos (by omega)]; rfl, ?_⟩
      rw [up_row]
      unfold putS
      rw [if_pos (by omega)]
      first | (rw [if_pos (by omega)]) | (rw [if_neg (by omega)])
    · refine q_iload_n (t := 18) F dX6_put_17 rfl rfl rfl ?_
      refine q_goto (t := 26) F dX6_put_18 (by decide) ?_
      try simp only [up_app, row_app, scr_app, cpy_app, Nat.reduceEqDiff, Int.reduceToNat, Int.toNat_natCast, and_true, true_and, and_false, false_and, and_self, reduceIte]
      first | refine stN_5 (t := 27) F dX6_put_26 (by omega) (by omega) rfl ?_ | refine st_5 (t := 27) F dX6_put_26 (by omega) (by omega) (by omega) rfl ?_
      refine q_iload_n (t := 28) F dX6_put_27 rfl rfl rfl ?_
      refine q_iconst (t := 29) F dX6_put_28 rfl ?_
      refine q_iadd (t := 30) F dX6_put_29 rfl ?_
      refine q_iret F dX6_put_30 rfl ?_
      refine ⟨_, rfl, by unfold putS; rw [if_pos (by omega)]; rfl, ?_⟩
      rw [up_row]
      unfold putS
      rw [if_pos (by omega)]
      first | (rw [if_pos (by omega)]) | (rw [if_neg (by omega)])
  · refine q_iload_n (t := 7) F dX6_put_6 rfl rfl rfl ?_
    refine q_iret F dX6_put_7 rfl ?_
    exact ⟨_, rfl, by unfold putS; rw [if_neg (by omega)], by unfold putS; rw [if_neg (by omega)]⟩

set_option maxHeartbeats 4000000 in
theorem c_X6_join (l : Launch) (G : GS) (im : IM) (bt rt : Nat) (lm : IM) (j : Nat) (hj : j < 6) (k : Nat → Int) (hk : ∀ s, ri (k s)) (s : Int) (t : Nat) (hs : s ≤ -7) (hs2 : ri s) (ht : t ≤ 31) : Cn l (XC G) yX6_join Y_X6_join [vR 2 j, vI s, vI (t : Int)] (row im 5 j k, rs bt rt, lm) (pI fun x m' => x = ((joinS s (t, k)).1 : Int) ∧ m' = (row im 5 j (joinS s (t, k)).2, rs bt rt, lm)) := by
  refine cn_of (by decide) (okC G) rfl (Nat.le_of_ble_eq_true rfl) ?_
  intro M ad hMl F
  subst hMl
  have hs3 := hs2.1
  have hs4 := hs2.2
  refine wp_pad 3 ?_
  show Wp M (XC G) ad Y_X6_join (pI fun x m' => x = ((joinS s (t, k)).1 : Int) ∧ m' = (row im 5 j (joinS s (t, k)).2, rs bt rt, lm)) 0 [some (vR 2 j), some (vI s), some (vI (t : Int)), none, none, none] [] (row im 5 j k, rs bt rt, lm)
  refine q_iload_n (t := 1) F dX6_join_0 rfl rfl rfl ?_
  refine q_bipush (t := 3) F dX6_join_1 (by decide) rfl ?_
  refine q_icmp_lt (t := 6) (u := 12) F dX6_join_3 (by first | exact hR _ _ _ | (constructor <;> omega)) (by first | exact hR _ _ _ | (constructor <;> omega)) (by decide) rfl (fun c3 => ?_) (fun c3 => ?_)
  · refine q_iload_n (t := 13) F dX6_join_12 rfl rfl rfl ?_
    refine q_iconst (t := 14) F dX6_join_13 rfl ?_
    refine q_isub (t := 15) F dX6_join_14 rfl ?_
    refine q_istore_n (t := 16) F dX6_join_15 rfl (by decide) rfl rfl ?_
    refine q_iload_n (t := 17) F dX6_join_16 rfl rfl rfl ?_
    refine q_if_ge (t := 20) (u := 22) F dX6_join_17 (by first | exact hR _ _ _ | (constructor <;> omega)) (by decide) rfl (fun c17 => ?_) (fun c17 => ?_)
    · first | (obtain ⟨u, rfl⟩ : ∃ u : Nat, t = u + 1 := ⟨t - 1, by omega⟩; rw [show ((u + 1 : Nat) : Int) - 1 = (u : Int) by omega]) | (obtain ⟨u, rfl⟩ : ∃ u : Nat, t = u + 2 := ⟨t - 2, by omega⟩; rw [show ((u + 2 : Nat) : Int) - 2 = (u : Int) by omega])
      refine q_aload_n (t := 23) F dX6_join_22 rfl rfl rfl ?_
      refine g_X6_18 (t := 26) F dX6_join_23 rfl (by omega) rfl ?_
      refine q_iload_n (t := 27) F dX6_join_26 rfl rfl rfl ?_
      first | refine ldN_5 (t := 28) F dX6_join_27 (by omega) (by omega) rfl ?_ | refine ld_5 (t := 28) F dX6_join_27 (by omega) (by omega) (by omega) rfl ?_
      try simp only [up_app, row_app, scr_app, cpy_app, Nat.reduceEqDiff, Int.reduceToNat, Int.toNat_natCast, and_true, true_and, and_false, false_and, and_self, reduceIte]
      refine q_istore (t := 30) F dX6_join_28 (by decide) rfl rfl ?_
      refine q_aload_n (t := 31) F dX6_join_30 rfl rfl rfl ?_
      refine g_X6_18 (t := 34) F dX6_join_31 rfl (by omega) rfl ?_
      refine q_iload_n (t := 35) F dX6_join_34 rfl rfl rfl ?_
      refine q_iconst (t := 36) F dX6_join_35 rfl ?_
      refine q_isub (t := 37) F dX6_join_36 rfl ?_
      first | rw [show ((u + 1 : Nat) : Int) - 1 = (u : Int) by omega] | rw [show ((u + 2 : Nat) : Int) - 1 = ((u + 1 : Nat) : Int) by omega]
      first | refine ldN_5 (t := 38) F dX6_join_37 (by omega) (by omega) rfl ?_ | refine ld_5 (t := 38) F dX6_join_37 (by omega) (by omega) (by omega) rfl ?_
      try simp only [up_app, row_app, scr_app, cpy_app, Nat.reduceEqDiff, Int.reduceToNat, Int.toNat_natCast, and_true, true_and, and_false, false_and, and_self, reduceIte]
      refine q_istore (t := 40) F dX6_join_38 (by decide) rfl rfl ?_
      refine q_iload_n (t := 41) F dX6_join_40 rfl rfl rfl ?_
      have sw41 : s < -14 ∨ -7 < s ∨ s = -14 ∨ s = -13 ∨ s = -12 ∨ s = -11 ∨ s = -10 ∨ s = -9 ∨ s = -8 ∨ s = -7 := by omega
      rcases sw41 with c41 | c41 | c41 | c41 | c41 | c41 | c41 | c41 | c41 | c41
      · refine q_tableOut (t := 227) F dX6_join_41 (by first | exact hR _ _ _ | (constructor <;> omega)) (Or.inl c41) (by decide) ?_
        refine q_aload_n (t := 228) F dX6_join_227 rfl rfl rfl ?_
        refine g_X6_18 (t := 231) F dX6_join_228 rfl (by omega) rfl ?_
        refine q_iload_n (t := 232) F dX6_join_231 rfl rfl rfl ?_
        refine q_iload (t := 234) F dX6_join_232 rfl rfl ?_
        refine q_if_ne (t := 237) (u := 242) F dX6_join_234 (by first | exact hk _ | (constructor <;> omega)) (by decide) rfl (fun c234 => ?_) (fun c234 => ?_)
        · refine q_iconst (t := 243) F dX6_join_242 rfl ?_
          refine q_goto (t := 247) F dX6_join_243 (by decide) ?_
          first | refine stN_5 (t := 248) F dX6_join_247 (by omega) (by omega) rfl ?_ | refine st_5 (t := 248) F dX6_join_247 (by omega) (by omega) (by omega) rfl ?_
          refine q_iload_n (t := 249) F dX6_join_248 rfl rfl rfl ?_
          refine q_iconst (t := 250) F dX6_join_249 rfl ?_
          refine q_iadd (t := 251) F dX6_join_250 rfl ?_
          refine q_iret F dX6_join_251 rfl ?_
          first
            | (rw [joinS_1 (by omega)]
               refine ⟨_, rfl, rfl, ?_⟩
               rw [up_row]
               refine congrArg (fun v => ((row im 5 j (us k u v), rs bt rt, lm) : Mem)) ?_
               unfold un1
               (repeat' split) <;> first | rfl | omega)
            | (rw [joinS_2 (by omega)]
               refine ⟨_, rfl, rfl, ?_⟩
               rw [up_row]
               refine congrArg (fun v => ((row im 5 j (us k u v), rs bt rt, lm) : Mem)) ?_
               first
                 | (rw [c41]; (first | rw [bj2_9] | rw [bj2_10] | rw [bj2_11] | rw [bj2_12] | rw [bj2_13] | rw [bj2_14]); (try split) <;> first | rfl | omega)
                 | (rw [bj2_o (by omega)]; (try split) <;> first | rfl | omega)
                 | (unfold bi2; (repeat' split) <;> first | rfl | omega))
        · refine q_iload (t := 239) F dX6_join_237 rfl rfl ?_
          refine q_if_eq (t := 242) (u := 246) F dX6_join_239 (by first | exact hk _ | (constructor <;> omega)) (by decide) rfl (fun c239 => ?_) (fun c239 => ?_)
          · refine q_iconst (t := 247) F dX6_join_246 rfl ?_
            first | refine stN_5 (t := 248) F dX6_join_247 (by omega) (by omega) rfl ?_ | refine st_5 (t := 248) F dX6_join_247 (by omega) (by omega) (by omega) rfl ?_
            refine q_iload_n (t := 249) F dX6_join_248 rfl rfl rfl ?_
            refine q_iconst (t := 250) F dX6_join_249 rfl ?_
            refine q_iadd (t := 251) F dX6_join_250 rfl ?_
            refine q_iret F dX6_join_251 rfl ?_
            first
              | (rw [joinS_1 (by omega)]
                 refine ⟨_, rfl, rfl, ?_⟩
                 rw [up_row]
                 refine congrArg (fun v => ((row im 5 j (us k u v), rs bt rt, lm) : Mem)) ?_
                 unfold un1
                 (repeat' split) <;> first | rfl | omega)
              | (rw [joinS_2 (by omega)]
                 refine ⟨_, rfl, rfl, ?_⟩
                 rw [up_row]
                 refine congrArg (fun v => ((row im 5 j (us k u v), rs bt rt, lm) : Mem)) ?_
                 first
                   | (rw [c41]; (first | rw [bj2_9] | rw [bj2_10] | rw [bj2_11] | rw [bj2_12] | rw [bj2_13] | rw [bj2_14]); (try split) <;> first | rfl | omega)
                   | (rw [bj2_o (by omega)]; (try split) <;> first | rfl | omega)
                   | (unfold bi2; (repeat' split) <;> first | rfl | omega))
          · refine q_iconst (t := 243) F dX6_join_242 rfl ?_
            refine q_goto (t := 247) F dX6_join_243 (by decide) ?_
            first | refine stN_5 (t := 248) F dX6_join_247 (by omega) (by omega) rfl ?_ | refine st_5 (t := 248) F dX6_join_247 (by omega) (by omega) (by omega) rfl ?_
            refine q_iload_n (t := 249) F dX6_join_248 rfl rfl rfl ?_
            refine q_iconst (t := 250) F dX6_join_249 rfl ?_
            refine q_iadd (t := 251) F dX6_join_250 rfl ?_
            refine q_iret F dX6_join_251 rfl ?_
            first
              | (rw [joinS_1 (by omega)]
                 refine ⟨_, rfl, rfl, ?_⟩
                 rw [up_row]
                 refine congrArg (fun v => ((row im 5 j (us k u v), rs bt rt, lm) : Mem)) ?_
                 unfold un1
                 (repeat' split) <;> first | rfl | omega)
              | (rw [joinS_2 (by omega)]
                 refine ⟨_, rfl, rfl, ?_⟩
                 rw [up_row]
                 refine congrArg (fun v => ((row im 5 j (us k u v), rs bt rt, lm) : Mem)) ?_
                 first
                   | (rw [c41]; (first | rw [bj2_9] | rw [bj2_10] | rw [bj2_11] | rw [bj2_12] | rw [bj2_13] | rw [bj2_14]); (try split) <;> first | rfl | omega)
                   | (rw [bj2_o (by omega)]; (try split) <;> first | rfl | omega)
                   | (unfold bi2; (repeat' split) <;> first | rfl | omega))
      · refine q_tableOut (t := 227) F dX6_join_41 (by first | exact hR _ _ _ | (constructor <;> omega)) (Or.inr c41) (by decide) ?_
        refine q_aload_n (t := 228) F dX6_join_227 rfl rfl rfl ?_
        refine g_X6_18 (t := 231) F dX6_join_228 rfl (by omega) rfl ?_
        refine q_iload_n (t := 232) F dX6_join_231 rfl rfl rfl ?_
        refine q_iload (t := 234) F dX6_join_232 rfl rfl ?_
        refine q_if_ne (t := 237) (u := 242) F dX6_join_234 (by first | exact hk _ | (constructor <;> omega)) (by decide) rfl (fun c234 => ?_) (fun c234 => ?_)
        · refine q_iconst (t := 243) F dX6_join_242 rfl ?_
          refine q_goto (t := 247) F dX6_join_243 (by decide) ?_
          first | refine stN_5 (t := 248) F dX6_join_247 (by omega) (by omega) rfl ?_ | refine st_5 (t := 248) F dX6_join_247 (by omega) (by omega) (by omega) rfl ?_
          refine q_iload_n (t := 249) F dX6_join_248 rfl rfl rfl ?_
          refine q_iconst (t := 250) F dX6_join_249 rfl ?_
          refine q_iadd (t := 251) F dX6_join_250 rfl ?_
          refine q_iret F dX6_join_251 rfl ?_
          first
            | (rw [joinS_1 (by omega)]
               refine ⟨_, rfl, rfl, ?_⟩
               rw [up_row]
               refine congrArg (fun v => ((row im 5 j (us k u v), rs bt rt, lm) : Mem)) ?_
               unfold un1
               (repeat' split) <;> first | rfl | omega)
            | (rw [joinS_2 (by omega)]
               refine ⟨_, rfl, rfl, ?_⟩
               rw [up_row]
               refine congrArg (fun v => ((row im 5 j (us k u v), rs bt rt, lm) : Mem)) ?_
               first
                 | (rw [c41]; (first | rw [bj2_9] | rw [bj2_10] | rw [bj2_11] | rw [bj2_12] | rw [bj2_13] | rw [bj2_14]); (try split) <;> first | rfl | omega)
                 | (rw [bj2_o (by omega)]; (try split) <;> first | rfl | omega)
                 | (unfold bi2; (repeat' split) <;> first | rfl | omega))
        · refine q_iload (t := 239) F dX6_join_237 rfl rfl ?_
          refine q_if_eq (t := 242) (u := 246) F dX6_join_239 (by first | exact hk _ | (constructor <;> omega)) (by decide) rfl (fun c239 => ?_) (fun c239 => ?_)
          · refine q_iconst (t := 247) F dX6_join_246 rfl ?_
            first | refine stN_5 (t := 248) F dX6_join_247 (by omega) (by omega) rfl ?_ | refine st_5 (t := 248) F dX6_join_247 (by omega) (by omega) (by omega) rfl ?_
            refine q_iload_n (t := 249) F dX6_join_248 rfl rfl rfl ?_
            refine q_iconst (t := 250) F dX6_join_249 rfl ?_
            refine q_iadd (t := 251) F dX6_join_250 rfl ?_
            refine q_iret F dX6_join_251 rfl ?_
            first
              | (rw [joinS_1 (by omega)]
                 refine ⟨_, rfl, rfl, ?_⟩
                 rw [up_row]
                 refine congrArg (fun v => ((row im 5 j (us k u v), rs bt rt, lm) : Mem)) ?_
                 unfold un1
                 (repeat' split) <;> first | rfl | omega)
              | (rw [joinS_2 (by omega)]
                 refine ⟨_, rfl, rfl, ?_⟩
                 rw [up_row]
                 refine congrArg (fun v => ((row im 5 j (us k u v), rs bt rt, lm) : Mem)) ?_
                 first
                   | (rw [c41]; (first | rw [bj2_9] | rw [bj2_10] | rw [bj2_11] | rw [bj2_12] | rw [bj2_13] | rw [bj2_14]); (try split) <;> first | rfl | omega)
                   | (rw [bj2_o (by omega)]; (try split) <;> first | rfl | omega)
                   | (unfold bi2; (repeat' split) <;> first | rfl | omega))
          · refine q_iconst (t := 243) F dX6_join_242 rfl ?_
            refine q_goto (t := 247) F dX6_join_243 (by decide) ?_
            first | refine stN_5 (t := 248) F dX6_join_247 (by omega) (by omega) rfl ?_ | refine st_5 (t := 248) F dX6_join_247 (by omega) (by omega) (by omega) rfl ?_
            refine q_iload_n (t := 249) F dX6_join_248 rfl rfl rfl ?_
            refine q_iconst (t := 250) F dX6_join_249 rfl ?_
            refine q_iadd (t := 251) F dX6_join_250 rfl ?_
            refine q_iret F dX6_join_251 rfl ?_
            first
              | (rw [joinS_1 (by omega)]
                 refine ⟨_, rfl, rfl, ?_⟩
                 rw [up_row]
                 refine congrArg (fun v => ((row im 5 j (us k u v), rs bt rt, lm) : Mem)) ?_
                 unfold un1
                 (repeat' split) <;> first | rfl | omega)
              | (rw [joinS_2 (by omega)]
                 refine ⟨_, rfl, rfl, ?_⟩
                 rw [up_row]
                 refine congrArg (fun v => ((row im 5 j (us k u v), rs bt rt, lm) : Mem)) ?_
                 first
                   | (rw [c41]; (first | rw [bj2_9] | rw [bj2_10] | rw [bj2_11] | rw [bj2_12] | rw [bj2_13] | rw [bj2_14]); (try split) <;> first | rfl | omega)
                   | (rw [bj2_o (by omega)]; (try split) <;> first | rfl | omega)
                   | (unfold bi2; (repeat' split) <;> first | rfl | omega))
      · refine q_tableIn (t := 203) F dX6_join_41 (by first | exact hR _ _ _ | (constructor <;> omega)) (by omega) (by omega) (by rw [c41]; rfl) (by decide) ?_
        refine q_aload_n (t := 204) F dX6_join_203 rfl rfl rfl ?_
        refine g_X6_18 (t := 207) F dX6_join_204 rfl (by omega) rfl ?_
        refine q_iload_n (t := 208) F dX6_join_207 rfl rfl rfl ?_
        refine q_iload (t := 210) F dX6_join_208 rfl rfl ?_
        refine q_if_eq (t := 213) (u := 222) F dX6_join_210 (by first | exact hk _ | (constructor <;> omega)) (by decide) rfl (fun c210 => ?_) (fun c210 => ?_)
        · refine q_iconst (t := 223) F dX6_join_222 rfl ?_
          first | refine stN_5 (t := 224) F dX6_join_223 (by omega) (by omega) rfl ?_ | refine st_5 (t := 224) F dX6_join_223 (by omega) (by omega) (by omega) rfl ?_
          refine q_goto (t := 248) F dX6_join_224 (by decide) ?_
          refine q_iload_n (t := 249) F dX6_join_248 rfl rfl rfl ?_
          refine q_iconst (t := 250) F dX6_join_249 rfl ?_
          refine q_iadd (t := 251) F dX6_join_250 rfl ?_
          refine q_iret F dX6_join_251 rfl ?_
          first
            | (rw [joinS_1 (by omega)]
               refine ⟨_, rfl, rfl, ?_⟩
               rw [up_row]
               refine congrArg (fun v => ((row im 5 j (us k u v), rs bt rt, lm) : Mem)) ?_
               unfold un1
               (repeat' split) <;> first | rfl | omega)
            | (rw [joinS_2 (by omega)]
               refine ⟨_, rfl, rfl, ?_⟩
               rw [up_row]
               refine congrArg (fun v => ((row im 5 j (us k u v), rs bt rt, lm) : Mem)) ?_
               first
                 | (rw [c41]; (first | rw [bj2_9] | rw [bj2_10] | rw [bj2_11] | rw [bj2_12] | rw [bj2_13] | rw [bj2_14]); (try split) <;> first | rfl | omega)
                 | (rw [bj2_o (by omega)]; (try split) <;> first | rfl | omega)
                 | (unfold bi2; (repeat' split) <;> first | rfl | omega))
        · refine q_iload (t := 215) F dX6_join_213 rfl rfl ?_
          refine q_if_eq (t := 218) (u := 222) F dX6_join_215 (by first | exact hk _ | (constructor <;> omega)) (by decide) rfl (fun c215 => ?_) (fun c215 => ?_)
          · refine q_iconst (t := 223) F dX6_join_222 rfl ?_
            first | refine stN_5 (t := 224) F dX6_join_223 (by omega) (by omega) rfl ?_ | refine st_5 (t := 224) F dX6_join_223 (by omega) (by omega) (by omega) rfl ?_
            refine q_goto (t := 248) F dX6_join_224 (by decide) ?_
            refine q_iload_n (t := 249) F dX6_join_248 rfl rfl rfl ?_
            refine q_iconst (t := 250) F dX6_join_249 rfl ?_
            refine q_iadd (t := 251) F dX6_join_250 rfl ?_
            refine q_iret F dX6_join_251 rfl ?_
            first
              | (rw [joinS_1 (by omega)]
                 refine ⟨_, rfl, rfl, ?_⟩
                 rw [up_row]
                 refine congrArg (fun v => ((row im 5 j (us k u v), rs bt rt, lm) : Mem)) ?_
                 unfold un1
                 (repeat' split) <;> first | rfl | omega)
              | (rw [joinS_2 (by omega)]
                 refine ⟨_, rfl, rfl, ?_⟩
                 rw [up_row]
                 refine congrArg (fun v => ((row im 5 j (us k u v), rs bt rt, lm) : Mem)) ?_
                 first
                   | (rw [c41]; (first | rw [bj2_9] | rw [bj2_10] | rw [bj2_11] | rw [bj2_12] | rw [bj2_13] | rw [bj2_14]); (try split) <;> first | rfl | omega)
                   | (rw [bj2_o (by omega)]; (try split) <;> first | rfl | omega)
                   | (unfold bi2; (repeat' split) <;> first | rfl | omega))
          · refine q_iconst (t := 219) F dX6_join_218 rfl ?_
            refine q_goto (t := 223) F dX6_join_219 (by decide) ?_
            first | refine stN_5 (t := 224) F dX6_join_223 (by omega) (by omega) rfl ?_ | refine st_5 (t := 224) F dX6_join_223 (by omega) (by omega) (by omega) rfl ?_
            refine q_goto (t := 248) F dX6_join_224 (by decide) ?_
            refine q_iload_n (t := 249) F dX6_join_248 rfl rfl rfl ?_
            refine q_iconst (t := 250) F dX6_join_249 rfl ?_
            refine q_iadd (t := 251) F dX6_join_250 rfl ?_
            refine q_iret F dX6_join_251 rfl ?_
            first
              | (rw [joinS_1 (by omega)]
                 refine ⟨_, rfl, rfl, ?_⟩
                 rw [up_row]
                 refine congrArg (fun v => ((row im 5 j (us k u v), rs bt rt, lm) : Mem)) ?_
                 unfold un1
                 (repeat' split) <;> first | rfl | omega)
              | (rw [joinS_2 (by omega)]
                 refine ⟨_, rfl, rfl, ?_⟩
                 rw [up_row]
                 refine congrArg (fun v => ((row im 5 j (us k u v), rs bt rt, lm) : Mem)) ?_
                 first
                   | (rw [c41]; (first | rw [bj2_9] | rw [bj2_10] | rw [bj2_11] | rw [bj2_12] | rw [bj2_13] | rw [bj2_14]); (try split) <;> first | rfl | omega)
                   | (rw [bj2_o (by omega)]; (try split) <;> first | rfl | omega)
                   | (unfold bi2; (repeat' split) <;> first | rfl | omega))
      · refine q_tableIn (t := 182) F dX6_join_41 (by first | exact hR _ _ _ | (constructor <;> omega)) (by omega) (by omega) (by rw [c41]; rfl) (by decide) ?_
        refine q_aload_n (t := 183) F dX6_join_182 rfl rfl rfl ?_
        refine g_X6_18 (t := 186) F dX6_join_183 rfl (by omega) rfl ?_
        refine q_iload_n (t := 187) F dX6_join_186 rfl rfl rfl ?_
        refine q_iload (t := 189) F dX6_join_187 rfl rfl ?_
        refine q_iload (t := 191) F dX6_join_189 rfl rfl ?_
        refine q_icmp_ne (t := 194) (u := 198) F dX6_join_191 (by first | exact hk _ | (constructor <;> omega)) (by first | exact hk _ | (constructor <;> omega)) (by decide) rfl (fun c191 => ?_) (fun c191 => ?_)
        · refine q_iconst (t := 199) F dX6_join_198 rfl ?_
          first | refine stN_5 (t := 200) F dX6_join_199 (by omega) (by omega) rfl ?_ | refine st_5 (t := 200) F dX6_join_199 (by omega) (by omega) (by omega) rfl ?_
          refine q_goto (t := 248) F dX6_join_200 (by decide) ?_
          refine q_iload_n (t := 249) F dX6_join_248 rfl rfl rfl ?_
          refine q_iconst (t := 250) F dX6_join_249 rfl ?_
          refine q_iadd (t := 251) F dX6_join_250 rfl ?_
          refine q_iret F dX6_join_251 rfl ?_
          first
            | (rw [joinS_1 (by omega)]
               refine ⟨_, rfl, rfl, ?_⟩
               rw [up_row]
               refine congrArg (fun v => ((row im 5 j (us k u v), rs bt rt, lm) : Mem)) ?_
               unfold un1
               (repeat' split) <;> first | rfl | omega)
            | (rw [joinS_2 (by omega)]
               refine ⟨_, rfl, rfl, ?_⟩
               rw [up_row]
               refine congrArg (fun v => ((row im 5 j (us k u v), rs bt rt, lm) : Mem)) ?_
               first
                 | (rw [c41]; (first | rw [bj2_9] | rw [bj2_10] | rw [bj2_11] | rw [bj2_12] | rw [bj2_13] | rw [bj2_14]); (try split) <;> first | rfl | omega)
                 | (rw [bj2_o (by omega)]; (try split) <;> first | rfl | omega)
                 | (unfold bi2; (repeat' split) <;> first | rfl | omega))
        · refine q_iconst (t := 195) F dX6_join_194 rfl ?_
          refine q_goto (t := 199) F dX6_join_195 (by decide) ?_
          first | refine stN_5 (t := 200) F dX6_join_199 (by omega) (by omega) rfl ?_ | refine st_5 (t := 200) F dX6_join_199 (by omega) (by omega) (by omega) rfl ?_
          refine q_goto (t := 248) F dX6_join_200 (by decide) ?_
          refine q_iload_n (t := 249) F dX6_join_248 rfl rfl rfl ?_
          refine q_iconst (t := 250) F dX6_join_249 rfl ?_
          refine q_iadd (t := 251) F dX6_join_250 rfl ?_
          refine q_iret F dX6_join_251 rfl ?_
          first
            | (rw [joinS_1 (by omega)]
               refine ⟨_, rfl, rfl, ?_⟩
               rw [up_row]
               refine congrArg (fun v => ((row im 5 j (us k u v), rs bt rt, lm) : Mem)) ?_
               unfold un1
               (repeat' split) <;> first | rfl | omega)
            | (rw [joinS_2 (by omega)]
               refine ⟨_, rfl, rfl, ?_⟩
               rw [up_row]
               refine congrArg (fun v => ((row im 5 j (us k u v), rs bt rt, lm) : Mem)) ?_
               first
                 | (rw [c41]; (first | rw [bj2_9] | rw [bj2_10] | rw [bj2_11] | rw [bj2_12] | rw [bj2_13] | rw [bj2_14]); (try split) <;> first | rfl | omega)
                 | (rw [bj2_o (by omega)]; (try split) <;> first | rfl | omega)
                 | (unfold bi2; (repeat' split) <;> first | rfl | omega))
      · refine q_tableIn (t := 161) F dX6_join_41 (by first | exact hR _ _ _ | (constructor <;> omega)) (by omega) (by omega) (by rw [c41]; rfl) (by decide) ?_
        refine q_aload_n (t := 162) F dX6_join_161 rfl rfl rfl ?_
        refine g_X6_18 (t := 165) F dX6_join_162 rfl (by omega) rfl ?_
        refine q_iload_n (t := 166) F dX6_join_165 rfl rfl rfl ?_
        refine q_iload (t := 168) F dX6_join_166 rfl rfl ?_
        refine q_iload (t := 170) F dX6_join_168 rfl rfl ?_
        refine q_icmp_ge (t := 173) (u := 177) F dX6_join_170 (by first | exact hk _ | (constructor <;> omega)) (by first | exact hk _ | (constructor <;> omega)) (by decide) rfl (fun c170 => ?_) (fun c170 => ?_)
        · refine q_iconst (t := 178) F dX6_join_177 rfl ?_
          first | refine stN_5 (t := 179) F dX6_join_178 (by omega) (by omega) rfl ?_ | refine st_5 (t := 179) F dX6_join_178 (by omega) (by omega) (by omega) rfl ?_
          refine q_goto (t := 248) F dX6_join_179 (by decide) ?_
          refine q_iload_n (t := 249) F dX6_join_248 rfl rfl rfl ?_
          refine q_iconst (t := 250) F dX6_join_249 rfl ?_
          refine q_iadd (t := 251) F dX6_join_250 rfl ?_
          refine q_iret F dX6_join_251 rfl ?_
          first
            | (rw [joinS_1 (by omega)]
               refine ⟨_, rfl, rfl, ?_⟩
               rw [up_row]
               refine congrArg (fun v => ((row im 5 j (us k u v), rs bt rt, lm) : Mem)) ?_
               unfold un1
               (repeat' split) <;> first | rfl | omega)
            | (rw [joinS_2 (by omega)]
               refine ⟨_, rfl, rfl, ?_⟩
               rw [up_row]
               refine congrArg (fun v => ((row im 5 j (us k u v), rs bt rt, lm) : Mem)) ?_
               first
                 | (rw [c41]; (first | rw [bj2_9] | rw [bj2_10] | rw [bj2_11] | rw [bj2_12] | rw [bj2_13] | rw [bj2_14]); (try split) <;> first | rfl | omega)
                 | (rw [bj2_o (by omega)]; (try split) <;> first | rfl | omega)
                 | (unfold bi2; (repeat' split) <;> first | rfl | omega))
        · refine q_iconst (t := 174) F dX6_join_173 rfl ?_
          refine q_goto (t := 178) F dX6_join_174 (by decide) ?_
          first | refine stN_5 (t := 179) F dX6_join_178 (by omega) (by omega) rfl ?_ | refine st_5 (t := 179) F dX6_join_178 (by omega) (by omega) (by omega) rfl ?_
          refine q_goto (t := 248) F dX6_join_179 (by decide) ?_
          refine q_iload_n (t := 249) F dX6_join_248 rfl rfl rfl ?_
          refine q_iconst (t := 250) F dX6_join_249 rfl ?_
          refine q_iadd (t := 251) F dX6_join_250 rfl ?_
          refine q_iret F dX6_join_251 rfl ?_
          first
            | (rw [joinS_1 (by omega)]
               refine ⟨_, rfl, rfl, ?_⟩
               rw [up_row]
               refine congrArg (fun v => ((row im 5 j (us k u v), rs bt rt, lm) : Mem)) ?_
               unfold un1
               (repeat' split) <;> first | rfl | omega)
            | (rw [joinS_2 (by omega)]
               refine ⟨_, rfl, rfl, ?_⟩
               rw [up_row]
               refine congrArg (fun v => ((row im 5 j (us k u v), rs bt rt, lm) : Mem)) ?_
               first
                 | (rw [c41]; (first | rw [bj2_9] | rw [bj2_10] | rw [bj2_11] | rw [bj2_12] | rw [bj2_13] | rw [bj2_14]); (try split) <;> first | rfl | omega)
                 | (rw [bj2_o (by omega)]; (try split) <;> first | rfl | omega)
                 | (unfold bi2; (repeat' split) <;> first | rfl | omega))
      · refine q_tableIn (t := 147) F dX6_join_41 (by first | exact hR _ _ _ | (constructor <;> omega)) (by omega) (by omega) (by rw [c41]; rfl) (by decide) ?_
        refine q_aload_n (t := 148) F dX6_join_147 rfl rfl rfl ?_
        refine g_X6_18 (t := 151) F dX6_join_148 rfl (by omega) rfl ?_
        refine q_iload_n (t := 152) F dX6_join_151 rfl rfl rfl ?_
        refine q_iload (t := 154) F dX6_join_152 rfl rfl ?_
        refine q_iload (t := 156) F dX6_join_154 rfl rfl ?_
        refine q_isub (t := 157) F dX6_join_156 rfl ?_
        refine q_norm ?_
        first | refine stN_5 (t := 158) F dX6_join_157 (by omega) (by omega) rfl ?_ | refine st_5 (t := 158) F dX6_join_157 (by omega) (by omega) (by omega) rfl ?_
        refine q_goto (t := 248) F dX6_join_158 (by decide) ?_
        refine q_iload_n (t := 249) F dX6_join_248 rfl rfl rfl ?_
        refine q_iconst (t := 250) F dX6_join_249 rfl ?_
        refine q_iadd (t := 251) F dX6_join_250 rfl ?_
        refine q_iret F dX6_join_251 rfl ?_
        first
          | (rw [joinS_1 (by omega)]
             refine ⟨_, rfl, rfl, ?_⟩
             rw [up_row]
             refine congrArg (fun v => ((row im 5 j (us k u v), rs bt rt, lm) : Mem)) ?_
             unfold un1
             (repeat' split) <;> first | rfl | omega)
          | (rw [joinS_2 (by omega)]
             refine ⟨_, rfl, rfl, ?_⟩
             rw [up_row]
             refine congrArg (fun v => ((row im 5 j (us k u v), rs bt rt, lm) : Mem)) ?_
             first
               | (rw [c41]; (first | rw [bj2_9] | rw [bj2_10] | rw [bj2_11] | rw [bj2_12] | rw [bj2_13] | rw [bj2_14]); (try split) <;> first | rfl | omega)
               | (rw [bj2_o (by omega)]; (try split) <;> first | rfl | omega)
               | (unfold bi2; (repeat' split) <;> first | rfl | omega))
      · refine q_tableIn (t := 133) F dX6_join_41 (by first | exact hR _ _ _ | (constructor <;> omega)) (by omega) (by omega) (by rw [c41]; rfl) (by decide) ?_
        refine q_aload_n (t := 134) F dX6_join_133 rfl rfl rfl ?_
        refine g_X6_18 (t := 137) F dX6_join_134 rfl (by omega) rfl ?_
        refine q_iload_n (t := 138) F dX6_join_137 rfl rfl rfl ?_
        refine q_iload (t := 140) F dX6_join_138 rfl rfl ?_
        refine q_iload (t := 142) F dX6_join_140 rfl rfl ?_
        refine q_iadd (t := 143) F dX6_join_142 rfl ?_
        refine q_norm ?_
        first | refine stN_5 (t := 144) F dX6_join_143 (by omega) (by omega) rfl ?_ | refine st_5 (t := 144) F dX6_join_143 (by omega) (by omega) (by omega) rfl ?_
        refine q_goto (t := 248) F dX6_join_144 (by decide) ?_
        refine q_iload_n (t := 249) F dX6_join_248 rfl rfl rfl ?_
        refine q_iconst (t := 250) F dX6_join_249 rfl ?_
        refine q_iadd (t := 251) F dX6_join_250 rfl ?_
        refine q_iret F dX6_join_251 rfl ?_
        first
          | (rw [joinS_1 (by omega)]
             refine ⟨_, rfl, rfl, ?_⟩
             rw [up_row]
             refine congrArg (fun v => ((row im 5 j (us k u v), rs bt rt, lm) : Mem)) ?_
             unfold un1
             (repeat' split) <;> first | rfl | omega)
          | (rw [joinS_2 (by omega)]
             refine ⟨_, rfl, rfl, ?_⟩
             rw [up_row]
             refine congrArg (fun v => ((row im 5 j (us k u v), rs bt rt, lm) : Mem)) ?_
             first
               | (rw [c41]; (first | rw [bj2_9] | rw [bj2_10] | rw [bj2_11] | rw [bj2_12] | rw [bj2_13] | rw [bj2_14]); (try split) <;> first | rfl | omega)
               | (rw [bj2_o (by omega)]; (try split) <;> first | rfl | omega)
               | (unfold bi2; (repeat' split) <;> first | rfl | omega))
      · refine q_tableIn (t := 119) F dX6_join_41 (by first | exact hR _ _ _ | (constructor <;> omega)) (by omega) (by omega) (by rw [c41]; rfl) (by decide) ?_
        refine q_aload_n (t := 120) F dX6_join_119 rfl rfl rfl ?_
        refine g_X6_18 (t := 123) F dX6_join_120 rfl (by omega) rfl ?_
        refine q_iload_n (t := 124) F dX6_join_123 rfl rfl rfl ?_
        refine q_iload (t := 126) F dX6_join_124 rfl rfl ?_
        refine q_iload (t := 128) F dX6_join_126 rfl rfl ?_
        refine q_imul (t := 129) F dX6_join_128 rfl ?_
        refine q_norm ?_
        first | refine stN_5 (t := 130) F dX6_join_129 (by omega) (by omega) rfl ?_ | refine st_5 (t := 130) F dX6_join_129 (by omega) (by omega) (by omega) rfl ?_
        refine q_goto (t := 248) F dX6_join_130 (by decide) ?_
        refine q_iload_n (t := 249) F dX6_join_248 rfl rfl rfl ?_
        refine q_iconst (t := 250) F dX6_join_249 rfl ?_
        refine q_iadd (t := 251) F dX6_join_250 rfl ?_
        refine q_iret F dX6_join_251 rfl ?_
        first
          | (rw [joinS_1 (by omega)]
             refine ⟨_, rfl, rfl, ?_⟩
             rw [up_row]
             refine congrArg (fun v => ((row im 5 j (us k u v), rs bt rt, lm) : Mem)) ?_
             unfold un1
             (repeat' split) <;> first | rfl | omega)
          | (rw [joinS_2 (by omega)]
             refine ⟨_, rfl, rfl, ?_⟩
             rw [up_row]
             refine congrArg (fun v => ((row im 5 j (us k u v), rs bt rt, lm) : Mem)) ?_
             first
               | (rw [c41]; (first | rw [bj2_9] | rw [bj2_10] | rw [bj2_11] | rw [bj2_12] | rw [bj2_13] | rw [bj2_14]); (try split) <;> first | rfl | omega)
               | (rw [bj2_o (by omega)]; (try split) <;> first | rfl | omega)
               | (unfold bi2; (repeat' split) <;> first | rfl | omega))
      · refine q_tableIn (t := 100) F dX6_join_41 (by first | exact hR _ _ _ | (constructor <;> omega)) (by omega) (by omega) (by rw [c41]; rfl) (by decide) ?_
        refine q_aload_n (t := 101) F dX6_join_100 rfl rfl rfl ?_
        refine g_X6_18 (t := 104) F dX6_join_101 rfl (by omega) rfl ?_
        refine q_iload_n (t := 105) F dX6_join_104 rfl rfl rfl ?_
        refine q_iload (t := 107) F dX6_join_105 rfl rfl ?_
        refine q_if_ne (t := 110) (u := 114) F dX6_join_107 (by first | exact hk _ | (constructor <;> omega)) (by decide) rfl (fun c107 => ?_) (fun c107 => ?_)
        · refine q_iconst (t := 115) F dX6_join_114 rfl ?_
          first | refine stN_5 (t := 116) F dX6_join_115 (by omega) (by omega) rfl ?_ | refine st_5 (t := 116) F dX6_join_115 (by omega) (by omega) (by omega) rfl ?_
          refine q_goto (t := 248) F dX6_join_116 (by decide) ?_
          refine q_iload_n (t := 249) F dX6_join_248 rfl rfl rfl ?_
          refine q_iconst (t := 250) F dX6_join_249 rfl ?_
          refine q_iadd (t := 251) F dX6_join_250 rfl ?_
          refine q_iret F dX6_join_251 rfl ?_
          first
            | (rw [joinS_1 (by omega)]
               refine ⟨_, rfl, rfl, ?_⟩
               rw [up_row]
               refine congrArg (fun v => ((row im 5 j (us k u v), rs bt rt, lm) : Mem)) ?_
               unfold un1
               (repeat' split) <;> first | rfl | omega)
            | (rw [joinS_2 (by omega)]
               refine ⟨_, rfl, rfl, ?_⟩
               rw [up_row]
               refine congrArg (fun v => ((row im 5 j (us k u v), rs bt rt, lm) : Mem)) ?_
               first
                 | (rw [c41]; (first | rw [bj2_9] | rw [bj2_10] | rw [bj2_11] | rw [bj2_12] | rw [bj2_13] | rw [bj2_14]); (try split) <;> first | rfl | omega)
                 | (rw [bj2_o (by omega)]; (try split) <;> first | rfl | omega)
                 | (unfold bi2; (repeat' split) <;> first | rfl | omega))
        · refine q_iconst (t := 111) F dX6_join_110 rfl ?_
          refine q_goto (t := 115) F dX6_join_111 (by decide) ?_
          first | refine stN_5 (t := 116) F dX6_join_115 (by omega) (by omega) rfl ?_ | refine st_5 (t := 116) F dX6_join_115 (by omega) (by omega) (by omega) rfl ?_
          refine q_goto (t := 248) F dX6_join_116 (by decide) ?_
          refine q_iload_n (t := 249) F dX6_join_248 rfl rfl rfl ?_
          refine q_iconst (t := 250) F dX6_join_249 rfl ?_
          refine q_iadd (t := 251) F dX6_join_250 rfl ?_
          refine q_iret F dX6_join_251 rfl ?_
          first
            | (rw [joinS_1 (by omega)]
               refine ⟨_, rfl, rfl, ?_⟩
               rw [up_row]
               refine congrArg (fun v => ((row im 5 j (us k u v), rs bt rt, lm) : Mem)) ?_
               unfold un1
               (repeat' split) <;> first | rfl | omega)
            | (rw [joinS_2 (by omega)]
               refine ⟨_, rfl, rfl, ?_⟩
               rw [up_row]
               refine congrArg (fun v => ((row im 5 j (us k u v), rs bt rt, lm) : Mem)) ?_
               first
                 | (rw [c41]; (first | rw [bj2_9] | rw [bj2_10] | rw [bj2_11] | rw [bj2_12] | rw [bj2_13] | rw [bj2_14]); (try split) <;> first | rfl | omega)
                 | (rw [bj2_o (by omega)]; (try split) <;> first | rfl | omega)
                 | (unfold bi2; (repeat' split) <;> first | rfl | omega))
      · refine q_tableIn (t := 88) F dX6_join_41 (by first | exact hR _ _ _ | (constructor <;> omega)) (by omega) (by omega) (by rw [c41]; rfl) (by decide) ?_
        refine q_aload_n (t := 89) F dX6_join_88 rfl rfl rfl ?_
        refine g_X6_18 (t := 92) F dX6_join_89 rfl (by omega) rfl ?_
        refine q_iload_n (t := 93) F dX6_join_92 rfl rfl rfl ?_
        refine q_iload (t := 95) F dX6_join_93 rfl rfl ?_
        refine q_ineg (t := 96) F dX6_join_95 rfl ?_
        refine q_norm ?_
        first | refine stN_5 (t := 97) F dX6_join_96 (by omega) (by omega) rfl ?_ | refine st_5 (t := 97) F dX6_join_96 (by omega) (by omega) (by omega) rfl ?_
        refine q_goto (t := 248) F dX6_join_97 (by decide) ?_
        refine q_iload_n (t := 249) F dX6_join_248 rfl rfl rfl ?_
        refine q_iconst (t := 250) F dX6_join_249 rfl ?_
        refine q_iadd (t := 251) F dX6_join_250 rfl ?_
        refine q_iret F dX6_join_251 rfl ?_
        first
          | (rw [joinS_1 (by omega)]
             refine ⟨_, rfl, rfl, ?_⟩
             rw [up_row]
             refine congrArg (fun v => ((row im 5 j (us k u v), rs bt rt, lm) : Mem)) ?_
             unfold un1
             (repeat' split) <;> first | rfl | omega)
          | (rw [joinS_2 (by omega)]
             refine ⟨_, rfl, rfl, ?_⟩
             rw [up_row]
             refine congrArg (fun v => ((row im 5 j (us k u v), rs bt rt, lm) : Mem)) ?_
             first
               | (rw [c41]; (first | rw [bj2_9] | rw [bj2_10] | rw [bj2_11] | rw [bj2_12] | rw [bj2_13] | rw [bj2_14]); (try split) <;> first | rfl | omega)
               | (rw [bj2_o (by omega)]; (try split) <;> first | rfl | omega)
               | (unfold bi2; (repeat' split) <;> first | rfl | omega))
    · refine q_iload_n (t := 21) F dX6_join_20 rfl rfl rfl ?_
      refine q_iret F dX6_join_21 rfl ?_
      exact ⟨_, rfl, by rw [joinS_0 (by omega)], by rw [joinS_0 (by omega)]⟩
  · refine q_iload_n (t := 7) F dX6_join_6 rfl rfl rfl ?_
    refine q_iconst (t := 8) F dX6_join_7 rfl ?_
    refine q_isub (t := 9) F dX6_join_8 rfl ?_
    refine q_goto (t := 15) F dX6_join_9 (by decide) ?_
    refine q_istore_n (t := 16) F dX6_join_15 rfl (by decide) rfl rfl ?_
    refine q_iload_n (t := 17) F dX6_join_16 rfl rfl rfl ?_
    refine q_if_ge (t := 20) (u := 22) F dX6_join_17 (by first | exact hR _ _ _ | (constructor <;> omega)) (by decide) rfl (fun c17 => ?_) (fun c17 => ?_)
    · first | (obtain ⟨u, rfl⟩ : ∃ u : Nat, t = u + 1 := ⟨t - 1, by omega⟩; rw [show ((u + 1 : Nat) : Int) - 1 = (u : Int) by omega]) | (obtain ⟨u, rfl⟩ : ∃ u : Nat, t = u + 2 := ⟨t - 2, by omega⟩; rw [show ((u + 2 : Nat) : Int) - 2 = (u : Int) by omega])
      refine q_aload_n (t := 23) F dX6_join_22 rfl rfl rfl ?_
      refine g_X6_18 (t := 26) F dX6_join_23 rfl (by omega) rfl ?_
      refine q_iload_n (t := 27) F dX6_join_26 rfl rfl rfl ?_
      first | refine ldN_5 (t := 28) F dX6_join_27 (by omega) (by omega) rfl ?_ | refine ld_5 (t := 28) F dX6_join_27 (by omega) (by omega) (by omega) rfl ?_
      try simp only [up_app, row_app, scr_app, cpy_app, Nat.reduceEqDiff, Int.reduceToNat, Int.toNat_natCast, and_true, true_and, and_false, false_and, and_self, reduceIte]
      refine q_istore (t := 30) F dX6_join_28 (by decide) rfl rfl ?_
      refine q_aload_n (t := 31) F dX6_join_30 rfl rfl rfl ?_
      refine g_X6_18 (t := 34) F dX6_join_31 rfl (by omega) rfl ?_
      refine q_iload_n (t := 35) F dX6_join_34 rfl rfl rfl ?_
      refine q_iconst (t := 36) F dX6_join_35 rfl ?_
      refine q_isub (t := 37) F dX6_join_36 rfl ?_
      first | rw [show ((u + 1 : Nat) : Int) - 1 = (u : Int) by omega] | rw [show ((u + 2 : Nat) : Int) - 1 = ((u + 1 : Nat) : Int) by omega]
      first | refine ldN_5 (t := 38) F dX6_join_37 (by omega) (by omega) rfl ?_ | refine ld_5 (t := 38) F dX6_join_37 (by omega) (by omega) (by omega) rfl ?_
      try simp only [up_app, row_app, scr_app, cpy_app, Nat.reduceEqDiff, Int.reduceToNat, Int.toNat_natCast, and_true, true_and, and_false, false_and, and_self, reduceIte]
      refine q_istore (t := 40) F dX6_join_38 (by decide) rfl rfl ?_
      refine q_iload_n (t := 41) F dX6_join_40 rfl rfl rfl ?_
      have sw41 : s < -14 ∨ -7 < s ∨ s = -14 ∨ s = -13 ∨ s = -12 ∨ s = -11 ∨ s = -10 ∨ s = -9 ∨ s = -8 ∨ s = -7 := by omega
      rcases sw41 with c41 | c41 | c41 | c41 | c41 | c41 | c41 | c41 | c41 | c41
      · refine q_tableOut (t := 227) F dX6_join_41 (by first | exact hR _ _ _ | (constructor <;> omega)) (Or.inl c41) (by decide) ?_
        refine q_aload_n (t := 228) F dX6_join_227 rfl rfl rfl ?_
        refine g_X6_18 (t := 231) F dX6_join_228 rfl (by omega) rfl ?_
        refine q_iload_n (t := 232) F dX6_join_231 rfl rfl rfl ?_
        refine q_iload (t := 234) F dX6_join_232 rfl rfl ?_
        refine q_if_ne (t := 237) (u := 242) F dX6_join_234 (by first | exact hk _ | (constructor <;> omega)) (by decide) rfl (fun c234 => ?_) (fun c234 => ?_)
        · refine q_iconst (t := 243) F dX6_join_242 rfl ?_
          refine q_goto (t := 247) F dX6_join_243 (by decide) ?_
          first | refine stN_5 (t := 248) F dX6_join_247 (by omega) (by omega) rfl ?_ | refine st_5 (t := 248) F dX6_join_247 (by omega) (by omega) (by omega) rfl ?_
          refine q_iload_n (t := 249) F dX6_join_248 rfl rfl rfl ?_
          refine q_iconst (t := 250) F dX6_join_249 rfl ?_
          refine q_iadd (t := 251) F dX6_join_250 rfl ?_
          refine q_iret F dX6_join_251 rfl ?_
          first
            | (rw [joinS_1 (by omega)]
               refine ⟨_, rfl, rfl, ?_⟩
               rw [up_row]
               refine congrArg (fun v => ((row im 5 j (us k u v), rs bt rt, lm) : Mem)) ?_
               unfold un1
               (repeat' split) <;> first | rfl | omega)
            | (rw [joinS_2 (by omega)]
               refine ⟨_, rfl, rfl, ?_⟩
               rw [up_row]
               refine congrArg (fun v => ((row im 5 j (us k u v), rs bt rt, lm) : Mem)) ?_
               first
                 | (rw [c41]; (first | rw [bj2_9] | rw [bj2_10] | rw [bj2_11] | rw [bj2_12] | rw [bj2_13] | rw [bj2_14]); (try split) <;> first | rfl | omega)
                 | (rw [bj2_o (by omega)]; (try split) <;> first | rfl | omega)
                 | (unfold bi2; (repeat' split) <;> first | rfl | omega))
        · refine q_iload (t := 239) F dX6_join_237 rfl rfl ?_
          refine q_if_eq (t := 242) (u := 246) F dX6_join_239 (by first | exact hk _ | (constructor <;> omega)) (by decide) rfl (fun c239 => ?_) (fun c239 => ?_)
          · refine q_iconst (t := 247) F dX6_join_246 rfl ?_
            first | refine stN_5 (t := 248) F dX6_join_247 (by omega) (by omega) rfl ?_ | refine st_5 (t := 248) F dX6_join_247 (by omega) (by omega) (by omega) rfl ?_
            refine q_iload_n (t := 249) F dX6_join_248 rfl rfl rfl ?_
            refine q_iconst (t := 250) F dX6_join_249 rfl ?_
            refine q_iadd (t := 251) F dX6_join_250 rfl ?_
            refine q_iret F dX6_join_251 rfl ?_
            first
              | (rw [joinS_1 (by omega)]
                 refine ⟨_, rfl, rfl, ?_⟩
                 rw [up_row]
                 refine congrArg (fun v => ((row im 5 j (us k u v), rs bt rt, lm) : Mem)) ?_
                 unfold un1
                 (repeat' split) <;> first | rfl | omega)
              | (rw [joinS_2 (by omega)]
                 refine ⟨_, rfl, rfl, ?_⟩
                 rw [up_row]
                 refine congrArg (fun v => ((row im 5 j (us k u v), rs bt rt, lm) : Mem)) ?_
                 first
                   | (rw [c41]; (first | rw [bj2_9] | rw [bj2_10] | rw [bj2_11] | rw [bj2_12] | rw [bj2_13] | rw [bj2_14]); (try split) <;> first | rfl | omega)
                   | (rw [bj2_o (by omega)]; (try split) <;> first | rfl | omega)
                   | (unfold bi2; (repeat' split) <;> first | rfl | omega))
          · refine q_iconst (t := 243) F dX6_join_242 rfl ?_
            refine q_goto (t := 247) F dX6_join_243 (by decide) ?_
            first | refine stN_5 (t := 248) F dX6_join_247 (by omega) (by omega) rfl ?_ | refine st_5 (t := 248) F dX6_join_247 (by omega) (by omega) (by omega) rfl ?_
            refine q_iload_n (t := 249) F dX6_join_248 rfl rfl rfl ?_
            refine q_iconst (t := 250) F dX6_join_249 rfl ?_
            refine q_iadd (t := 251) F dX6_join_250 rfl ?_
            refine q_iret F dX6_join_251 rfl ?_
            first
              | (rw [joinS_1 (by omega)]
                 refine ⟨_, rfl, rfl, ?_⟩
                 rw [up_row]
                 refine congrArg (fun v => ((row im 5 j (us k u v), rs bt rt, lm) : Mem)) ?_
                 unfold un1
                 (repeat' split) <;> first | rfl | omega)
              | (rw [joinS_2 (by omega)]
                 refine ⟨_, rfl, rfl, ?_⟩
                 rw [up_row]
                 refine congrArg (fun v => ((row im 5 j (us k u v), rs bt rt, lm) : Mem)) ?_
                 first
                   | (rw [c41]; (first | rw [bj2_9] | rw [bj2_10] | rw [bj2_11] | rw [bj2_12] | rw [bj2_13] | rw [bj2_14]); (try split) <;> first | rfl | omega)
                   | (rw [bj2_o (by omega)]; (try split) <;> first | rfl | omega)
                   | (unfold bi2; (repeat' split) <;> first | rfl | omega))
      · refine q_tableOut (t := 227) F dX6_join_41 (by first | exact hR _ _ _ | (constructor <;> omega)) (Or.inr c41) (by decide) ?_
        refine q_aload_n (t := 228) F dX6_join_227 rfl rfl rfl ?_
        refine g_X6_18 (t := 231) F dX6_join_228 rfl (by omega) rfl ?_
        refine q_iload_n (t := 232) F dX6_join_231 rfl rfl rfl ?_
        refine q_iload (t := 234) F dX6_join_232 rfl rfl ?_
        refine q_if_ne (t := 237) (u := 242) F dX6_join_234 (by first | exact hk _ | (constructor <;> omega)) (by decide) rfl (fun c234 => ?_) (fun c234 => ?_)
        · refine q_iconst (t := 243) F dX6_join_242 rfl ?_
          refine q_goto (t := 247) F dX6_join_243 (by decide) ?_
          first | refine stN_5 (t := 248) F dX6_join_247 (by omega) (by omega) rfl ?_ | refine st_5 (t := 248) F dX6_join_247 (by omega) (by omega) (by omega) rfl ?_
          refine q_iload_n (t := 249) F dX6_join_248 rfl rfl rfl ?_
          refine q_iconst (t := 250) F dX6_join_249 rfl ?_
          refine q_iadd (t := 251) F dX6_join_250 rfl ?_
          refine q_iret F dX6_join_251 rfl ?_
          first
            | (rw [joinS_1 (by omega)]
               refine ⟨_, rfl, rfl, ?_⟩
               rw [up_row]
               refine congrArg (fun v => ((row im 5 j (us k u v), rs bt rt, lm) : Mem)) ?_
               unfold un1
               (repeat' split) <;> first | rfl | omega)
            | (rw [joinS_2 (by omega)]
               refine ⟨_, rfl, rfl, ?_⟩
               rw [up_row]
               refine congrArg (fun v => ((row im 5 j (us k u v), rs bt rt, lm) : Mem)) ?_
               first
                 | (rw [c41]; (first | rw [bj2_9] | rw [bj2_10] | rw [bj2_11] | rw [bj2_12] | rw [bj2_13] | rw [bj2_14]); (try split) <;> first | rfl | omega)
                 | (rw [bj2_o (by omega)]; (try split) <;> first | rfl | omega)
                 | (unfold bi2; (repeat' split) <;> first | rfl | omega))
        · refine q_iload (t := 239) F dX6_join_237 rfl rfl ?_
          refine q_if_eq (t := 242) (u := 246) F dX6_join_239 (by first | exact hk _ | (constructor <;> omega)) (by decide) rfl (fun c239 => ?_) (fun c239 => ?_)
          · refine q_iconst (t := 247) F dX6_join_246 rfl ?_
            first | refine stN_5 (t := 248) F dX6_join_247 (by omega) (by omega) rfl ?_ | refine st_5 (t := 248) F dX6_join_247 (by omega) (by omega) (by omega) rfl ?_
            refine q_iload_n (t := 249) F dX6_join_248 rfl rfl rfl ?_
            refine q_iconst (t := 250) F dX6_join_249 rfl ?_
            refine q_iadd (t := 251) F dX6_join_250 rfl ?_
            refine q_iret F dX6_join_251 rfl ?_
            first
              | (rw [joinS_1 (by omega)]
                 refine ⟨_, rfl, rfl, ?_⟩
                 rw [up_row]
                 refine congrArg (fun v => ((row im 5 j (us k u v), rs bt rt, lm) : Mem)) ?_
                 unfold un1
                 (repeat' split) <;> first | rfl | omega)
              | (rw [joinS_2 (by omega)]
                 refine ⟨_, rfl, rfl, ?_⟩
                 rw [up_row]
                 refine congrArg (fun v => ((row im 5 j (us k u v), rs bt rt, lm) : Mem)) ?_
                 first
                   | (rw [c41]; (first | rw [bj2_9] | rw [bj2_10] | rw [bj2_11] | rw [bj2_12] | rw [bj2_13] | rw [bj2_14]); (try split) <;> first | rfl | omega)
                   | (rw [bj2_o (by omega)]; (try split) <;> first | rfl | omega)
                   | (unfold bi2; (repeat' split) <;> first | rfl | omega))
          · refine q_iconst (t := 243) F dX6_join_242 rfl ?_
            refine q_goto (t := 247) F dX6_join_243 (by decide) ?_
            first | refine stN_5 (t := 248) F dX6_join_247 (by omega) (by omega) rfl ?_ | refine st_5 (t := 248) F dX6_join_247 (by omega) (by omega) (by omega) rfl ?_
            refine q_iload_n (t := 249) F dX6_join_248 rfl rfl rfl ?_
            refine q_iconst (t := 250) F dX6_join_249 rfl ?_
            refine q_iadd (t := 251) F dX6_join_250 rfl ?_
            refine q_iret F dX6_join_251 rfl ?_
            first
              | (rw [joinS_1 (by omega)]
                 refine ⟨_, rfl, rfl, ?_⟩
                 rw [up_row]
                 refine congrArg (fun v => ((row im 5 j (us k u v), rs bt rt, lm) : Mem)) ?_
                 unfold un1
                 (repeat' split) <;> first | rfl | omega)
              | (rw [joinS_2 (by omega)]
                 refine ⟨_, rfl, rfl, ?_⟩
                 rw [up_row]
                 refine congrArg (fun v => ((row im 5 j (us k u v), rs bt rt, lm) : Mem)) ?_
                 first
                   | (rw [c41]; (first | rw [bj2_9] | rw [bj2_10] | rw [bj2_11] | rw [bj2_12] | rw [bj2_13] | rw [bj2_14]); (try split) <;> first | rfl | omega)
                   | (rw [bj2_o (by omega)]; (try split) <;> first | rfl | omega)
                   | (unfold bi2; (repeat' split) <;> first | rfl | omega))
      · refine q_tableIn (t := 203) F dX6_join_41 (by first | exact hR _ _ _ | (constructor <;> omega)) (by omega) (by omega) (by rw [c41]; rfl) (by decide) ?_
        refine q_aload_n (t := 204) F dX6_join_203 rfl rfl rfl ?_
        refine g_X6_18 (t := 207) F dX6_join_204 rfl (by omega) rfl ?_
        refine q_iload_n (t := 208) F dX6_join_207 rfl rfl rfl ?_
        refine q_iload (t := 210) F dX6_join_208 rfl rfl ?_
        refine q_if_eq (t := 213) (u := 222) F dX6_join_210 (by first | exact hk _ | (constructor <;> omega)) (by decide) rfl (fun c210 => ?_) (fun c210 => ?_)
        · refine q_iconst (t := 223) F dX6_join_222 rfl ?_
          first | refine stN_5 (t := 224) F dX6_join_223 (by omega) (by omega) rfl ?_ | refine st_5 (t := 224) F dX6_join_223 (by omega) (by omega) (by omega) rfl ?_
          refine q_goto (t := 248) F dX6_join_224 (by decide) ?_
          refine q_iload_n (t := 249) F dX6_join_248 rfl rfl rfl ?_
          refine q_iconst (t := 250) F dX6_join_249 rfl ?_
          refine q_iadd (t := 251) F dX6_join_250 rfl ?_
          refine q_iret F dX6_join_251 rfl ?_
          first
            | (rw [joinS_1 (by omega)]
               refine ⟨_, rfl, rfl, ?_⟩
               rw [up_row]
               refine congrArg (fun v => ((row im 5 j (us k u v), rs bt rt, lm) : Mem)) ?_
               unfold un1
               (repeat' split) <;> first | rfl | omega)
            | (rw [joinS_2 (by omega)]
               refine ⟨_, rfl, rfl, ?_⟩
               rw [up_row]
               refine congrArg (fun v => ((row im 5 j (us k u v), rs bt rt, lm) : Mem)) ?_
               first
                 | (rw [c41]; (first | rw [bj2_9] | rw [bj2_10] | rw [bj2_11] | rw [bj2_12] | rw [bj2_13] | rw [bj2_14]); (try split) <;> first | rfl | omega)
                 | (rw [bj2_o (by omega)]; (try split) <;> first | rfl | omega)
                 | (unfold bi2; (repeat' split) <;> first | rfl | omega))
        · refine q_iload (t := 215) F dX6_join_213 rfl rfl ?_
          refine q_if_eq (t := 218) (u := 222) F dX6_join_215 (by first | exact hk _ | (constructor <;> omega)) (by decide) rfl (fun c215 => ?_) (fun c215 => ?_)
          · refine q_iconst (t := 223) F dX6_join_222 rfl ?_
            first | refine stN_5 (t := 224) F dX6_join_223 (by omega) (by omega) rfl ?_ | refine st_5 (t := 224) F dX6_join_223 (by omega) (by omega) (by omega) rfl ?_
            refine q_goto (t := 248) F dX6_join_224 (by decide) ?_
            refine q_iload_n (t := 249) F dX6_join_248 rfl rfl rfl ?_
            refine q_iconst (t := 250) F dX6_join_249 rfl ?_
            refine q_iadd (t := 251) F dX6_join_250 rfl ?_
            refine q_iret F dX6_join_251 rfl ?_
            first
              | (rw [joinS_1 (by omega)]
                 refine ⟨_, rfl, rfl, ?_⟩
                 rw [up_row]
                 refine congrArg (fun v => ((row im 5 j (us k u v), rs bt rt, lm) : Mem)) ?_
                 unfold un1
                 (repeat' split) <;> first | rfl | omega)
              | (rw [joinS_2 (by omega)]
                 refine ⟨_, rfl, rfl, ?_⟩
                 rw [up_row]
                 refine congrArg (fun v => ((row im 5 j (us k u v), rs bt rt, lm) : Mem)) ?_
                 first
                   | (rw [c41]; (first | rw [bj2_9] | rw [bj2_10] | rw [bj2_11] | rw [bj2_12] | rw [bj2_13] | rw [bj2_14]); (try split) <;> first | rfl | omega)
                   | (rw [bj2_o (by omega)]; (try split) <;> first | rfl | omega)
                   | (unfold bi2; (repeat' split) <;> first | rfl | omega))
          · refine q_iconst (t := 219) F dX6_join_218 rfl ?_
            refine q_goto (t := 223) F dX6_join_219 (by decide) ?_
            first | refine stN_5 (t := 224) F dX6_join_223 (by omega) (by omega) rfl ?_ | refine st_5 (t := 224) F dX6_join_223 (by omega) (by omega) (by omega) rfl ?_
            refine q_goto (t := 248) F dX6_join_224 (by decide) ?_
            refine q_iload_n (t := 249) F dX6_join_248 rfl rfl rfl ?_
            refine q_iconst (t := 250) F dX6_join_249 rfl ?_
            refine q_iadd (t := 251) F dX6_join_250 rfl ?_
            refine q_iret F dX6_join_251 rfl ?_
            first
              | (rw [joinS_1 (by omega)]
                 refine ⟨_, rfl, rfl, ?_⟩
                 rw [up_row]
                 refine congrArg (fun v => ((row im 5 j (us k u v), rs bt rt, lm) : Mem)) ?_
                 unfold un1
                 (repeat' split) <;> first | rfl | omega)
              | (rw [joinS_2 (by omega)]
                 refine ⟨_, rfl, rfl, ?_⟩
                 rw [up_row]
                 refine congrArg (fun v => ((row im 5 j (us k u v), rs bt rt, lm) : Mem)) ?_
                 first
                   | (rw [c41]; (first | rw [bj2_9] | rw [bj2_10] | rw [bj2_11] | rw [bj2_12] | rw [bj2_13] | rw [bj2_14]); (try split) <;> first | rfl | omega)
                   | (rw [bj2_o (by omega)]; (try split) <;> first | rfl | omega)
                   | (unfold bi2; (repeat' split) <;> first | rfl | omega))
      · refine q_tableIn (t := 182) F dX6_join_41 (by first | exact hR _ _ _ | (constructor <;> omega)) (by omega) (by omega) (by rw [c41]; rfl) (by decide) ?_
        refine q_aload_n (t := 183) F dX6_join_182 rfl rfl rfl ?_
        refine g_X6_18 (t := 186) F dX6_join_183 rfl (by omega) rfl ?_
        refine q_iload_n (t := 187) F dX6_join_186 rfl rfl rfl ?_
        refine q_iload (t := 189) F dX6_join_187 rfl rfl ?_
        refine q_iload (t := 191) F dX6_join_189 rfl rfl ?_
        refine q_icmp_ne (t := 194) (u := 198) F dX6_join_191 (by first | exact hk _ | (constructor <;> omega)) (by first | exact hk _ | (constructor <;> omega)) (by decide) rfl (fun c191 => ?_) (fun c191 => ?_)
        · refine q_iconst (t := 199) F dX6_join_198 rfl ?_
          first | refine stN_5 (t := 200) F dX6_join_199 (by omega) (by omega) rfl ?_ | refine st_5 (t := 200) F dX6_join_199 (by omega) (by omega) (by omega) rfl ?_
          refine q_goto (t := 248) F dX6_join_200 (by decide) ?_
          refine q_iload_n (t := 249) F dX6_join_248 rfl rfl rfl ?_
          refine q_iconst (t := 250) F dX6_join_249 rfl ?_
          refine q_iadd (t := 251) F dX6_join_250 rfl ?_
          refine q_iret F dX6_join_251 rfl ?_
          first
            | (rw [joinS_1 (by omega)]
               refine ⟨_, rfl, rfl, ?_⟩
               rw [up_row]
               refine congrArg (fun v => ((row im 5 j (us k u v), rs bt rt, lm) : Mem)) ?_
               unfold un1
               (repeat' split) <;> first | rfl | omega)
            | (rw [joinS_2 (by omega)]
               refine ⟨_, rfl, rfl, ?_⟩
               rw [up_row]
               refine congrArg (fun v => ((row im 5 j (us k u v), rs bt rt, lm) : Mem)) ?_
               first
                 | (rw [c41]; (first | rw [bj2_9] | rw [bj2_10] | rw [bj2_11] | rw [bj2_12] | rw [bj2_13] | rw [bj2_14]); (try split) <;> first | rfl | omega)
                 | (rw [bj2_o (by omega)]; (try split) <;> first | rfl | omega)
                 | (unfold bi2; (repeat' split) <;> first | rfl | omega))
        · refine q_iconst (t := 195) F dX6_join_194 rfl ?_
          refine q_goto (t := 199) F dX6_join_195 (by decide) ?_
          first | refine stN_5 (t := 200) F dX6_join_199 (by omega) (by omega) rfl ?_ | refine st_5 (t := 200) F dX6_join_199 (by omega) (by omega) (by omega) rfl ?_
          refine q_goto (t := 248) F dX6_join_200 (by decide) ?_
          refine q_iload_n (t := 249) F dX6_join_248 rfl rfl rfl ?_
          refine q_iconst (t := 250) F dX6_join_249 rfl ?_
          refine q_iadd (t := 251) F dX6_join_250 rfl ?_
          refine q_iret F dX6_join_251 rfl ?_
          first
            | (rw [joinS_1 (by omega)]
               refine ⟨_, rfl, rfl, ?_⟩
               rw [up_row]
               refine congrArg (fun v => ((row im 5 j (us k u v), rs bt rt, lm) : Mem)) ?_
               unfold un1
               (repeat' split) <;> first | rfl | omega)
            | (rw [joinS_2 (by omega)]
               refine ⟨_, rfl, rfl, ?_⟩
               rw [up_row]
               refine congrArg (fun v => ((row im 5 j (us k u v), rs bt rt, lm) : Mem)) ?_
               first
                 | (rw [c41]; (first | rw [bj2_9] | rw [bj2_10] | rw [bj2_11] | rw [bj2_12] | rw [bj2_13] | rw [bj2_14]); (try split) <;> first | rfl | omega)
                 | (rw [bj2_o (by omega)]; (try split) <;> first | rfl | omega)
                 | (unfold bi2; (repeat' split) <;> first | rfl | omega))
      · refine q_tableIn (t := 161) F dX6_join_41 (by first | exact hR _ _ _ | (constructor <;> omega)) (by omega) (by omega) (by rw [c41]; rfl) (by decide) ?_
        refine q_aload_n (t := 162) F dX6_join_161 rfl rfl rfl ?_
        refine g_X6_18 (t := 165) F dX6_join_162 rfl (by omega) rfl ?_
        refine q_iload_n (t := 166) F dX6_join_165 rfl rfl rfl ?_
        refine q_iload (t := 168) F dX6_join_166 rfl rfl ?_
        refine q_iload (t := 170) F dX6_join_168 rfl rfl ?_
        refine q_icmp_ge (t := 173) (u := 177) F dX6_join_170 (by first | exact hk _ | (constructor <;> omega)) (by first | exact hk _ | (constructor <;> omega)) (by decide) rfl (fun c170 => ?_) (fun c170 => ?_)
        · refine q_iconst (t := 178) F dX6_join_177 rfl ?_
          first | refine stN_5 (t := 179) F dX6_join_178 (by omega) (by omega) rfl ?_ | refine st_5 (t := 179) F dX6_join_178 (by omega) (by omega) (by omega) rfl ?_
          refine q_goto (t := 248) F dX6_join_179 (by decide) ?_
          refine q_iload_n (t := 249) F dX6_join_248 rfl rfl rfl ?_
          refine q_iconst (t := 250) F dX6_join_249 rfl ?_
          refine q_iadd (t := 251) F dX6_join_250 rfl ?_
          refine q_iret F dX6_join_251 rfl ?_
          first
            | (rw [joinS_1 (by omega)]
               refine ⟨_, rfl, rfl, ?_⟩
               rw [up_row]
               refine congrArg (fun v => ((row im 5 j (us k u v), rs bt rt, lm) : Mem)) ?_
               unfold un1
               (repeat' split) <;> first | rfl | omega)
            | (rw [joinS_2 (by omega)]
               refine ⟨_, rfl, rfl, ?_⟩
               rw [up_row]
               refine congrArg (fun v => ((row im 5 j (us k u v), rs bt rt, lm) : Mem)) ?_
               first
                 | (rw [c41]; (first | rw [bj2_9] | rw [bj2_10] | rw [bj2_11] | rw [bj2_12] | rw [bj2_13] | rw [bj2_14]); (try split) <;> first | rfl | omega)
                 | (rw [bj2_o (by omega)]; (try split) <;> first | rfl | omega)
                 | (unfold bi2; (repeat' split) <;> first | rfl | omega))
        · refine q_iconst (t := 174) F dX6_join_173 rfl ?_
          refine q_goto (t := 178) F dX6_join_174 (by decide) ?_
          first | refine stN_5 (t := 179) F dX6_join_178 (by omega) (by omega) rfl ?_ | refine st_5 (t := 179) F dX6_join_178 (by omega) (by omega) (by omega) rfl ?_
          refine q_goto (t := 248) F dX6_join_179 (by decide) ?_
          refine q_iload_n (t := 249) F dX6_join_248 rfl rfl rfl ?_
          refine q_iconst (t := 250) F dX6_join_249 rfl ?_
          refine q_iadd (t := 251) F dX6_join_250 rfl ?_
          refine q_iret F dX6_join_251 rfl ?_
          first
            | (rw [joinS_1 (by omega)]
               refine ⟨_, rfl, rfl, ?_⟩
               rw [up_row]
               refine congrArg (fun v => ((row im 5 j (us k u v), rs bt rt, lm) : Mem)) ?_
               unfold un1
               (repeat' split) <;> first | rfl | omega)
            | (rw [joinS_2 (by omega)]
               refine ⟨_, rfl, rfl, ?_⟩
               rw [up_row]
               refine congrArg (fun v => ((row im 5 j (us k u v), rs bt rt, lm) : Mem)) ?_
               first
                 | (rw [c41]; (first | rw [bj2_9] | rw [bj2_10] | rw [bj2_11] | rw [bj2_12] | rw [bj2_13] | rw [bj2_14]); (try split) <;> first | rfl | omega)
                 | (rw [bj2_o (by omega)]; (try split) <;> first | rfl | omega)
                 | (unfold bi2; (repeat' split) <;> first | rfl | omega))
      · refine q_tableIn (t := 147) F dX6_join_41 (by first | exact hR _ _ _ | (constructor <;> omega)) (by omega) (by omega) (by rw [c41]; rfl) (by decide) ?_
        refine q_aload_n (t := 148) F dX6_join_147 rfl rfl rfl ?_
        refine g_X6_18 (t := 151) F dX6_join_148 rfl (by omega) rfl ?_
        refine q_iload_n (t := 152) F dX6_join_151 rfl rfl rfl ?_
        refine q_iload (t := 154) F dX6_join_152 rfl rfl ?_
        refine q_iload (t := 156) F dX6_join_154 rfl rfl ?_
        refine q_isub (t := 157) F dX6_join_156 rfl ?_
        refine q_norm ?_
        first | refine stN_5 (t := 158) F dX6_join_157 (by omega) (by omega) rfl ?_ | refine st_5 (t := 158) F dX6_join_157 (by omega) (by omega) (by omega) rfl ?_
        refine q_goto (t := 248) F dX6_join_158 (by decide) ?_
        refine q_iload_n (t := 249) F dX6_join_248 rfl rfl rfl ?_
        refine q_iconst (t := 250) F dX6_join_249 rfl ?_
        refine q_iadd (t := 251) F dX6_join_250 rfl ?_
        refine q_iret F dX6_join_251 rfl ?_
        first
          | (rw [joinS_1 (by omega)]
             refine ⟨_, rfl, rfl, ?_⟩
             rw [up_row]
             refine congrArg (fun v => ((row im 5 j (us k u v), rs bt rt, lm) : Mem)) ?_
             unfold un1
             (repeat' split) <;> first | rfl | omega)
          | (rw [joinS_2 (by omega)]
             refine ⟨_, rfl, rfl, ?_⟩
             rw [up_row]
             refine congrArg (fun v => ((row im 5 j (us k u v), rs bt rt, lm) : Mem)) ?_
             first
               | (rw [c41]; (first | rw [bj2_9] | rw [bj2_10] | rw [bj2_11] | rw [bj2_12] | rw [bj2_13] | rw [bj2_14]); (try split) <;> first | rfl | omega)
               | (rw [bj2_o (by omega)]; (try split) <;> first | rfl | omega)
               | (unfold bi2; (repeat' split) <;> first | rfl | omega))
      · refine q_tableIn (t := 133) F dX6_join_41 (by first | exact hR _ _ _ | (constructor <;> omega)) (by omega) (by omega) (by rw [c41]; rfl) (by decide) ?_
        refine q_aload_n (t := 134) F dX6_join_133 rfl rfl rfl ?_
        refine g_X6_18 (t := 137) F dX6_join_134 rfl (by omega) rfl ?_
        refine q_iload_n (t := 138) F dX6_join_137 rfl rfl rfl ?_
        refine q_iload (t := 140) F dX6_join_138 rfl rfl ?_
        refine q_iload (t := 142) F dX6_join_140 rfl rfl ?_
        refine q_iadd (t := 143) F dX6_join_142 rfl ?_
        refine q_norm ?_
        first | refine stN_5 (t := 144) F dX6_join_143 (by omega) (by omega) rfl ?_ | refine st_5 (t := 144) F dX6_join_143 (by omega) (by omega) (by omega) rfl ?_
        refine q_goto (t := 248) F dX6_join_144 (by decide) ?_
        refine q_iload_n (t := 249) F dX6_join_248 rfl rfl rfl ?_
        refine q_iconst (t := 250) F dX6_join_249 rfl ?_
        refine q_iadd (t := 251) F dX6_join_250 rfl ?_
        refine q_iret F dX6_join_251 rfl ?_
        first
          | (rw [joinS_1 (by omega)]
             refine ⟨_, rfl, rfl, ?_⟩
             rw [up_row]
             refine congrArg (fun v => ((row im 5 j (us k u v), rs bt rt, lm) : Mem)) ?_
             unfold un1
             (repeat' split) <;> first | rfl | omega)
          | (rw [joinS_2 (by omega)]
             refine ⟨_, rfl, rfl, ?_⟩
             rw [up_row]
             refine congrArg (fun v => ((row im 5 j (us k u v), rs bt rt, lm) : Mem)) ?_
             first
               | (rw [c41]; (first | rw [bj2_9] | rw [bj2_10] | rw [bj2_11] | rw [bj2_12] | rw [bj2_13] | rw [bj2_14]); (try split) <;> first | rfl | omega)
               | (rw [bj2_o (by omega)]; (try split) <;> first | rfl | omega)
               | (unfold bi2; (repeat' split) <;> first | rfl | omega))
      · refine q_tableIn (t := 119) F dX6_join_41 (by first | exact hR _ _ _ | (constructor <;> omega)) (by omega) (by omega) (by rw [c41]; rfl) (by decide) ?_
        refine q_aload_n (t := 120) F dX6_join_119 rfl rfl rfl ?_
        refine g_X6_18 (t := 123) F dX6_join_120 rfl (by omega) rfl ?_
        refine q_iload_n (t := 124) F dX6_join_123 rfl rfl rfl ?_
        refine q_iload (t := 126) F dX6_join_124 rfl rfl ?_
        refine q_iload (t := 128) F dX6_join_126 rfl rfl ?_
        refine q_imul (t := 129) F dX6_join_128 rfl ?_
        refine q_norm ?_
        first | refine stN_5 (t := 130) F dX6_join_129 (by omega) (by omega) rfl ?_ | refine st_5 (t := 130) F dX6_join_129 (by omega) (by omega) (by omega) rfl ?_
        refine q_goto (t := 248) F dX6_join_130 (by decide) ?_
        refine q_iload_n (t := 249) F dX6_join_248 rfl rfl rfl ?_
        refine q_iconst (t := 250) F dX6_join_249 rfl ?_
        refine q_iadd (t := 251) F dX6_join_250 rfl ?_
        refine q_iret F dX6_join_251 rfl ?_
        first
          | (rw [joinS_1 (by omega)]
             refine ⟨_, rfl, rfl, ?_⟩
             rw [up_row]
             refine congrArg (fun v => ((row im 5 j (us k u v), rs bt rt, lm) : Mem)) ?_
             unfold un1
             (repeat' split) <;> first | rfl | omega)
          | (rw [joinS_2 (by omega)]
             refine ⟨_, rfl, rfl, ?_⟩
             rw [up_row]
             refine congrArg (fun v => ((row im 5 j (us k u v), rs bt rt, lm) : Mem)) ?_
             first
               | (rw [c41]; (first | rw [bj2_9] | rw [bj2_10] | rw [bj2_11] | rw [bj2_12] | rw [bj2_13] | rw [bj2_14]); (try split) <;> first | rfl | omega)
               | (rw [bj2_o (by omega)]; (try split) <;> first | rfl | omega)
               | (unfold bi2; (repeat' split) <;> first | rfl | omega))
      · refine q_tableIn (t := 100) F dX6_join_41 (by first | exact hR _ _ _ | (constructor <;> omega)) (by omega) (by omega) (by rw [c41]; rfl) (by decide) ?_
        refine q_aload_n (t := 101) F dX6_join_100 rfl rfl rfl ?_
        refine g_X6_18 (t := 104) F dX6_join_101 rfl (by omega) rfl ?_
        refine q_iload_n (t := 105) F dX6_join_104 rfl rfl rfl ?_
        refine q_iload (t := 107) F dX6_join_105 rfl rfl ?_
        refine q_if_ne (t := 110) (u := 114) F dX6_join_107 (by first | exact hk _ | (constructor <;> omega)) (by decide) rfl (fun c107 => ?_) (fun c107 => ?_)
        · refine q_iconst (t := 115) F dX6_join_114 rfl ?_
          first | refine stN_5 (t := 116) F dX6_join_115 (by omega) (by omega) rfl ?_ | refine st_5 (t := 116) F dX6_join_115 (by omega) (by omega) (by omega) rfl ?_
          refine q_goto (t := 248) F dX6_join_116 (by decide) ?_
          refine q_iload_n (t := 249) F dX6_join_248 rfl rfl rfl ?_
          refine q_iconst (t := 250) F dX6_join_249 rfl ?_
          refine q_iadd (t := 251) F dX6_join_250 rfl ?_
          refine q_iret F dX6_join_251 rfl ?_
          first
            | (rw [joinS_1 (by omega)]
               refine ⟨_, rfl, rfl, ?_⟩
               rw [up_row]
               refine congrArg (fun v => ((row im 5 j (us k u v), rs bt rt, lm) : Mem)) ?_
               unfold un1
               (repeat' split) <;> first | rfl | omega)
            | (rw [joinS_2 (by omega)]
               refine ⟨_, rfl, rfl, ?_⟩
               rw [up_row]
               refine congrArg (fun v => ((row im 5 j (us k u v), rs bt rt, lm) : Mem)) ?_
               first
                 | (rw [c41]; (first | rw [bj2_9] | rw [bj2_10] | rw [bj2_11] | rw [bj2_12] | rw [bj2_13] | rw [bj2_14]); (try split) <;> first | rfl | omega)
                 | (rw [bj2_o (by omega)]; (try split) <;> first | rfl | omega)
                 | (unfold bi2; (repeat' split) <;> first | rfl | omega))
        · refine q_iconst (t := 111) F dX6_join_110 rfl ?_
          refine q_goto (t := 115) F dX6_join_111 (by decide) ?_
          first | refine stN_5 (t := 116) F dX6_join_115 (by omega) (by omega) rfl ?_ | refine st_5 (t := 116) F dX6_join_115 (by omega) (by omega) (by omega) rfl ?_
          refine q_goto (t := 248) F dX6_join_116 (by decide) ?_
          refine q_iload_n (t := 249) F dX6_join_248 rfl rfl rfl ?_
          refine q_iconst (t := 250) F dX6_join_249 rfl ?_
          refine q_iadd (t := 251) F dX6_join_250 rfl ?_
          refine q_iret F dX6_join_251 rfl ?_
          first
            | (rw [joinS_1 (by omega)]
               refine ⟨_, rfl, rfl, ?_⟩
               rw [up_row]
               refine congrArg (fun v => ((row im 5 j (us k u v), rs bt rt, lm) : Mem)) ?_
               unfold un1
               (repeat' split) <;> first | rfl | omega)
            | (rw [joinS_2 (by omega)]
               refine ⟨_, rfl, rfl, ?_⟩
               rw [up_row]
               refine congrArg (fun v => ((row im 5 j (us k u v), rs bt rt, lm) : Mem)) ?_
               first
                 | (rw [c41]; (first | rw [bj2_9] | rw [bj2_10] | rw [bj2_11] | rw [bj2_12] | rw [bj2_13] | rw [bj2_14]); (try split) <;> first | rfl | omega)
                 | (rw [bj2_o (by omega)]; (try split) <;> first | rfl | omega)
                 | (unfold bi2; (repeat' split) <;> first | rfl | omega))
      · refine q_tableIn (t := 88) F dX6_join_41 (by first | exact hR _ _ _ | (constructor <;> omega)) (by omega) (by omega) (by rw [c41]; rfl) (by decide) ?_
        refine q_aload_n (t := 89) F dX6_join_88 rfl rfl rfl ?_
        refine g_X6_18 (t := 92) F dX6_join_89 rfl (by omega) rfl ?_
        refine q_iload_n (t := 93) F dX6_join_92 rfl rfl rfl ?_
        refine q_iload (t := 95) F dX6_join_93 rfl rfl ?_
        refine q_ineg (t := 96) F dX6_join_95 rfl ?_
        refine q_norm ?_
        first | refine stN_5 (t := 97) F dX6_join_96 (by omega) (by omega) rfl ?_ | refine st_5 (t := 97) F dX6_join_96 (by omega) (by omega) (by omega) rfl ?_
        refine q_goto (t := 248) F dX6_join_97 (by decide) ?_
        refine q_iload_n (t := 249) F dX6_join_248 rfl rfl rfl ?_
        refine q_iconst (t := 250) F dX6_join_249 rfl ?_
        refine q_iadd (t := 251) F dX6_join_250 rfl ?_
        refine q_iret F dX6_join_251 rfl ?_
        first
          | (rw [joinS_1 (by omega)]
             refine ⟨_, rfl, rfl, ?_⟩
             rw [up_row]
             refine congrArg (fun v => ((row im 5 j (us k u v), rs bt rt, lm) : Mem)) ?_
             unfold un1
             (repeat' split) <;> first | rfl | omega)
          | (rw [joinS_2 (by omega)]
             refine ⟨_, rfl, rfl, ?_⟩
             rw [up_row]
             refine congrArg (fun v => ((row im 5 j (us k u v), rs bt rt, lm) : Mem)) ?_
             first
               | (rw [c41]; (first | rw [bj2_9] | rw [bj2_10] | rw [bj2_11] | rw [bj2_12] | rw [bj2_13] | rw [bj2_14]); (try split) <;> first | rfl | omega)
               | (rw [bj2_o (by omega)]; (try split) <;> first | rfl | omega)
               | (unfold bi2; (repeat' split) <;> first | rfl | omega))
    · refine q_iload_n (t := 21) F dX6_join_20 rfl rfl rfl ?_
      refine q_iret F dX6_join_21 rfl ?_
      exact ⟨_, rfl, by rw [joinS_0 (by omega)], by rw [joinS_0 (by omega)]⟩

set_option maxHeartbeats 4000000 in
theorem c_X6_tell17 (l : Launch) (G : GS) (im : IM) (bt rt : Nat) (lm : IM) (j : Nat) (hj : j < 6) (part : Nat) (hp : part < 3) (hR : RI im) (hE : goodT im j) : Cn l (XC G) yX6_tell Y_X6_tell [vR 2 j, vI (part : Int), vR 17 0] (im, rs bt rt, lm) (pI fun x m' => x = tellV im j part (im 17 0) ∧ ∃ k, (∀ s, ri (k s)) ∧ m' = (row im 5 j k, rs bt rt, lm)) := by
  refine cn_of (by decide) (okC G) rfl (Nat.le_of_ble_eq_true rfl) ?_
  intro M ad hMl F
  subst hMl
  have hb := hE.1 part hp
  have hb2 : ((pb im j part : Nat) : Int) = im 4 j part := by unfold pb; omega
  have hfin : ∀ q : Nat × (Nat → Int), q = tellQ im j part (im 17 0) (im 5 j) → clip (q.2 0) = tellV im j part (im 17 0) := by
    intro q hq
    unfold tellV
    rw [hq, hE.2 part hp]
  refine wp_pad 2 ?_
  show Wp M (XC G) ad Y_X6_tell (pI fun x m' => x = tellV im j part (im 17 0) ∧ ∃ k, (∀ s, ri (k s)) ∧ m' = (row im 5 j k, rs bt rt, lm)) 0 [some (vR 2 j), some (vI (part : Int)), some (vR 17 0), none, none] [] (im, rs bt rt, lm)
  refine q_iconst (t := 1) F dX6_tell_0 rfl ?_
  refine q_istore_n (t := 2) F dX6_tell_1 rfl (by decide) rfl rfl ?_
  refine q_iload_n (t := 3) F dX6_tell_2 rfl rfl rfl ?_
  refine q_if_ne (t := 6) (u := 10) F dX6_tell_3 (by first | exact hR _ _ _ | (constructor <;> omega)) (by decide) rfl (fun c3 => ?_) (fun c3 => ?_)
  · refine q_aload_n (t := 11) F dX6_tell_10 rfl rfl rfl ?_
    refine g_X6_15 (t := 14) F dX6_tell_11 rfl (by omega) rfl ?_
    refine q_iload_n (t := 15) F dX6_tell_14 rfl rfl rfl ?_
    refine q_iconst (t := 16) F dX6_tell_15 rfl ?_
    refine q_isub (t := 17) F dX6_tell_16 rfl ?_
    rw [show (part : Int) - 1 = ((part - 1 : Nat) : Int) by omega]
    first | refine ldN_4 (t := 18) F dX6_tell_17 (by omega) (by omega) rfl ?_ | refine ld_4 (t := 18) F dX6_tell_17 (by omega) (by omega) (by omega) rfl ?_
    refine q_istore (t := 20) F dX6_tell_18 (by decide) rfl rfl ?_
    have L20 : ∀ (fz : Nat) (i : Nat) (q : Nat × (Nat → Int)), pb im j part - i < fz → i ≤ 160 → q.1 ≤ 31 → (∀ s, ri (q.2 s)) → runS (im 3 j) (im 17 0) i (pb im j part - i) q = tellQ im j part (im 17 0) (im 5 j) → Wp M (XC G) ad Y_X6_tell (pI fun x m' => x = tellV im j part (im 17 0) ∧ ∃ k, (∀ s, ri (k s)) ∧ m' = (row im 5 j k, rs bt rt, lm)) 20 [some (vR 2 j), some (vI (part : Int)), some (vR 17 0), some (vI (q.1 : Int)), some (vI (i : Int))] [] (row im 5 j q.2, rs bt rt, lm) := by
      intro fz
      induction fz with
      | zero => intro i q h; exact absurd h (Nat.not_lt_zero _)
      | succ fz ih =>
        intro i q hmeas hi hq hr hrun
        have hq31 : q.1 ≤ 31 := hq
        refine q_iload (t := 22) F dX6_tell_20 rfl rfl ?_
        refine q_aload_n (t := 23) F dX6_tell_22 rfl rfl rfl ?_
        refine g_X6_15 (t := 26) F dX6_tell_23 rfl (by omega) rfl ?_
        refine q_iload_n (t := 27) F dX6_tell_26 rfl rfl rfl ?_
        first | refine ldN_4 (t := 28) F dX6_tell_27 (by omega) (by omega) rfl ?_ | refine ld_4 (t := 28) F dX6_tell_27 (by omega) (by omega) (by omega) rfl ?_
        try simp only [up_app, row_app, scr_app, cpy_app, Nat.reduceEqDiff, Int.reduceToNat, Int.toNat_natCast, and_true, true_and, and_false, false_and, and_self, reduceIte]
        refine q_icmp_ge (t := 31) (u := 79) F dX6_tell_28 (by first | exact hR _ _ _ | (constructor <;> omega)) (by first | exact hR _ _ _ | (constructor <;> omega)) (by decide) rfl (fun c28 => ?_) (fun c28 => ?_)
        · refine q_iconst (t := 80) F dX6_tell_79 rfl ?_
          refine q_bipush (t := 82) F dX6_tell_80 (by decide) rfl ?_
          refine q_aload_n (t := 83) F dX6_tell_82 rfl rfl rfl ?_
          refine g_X6_18 (t := 86) F dX6_tell_83 rfl (by omega) rfl ?_
          refine q_iconst (t := 87) F dX6_tell_86 rfl ?_
          refine ldN_5 (t := 88) (j := 0) F dX6_tell_87 (by omega) (by omega) rfl ?_
          try simp only [up_app, row_app, scr_app, cpy_app, Nat.reduceEqDiff, Int.reduceToNat, Int.toNat_natCast, and_true, true_and, and_false, false_and, and_self, reduceIte]
          refine wp_min (t := 91) F dX6_tell_88 ml_X6_33 st_J9_min_7cf53 in_J9 cd_J9_min_7cf53 (Nat.le_of_ble_eq_true rfl) (by decide) (by constructor <;> omega) (by first | exact hr _ | exact hR _ _ _) rfl ?_
          refine wp_max (t := 94) F dX6_tell_91 ml_X6_38 st_J9_max_7cf53 in_J9 cd_J9_max_7cf53 (Nat.le_of_ble_eq_true rfl) (by decide) (by constructor <;> omega) (by split <;> first | exact hr _ | (constructor <;> omega)) rfl ?_
          refine q_iret F dX6_tell_94 rfl ?_
          have hq0 : q = tellQ im j part (im 17 0) (im 5 j) := by
            rw [← hrun, show pb im j part - i = 0 by omega]
            rfl
          refine ⟨_, rfl, ?_, q.2, hr, rfl⟩
          rw [← hfin q hq0]
          unfold clip
          (repeat' split) <;> omega
        · refine q_aload_n (t := 32) F dX6_tell_31 rfl rfl rfl ?_
          refine g_X6_9 (t := 35) F dX6_tell_32 rfl (by omega) rfl ?_
          refine q_iload (t := 37) F dX6_tell_35 rfl rfl ?_
          first | refine ldN_3 (t := 38) F dX6_tell_37 (by omega) (by omega) rfl ?_ | refine ld_3 (t := 38) F dX6_tell_37 (by omega) (by omega) (by omega) rfl ?_
          try simp only [up_app, row_app, scr_app, cpy_app, Nat.reduceEqDiff, Int.reduceToNat, Int.toNat_natCast, and_true, true_and, and_false, false_and, and_self, reduceIte]
          refine q_bipush (t := 40) F dX6_tell_38 (by decide) rfl ?_
          refine q_icmp_le (t := 43) (u := 60) F dX6_tell_40 (by first | exact hR _ _ _ | (constructor <;> omega)) (by first | exact hR _ _ _ | (constructor <;> omega)) (by decide) rfl (fun c40 => ?_) (fun c40 => ?_)
          · refine q_aload_n (t := 61) F dX6_tell_60 rfl rfl rfl ?_
            refine q_aload_n (t := 62) F dX6_tell_61 rfl rfl rfl ?_
            refine g_X6_9 (t := 65) F dX6_tell_62 rfl (by omega) rfl ?_
            refine q_iload (t := 67) F dX6_tell_65 rfl rfl ?_
            first | refine ldN_3 (t := 68) F dX6_tell_67 (by omega) (by omega) rfl ?_ | refine ld_3 (t := 68) F dX6_tell_67 (by omega) (by omega) (by omega) rfl ?_
            try simp only [up_app, row_app, scr_app, cpy_app, Nat.reduceEqDiff, Int.reduceToNat, Int.toNat_natCast, and_true, true_and, and_false, false_and, and_self, reduceIte]
            refine q_iload_n (t := 69) F dX6_tell_68 rfl rfl rfl ?_
            refine wp_callV (t := 72) [_, _] F dX6_tell_69 k_X6_join v_X6_join ml_X6_29 rfl rfl rfl rfl (Nat.le_of_ble_eq_true rfl) (by decide) (m_2 (by omega)) (c_X6_join _ G im bt rt lm j hj q.2 hr (im 3 j i) q.1 (by omega) (hR 3 j i) hq) rfl (kI ?_)
            rintro x m' ⟨rfl, rfl⟩
            obtain ⟨QQ, hQQ⟩ : ∃ z, z = joinS (im 3 j i) q := ⟨_, rfl⟩
            rw [show joinS (im 3 j i) (q.1, q.2) = QQ from hQQ.symm]
            refine q_istore_n (t := 73) F dX6_tell_72 rfl (by decide) rfl rfl ?_
            refine q_iinc (t := 76) F dX6_tell_73 rfl (by decide) rfl rfl ?_
            refine q_goto (t := 20) F dX6_tell_76 (by decide) ?_
            have e : runS (im 3 j) (im 17 0) (i + 1) (pb im j part - (i + 1)) (stepS (im 17 0) (im 3 j i) q) = tellQ im j part (im 17 0) (im 5 j) := by
              rw [← hrun, show pb im j part - i = (pb im j part - (i + 1)) + 1 by omega]
              rfl
            have hst : stepS (im 17 0) (im 3 j i) q = QQ := by
              unfold stepS
              first | (rw [if_pos (by omega)]; exact hQQ.symm) | (rw [if_neg (by omega)]; exact hQQ.symm)
            rw [hst] at e
            exact ih (i + 1) QQ (by omega) (by omega) (by rw [← hst]; exact stepS_top hq) (by rw [← hst]; exact stepS_ri (hR 3 j i) (hR 17 0) hr) e
          · refine q_aload_n (t := 44) F dX6_tell_43 rfl rfl rfl ?_
            refine q_aload_n (t := 45) F dX6_tell_44 rfl rfl rfl ?_
            refine g_X6_9 (t := 48) F dX6_tell_45 rfl (by omega) rfl ?_
            refine q_iload (t := 50) F dX6_tell_48 rfl rfl ?_
            first | refine ldN_3 (t := 51) F dX6_tell_50 (by omega) (by omega) rfl ?_ | refine ld_3 (t := 51) F dX6_tell_50 (by omega) (by omega) (by omega) rfl ?_
            try simp only [up_app, row_app, scr_app, cpy_app, Nat.reduceEqDiff, Int.reduceToNat, Int.toNat_natCast, and_true, true_and, and_false, false_and, and_self, reduceIte]
            refine q_iload_n (t := 52) F dX6_tell_51 rfl rfl rfl ?_
            refine q_aload_n (t := 53) F dX6_tell_52 rfl rfl rfl ?_
            refine wp_callV (t := 56) [_, _, _] F dX6_tell_53 k_X6_put v_X6_put ml_X6_25 rfl rfl rfl rfl (Nat.le_of_ble_eq_true rfl) (by decide) (m_2 (by omega)) (c_X6_put17 _ G im bt rt lm j hj q.2 (im 3 j i) q.1 (by omega) (hR 3 j i) hq) rfl (kI ?_)
            rintro x m' ⟨rfl, rfl⟩
            obtain ⟨QQ, hQQ⟩ : ∃ z, z = putS (im 17 0) (im 3 j i) q := ⟨_, rfl⟩
            rw [show putS (im 17 0) (im 3 j i) (q.1, q.2) = QQ from hQQ.symm]
            refine q_istore_n (t := 57) F dX6_tell_56 rfl (by decide) rfl rfl ?_
            refine q_goto (t := 73) F dX6_tell_57 (by decide) ?_
            refine q_iinc (t := 76) F dX6_tell_73 rfl (by decide) rfl rfl ?_
            refine q_goto (t := 20) F dX6_tell_76 (by decide) ?_
            have e : runS (im 3 j) (im 17 0) (i + 1) (pb im j part - (i + 1)) (stepS (im 17 0) (im 3 j i) q) = tellQ im j part (im 17 0) (im 5 j) := by
              rw [← hrun, show pb im j part - i = (pb im j part - (i + 1)) + 1 by omega]
              rfl
            have hst : stepS (im 17 0) (im 3 j i) q = QQ := by
              unfold stepS
              first | (rw [if_pos (by omega)]; exact hQQ.symm) | (rw [if_neg (by omega)]; exact hQQ.symm)
            rw [hst] at e
            exact ih (i + 1) QQ (by omega) (by omega) (by rw [← hst]; exact stepS_top hq) (by rw [← hst]; exact stepS_ri (hR 3 j i) (hR 17 0) hr) e
    first
      | (have e : im 4 j (part - 1) = ((pa im j part : Nat) : Int) := by
           have := hE.1 (part - 1) (by omega)
           unfold pa
           rw [if_neg (by omega)]
           omega
         have h160 : pa im j part ≤ 160 := by
           have := hE.1 (part - 1) (by omega)
           omega
         rw [e]
         have h := L20 _ (pa im j part) (0, im 5 j) (Nat.lt_succ_self _) h160 (by show 0 ≤ 31; omega) (hR 5 j) rfl
         rw [row_self] at h
         exact h)
      | (have e : pa im j part = 0 := by
           unfold pa
           rw [if_pos (by omega)]
         have h := L20 _ (pa im j part) (0, im 5 j) (Nat.lt_succ_self _) (by omega) (by show 0 ≤ 31; omega) (hR 5 j) rfl
         rw [row_self, e] at h
         exact h)
  · refine q_iconst (t := 7) F dX6_tell_6 rfl ?_
    refine q_goto (t := 18) F dX6_tell_7 (by decide) ?_
    refine q_istore (t := 20) F dX6_tell_18 (by decide) rfl rfl ?_
    have L20 : ∀ (fz : Nat) (i : Nat) (q : Nat × (Nat → Int)), pb im j part - i < fz → i ≤ 160 → q.1 ≤ 31 → (∀ s, ri (q.2 s)) → runS (im 3 j) (im 17 0) i (pb im j part - i) q = tellQ im j part (im 17 0) (im 5 j) → Wp M (XC G) ad Y_X6_tell (pI fun x m' => x = tellV im j part (im 17 0) ∧ ∃ k, (∀ s, ri (k s)) ∧ m' = (row im 5 j k, rs bt rt, lm)) 20 [some (vR 2 j), some (vI (part : Int)), some (vR 17 0), some (vI (q.1 : Int)), some (vI (i : Int))] [] (row im 5 j q.2, rs bt rt, lm) := by
      intro fz
      induction fz with
      | zero => intro i q h; exact absurd h (Nat.not_lt_zero _)
      | succ fz ih =>
        intro i q hmeas hi hq hr hrun
        have hq31 : q.1 ≤ 31 := hq
        refine q_iload (t := 22) F dX6_tell_20 rfl rfl ?_
        refine q_aload_n (t := 23) F dX6_tell_22 rfl rfl rfl ?_
        refine g_X6_15 (t := 26) F dX6_tell_23 rfl (by omega) rfl ?_
        refine q_iload_n (t := 27) F dX6_tell_26 rfl rfl rfl ?_
        first | refine ldN_4 (t := 28) F dX6_tell_27 (by omega) (by omega) rfl ?_ | refine ld_4 (t := 28) F dX6_tell_27 (by omega) (by omega) (by omega) rfl ?_
        try simp only [up_app, row_app, scr_app, cpy_app, Nat.reduceEqDiff, Int.reduceToNat, Int.toNat_natCast, and_true, true_and, and_false, false_and, and_self, reduceIte]
        refine q_icmp_ge (t := 31) (u := 79) F dX6_tell_28 (by first | exact hR _ _ _ | (constructor <;> omega)) (by first | exact hR _ _ _ | (constructor <;> omega)) (by decide) rfl (fun c28 => ?_) (fun c28 => ?_)
        · refine q_iconst (t := 80) F dX6_tell_79 rfl ?_
          refine q_bipush (t := 82) F dX6_tell_80 (by decide) rfl ?_
          refine q_aload_n (t := 83) F dX6_tell_82 rfl rfl rfl ?_
          refine g_X6_18 (t := 86) F dX6_tell_83 rfl (by omega) rfl ?_
          refine q_iconst (t := 87) F dX6_tell_86 rfl ?_
          refine ldN_5 (t := 88) (j := 0) F dX6_tell_87 (by omega) (by omega) rfl ?_
          try simp only [up_app, row_app, scr_app, cpy_app, Nat.reduceEqDiff, Int.reduceToNat, Int.toNat_natCast, and_true, true_and, and_false, false_and, and_self, reduceIte]
          refine wp_min (t := 91) F dX6_tell_88 ml_X6_33 st_J9_min_7cf53 in_J9 cd_J9_min_7cf53 (Nat.le_of_ble_eq_true rfl) (by decide) (by constructor <;> omega) (by first | exact hr _ | exact hR _ _ _) rfl ?_
          refine wp_max (t := 94) F dX6_tell_91 ml_X6_38 st_J9_max_7cf53 in_J9 cd_J9_max_7cf53 (Nat.le_of_ble_eq_true rfl) (by decide) (by constructor <;> omega) (by split <;> first | exact hr _ | (constructor <;> omega)) rfl ?_
          refine q_iret F dX6_tell_94 rfl ?_
          have hq0 : q = tellQ im j part (im 17 0) (im 5 j) := by
            rw [← hrun, show pb im j part - i = 0 by omega]
            rfl
          refine ⟨_, rfl, ?_, q.2, hr, rfl⟩
          rw [← hfin q hq0]
          unfold clip
          (repeat' split) <;> omega
        · refine q_aload_n (t := 32) F dX6_tell_31 rfl rfl rfl ?_
          refine g_X6_9 (t := 35) F dX6_tell_32 rfl (by omega) rfl ?_
          refine q_iload (t := 37) F dX6_tell_35 rfl rfl ?_
          first | refine ldN_3 (t := 38) F dX6_tell_37 (by omega) (by omega) rfl ?_ | refine ld_3 (t := 38) F dX6_tell_37 (by omega) (by omega) (by omega) rfl ?_
          try simp only [up_app, row_app, scr_app, cpy_app, Nat.reduceEqDiff, Int.reduceToNat, Int.toNat_natCast, and_true, true_and, and_false, false_and, and_self, reduceIte]
          refine q_bipush (t := 40) F dX6_tell_38 (by decide) rfl ?_
          refine q_icmp_le (t := 43) (u := 60) F dX6_tell_40 (by first | exact hR _ _ _ | (constructor <;> omega)) (by first | exact hR _ _ _ | (constructor <;> omega)) (by decide) rfl (fun c40 => ?_) (fun c40 => ?_)
          · refine q_aload_n (t := 61) F dX6_tell_60 rfl rfl rfl ?_
            refine q_aload_n (t := 62) F dX6_tell_61 rfl rfl rfl ?_
            refine g_X6_9 (t := 65) F dX6_tell_62 rfl (by omega) rfl ?_
            refine q_iload (t := 67) F dX6_tell_65 rfl rfl ?_
            first | refine ldN_3 (t := 68) F dX6_tell_67 (by omega) (by omega) rfl ?_ | refine ld_3 (t := 68) F dX6_tell_67 (by omega) (by omega) (by omega) rfl ?_
            try simp only [up_app, row_app, scr_app, cpy_app, Nat.reduceEqDiff, Int.reduceToNat, Int.toNat_natCast, and_true, true_and, and_false, false_and, and_self, reduceIte]
            refine q_iload_n (t := 69) F dX6_tell_68 rfl rfl rfl ?_
            refine wp_callV (t := 72) [_, _] F dX6_tell_69 k_X6_join v_X6_join ml_X6_29 rfl rfl rfl rfl (Nat.le_of_ble_eq_true rfl) (by decide) (m_2 (by omega)) (c_X6_join _ G im bt rt lm j hj q.2 hr (im 3 j i) q.1 (by omega) (hR 3 j i) hq) rfl (kI ?_)
            rintro x m' ⟨rfl, rfl⟩
            obtain ⟨QQ, hQQ⟩ : ∃ z, z = joinS (im 3 j i) q := ⟨_, rfl⟩
            rw [show joinS (im 3 j i) (q.1, q.2) = QQ from hQQ.symm]
            refine q_istore_n (t := 73) F dX6_tell_72 rfl (by decide) rfl rfl ?_
            refine q_iinc (t := 76) F dX6_tell_73 rfl (by decide) rfl rfl ?_
            refine q_goto (t := 20) F dX6_tell_76 (by decide) ?_
            have e : runS (im 3 j) (im 17 0) (i + 1) (pb im j part - (i + 1)) (stepS (im 17 0) (im 3 j i) q) = tellQ im j part (im 17 0) (im 5 j) := by
              rw [← hrun, show pb im j part - i = (pb im j part - (i + 1)) + 1 by omega]
              rfl
            have hst : stepS (im 17 0) (im 3 j i) q = QQ := by
              unfold stepS
              first | (rw [if_pos (by omega)]; exact hQQ.symm) | (rw [if_neg (by omega)]; exact hQQ.symm)
            rw [hst] at e
            exact ih (i + 1) QQ (by omega) (by omega) (by rw [← hst]; exact stepS_top hq) (by rw [← hst]; exact stepS_ri (hR 3 j i) (hR 17 0) hr) e
          · refine q_aload_n (t := 44) F dX6_tell_43 rfl rfl rfl ?_
            refine q_aload_n (t := 45) F dX6_tell_44 rfl rfl rfl ?_
            refine g_X6_9 (t := 48) F dX6_tell_45 rfl (by omega) rfl ?_
            refine q_iload (t := 50) F dX6_tell_48 rfl rfl ?_
            first | refine ldN_3 (t := 51) F dX6_tell_50 (by omega) (by omega) rfl ?_ | refine ld_3 (t := 51) F dX6_tell_50 (by omega) (by omega) (by omega) rfl ?_
            try simp only [up_app, row_app, scr_app, cpy_app, Nat.reduceEqDiff, Int.reduceToNat, Int.toNat_natCast, and_true, true_and, and_false, false_and, and_self, reduceIte]
            refine q_iload_n (t := 52) F dX6_tell_51 rfl rfl rfl ?_
            refine q_aload_n (t := 53) F dX6_tell_52 rfl rfl rfl ?_
            refine wp_callV (t := 56) [_, _, _] F dX6_tell_53 k_X6_put v_X6_put ml_X6_25 rfl rfl rfl rfl (Nat.le_of_ble_eq_true rfl) (by decide) (m_2 (by omega)) (c_X6_put17 _ G im bt rt lm j hj q.2 (im 3 j i) q.1 (by omega) (hR 3 j i) hq) rfl (kI ?_)
            rintro x m' ⟨rfl, rfl⟩
            obtain ⟨QQ, hQQ⟩ : ∃ z, z = putS (im 17 0) (im 3 j i) q := ⟨_, rfl⟩
            rw [show putS (im 17 0) (im 3 j i) (q.1, q.2) = QQ from hQQ.symm]
            refine q_istore_n (t := 57) F dX6_tell_56 rfl (by decide) rfl rfl ?_
            refine q_goto (t := 73) F dX6_tell_57 (by decide) ?_
            refine q_iinc (t := 76) F dX6_tell_73 rfl (by decide) rfl rfl ?_
            refine q_goto (t := 20) F dX6_tell_76 (by decide) ?_
            have e : runS (im 3 j) (im 17 0) (i + 1) (pb im j part - (i + 1)) (stepS (im 17 0) (im 3 j i) q) = tellQ im j part (im 17 0) (im 5 j) := by
              rw [← hrun, show pb im j part - i = (pb im j part - (i + 1)) + 1 by omega]
              rfl
            have hst : stepS (im 17 0) (im 3 j i) q = QQ := by
              unfold stepS
              first | (rw [if_pos (by omega)]; exact hQQ.symm) | (rw [if_neg (by omega)]; exact hQQ.symm)
            rw [hst] at e
            exact ih (i + 1) QQ (by omega) (by omega) (by rw [← hst]; exact stepS_top hq) (by rw [← hst]; exact stepS_ri (hR 3 j i) (hR 17 0) hr) e
    first
      | (have e : im 4 j (part - 1) = ((pa im j part : Nat) : Int) := by
           have := hE.1 (part - 1) (by omega)
           unfold pa
           rw [if_neg (by omega)]
           omega
         have h160 : pa im j part ≤ 160 := by
           have := hE.1 (part - 1) (by omega)
           omega
         rw [e]
         have h := L20 _ (pa im j part) (0, im 5 j) (Nat.lt_succ_self _) h160 (by show 0 ≤ 31; omega) (hR 5 j) rfl
         rw [row_self] at h
         exact h)
      | (have e : pa im j part = 0 := by
           unfold pa
           rw [if_pos (by omega)]
         have h := L20 _ (pa im j part) (0, im 5 j) (Nat.lt_succ_self _) (by omega) (by show 0 ≤ 31; omega) (hR 5 j) rfl
         rw [row_self, e] at h
         exact h)

set_option maxHeartbeats 4000000 in
theorem c_X6_tell20 (l : Launch) (G : GS) (im : IM) (bt rt : Nat) (lm : IM) (j : Nat) (hj : j < 6) (w : Nat) (hw : w < 3) (part : Nat) (hp : part < 3) (hR : RI im) (hE : goodT im j) : Cn l (XC G) yX6_tell Y_X6_tell [vR 2 j, vI (part : Int), vR 20 w] (im, rs bt rt, lm) (pI fun x m' => x = tellV im j part (im 20 w) ∧ ∃ k, (∀ s, ri (k s)) ∧ m' = (row im 5 j k, rs bt rt, lm)) := by
  refine cn_of (by decide) (okC G) rfl (Nat.le_of_ble_eq_true rfl) ?_
  intro M ad hMl F
  subst hMl
  have hb := hE.1 part hp
  have hb2 : ((pb im j part : Nat) : Int) = im 4 j part := by unfold pb; omega
  have hfin : ∀ q : Nat × (Nat → Int), q = tellQ im j part (im 20 w) (im 5 j) → clip (q.2 0) = tellV im j part (im 20 w) := by
    intro q hq
    unfold tellV
    rw [hq, hE.2 part hp]
  refine wp_pad 2 ?_
  show Wp M (XC G) ad Y_X6_tell (pI fun x m' => x = tellV im j part (im 20 w) ∧ ∃ k, (∀ s, ri (k s)) ∧ m' = (row im 5 j k, rs bt rt, lm)) 0 [some (vR 2 j), some (vI (part : Int)), some (vR 20 w), none, none] [] (im, rs bt rt, lm)
  refine q_iconst (t := 1) F dX6_tell_0 rfl ?_
  refine q_istore_n (t := 2) F dX6_tell_1 rfl (by decide) rfl rfl ?_
  refine q_iload_n (t := 3) F dX6_tell_2 rfl rfl rfl ?_
  refine q_if_ne (t := 6) (u := 10) F dX6_tell_3 (by first | exact hR _ _ _ | (constructor <;> omega)) (by decide) rfl (fun c3 => ?_) (fun c3 => ?_)
  · refine q_aload_n (t := 11) F dX6_tell_10 rfl rfl rfl ?_
    refine g_X6_15 (t := 14) F dX6_tell_11 rfl (by omega) rfl ?_
    refine q_iload_n (t := 15) F dX6_tell_14 rfl rfl rfl ?_
    refine q_iconst (t := 16) F dX6_tell_15 rfl ?_
    refine q_isub (t := 17) F dX6_tell_16 rfl ?_
    rw [show (part : Int) - 1 = ((part - 1 : Nat) : Int) by omega]
    first | refine ldN_4 (t := 18) F dX6_tell_17 (by omega) (by omega) rfl ?_ | refine ld_4 (t := 18) F dX6_tell_17 (by omega) (by omega) (by omega) rfl ?_
    refine q_istore (t := 20) F dX6_tell_18 (by decide) rfl rfl ?_
    have L20 : ∀ (fz : Nat) (i : Nat) (q : Nat × (Nat → Int)), pb im j part - i < fz → i ≤ 160 → q.1 ≤ 31 → (∀ s, ri (q.2 s)) → runS (im 3 j) (im 20 w) i (pb im j part - i) q = tellQ im j part (im 20 w) (im 5 j) → Wp M (XC G) ad Y_X6_tell (pI fun x m' => x = tellV im j part (im 20 w) ∧ ∃ k, (∀ s, ri (k s)) ∧ m' = (row im 5 j k, rs bt rt, lm)) 20 [some (vR 2 j), some (vI (part : Int)), some (vR 20 w), some (vI (q.1 : Int)), some (vI (i : Int))] [] (row im 5 j q.2, rs bt rt, lm) := by
      intro fz
      induction fz with
      | zero => intro i q h; exact absurd h (Nat.not_lt_zero _)
      | succ fz ih =>
        intro i q hmeas hi hq hr hrun
        have hq31 : q.1 ≤ 31 := hq
        refine q_iload (t := 22) F dX6_tell_20 rfl rfl ?_
        refine q_aload_n (t := 23) F dX6_tell_22 rfl rfl rfl ?_
        refine g_X6_15 (t := 26) F dX6_tell_23 rfl (by omega) rfl ?_
        refine q_iload_n (t := 27) F dX6_tell_26 rfl rfl rfl ?_
        first | refine ldN_4 (t := 28) F dX6_tell_27 (by omega) (by omega) rfl ?_ | refine ld_4 (t := 28) F dX6_tell_27 (by omega) (by omega) (by omega) rfl ?_
        try simp only [up_app, row_app, scr_app, cpy_app, Nat.reduceEqDiff, Int.reduceToNat, Int.toNat_natCast, and_true, true_and, and_false, false_and, and_self, reduceIte]
        refine q_icmp_ge (t := 31) (u := 79) F dX6_tell_28 (by first | exact hR _ _ _ | (constructor <;> omega)) (by first | exact hR _ _ _ | (constructor <;> omega)) (by decide) rfl (fun c28 => ?_) (fun c28 => ?_)
        · refine q_iconst (t := 80) F dX6_tell_79 rfl ?_
          refine q_bipush (t := 82) F dX6_tell_80 (by decide) rfl ?_
          refine q_aload_n (t := 83) F dX6_tell_82 rfl rfl rfl ?_
          refine g_X6_18 (t := 86) F dX6_tell_83 rfl (by omega) rfl ?_
          refine q_iconst (t := 87) F dX6_tell_86 rfl ?_
          refine ldN_5 (t := 88) (j := 0) F dX6_tell_87 (by omega) (by omega) rfl ?_
          try simp only [up_app, row_app, scr_app, cpy_app, Nat.reduceEqDiff, Int.reduceToNat, Int.toNat_natCast, and_true, true_and, and_false, false_and, and_self, reduceIte]
          refine wp_min (t := 91) F dX6_tell_88 ml_X6_33 st_J9_min_7cf53 in_J9 cd_J9_min_7cf53 (Nat.le_of_ble_eq_true rfl) (by decide) (by constructor <;> omega) (by first | exact hr _ | exact hR _ _ _) rfl ?_
          refine wp_max (t := 94) F dX6_tell_91 ml_X6_38 st_J9_max_7cf53 in_J9 cd_J9_max_7cf53 (Nat.le_of_ble_eq_true rfl) (by decide) (by constructor <;> omega) (by split <;> first | exact hr _ | (constructor <;> omega)) rfl ?_
          refine q_iret F dX6_tell_94 rfl ?_
          have hq0 : q = tellQ im j part (im 20 w) (im 5 j) := by
            rw [← hrun, show pb im j part - i = 0 by omega]
            rfl
          refine ⟨_, rfl, ?_, q.2, hr, rfl⟩
          rw [← hfin q hq0]
          unfold clip
          (repeat' split) <;> omega
        · refine q_aload_n (t := 32) F dX6_tell_31 rfl rfl rfl ?_
          refine g_X6_9 (t := 35) F dX6_tell_32 rfl (by omega) rfl ?_
          refine q_iload (t := 37) F dX6_tell_35 rfl rfl ?_
          first | refine ldN_3 (t := 38) F dX6_tell_37 (by omega) (by omega) rfl ?_ | refine ld_3 (t := 38) F dX6_tell_37 (by omega) (by omega) (by omega) rfl ?_
          try simp only [up_app, row_app, scr_app, cpy_app, Nat.reduceEqDiff, Int.reduceToNat, Int.toNat_natCast, and_true, true_and, and_false, false_and, and_self, reduceIte]
          refine q_bipush (t := 40) F dX6_tell_38 (by decide) rfl ?_
          refine q_icmp_le (t := 43) (u := 60) F dX6_tell_40 (by first | exact hR _ _ _ | (constructor <;> omega)) (by first | exact hR _ _ _ | (constructor <;> omega)) (by decide) rfl (fun c40 => ?_) (fun c40 => ?_)
          · refine q_aload_n (t := 61) F dX6_tell_60 rfl rfl rfl ?_
            refine q_aload_n (t := 62) F dX6_tell_61 rfl rfl rfl ?_
            refine g_X6_9 (t := 65) F dX6_tell_62 rfl (by omega) rfl ?_
            refine q_iload (t := 67) F dX6_tell_65 rfl rfl ?_
            first | refine ldN_3 (t := 68) F dX6_tell_67 (by omega) (by omega) rfl ?_ | refine ld_3 (t := 68) F dX6_tell_67 (by omega) (by omega) (by omega) rfl ?_
            try simp only [up_app, row_app, scr_app, cpy_app, Nat.reduceEqDiff, Int.reduceToNat, Int.toNat_natCast, and_true, true_and, and_false, false_and, and_self, reduceIte]
            refine q_iload_n (t := 69) F dX6_tell_68 rfl rfl rfl ?_
            refine wp_callV (t := 72) [_, _] F dX6_tell_69 k_X6_join v_X6_join ml_X6_29 rfl rfl rfl rfl (Nat.le_of_ble_eq_true rfl) (by decide) (m_2 (by omega)) (c_X6_join _ G im bt rt lm j hj q.2 hr (im 3 j i) q.1 (by omega) (hR 3 j i) hq) rfl (kI ?_)
            rintro x m' ⟨rfl, rfl⟩
            obtain ⟨QQ, hQQ⟩ : ∃ z, z = joinS (im 3 j i) q := ⟨_, rfl⟩
            rw [show joinS (im 3 j i) (q.1, q.2) = QQ from hQQ.symm]
            refine q_istore_n (t := 73) F dX6_tell_72 rfl (by decide) rfl rfl ?_
            refine q_iinc (t := 76) F dX6_tell_73 rfl (by decide) rfl rfl ?_
            refine q_goto (t := 20) F dX6_tell_76 (by decide) ?_
            have e : runS (im 3 j) (im 20 w) (i + 1) (pb im j part - (i + 1)) (stepS (im 20 w) (im 3 j i) q) = tellQ im j part (im 20 w) (im 5 j) := by
              rw [← hrun, show pb im j part - i = (pb im j part - (i + 1)) + 1 by omega]
              rfl
            have hst : stepS (im 20 w) (im 3 j i) q = QQ := by
              unfold stepS
              first | (rw [if_pos (by omega)]; exact hQQ.symm) | (rw [if_neg (by omega)]; exact hQQ.symm)
            rw [hst] at e
            exact ih (i + 1) QQ (by omega) (by omega) (by rw [← hst]; exact stepS_top hq) (by rw [← hst]; exact stepS_ri (hR 3 j i) (hR 20 w) hr) e
          · refine q_aload_n (t := 44) F dX6_tell_43 rfl rfl rfl ?_
            refine q_aload_n (t := 45) F dX6_tell_44 rfl rfl rfl ?_
            refine g_X6_9 (t := 48) F dX6_tell_45 rfl (by omega) rfl ?_
            refine q_iload (t := 50) F dX6_tell_48 rfl rfl ?_
            first | refine ldN_3 (t := 51) F dX6_tell_50 (by omega) (by omega) rfl ?_ | refine ld_3 (t := 51) F dX6_tell_50 (by omega) (by omega) (by omega) rfl ?_
            try simp only [up_app, row_app, scr_app, cpy_app, Nat.reduceEqDiff, Int.reduceToNat, Int.toNat_natCast, and_true, true_and, and_false, false_and, and_self, reduceIte]
            refine q_iload_n (t := 52) F dX6_tell_51 rfl rfl rfl ?_
            refine q_aload_n (t := 53) F dX6_tell_52 rfl rfl rfl ?_
            refine wp_callV (t := 56) [_, _, _] F dX6_tell_53 k_X6_put v_X6_put ml_X6_25 rfl rfl rfl rfl (Nat.le_of_ble_eq_true rfl) (by decide) (m_2 (by omega)) (c_X6_put20 _ G im bt rt lm j hj w hw q.2 (im 3 j i) q.1 (by omega) (hR 3 j i) hq) rfl (kI ?_)
            rintro x m' ⟨rfl, rfl⟩
            obtain ⟨QQ, hQQ⟩ : ∃ z, z = putS (im 20 w) (im 3 j i) q := ⟨_, rfl⟩
            rw [show putS (im 20 w) (im 3 j i) (q.1, q.2) = QQ from hQQ.symm]
            refine q_istore_n (t := 57) F dX6_tell_56 rfl (by decide) rfl rfl ?_
            refine q_goto (t := 73) F dX6_tell_57 (by decide) ?_
            refine q_iinc (t := 76) F dX6_tell_73 rfl (by decide) rfl rfl ?_
            refine q_goto (t := 20) F dX6_tell_76 (by decide) ?_
            have e : runS (im 3 j) (im 20 w) (i + 1) (pb im j part - (i + 1)) (stepS (im 20 w) (im 3 j i) q) = tellQ im j part (im 20 w) (im 5 j) := by
              rw [← hrun, show pb im j part - i = (pb im j part - (i + 1)) + 1 by omega]
              rfl
            have hst : stepS (im 20 w) (im 3 j i) q = QQ := by
              unfold stepS
              first | (rw [if_pos (by omega)]; exact hQQ.symm) | (rw [if_neg (by omega)]; exact hQQ.symm)
            rw [hst] at e
            exact ih (i + 1) QQ (by omega) (by omega) (by rw [← hst]; exact stepS_top hq) (by rw [← hst]; exact stepS_ri (hR 3 j i) (hR 20 w) hr) e
    first
      | (have e : im 4 j (part - 1) = ((pa im j part : Nat) : Int) := by
           have := hE.1 (part - 1) (by omega)
           unfold pa
           rw [if_neg (by omega)]
           omega
         have h160 : pa im j part ≤ 160 := by
           have := hE.1 (part - 1) (by omega)
           omega
         rw [e]
         have h := L20 _ (pa im j part) (0, im 5 j) (Nat.lt_succ_self _) h160 (by show 0 ≤ 31; omega) (hR 5 j) rfl
         rw [row_self] at h
         exact h)
      | (have e : pa im j part = 0 := by
           unfold pa
           rw [if_pos (by omega)]
         have h := L20 _ (pa im j part) (0, im 5 j) (Nat.lt_succ_self _) (by omega) (by show 0 ≤ 31; omega) (hR 5 j) rfl
         rw [row_self, e] at h
         exact h)
  · refine q_iconst (t := 7) F dX6_tell_6 rfl ?_
    refine q_goto (t := 18) F dX6_tell_7 (by decide) ?_
    refine q_istore (t := 20) F dX6_tell_18 (by decide) rfl rfl ?_
    have L20 : ∀ (fz : Nat) (i : Nat) (q : Nat × (Nat → Int)), pb im j part - i < fz → i ≤ 160 → q.1 ≤ 31 → (∀ s, ri (q.2 s)) → runS (im 3 j) (im 20 w) i (pb im j part - i) q = tellQ im j part (im 20 w) (im 5 j) → Wp M (XC G) ad Y_X6_tell (pI fun x m' => x = tellV im j part (im 20 w) ∧ ∃ k, (∀ s, ri (k s)) ∧ m' = (row im 5 j k, rs bt rt, lm)) 20 [some (vR 2 j), some (vI (part : Int)), some (vR 20 w), some (vI (q.1 : Int)), some (vI (i : Int))] [] (row im 5 j q.2, rs bt rt, lm) := by
      intro fz
      induction fz with
      | zero => intro i q h; exact absurd h (Nat.not_lt_zero _)
      | succ fz ih =>
        intro i q hmeas hi hq hr hrun
        have hq31 : q.1 ≤ 31 := hq
        refine q_iload (t := 22) F dX6_tell_20 rfl rfl ?_
        refine q_aload_n (t := 23) F dX6_tell_22 rfl rfl rfl ?_
        refine g_X6_15 (t := 26) F dX6_tell_23 rfl (by omega) rfl ?_
        refine q_iload_n (t := 27) F dX6_tell_26 rfl rfl rfl ?_
        first | refine ldN_4 (t := 28) F dX6_tell_27 (by omega) (by omega) rfl ?_ | refine ld_4 (t := 28) F dX6_tell_27 (by omega) (by omega) (by omega) rfl ?_
        try simp only [up_app, row_app, scr_app, cpy_app, Nat.reduceEqDiff, Int.reduceToNat, Int.toNat_natCast, and_true, true_and, and_false, false_and, and_self, reduceIte]
        refine q_icmp_ge (t := 31) (u := 79) F dX6_tell_28 (by first | exact hR _ _ _ | (constructor <;> omega)) (by first | exact hR _ _ _ | (constructor <;> omega)) (by decide) rfl (fun c28 => ?_) (fun c28 => ?_)
        · refine q_iconst (t := 80) F dX6_tell_79 rfl ?_
          refine q_bipush (t := 82) F dX6_tell_80 (by decide) rfl ?_
          refine q_aload_n (t := 83) F dX6_tell_82 rfl rfl rfl ?_
          refine g_X6_18 (t := 86) F dX6_tell_83 rfl (by omega) rfl ?_
          refine q_iconst (t := 87) F dX6_tell_86 rfl ?_
          refine ldN_5 (t := 88) (j := 0) F dX6_tell_87 (by omega) (by omega) rfl ?_
          try simp only [up_app, row_app, scr_app, cpy_app, Nat.reduceEqDiff, Int.reduceToNat, Int.toNat_natCast, and_true, true_and, and_false, false_and, and_self, reduceIte]
          refine wp_min (t := 91) F dX6_tell_88 ml_X6_33 st_J9_min_7cf53 in_J9 cd_J9_min_7cf53 (Nat.le_of_ble_eq_true rfl) (by decide) (by constructor <;> omega) (by first | exact hr _ | exact hR _ _ _) rfl ?_
          refine wp_max (t := 94) F dX6_tell_91 ml_X6_38 st_J9_max_7cf53 in_J9 cd_J9_max_7cf53 (Nat.le_of_ble_eq_true rfl) (by decide) (by constructor <;> omega) (by split <;> first | exact hr _ | (constructor <;> omega)) rfl ?_
          refine q_iret F dX6_tell_94 rfl ?_
          have hq0 : q = tellQ im j part (im 20 w) (im 5 j) := by
            rw [← hrun, show pb im j part - i = 0 by omega]
            rfl
          refine ⟨_, rfl, ?_, q.2, hr, rfl⟩
          rw [← hfin q hq0]
          unfold clip
          (repeat' split) <;> omega
        · refine q_aload_n (t := 32) F dX6_tell_31 rfl rfl rfl ?_
          refine g_X6_9 (t := 35) F dX6_tell_32 rfl (by omega) rfl ?_
          refine q_iload (t := 37) F dX6_tell_35 rfl rfl ?_
          first | refine ldN_3 (t := 38) F dX6_tell_37 (by omega) (by omega) rfl ?_ | refine ld_3 (t := 38) F dX6_tell_37 (by omega) (by omega) (by omega) rfl ?_
          try simp only [up_app, row_app, scr_app, cpy_app, Nat.reduceEqDiff, Int.reduceToNat, Int.toNat_natCast, and_true, true_and, and_false, false_and, and_self, reduceIte]
          refine q_bipush (t := 40) F dX6_tell_38 (by decide) rfl ?_
          refine q_icmp_le (t := 43) (u := 60) F dX6_tell_40 (by first | exact hR _ _ _ | (constructor <;> omega)) (by first | exact hR _ _ _ | (constructor <;> omega)) (by decide) rfl (fun c40 => ?_) (fun c40 => ?_)
          · refine q_aload_n (t := 61) F dX6_tell_60 rfl rfl rfl ?_
            refine q_aload_n (t := 62) F dX6_tell_61 rfl rfl rfl ?_
            refine g_X6_9 (t := 65) F dX6_tell_62 rfl (by omega) rfl ?_
            refine q_iload (t := 67) F dX6_tell_65 rfl rfl ?_
            first | refine ldN_3 (t := 68) F dX6_tell_67 (by omega) (by omega) rfl ?_ | refine ld_3 (t := 68) F dX6_tell_67 (by omega) (by omega) (by omega) rfl ?_
            try simp only [up_app, row_app, scr_app, cpy_app, Nat.reduceEqDiff, Int.reduceToNat, Int.toNat_natCast, and_true, true_and, and_false, false_and, and_self, reduceIte]
            refine q_iload_n (t := 69) F dX6_tell_68 rfl rfl rfl ?_
            refine wp_callV (t := 72) [_, _] F dX6_tell_69 k_X6_join v_X6_join ml_X6_29 rfl rfl rfl rfl (Nat.le_of_ble_eq_true rfl) (by decide) (m_2 (by omega)) (c_X6_join _ G im bt rt lm j hj q.2 hr (im 3 j i) q.1 (by omega) (hR 3 j i) hq) rfl (kI ?_)
            rintro x m' ⟨rfl, rfl⟩
            obtain ⟨QQ, hQQ⟩ : ∃ z, z = joinS (im 3 j i) q := ⟨_, rfl⟩
            rw [show joinS (im 3 j i) (q.1, q.2) = QQ from hQQ.symm]
            refine q_istore_n (t := 73) F dX6_tell_72 rfl (by decide) rfl rfl ?_
            refine q_iinc (t := 76) F dX6_tell_73 rfl (by decide) rfl rfl ?_
            refine q_goto (t := 20) F dX6_tell_76 (by decide) ?_
            have e : runS (im 3 j) (im 20 w) (i + 1) (pb im j part - (i + 1)) (stepS (im 20 w) (im 3 j i) q) = tellQ im j part (im 20 w) (im 5 j) := by
              rw [← hrun, show pb im j part - i = (pb im j part - (i + 1)) + 1 by omega]
              rfl
            have hst : stepS (im 20 w) (im 3 j i) q = QQ := by
              unfold stepS
              first | (rw [if_pos (by omega)]; exact hQQ.symm) | (rw [if_neg (by omega)]; exact hQQ.symm)
            rw [hst] at e
            exact ih (i + 1) QQ (by omega) (by omega) (by rw [← hst]; exact stepS_top hq) (by rw [← hst]; exact stepS_ri (hR 3 j i) (hR 20 w) hr) e
          · refine q_aload_n (t := 44) F dX6_tell_43 rfl rfl rfl ?_
            refine q_aload_n (t := 45) F dX6_tell_44 rfl rfl rfl ?_
            refine g_X6_9 (t := 48) F dX6_tell_45 rfl (by omega) rfl ?_
            refine q_iload (t := 50) F dX6_tell_48 rfl rfl ?_
            first | refine ldN_3 (t := 51) F dX6_tell_50 (by omega) (by omega) rfl ?_ | refine ld_3 (t := 51) F dX6_tell_50 (by omega) (by omega) (by omega) rfl ?_
            try simp only [up_app, row_app, scr_app, cpy_app, Nat.reduceEqDiff, Int.reduceToNat, Int.toNat_natCast, and_true, true_and, and_false, false_and, and_self, reduceIte]
            refine q_iload_n (t := 52) F dX6_tell_51 rfl rfl rfl ?_
            refine q_aload_n (t := 53) F dX6_tell_52 rfl rfl rfl ?_
            refine wp_callV (t := 56) [_, _, _] F dX6_tell_53 k_X6_put v_X6_put ml_X6_25 rfl rfl rfl rfl (Nat.le_of_ble_eq_true rfl) (by decide) (m_2 (by omega)) (c_X6_put20 _ G im bt rt lm j hj w hw q.2 (im 3 j i) q.1 (by omega) (hR 3 j i) hq) rfl (kI ?_)
            rintro x m' ⟨rfl, rfl⟩
            obtain ⟨QQ, hQQ⟩ : ∃ z, z = putS (im 20 w) (im 3 j i) q := ⟨_, rfl⟩
            rw [show putS (im 20 w) (im 3 j i) (q.1, q.2) = QQ from hQQ.symm]
            refine q_istore_n (t := 57) F dX6_tell_56 rfl (by decide) rfl rfl ?_
            refine q_goto (t := 73) F dX6_tell_57 (by decide) ?_
            refine q_iinc (t := 76) F dX6_tell_73 rfl (by decide) rfl rfl ?_
            refine q_goto (t := 20) F dX6_tell_76 (by decide) ?_
            have e : runS (im 3 j) (im 20 w) (i + 1) (pb im j part - (i + 1)) (stepS (im 20 w) (im 3 j i) q) = tellQ im j part (im 20 w) (im 5 j) := by
              rw [← hrun, show pb im j part - i = (pb im j part - (i + 1)) + 1 by omega]
              rfl
            have hst : stepS (im 20 w) (im 3 j i) q = QQ := by
              unfold stepS
              first | (rw [if_pos (by omega)]; exact hQQ.symm) | (rw [if_neg (by omega)]; exact hQQ.symm)
            rw [hst] at e
            exact ih (i + 1) QQ (by omega) (by omega) (by rw [← hst]; exact stepS_top hq) (by rw [← hst]; exact stepS_ri (hR 3 j i) (hR 20 w) hr) e
    first
      | (have e : im 4 j (part - 1) = ((pa im j part : Nat) : Int) := by
           have := hE.1 (part - 1) (by omega)
           unfold pa
           rw [if_neg (by omega)]
           omega
         have h160 : pa im j part ≤ 160 := by
           have := hE.1 (part - 1) (by omega)
           omega
         rw [e]
         have h := L20 _ (pa im j part) (0, im 5 j) (Nat.lt_succ_self _) h160 (by show 0 ≤ 31; omega) (hR 5 j) rfl
         rw [row_self] at h
         exact h)
      | (have e : pa im j part = 0 := by
           unfold pa
           rw [if_pos (by omega)]
         have h := L20 _ (pa im j part) (0, im 5 j) (Nat.lt_succ_self _) (by omega) (by show 0 ≤ 31; omega) (hR 5 j) rfl
         rw [row_self, e] at h
         exact h)

/-! Bite -/
theorem holdsB_scr (im : IM) (a b : Int) (g : Nat → Nat → Int) (j : Nat) (x y : Int) : holdsB (scr im a b g) j x y = holdsB im j x y := by
  have e : nmB (scr im a b g) x y = nmB im x y := by
    funext s
    simp only [nmB, scr_app, Nat.reduceEqDiff, if_false, true_and]
    repeat' split
    all_goals first | rfl | (exfalso; omega)
  unfold holdsB
  rw [e]
  rw [show tellV (scr im a b g) j 1 (nmB im x y) = tellV im j 1 (nmB im x y) from tellV_congr (fun s => rfl) (fun s => rfl)]
  rfl
theorem bearsB_scr (im : IM) (a b : Int) (g : Nat → Nat → Int) (j : Nat) (x y : Int) : bearsB (scr im a b g) j x y = bearsB im j x y := by
  have e : ∀ x y, nmB (scr im a b g) x y = nmB im x y := by
    intro x y
    funext s
    simp only [nmB, scr_app, Nat.reduceEqDiff, if_false, true_and]
    repeat' split
    all_goals first | rfl | (exfalso; omega)
  unfold bearsB
  rw [e]
  rw [show ∀ nm, tellV (scr im a b g) j 2 nm = tellV im j 2 nm from fun nm => tellV_congr (fun s => rfl) (fun s => rfl)]
  rfl
theorem goodT_scr {im : IM} {a b : Int} {g : Nat → Nat → Int} {j : Nat} (h : goodT im j) : goodT (scr im a b g) j := goodT_congr (fun s => rfl) (fun s => rfl) h
/-- behind a look at a text: what is garbage -/
def garb (im : IM) (bt rt : Nat) (lm : IM) (m' : Mem) : Prop := ∃ a b g, ri a ∧ ri b ∧ (∀ i s, ri (g i s)) ∧ m' = (scr im a b g, rs bt rt, lm)
theorem garb_self {im : IM} {bt rt : Nat} {lm : IM} (hR : RI im) : garb im bt rt lm (im, rs bt rt, lm) := ⟨_, _, _, hR 17 0 2, hR 17 0 5, hR 5, by rw [scr_self]⟩
theorem scr_of (im : IM) (j : Nat) (x y : Int) (k : Nat → Int) : row (up (up im 17 0 5 x) 17 0 2 y) 5 j k = scr im y x (fun i s => if i = j then k s else im 5 i s) := by
  funext k' i' s'
  simp only [row_app, up_app, scr_app]
  repeat' split
  all_goals first | rfl | (exfalso; omega) | (rename_i h1 h2; subst h2; rfl) | (simp_all; done)
theorem nmB_of (im : IM) (x y : Int) : up (up im 17 0 5 x) 17 0 2 y 17 0 = nmB im x y := by
  funext s
  simp only [up_app, nmB, true_and, Nat.reduceEqDiff]

set_option maxHeartbeats 4000000 in
theorem c_X0_holds (l : Launch) (G : GS) (im : IM) (bt rt : Nat) (lm : IM) (stuck now : Int) (hs : ri stuck) (hn : ri now) (hj : bt < 6) (hR : RI im) (hT : goodT im bt) (k0 : 0 ≤ im 16 0 2) (k1 : im 16 0 2 < 6) (n0 : 0 ≤ im 17 0 3) (n1 : im 17 0 3 < 10) : Cn l (XC G) yX0_holds Y_X0_holds [vR 16 0, vI stuck, vI now] (im, rs bt rt, lm) (pI fun x m' => x = holdsB im bt stuck now ∧ garb im bt rt lm m') := by
  refine cn_of (by decide) (okC G) rfl (Nat.le_of_ble_eq_true rfl) ?_
  intro M ad hMl F
  subst hMl
  refine wp_pad 0 ?_
  show Wp M (XC G) ad Y_X0_holds (pI fun x m' => x = holdsB im bt stuck now ∧ garb im bt rt lm m') 0 [some (vR 16 0), some (vI stuck), some (vI now)] [] (im, rs bt rt, lm)
  refine q_aload_n (t := 1) F dX0_holds_0 rfl rfl rfl ?_
  refine g_X0_9 (t := 4) F dX0_holds_1 rfl rfl ?_
  refine q_iconst (t := 5) F dX0_holds_4 rfl ?_
  refine q_iload_n (t := 6) F dX0_holds_5 rfl rfl rfl ?_
  refine stN_17 (t := 7) (j := 5) F dX0_holds_6 (by omega) rfl ?_
  refine q_aload_n (t := 8) F dX0_holds_7 rfl rfl rfl ?_
  refine g_X0_9 (t := 11) F dX0_holds_8 rfl rfl ?_
  refine q_iconst (t := 12) F dX0_holds_11 rfl ?_
  refine q_iload_n (t := 13) F dX0_holds_12 rfl rfl rfl ?_
  refine stN_17 (t := 14) (j := 2) F dX0_holds_13 (by omega) rfl ?_
  refine q_aload_n (t := 15) F dX0_holds_14 rfl rfl rfl ?_
  refine g_X0_38 (t := 18) F dX0_holds_15 rfl rfl ?_
  try simp only [up_app, row_app, scr_app, cpy_app, Nat.reduceEqDiff, Int.reduceToNat, Int.toNat_natCast, and_true, true_and, and_false, false_and, and_self, reduceIte]
  refine q_aload_n (t := 19) F dX0_holds_18 rfl rfl rfl ?_
  refine g_X0_9 (t := 22) F dX0_holds_19 rfl rfl ?_
  refine q_iconst (t := 23) F dX0_holds_22 rfl ?_
  refine ldN_17 (t := 24) (j := 3) F dX0_holds_23 (by omega) rfl ?_
  try simp only [up_app, row_app, scr_app, cpy_app, Nat.reduceEqDiff, Int.reduceToNat, Int.toNat_natCast, and_true, true_and, and_false, false_and, and_self, reduceIte]
  refine q_aload_n (t := 25) F dX0_holds_24 rfl rfl rfl ?_
  refine g_X0_15 (t := 28) F dX0_holds_25 rfl rfl ?_
  refine q_iconst (t := 29) F dX0_holds_28 rfl ?_
  refine q_aload_n (t := 30) F dX0_holds_29 rfl rfl rfl ?_
  refine g_X0_9 (t := 33) F dX0_holds_30 rfl rfl ?_
  refine wp_callV (t := 36) [_, _] F dX0_holds_33 k_X6_tell v_X6_tell ml_X0_54 rfl rfl rfl rfl (Nat.le_of_ble_eq_true rfl) (by decide) (m_2 (by omega)) (c_X6_tell17 _ G (up (up im 17 0 5 stuck) 17 0 2 now) bt rt lm bt hj 1 (by omega) (RI_up (RI_up hR hs) hn) (goodT_congr (fun s => rfl) (fun s => rfl) hT)) rfl (kI ?_)
  rintro v m' ⟨hv, kk, hkk, rfl⟩
  have hv2 := tellV_in (up (up im 17 0 5 stuck) 17 0 2 now) bt 1 (up (up im 17 0 5 stuck) 17 0 2 now 17 0)
  rw [← hv] at hv2
  refine wp_callS (t := 39) [_, _, _] F dX0_holds_36 k_X2_holds st_X2_holds ml_X0_60 rfl rfl (Nat.le_of_ble_eq_true rfl) (by decide) (c_X2_holds _ G _ bt rt lm (im 16 0 2) (im 17 0 3) v k0 k1 n0 n1 hv2.1 hv2.2) rfl (kI ?_)
  rintro x m' ⟨rfl, rfl⟩
  refine q_iret F dX0_holds_39 rfl ?_
  refine ⟨_, rfl, ?_, now, stuck, _, hn, hs, ?_, by rw [scr_of]⟩
  · unfold holdsB
    rw [hv, nmB_of]
    rw [show tellV (up (up im 17 0 5 stuck) 17 0 2 now) bt 1 (nmB im stuck now) = tellV im bt 1 (nmB im stuck now) from tellV_congr (fun s => rfl) (fun s => rfl)]
  · intro i s
    split
    · exact hkk s
    · exact hR _ _ _

theorem holdsB_in {im : IM} {j : Nat} {x y : Int} (n0 : 0 ≤ im 17 0 3) (n1 : im 17 0 3 < 10) : 1 ≤ holdsB im j x y ∧ holdsB im j x y ≤ 108 := holdsK_in n0 n1 (tellV_in _ _ _ _).1 (tellV_in _ _ _ _).2
theorem findF_s (P : Nat → Bool) (i n : Nat) : findF P i (n + 1) = if P i = true then (i : Int) else findF P (i + 1) n := rfl
theorem findF_in (P : Nat → Bool) (n : Nat) : ∀ i, findF P i n = -1 ∨ (i : Int) ≤ findF P i n ∧ findF P i n < i + n := by
  induction n with
  | zero => intro i; exact Or.inl rfl
  | succ n ih =>
    intro i
    rw [findF_s]
    split
    · right; omega
    · have := ih (i + 1)
      omega
theorem goesB_in (im : IM) (j n : Nat) : goesB im j n = -1 ∨ 0 ≤ goesB im j n ∧ goesB im j n < n := by
  unfold goesB
  split
  · exact Or.inl rfl
  · have := findF_in (offB im j) n 0
    omega

set_option maxHeartbeats 4000000 in
theorem c_X0_goesOffIn (l : Launch) (G : GS) (im : IM) (bt rt : Nat) (lm : IM) (n : Nat) (hn : n ≤ 60) (hj : bt < 6) (hR : RI im) (hT : goodT im bt) (k0 : 0 ≤ im 16 0 2) (k1 : im 16 0 2 < 6) (n0 : 0 ≤ im 17 0 3) (n1 : im 17 0 3 < 10) (a0 : im 17 0 0 ≠ -1 → 0 ≤ im 16 0 3 ∧ im 16 0 3 ≤ 3000) (h0 : 0 ≤ im 16 0 4) (h1 : im 16 0 4 ≤ 3000) : Cn l (XC G) yX0_goesOffIn Y_X0_goesOffIn [vR 16 0, vI (n : Int)] (im, rs bt rt, lm) (pI fun x m' => x = goesB im bt n ∧ garb im bt rt lm m') := by
  refine cn_of (by decide) (okC G) rfl (Nat.le_of_ble_eq_true rfl) ?_
  intro M ad hMl F
  subst hMl
  refine wp_pad 1 ?_
  show Wp M (XC G) ad Y_X0_goesOffIn (pI fun x m' => x = goesB im bt n ∧ garb im bt rt lm m') 0 [some (vR 16 0), some (vI (n : Int)), none] [] (im, rs bt rt, lm)
  refine q_aload_n (t := 1) F dX0_goesOffIn_0 rfl rfl rfl ?_
  refine g_X0_9 (t := 4) F dX0_goesOffIn_1 rfl rfl ?_
  refine q_iconst (t := 5) F dX0_goesOffIn_4 rfl ?_
  refine ldN_17 (t := 6) (j := 0) F dX0_goesOffIn_5 (by omega) rfl ?_
  refine q_iconst (t := 7) F dX0_goesOffIn_6 rfl ?_
  refine q_icmp_ne (t := 10) (u := 12) F dX0_goesOffIn_7 (by first | exact hR _ _ _ | (constructor <;> omega)) (by first | exact hR _ _ _ | (constructor <;> omega)) (by decide) rfl (fun c7 => ?_) (fun c7 => ?_)
  · refine q_iconst (t := 13) F dX0_goesOffIn_12 rfl ?_
    refine q_istore_n (t := 14) F dX0_goesOffIn_13 rfl (by decide) rfl rfl ?_
    have L14 : ∀ (fz : Nat) (i : Nat) (a b : Int) (g : Nat → Nat → Int), n - i < fz → i ≤ n → ri a → ri b → (∀ i s, ri (g i s)) → findF (offB im bt) i (n - i) = goesB im bt n → Wp M (XC G) ad Y_X0_goesOffIn (pI fun x m' => x = goesB im bt n ∧ garb im bt rt lm m') 14 [some (vR 16 0), some (vI (n : Int)), some (vI (i : Int))] [] (scr im a b g, rs bt rt, lm) := by
      intro fz
      induction fz with
      | zero => intro i a b g h; exact absurd h (Nat.not_lt_zero _)
      | succ fz ih =>
        intro i a b g hmeas hi ha hb hg hf
        have ag := a0 c7
        have hh := holdsB_in (im := im) (j := bt) (x := im 16 0 3 + i + 1) (y := im 16 0 4 + i) n0 n1
        refine q_iload_n (t := 15) F dX0_goesOffIn_14 rfl rfl rfl ?_
        refine q_iload_n (t := 16) F dX0_goesOffIn_15 rfl rfl rfl ?_
        refine q_icmp_ge (t := 19) (u := 56) F dX0_goesOffIn_16 (by first | exact hR _ _ _ | (constructor <;> omega)) (by first | exact hR _ _ _ | (constructor <;> omega)) (by decide) rfl (fun c16 => ?_) (fun c16 => ?_)
        · refine q_iconst (t := 57) F dX0_goesOffIn_56 rfl ?_
          refine q_iret F dX0_goesOffIn_57 rfl ?_
          refine ⟨_, rfl, ?_, a, b, g, ha, hb, hg, rfl⟩
          rw [← hf, show n - i = 0 by omega]
          rfl
        · refine q_aload_n (t := 20) F dX0_goesOffIn_19 rfl rfl rfl ?_
          refine g_X0_42 (t := 23) F dX0_goesOffIn_20 rfl rfl ?_
          try simp only [up_app, row_app, scr_app, cpy_app, Nat.reduceEqDiff, Int.reduceToNat, Int.toNat_natCast, and_true, true_and, and_false, false_and, and_self, reduceIte]
          refine q_iload_n (t := 24) F dX0_goesOffIn_23 rfl rfl rfl ?_
          refine q_iadd (t := 25) F dX0_goesOffIn_24 rfl ?_
          refine q_iconst (t := 26) F dX0_goesOffIn_25 rfl ?_
          refine q_iadd (t := 27) F dX0_goesOffIn_26 rfl ?_
          refine q_aload_n (t := 28) F dX0_goesOffIn_27 rfl rfl rfl ?_
          refine q_aload_n (t := 29) F dX0_goesOffIn_28 rfl rfl rfl ?_
          refine g_X0_42 (t := 32) F dX0_goesOffIn_29 rfl rfl ?_
          try simp only [up_app, row_app, scr_app, cpy_app, Nat.reduceEqDiff, Int.reduceToNat, Int.toNat_natCast, and_true, true_and, and_false, false_and, and_self, reduceIte]
          refine q_iload_n (t := 33) F dX0_goesOffIn_32 rfl rfl rfl ?_
          refine q_iadd (t := 34) F dX0_goesOffIn_33 rfl ?_
          refine q_iconst (t := 35) F dX0_goesOffIn_34 rfl ?_
          refine q_iadd (t := 36) F dX0_goesOffIn_35 rfl ?_
          refine q_aload_n (t := 37) F dX0_goesOffIn_36 rfl rfl rfl ?_
          refine g_X0_47 (t := 40) F dX0_goesOffIn_37 rfl rfl ?_
          try simp only [up_app, row_app, scr_app, cpy_app, Nat.reduceEqDiff, Int.reduceToNat, Int.toNat_natCast, and_true, true_and, and_false, false_and, and_self, reduceIte]
          refine q_iload_n (t := 41) F dX0_goesOffIn_40 rfl rfl rfl ?_
          refine q_iadd (t := 42) F dX0_goesOffIn_41 rfl ?_
          refine wp_callV (t := 45) [_, _] F dX0_goesOffIn_42 k_X0_holds v_X0_holds ml_X0_66 rfl rfl rfl rfl (Nat.le_of_ble_eq_true rfl) (by decide) (m_16 (by omega)) (c_X0_holds _ G (scr im a b g) bt rt lm (im 16 0 3 + i + 1) (im 16 0 4 + i) (by constructor <;> omega) (by constructor <;> omega) hj (RI_scr hR ha hb hg) (goodT_scr hT) k0 k1 n0 n1) rfl (kI ?_)
          rintro x m' ⟨hx, a2, b2, g2, ha2, hb2, hg2, rfl⟩
          rw [holdsB_scr] at hx
          subst hx
          rw [scr_scr]
          refine q_icmp_lt (t := 48) (u := 50) F dX0_goesOffIn_45 (by first | exact hR _ _ _ | (constructor <;> omega)) (by first | exact hR _ _ _ | (constructor <;> omega)) (by decide) rfl (fun c45 => ?_) (fun c45 => ?_)
          · refine q_iinc (t := 53) F dX0_goesOffIn_50 rfl (by decide) rfl rfl ?_
            refine q_goto (t := 14) F dX0_goesOffIn_53 (by decide) ?_
            refine ih (i + 1) _ _ _ (by omega) (by omega) ha2 hb2 hg2 ?_
            rw [← hf, show n - i = (n - (i + 1)) + 1 by omega, findF_s, if_neg]
            intro hc
            have := of_decide_eq_true hc
            omega
          · refine q_iload_n (t := 49) F dX0_goesOffIn_48 rfl rfl rfl ?_
            refine q_iret F dX0_goesOffIn_49 rfl ?_
            refine ⟨_, rfl, ?_, a2, b2, g2, ha2, hb2, hg2, rfl⟩
            rw [← hf, show n - i = (n - (i + 1)) + 1 by omega, findF_s, if_pos]
            exact decide_eq_true (by omega)
    have h := L14 _ 0 (im 17 0 2) (im 17 0 5) (im 5) (Nat.lt_succ_self _) (by omega) (hR _ _ _) (hR _ _ _) (hR 5) (by unfold goesB; rw [if_neg c7]; rfl)
    rw [scr_self] at h
    exact h
  · refine q_iconst (t := 11) F dX0_goesOffIn_10 rfl ?_
    refine q_iret F dX0_goesOffIn_11 rfl ?_
    exact ⟨_, rfl, by unfold goesB; rw [if_pos c7], garb_self hR⟩

set_option maxHeartbeats 4000000 in
theorem c_X0_bears (l : Launch) (G : GS) (im : IM) (bt rt : Nat) (lm : IM) (later c : Int) (l0 : 0 ≤ later) (l1 : later ≤ 60) (c0 : 0 ≤ c) (c1 : c ≤ 1) (hj : bt < 6) (hR : RI im) (hT : goodT im bt) (k0 : 0 ≤ im 16 0 2) (k1 : im 16 0 2 < 6) (n0 : 0 ≤ im 17 0 3) (n1 : im 17 0 3 < 10) (a0 : 0 ≤ im 16 0 3 ∧ im 16 0 3 ≤ 3000) (h0 : 0 ≤ im 16 0 4) (h1 : im 16 0 4 ≤ 3000) : Cn l (XC G) yX0_bears Y_X0_bears [vR 16 0, vI later, vI c] (im, rs bt rt, lm) (pI fun x m' => x = bearsB im bt later c ∧ garb im bt rt lm m') := by
  refine cn_of (by decide) (okC G) rfl (Nat.le_of_ble_eq_true rfl) ?_
  intro M ad hMl F
  subst hMl
  refine wp_pad 0 ?_
  show Wp M (XC G) ad Y_X0_bears (pI fun x m' => x = bearsB im bt later c ∧ garb im bt rt lm m') 0 [some (vR 16 0), some (vI later), some (vI c)] [] (im, rs bt rt, lm)
  refine q_aload_n (t := 1) F dX0_bears_0 rfl rfl rfl ?_
  refine g_X0_9 (t := 4) F dX0_bears_1 rfl rfl ?_
  refine q_iconst (t := 5) F dX0_bears_4 rfl ?_
  refine q_aload_n (t := 6) F dX0_bears_5 rfl rfl rfl ?_
  refine g_X0_42 (t := 9) F dX0_bears_6 rfl rfl ?_
  refine q_iload_n (t := 10) F dX0_bears_9 rfl rfl rfl ?_
  refine q_iadd (t := 11) F dX0_bears_10 rfl ?_
  refine q_iconst (t := 12) F dX0_bears_11 rfl ?_
  refine q_iadd (t := 13) F dX0_bears_12 rfl ?_
  refine stN_17 (t := 14) (j := 5) F dX0_bears_13 (by omega) rfl ?_
  refine q_aload_n (t := 15) F dX0_bears_14 rfl rfl rfl ?_
  refine g_X0_9 (t := 18) F dX0_bears_15 rfl rfl ?_
  refine q_iconst (t := 19) F dX0_bears_18 rfl ?_
  refine q_aload_n (t := 20) F dX0_bears_19 rfl rfl rfl ?_
  refine g_X0_47 (t := 23) F dX0_bears_20 rfl rfl ?_
  try simp only [up_app, row_app, scr_app, cpy_app, Nat.reduceEqDiff, Int.reduceToNat, Int.toNat_natCast, and_true, true_and, and_false, false_and, and_self, reduceIte]
  refine q_iload_n (t := 24) F dX0_bears_23 rfl rfl rfl ?_
  refine q_iadd (t := 25) F dX0_bears_24 rfl ?_
  refine stN_17 (t := 26) (j := 2) F dX0_bears_25 (by omega) rfl ?_
  refine q_aload_n (t := 27) F dX0_bears_26 rfl rfl rfl ?_
  refine g_X0_38 (t := 30) F dX0_bears_27 rfl rfl ?_
  try simp only [up_app, row_app, scr_app, cpy_app, Nat.reduceEqDiff, Int.reduceToNat, Int.toNat_natCast, and_true, true_and, and_false, false_and, and_self, reduceIte]
  refine q_aload_n (t := 31) F dX0_bears_30 rfl rfl rfl ?_
  refine g_X0_9 (t := 34) F dX0_bears_31 rfl rfl ?_
  refine q_iconst (t := 35) F dX0_bears_34 rfl ?_
  refine ldN_17 (t := 36) (j := 3) F dX0_bears_35 (by omega) rfl ?_
  try simp only [up_app, row_app, scr_app, cpy_app, Nat.reduceEqDiff, Int.reduceToNat, Int.toNat_natCast, and_true, true_and, and_false, false_and, and_self, reduceIte]
  refine q_aload_n (t := 37) F dX0_bears_36 rfl rfl rfl ?_
  refine g_X0_15 (t := 40) F dX0_bears_37 rfl rfl ?_
  refine q_iconst (t := 41) F dX0_bears_40 rfl ?_
  refine q_aload_n (t := 42) F dX0_bears_41 rfl rfl rfl ?_
  refine g_X0_9 (t := 45) F dX0_bears_42 rfl rfl ?_
  refine wp_callV (t := 48) [_, _] F dX0_bears_45 k_X6_tell v_X6_tell ml_X0_54 rfl rfl rfl rfl (Nat.le_of_ble_eq_true rfl) (by decide) (m_2 (by omega)) (c_X6_tell17 _ G (up (up im 17 0 5 (im 16 0 3 + later + 1)) 17 0 2 (im 16 0 4 + later)) bt rt lm bt hj 2 (by omega) (RI_up (RI_up hR (by constructor <;> omega)) (by constructor <;> omega)) (goodT_congr (fun s => rfl) (fun s => rfl) hT)) rfl (kI ?_)
  rintro v m' ⟨hv, kk, hkk, rfl⟩
  have hv2 := tellV_in (up (up im 17 0 5 (im 16 0 3 + later + 1)) 17 0 2 (im 16 0 4 + later)) bt 2 (up (up im 17 0 5 (im 16 0 3 + later + 1)) 17 0 2 (im 16 0 4 + later) 17 0)
  rw [← hv] at hv2
  refine q_iload_n (t := 49) F dX0_bears_48 rfl rfl rfl ?_
  refine wp_callS (t := 52) [_, _, _, _] F dX0_bears_49 k_X2_bears st_X2_bears ml_X0_69 rfl rfl (Nat.le_of_ble_eq_true rfl) (by decide) (c_X2_bears _ G _ bt rt lm (im 16 0 2) (im 17 0 3) v c k0 k1 n0 n1 hv2.1 hv2.2 c0 c1) rfl (kI ?_)
  rintro x m' ⟨rfl, rfl⟩
  refine q_iret F dX0_bears_52 rfl ?_
  refine ⟨_, rfl, ?_, im 16 0 4 + later, im 16 0 3 + later + 1, _, (by constructor <;> omega), (by constructor <;> omega), ?_, by rw [scr_of]⟩
  · unfold bearsB
    rw [hv, nmB_of]
    rw [show ∀ nm, tellV (up (up im 17 0 5 (im 16 0 3 + later + 1)) 17 0 2 (im 16 0 4 + later)) bt 2 nm = tellV im bt 2 nm from fun nm => tellV_congr (fun s => rfl) (fun s => rfl)]
  · intro i s
    split
    · exact hkk s
    · exact hR _ _ _

/-- Bite.look -/
def lookM (im : IM) (w p g : Nat) : IM := up (up (up (up (up (up (up im 16 0 2 (im 21 (5 * w + p) 0)) 16 0 3 (im 23 (5 * w + p) g)) 16 0 4 (im 18 w 4)) 17 0 0 (im 22 (5 * w + p) g)) 17 0 1 0) 17 0 3 (im 21 (5 * w + p) 1)) 17 0 4 (g : Int)
theorem RI_look {im : IM} {w p g : Nat} (h : RI im) (hg : g < 10) : RI (lookM im w p g) := by
  unfold lookM
  refine RI_up (RI_up (RI_up (RI_up (RI_up (RI_up (RI_up h ?_) ?_) ?_) ?_) ?_) ?_) ?_
  all_goals first | exact h _ _ _ | (constructor <;> omega)

set_option maxHeartbeats 4000000 in
theorem c_X0_look (l : Launch) (G : GS) (im : IM) (bt rt : Nat) (lm : IM) (w man gap : Nat) (hw : w < 3) (hm : man < 5) (hg : gap < 10) (r0 : 0 ≤ im 18 w 7) (r1 : im 18 w 7 < 6) : Cn l (XC G) yX0_look Y_X0_look [vR 16 0, vR 18 w, vI (man : Int), vI (gap : Int)] (im, rs bt rt, lm) (pV fun m' => m' = (lookM im w man gap, rs (im 18 w 7).toNat rt, lm)) := by
  refine cn_of (by decide) (okC G) rfl (Nat.le_of_ble_eq_true rfl) ?_
  intro M ad hMl F
  subst hMl
  refine wp_pad 1 ?_
  show Wp M (XC G) ad Y_X0_look (pV fun m' => m' = (lookM im w man gap, rs (im 18 w 7).toNat rt, lm)) 0 [some (vR 16 0), some (vR 18 w), some (vI (man : Int)), some (vI (gap : Int)), none] [] (im, rs bt rt, lm)
  refine q_aload_n (t := 1) F dX0_look_0 rfl rfl rfl ?_
  refine g_X0_19 (t := 4) F dX0_look_1 rfl (by omega) rfl ?_
  refine q_iload_n (t := 5) F dX0_look_4 rfl rfl rfl ?_
  first | refine laN_19 (t := 6) F dX0_look_5 (by omega) (by omega) rfl ?_ | refine la_19 (t := 6) F dX0_look_5 (by omega) (by omega) (by omega) rfl ?_
  refine q_astore (t := 8) F dX0_look_6 (by decide) rfl rfl ?_
  refine q_aload_n (t := 9) F dX0_look_8 rfl rfl rfl ?_
  refine q_aload_n (t := 10) F dX0_look_9 rfl rfl rfl ?_
  refine g_X0_25 (t := 13) F dX0_look_10 rfl (by omega) rfl ?_
  refine q_aload_n (t := 14) F dX0_look_13 rfl rfl rfl ?_
  refine g_X0_29 (t := 17) F dX0_look_14 rfl (by omega) rfl ?_
  refine la_1 (t := 18) F dX0_look_17 (by omega) (by omega) rfl ?_
  refine p_X0_15 (t := 21) F dX0_look_18 rfl rfl ?_
  refine q_aload_n (t := 22) F dX0_look_21 rfl rfl rfl ?_
  refine q_aload (t := 24) F dX0_look_22 rfl rfl ?_
  refine g_X0_33 (t := 27) F dX0_look_24 rfl (by omega) rfl ?_
  try simp only [up_app, row_app, scr_app, cpy_app, Nat.reduceEqDiff, Int.reduceToNat, Int.toNat_natCast, and_true, true_and, and_false, false_and, and_self, reduceIte]
  refine p_X0_38 (t := 30) F dX0_look_27 rfl rfl ?_
  refine q_aload_n (t := 31) F dX0_look_30 rfl rfl rfl ?_
  refine q_aload (t := 33) F dX0_look_31 rfl rfl ?_
  refine g_X0_39 (t := 36) F dX0_look_33 rfl (by omega) rfl ?_
  refine q_iload_n (t := 37) F dX0_look_36 rfl rfl rfl ?_
  first | refine ldN_23 (t := 38) F dX0_look_37 (by omega) (by omega) rfl ?_ | refine ld_23 (t := 38) F dX0_look_37 (by omega) (by omega) (by omega) rfl ?_
  try simp only [up_app, row_app, scr_app, cpy_app, Nat.reduceEqDiff, Int.reduceToNat, Int.toNat_natCast, and_true, true_and, and_false, false_and, and_self, reduceIte]
  refine p_X0_42 (t := 41) F dX0_look_38 rfl rfl ?_
  refine q_aload_n (t := 42) F dX0_look_41 rfl rfl rfl ?_
  refine q_aload_n (t := 43) F dX0_look_42 rfl rfl rfl ?_
  refine g_X0_44 (t := 46) F dX0_look_43 rfl (by omega) rfl ?_
  try simp only [up_app, row_app, scr_app, cpy_app, Nat.reduceEqDiff, Int.reduceToNat, Int.toNat_natCast, and_true, true_and, and_false, false_and, and_self, reduceIte]
  refine p_X0_47 (t := 49) F dX0_look_46 rfl rfl ?_
  refine q_aload_n (t := 50) F dX0_look_49 rfl rfl rfl ?_
  refine g_X0_9 (t := 53) F dX0_look_50 rfl rfl ?_
  refine q_iconst (t := 54) F dX0_look_53 rfl ?_
  refine q_aload (t := 56) F dX0_look_54 rfl rfl ?_
  refine g_X0_48 (t := 59) F dX0_look_56 rfl (by omega) rfl ?_
  refine q_iload_n (t := 60) F dX0_look_59 rfl rfl rfl ?_
  first | refine ldN_22 (t := 61) F dX0_look_60 (by omega) (by omega) rfl ?_ | refine ld_22 (t := 61) F dX0_look_60 (by omega) (by omega) (by omega) rfl ?_
  try simp only [up_app, row_app, scr_app, cpy_app, Nat.reduceEqDiff, Int.reduceToNat, Int.toNat_natCast, and_true, true_and, and_false, false_and, and_self, reduceIte]
  refine stN_17 (t := 62) (j := 0) F dX0_look_61 (by omega) rfl ?_
  refine q_aload_n (t := 63) F dX0_look_62 rfl rfl rfl ?_
  refine g_X0_9 (t := 66) F dX0_look_63 rfl rfl ?_
  refine q_iconst (t := 67) F dX0_look_66 rfl ?_
  refine q_iconst (t := 68) F dX0_look_67 rfl ?_
  refine stN_17 (t := 69) (j := 1) F dX0_look_68 (by omega) rfl ?_
  refine q_aload_n (t := 70) F dX0_look_69 rfl rfl rfl ?_
  refine g_X0_9 (t := 73) F dX0_look_70 rfl rfl ?_
  refine q_iconst (t := 74) F dX0_look_73 rfl ?_
  refine q_aload (t := 76) F dX0_look_74 rfl rfl ?_
  refine g_X0_51 (t := 79) F dX0_look_76 rfl (by omega) rfl ?_
  try simp only [up_app, row_app, scr_app, cpy_app, Nat.reduceEqDiff, Int.reduceToNat, Int.toNat_natCast, and_true, true_and, and_false, false_and, and_self, reduceIte]
  refine stN_17 (t := 80) (j := 3) F dX0_look_79 (by omega) rfl ?_
  refine q_aload_n (t := 81) F dX0_look_80 rfl rfl rfl ?_
  refine g_X0_9 (t := 84) F dX0_look_81 rfl rfl ?_
  refine q_iconst (t := 85) F dX0_look_84 rfl ?_
  refine q_iload_n (t := 86) F dX0_look_85 rfl rfl rfl ?_
  refine stN_17 (t := 87) (j := 4) F dX0_look_86 (by omega) rfl ?_
  refine q_vret F dX0_look_87 rfl ?_
  exact ⟨rfl, rfl⟩
end
section
/-! helpers -/
theorem wp_less {M : MS} {X : XS} {ad : Ads} {Y : YS} {post : Option SV → Mem → Prop} {pc : Nat} {ls : List (Option SV)} {st : List SV} {m : Mem} (n : Nat) (k : Wp M X ad Y post pc (ls.set n none) st m) : Wp M X ad Y post pc ls st m := by
  intro H locs a hP hS hl
  refine k H locs a hP hS ⟨hl.1, hl.2.1, fun i v hv => ?_⟩
  by_cases h : i = n
  · subst h
    have hlt : i < (ls.set i none).length := (List.getElem?_eq_some_iff.mp hv).1
    rw [List.length_set] at hlt
    rw [List.getElem?_set_self hlt] at hv
    cases hv
  · rw [List.getElem?_set_ne (Ne.symm h)] at hv
    exact hl.2.2 i v hv
/-- the same but for cells of these kinds -/
def ag (l : List Nat) (a b : IM) : Prop := ∀ k, k ∉ l → ∀ i s, a k i s = b k i s
theorem ag_rfl (l : List Nat) (a : IM) : ag l a a := fun _ _ _ _ => rfl
theorem ag.trans {l : List Nat} {a b c : IM} (h : ag l a b) (h2 : ag l b c) : ag l a c := fun k hk i s => (h k hk i s).trans (h2 k hk i s)
theorem ag.symm {l : List Nat} {a b : IM} (h : ag l a b) : ag l b a := fun k hk i s => (h k hk i s).symm
theorem ag.mono {l l' : List Nat} {a b : IM} (h : ag l a b) (hl : ∀ k, k ∈ l → k ∈ l') : ag l' a b := fun k hk i s => h k (fun q => hk (hl k q)) i s
theorem ag_up {l : List Nat} {a b : IM} {k i s : Nat} {x : Int} (h : ag l a b) (hk : k ∈ l) : ag l (up a k i s x) b := fun k' hk' i' s' => by
  rw [up_app, if_neg (fun (q : k' = k ∧ i' = i ∧ s' = s) => hk' (q.1 ▸ hk))]
  exact h k' hk' i' s'
theorem ag_upup {l : List Nat} {a b : IM} {k i s : Nat} {x : Int} (h : ag l a b) : ag l (up a k i s x) (up b k i s x) := fun k' hk' i' s' => by
  rw [up_app, up_app, h k' hk']
theorem garb_ag {im : IM} {bt rt : Nat} {lm : IM} {m' : Mem} (h : garb im bt rt lm m') (hR : RI im) : ∃ im', RI im' ∧ ag [5, 17] im' im ∧ m' = (im', rs bt rt, lm) := by
  obtain ⟨a, b, g, ha, hb, hg, rfl⟩ := h
  refine ⟨_, RI_scr hR ha hb hg, ?_, rfl⟩
  intro k hk i s
  have h1 : k ≠ 5 := fun q => hk (by rw [q]; decide)
  have h2 : k ≠ 17 := fun q => hk (by rw [q]; decide)
  rw [scr_app, if_neg h1, if_neg (fun q => h2 q.1), if_neg (fun q => h2 q.1)]
theorem look_ag (im : IM) (w p g : Nat) : ag [16, 17] (lookM im w p g) im := by
  unfold lookM
  exact ag_up (ag_up (ag_up (ag_up (ag_up (ag_up (ag_up (ag_rfl _ _) (by decide)) (by decide)) (by decide)) (by decide)) (by decide)) (by decide)) (by decide)
/-- a person is in order -/
def PI (im : IM) (p : Nat) : Prop := (0 ≤ im 21 p 0 ∧ im 21 p 0 < 6) ∧ (0 ≤ im 21 p 1 ∧ im 21 p 1 < 10) ∧ ∀ g, g < 10 → -1 ≤ im 22 p g ∧ im 22 p g < 16 ∧ (im 22 p g ≠ -1 → 0 ≤ im 23 p g ∧ im 23 p g ≤ 1100)
/-- a world is in order -/
def WI (im : IM) (w : Nat) : Prop := (0 ≤ im 18 w 3 ∧ im 18 w 3 ≤ 5) ∧ (0 ≤ im 18 w 4 ∧ im 18 w 4 ≤ 1100) ∧ (0 ≤ im 18 w 5 ∧ im 18 w 5 < 16777216) ∧ (0 ≤ im 18 w 7 ∧ im 18 w 7 < 6) ∧ goodT im (im 18 w 7).toNat ∧ ∀ p : Nat, (p : Int) < im 18 w 3 → PI im (5 * w + p)
theorem PI_ag {a b : IM} {l : List Nat} {p : Nat} (h : ag l a b) (h1 : 21 ∉ l) (h2 : 22 ∉ l) (h3 : 23 ∉ l) (hp : PI b p) : PI a p := by
  unfold PI
  simp only [h 21 h1, h 22 h2, h 23 h3]
  exact hp
theorem WI_ag {a b : IM} {l : List Nat} {w : Nat} (h : ag l a b) (h0 : 18 ∉ l) (h1 : 21 ∉ l) (h2 : 22 ∉ l) (h3 : 23 ∉ l) (h4 : 3 ∉ l) (h5 : 4 ∉ l) (hw : WI b w) : WI a w := by
  unfold WI
  simp only [h 18 h0]
  exact ⟨hw.1, hw.2.1, hw.2.2.1, hw.2.2.2.1, goodT_congr (fun s => h 3 h4 _ s) (fun s => h 4 h5 _ s) hw.2.2.2.2.1, fun p hp => PI_ag h h1 h2 h3 (hw.2.2.2.2.2 p hp)⟩

set_option maxHeartbeats 4000000 in
theorem c_X8_within (l : Launch) (G : GS) (im : IM) (bt rt : Nat) (lm : IM) (i n : Int) (hi : ri i) (hn : ri n) : Cn l (XC G) yX8_within Y_X8_within [vI i, vI n] (im, rs bt rt, lm) (pI fun x m' => x = (if 0 ≤ i ∧ i < n then 1 else 0) ∧ m' = (im, rs bt rt, lm)) := by
  refine cn_of (by decide) (okC G) rfl (Nat.le_of_ble_eq_true rfl) ?_
  intro M ad hMl F
  subst hMl
  have hi1 := hi.1
  have hi2 := hi.2
  have hn1 := hn.1
  have hn2 := hn.2
  refine wp_pad 0 ?_
  show Wp M (XC G) ad Y_X8_within (pI fun x m' => x = (if 0 ≤ i ∧ i < n then 1 else 0) ∧ m' = (im, rs bt rt, lm)) 0 [some (vI i), some (vI n)] [] (im, rs bt rt, lm)
  refine q_iload_n (t := 1) F dX8_within_0 rfl rfl rfl ?_
  refine q_if_lt (t := 4) (u := 13) F dX8_within_1 (by first | exact hR _ _ _ | (constructor <;> omega)) (by decide) rfl (fun c1 => ?_) (fun c1 => ?_)
  · refine q_iconst (t := 14) F dX8_within_13 rfl ?_
    refine q_zret F dX8_within_14 rfl (by decide) ?_
    first | exact ⟨_, rfl, by rw [if_pos (by omega)], rfl⟩ | exact ⟨_, rfl, by rw [if_neg (by omega)], rfl⟩
  · refine q_iload_n (t := 5) F dX8_within_4 rfl rfl rfl ?_
    refine q_iload_n (t := 6) F dX8_within_5 rfl rfl rfl ?_
    refine q_icmp_ge (t := 9) (u := 13) F dX8_within_6 (by first | exact hR _ _ _ | (constructor <;> omega)) (by first | exact hR _ _ _ | (constructor <;> omega)) (by decide) rfl (fun c6 => ?_) (fun c6 => ?_)
    · refine q_iconst (t := 14) F dX8_within_13 rfl ?_
      refine q_zret F dX8_within_14 rfl (by decide) ?_
      first | exact ⟨_, rfl, by rw [if_pos (by omega)], rfl⟩ | exact ⟨_, rfl, by rw [if_neg (by omega)], rfl⟩
    · refine q_iconst (t := 10) F dX8_within_9 rfl ?_
      refine q_goto (t := 14) F dX8_within_10 (by decide) ?_
      refine q_zret F dX8_within_14 rfl (by decide) ?_
      first | exact ⟨_, rfl, by rw [if_pos (by omega)], rfl⟩ | exact ⟨_, rfl, by rw [if_neg (by omega)], rfl⟩

set_option maxHeartbeats 4000000 in
theorem c_X8_isSpan (l : Launch) (G : GS) (im : IM) (bt rt : Nat) (lm : IM) (n : Int) (hn : ri n) : Cn l (XC G) yX8_isSpan Y_X8_isSpan [vI n] (im, rs bt rt, lm) (pI fun x m' => x = (if 0 ≤ n ∧ n ≤ 60 then 1 else 0) ∧ m' = (im, rs bt rt, lm)) := by
  refine cn_of (by decide) (okC G) rfl (Nat.le_of_ble_eq_true rfl) ?_
  intro M ad hMl F
  subst hMl
  have hn1 := hn.1
  have hn2 := hn.2
  refine wp_pad 0 ?_
  show Wp M (XC G) ad Y_X8_isSpan (pI fun x m' => x = (if 0 ≤ n ∧ n ≤ 60 then 1 else 0) ∧ m' = (im, rs bt rt, lm)) 0 [some (vI n)] [] (im, rs bt rt, lm)
  refine q_iload_n (t := 1) F dX8_isSpan_0 rfl rfl rfl ?_
  refine q_if_lt (t := 4) (u := 14) F dX8_isSpan_1 (by first | exact hR _ _ _ | (constructor <;> omega)) (by decide) rfl (fun c1 => ?_) (fun c1 => ?_)
  · refine q_iconst (t := 15) F dX8_isSpan_14 rfl ?_
    refine q_zret F dX8_isSpan_15 rfl (by decide) ?_
    first | exact ⟨_, rfl, by rw [if_pos (by omega)], rfl⟩ | exact ⟨_, rfl, by rw [if_neg (by omega)], rfl⟩
  · refine q_iload_n (t := 5) F dX8_isSpan_4 rfl rfl rfl ?_
    refine q_bipush (t := 7) F dX8_isSpan_5 (by decide) rfl ?_
    refine q_icmp_gt (t := 10) (u := 14) F dX8_isSpan_7 (by first | exact hR _ _ _ | (constructor <;> omega)) (by first | exact hR _ _ _ | (constructor <;> omega)) (by decide) rfl (fun c7 => ?_) (fun c7 => ?_)
    · refine q_iconst (t := 15) F dX8_isSpan_14 rfl ?_
      refine q_zret F dX8_isSpan_15 rfl (by decide) ?_
      first | exact ⟨_, rfl, by rw [if_pos (by omega)], rfl⟩ | exact ⟨_, rfl, by rw [if_neg (by omega)], rfl⟩
    · refine q_iconst (t := 11) F dX8_isSpan_10 rfl ?_
      refine q_goto (t := 15) F dX8_isSpan_11 (by decide) ?_
      refine q_zret F dX8_isSpan_15 rfl (by decide) ?_
      first | exact ⟨_, rfl, by rw [if_pos (by omega)], rfl⟩ | exact ⟨_, rfl, by rw [if_neg (by omega)], rfl⟩

set_option maxHeartbeats 4000000 in
theorem c_X8_isOne (l : Launch) (G : GS) (im : IM) (bt rt : Nat) (lm : IM) (i : Int) (hi : ri i) (hR : RI im) : Cn l (XC G) yX8_isOne Y_X8_isOne [vR 0 0, vI i] (im, rs bt rt, lm) (pI fun x m' => x = (if 0 ≤ i ∧ i < im 18 0 3 then 1 else 0) ∧ m' = (im, rs bt rt, lm)) := by
  refine cn_of (by decide) (okC G) rfl (Nat.le_of_ble_eq_true rfl) ?_
  intro M ad hMl F
  subst hMl
  refine wp_pad 0 ?_
  show Wp M (XC G) ad Y_X8_isOne (pI fun x m' => x = (if 0 ≤ i ∧ i < im 18 0 3 then 1 else 0) ∧ m' = (im, rs bt rt, lm)) 0 [some (vR 0 0), some (vI i)] [] (im, rs bt rt, lm)
  refine q_iload_n (t := 1) F dX8_isOne_0 rfl rfl rfl ?_
  refine q_aload_n (t := 2) F dX8_isOne_1 rfl rfl rfl ?_
  refine g_X8_51 (t := 5) F dX8_isOne_2 rfl rfl ?_
  refine g_X8_115 (t := 8) F dX8_isOne_5 rfl (by omega) rfl ?_
  refine wp_callS (t := 11) [_, _] F dX8_isOne_8 k_X8_within st_X8_within ml_X8_95 rfl rfl (Nat.le_of_ble_eq_true rfl) (by decide) (c_X8_within _ G im bt rt lm i (im 18 0 3) hi (hR _ _ _)) rfl (kI ?_)
  rintro x m' ⟨rfl, rfl⟩
  refine q_zret F dX8_isOne_11 rfl (by split <;> decide) ?_
  exact ⟨_, rfl, rfl, rfl⟩

/-! World -/
/-- it is CHURCH in that hour -/
def chI (ch h : Int) : Int := if ch % 4294967296 / 2 ^ (h % 24).toNat % 2 = 0 then 0 else 1
theorem chI_in (ch h : Int) : 0 ≤ chI ch h ∧ chI ch h ≤ 1 := by
  unfold chI
  split <;> omega

set_option maxHeartbeats 4000000 in
theorem c_X7_isChurchIn (l : Launch) (G : GS) (im : IM) (bt rt : Nat) (lm : IM) (w : Nat) (hw : w < 3) (later : Int) (l0 : 0 ≤ later) (l1 : later ≤ 3000) (h0 : 0 ≤ im 18 w 4) (h1 : im 18 w 4 ≤ 3000) : Cn l (XC G) yX7_isChurchIn Y_X7_isChurchIn [vR 18 w, vI later] (im, rs bt rt, lm) (pI fun x m' => x = chI (im 18 w 5) (im 18 w 4 + later) ∧ m' = (im, rs bt rt, lm)) := by
  refine cn_of (by decide) (okC G) rfl (Nat.le_of_ble_eq_true rfl) ?_
  intro M ad hMl F
  subst hMl
  refine wp_pad 0 ?_
  show Wp M (XC G) ad Y_X7_isChurchIn (pI fun x m' => x = chI (im 18 w 5) (im 18 w 4 + later) ∧ m' = (im, rs bt rt, lm)) 0 [some (vR 18 w), some (vI later)] [] (im, rs bt rt, lm)
  refine q_aload_n (t := 1) F dX7_isChurchIn_0 rfl rfl rfl ?_
  refine g_X7_21 (t := 4) F dX7_isChurchIn_1 rfl (by omega) rfl ?_
  refine q_aload_n (t := 5) F dX7_isChurchIn_4 rfl rfl rfl ?_
  refine g_X7_33 (t := 8) F dX7_isChurchIn_5 rfl (by omega) rfl ?_
  refine q_iload_n (t := 9) F dX7_isChurchIn_8 rfl rfl rfl ?_
  refine q_iadd (t := 10) F dX7_isChurchIn_9 rfl ?_
  refine q_bipush (t := 12) F dX7_isChurchIn_10 (by decide) rfl ?_
  refine q_irem (t := 13) F dX7_isChurchIn_12 (by first | exact hR _ _ _ | (constructor <;> omega)) (by first | exact hR _ _ _ | (constructor <;> omega)) (by omega) (by omega) rfl ?_
  refine q_iushr (t := 14) F dX7_isChurchIn_13 (by omega) (by omega) rfl ?_
  refine q_iconst (t := 15) F dX7_isChurchIn_14 rfl ?_
  refine q_iand1 (t := 16) F dX7_isChurchIn_15 rfl ?_
  refine q_if_eq (t := 19) (u := 23) F dX7_isChurchIn_16 (by first | exact hR _ _ _ | (constructor <;> omega)) (by decide) rfl (fun c16 => ?_) (fun c16 => ?_)
  · refine q_iconst (t := 24) F dX7_isChurchIn_23 rfl ?_
    refine q_zret F dX7_isChurchIn_24 rfl (by decide) ?_
    first | exact ⟨_, rfl, by unfold chI; rw [if_pos (by assumption)], rfl⟩ | exact ⟨_, rfl, by unfold chI; rw [if_neg (by assumption)], rfl⟩
  · refine q_iconst (t := 20) F dX7_isChurchIn_19 rfl ?_
    refine q_goto (t := 24) F dX7_isChurchIn_20 (by decide) ?_
    refine q_zret F dX7_isChurchIn_24 rfl (by decide) ?_
    first | exact ⟨_, rfl, by unfold chI; rw [if_pos (by assumption)], rfl⟩ | exact ⟨_, rfl, by unfold chI; rw [if_neg (by assumption)], rfl⟩

/-- how many WORDS are STUCK in the first n of a world's people -/
def cntA (im : IM) (w : Nat) : Nat → Int
  | 0 => 0
  | n + 1 => cntA im w n + cntW (im 22 (5 * w + n)) 10
set_option maxHeartbeats 4000000 in
theorem c_X7_stuckInAll (l : Launch) (G : GS) (im : IM) (bt rt : Nat) (lm : IM) (w : Nat) (hw : w < 3) (hR : RI im) (s0 : 0 ≤ im 18 w 3) (s1 : im 18 w 3 ≤ 5) : Cn l (XC G) yX7_stuckInAll Y_X7_stuckInAll [vR 18 w] (im, rs bt rt, lm) (pI fun x m' => x = cntA im w (im 18 w 3).toNat ∧ m' = (im, rs bt rt, lm)) := by
  refine cn_of (by decide) (okC G) rfl (Nat.le_of_ble_eq_true rfl) ?_
  intro M ad hMl F
  subst hMl
  refine wp_pad 2 ?_
  show Wp M (XC G) ad Y_X7_stuckInAll (pI fun x m' => x = cntA im w (im 18 w 3).toNat ∧ m' = (im, rs bt rt, lm)) 0 [some (vR 18 w), none, none] [] (im, rs bt rt, lm)
  refine q_iconst (t := 1) F dX7_stuckInAll_0 rfl ?_
  refine q_istore_n (t := 2) F dX7_stuckInAll_1 rfl (by decide) rfl rfl ?_
  refine q_iconst (t := 3) F dX7_stuckInAll_2 rfl ?_
  refine q_istore_n (t := 4) F dX7_stuckInAll_3 rfl (by decide) rfl rfl ?_
  have L4 : ∀ (fz : Nat) (i : Nat), (im 18 w 3).toNat - i < fz → (i : Int) ≤ im 18 w 3 → Wp M (XC G) ad Y_X7_stuckInAll (pI fun x m' => x = cntA im w (im 18 w 3).toNat ∧ m' = (im, rs bt rt, lm)) 4 [some (vR 18 w), some (vI (cntA im w i)), some (vI (i : Int))] [] (im, rs bt rt, lm) := by
    intro fz
    induction fz with
    | zero => intro i h; exact absurd h (Nat.not_lt_zero _)
    | succ fz ih =>
      intro i hmeas hi
      refine q_iload_n (t := 5) F dX7_stuckInAll_4 rfl rfl rfl ?_
      refine q_aload_n (t := 6) F dX7_stuckInAll_5 rfl rfl rfl ?_
      refine g_X7_30 (t := 9) F dX7_stuckInAll_6 rfl (by omega) rfl ?_
      refine q_icmp_ge (t := 12) (u := 30) F dX7_stuckInAll_9 (by first | exact hR _ _ _ | (constructor <;> omega)) (by first | exact hR _ _ _ | (constructor <;> omega)) (by decide) rfl (fun c9 => ?_) (fun c9 => ?_)
      · refine q_iload_n (t := 31) F dX7_stuckInAll_30 rfl rfl rfl ?_
        refine q_iret F dX7_stuckInAll_31 rfl ?_
        exact ⟨_, rfl, by rw [show (im 18 w 3).toNat = i by omega], rfl⟩
      · refine q_iload_n (t := 13) F dX7_stuckInAll_12 rfl rfl rfl ?_
        refine q_aload_n (t := 14) F dX7_stuckInAll_13 rfl rfl rfl ?_
        refine g_X7_11 (t := 17) F dX7_stuckInAll_14 rfl (by omega) rfl ?_
        refine q_iload_n (t := 18) F dX7_stuckInAll_17 rfl rfl rfl ?_
        first | refine laN_19 (t := 19) F dX7_stuckInAll_18 (by omega) (by omega) rfl ?_ | refine la_19 (t := 19) F dX7_stuckInAll_18 (by omega) (by omega) (by omega) rfl ?_
        refine wp_callV (t := 22) [] F dX7_stuckInAll_19 k_X3_stuckInAll v_X3_stuckInAll ml_X7_55 rfl rfl rfl rfl (Nat.le_of_ble_eq_true rfl) (by decide) (m_21 (by omega)) (c_X3_stuckInAll _ G im bt rt lm (5 * w + i) (by omega) hR) rfl (kI ?_)
        rintro x m' ⟨rfl, rfl⟩
        refine q_iadd (t := 23) F dX7_stuckInAll_22 rfl ?_
        refine q_istore_n (t := 24) F dX7_stuckInAll_23 rfl (by decide) rfl rfl ?_
        refine q_iinc (t := 27) F dX7_stuckInAll_24 rfl (by decide) rfl rfl ?_
        refine q_goto (t := 4) F dX7_stuckInAll_27 (by decide) ?_
        exact ih (i + 1) (by omega) (by omega)
  exact L4 _ 0 (Nat.lt_succ_self _) (by omega)

/-- the first n people of a world become another's -/
def becP (im : IM) (w v n : Nat) : IM := fun k i s => if k = 18 ∧ i = w ∧ 3 ≤ s ∧ s ≤ 7 then im 18 v s else if (k = 21 ∧ s < 2 ∨ k = 22 ∧ s < 10 ∨ k = 23 ∧ s < 10) ∧ 5 * w ≤ i ∧ i < 5 * w + n then im k (5 * v + (i - 5 * w)) s else im k i s
theorem becP_app (im : IM) (w v n k i s : Nat) : becP im w v n k i s = if k = 18 ∧ i = w ∧ 3 ≤ s ∧ s ≤ 7 then im 18 v s else if (k = 21 ∧ s < 2 ∨ k = 22 ∧ s < 10 ∨ k = 23 ∧ s < 10) ∧ 5 * w ≤ i ∧ i < 5 * w + n then im k (5 * v + (i - 5 * w)) s else im k i s := rfl
theorem becP_0 (im : IM) (w v : Nat) : up (up (up (up (up im 18 w 3 (im 18 v 3)) 18 w 4 (im 18 v 4)) 18 w 5 (im 18 v 5)) 18 w 6 (im 18 v 6)) 18 w 7 (im 18 v 7) = becP im w v 0 := by
  funext k i s
  simp only [up_app, becP_app]
  by_cases h : k = 18 ∧ i = w ∧ 3 ≤ s ∧ s ≤ 7
  · obtain ⟨rfl, rfl, h3, h4⟩ := h
    rcases (show s = 3 ∨ s = 4 ∨ s = 5 ∨ s = 6 ∨ s = 7 by omega) with rfl | rfl | rfl | rfl | rfl <;> simp
  · rw [if_neg h, if_neg (show ¬ ((k = 21 ∧ s < 2 ∨ k = 22 ∧ s < 10 ∨ k = 23 ∧ s < 10) ∧ 5 * w ≤ i ∧ i < 5 * w + 0) by omega)]
    rw [if_neg (by omega), if_neg (by omega), if_neg (by omega), if_neg (by omega), if_neg (by omega)]
theorem becP_s (im : IM) {w v n : Nat} (hwv : w ≠ v) (hn : n < 5) : cpy (cpy (up (up (becP im w v n) 21 (5 * w + n) 0 (becP im w v n 21 (5 * v + n) 0)) 21 (5 * w + n) 1 (becP im w v n 21 (5 * v + n) 1)) 22 (5 * v + n) 0 22 (5 * w + n) 0 10) 23 (5 * v + n) 0 23 (5 * w + n) 0 10 = becP im w v (n + 1) := by
  have hv : ∀ k s, (k = 21 ∨ k = 22 ∨ k = 23) → becP im w v n k (5 * v + n) s = im k (5 * v + n) s := by
    intro k s hk
    rw [becP_app, if_neg (by omega), if_neg (by omega)]
  funext k i s
  by_cases h : (k = 21 ∧ s < 2 ∨ k = 22 ∧ s < 10 ∨ k = 23 ∧ s < 10) ∧ i = 5 * w + n
  · obtain ⟨hk, rfl⟩ := h
    rw [show becP im w v (n + 1) k (5 * w + n) s = im k (5 * v + n) s by
      rw [becP_app, if_neg (by omega), if_pos (by omega), show 5 * w + n - 5 * w = n by omega]]
    simp only [cpy_app, up_app, Nat.zero_add, Nat.sub_zero, Nat.zero_le, true_and, hv 21 0 (Or.inl rfl), hv 21 1 (Or.inl rfl)]
    rcases hk with ⟨rfl, hs⟩ | ⟨rfl, hs⟩ | ⟨rfl, hs⟩
    · rcases (show s = 0 ∨ s = 1 by omega) with rfl | rfl <;> simp
    · rw [if_neg (by omega), if_pos (by omega)]
      first | exact hv 22 s (by omega) | (rw [if_neg (by omega), if_neg (by omega)]; exact hv 22 s (by omega))
    · rw [if_pos (by omega)]
      first | exact hv 23 s (by omega) | (rw [if_neg (by omega), if_neg (by omega), if_neg (by omega)]; exact hv 23 s (by omega))
  · have e : becP im w v (n + 1) k i s = becP im w v n k i s := by
      rw [becP_app, becP_app]
      by_cases h2 : k = 18 ∧ i = w ∧ 3 ≤ s ∧ s ≤ 7
      · rw [if_pos h2, if_pos h2]
      · rw [if_neg h2, if_neg h2]
        by_cases h3 : (k = 21 ∧ s < 2 ∨ k = 22 ∧ s < 10 ∨ k = 23 ∧ s < 10) ∧ 5 * w ≤ i ∧ i < 5 * w + n
        · rw [if_pos (by omega), if_pos h3]
        · rw [if_neg (by omega), if_neg h3]
    rw [e]
    simp only [cpy_app, up_app, Nat.zero_add, Nat.sub_zero, Nat.zero_le, true_and]
    rw [if_neg (by omega), if_neg (by omega), if_neg (by omega), if_neg (by omega)]
/-- World.become -/
def becM (im : IM) (w v : Nat) : IM := becP im w v (im 18 v 3).toNat
theorem RI_bec {im : IM} {w v n : Nat} (h : RI im) : RI (becP im w v n) := by
  intro k i s
  rw [becP_app]
  repeat' split
  all_goals exact h _ _ _

set_option maxHeartbeats 4000000 in
theorem c_X7_become (l : Launch) (G : GS) (im : IM) (bt rt : Nat) (lm : IM) (w v : Nat) (hw : w < 3) (hv : v < 3) (hwv : w ≠ v) (hR : RI im) (s0 : 0 ≤ im 18 v 3) (s1 : im 18 v 3 ≤ 5) : Cn l (XC G) yX7_become Y_X7_become [vR 18 w, vR 18 v] (im, rs bt rt, lm) (pV fun m' => m' = (becM im w v, rs bt rt, lm)) := by
  refine cn_of (by decide) (okC G) rfl (Nat.le_of_ble_eq_true rfl) ?_
  intro M ad hMl F
  subst hMl
  refine wp_pad 1 ?_
  show Wp M (XC G) ad Y_X7_become (pV fun m' => m' = (becM im w v, rs bt rt, lm)) 0 [some (vR 18 w), some (vR 18 v), none] [] (im, rs bt rt, lm)
  refine q_aload_n (t := 1) F dX7_become_0 rfl rfl rfl ?_
  refine q_aload_n (t := 2) F dX7_become_1 rfl rfl rfl ?_
  refine g_X7_30 (t := 5) F dX7_become_2 rfl (by omega) rfl ?_
  refine p_X7_30 (t := 8) F dX7_become_5 rfl (by omega) rfl ?_
  refine q_aload_n (t := 9) F dX7_become_8 rfl rfl rfl ?_
  refine q_aload_n (t := 10) F dX7_become_9 rfl rfl rfl ?_
  refine g_X7_33 (t := 13) F dX7_become_10 rfl (by omega) rfl ?_
  try simp only [up_app, row_app, scr_app, cpy_app, Nat.reduceEqDiff, Int.reduceToNat, Int.toNat_natCast, and_true, true_and, and_false, false_and, and_self, reduceIte]
  refine p_X7_33 (t := 16) F dX7_become_13 rfl (by omega) rfl ?_
  refine q_aload_n (t := 17) F dX7_become_16 rfl rfl rfl ?_
  refine q_aload_n (t := 18) F dX7_become_17 rfl rfl rfl ?_
  refine g_X7_21 (t := 21) F dX7_become_18 rfl (by omega) rfl ?_
  try simp only [up_app, row_app, scr_app, cpy_app, Nat.reduceEqDiff, Int.reduceToNat, Int.toNat_natCast, and_true, true_and, and_false, false_and, and_self, reduceIte]
  refine p_X7_21 (t := 24) F dX7_become_21 rfl (by omega) rfl ?_
  refine q_aload_n (t := 25) F dX7_become_24 rfl rfl rfl ?_
  refine q_aload_n (t := 26) F dX7_become_25 rfl rfl rfl ?_
  refine g_X7_36 (t := 29) F dX7_become_26 rfl (by omega) rfl ?_
  try simp only [up_app, row_app, scr_app, cpy_app, Nat.reduceEqDiff, Int.reduceToNat, Int.toNat_natCast, and_true, true_and, and_false, false_and, and_self, reduceIte]
  refine p_X7_36 (t := 32) F dX7_become_29 rfl (by omega) rfl ?_
  refine q_aload_n (t := 33) F dX7_become_32 rfl rfl rfl ?_
  refine q_aload_n (t := 34) F dX7_become_33 rfl rfl rfl ?_
  refine g_X7_39 (t := 37) F dX7_become_34 rfl (by omega) rfl ?_
  try simp only [up_app, row_app, scr_app, cpy_app, Nat.reduceEqDiff, Int.reduceToNat, Int.toNat_natCast, and_true, true_and, and_false, false_and, and_self, reduceIte]
  refine p_X7_39 (t := 40) F dX7_become_37 rfl (by omega) rfl ?_
  refine q_iconst (t := 41) F dX7_become_40 rfl ?_
  refine q_istore_n (t := 42) F dX7_become_41 rfl (by decide) rfl rfl ?_
  have L42 : ∀ (fz : Nat) (i : Nat), (im 18 v 3).toNat - i < fz → (i : Int) ≤ im 18 v 3 → Wp M (XC G) ad Y_X7_become (pV fun m' => m' = (becM im w v, rs bt rt, lm)) 42 [some (vR 18 w), some (vR 18 v), some (vI (i : Int))] [] (becP im w v i, rs bt rt, lm) := by
    intro fz
    induction fz with
    | zero => intro i h; exact absurd h (Nat.not_lt_zero _)
    | succ fz ih =>
      intro i hmeas hi
      have e3 : becP im w v i 18 w 3 = im 18 v 3 := by rw [becP_app, if_pos (by omega)]
      refine q_iload_n (t := 43) F dX7_become_42 rfl rfl rfl ?_
      refine q_aload_n (t := 44) F dX7_become_43 rfl rfl rfl ?_
      refine g_X7_30 (t := 47) F dX7_become_44 rfl (by omega) rfl ?_
      try simp only [up_app, row_app, scr_app, cpy_app, Nat.reduceEqDiff, Int.reduceToNat, Int.toNat_natCast, and_true, true_and, and_false, false_and, and_self, reduceIte]
      rw [e3]
      refine q_icmp_ge (t := 50) (u := 71) F dX7_become_47 (by first | exact hR _ _ _ | (constructor <;> omega)) (by first | exact hR _ _ _ | (constructor <;> omega)) (by decide) rfl (fun c47 => ?_) (fun c47 => ?_)
      · refine q_vret F dX7_become_71 rfl ?_
        exact ⟨rfl, by unfold becM; rw [show (im 18 v 3).toNat = i by omega]⟩
      · refine q_aload_n (t := 51) F dX7_become_50 rfl rfl rfl ?_
        refine g_X7_11 (t := 54) F dX7_become_51 rfl (by omega) rfl ?_
        refine q_iload_n (t := 55) F dX7_become_54 rfl rfl rfl ?_
        first | refine laN_19 (t := 56) F dX7_become_55 (by omega) (by omega) rfl ?_ | refine la_19 (t := 56) F dX7_become_55 (by omega) (by omega) (by omega) rfl ?_
        refine q_aload_n (t := 57) F dX7_become_56 rfl rfl rfl ?_
        refine g_X7_11 (t := 60) F dX7_become_57 rfl (by omega) rfl ?_
        refine q_iload_n (t := 61) F dX7_become_60 rfl rfl rfl ?_
        first | refine laN_19 (t := 62) F dX7_become_61 (by omega) (by omega) rfl ?_ | refine la_19 (t := 62) F dX7_become_61 (by omega) (by omega) (by omega) rfl ?_
        refine wp_callV (t := 65) [_] F dX7_become_62 k_X3_become v_X3_become ml_X7_42 rfl rfl rfl rfl (Nat.le_of_ble_eq_true rfl) (by decide) (m_21 (by omega)) (c_X3_become _ G (becP im w v i) bt rt lm (5 * w + i) (5 * v + i) (by omega) (by omega)) rfl (kV ?_)
        rintro m' rfl
        rw [becP_s im hwv (by omega)]
        refine q_iinc (t := 68) F dX7_become_65 rfl (by decide) rfl rfl ?_
        refine q_goto (t := 42) F dX7_become_68 (by decide) ?_
        exact ih (i + 1) (by omega) (by omega)
  have h := L42 _ 0 (Nat.lt_succ_self _) (by omega)
  rw [← becP_0] at h
  exact h
end
section
/-- the first n items of a row are v -/
def fl (im : IM) (k i n : Nat) (v : Int) : IM := fun k' i' s' => if k' = k ∧ i' = i ∧ s' < n then v else im k' i' s'
theorem fl_app (im : IM) (k i n : Nat) (v : Int) (k' i' s' : Nat) : fl im k i n v k' i' s' = if k' = k ∧ i' = i ∧ s' < n then v else im k' i' s' := rfl
theorem fl_0 (im : IM) (k i : Nat) (v : Int) : fl im k i 0 v = im := by
  funext k' i' s'
  rw [fl_app, if_neg (by omega)]
theorem fl_s (im : IM) (k i n : Nat) (v : Int) : up (fl im k i n v) k i n v = fl im k i (n + 1) v := by
  funext k' i' s'
  simp only [up_app, fl_app]
  repeat' split
  all_goals first | rfl | omega
theorem RI_fl {im : IM} {k i n : Nat} {v : Int} (h : RI im) (hv : ri v) : RI (fl im k i n v) := by
  intro k' i' s'
  rw [fl_app]
  split
  · exact hv
  · exact h _ _ _
/-- one more of a world's people -/
def welM (im : IM) (w : Nat) (a b : Int) : IM := up (fl (up (up im 21 (5 * w + (im 18 w 3).toNat) 0 a) 21 (5 * w + (im 18 w 3).toNat) 1 b) 22 (5 * w + (im 18 w 3).toNat) 10 (-1)) 18 w 3 (im 18 w 3 + 1)

set_option maxHeartbeats 4000000 in
theorem c_X7_welcome (l : Launch) (G : GS) (im : IM) (bt rt : Nat) (lm : IM) (w : Nat) (hw : w < 3) (a b : Int) (s0 : 0 ≤ im 18 w 3) (s1 : im 18 w 3 < 5) : Cn l (XC G) yX7_welcome Y_X7_welcome [vR 18 w, vI a, vI b] (im, rs bt rt, lm) (pI fun x m' => x = im 18 w 3 ∧ m' = (welM im w a b, rs bt rt, lm)) := by
  refine cn_of (by decide) (okC G) rfl (Nat.le_of_ble_eq_true rfl) ?_
  intro M ad hMl F
  subst hMl
  obtain ⟨p, hp⟩ : ∃ p : Nat, p = (im 18 w 3).toNat := ⟨_, rfl⟩
  obtain ⟨B, hB⟩ : ∃ B, B = up (up im 21 (5 * w + p) 0 a) 21 (5 * w + p) 1 b := ⟨_, rfl⟩
  refine wp_pad 2 ?_
  show Wp M (XC G) ad Y_X7_welcome (pI fun x m' => x = im 18 w 3 ∧ m' = (welM im w a b, rs bt rt, lm)) 0 [some (vR 18 w), some (vI a), some (vI b), none, none] [] (im, rs bt rt, lm)
  refine q_aload_n (t := 1) F dX7_welcome_0 rfl rfl rfl ?_
  refine g_X7_11 (t := 4) F dX7_welcome_1 rfl (by omega) rfl ?_
  refine q_aload_n (t := 5) F dX7_welcome_4 rfl rfl rfl ?_
  refine g_X7_30 (t := 8) F dX7_welcome_5 rfl (by omega) rfl ?_
  refine la_19 (t := 9) F dX7_welcome_8 (by omega) (by omega) (by omega) rfl ?_
  rw [← hp]
  refine q_astore_n (t := 10) F dX7_welcome_9 rfl (by decide) rfl rfl ?_
  refine q_aload_n (t := 11) F dX7_welcome_10 rfl rfl rfl ?_
  refine q_iload_n (t := 12) F dX7_welcome_11 rfl rfl rfl ?_
  refine p_X7_46 (t := 15) F dX7_welcome_12 rfl (by omega) rfl ?_
  refine q_aload_n (t := 16) F dX7_welcome_15 rfl rfl rfl ?_
  refine q_iload_n (t := 17) F dX7_welcome_16 rfl rfl rfl ?_
  refine p_X7_49 (t := 20) F dX7_welcome_17 rfl (by omega) rfl ?_
  refine q_iconst (t := 21) F dX7_welcome_20 rfl ?_
  refine q_istore (t := 23) F dX7_welcome_21 (by decide) rfl rfl ?_
  have L23 : ∀ (fz : Nat) (i : Nat), 10 - i < fz → i ≤ 10 → Wp M (XC G) ad Y_X7_welcome (pI fun x m' => x = im 18 w 3 ∧ m' = (welM im w a b, rs bt rt, lm)) 23 [some (vR 18 w), some (vI a), some (vI b), some (vR 21 (5 * w + p)), some (vI (i : Int))] [] (fl B 22 (5 * w + p) i (-1), rs bt rt, lm) := by
    intro fz
    induction fz with
    | zero => intro i h; exact absurd h (Nat.not_lt_zero _)
    | succ fz ih =>
      intro i hmeas hi
      refine q_iload (t := 25) F dX7_welcome_23 rfl rfl ?_
      refine q_bipush (t := 27) F dX7_welcome_25 (by decide) rfl ?_
      refine q_icmp_ge (t := 30) (u := 44) F dX7_welcome_27 (by first | exact hR _ _ _ | (constructor <;> omega)) (by first | exact hR _ _ _ | (constructor <;> omega)) (by decide) rfl (fun c27 => ?_) (fun c27 => ?_)
      · refine q_aload_n (t := 45) F dX7_welcome_44 rfl rfl rfl ?_
        refine q_dupR (t := 46) F dX7_welcome_45 rfl ?_
        refine g_X7_30 (t := 49) F dX7_welcome_46 rfl (by omega) rfl ?_
        try simp only [up_app, row_app, scr_app, cpy_app, Nat.reduceEqDiff, Int.reduceToNat, Int.toNat_natCast, and_true, true_and, and_false, false_and, and_self, reduceIte]
        refine q_iconst (t := 50) F dX7_welcome_49 rfl ?_
        rw [show fl B 22 (5 * w + p) i (-1) 18 w 3 = im 18 w 3 by rw [hB]; rfl]
        refine q_iadd (t := 51) F dX7_welcome_50 rfl ?_
        refine p_X7_30 (t := 54) F dX7_welcome_51 rfl (by omega) rfl ?_
        refine q_aload_n (t := 55) F dX7_welcome_54 rfl rfl rfl ?_
        refine g_X7_30 (t := 58) F dX7_welcome_55 rfl (by omega) rfl ?_
        try simp only [up_app, row_app, scr_app, cpy_app, Nat.reduceEqDiff, Int.reduceToNat, Int.toNat_natCast, and_true, true_and, and_false, false_and, and_self, reduceIte]
        refine q_iconst (t := 59) F dX7_welcome_58 rfl ?_
        refine q_isub (t := 60) F dX7_welcome_59 rfl ?_
        refine q_iret F dX7_welcome_60 rfl ?_
        refine ⟨_, rfl, ?_, ?_⟩
        · omega
        · unfold welM
          rw [← hp, hB, show i = 10 by omega]
      · refine q_aload_n (t := 31) F dX7_welcome_30 rfl rfl rfl ?_
        refine g_X7_52 (t := 34) F dX7_welcome_31 rfl (by omega) rfl ?_
        refine q_iload (t := 36) F dX7_welcome_34 rfl rfl ?_
        refine q_iconst (t := 37) F dX7_welcome_36 rfl ?_
        first | refine stN_22 (t := 38) F dX7_welcome_37 (by omega) (by omega) rfl ?_ | refine st_22 (t := 38) F dX7_welcome_37 (by omega) (by omega) (by omega) rfl ?_
        refine q_iinc (t := 41) F dX7_welcome_38 rfl (by decide) rfl rfl ?_
        refine q_goto (t := 23) F dX7_welcome_41 (by decide) ?_
        rw [fl_s]
        exact ih (i + 1) (by omega) (by omega)
  have h := L23 _ 0 (Nat.lt_succ_self _) (by omega)
  rw [fl_0, hB] at h
  exact h

theorem stepS_nm {nm nm' : Nat → Int} (h : ∀ s, s < 6 → nm s = nm' s) (s : Int) (q : Nat × (Nat → Int)) : stepS nm s q = stepS nm' s q := by
  unfold stepS putS
  split
  · split
    · split
      · rfl
      · rw [h _ (by omega)]
    · rfl
  · rfl
theorem runS_nm {nm nm' : Nat → Int} (h : ∀ s, s < 6 → nm s = nm' s) (f : Nat → Int) (n : Nat) : ∀ (i : Nat) (q : Nat × (Nat → Int)), runS f nm i n q = runS f nm' i n q := by
  induction n with
  | zero => intro i q; rfl
  | succ n ih =>
    intro i q
    show runS f nm (i + 1) n (stepS nm (f i) q) = runS f nm' (i + 1) n (stepS nm' (f i) q)
    rw [stepS_nm h, ih]
theorem tellV_nm {im : IM} {j part : Nat} {nm nm' : Nat → Int} (h : ∀ s, s < 6 → nm s = nm' s) : tellV im j part nm = tellV im j part nm' := by
  unfold tellV tellQ
  rw [runS_nm h]
/-- what a WORD's place is told by -/
def nmW (im : IM) (w man : Nat) (word food : Int) : Nat → Int := fun s => if s = 0 then word else if s = 1 then food else if s = 2 then im 18 w 4 else if s = 3 then im 21 (5 * w + man) 1 else if s = 4 then 0 else cntW (im 22 (5 * w + man)) 10
def takesW (im : IM) (w man : Nat) (word food : Int) : Int := takesK (im 21 (5 * w + man) 0) (tellV im (im 18 w 7).toNat 0 (nmW im w man word food))
theorem takesW_in (im : IM) (w man : Nat) (word food : Int) : -1 ≤ takesW im w man word food ∧ takesW im w man word food ≤ 9 := takesK_in (tellV_in _ _ _ _).1 (tellV_in _ _ _ _).2
theorem takesW_ag {a b : IM} {l : List Nat} {w : Nat} (h : ag l a b) (h0 : 18 ∉ l) (h1 : 21 ∉ l) (h2 : 22 ∉ l) (h4 : 3 ∉ l) (h5 : 4 ∉ l) (man : Nat) (word food : Int) : takesW a w man word food = takesW b w man word food := by
  have e22 : a 22 (5 * w + man) = b 22 (5 * w + man) := funext (fun s => h 22 h2 _ s)
  unfold takesW nmW
  simp only [h 18 h0, h 21 h1, e22]
  rw [tellV_congr (fun s => h 3 h4 _ s) (fun s => h 4 h5 _ s)]

/-- the names laid for it -/
def nmM (im : IM) (w man : Nat) (word food : Int) : IM := up (up (up (up (up (up im 20 w 0 word) 20 w 1 food) 20 w 2 (im 18 w 4)) 20 w 3 (im 21 (5 * w + man) 1)) 20 w 4 0) 20 w 5 (cntW (im 22 (5 * w + man)) 10)
theorem nmM_ag (im : IM) (w man : Nat) (word food : Int) : ag [5, 20] (nmM im w man word food) im := by
  unfold nmM
  exact ag_up (ag_up (ag_up (ag_up (ag_up (ag_up (ag_rfl _ _) (by decide)) (by decide)) (by decide)) (by decide)) (by decide)) (by decide)
theorem nmM_nm (im : IM) (w man : Nat) (word food : Int) : ∀ s, s < 6 → nmM im w man word food 20 w s = nmW im w man word food s := by
  intro s hs
  unfold nmM nmW
  rcases (show s = 0 ∨ s = 1 ∨ s = 2 ∨ s = 3 ∨ s = 4 ∨ s = 5 by omega) with rfl | rfl | rfl | rfl | rfl | rfl <;> simp [up_app]
theorem row_ag {l : List Nat} {a b : IM} {k i : Nat} {f : Nat → Int} (h : ag l a b) (hk : k ∈ l) : ag l (row a k i f) b := fun k' hk' i' s' => by
  rw [row_app, if_neg (fun (q : k' = k ∧ i' = i) => hk' (q.1 ▸ hk))]
  exact h k' hk' i' s'

set_option maxHeartbeats 4000000 in
theorem c_X7_takes (l : Launch) (G : GS) (im : IM) (bt rt : Nat) (lm : IM) (w : Nat) (hw : w < 3) (hR : RI im) (hW : WI im w) (man : Nat) (hm : (man : Int) < im 18 w 3) (word food : Int) (hwo : ri word) (hfo : ri food) : Cn l (XC G) yX7_takes Y_X7_takes [vR 18 w, vI (man : Int), vI word, vI food] (im, rs bt rt, lm) (pI fun x m' => x = takesW im w man word food ∧ ∃ im', RI im' ∧ ag [5, 20] im' im ∧ m' = (im', rs bt rt, lm)) := by
  refine cn_of (by decide) (okC G) rfl (Nat.le_of_ble_eq_true rfl) ?_
  intro M ad hMl F
  subst hMl
  have w1 := hW.1
  have w2 := hW.2.1
  have w4 := hW.2.2.2.1
  have hp := hW.2.2.2.2.2 man hm
  have hc := cntW_in (im 22 (5 * w + man)) 10
  have hR1 : RI (nmM im w man word food) := by
    unfold nmM
    refine RI_up (RI_up (RI_up (RI_up (RI_up (RI_up hR ?_) ?_) ?_) ?_) ?_) ?_
    all_goals first | assumption | exact hR _ _ _ | (constructor <;> omega)
  refine wp_pad 1 ?_
  show Wp M (XC G) ad Y_X7_takes (pI fun x m' => x = takesW im w man word food ∧ ∃ im', RI im' ∧ ag [5, 20] im' im ∧ m' = (im', rs bt rt, lm)) 0 [some (vR 18 w), some (vI (man : Int)), some (vI word), some (vI food), none] [] (im, rs bt rt, lm)
  refine q_aload_n (t := 1) F dX7_takes_0 rfl rfl rfl ?_
  refine g_X7_11 (t := 4) F dX7_takes_1 rfl (by omega) rfl ?_
  refine q_iload_n (t := 5) F dX7_takes_4 rfl rfl rfl ?_
  first | refine laN_19 (t := 6) F dX7_takes_5 (by omega) (by omega) rfl ?_ | refine la_19 (t := 6) F dX7_takes_5 (by omega) (by omega) (by omega) rfl ?_
  refine q_astore (t := 8) F dX7_takes_6 (by decide) rfl rfl ?_
  refine q_aload_n (t := 9) F dX7_takes_8 rfl rfl rfl ?_
  refine g_X7_17 (t := 12) F dX7_takes_9 rfl (by omega) rfl ?_
  refine q_iconst (t := 13) F dX7_takes_12 rfl ?_
  refine q_iload_n (t := 14) F dX7_takes_13 rfl rfl rfl ?_
  refine stN_20 (t := 15) (j := 0) F dX7_takes_14 (by omega) (by omega) rfl ?_
  refine q_aload_n (t := 16) F dX7_takes_15 rfl rfl rfl ?_
  refine g_X7_17 (t := 19) F dX7_takes_16 rfl (by omega) rfl ?_
  refine q_iconst (t := 20) F dX7_takes_19 rfl ?_
  refine q_iload_n (t := 21) F dX7_takes_20 rfl rfl rfl ?_
  refine stN_20 (t := 22) (j := 1) F dX7_takes_21 (by omega) (by omega) rfl ?_
  refine q_aload_n (t := 23) F dX7_takes_22 rfl rfl rfl ?_
  refine g_X7_17 (t := 26) F dX7_takes_23 rfl (by omega) rfl ?_
  refine q_iconst (t := 27) F dX7_takes_26 rfl ?_
  refine q_aload_n (t := 28) F dX7_takes_27 rfl rfl rfl ?_
  refine g_X7_33 (t := 31) F dX7_takes_28 rfl (by omega) rfl ?_
  try simp only [up_app, row_app, scr_app, cpy_app, Nat.reduceEqDiff, Int.reduceToNat, Int.toNat_natCast, and_true, true_and, and_false, false_and, and_self, reduceIte]
  refine stN_20 (t := 32) (j := 2) F dX7_takes_31 (by omega) (by omega) rfl ?_
  refine q_aload_n (t := 33) F dX7_takes_32 rfl rfl rfl ?_
  refine g_X7_17 (t := 36) F dX7_takes_33 rfl (by omega) rfl ?_
  refine q_iconst (t := 37) F dX7_takes_36 rfl ?_
  refine q_aload (t := 39) F dX7_takes_37 rfl rfl ?_
  refine g_X7_49 (t := 42) F dX7_takes_39 rfl (by omega) rfl ?_
  try simp only [up_app, row_app, scr_app, cpy_app, Nat.reduceEqDiff, Int.reduceToNat, Int.toNat_natCast, and_true, true_and, and_false, false_and, and_self, reduceIte]
  refine stN_20 (t := 43) (j := 3) F dX7_takes_42 (by omega) (by omega) rfl ?_
  refine q_aload_n (t := 44) F dX7_takes_43 rfl rfl rfl ?_
  refine g_X7_17 (t := 47) F dX7_takes_44 rfl (by omega) rfl ?_
  refine q_iconst (t := 48) F dX7_takes_47 rfl ?_
  refine q_iconst (t := 49) F dX7_takes_48 rfl ?_
  refine stN_20 (t := 50) (j := 4) F dX7_takes_49 (by omega) (by omega) rfl ?_
  refine q_aload_n (t := 51) F dX7_takes_50 rfl rfl rfl ?_
  refine g_X7_17 (t := 54) F dX7_takes_51 rfl (by omega) rfl ?_
  refine q_iconst (t := 55) F dX7_takes_54 rfl ?_
  refine q_aload (t := 57) F dX7_takes_55 rfl rfl ?_
  refine wp_callV (t := 60) [] F dX7_takes_57 k_X3_stuckInAll v_X3_stuckInAll ml_X7_55 rfl rfl rfl rfl (Nat.le_of_ble_eq_true rfl) (by decide) (m_21 (by omega)) (c_X3_stuckInAll _ G (up (up (up (up (up im 20 w 0 word) 20 w 1 food) 20 w 2 (im 18 w 4)) 20 w 3 (im 21 (5 * w + man) 1)) 20 w 4 0) bt rt lm (5 * w + man) (by omega) (RI_up (RI_up (RI_up (RI_up (RI_up hR (by assumption)) (by assumption)) (hR _ _ _)) (hR _ _ _)) (by constructor <;> omega))) rfl (kI ?_)
  rintro x m' ⟨rfl, rfl⟩
  rw [show (up (up (up (up (up im 20 w 0 word) 20 w 1 food) 20 w 2 (im 18 w 4)) 20 w 3 (im 21 (5 * w + man) 1)) 20 w 4 0) 22 (5 * w + man) = im 22 (5 * w + man) from rfl]
  refine stN_20 (t := 61) (j := 5) F dX7_takes_60 (by omega) (by omega) rfl ?_
  refine q_aload (t := 63) F dX7_takes_61 rfl rfl ?_
  refine g_X7_46 (t := 66) F dX7_takes_63 rfl (by omega) rfl ?_
  try simp only [up_app, row_app, scr_app, cpy_app, Nat.reduceEqDiff, Int.reduceToNat, Int.toNat_natCast, and_true, true_and, and_false, false_and, and_self, reduceIte]
  refine q_aload_n (t := 67) F dX7_takes_66 rfl rfl rfl ?_
  refine g_X7_25 (t := 70) F dX7_takes_67 rfl (by omega) rfl ?_
  refine q_aload_n (t := 71) F dX7_takes_70 rfl rfl rfl ?_
  refine g_X7_39 (t := 74) F dX7_takes_71 rfl (by omega) rfl ?_
  try simp only [up_app, row_app, scr_app, cpy_app, Nat.reduceEqDiff, Int.reduceToNat, Int.toNat_natCast, and_true, true_and, and_false, false_and, and_self, reduceIte]
  refine la_1 (t := 75) F dX7_takes_74 (by omega) (by omega) rfl ?_
  refine q_iconst (t := 76) F dX7_takes_75 rfl ?_
  refine q_aload_n (t := 77) F dX7_takes_76 rfl rfl rfl ?_
  refine g_X7_17 (t := 80) F dX7_takes_77 rfl (by omega) rfl ?_
  refine wp_callV (t := 83) [_, _] F dX7_takes_80 k_X6_tell v_X6_tell ml_X7_59 rfl rfl rfl rfl (Nat.le_of_ble_eq_true rfl) (by decide) (m_2 (by omega)) (c_X6_tell20 _ G (nmM im w man word food) bt rt lm (im 18 w 7).toNat (by omega) w hw 0 (by omega) hR1 (goodT_congr (fun s => rfl) (fun s => rfl) hW.2.2.2.2.1)) rfl (kI ?_)
  rintro v m' ⟨hv, kk, hkk, rfl⟩
  have hv2 := tellV_in (nmM im w man word food) (im 18 w 7).toNat 0 (nmM im w man word food 20 w)
  rw [← hv] at hv2
  refine wp_callS (t := 86) [_, _] F dX7_takes_83 k_X2_takes st_X2_takes ml_X7_65 rfl rfl (Nat.le_of_ble_eq_true rfl) (by decide) (c_X2_takes _ G _ bt rt lm (im 21 (5 * w + man) 0) v hp.1.1 hp.1.2 hv2.1 hv2.2) rfl (kI ?_)
  rintro x m' ⟨rfl, rfl⟩
  refine q_iret F dX7_takes_86 rfl ?_
  refine ⟨_, rfl, ?_, _, RI_row hR1 hkk, row_ag (nmM_ag im w man word food) (by decide), rfl⟩
  unfold takesW
  rw [hv, tellV_nm (nmM_nm im w man word food)]
  rw [show tellV (nmM im w man word food) (im 18 w 7).toNat 0 (nmW im w man word food) = tellV im (im 18 w 7).toNat 0 (nmW im w man word food) from tellV_congr (fun s => rfl) (fun s => rfl)]

/-- in which GAP it is STUCK then (-1: it isn't) -/
def uttW (im : IM) (w man : Nat) (word food : Int) : Int := if 0 ≤ takesW im w man word food ∧ im 22 (5 * w + man) (takesW im w man word food).toNat = -1 then takesW im w man word food else -1
def uttM (im : IM) (w man : Nat) (word food : Int) : IM := if uttW im w man word food = -1 then im else up (up im 22 (5 * w + man) (uttW im w man word food).toNat word) 23 (5 * w + man) (uttW im w man word food).toNat 0

set_option maxHeartbeats 4000000 in
theorem c_X7_utter (l : Launch) (G : GS) (im : IM) (bt rt : Nat) (lm : IM) (w : Nat) (hw : w < 3) (hR : RI im) (hW : WI im w) (man : Nat) (hm : (man : Int) < im 18 w 3) (word food : Int) (hwo : 0 ≤ word ∧ word < 16) (hfo : ri food) : Cn l (XC G) yX7_utter Y_X7_utter [vR 18 w, vI (man : Int), vI word, vI food] (im, rs bt rt, lm) (pI fun x m' => x = uttW im w man word food ∧ ∃ im', RI im' ∧ ag [5, 20] im' (uttM im w man word food) ∧ m' = (im', rs bt rt, lm)) := by
  refine cn_of (by decide) (okC G) rfl (Nat.le_of_ble_eq_true rfl) ?_
  intro M ad hMl F
  subst hMl
  have w1 := hW.1
  have ht := takesW_in im w man word food
  have hwr : ri word := by constructor <;> omega
  obtain ⟨tg, htg⟩ : ∃ z, z = takesW im w man word food := ⟨_, rfl⟩
  rw [← htg] at ht
  refine wp_pad 2 ?_
  show Wp M (XC G) ad Y_X7_utter (pI fun x m' => x = uttW im w man word food ∧ ∃ im', RI im' ∧ ag [5, 20] im' (uttM im w man word food) ∧ m' = (im', rs bt rt, lm)) 0 [some (vR 18 w), some (vI (man : Int)), some (vI word), some (vI food), none, none] [] (im, rs bt rt, lm)
  refine q_aload_n (t := 1) F dX7_utter_0 rfl rfl rfl ?_
  refine q_iload_n (t := 2) F dX7_utter_1 rfl rfl rfl ?_
  refine q_iload_n (t := 3) F dX7_utter_2 rfl rfl rfl ?_
  refine q_iload_n (t := 4) F dX7_utter_3 rfl rfl rfl ?_
  refine wp_callV (t := 7) [_, _, _] F dX7_utter_4 k_X7_takes v_X7_takes ml_X7_71 rfl rfl rfl rfl (Nat.le_of_ble_eq_true rfl) (by decide) (m_18 (by omega)) (c_X7_takes _ G im bt rt lm w hw hR hW man hm word food hwr hfo) rfl (kI ?_)
  rintro x m' ⟨rfl, im2, hR2, hag, rfl⟩
  rw [← htg]
  refine q_istore (t := 9) F dX7_utter_7 (by decide) rfl rfl ?_
  refine q_aload_n (t := 10) F dX7_utter_9 rfl rfl rfl ?_
  refine g_X7_11 (t := 13) F dX7_utter_10 rfl (by omega) rfl ?_
  refine q_iload_n (t := 14) F dX7_utter_13 rfl rfl rfl ?_
  first | refine laN_19 (t := 15) F dX7_utter_14 (by omega) (by omega) rfl ?_ | refine la_19 (t := 15) F dX7_utter_14 (by omega) (by omega) (by omega) rfl ?_
  refine q_astore (t := 17) F dX7_utter_15 (by decide) rfl rfl ?_
  refine q_iload (t := 19) F dX7_utter_17 rfl rfl ?_
  refine q_bipush (t := 21) F dX7_utter_19 (by decide) rfl ?_
  refine wp_callSN (t := 24) [_, _] F dX7_utter_21 k_X8_within st_X8_within (F.2.2.2.2.2.2.2.2.1.1 _ mn_X7_74) rfl rfl (Nat.le_of_ble_eq_true rfl) (by decide) (c_X8_within _ G _ bt rt lm tg 10 (by constructor <;> omega) (by constructor <;> omega)) rfl (kI ?_)
  rintro x m' ⟨rfl, rfl⟩
  refine q_if_eq (t := 27) (u := 39) F dX7_utter_24 (by split <;> (constructor <;> omega)) (by decide) rfl (fun c24 => ?_) (fun c24 => ?_)
  · refine q_iconst (t := 40) F dX7_utter_39 rfl ?_
    refine q_iret F dX7_utter_40 rfl ?_
    have hu : uttW im w man word food = -1 := by
      unfold uttW
      rw [← htg]
      first
        | (rw [if_neg]; intro hh; split at c24 <;> omega)
        | (rw [if_neg]; intro hh; rw [hag 22 (by decide)] at c36; exact c36 hh.2)
    exact ⟨_, rfl, hu.symm, im2, hR2, by unfold uttM; rw [if_pos hu]; exact hag, rfl⟩
  · refine q_aload (t := 29) F dX7_utter_27 rfl rfl ?_
    refine g_X7_52 (t := 32) F dX7_utter_29 rfl (by omega) rfl ?_
    refine q_iload (t := 34) F dX7_utter_32 rfl rfl ?_
    refine ld_22 (t := 35) F dX7_utter_34 (by omega) (by split at c24 <;> omega) (by split at c24 <;> omega) rfl ?_
    try simp only [up_app, row_app, scr_app, cpy_app, Nat.reduceEqDiff, Int.reduceToNat, Int.toNat_natCast, and_true, true_and, and_false, false_and, and_self, reduceIte]
    refine q_iconst (t := 36) F dX7_utter_35 rfl ?_
    refine q_icmp_eq (t := 39) (u := 41) F dX7_utter_36 (by exact hR2 _ _ _) (by constructor <;> omega) (by decide) rfl (fun c36 => ?_) (fun c36 => ?_)
    · refine q_aload (t := 43) F dX7_utter_41 rfl rfl ?_
      refine g_X7_52 (t := 46) F dX7_utter_43 rfl (by omega) rfl ?_
      refine q_iload (t := 48) F dX7_utter_46 rfl rfl ?_
      refine q_iload_n (t := 49) F dX7_utter_48 rfl rfl rfl ?_
      refine st_22 (t := 50) F dX7_utter_49 (by omega) (by omega) (by omega) rfl ?_
      refine q_aload (t := 52) F dX7_utter_50 rfl rfl ?_
      refine g_X7_78 (t := 55) F dX7_utter_52 rfl (by omega) rfl ?_
      refine q_iload (t := 57) F dX7_utter_55 rfl rfl ?_
      refine q_iconst (t := 58) F dX7_utter_57 rfl ?_
      refine st_23 (t := 59) F dX7_utter_58 (by omega) (by split at c24 <;> omega) (by split at c24 <;> omega) rfl ?_
      refine q_iload (t := 61) F dX7_utter_59 rfl rfl ?_
      refine q_iret F dX7_utter_61 rfl ?_
      have ht0 : 0 ≤ tg := by split at c24 <;> omega
      have hu : uttW im w man word food = tg := by
        unfold uttW
        rw [← htg, if_pos ⟨ht0, by rw [← hag 22 (by decide)]; exact c36⟩]
      refine ⟨_, rfl, hu.symm, _, RI_up (RI_up hR2 hwr) (by constructor <;> omega), ?_, rfl⟩
      unfold uttM
      rw [hu, if_neg (by omega)]
      exact ag_upup (ag_upup hag)
    · refine q_iconst (t := 40) F dX7_utter_39 rfl ?_
      refine q_iret F dX7_utter_40 rfl ?_
      have hu : uttW im w man word food = -1 := by
        unfold uttW
        rw [← htg]
        first
          | (rw [if_neg]; intro hh; split at c24 <;> omega)
          | (rw [if_neg]; intro hh; rw [hag 22 (by decide)] at c36; exact c36 hh.2)
      exact ⟨_, rfl, hu.symm, im2, hR2, by unfold uttM; rw [if_pos hu]; exact hag, rfl⟩

/-- KISSING: the first n GAPS -/
def hnd (im : IM) (p q n : Nat) : IM := fun k i s => if s < n ∧ im 22 p s ≠ -1 ∧ im 22 q s = -1 then (if k = 22 ∧ i = q then im 22 p s else if k = 22 ∧ i = p then -1 else if k = 23 ∧ i = q then 0 else im k i s) else im k i s
theorem hnd_app (im : IM) (p q n k i s : Nat) : hnd im p q n k i s = if s < n ∧ im 22 p s ≠ -1 ∧ im 22 q s = -1 then (if k = 22 ∧ i = q then im 22 p s else if k = 22 ∧ i = p then -1 else if k = 23 ∧ i = q then 0 else im k i s) else im k i s := rfl
def hndN (im : IM) (p q : Nat) : Nat → Int
  | 0 => 0
  | n + 1 => hndN im p q n + (if im 22 p n ≠ -1 ∧ im 22 q n = -1 then 1 else 0)
theorem hnd_0 (im : IM) (p q : Nat) : hnd im p q 0 = im := by
  funext k i s
  rw [hnd_app, if_neg (by omega)]
theorem hnd_n {im : IM} {p q n : Nat} (h : ¬ (im 22 p n ≠ -1 ∧ im 22 q n = -1)) : hnd im p q (n + 1) = hnd im p q n := by
  funext k i s
  rw [hnd_app, hnd_app]
  by_cases hs : s = n
  · subst hs
    rw [if_neg (fun z => h z.2), if_neg (fun z => h z.2)]
  · by_cases h2 : s < n ∧ im 22 p s ≠ -1 ∧ im 22 q s = -1
    · rw [if_pos ⟨by omega, h2.2⟩, if_pos h2]
    · rw [if_neg (fun z => h2 ⟨by omega, z.2⟩), if_neg h2]
theorem hnd_at {im : IM} {p q n : Nat} (k i : Nat) : hnd im p q n k i n = im k i n := by
  rw [hnd_app, if_neg (by omega)]
theorem hnd_y {im : IM} {p q n : Nat} (hpq : p ≠ q) (h : im 22 p n ≠ -1 ∧ im 22 q n = -1) : up (up (up (hnd im p q n) 22 p n (-1)) 22 q n (im 22 p n)) 23 q n 0 = hnd im p q (n + 1) := by
  funext k i s
  rw [hnd_app im p q (n + 1)]
  simp only [up_app]
  by_cases hs : s = n
  · subst hs
    rw [if_pos (show s < s + 1 ∧ im 22 p s ≠ -1 ∧ im 22 q s = -1 from ⟨Nat.lt_succ_self _, h⟩), hnd_at]
    by_cases h1 : k = 22 ∧ i = q
    · rw [if_neg (by omega), if_pos (by omega), if_pos h1]
    · by_cases h2 : k = 22 ∧ i = p
      · rw [if_neg (by omega), if_neg (by omega), if_pos (by omega), if_neg h1, if_pos h2]
      · by_cases h3 : k = 23 ∧ i = q
        · rw [if_pos (by omega), if_neg h1, if_neg h2, if_pos h3]
        · rw [if_neg (by omega), if_neg (by omega), if_neg (by omega), if_neg h1, if_neg h2, if_neg h3]
  · rw [if_neg (by omega), if_neg (by omega), if_neg (by omega), hnd_app]
    by_cases h2 : s < n ∧ im 22 p s ≠ -1 ∧ im 22 q s = -1
    · rw [if_pos h2, if_pos (show s < n + 1 ∧ im 22 p s ≠ -1 ∧ im 22 q s = -1 from ⟨by omega, h2.2⟩)]
    · rw [if_neg h2, if_neg (show ¬ (s < n + 1 ∧ im 22 p s ≠ -1 ∧ im 22 q s = -1) from fun z => h2 ⟨by omega, z.2⟩)]
theorem RI_hnd {im : IM} {p q n : Nat} (h : RI im) : RI (hnd im p q n) := by
  intro k i s
  rw [hnd_app]
  repeat' split
  all_goals first | exact h _ _ _ | (constructor <;> omega)
theorem hndN_y {im : IM} {p q n : Nat} (h : im 22 p n ≠ -1 ∧ im 22 q n = -1) : hndN im p q (n + 1) = hndN im p q n + 1 := by
  show hndN im p q n + _ = _
  rw [if_pos h]
theorem hndN_n {im : IM} {p q n : Nat} (h : ¬ (im 22 p n ≠ -1 ∧ im 22 q n = -1)) : hndN im p q (n + 1) = hndN im p q n := by
  show hndN im p q n + _ = _
  rw [if_neg h, Int.add_zero]

set_option maxHeartbeats 4000000 in
theorem c_X7_handOn (l : Launch) (G : GS) (im : IM) (bt rt : Nat) (lm : IM) (w : Nat) (hw : w < 3) (hR : RI im) (a b : Nat) (ha : a < 5) (hb : b < 5) (hab : a ≠ b) : Cn l (XC G) yX7_handOn Y_X7_handOn [vR 18 w, vI (a : Int), vI (b : Int)] (im, rs bt rt, lm) (pI fun x m' => x = hndN im (5 * w + a) (5 * w + b) 10 ∧ m' = (hnd im (5 * w + a) (5 * w + b) 10, rs bt rt, lm)) := by
  refine cn_of (by decide) (okC G) rfl (Nat.le_of_ble_eq_true rfl) ?_
  intro M ad hMl F
  subst hMl
  refine wp_pad 4 ?_
  show Wp M (XC G) ad Y_X7_handOn (pI fun x m' => x = hndN im (5 * w + a) (5 * w + b) 10 ∧ m' = (hnd im (5 * w + a) (5 * w + b) 10, rs bt rt, lm)) 0 [some (vR 18 w), some (vI (a : Int)), some (vI (b : Int)), none, none, none, none] [] (im, rs bt rt, lm)
  refine q_aload_n (t := 1) F dX7_handOn_0 rfl rfl rfl ?_
  refine g_X7_11 (t := 4) F dX7_handOn_1 rfl (by omega) rfl ?_
  refine q_iload_n (t := 5) F dX7_handOn_4 rfl rfl rfl ?_
  first | refine laN_19 (t := 6) F dX7_handOn_5 (by omega) (by omega) rfl ?_ | refine la_19 (t := 6) F dX7_handOn_5 (by omega) (by omega) (by omega) rfl ?_
  refine q_astore_n (t := 7) F dX7_handOn_6 rfl (by decide) rfl rfl ?_
  refine q_aload_n (t := 8) F dX7_handOn_7 rfl rfl rfl ?_
  refine g_X7_11 (t := 11) F dX7_handOn_8 rfl (by omega) rfl ?_
  refine q_iload_n (t := 12) F dX7_handOn_11 rfl rfl rfl ?_
  first | refine laN_19 (t := 13) F dX7_handOn_12 (by omega) (by omega) rfl ?_ | refine la_19 (t := 13) F dX7_handOn_12 (by omega) (by omega) (by omega) rfl ?_
  refine q_astore (t := 15) F dX7_handOn_13 (by decide) rfl rfl ?_
  refine q_iconst (t := 16) F dX7_handOn_15 rfl ?_
  refine q_istore (t := 18) F dX7_handOn_16 (by decide) rfl rfl ?_
  refine q_iconst (t := 19) F dX7_handOn_18 rfl ?_
  refine q_istore (t := 21) F dX7_handOn_19 (by decide) rfl rfl ?_
  have L21 : ∀ (fz : Nat) (i : Nat), 10 - i < fz → i ≤ 10 → Wp M (XC G) ad Y_X7_handOn (pI fun x m' => x = hndN im (5 * w + a) (5 * w + b) 10 ∧ m' = (hnd im (5 * w + a) (5 * w + b) 10, rs bt rt, lm)) 21 [some (vR 18 w), some (vI (a : Int)), some (vI (b : Int)), some (vR 21 (5 * w + a)), some (vR 21 (5 * w + b)), some (vI (hndN im (5 * w + a) (5 * w + b) i)), some (vI (i : Int))] [] (hnd im (5 * w + a) (5 * w + b) i, rs bt rt, lm) := by
    intro fz
    induction fz with
    | zero => intro i h; exact absurd h (Nat.not_lt_zero _)
    | succ fz ih =>
      intro i hmeas hi
      have hRi : RI (hnd im (5 * w + a) (5 * w + b) i) := RI_hnd hR
      have hRR : ∀ k j, ri (im k j i) := fun k j => hR k j i
      refine q_iload (t := 23) F dX7_handOn_21 rfl rfl ?_
      refine q_bipush (t := 25) F dX7_handOn_23 (by decide) rfl ?_
      refine q_icmp_ge (t := 28) (u := 86) F dX7_handOn_25 (by first | exact hR _ _ _ | (constructor <;> omega)) (by first | exact hR _ _ _ | (constructor <;> omega)) (by decide) rfl (fun c25 => ?_) (fun c25 => ?_)
      · refine q_iload (t := 88) F dX7_handOn_86 rfl rfl ?_
        refine q_iret F dX7_handOn_88 rfl ?_
        exact ⟨_, rfl, by rw [show i = 10 by omega], by rw [show i = 10 by omega]⟩
      · refine q_aload_n (t := 29) F dX7_handOn_28 rfl rfl rfl ?_
        refine g_X7_52 (t := 32) F dX7_handOn_29 rfl (by omega) rfl ?_
        refine q_iload (t := 34) F dX7_handOn_32 rfl rfl ?_
        first | refine ldN_22 (t := 35) F dX7_handOn_34 (by omega) (by omega) rfl ?_ | refine ld_22 (t := 35) F dX7_handOn_34 (by omega) (by omega) (by omega) rfl ?_
        try rw [hnd_at]
        refine q_iconst (t := 36) F dX7_handOn_35 rfl ?_
        refine q_icmp_eq (t := 39) (u := 80) F dX7_handOn_36 (by first | exact hR _ _ _ | (constructor <;> omega)) (by first | exact hR _ _ _ | (constructor <;> omega)) (by decide) rfl (fun c36 => ?_) (fun c36 => ?_)
        · refine q_iinc (t := 83) F dX7_handOn_80 rfl (by decide) rfl rfl ?_
          refine q_goto (t := 21) F dX7_handOn_83 (by decide) ?_
          first
            | (rw [hnd_y (by omega) ⟨c36, c48⟩, ← hndN_y ⟨c36, c48⟩]
               exact ih (i + 1) (by omega) (by omega))
            | (have hno : ¬ (im 22 (5 * w + a) i ≠ -1 ∧ im 22 (5 * w + b) i = -1) := by omega
               rw [← hndN_n hno, ← hnd_n hno]
               exact ih (i + 1) (by omega) (by omega))
        · refine q_aload (t := 41) F dX7_handOn_39 rfl rfl ?_
          refine g_X7_52 (t := 44) F dX7_handOn_41 rfl (by omega) rfl ?_
          refine q_iload (t := 46) F dX7_handOn_44 rfl rfl ?_
          first | refine ldN_22 (t := 47) F dX7_handOn_46 (by omega) (by omega) rfl ?_ | refine ld_22 (t := 47) F dX7_handOn_46 (by omega) (by omega) (by omega) rfl ?_
          try rw [hnd_at]
          refine q_iconst (t := 48) F dX7_handOn_47 rfl ?_
          refine q_icmp_eq (t := 51) (u := 54) F dX7_handOn_48 (by first | exact hR _ _ _ | (constructor <;> omega)) (by first | exact hR _ _ _ | (constructor <;> omega)) (by decide) rfl (fun c48 => ?_) (fun c48 => ?_)
          · refine q_aload (t := 56) F dX7_handOn_54 rfl rfl ?_
            refine g_X7_52 (t := 59) F dX7_handOn_56 rfl (by omega) rfl ?_
            refine q_iload (t := 61) F dX7_handOn_59 rfl rfl ?_
            refine q_aload_n (t := 62) F dX7_handOn_61 rfl rfl rfl ?_
            refine q_iload (t := 64) F dX7_handOn_62 rfl rfl ?_
            refine wp_callV (t := 67) [_] F dX7_handOn_64 k_X3_empty v_X3_empty ml_X7_81 rfl rfl rfl rfl (Nat.le_of_ble_eq_true rfl) (by decide) (m_21 (by omega)) (c_X3_empty _ G (hnd im (5 * w + a) (5 * w + b) i) bt rt lm (5 * w + a) (by omega) i (by omega)) rfl (kI ?_)
            rintro x m' ⟨rfl, rfl⟩
            rw [hnd_at]
            first | refine stN_22 (t := 68) F dX7_handOn_67 (by omega) (by omega) rfl ?_ | refine st_22 (t := 68) F dX7_handOn_67 (by omega) (by omega) (by omega) rfl ?_
            refine q_aload (t := 70) F dX7_handOn_68 rfl rfl ?_
            refine g_X7_78 (t := 73) F dX7_handOn_70 rfl (by omega) rfl ?_
            refine q_iload (t := 75) F dX7_handOn_73 rfl rfl ?_
            refine q_iconst (t := 76) F dX7_handOn_75 rfl ?_
            first | refine stN_23 (t := 77) F dX7_handOn_76 (by omega) (by omega) rfl ?_ | refine st_23 (t := 77) F dX7_handOn_76 (by omega) (by omega) (by omega) rfl ?_
            refine q_iinc (t := 80) F dX7_handOn_77 rfl (by decide) rfl rfl ?_
            refine q_iinc (t := 83) F dX7_handOn_80 rfl (by decide) rfl rfl ?_
            refine q_goto (t := 21) F dX7_handOn_83 (by decide) ?_
            first
              | (rw [hnd_y (by omega) ⟨c36, c48⟩, ← hndN_y ⟨c36, c48⟩]
                 exact ih (i + 1) (by omega) (by omega))
              | (have hno : ¬ (im 22 (5 * w + a) i ≠ -1 ∧ im 22 (5 * w + b) i = -1) := by omega
                 rw [← hndN_n hno, ← hnd_n hno]
                 exact ih (i + 1) (by omega) (by omega))
          · refine q_goto (t := 80) F dX7_handOn_51 (by decide) ?_
            refine q_iinc (t := 83) F dX7_handOn_80 rfl (by decide) rfl rfl ?_
            refine q_goto (t := 21) F dX7_handOn_83 (by decide) ?_
            first
              | (rw [hnd_y (by omega) ⟨c36, c48⟩, ← hndN_y ⟨c36, c48⟩]
                 exact ih (i + 1) (by omega) (by omega))
              | (have hno : ¬ (im 22 (5 * w + a) i ≠ -1 ∧ im 22 (5 * w + b) i = -1) := by omega
                 rw [← hndN_n hno, ← hnd_n hno]
                 exact ih (i + 1) (by omega) (by omega))
  have h := L21 _ 0 (Nat.lt_succ_self _) (by omega)
  rw [hnd_0] at h
  exact h
end
section
/-! a cell of a world: what goes off when, how bad that is -/
def nmP (word hour number gap stuck : Int) : Nat → Int := fun s => if s = 0 then word else if s = 1 then 0 else if s = 2 then hour else if s = 3 then number else if s = 4 then gap else stuck
def hoK (T : Nat → (Nat → Int) → Int) (kind number word gap hour stuck : Int) : Int := holdsK kind number (T 1 (nmP word hour number gap stuck))
def offK (T : Nat → (Nat → Int) → Int) (kind number word age gap hour : Int) (i : Nat) : Bool := decide (hoK T kind number word gap (hour + i) (age + i + 1) ≤ age + i + 1)
def goK (T : Nat → (Nat → Int) → Int) (kind number word age gap hour : Int) (n : Nat) : Int := if word = -1 then -1 else findF (offK T kind number word age gap hour) 0 n
def beK (T : Nat → (Nat → Int) → Int) (kind number word age gap hour later c : Int) : Int := bearsK kind number (T 2 (nmP word (hour + later) number gap (age + later + 1))) c
/-- Bite in pure words: what it looks at is in its cells -/
theorem nmB_P (im : IM) (x y : Int) (h1 : im 17 0 1 = 0) : ∀ s, s < 6 → nmB im x y s = nmP (im 17 0 0) y (im 17 0 3) (im 17 0 4) x s := by
  intro s hs
  unfold nmB nmP
  rcases (show s = 0 ∨ s = 1 ∨ s = 2 ∨ s = 3 ∨ s = 4 ∨ s = 5 by omega) with rfl | rfl | rfl | rfl | rfl | rfl <;> simp [h1]
theorem goesB_K (im : IM) (j n : Nat) (h1 : im 17 0 1 = 0) : goesB im j n = goK (tellV im j) (im 16 0 2) (im 17 0 3) (im 17 0 0) (im 16 0 3) (im 17 0 4) (im 16 0 4) n := by
  unfold goesB goK
  have e : offB im j = offK (tellV im j) (im 16 0 2) (im 17 0 3) (im 17 0 0) (im 16 0 3) (im 17 0 4) (im 16 0 4) := by
    funext i
    unfold offB offK hoK holdsB
    rw [tellV_nm (nmB_P im _ _ h1)]
  rw [e]
theorem bearsB_K (im : IM) (j : Nat) (later c : Int) (h1 : im 17 0 1 = 0) : bearsB im j later c = beK (tellV im j) (im 16 0 2) (im 17 0 3) (im 17 0 0) (im 16 0 3) (im 17 0 4) (im 16 0 4) later c := by
  unfold bearsB beK
  rw [tellV_nm (nmB_P im _ _ h1)]
def goesW (im : IM) (w man gap n : Nat) : Int := goK (tellV im (im 18 w 7).toNat) (im 21 (5 * w + man) 0) (im 21 (5 * w + man) 1) (im 22 (5 * w + man) gap) (im 23 (5 * w + man) gap) gap (im 18 w 4) n
def bearsW (im : IM) (w man gap : Nat) (later c : Int) : Int := beK (tellV im (im 18 w 7).toNat) (im 21 (5 * w + man) 0) (im 21 (5 * w + man) 1) (im 22 (5 * w + man) gap) (im 23 (5 * w + man) gap) gap (im 18 w 4) later c
theorem tellV_fun {a b : IM} {j : Nat} (h3 : ∀ s, a 3 j s = b 3 j s) (h4 : ∀ s, a 4 j s = b 4 j s) : tellV a j = tellV b j := by
  funext part nm
  exact tellV_congr h3 h4
theorem look_goes (im : IM) (w man gap n : Nat) : goesB (lookM im w man gap) (im 18 w 7).toNat n = goesW im w man gap n := by
  rw [goesB_K _ _ _ rfl]
  unfold goesW
  rw [show tellV (lookM im w man gap) (im 18 w 7).toNat = tellV im (im 18 w 7).toNat from tellV_fun (fun s => rfl) (fun s => rfl)]
  rfl
theorem look_bears (im : IM) (w man gap : Nat) (later c : Int) : bearsB (lookM im w man gap) (im 18 w 7).toNat later c = bearsW im w man gap later c := by
  rw [bearsB_K _ _ _ _ rfl]
  unfold bearsW
  rw [show tellV (lookM im w man gap) (im 18 w 7).toNat = tellV im (im 18 w 7).toNat from tellV_fun (fun s => rfl) (fun s => rfl)]
  rfl
theorem goesW_congr {a b : IM} {w man gap n : Nat} (h21 : ∀ s, a 21 (5 * w + man) s = b 21 (5 * w + man) s) (h22 : a 22 (5 * w + man) gap = b 22 (5 * w + man) gap) (h23 : a 23 (5 * w + man) gap = b 23 (5 * w + man) gap) (h4 : a 18 w 4 = b 18 w 4) (h7 : a 18 w 7 = b 18 w 7) (t3 : ∀ j s, a 3 j s = b 3 j s) (t4 : ∀ j s, a 4 j s = b 4 j s) : goesW a w man gap n = goesW b w man gap n := by
  unfold goesW
  rw [h21, h21, h22, h23, h4, h7, tellV_fun (t3 _) (t4 _)]
theorem bearsW_congr {a b : IM} {w man gap : Nat} {x c : Int} (h21 : ∀ s, a 21 (5 * w + man) s = b 21 (5 * w + man) s) (h22 : a 22 (5 * w + man) gap = b 22 (5 * w + man) gap) (h23 : a 23 (5 * w + man) gap = b 23 (5 * w + man) gap) (h4 : a 18 w 4 = b 18 w 4) (h7 : a 18 w 7 = b 18 w 7) (t3 : ∀ j s, a 3 j s = b 3 j s) (t4 : ∀ j s, a 4 j s = b 4 j s) : bearsW a w man gap x c = bearsW b w man gap x c := by
  unfold bearsW
  rw [h21, h21, h22, h23, h4, h7, tellV_fun (t3 _) (t4 _)]
theorem goesW_ag {a b : IM} {l : List Nat} (h : ag l a b) (h3 : 3 ∉ l) (h4 : 4 ∉ l) (h0 : 18 ∉ l) (h1 : 21 ∉ l) (h2 : 22 ∉ l) (h5 : 23 ∉ l) (w man gap n : Nat) : goesW a w man gap n = goesW b w man gap n :=
  goesW_congr (fun s => h 21 h1 _ s) (h 22 h2 _ _) (h 23 h5 _ _) (h 18 h0 _ _) (h 18 h0 _ _) (fun j s => h 3 h3 j s) (fun j s => h 4 h4 j s)
theorem bearsW_ag {a b : IM} {l : List Nat} (h : ag l a b) (h3 : 3 ∉ l) (h4 : 4 ∉ l) (h0 : 18 ∉ l) (h1 : 21 ∉ l) (h2 : 22 ∉ l) (h5 : 23 ∉ l) (w man gap : Nat) (x c : Int) : bearsW a w man gap x c = bearsW b w man gap x c :=
  bearsW_congr (fun s => h 21 h1 _ s) (h 22 h2 _ _) (h 23 h5 _ _) (h 18 h0 _ _) (h 18 h0 _ _) (fun j s => h 3 h3 j s) (fun j s => h 4 h4 j s)
theorem goesW_in (im : IM) (w man gap n : Nat) : goesW im w man gap n = -1 ∨ 0 ≤ goesW im w man gap n ∧ goesW im w man gap n < n := by
  unfold goesW goK
  split
  · exact Or.inl rfl
  · have := findF_in (offK (tellV im (im 18 w 7).toNat) (im 21 (5 * w + man) 0) (im 21 (5 * w + man) 1) (im 22 (5 * w + man) gap) (im 23 (5 * w + man) gap) gap (im 18 w 4)) n 0
    omega
theorem goesW_none {im : IM} {w man gap n : Nat} (h : im 22 (5 * w + man) gap = -1) : goesW im w man gap n = -1 := by
  unfold goesW goK
  rw [if_pos h]
/-! AN HOUR -/
def badP (im : IM) (w N : Nat) : Int := bearsW im w (N / 10) (N % 10) 0 (chI (im 18 w 5) (im 18 w 4))
def shP (im : IM) (w : Nat) : Nat → Int
  | 0 => im 18 w 6
  | N + 1 => if goesW im w (N / 10) (N % 10) 1 = -1 then shP im w N else bm (shP im w N + badP im w N)
def cntO (im : IM) (w : Nat) : Nat → Int
  | 0 => 0
  | N + 1 => if goesW im w (N / 10) (N % 10) 1 = -1 then cntO im w N else cntO im w N + 1
theorem cntO_in (im : IM) (w N : Nat) : 0 ≤ cntO im w N ∧ cntO im w N ≤ N := by
  induction N with
  | zero => exact ⟨Int.le_refl 0, Int.le_refl 0⟩
  | succ N ih =>
    have h : cntO im w (N + 1) = if goesW im w (N / 10) (N % 10) 1 = -1 then cntO im w N else cntO im w N + 1 := rfl
    rw [h]
    split <;> constructor <;> omega
def pasM (im : IM) (w N : Nat) : IM := fun k i s =>
  if (k = 22 ∨ k = 23) ∧ 5 * w ≤ i ∧ s < 10 ∧ 10 * (i - 5 * w) + s < N then
    (if goesW im w (i - 5 * w) s 1 = -1 then (if k = 23 then bm (im 23 i s + 1) else im k i s) else (if k = 22 then -1 else im k i s))
  else if k = 18 ∧ i = w ∧ s = 6 then shP im w N else im k i s
theorem pasM_app (im : IM) (w N k i s : Nat) : pasM im w N k i s = if (k = 22 ∨ k = 23) ∧ 5 * w ≤ i ∧ s < 10 ∧ 10 * (i - 5 * w) + s < N then
    (if goesW im w (i - 5 * w) s 1 = -1 then (if k = 23 then bm (im 23 i s + 1) else im k i s) else (if k = 22 then -1 else im k i s))
  else if k = 18 ∧ i = w ∧ s = 6 then shP im w N else im k i s := rfl
theorem pasM_0 (im : IM) (w : Nat) : pasM im w 0 = im := by
  funext k i s
  rw [pasM_app, if_neg (by omega)]
  split
  · rename_i h; obtain ⟨rfl, rfl, rfl⟩ := h; rfl
  · rfl
theorem pasM_k (im : IM) (w N : Nat) {k : Nat} (h : k ≠ 22) (h2 : k ≠ 23) (h3 : k ≠ 18) (i s : Nat) : pasM im w N k i s = im k i s := by
  rw [pasM_app, if_neg (by omega), if_neg (by omega)]
theorem pasM_18 (im : IM) (w N : Nat) {s : Nat} (h : s ≠ 6) (i : Nat) : pasM im w N 18 i s = im 18 i s := by
  rw [pasM_app, if_neg (by omega), if_neg (by omega)]
theorem pasM_sh (im : IM) (w N : Nat) : pasM im w N 18 w 6 = shP im w N := by
  rw [pasM_app, if_neg (by omega), if_pos ⟨rfl, rfl, rfl⟩]
theorem pasM_c (im : IM) (w : Nat) {N man gap : Nat} (hN : N ≤ 10 * man + gap) {k : Nat} (hk : k = 22 ∨ k = 23) : pasM im w N k (5 * w + man) gap = im k (5 * w + man) gap := by
  rw [pasM_app, if_neg (by omega), if_neg (by omega)]
theorem RI_pas {im : IM} {w N : Nat} (h : RI im) : RI (pasM im w N) := by
  have hs : ∀ N, ri (shP im w N) := by
    intro N
    induction N with
    | zero => exact h _ _ _
    | succ N ih =>
      show ri (if goesW im w (N / 10) (N % 10) 1 = -1 then shP im w N else bm (shP im w N + badP im w N))
      split
      · exact ih
      · exact ri_b _
  intro k i s
  rw [pasM_app]
  repeat' split
  all_goals first | exact h _ _ _ | exact ri_b _ | exact hs _ | (constructor <;> omega)
/-- a cell that stays -/
theorem pasM_n {im : IM} {w man gap : Nat} (hg : gap < 10) (h : goesW im w man gap 1 = -1) : up (pasM im w (10 * man + gap)) 23 (5 * w + man) gap (bm (im 23 (5 * w + man) gap + 1)) = pasM im w (10 * man + gap + 1) := by
  have e1 : (10 * man + gap) / 10 = man := by omega
  have e2 : (10 * man + gap) % 10 = gap := by omega
  have hsh : shP im w (10 * man + gap + 1) = shP im w (10 * man + gap) := by
    show (if goesW im w ((10 * man + gap) / 10) ((10 * man + gap) % 10) 1 = -1 then shP im w (10 * man + gap) else _) = _
    rw [e1, e2, if_pos h]
  funext k i s
  rw [up_app, pasM_app im w (10 * man + gap + 1), pasM_app im w (10 * man + gap), hsh]
  by_cases hc : i = 5 * w + man ∧ s = gap ∧ (k = 22 ∨ k = 23)
  · obtain ⟨rfl, rfl, hk⟩ := hc
    rw [if_pos (show (k = 22 ∨ k = 23) ∧ 5 * w ≤ 5 * w + man ∧ s < 10 ∧ 10 * (5 * w + man - 5 * w) + s < 10 * man + s + 1 by omega), show 5 * w + man - 5 * w = man by omega, if_pos h]
    rcases hk with rfl | rfl
    · rw [if_neg (by omega), if_neg (by omega), if_neg (by omega), if_neg (by omega)]
    · rw [if_pos ⟨rfl, rfl, rfl⟩, if_pos rfl]
  · rw [if_neg (by omega)]
    by_cases h2 : (k = 22 ∨ k = 23) ∧ 5 * w ≤ i ∧ s < 10 ∧ 10 * (i - 5 * w) + s < 10 * man + gap
    · rw [if_pos h2, if_pos (show (k = 22 ∨ k = 23) ∧ 5 * w ≤ i ∧ s < 10 ∧ 10 * (i - 5 * w) + s < 10 * man + gap + 1 by omega)]
    · rw [if_neg h2, if_neg (show ¬ ((k = 22 ∨ k = 23) ∧ 5 * w ≤ i ∧ s < 10 ∧ 10 * (i - 5 * w) + s < 10 * man + gap + 1) by omega)]
theorem pasM_y {im : IM} {w man gap : Nat} (hg : gap < 10) (h : ¬ goesW im w man gap 1 = -1) : up (up (pasM im w (10 * man + gap)) 18 w 6 (bm (shP im w (10 * man + gap) + badP im w (10 * man + gap)))) 22 (5 * w + man) gap (-1) = pasM im w (10 * man + gap + 1) := by
  have e1 : (10 * man + gap) / 10 = man := by omega
  have e2 : (10 * man + gap) % 10 = gap := by omega
  have hsh : shP im w (10 * man + gap + 1) = bm (shP im w (10 * man + gap) + badP im w (10 * man + gap)) := by
    show (if goesW im w ((10 * man + gap) / 10) ((10 * man + gap) % 10) 1 = -1 then shP im w (10 * man + gap) else _) = _
    rw [e1, e2, if_neg h]
  rw [← hsh]
  funext k i s
  rw [up_app, up_app, pasM_app im w (10 * man + gap + 1), pasM_app im w (10 * man + gap)]
  by_cases hc : i = 5 * w + man ∧ s = gap ∧ (k = 22 ∨ k = 23)
  · obtain ⟨rfl, rfl, hk⟩ := hc
    rw [if_pos (show (k = 22 ∨ k = 23) ∧ 5 * w ≤ 5 * w + man ∧ s < 10 ∧ 10 * (5 * w + man - 5 * w) + s < 10 * man + s + 1 by omega), show 5 * w + man - 5 * w = man by omega, if_neg h]
    rcases hk with rfl | rfl
    · rw [if_pos ⟨rfl, rfl, rfl⟩, if_pos rfl]
    · rw [if_neg (by omega), if_neg (by omega), if_neg (by omega), if_neg (by omega), if_neg (by omega)]
  · rw [if_neg (by omega)]
    by_cases h2 : (k = 22 ∨ k = 23) ∧ 5 * w ≤ i ∧ s < 10 ∧ 10 * (i - 5 * w) + s < 10 * man + gap
    · rw [if_neg (by omega), if_pos h2, if_pos (show (k = 22 ∨ k = 23) ∧ 5 * w ≤ i ∧ s < 10 ∧ 10 * (i - 5 * w) + s < 10 * man + gap + 1 by omega)]
    · rw [if_neg h2, if_neg (show ¬ ((k = 22 ∨ k = 23) ∧ 5 * w ≤ i ∧ s < 10 ∧ 10 * (i - 5 * w) + s < 10 * man + gap + 1) by omega)]
      by_cases h3 : k = 18 ∧ i = w ∧ s = 6
      · rw [if_pos h3, if_pos h3]
      · rw [if_neg h3, if_neg h3, if_neg h3]

theorem scr_ag (im : IM) (a b : Int) (g : Nat → Nat → Int) : ag [5, 17] (scr im a b g) im := by
  intro k hk i s
  have h1 : k ≠ 5 := fun q => hk (by rw [q]; decide)
  have h2 : k ≠ 17 := fun q => hk (by rw [q]; decide)
  rw [scr_app, if_neg h1, if_neg (fun q => h2 q.1), if_neg (fun q => h2 q.1)]
theorem cntO_n {im : IM} {w man gap : Nat} (hg : gap < 10) (h : goesW im w man gap 1 = -1) : cntO im w (10 * man + (gap + 1)) = cntO im w (10 * man + gap) := by
  show (if goesW im w ((10 * man + gap) / 10) ((10 * man + gap) % 10) 1 = -1 then cntO im w (10 * man + gap) else _) = _
  rw [show (10 * man + gap) / 10 = man by omega, show (10 * man + gap) % 10 = gap by omega, if_pos h]
theorem cntO_y {im : IM} {w man gap : Nat} (hg : gap < 10) (h : goesW im w man gap 1 ≠ -1) : cntO im w (10 * man + (gap + 1)) = cntO im w (10 * man + gap) + 1 := by
  show (if goesW im w ((10 * man + gap) / 10) ((10 * man + gap) % 10) 1 = -1 then cntO im w (10 * man + gap) else cntO im w (10 * man + gap) + 1) = _
  rw [show (10 * man + gap) / 10 = man by omega, show (10 * man + gap) % 10 = gap by omega, if_neg h]

set_option maxHeartbeats 4000000 in
theorem c_X7_pass (l : Launch) (G : GS) (im : IM) (bt rt : Nat) (lm : IM) (w : Nat) (hw : w < 3) (hbt : bt < 6) (hR : RI im) (hW : WI im w) : Cn l (XC G) yX7_pass Y_X7_pass [vR 18 w, vR 16 0] (im, rs bt rt, lm) (pI fun x m' => x = cntO im w (10 * (im 18 w 3).toNat) ∧ ∃ im' bt', bt' < 6 ∧ RI im' ∧ ag [5, 16, 17] im' (up (pasM im w (10 * (im 18 w 3).toNat)) 18 w 4 (im 18 w 4 + 1)) ∧ m' = (im', rs bt' rt, lm)) := by
  refine cn_of (by decide) (okC G) rfl (Nat.le_of_ble_eq_true rfl) ?_
  intro M ad hMl F
  subst hMl
  have w1 := hW.1
  have w2 := hW.2.1
  have w3 := hW.2.2.1
  obtain ⟨sz, hsz⟩ : ∃ sz : Nat, im 18 w 3 = sz := ⟨(im 18 w 3).toNat, by omega⟩
  have hszN : (im 18 w 3).toNat = sz := by omega
  refine wp_pad 3 ?_
  show Wp M (XC G) ad Y_X7_pass (pI fun x m' => x = cntO im w (10 * (im 18 w 3).toNat) ∧ ∃ im' bt', bt' < 6 ∧ RI im' ∧ ag [5, 16, 17] im' (up (pasM im w (10 * (im 18 w 3).toNat)) 18 w 4 (im 18 w 4 + 1)) ∧ m' = (im', rs bt' rt, lm)) 0 [some (vR 18 w), some (vR 16 0), none, none, none] [] (im, rs bt rt, lm)
  refine q_iconst (t := 1) F dX7_pass_0 rfl ?_
  refine q_istore_n (t := 2) F dX7_pass_1 rfl (by decide) rfl rfl ?_
  refine q_iconst (t := 3) F dX7_pass_2 rfl ?_
  refine q_istore_n (t := 4) F dX7_pass_3 rfl (by decide) rfl rfl ?_
  have L4 : ∀ (fz : Nat) (man : Nat) (im2 : IM) (bt2 : Nat), sz - man < fz → man ≤ sz → bt2 < 6 → RI im2 → ag [5, 16, 17] im2 (pasM im w (10 * man)) → Wp M (XC G) ad Y_X7_pass (pI fun x m' => x = cntO im w (10 * (im 18 w 3).toNat) ∧ ∃ im' bt', bt' < 6 ∧ RI im' ∧ ag [5, 16, 17] im' (up (pasM im w (10 * (im 18 w 3).toNat)) 18 w 4 (im 18 w 4 + 1)) ∧ m' = (im', rs bt' rt, lm)) 4 [some (vR 18 w), some (vR 16 0), some (vI (cntO im w (10 * man))), some (vI (man : Int)), none] [] (im2, rs bt2 rt, lm) := by
    intro fz
    induction fz with
    | zero => intro man im2 bt2 h; exact absurd h (Nat.not_lt_zero _)
    | succ fz ih =>
      have ih4 := ih
      intro man im2 bt2 hmeas hman hbt2 hR2 hag
      have e3' : im2 18 w 3 = sz := by rw [← hsz]; exact (hag 18 (by decide) w 3).trans (pasM_18 im w _ (by decide) w)
      have e4' : im2 18 w 4 = im 18 w 4 := (hag 18 (by decide) w 4).trans (pasM_18 im w _ (by decide) w)
      refine q_iload_n (t := 5) F dX7_pass_4 rfl rfl rfl ?_
      refine q_aload_n (t := 6) F dX7_pass_5 rfl rfl rfl ?_
      refine g_X7_30 (t := 9) F dX7_pass_6 rfl (by omega) rfl ?_
      refine q_icmp_ge (t := 12) (u := 104) F dX7_pass_9 (by constructor <;> omega) (by rw [e3']; constructor <;> omega) (by decide) rfl (fun c9 => ?_) (fun c9 => ?_)
      · refine q_aload_n (t := 105) F dX7_pass_104 rfl rfl rfl ?_
        refine q_dupR (t := 106) F dX7_pass_105 rfl ?_
        refine g_X7_33 (t := 109) F dX7_pass_106 rfl (by omega) rfl ?_
        refine q_iconst (t := 110) F dX7_pass_109 rfl ?_
        refine q_iadd (t := 111) F dX7_pass_110 rfl ?_
        refine p_X7_33 (t := 114) F dX7_pass_111 rfl (by omega) rfl ?_
        refine q_iload_n (t := 115) F dX7_pass_114 rfl rfl rfl ?_
        refine q_iret F dX7_pass_115 rfl ?_
        rw [e3'] at c9
        have eN : man = sz := by omega
        subst eN
        rw [hszN]
        refine ⟨_, rfl, rfl, _, bt2, hbt2, RI_up hR2 (by constructor <;> omega), ?_, rfl⟩
        rw [e4']
        exact ag_upup hag
      · refine q_iconst (t := 13) F dX7_pass_12 rfl ?_
        refine q_istore (t := 15) F dX7_pass_13 (by decide) rfl rfl ?_
        have L15 : ∀ (fz : Nat) (gap : Nat) (im2 : IM) (bt2 : Nat), 10 - gap < fz → gap ≤ 10 → bt2 < 6 → RI im2 → ag [5, 16, 17] im2 (pasM im w (10 * man + gap)) → Wp M (XC G) ad Y_X7_pass (pI fun x m' => x = cntO im w (10 * (im 18 w 3).toNat) ∧ ∃ im' bt', bt' < 6 ∧ RI im' ∧ ag [5, 16, 17] im' (up (pasM im w (10 * (im 18 w 3).toNat)) 18 w 4 (im 18 w 4 + 1)) ∧ m' = (im', rs bt' rt, lm)) 15 [some (vR 18 w), some (vR 16 0), some (vI (cntO im w (10 * man + gap))), some (vI (man : Int)), some (vI (gap : Int))] [] (im2, rs bt2 rt, lm) := by
          intro fz
          induction fz with
          | zero => intro gap im2 bt2 h; exact absurd h (Nat.not_lt_zero _)
          | succ fz ih =>
            have ih15 := ih
            intro gap im2 bt2 hmeas hgap hbt2 hR2 hag
            refine q_iload (t := 17) F dX7_pass_15 rfl rfl ?_
            refine q_bipush (t := 19) F dX7_pass_17 (by decide) rfl ?_
            refine q_icmp_ge (t := 22) (u := 98) F dX7_pass_19 (by first | exact hR _ _ _ | (constructor <;> omega)) (by first | exact hR _ _ _ | (constructor <;> omega)) (by decide) rfl (fun c19 => ?_) (fun c19 => ?_)
            · refine q_iinc (t := 101) F dX7_pass_98 rfl (by decide) rfl rfl ?_
              refine q_goto (t := 4) F dX7_pass_101 (by decide) ?_
              refine wp_less 4 ?_
              have eN : 10 * man + gap = 10 * (man + 1) := by omega
              rw [eN]
              exact ih4 (man + 1) im2 bt2 (by omega) (by omega) hbt2 hR2 (by rw [← eN]; exact hag)
            · have hg10 : gap < 10 := by omega
              have e0 : pasM im w (10 * man + gap) 18 w 7 = im 18 w 7 := pasM_18 im w _ (by decide) w
              have e0' : im2 18 w 7 = im 18 w 7 := (hag 18 (by decide) w 7).trans e0
              have e3' : im2 18 w 3 = im 18 w 3 := (hag 18 (by decide) w 3).trans (pasM_18 im w _ (by decide) w)
              have e4' : im2 18 w 4 = im 18 w 4 := (hag 18 (by decide) w 4).trans (pasM_18 im w _ (by decide) w)
              have e5' : im2 18 w 5 = im 18 w 5 := (hag 18 (by decide) w 5).trans (pasM_18 im w _ (by decide) w)
              have e21 : ∀ s, im2 21 (5 * w + man) s = im 21 (5 * w + man) s := fun s => (hag 21 (by decide) _ s).trans (pasM_k im w _ (by decide) (by decide) (by decide) _ s)
              have e22 : im2 22 (5 * w + man) gap = im 22 (5 * w + man) gap := (hag 22 (by decide) _ gap).trans (pasM_c im w (Nat.le_refl _) (Or.inl rfl))
              have e23 : im2 23 (5 * w + man) gap = im 23 (5 * w + man) gap := (hag 23 (by decide) _ gap).trans (pasM_c im w (Nat.le_refl _) (Or.inr rfl))
              have et3 : ∀ j s, im2 3 j s = im 3 j s := fun j s => (hag 3 (by decide) j s).trans (pasM_k im w _ (by decide) (by decide) (by decide) _ s)
              have et4 : ∀ j s, im2 4 j s = im 4 j s := fun j s => (hag 4 (by decide) j s).trans (pasM_k im w _ (by decide) (by decide) (by decide) _ s)
              have hgo : goesW im2 w man gap 1 = goesW im w man gap 1 := goesW_congr e21 e22 e23 e4' e0' et3 et4
              have hbe : ∀ x c, bearsW im2 w man gap x c = bearsW im w man gap x c := fun x c => bearsW_congr e21 e22 e23 e4' e0' et3 et4
              have hpm := hW.2.2.2.2.2 man (by omega)
              have hpg := hpm.2.2 gap hg10
              have r20 : 0 ≤ im2 18 w 7 := by rw [e0']; exact hW.2.2.2.1.1
              have r21 : im2 18 w 7 < 6 := by rw [e0']; exact hW.2.2.2.1.2
              have hT2 : goodT (lookM im2 w man gap) (im2 18 w 7).toNat := by
                rw [e0']
                exact goodT_congr (fun s => et3 _ s) (fun s => et4 _ s) hW.2.2.2.2.1
              have k20 : 0 ≤ im2 21 (5 * w + man) 0 := by rw [e21]; exact hpm.1.1
              have k21 : im2 21 (5 * w + man) 0 < 6 := by rw [e21]; exact hpm.1.2
              have n20 : 0 ≤ im2 21 (5 * w + man) 1 := by rw [e21]; exact hpm.2.1.1
              have n21 : im2 21 (5 * w + man) 1 < 10 := by rw [e21]; exact hpm.2.1.2
              have ag2 : im2 22 (5 * w + man) gap ≠ -1 → 0 ≤ im2 23 (5 * w + man) gap ∧ im2 23 (5 * w + man) gap ≤ 3000 := by
                rw [e22, e23]
                intro hne
                have := hpg.2.2 hne
                omega
              have h20 : 0 ≤ im2 18 w 4 := by rw [e4']; exact w2.1
              have h21 : im2 18 w 4 ≤ 3000 := by rw [e4']; omega
              have hRl := RI_look (w := w) (p := man) hR2 hg10
              refine q_aload_n (t := 23) F dX7_pass_22 rfl rfl rfl ?_
              refine q_aload_n (t := 24) F dX7_pass_23 rfl rfl rfl ?_
              refine q_iload_n (t := 25) F dX7_pass_24 rfl rfl rfl ?_
              refine q_iload (t := 27) F dX7_pass_25 rfl rfl ?_
              refine wp_callV (t := 30) [_, _, _] F dX7_pass_27 k_X0_look v_X0_look ml_X7_85 rfl rfl rfl rfl (Nat.le_of_ble_eq_true rfl) (by decide) (m_16 (by omega)) (c_X0_look _ G im2 bt2 rt lm w man gap hw (by omega) hg10 r20 r21) rfl (kV ?_)
              rintro m' rfl
              refine q_aload_n (t := 31) F dX7_pass_30 rfl rfl rfl ?_
              refine q_iconst (t := 32) F dX7_pass_31 rfl ?_
              refine wp_callV (t := 35) [_] F dX7_pass_32 k_X0_goesOffIn v_X0_goesOffIn ml_X7_91 rfl rfl rfl rfl (Nat.le_of_ble_eq_true rfl) (by decide) (m_16 (by omega)) (c_X0_goesOffIn _ G (lookM im2 w man gap) (im2 18 w 7).toNat rt lm 1 (by omega) (by omega) hRl hT2 k20 k21 n20 n21 ag2 h20 h21) rfl (kI ?_)
              rintro x m' ⟨hx, xa, xb, xg, hxa, hxb, hxg, rfl⟩
              rw [look_goes, hgo] at hx
              subst hx
              have hgi := goesW_in im w man gap 1
              have hbt3 : (im2 18 w 7).toNat < 6 := by omega
              have hR3 := RI_scr hRl hxa hxb hxg
              have hag3 : ag [5, 16, 17] (scr (lookM im2 w man gap) xa xb xg) (pasM im w (10 * man + gap)) := ((scr_ag _ _ _ _).mono (by decide)).trans (((look_ag im2 w man gap).mono (by decide)).trans hag)
              have e23b : lookM im2 w man gap 23 (5 * w + man) gap = im 23 (5 * w + man) gap := (hag3 23 (by decide) _ gap).trans (pasM_c im w (Nat.le_refl _) (Or.inr rfl))
              refine q_iconst (t := 36) F dX7_pass_35 rfl ?_
              refine q_icmp_ne (t := 39) (u := 58) F dX7_pass_36 (by first | exact hR _ _ _ | (constructor <;> omega)) (by first | exact hR _ _ _ | (constructor <;> omega)) (by decide) rfl (fun c36 => ?_) (fun c36 => ?_)
              · refine q_aload_n (t := 59) F dX7_pass_58 rfl rfl rfl ?_
                refine q_dupR (t := 60) F dX7_pass_59 rfl ?_
                refine g_X7_36 (t := 63) F dX7_pass_60 rfl (by omega) rfl ?_
                try simp only [up_app, row_app, scr_app, cpy_app, Nat.reduceEqDiff, Int.reduceToNat, Int.toNat_natCast, and_true, true_and, and_false, false_and, and_self, reduceIte]
                refine q_aload_n (t := 64) F dX7_pass_63 rfl rfl rfl ?_
                refine q_iconst (t := 65) F dX7_pass_64 rfl ?_
                refine q_aload_n (t := 66) F dX7_pass_65 rfl rfl rfl ?_
                refine q_iconst (t := 67) F dX7_pass_66 rfl ?_
                refine wp_callV (t := 70) [_] F dX7_pass_67 k_X7_isChurchIn v_X7_isChurchIn ml_X7_94 rfl rfl rfl rfl (Nat.le_of_ble_eq_true rfl) (by decide) (m_18 (by omega)) (c_X7_isChurchIn _ G _ _ rt lm w hw 0 (by omega) (by omega) h20 h21) rfl (kI ?_)
                rintro x m' ⟨rfl, rfl⟩
                have hch : chI (scr (lookM im2 w man gap) xa xb xg 18 w 5) (scr (lookM im2 w man gap) xa xb xg 18 w 4 + 0) = chI (im 18 w 5) (im 18 w 4) := by
                  rw [show scr (lookM im2 w man gap) xa xb xg 18 w 5 = im2 18 w 5 from rfl, show scr (lookM im2 w man gap) xa xb xg 18 w 4 = im2 18 w 4 from rfl, e5', e4', Int.add_zero]
                rw [hch]
                have hci := chI_in (im 18 w 5) (im 18 w 4)
                have hwne : im2 22 (5 * w + man) gap ≠ -1 := fun z => c36 (goesW_none (e22.symm.trans z))
                refine wp_callV (t := 73) [_, _] F dX7_pass_70 k_X0_bears v_X0_bears ml_X7_98 rfl rfl rfl rfl (Nat.le_of_ble_eq_true rfl) (by decide) (m_16 (by omega)) (c_X0_bears _ G (scr (lookM im2 w man gap) xa xb xg) (im2 18 w 7).toNat rt lm 0 (chI (im 18 w 5) (im 18 w 4)) (by omega) (by omega) hci.1 hci.2 hbt3 hR3 (goodT_scr hT2) k20 k21 n20 n21 (ag2 hwne) h20 h21) rfl (kI ?_)
                rintro x m' ⟨hx, ya, yb, yg, hya, hyb, hyg, rfl⟩
                rw [bearsB_scr, look_bears, hbe] at hx
                rw [scr_scr]
                have hbb : x = badP im w (10 * man + gap) := by
                  rw [hx]
                  unfold badP
                  rw [show (10 * man + gap) / 10 = man by omega, show (10 * man + gap) % 10 = gap by omega]
                have hR4 := RI_scr hRl hya hyb hyg
                have hag4 : ag [5, 16, 17] (scr (lookM im2 w man gap) ya yb yg) (pasM im w (10 * man + gap)) := ((scr_ag _ _ _ _).mono (by decide)).trans (((look_ag im2 w man gap).mono (by decide)).trans hag)
                have hshb : lookM im2 w man gap 18 w 6 = shP im w (10 * man + gap) := (hag3 18 (by decide) w 6).trans (pasM_sh im w _)
                refine q_iadd (t := 74) F dX7_pass_73 rfl ?_
                refine q_norm ?_
                rw [hshb, hbb]
                refine p_X7_36 (t := 77) F dX7_pass_74 rfl (by omega) rfl ?_
                refine q_aload_n (t := 78) F dX7_pass_77 rfl rfl rfl ?_
                refine g_X7_11 (t := 81) F dX7_pass_78 rfl (by omega) rfl ?_
                refine q_iload_n (t := 82) F dX7_pass_81 rfl rfl rfl ?_
                first | refine laN_19 (t := 83) F dX7_pass_82 (by omega) (by omega) rfl ?_ | refine la_19 (t := 83) F dX7_pass_82 (by omega) (by omega) (by omega) rfl ?_
                refine q_iload (t := 85) F dX7_pass_83 rfl rfl ?_
                refine wp_callV (t := 88) [_] F dX7_pass_85 k_X3_empty v_X3_empty ml_X7_81 rfl rfl rfl rfl (Nat.le_of_ble_eq_true rfl) (by decide) (m_21 (by omega)) (c_X3_empty _ G _ _ rt lm (5 * w + man) (by omega) gap hg10) rfl (kI ?_)
                rintro x m' ⟨rfl, rfl⟩
                refine q_popI (t := 89) F dX7_pass_88 rfl ?_
                refine q_iinc (t := 92) F dX7_pass_89 rfl (by decide) rfl rfl ?_
                refine q_iinc (t := 95) F dX7_pass_92 rfl (by decide) rfl rfl ?_
                refine q_goto (t := 15) F dX7_pass_95 (by decide) ?_
                first
                  | (rw [← cntO_n (by omega) c36]
                     exact ih15 (gap + 1) _ _ (by omega) (by omega) hbt3 (RI_up hR3 (ri_b _)) (by rw [show 10 * man + (gap + 1) = 10 * man + gap + 1 by omega, ← pasM_n hg10 c36]; exact ag_upup hag3))
                  | (rw [← cntO_y (by omega) c36]
                     exact ih15 (gap + 1) _ _ (by omega) (by omega) hbt3 (RI_up (RI_up hR4 (ri_b _)) (by constructor <;> omega)) (by rw [show 10 * man + (gap + 1) = 10 * man + gap + 1 by omega, ← pasM_y hg10 c36]; exact ag_upup (ag_upup hag4)))
              · refine q_aload_n (t := 40) F dX7_pass_39 rfl rfl rfl ?_
                refine g_X7_11 (t := 43) F dX7_pass_40 rfl (by omega) rfl ?_
                refine q_iload_n (t := 44) F dX7_pass_43 rfl rfl rfl ?_
                first | refine laN_19 (t := 45) F dX7_pass_44 (by omega) (by omega) rfl ?_ | refine la_19 (t := 45) F dX7_pass_44 (by omega) (by omega) (by omega) rfl ?_
                refine g_X7_78 (t := 48) F dX7_pass_45 rfl (by omega) rfl ?_
                refine q_iload (t := 50) F dX7_pass_48 rfl rfl ?_
                refine q_dup2 (t := 51) F dX7_pass_50 rfl ?_
                first | refine ldN_23 (t := 52) F dX7_pass_51 (by omega) (by omega) rfl ?_ | refine ld_23 (t := 52) F dX7_pass_51 (by omega) (by omega) (by omega) rfl ?_
                try simp only [up_app, row_app, scr_app, cpy_app, Nat.reduceEqDiff, Int.reduceToNat, Int.toNat_natCast, and_true, true_and, and_false, false_and, and_self, reduceIte]
                refine q_iconst (t := 53) F dX7_pass_52 rfl ?_
                refine q_iadd (t := 54) F dX7_pass_53 rfl ?_
                refine q_norm ?_
                rw [e23b]
                first | refine stN_23 (t := 55) F dX7_pass_54 (by omega) (by omega) rfl ?_ | refine st_23 (t := 55) F dX7_pass_54 (by omega) (by omega) (by omega) rfl ?_
                refine q_goto (t := 92) F dX7_pass_55 (by decide) ?_
                refine q_iinc (t := 95) F dX7_pass_92 rfl (by decide) rfl rfl ?_
                refine q_goto (t := 15) F dX7_pass_95 (by decide) ?_
                first
                  | (rw [← cntO_n (by omega) c36]
                     exact ih15 (gap + 1) _ _ (by omega) (by omega) hbt3 (RI_up hR3 (ri_b _)) (by rw [show 10 * man + (gap + 1) = 10 * man + gap + 1 by omega, ← pasM_n hg10 c36]; exact ag_upup hag3))
                  | (rw [← cntO_y (by omega) c36]
                     exact ih15 (gap + 1) _ _ (by omega) (by omega) hbt3 (RI_up (RI_up hR4 (ri_b _)) (by constructor <;> omega)) (by rw [show 10 * man + (gap + 1) = 10 * man + gap + 1 by omega, ← pasM_y hg10 c36]; exact ag_upup (ag_upup hag4)))
        exact L15 _ 0 im2 bt2 (Nat.lt_succ_self _) (by omega) hbt2 hR2 hag
  refine wp_less 4 ?_
  exact L4 _ 0 im bt (Nat.lt_succ_self _) (by omega) hbt hR (by rw [pasM_0]; exact ag_rfl _ _)
end
section
/-! Foresight -/
/-- what a look at a cell needs -/
theorem cell_of {im : IM} {w man : Nat} (hW : WI im w) (hm : (man : Int) < im 18 w 3) : 0 ≤ im 18 w 7 ∧ im 18 w 7 < 6 ∧ goodT im (im 18 w 7).toNat ∧ 0 ≤ im 21 (5 * w + man) 0 ∧ im 21 (5 * w + man) 0 < 6 ∧ 0 ≤ im 21 (5 * w + man) 1 ∧ im 21 (5 * w + man) 1 < 10 ∧ (∀ gap, gap < 10 → im 22 (5 * w + man) gap ≠ -1 → 0 ≤ im 23 (5 * w + man) gap ∧ im 23 (5 * w + man) gap ≤ 3000) ∧ 0 ≤ im 18 w 4 ∧ im 18 w 4 ≤ 3000 ∧ man < 5 := by
  obtain ⟨h1, h2, h3, h4, h5, h6⟩ := hW
  have hp := h6 man hm
  refine ⟨h4.1, h4.2, h5, hp.1.1, hp.1.2, hp.2.1.1, hp.2.1.2, fun gap hg hne => ?_, h2.1, by omega, by omega⟩
  have := (hp.2.2 gap hg).2.2 hne
  omega
def whenF (im : IM) (w n N : Nat) : Int := if ((N / 10 : Nat) : Int) < im 18 w 3 then goesW im w (N / 10) (N % 10) n else -1
def costF (im : IM) (w n N : Nat) : Int := if whenF im w n N = -1 then 0 else bearsW im w (N / 10) (N % 10) (whenF im w n N) (chI (im 18 w 5) (im 18 w 4 + whenF im w n N))
def sumF (im : IM) (w n : Nat) : Nat → Int
  | 0 => 0
  | N + 1 => sumF im w n N + costF im w n N
def cntF (im : IM) (w n : Nat) : Nat → Int
  | 0 => 0
  | N + 1 => cntF im w n N + (if whenF im w n N = -1 then 0 else 1)
def firstF (im : IM) (w n : Nat) : Nat → Int
  | 0 => -1
  | N + 1 => if whenF im w n N ≠ -1 ∧ (firstF im w n N = -1 ∨ whenF im w n N < whenF im w n (firstF im w n N).toNat) then (N : Int) else firstF im w n N
theorem whenF_in (im : IM) (w n N : Nat) : whenF im w n N = -1 ∨ 0 ≤ whenF im w n N ∧ whenF im w n N < n := by
  unfold whenF
  split
  · exact goesW_in _ _ _ _ _
  · exact Or.inl rfl
theorem beK_in {T : Nat → (Nat → Int) → Int} (hT : ∀ a b, 0 ≤ T a b ∧ T a b ≤ 99) {k n a b c d x y : Int} (n0 : 0 ≤ n) (n1 : n < 10) : 0 ≤ beK T k n a b c d x y ∧ beK T k n a b c d x y ≤ 700 := bearsK_in n0 n1 (hT _ _).1 (hT _ _).2
theorem bearsW_in {im : IM} {w man : Nat} (hW : WI im w) (hm : (man : Int) < im 18 w 3) (gap : Nat) (x c : Int) : 0 ≤ bearsW im w man gap x c ∧ bearsW im w man gap x c ≤ 700 := beK_in (fun a b => tellV_in _ _ _ _) (hW.2.2.2.2.2 man hm).2.1.1 (hW.2.2.2.2.2 man hm).2.1.2
theorem costF_in {im : IM} {w n : Nat} (hW : WI im w) (N : Nat) : 0 ≤ costF im w n N ∧ costF im w n N ≤ 700 := by
  unfold costF
  split
  · omega
  · rename_i h
    by_cases hm : ((N / 10 : Nat) : Int) < im 18 w 3
    · exact bearsW_in hW hm _ _ _
    · exact absurd (by unfold whenF; rw [if_neg hm]) h
theorem sumF_in {im : IM} {w n : Nat} (hW : WI im w) (N : Nat) : 0 ≤ sumF im w n N ∧ sumF im w n N ≤ 700 * N := by
  induction N with
  | zero => exact ⟨Int.le_refl 0, Int.le_refl 0⟩
  | succ N ih =>
    have h : sumF im w n (N + 1) = sumF im w n N + costF im w n N := rfl
    have := costF_in (n := n) hW N
    rw [h]
    omega
theorem cntF_in (im : IM) (w n N : Nat) : 0 ≤ cntF im w n N ∧ cntF im w n N ≤ N := by
  induction N with
  | zero => exact ⟨Int.le_refl 0, Int.le_refl 0⟩
  | succ N ih =>
    have h : cntF im w n (N + 1) = cntF im w n N + (if whenF im w n N = -1 then 0 else 1) := rfl
    rw [h]
    split <;> constructor <;> omega
theorem firstF_in (im : IM) (w n N : Nat) : firstF im w n N = -1 ∨ 0 ≤ firstF im w n N ∧ firstF im w n N < N := by
  induction N with
  | zero => exact Or.inl rfl
  | succ N ih =>
    have h : firstF im w n (N + 1) = if whenF im w n N ≠ -1 ∧ (firstF im w n N = -1 ∨ whenF im w n N < whenF im w n (firstF im w n N).toNat) then (N : Int) else firstF im w n N := rfl
    rw [h]
    split
    · right; omega
    · omega
/-- Foresight.note -/
def noteM (im : IM) (N : Nat) (bad : Int) : IM := if im 9 0 6 = -1 ∨ im 10 0 N < im 10 0 (im 9 0 6).toNat then up (up (up (up im 11 0 N bad) 9 0 4 (im 9 0 4 + bad)) 9 0 5 (im 9 0 5 + 1)) 9 0 6 (N : Int) else up (up (up im 11 0 N bad) 9 0 4 (im 9 0 4 + bad)) 9 0 5 (im 9 0 5 + 1)

set_option maxHeartbeats 4000000 in
theorem c_X1_note (l : Launch) (G : GS) (im : IM) (bt rt : Nat) (lm : IM) (hR : RI im) (N : Nat) (hN : N < 50) (bad : Int) (f0 : im 9 0 6 = -1 ∨ 0 ≤ im 9 0 6 ∧ im 9 0 6 < 50) : Cn l (XC G) yX1_note Y_X1_note [vR 9 0, vI (N : Int), vI bad] (im, rs bt rt, lm) (pV fun m' => m' = (noteM im N bad, rs bt rt, lm)) := by
  refine cn_of (by decide) (okC G) rfl (Nat.le_of_ble_eq_true rfl) ?_
  intro M ad hMl F
  subst hMl
  refine wp_pad 0 ?_
  show Wp M (XC G) ad Y_X1_note (pV fun m' => m' = (noteM im N bad, rs bt rt, lm)) 0 [some (vR 9 0), some (vI (N : Int)), some (vI bad)] [] (im, rs bt rt, lm)
  refine q_aload_n (t := 1) F dX1_note_0 rfl rfl rfl ?_
  refine g_X1_15 (t := 4) F dX1_note_1 rfl rfl ?_
  refine q_iload_n (t := 5) F dX1_note_4 rfl rfl rfl ?_
  refine q_iload_n (t := 6) F dX1_note_5 rfl rfl rfl ?_
  first | refine stN_11 (t := 7) F dX1_note_6 (by omega) rfl ?_ | refine st_11 (t := 7) F dX1_note_6 (by omega) (by omega) rfl ?_
  refine q_aload_n (t := 8) F dX1_note_7 rfl rfl rfl ?_
  refine q_dupR (t := 9) F dX1_note_8 rfl ?_
  refine g_X1_24 (t := 12) F dX1_note_9 rfl rfl ?_
  try simp only [up_app, row_app, scr_app, cpy_app, Nat.reduceEqDiff, Int.reduceToNat, Int.toNat_natCast, and_true, true_and, and_false, false_and, and_self, reduceIte]
  refine q_iload_n (t := 13) F dX1_note_12 rfl rfl rfl ?_
  refine q_iadd (t := 14) F dX1_note_13 rfl ?_
  refine p_X1_24 (t := 17) F dX1_note_14 rfl rfl ?_
  refine q_aload_n (t := 18) F dX1_note_17 rfl rfl rfl ?_
  refine q_dupR (t := 19) F dX1_note_18 rfl ?_
  refine g_X1_28 (t := 22) F dX1_note_19 rfl rfl ?_
  try simp only [up_app, row_app, scr_app, cpy_app, Nat.reduceEqDiff, Int.reduceToNat, Int.toNat_natCast, and_true, true_and, and_false, false_and, and_self, reduceIte]
  refine q_iconst (t := 23) F dX1_note_22 rfl ?_
  refine q_iadd (t := 24) F dX1_note_23 rfl ?_
  refine p_X1_28 (t := 27) F dX1_note_24 rfl rfl ?_
  refine q_aload_n (t := 28) F dX1_note_27 rfl rfl rfl ?_
  refine g_X1_31 (t := 31) F dX1_note_28 rfl rfl ?_
  try simp only [up_app, row_app, scr_app, cpy_app, Nat.reduceEqDiff, Int.reduceToNat, Int.toNat_natCast, and_true, true_and, and_false, false_and, and_self, reduceIte]
  refine q_iconst (t := 32) F dX1_note_31 rfl ?_
  refine q_icmp_eq (t := 35) (u := 53) F dX1_note_32 (by first | exact hR _ _ _ | (constructor <;> omega)) (by first | exact hR _ _ _ | (constructor <;> omega)) (by decide) rfl (fun c32 => ?_) (fun c32 => ?_)
  · refine q_aload_n (t := 54) F dX1_note_53 rfl rfl rfl ?_
    refine q_iload_n (t := 55) F dX1_note_54 rfl rfl rfl ?_
    refine p_X1_31 (t := 58) F dX1_note_55 rfl rfl ?_
    refine q_vret F dX1_note_58 rfl ?_
    refine ⟨rfl, ?_⟩
    show (_ : Mem) = _
    unfold noteM
    first | (rw [if_pos (by omega)]) | (rw [if_neg (by omega)])
  · refine q_aload_n (t := 36) F dX1_note_35 rfl rfl rfl ?_
    refine g_X1_9 (t := 39) F dX1_note_36 rfl rfl ?_
    refine q_iload_n (t := 40) F dX1_note_39 rfl rfl rfl ?_
    first | refine ldN_10 (t := 41) F dX1_note_40 (by omega) rfl ?_ | refine ld_10 (t := 41) F dX1_note_40 (by omega) (by omega) rfl ?_
    try simp only [up_app, row_app, scr_app, cpy_app, Nat.reduceEqDiff, Int.reduceToNat, Int.toNat_natCast, and_true, true_and, and_false, false_and, and_self, reduceIte]
    refine q_aload_n (t := 42) F dX1_note_41 rfl rfl rfl ?_
    refine g_X1_9 (t := 45) F dX1_note_42 rfl rfl ?_
    refine q_aload_n (t := 46) F dX1_note_45 rfl rfl rfl ?_
    refine g_X1_31 (t := 49) F dX1_note_46 rfl rfl ?_
    try simp only [up_app, row_app, scr_app, cpy_app, Nat.reduceEqDiff, Int.reduceToNat, Int.toNat_natCast, and_true, true_and, and_false, false_and, and_self, reduceIte]
    refine ld_10 (t := 50) F dX1_note_49 (by omega) (by omega) rfl ?_
    try simp only [up_app, row_app, scr_app, cpy_app, Nat.reduceEqDiff, Int.reduceToNat, Int.toNat_natCast, and_true, true_and, and_false, false_and, and_self, reduceIte]
    refine q_icmp_ge (t := 53) (u := 58) F dX1_note_50 (by first | exact hR _ _ _ | (constructor <;> omega)) (by first | exact hR _ _ _ | (constructor <;> omega)) (by decide) rfl (fun c50 => ?_) (fun c50 => ?_)
    · refine q_vret F dX1_note_58 rfl ?_
      refine ⟨rfl, ?_⟩
      show (_ : Mem) = _
      unfold noteM
      first | (rw [if_pos (by omega)]) | (rw [if_neg (by omega)])
    · refine q_aload_n (t := 54) F dX1_note_53 rfl rfl rfl ?_
      refine q_iload_n (t := 55) F dX1_note_54 rfl rfl rfl ?_
      refine p_X1_31 (t := 58) F dX1_note_55 rfl rfl ?_
      refine q_vret F dX1_note_58 rfl ?_
      refine ⟨rfl, ?_⟩
      show (_ : Mem) = _
      unfold noteM
      first | (rw [if_pos (by omega)]) | (rw [if_neg (by omega)])

/-- the first N cells are foreseen -/
def FI (im im2 : IM) (w n N : Nat) : Prop := ag [5, 9, 10, 11, 16, 17] im2 im ∧ (∀ M, M < N → im2 10 0 M = whenF im w n M ∧ im2 11 0 M = costF im w n M) ∧ im2 9 0 4 = sumF im w n N ∧ im2 9 0 5 = cntF im w n N ∧ im2 9 0 6 = firstF im w n N
/-- a cell, its when and cost laid -/
def laid (im2 : IM) (N : Nat) (x c : Int) : IM := up (up im2 10 0 N x) 11 0 N c
theorem FI_none {im im2 im3 : IM} {w n N : Nat} (h : FI im im2 w n N) (hx : whenF im w n N = -1) (h3 : ag [5, 16, 17] im3 (laid im2 N (-1) 0)) : FI im im3 w n (N + 1) := by
  obtain ⟨g1, g2, g3, g4, g5⟩ := h
  have e9 : ∀ s, im3 9 0 s = im2 9 0 s := fun s => h3 9 (by decide) 0 s
  refine ⟨?_, fun M hM => ?_, ?_, ?_, ?_⟩
  · refine ag.trans (h3.mono (by decide)) ?_
    exact ag_up (ag_up g1 (by decide)) (by decide)
  · rw [h3 10 (by decide), h3 11 (by decide)]
    unfold laid
    by_cases hMN : M = N
    · subst hMN
      simp only [up_app, Nat.reduceEqDiff, false_and, true_and, if_false, if_true]
      exact ⟨hx.symm, by unfold costF; rw [if_pos hx]⟩
    · have := g2 M (by omega)
      simp only [up_app, Nat.reduceEqDiff, false_and, true_and, if_false, if_neg hMN]
      exact this
  · rw [e9, g3]
    show _ = sumF im w n N + costF im w n N
    unfold costF
    rw [if_pos hx, Int.add_zero]
  · rw [e9, g4]
    show _ = cntF im w n N + _
    rw [if_pos hx, Int.add_zero]
  · rw [e9, g5]
    show _ = if whenF im w n N ≠ -1 ∧ _ then _ else _
    rw [if_neg (fun z => z.1 hx)]
theorem FI_note {im im2 im3 : IM} {w n N : Nat} (h : FI im im2 w n N) (hx : whenF im w n N ≠ -1) (h3 : ag [5, 16, 17] im3 (laid im2 N (whenF im w n N) 0)) : FI im (noteM im3 N (costF im w n N)) w n (N + 1) := by
  obtain ⟨g1, g2, g3, g4, g5⟩ := h
  have e9 : ∀ s, im3 9 0 s = im2 9 0 s := fun s => h3 9 (by decide) 0 s
  have hf := firstF_in im w n N
  have e10 : im3 10 0 N = whenF im w n N := by
    rw [h3 10 (by decide)]
    simp only [laid, up_app, Nat.reduceEqDiff, false_and, true_and, if_false, if_true]
  have e10' : firstF im w n N ≠ -1 → im3 10 0 (firstF im w n N).toNat = whenF im w n (firstF im w n N).toNat := by
    intro hne
    have hlt : (firstF im w n N).toNat < N := by omega
    rw [h3 10 (by decide), ← (g2 _ hlt).1]
    have hne2 : (firstF im w n N).toNat ≠ N := by omega
    simp only [laid, up_app, Nat.reduceEqDiff, false_and, true_and, if_false, if_neg hne2]
  have hc : (im3 9 0 6 = -1 ∨ im3 10 0 N < im3 10 0 (im3 9 0 6).toNat) ↔ (whenF im w n N ≠ -1 ∧ (firstF im w n N = -1 ∨ whenF im w n N < whenF im w n (firstF im w n N).toNat)) := by
    rw [e9, g5, e10]
    by_cases hne : firstF im w n N = -1
    · simp [hne, hx]
    · rw [e10' hne]
      simp [hne, hx]
  have hk : ∀ k i s, k ≠ 9 → k ≠ 11 → noteM im3 N (costF im w n N) k i s = im3 k i s := by
    intro k i s h1 h2
    unfold noteM
    split <;> simp [up_app, h1, h2]
  have h11 : ∀ s, noteM im3 N (costF im w n N) 11 0 s = if s = N then costF im w n N else im3 11 0 s := by
    intro s
    unfold noteM
    split <;> simp [up_app]
  have h94 : noteM im3 N (costF im w n N) 9 0 4 = im3 9 0 4 + costF im w n N := by
    unfold noteM
    split <;> simp [up_app]
  have h95 : noteM im3 N (costF im w n N) 9 0 5 = im3 9 0 5 + 1 := by
    unfold noteM
    split <;> simp [up_app]
  have h96 : noteM im3 N (costF im w n N) 9 0 6 = if whenF im w n N ≠ -1 ∧ (firstF im w n N = -1 ∨ whenF im w n N < whenF im w n (firstF im w n N).toNat) then (N : Int) else im3 9 0 6 := by
    unfold noteM
    by_cases hcc : im3 9 0 6 = -1 ∨ im3 10 0 N < im3 10 0 (im3 9 0 6).toNat
    · rw [if_pos hcc, if_pos (hc.mp hcc)]
      simp [up_app]
    · rw [if_neg hcc, if_neg (fun z => hcc (hc.mpr z))]
      simp [up_app]
  refine ⟨?_, fun M hM => ?_, ?_, ?_, ?_⟩
  · intro k hk2 i s
    rw [hk k i s (fun z => hk2 (by rw [z]; decide)) (fun z => hk2 (by rw [z]; decide))]
    refine ((ag.trans (h3.mono (by decide)) ?_) : ag [5, 9, 10, 11, 16, 17] im3 im) k hk2 i s
    exact ag_up (ag_up g1 (by decide)) (by decide)
  · rw [hk 10 0 M (by decide) (by decide), h11]
    by_cases hMN : M = N
    · subst hMN
      rw [if_pos rfl, e10]
      exact ⟨rfl, rfl⟩
    · have := g2 M (by omega)
      rw [if_neg hMN, h3 10 (by decide), h3 11 (by decide)]
      simp only [laid, up_app, Nat.reduceEqDiff, false_and, true_and, if_false, if_neg hMN]
      exact this
  · rw [h94, e9, g3]; rfl
  · rw [h95, e9, g4]
    show _ = cntF im w n N + _
    rw [if_neg hx]
  · rw [h96, e9, g5]; rfl
theorem laid_ag {im2 im4 : IM} {N : Nat} {x : Int} (h : ag [5, 16, 17] im4 (up (up im2 10 0 N (-1)) 11 0 N 0)) : ag [5, 16, 17] (up im4 10 0 N x) (laid im2 N x 0) := by
  intro k hk i s
  have := h k hk i s
  unfold laid
  simp only [up_app] at this ⊢
  by_cases h1 : k = 10 ∧ i = 0 ∧ s = N
  · rw [if_pos h1, if_neg (by omega), if_pos h1]
  · rw [if_neg h1, this, if_neg h1, if_neg h1]
theorem RI_note {im : IM} {N : Nat} {b : Int} (h : RI im) (hN : N < 50) (hb : ri b) (h1 : ri (im 9 0 4 + b)) (h2 : ri (im 9 0 5 + 1)) : RI (noteM im N b) := by
  unfold noteM
  split
  · exact RI_up (RI_up (RI_up (RI_up h hb) h1) h2) (by constructor <;> omega)
  · exact RI_up (RI_up (RI_up h hb) h1) h2
theorem FI_RI {im im2 : IM} {w n N : Nat} (h : FI im im2 w n N) (hW : WI im w) (hN : N < 50) : ri (im2 9 0 4 + costF im w n N) ∧ ri (im2 9 0 5 + 1) := by
  obtain ⟨g1, g2, g3, g4, g5⟩ := h
  have h1 := sumF_in (n := n) hW N
  have h2 := costF_in (n := n) hW N
  have h3 := cntF_in im w n N
  rw [g3, g4]
  constructor <;> constructor <;> omega

set_option maxHeartbeats 4000000 in
theorem c_X1_look (l : Launch) (G : GS) (im : IM) (bt rt : Nat) (lm : IM) (w : Nat) (hw : w < 3) (hbt : bt < 6) (hR : RI im) (hW : WI im w) (n : Nat) (hn : n ≤ 60) : Cn l (XC G) yX1_look Y_X1_look [vR 9 0, vR 18 w, vR 16 0, vI (n : Int)] (im, rs bt rt, lm) (pV fun m' => ∃ im' bt', bt' < 6 ∧ RI im' ∧ FI im im' w n 50 ∧ m' = (im', rs bt' rt, lm)) := by
  refine cn_of (by decide) (okC G) rfl (Nat.le_of_ble_eq_true rfl) ?_
  intro M ad hMl F
  subst hMl
  refine wp_pad 1 ?_
  show Wp M (XC G) ad Y_X1_look (pV fun m' => ∃ im' bt', bt' < 6 ∧ RI im' ∧ FI im im' w n 50 ∧ m' = (im', rs bt' rt, lm)) 0 [some (vR 9 0), some (vR 18 w), some (vR 16 0), some (vI (n : Int)), none] [] (im, rs bt rt, lm)
  refine q_aload_n (t := 1) F dX1_look_0 rfl rfl rfl ?_
  refine q_iconst (t := 2) F dX1_look_1 rfl ?_
  refine p_X1_24 (t := 5) F dX1_look_2 rfl rfl ?_
  refine q_aload_n (t := 6) F dX1_look_5 rfl rfl rfl ?_
  refine q_iconst (t := 7) F dX1_look_6 rfl ?_
  refine p_X1_28 (t := 10) F dX1_look_7 rfl rfl ?_
  refine q_aload_n (t := 11) F dX1_look_10 rfl rfl rfl ?_
  refine q_iconst (t := 12) F dX1_look_11 rfl ?_
  refine p_X1_31 (t := 15) F dX1_look_12 rfl rfl ?_
  refine q_iconst (t := 16) F dX1_look_15 rfl ?_
  refine q_istore (t := 18) F dX1_look_16 (by decide) rfl rfl ?_
  have L18 : ∀ (fz : Nat) (N : Nat) (im2 : IM) (bt2 : Nat), 50 - N < fz → N ≤ 50 → bt2 < 6 → RI im2 → FI im im2 w n N → Wp M (XC G) ad Y_X1_look (pV fun m' => ∃ im' bt', bt' < 6 ∧ RI im' ∧ FI im im' w n 50 ∧ m' = (im', rs bt' rt, lm)) 18 [some (vR 9 0), some (vR 18 w), some (vR 16 0), some (vI (n : Int)), some (vI (N : Int))] [] (im2, rs bt2 rt, lm) := by
    intro fz
    induction fz with
    | zero => intro N im2 bt2 h; exact absurd h (Nat.not_lt_zero _)
    | succ fz ih =>
      have ih18 := ih
      intro N im2 bt2 hmeas hN hbt2 hR2 hFI
      have e3 : im2 18 w 3 = im 18 w 3 := hFI.1 18 (by decide) w 3
      refine q_iload (t := 20) F dX1_look_18 rfl rfl ?_
      refine q_bipush (t := 22) F dX1_look_20 (by decide) rfl ?_
      refine q_icmp_ge (t := 25) (u := 128) F dX1_look_22 (by first | exact hR _ _ _ | (constructor <;> omega)) (by first | exact hR _ _ _ | (constructor <;> omega)) (by decide) rfl (fun c22 => ?_) (fun c22 => ?_)
      · refine q_vret F dX1_look_128 rfl ?_
        have eN : N = 50 := by omega
        subst eN
        exact ⟨rfl, im2, bt2, hbt2, hR2, hFI, rfl⟩
      · refine q_aload_n (t := 26) F dX1_look_25 rfl rfl rfl ?_
        refine g_X1_9 (t := 29) F dX1_look_26 rfl rfl ?_
        refine q_iload (t := 31) F dX1_look_29 rfl rfl ?_
        refine q_iconst (t := 32) F dX1_look_31 rfl ?_
        first | refine stN_10 (t := 33) F dX1_look_32 (by omega) rfl ?_ | refine st_10 (t := 33) F dX1_look_32 (by omega) (by omega) rfl ?_
        refine q_aload_n (t := 34) F dX1_look_33 rfl rfl rfl ?_
        refine g_X1_15 (t := 37) F dX1_look_34 rfl rfl ?_
        refine q_iload (t := 39) F dX1_look_37 rfl rfl ?_
        refine q_iconst (t := 40) F dX1_look_39 rfl ?_
        first | refine stN_11 (t := 41) F dX1_look_40 (by omega) rfl ?_ | refine st_11 (t := 41) F dX1_look_40 (by omega) (by omega) rfl ?_
        refine q_iload (t := 43) F dX1_look_41 rfl rfl ?_
        refine q_bipush (t := 45) F dX1_look_43 (by decide) rfl ?_
        refine q_idiv (t := 46) F dX1_look_45 (by first | exact hR _ _ _ | (constructor <;> omega)) (by first | exact hR _ _ _ | (constructor <;> omega)) (by omega) (by omega) rfl ?_
        refine q_aload_n (t := 47) F dX1_look_46 rfl rfl rfl ?_
        refine g_X1_34 (t := 50) F dX1_look_47 rfl (by omega) rfl ?_
        try simp only [up_app, row_app, scr_app, cpy_app, Nat.reduceEqDiff, Int.reduceToNat, Int.toNat_natCast, and_true, true_and, and_false, false_and, and_self, reduceIte]
        rw [e3]
        refine q_icmp_lt (t := 53) (u := 56) F dX1_look_50 (by first | exact hR _ _ _ | (constructor <;> omega)) (by first | exact hR _ _ _ | (constructor <;> omega)) (by decide) rfl (fun c50 => ?_) (fun c50 => ?_)
        · refine q_aload_n (t := 57) F dX1_look_56 rfl rfl rfl ?_
          refine q_aload_n (t := 58) F dX1_look_57 rfl rfl rfl ?_
          refine q_iload (t := 60) F dX1_look_58 rfl rfl ?_
          refine q_bipush (t := 62) F dX1_look_60 (by decide) rfl ?_
          refine q_idiv (t := 63) F dX1_look_62 (by first | exact hR _ _ _ | (constructor <;> omega)) (by first | exact hR _ _ _ | (constructor <;> omega)) (by omega) (by omega) rfl ?_
          refine q_iload (t := 65) F dX1_look_63 rfl rfl ?_
          refine q_bipush (t := 67) F dX1_look_65 (by decide) rfl ?_
          refine q_irem (t := 68) F dX1_look_67 (by first | exact hR _ _ _ | (constructor <;> omega)) (by first | exact hR _ _ _ | (constructor <;> omega)) (by omega) (by omega) rfl ?_
          rw [show (N : Int) / 10 = ((N / 10 : Nat) : Int) by omega, show (N : Int) % 10 = ((N % 10 : Nat) : Int) by omega]
          have hB : ag [5, 9, 10, 11, 16, 17] (up (up im2 10 0 N (-1)) 11 0 N 0) im := ag_up (ag_up hFI.1 (by decide)) (by decide)
          have hRB : RI (up (up im2 10 0 N (-1)) 11 0 N 0) := RI_up (RI_up hR2 ⟨by omega, by omega⟩) ⟨by omega, by omega⟩
          have hWB := WI_ag hB (by decide) (by decide) (by decide) (by decide) (by decide) (by decide) hW
          have hmB : ((N / 10 : Nat) : Int) < up (up im2 10 0 N (-1)) 11 0 N 0 18 w 3 := by
            show ((N / 10 : Nat) : Int) < im2 18 w 3
            omega
          have hgoB : ∀ m, goesW (up (up im2 10 0 N (-1)) 11 0 N 0) w (N / 10) (N % 10) m = goesW im w (N / 10) (N % 10) m := fun m => goesW_ag hB (by decide) (by decide) (by decide) (by decide) (by decide) (by decide) _ _ _ _
          have hbeB : ∀ x c, bearsW (up (up im2 10 0 N (-1)) 11 0 N 0) w (N / 10) (N % 10) x c = bearsW im w (N / 10) (N % 10) x c := fun x c => bearsW_ag hB (by decide) (by decide) (by decide) (by decide) (by decide) (by decide) _ _ _ _ _
          have e5B : im2 18 w 5 = im 18 w 5 := hFI.1 18 (by decide) w 5
          have e4B : im2 18 w 4 = im 18 w 4 := hFI.1 18 (by decide) w 4
          have ewB : im2 22 (5 * w + N / 10) (N % 10) = im 22 (5 * w + N / 10) (N % 10) := hFI.1 22 (by decide) _ _
          obtain ⟨B, hBd⟩ : ∃ B, B = up (up im2 10 0 N (-1)) 11 0 N 0 := ⟨_, rfl⟩
          have eb3 : B 18 w 3 = im2 18 w 3 := by rw [hBd]; rfl
          have eb4 : B 18 w 4 = im2 18 w 4 := by rw [hBd]; rfl
          have eb5 : B 18 w 5 = im2 18 w 5 := by rw [hBd]; rfl
          have eb22 : ∀ i s, B 22 i s = im2 22 i s := by intro i s; rw [hBd]; rfl
          rw [← hBd] at hB hRB hWB hmB hgoB hbeB ⊢
          obtain ⟨r0, r1, hT, k0, k1, n0, n1, hga, hh0, hh1, hm5⟩ := cell_of hWB hmB
          refine wp_callV (t := 71) [_, _, _] F dX1_look_68 k_X0_look v_X0_look ml_X1_39 rfl rfl rfl rfl (Nat.le_of_ble_eq_true rfl) (by decide) (m_16 (by omega)) (c_X0_look _ G B bt2 rt lm w (N / 10) (N % 10) hw hm5 (by omega) r0 r1) rfl (kV ?_)
          rintro m' rfl
          have hRl := RI_look (w := w) (p := N / 10) (g := N % 10) hRB (by omega)
          have hbt4 : (B 18 w 7).toNat < 6 := by omega
          refine q_aload_n (t := 72) F dX1_look_71 rfl rfl rfl ?_
          refine g_X1_9 (t := 75) F dX1_look_72 rfl rfl ?_
          refine q_iload (t := 77) F dX1_look_75 rfl rfl ?_
          refine q_aload_n (t := 78) F dX1_look_77 rfl rfl rfl ?_
          refine q_iload_n (t := 79) F dX1_look_78 rfl rfl rfl ?_
          refine wp_callV (t := 82) [_] F dX1_look_79 k_X0_goesOffIn v_X0_goesOffIn ml_X1_45 rfl rfl rfl rfl (Nat.le_of_ble_eq_true rfl) (by decide) (m_16 (by omega)) (c_X0_goesOffIn _ G (lookM B w (N / 10) (N % 10)) (B 18 w 7).toNat rt lm n hn hbt4 hRl (goodT_congr (fun s => rfl) (fun s => rfl) hT) k0 k1 n0 n1 (hga _ (by omega)) hh0 hh1) rfl (kI ?_)
          rintro x m' ⟨hx, xa, xb, xg, hxa, hxb, hxg, rfl⟩
          rw [look_goes, hgoB] at hx
          have hwx : x = whenF im w n N := by
            unfold whenF
            rw [if_pos (by omega)]
            exact hx
          have hwi := whenF_in im w n N
          have hR5 : RI (up (scr (lookM B w (N / 10) (N % 10)) xa xb xg) 10 0 N x) := RI_up (RI_scr hRl hxa hxb hxg) (by constructor <;> omega)
          have hagx : ag [5, 16, 17] (up (scr (lookM B w (N / 10) (N % 10)) xa xb xg) 10 0 N x) (laid im2 N x 0) := by
            refine laid_ag ?_
            rw [← hBd]
            exact ((scr_ag _ _ _ _).mono (by decide)).trans ((look_ag B w _ _).mono (by decide))
          first | refine stN_10 (t := 83) F dX1_look_82 (by omega) rfl ?_ | refine st_10 (t := 83) F dX1_look_82 (by omega) (by omega) rfl ?_
          refine q_aload_n (t := 84) F dX1_look_83 rfl rfl rfl ?_
          refine g_X1_9 (t := 87) F dX1_look_84 rfl rfl ?_
          refine q_iload (t := 89) F dX1_look_87 rfl rfl ?_
          first | refine ldN_10 (t := 90) F dX1_look_89 (by omega) rfl ?_ | refine ld_10 (t := 90) F dX1_look_89 (by omega) (by omega) rfl ?_
          try simp only [up_app, row_app, scr_app, cpy_app, Nat.reduceEqDiff, Int.reduceToNat, Int.toNat_natCast, and_true, true_and, and_false, false_and, and_self, reduceIte]
          refine q_iconst (t := 91) F dX1_look_90 rfl ?_
          refine q_icmp_eq (t := 94) (u := 122) F dX1_look_91 (by constructor <;> omega) (by constructor <;> omega) (by decide) rfl (fun c91 => ?_) (fun c91 => ?_)
          · refine q_iinc (t := 125) F dX1_look_122 rfl (by decide) rfl rfl ?_
            refine q_goto (t := 18) F dX1_look_125 (by decide) ?_
            first
              | exact ih18 (N + 1) _ _ (by omega) (by omega) hbt2 (RI_up (RI_up hR2 ⟨by omega, by omega⟩) ⟨by omega, by omega⟩) (FI_none hFI (by unfold whenF; rw [if_neg (by omega)]) (ag_rfl _ _))
              | exact ih18 (N + 1) _ _ (by omega) (by omega) hbt4 hR5 (FI_none hFI (hwx.symm.trans c91) (by rw [show laid im2 N (-1) 0 = laid im2 N x 0 by rw [c91]]; exact hagx))
              | exact ih18 (N + 1) _ _ (by omega) (by omega) hbt4 hR7 hFI7
          · refine q_aload_n (t := 95) F dX1_look_94 rfl rfl rfl ?_
            refine q_iload (t := 97) F dX1_look_95 rfl rfl ?_
            refine q_aload_n (t := 98) F dX1_look_97 rfl rfl rfl ?_
            refine q_aload_n (t := 99) F dX1_look_98 rfl rfl rfl ?_
            refine g_X1_9 (t := 102) F dX1_look_99 rfl rfl ?_
            refine q_iload (t := 104) F dX1_look_102 rfl rfl ?_
            first | refine ldN_10 (t := 105) F dX1_look_104 (by omega) rfl ?_ | refine ld_10 (t := 105) F dX1_look_104 (by omega) (by omega) rfl ?_
            try simp only [up_app, row_app, scr_app, cpy_app, Nat.reduceEqDiff, Int.reduceToNat, Int.toNat_natCast, and_true, true_and, and_false, false_and, and_self, reduceIte]
            refine q_aload_n (t := 106) F dX1_look_105 rfl rfl rfl ?_
            refine q_aload_n (t := 107) F dX1_look_106 rfl rfl rfl ?_
            refine g_X1_9 (t := 110) F dX1_look_107 rfl rfl ?_
            refine q_iload (t := 112) F dX1_look_110 rfl rfl ?_
            first | refine ldN_10 (t := 113) F dX1_look_112 (by omega) rfl ?_ | refine ld_10 (t := 113) F dX1_look_112 (by omega) (by omega) rfl ?_
            try simp only [up_app, row_app, scr_app, cpy_app, Nat.reduceEqDiff, Int.reduceToNat, Int.toNat_natCast, and_true, true_and, and_false, false_and, and_self, reduceIte]
            refine wp_callV (t := 116) [_] F dX1_look_113 k_X7_isChurchIn v_X7_isChurchIn ml_X1_49 rfl rfl rfl rfl (Nat.le_of_ble_eq_true rfl) (by decide) (m_18 (by omega)) (c_X7_isChurchIn _ G _ _ rt lm w hw x (by omega) (by omega) hh0 hh1) rfl (kI ?_)
            rintro z m' ⟨rfl, rfl⟩
            have hch : chI (up (scr (lookM B w (N / 10) (N % 10)) xa xb xg) 10 0 N x 18 w 5) (up (scr (lookM B w (N / 10) (N % 10)) xa xb xg) 10 0 N x 18 w 4 + x) = chI (im 18 w 5) (im 18 w 4 + x) := by
              rw [show up (scr (lookM B w (N / 10) (N % 10)) xa xb xg) 10 0 N x 18 w 5 = B 18 w 5 from rfl, show up (scr (lookM B w (N / 10) (N % 10)) xa xb xg) 10 0 N x 18 w 4 = B 18 w 4 from rfl, eb5, eb4, e5B, e4B]
            rw [hch]
            have hci := chI_in (im 18 w 5) (im 18 w 4 + x)
            have hwne : B 22 (5 * w + N / 10) (N % 10) ≠ -1 := by
              intro z
              rw [eb22, ewB] at z
              exact c91 (hx.trans (goesW_none z))
            refine wp_callV (t := 119) [_, _] F dX1_look_116 k_X0_bears v_X0_bears ml_X1_53 rfl rfl rfl rfl (Nat.le_of_ble_eq_true rfl) (by decide) (m_16 (by omega)) (c_X0_bears _ G (up (scr (lookM B w (N / 10) (N % 10)) xa xb xg) 10 0 N x) (B 18 w 7).toNat rt lm x (chI (im 18 w 5) (im 18 w 4 + x)) (by omega) (by omega) hci.1 hci.2 hbt4 hR5 (goodT_congr (fun s => rfl) (fun s => rfl) hT) k0 k1 n0 n1 (hga _ (by omega) hwne) hh0 hh1) rfl (kI ?_)
            rintro y m' ⟨hy, ya, yb, yg, hya, hyb, hyg, rfl⟩
            rw [show bearsB (up (scr (lookM B w (N / 10) (N % 10)) xa xb xg) 10 0 N x) = bearsB (up (lookM B w (N / 10) (N % 10)) 10 0 N x) from by
              funext j u v
              rw [← bearsB_scr (up (lookM B w (N / 10) (N % 10)) 10 0 N x) xa xb xg]
              rw [show scr (up (lookM B w (N / 10) (N % 10)) 10 0 N x) xa xb xg = up (scr (lookM B w (N / 10) (N % 10)) xa xb xg) 10 0 N x from by
                funext k i s
                simp only [scr_app, up_app]
                repeat' split
                all_goals first | rfl | (exfalso; omega)]] at hy
            rw [show bearsB (up (lookM B w (N / 10) (N % 10)) 10 0 N x) (B 18 w 7).toNat x (chI (im 18 w 5) (im 18 w 4 + x)) = bearsB (lookM B w (N / 10) (N % 10)) (B 18 w 7).toNat x (chI (im 18 w 5) (im 18 w 4 + x)) from by
              rw [bearsB_K _ _ _ _ rfl, bearsB_K _ _ _ _ rfl]
              rw [show tellV (up (lookM B w (N / 10) (N % 10)) 10 0 N x) (B 18 w 7).toNat = tellV (lookM B w (N / 10) (N % 10)) (B 18 w 7).toNat from tellV_fun (fun s => rfl) (fun s => rfl)]
              rfl] at hy
            rw [look_bears, hbeB] at hy
            have hyc : y = costF im w n N := by
              unfold costF
              rw [if_neg (by rw [← hwx]; exact c91), ← hwx]
              exact hy
            have hag6 : ag [5, 16, 17] (scr (up (scr (lookM B w (N / 10) (N % 10)) xa xb xg) 10 0 N x) ya yb yg) (laid im2 N (whenF im w n N) 0) := by
              rw [← hwx]
              exact ((scr_ag _ _ _ _).mono (by decide)).trans hagx
            have hR6 := RI_scr hR5 hya hyb hyg
            have hff := FI_RI hFI hW (show N < 50 by omega)
            have hcc := costF_in (n := n) hW N
            have e94 : ∀ s, scr (up (scr (lookM B w (N / 10) (N % 10)) xa xb xg) 10 0 N x) ya yb yg 9 0 s = im2 9 0 s := fun s => hag6 9 (by decide) 0 s
            rw [hyc]
            have hfi := firstF_in im w n N
            have e96 : scr (up (scr (lookM B w (N / 10) (N % 10)) xa xb xg) 10 0 N x) ya yb yg 9 0 6 = firstF im w n N := (e94 6).trans hFI.2.2.2.2
            have hR7 : RI (noteM (scr (up (scr (lookM B w (N / 10) (N % 10)) xa xb xg) 10 0 N x) ya yb yg) N (costF im w n N)) := RI_note hR6 (by omega) (by constructor <;> omega) (by rw [e94]; exact hff.1) (by rw [e94]; exact hff.2)
            have hFI7 := FI_note hFI (by rw [← hwx]; exact c91) hag6
            refine wp_callV (t := 122) [_, _] F dX1_look_119 k_X1_note v_X1_note ml_X1_57 rfl rfl rfl rfl (Nat.le_of_ble_eq_true rfl) (by decide) (m_9 (by omega)) (c_X1_note _ G _ _ rt lm hR6 N (by omega) (costF im w n N) (by rw [e96]; omega)) rfl (kV ?_)
            rintro m' rfl
            refine q_iinc (t := 125) F dX1_look_122 rfl (by decide) rfl rfl ?_
            refine q_goto (t := 18) F dX1_look_125 (by decide) ?_
            first
              | exact ih18 (N + 1) _ _ (by omega) (by omega) hbt2 (RI_up (RI_up hR2 ⟨by omega, by omega⟩) ⟨by omega, by omega⟩) (FI_none hFI (by unfold whenF; rw [if_neg (by omega)]) (ag_rfl _ _))
              | exact ih18 (N + 1) _ _ (by omega) (by omega) hbt4 hR5 (FI_none hFI (hwx.symm.trans c91) (by rw [show laid im2 N (-1) 0 = laid im2 N x 0 by rw [c91]]; exact hagx))
              | exact ih18 (N + 1) _ _ (by omega) (by omega) hbt4 hR7 hFI7
        · refine q_goto (t := 122) F dX1_look_53 (by decide) ?_
          refine q_iinc (t := 125) F dX1_look_122 rfl (by decide) rfl rfl ?_
          refine q_goto (t := 18) F dX1_look_125 (by decide) ?_
          first
            | exact ih18 (N + 1) _ _ (by omega) (by omega) hbt2 (RI_up (RI_up hR2 ⟨by omega, by omega⟩) ⟨by omega, by omega⟩) (FI_none hFI (by unfold whenF; rw [if_neg (by omega)]) (ag_rfl _ _))
            | exact ih18 (N + 1) _ _ (by omega) (by omega) hbt4 hR5 (FI_none hFI (hwx.symm.trans c91) (by rw [show laid im2 N (-1) 0 = laid im2 N x 0 by rw [c91]]; exact hagx))
            | exact ih18 (N + 1) _ _ (by omega) (by omega) hbt4 hR7 hFI7
  refine L18 _ 0 _ bt (Nat.lt_succ_self _) (by omega) hbt (RI_up (RI_up (RI_up hR ⟨by omega, by omega⟩) ⟨by omega, by omega⟩) ⟨by omega, by omega⟩) ⟨?_, fun M hM => absurd hM (Nat.not_lt_zero _), rfl, rfl, rfl⟩
  exact ag_up (ag_up (ag_up (ag_rfl _ _) (by decide)) (by decide)) (by decide)
end
section
/-! dearest, fewest, lookAtChurch -/
def dB (f : Nat → Int) : Nat → Int × Int
  | 0 => (-1, 0)
  | n + 1 => if (dB f n).2 < f n then ((n : Int), f n) else dB f n
theorem dB_s (f : Nat → Int) (n : Nat) : dB f (n + 1) = if (dB f n).2 < f n then ((n : Int), f n) else dB f n := rfl
theorem dB_ri {f : Nat → Int} (h : ∀ s, ri (f s)) (n : Nat) : ri (dB f n).2 := by
  induction n with
  | zero => exact ⟨by show -2147483648 ≤ (0 : Int); omega, by show (0 : Int) < 2147483648; omega⟩
  | succ n ih =>
    rw [dB_s]
    split
    · exact h n
    · exact ih
theorem dB_in (f : Nat → Int) (n : Nat) : (dB f n).1 = -1 ∨ 0 ≤ (dB f n).1 ∧ (dB f n).1 < n := by
  induction n with
  | zero => exact Or.inl rfl
  | succ n ih =>
    rw [dB_s]
    split
    · right; show 0 ≤ (n : Int) ∧ (n : Int) < ((n + 1 : Nat) : Int); omega
    · omega

set_option maxHeartbeats 4000000 in
theorem c_X1_dearest (l : Launch) (G : GS) (im : IM) (bt rt : Nat) (lm : IM) (hR : RI im) : Cn l (XC G) yX1_dearest Y_X1_dearest [vR 9 0] (im, rs bt rt, lm) (pI fun x m' => x = (dB (im 11 0) 50).1 ∧ m' = (im, rs bt rt, lm)) := by
  refine cn_of (by decide) (okC G) rfl (Nat.le_of_ble_eq_true rfl) ?_
  intro M ad hMl F
  subst hMl
  refine wp_pad 3 ?_
  show Wp M (XC G) ad Y_X1_dearest (pI fun x m' => x = (dB (im 11 0) 50).1 ∧ m' = (im, rs bt rt, lm)) 0 [some (vR 9 0), none, none, none] [] (im, rs bt rt, lm)
  refine q_iconst (t := 1) F dX1_dearest_0 rfl ?_
  refine q_istore_n (t := 2) F dX1_dearest_1 rfl (by decide) rfl rfl ?_
  refine q_iconst (t := 3) F dX1_dearest_2 rfl ?_
  refine q_istore_n (t := 4) F dX1_dearest_3 rfl (by decide) rfl rfl ?_
  refine q_iconst (t := 5) F dX1_dearest_4 rfl ?_
  refine q_istore_n (t := 6) F dX1_dearest_5 rfl (by decide) rfl rfl ?_
  have L6 : ∀ (fz : Nat) (n : Nat), 50 - n < fz → n ≤ 50 → Wp M (XC G) ad Y_X1_dearest (pI fun x m' => x = (dB (im 11 0) 50).1 ∧ m' = (im, rs bt rt, lm)) 6 [some (vR 9 0), some (vI (dB (im 11 0) n).1), some (vI (dB (im 11 0) n).2), some (vI (n : Int))] [] (im, rs bt rt, lm) := by
    intro fz
    induction fz with
    | zero => intro n h; exact absurd h (Nat.not_lt_zero _)
    | succ fz ih =>
      have ih6 := ih
      intro n hmeas hn
      have hd := dB_ri (hR 11 0) n
      refine q_iload_n (t := 7) F dX1_dearest_6 rfl rfl rfl ?_
      refine q_bipush (t := 9) F dX1_dearest_7 (by decide) rfl ?_
      refine q_icmp_ge (t := 12) (u := 37) F dX1_dearest_9 (by first | exact hR _ _ _ | (constructor <;> omega)) (by first | exact hR _ _ _ | (constructor <;> omega)) (by decide) rfl (fun c9 => ?_) (fun c9 => ?_)
      · refine q_iload_n (t := 38) F dX1_dearest_37 rfl rfl rfl ?_
        refine q_iret F dX1_dearest_38 rfl ?_
        exact ⟨_, rfl, by rw [show n = 50 by omega], rfl⟩
      · refine q_aload_n (t := 13) F dX1_dearest_12 rfl rfl rfl ?_
        refine g_X1_15 (t := 16) F dX1_dearest_13 rfl rfl ?_
        refine q_iload_n (t := 17) F dX1_dearest_16 rfl rfl rfl ?_
        first | refine ldN_11 (t := 18) F dX1_dearest_17 (by omega) rfl ?_ | refine ld_11 (t := 18) F dX1_dearest_17 (by omega) (by omega) rfl ?_
        refine q_iload_n (t := 19) F dX1_dearest_18 rfl rfl rfl ?_
        refine q_icmp_le (t := 22) (u := 31) F dX1_dearest_19 (by exact hR _ _ _) (by exact hd) (by decide) rfl (fun c19 => ?_) (fun c19 => ?_)
        · refine q_iinc (t := 34) F dX1_dearest_31 rfl (by decide) rfl rfl ?_
          refine q_goto (t := 6) F dX1_dearest_34 (by decide) ?_
          first
            | (have e : dB (im 11 0) (n + 1) = ((n : Int), im 11 0 n) := by rw [dB_s, if_pos c19]
               have h := ih6 (n + 1) (by omega) (by omega)
               rw [e] at h
               exact h)
            | (have e : dB (im 11 0) (n + 1) = dB (im 11 0) n := by rw [dB_s, if_neg (by omega)]
               have h := ih6 (n + 1) (by omega) (by omega)
               rw [e] at h
               exact h)
        · refine q_aload_n (t := 23) F dX1_dearest_22 rfl rfl rfl ?_
          refine g_X1_15 (t := 26) F dX1_dearest_23 rfl rfl ?_
          refine q_iload_n (t := 27) F dX1_dearest_26 rfl rfl rfl ?_
          first | refine ldN_11 (t := 28) F dX1_dearest_27 (by omega) rfl ?_ | refine ld_11 (t := 28) F dX1_dearest_27 (by omega) (by omega) rfl ?_
          refine q_istore_n (t := 29) F dX1_dearest_28 rfl (by decide) rfl rfl ?_
          refine q_iload_n (t := 30) F dX1_dearest_29 rfl rfl rfl ?_
          refine q_istore_n (t := 31) F dX1_dearest_30 rfl (by decide) rfl rfl ?_
          refine q_iinc (t := 34) F dX1_dearest_31 rfl (by decide) rfl rfl ?_
          refine q_goto (t := 6) F dX1_dearest_34 (by decide) ?_
          first
            | (have e : dB (im 11 0) (n + 1) = ((n : Int), im 11 0 n) := by rw [dB_s, if_pos c19]
               have h := ih6 (n + 1) (by omega) (by omega)
               rw [e] at h
               exact h)
            | (have e : dB (im 11 0) (n + 1) = dB (im 11 0) n := by rw [dB_s, if_neg (by omega)]
               have h := ih6 (n + 1) (by omega) (by omega)
               rw [e] at h
               exact h)
  exact L6 _ 0 (Nat.lt_succ_self _) (by omega)

/-- the sum over a number's bits -/
def svF (c : Nat → Int) (b : Nat) : Nat → Int
  | 0 => 0
  | n + 1 => svF c b n + (if b.testBit n = true then c n else 0)
theorem svF_0 (c : Nat → Int) (n : Nat) : svF c 0 n = 0 := by
  induction n with
  | zero => rfl
  | succ n ih =>
    show svF c 0 n + _ = _
    rw [ih, Nat.zero_testBit]
    rfl
theorem svF_lo {c : Nat → Int} {g b : Nat} (n : Nat) (h : n ≤ g) : svF c (2 ^ g + b) n = svF c b n := by
  induction n with
  | zero => rfl
  | succ n ih =>
    show svF c (2 ^ g + b) n + _ = svF c b n + _
    rw [ih (by omega), Nat.testBit_two_pow_add_gt (by omega)]
theorem svF_hi {c : Nat → Int} {g b : Nat} (hb : b < 2 ^ g) (n : Nat) : svF c b (g + n) = svF c b g := by
  induction n with
  | zero => rfl
  | succ n ih =>
    show svF c b (g + n) + _ = _
    rw [ih, Nat.testBit_lt_two_pow (Nat.lt_of_lt_of_le hb (Nat.pow_le_pow_right (by omega) (show g ≤ g.add n from Nat.le_add_right g n)))]
    simp
theorem svF_s {c : Nat → Int} {g b : Nat} (hb : b < 2 ^ g) (hg : g < 10) : svF c (2 ^ g + b) 10 = svF c b 10 + c g := by
  have h1 : svF c (2 ^ g + b) 10 = svF c (2 ^ g + b) (g + 1) := by
    have := svF_hi (c := c) (g := g + 1) (b := 2 ^ g + b) (by rw [Nat.pow_succ]; omega) (10 - (g + 1))
    rw [show g + 1 + (10 - (g + 1)) = 10 by omega] at this
    exact this
  have h2 : svF c b 10 = svF c b g := by
    have := svF_hi (c := c) hb (10 - g)
    rw [show g + (10 - g) = 10 by omega] at this
    exact this
  rw [h1, h2]
  show svF c (2 ^ g + b) g + _ = _
  rw [svF_lo g (Nat.le_refl g), Nat.testBit_two_pow_add_eq, Nat.testBit_lt_two_pow hb]
  simp
theorem svF_in {c : Nat → Int} (hc : ∀ n, n < 10 → 0 ≤ c n ∧ c n ≤ 700) (b n : Nat) (hn : n ≤ 10) : 0 ≤ svF c b n ∧ svF c b n ≤ 700 * n := by
  induction n with
  | zero => exact ⟨Int.le_refl 0, Int.le_refl 0⟩
  | succ n ih =>
    have h : svF c b (n + 1) = svF c b n + (if b.testBit n = true then c n else 0) := rfl
    have h1 := ih (by omega)
    have h2 := hc n (by omega)
    rw [h]
    split <;> omega
/-- how many bits -/
def pop (b : Nat) : Int := svF (fun _ => 1) b 10
theorem pop_in (b : Nat) : 0 ≤ pop b ∧ pop b ≤ 7000 := svF_in (fun n _ => by constructor <;> omega) b 10 (Nat.le_refl _)
def bcF (x : Nat) : Nat :=
  let a := x - (x / 2 &&& 1431655765)
  let b := (a &&& 858993459) + (a / 4 &&& 858993459)
  let c := (b + b / 16) &&& 252645135
  let d := c + c / 256
  (d + d / 65536) &&& 63
theorem bcF_pop : ∀ x, x < 1024 → ((bcF x : Nat) : Int) = pop x := by decide +kernel
theorem or_pow {g b : Nat} (hb : b < 2 ^ g) : b ||| 2 ^ g = 2 ^ g + b := by
  rw [Nat.or_comm]
  have := Nat.two_pow_add_eq_or_of_lt hb 1
  rw [Nat.mul_one] at this
  exact this.symm

set_option maxHeartbeats 4000000 in
theorem c_J6_bitCount_0f7a4 (l : Launch) (G : GS) (im : IM) (bt rt : Nat) (lm : IM) (x : Nat) (hx : x < 1024) : Cn l (XC G) yJ6_bitCount_0f7a4 Y_J6_bitCount_0f7a4 [vI (x : Int)] (im, rs bt rt, lm) (pI fun y m' => y = pop x ∧ m' = (im, rs bt rt, lm)) := by
  refine cn_of (by decide) (okC G) rfl (Nat.le_of_ble_eq_true rfl) ?_
  intro M ad hMl F
  subst hMl
  have h1 := Nat.and_le_left (n := x / 2) (m := 1431655765)
  obtain ⟨a, ha⟩ : ∃ a, a = x - (x / 2 &&& 1431655765) := ⟨_, rfl⟩
  have h2 := Nat.and_le_left (n := a) (m := 858993459)
  have h3 := Nat.and_le_left (n := a / 4) (m := 858993459)
  obtain ⟨b, hb⟩ : ∃ b, b = (a &&& 858993459) + (a / 4 &&& 858993459) := ⟨_, rfl⟩
  obtain ⟨c, hc⟩ : ∃ c, c = (b + b / 16) &&& 252645135 := ⟨_, rfl⟩
  have h4 := Nat.and_le_left (n := b + b / 16) (m := 252645135)
  obtain ⟨d, hd⟩ : ∃ d, d = c + c / 256 := ⟨_, rfl⟩
  refine wp_pad 0 ?_
  show Wp M (XC G) ad Y_J6_bitCount_0f7a4 (pI fun y m' => y = pop x ∧ m' = (im, rs bt rt, lm)) 0 [some (vI (x : Int))] [] (im, rs bt rt, lm)
  refine q_iload_n (t := 1) F dJ6_bitCount_0f7a4_0 rfl rfl rfl ?_
  refine q_iload_n (t := 2) F dJ6_bitCount_0f7a4_1 rfl rfl rfl ?_
  refine q_iconst (t := 3) F dJ6_bitCount_0f7a4_2 rfl ?_
  refine q_iushr (t := 4) F dJ6_bitCount_0f7a4_3 (by omega) (by omega) rfl ?_
  rw [show (x : Int) % 4294967296 / 2 ^ (1 : Int).toNat = ((x / 2 : Nat) : Int) by (rw [show (2 : Int) ^ (1 : Int).toNat = 2 by decide]; omega)]
  refine q_ldcw (t := 7) (x := 1431655765) F dJ6_bitCount_0f7a4_4 ki_J6_265 (by decide) rfl ?_
  refine q_iand (t := 8) (x := x / 2) (y := 1431655765) F dJ6_bitCount_0f7a4_7 rfl ?_
  refine q_isub (t := 9) F dJ6_bitCount_0f7a4_8 rfl ?_
  rw [show (x : Int) - ((x / 2 &&& 1431655765 : Nat) : Int) = (a : Int) by omega]
  refine q_istore_n (t := 10) F dJ6_bitCount_0f7a4_9 rfl (by decide) rfl rfl ?_
  refine q_iload_n (t := 11) F dJ6_bitCount_0f7a4_10 rfl rfl rfl ?_
  refine q_ldcw (t := 14) (x := 858993459) F dJ6_bitCount_0f7a4_11 ki_J6_266 (by decide) rfl ?_
  refine q_iand (t := 15) (x := a) (y := 858993459) F dJ6_bitCount_0f7a4_14 rfl ?_
  refine q_iload_n (t := 16) F dJ6_bitCount_0f7a4_15 rfl rfl rfl ?_
  refine q_iconst (t := 17) F dJ6_bitCount_0f7a4_16 rfl ?_
  refine q_iushr (t := 18) F dJ6_bitCount_0f7a4_17 (by omega) (by omega) rfl ?_
  rw [show (a : Int) % 4294967296 / 2 ^ (2 : Int).toNat = ((a / 4 : Nat) : Int) by (rw [show (2 : Int) ^ (2 : Int).toNat = 4 by decide]; omega)]
  refine q_ldcw (t := 21) (x := 858993459) F dJ6_bitCount_0f7a4_18 ki_J6_266 (by decide) rfl ?_
  refine q_iand (t := 22) (x := a / 4) (y := 858993459) F dJ6_bitCount_0f7a4_21 rfl ?_
  refine q_iadd (t := 23) F dJ6_bitCount_0f7a4_22 rfl ?_
  rw [show ((a &&& 858993459 : Nat) : Int) + ((a / 4 &&& 858993459 : Nat) : Int) = (b : Int) by omega]
  refine q_istore_n (t := 24) F dJ6_bitCount_0f7a4_23 rfl (by decide) rfl rfl ?_
  refine q_iload_n (t := 25) F dJ6_bitCount_0f7a4_24 rfl rfl rfl ?_
  refine q_iload_n (t := 26) F dJ6_bitCount_0f7a4_25 rfl rfl rfl ?_
  refine q_iconst (t := 27) F dJ6_bitCount_0f7a4_26 rfl ?_
  refine q_iushr (t := 28) F dJ6_bitCount_0f7a4_27 (by omega) (by omega) rfl ?_
  rw [show (b : Int) % 4294967296 / 2 ^ (4 : Int).toNat = ((b / 16 : Nat) : Int) by (rw [show (2 : Int) ^ (4 : Int).toNat = 16 by decide]; omega)]
  refine q_iadd (t := 29) F dJ6_bitCount_0f7a4_28 rfl ?_
  rw [show (b : Int) + ((b / 16 : Nat) : Int) = ((b + b / 16 : Nat) : Int) by omega]
  refine q_ldcw (t := 32) (x := 252645135) F dJ6_bitCount_0f7a4_29 ki_J6_267 (by decide) rfl ?_
  refine q_iand (t := 33) (x := b + b / 16) (y := 252645135) F dJ6_bitCount_0f7a4_32 rfl ?_
  rw [← hc]
  refine q_istore_n (t := 34) F dJ6_bitCount_0f7a4_33 rfl (by decide) rfl rfl ?_
  refine q_iload_n (t := 35) F dJ6_bitCount_0f7a4_34 rfl rfl rfl ?_
  refine q_iload_n (t := 36) F dJ6_bitCount_0f7a4_35 rfl rfl rfl ?_
  refine q_bipush (t := 38) F dJ6_bitCount_0f7a4_36 (by decide) rfl ?_
  refine q_iushr (t := 39) F dJ6_bitCount_0f7a4_38 (by omega) (by omega) rfl ?_
  rw [show (c : Int) % 4294967296 / 2 ^ (8 : Int).toNat = ((c / 256 : Nat) : Int) by (rw [show (2 : Int) ^ (8 : Int).toNat = 256 by decide]; omega)]
  refine q_iadd (t := 40) F dJ6_bitCount_0f7a4_39 rfl ?_
  rw [show (c : Int) + ((c / 256 : Nat) : Int) = (d : Int) by omega]
  refine q_istore_n (t := 41) F dJ6_bitCount_0f7a4_40 rfl (by decide) rfl rfl ?_
  refine q_iload_n (t := 42) F dJ6_bitCount_0f7a4_41 rfl rfl rfl ?_
  refine q_iload_n (t := 43) F dJ6_bitCount_0f7a4_42 rfl rfl rfl ?_
  refine q_bipush (t := 45) F dJ6_bitCount_0f7a4_43 (by decide) rfl ?_
  refine q_iushr (t := 46) F dJ6_bitCount_0f7a4_45 (by omega) (by omega) rfl ?_
  rw [show (d : Int) % 4294967296 / 2 ^ (16 : Int).toNat = ((d / 65536 : Nat) : Int) by (rw [show (2 : Int) ^ (16 : Int).toNat = 65536 by decide]; omega)]
  refine q_iadd (t := 47) F dJ6_bitCount_0f7a4_46 rfl ?_
  rw [show (d : Int) + ((d / 65536 : Nat) : Int) = ((d + d / 65536 : Nat) : Int) by omega]
  refine q_istore_n (t := 48) F dJ6_bitCount_0f7a4_47 rfl (by decide) rfl rfl ?_
  refine q_iload_n (t := 49) F dJ6_bitCount_0f7a4_48 rfl rfl rfl ?_
  refine q_bipush (t := 51) F dJ6_bitCount_0f7a4_49 (by decide) rfl ?_
  refine q_iand (t := 52) (x := d + d / 65536) (y := 63) F dJ6_bitCount_0f7a4_51 rfl ?_
  refine q_iret F dJ6_bitCount_0f7a4_52 rfl ?_
  refine ⟨_, rfl, ?_, rfl⟩
  rw [← bcF_pop x hx]
  show _ = ((bcF x : Nat) : Int)
  unfold bcF
  simp only []
  rw [← ha, ← hb, ← hc, ← hd]

/-- the fewest bits so far -/
def fwB (S : Int) (c : Nat → Int) (e : Int) : Nat → Int
  | 0 => -1
  | b + 1 => if e < S - svF c b 10 then fwB S c e b else if fwB S c e b = -1 ∨ pop b < pop (fwB S c e b).toNat then (b : Int) else fwB S c e b
theorem fwB_s (S : Int) (c : Nat → Int) (e : Int) (b : Nat) : fwB S c e (b + 1) = if e < S - svF c b 10 then fwB S c e b else if fwB S c e b = -1 ∨ pop b < pop (fwB S c e b).toNat then (b : Int) else fwB S c e b := rfl
theorem fwB_in (S : Int) (c : Nat → Int) (e : Int) (b : Nat) : fwB S c e b = -1 ∨ 0 ≤ fwB S c e b ∧ fwB S c e b < b := by
  induction b with
  | zero => exact Or.inl rfl
  | succ b ih =>
    rw [fwB_s]
    repeat' split
    all_goals omega

set_option maxHeartbeats 4000000 in
theorem c_X1_fewest (l : Launch) (G : GS) (im : IM) (bt rt : Nat) (lm : IM) (hR : RI im) (man : Nat) (hm : man < 5) (e : Int) (hc : ∀ g, g < 10 → 0 ≤ im 11 0 (10 * man + g) ∧ im 11 0 (10 * man + g) ≤ 700) (hs0 : 0 ≤ im 9 0 4) (hs1 : im 9 0 4 ≤ 100000) (e0 : 0 ≤ e) (e1 : e ≤ 9999) (hz : im 13 0 0 = 0) : Cn l (XC G) yX1_fewest Y_X1_fewest [vR 9 0, vI (man : Int), vI e] (im, rs bt rt, lm) (pI fun x m' => x = fwB (im 9 0 4) (fun g => im 11 0 (10 * man + g)) e 1024 ∧ ∃ im', RI im' ∧ im' 13 0 0 = 0 ∧ ag [13] im' im ∧ m' = (im', rs bt rt, lm)) := by
  refine cn_of (by decide) (okC G) rfl (Nat.le_of_ble_eq_true rfl) ?_
  intro M ad hMl F
  subst hMl
  have hsv := fun b => svF_in (c := (fun g => im 11 0 (10 * man + g))) hc b 10 (Nat.le_refl 10)
  refine wp_pad 2 ?_
  show Wp M (XC G) ad Y_X1_fewest (pI fun x m' => x = fwB (im 9 0 4) (fun g => im 11 0 (10 * man + g)) e 1024 ∧ ∃ im', RI im' ∧ im' 13 0 0 = 0 ∧ ag [13] im' im ∧ m' = (im', rs bt rt, lm)) 0 [some (vR 9 0), some (vI (man : Int)), some (vI e), none, none] [] (im, rs bt rt, lm)
  refine q_iconst (t := 1) F dX1_fewest_0 rfl ?_
  refine q_istore_n (t := 2) F dX1_fewest_1 rfl (by decide) rfl rfl ?_
  have L2 : ∀ (fz : Nat) (g : Nat) (im2 : IM), 10 - g < fz → g ≤ 10 → RI im2 → ag [13] im2 im → (∀ b, b < 2 ^ g → im2 13 0 b = svF (fun g => im 11 0 (10 * man + g)) b 10) → Wp M (XC G) ad Y_X1_fewest (pI fun x m' => x = fwB (im 9 0 4) (fun g => im 11 0 (10 * man + g)) e 1024 ∧ ∃ im', RI im' ∧ im' 13 0 0 = 0 ∧ ag [13] im' im ∧ m' = (im', rs bt rt, lm)) 2 [some (vR 9 0), some (vI (man : Int)), some (vI e), some (vI (g : Int)), none] [] (im2, rs bt rt, lm) := by
    intro fz
    induction fz with
    | zero => intro g im2 h; exact absurd h (Nat.not_lt_zero _)
    | succ fz ih =>
      have ih2 := ih
      intro g im2 hmeas hg hR2 hag hsb
      have hp : 2 ^ g ≤ 1024 := by
        have h9 := Nat.pow_le_pow_right (n := 2) (by omega) hg
        exact h9
      have hpi : (1 : Int) * 2 ^ (g : Int).toNat = ((2 ^ g : Nat) : Int) := by
        rw [Int.toNat_natCast, Int.one_mul]
        exact (Int.natCast_pow 2 g).symm
      refine q_iload_n (t := 3) F dX1_fewest_2 rfl rfl rfl ?_
      refine q_bipush (t := 5) F dX1_fewest_3 (by decide) rfl ?_
      refine q_icmp_ge (t := 8) (u := 61) F dX1_fewest_5 (by first | exact hR _ _ _ | (constructor <;> omega)) (by first | exact hR _ _ _ | (constructor <;> omega)) (by decide) rfl (fun c5 => ?_) (fun c5 => ?_)
      · obtain rfl : g = 10 := by omega
        refine q_iconst (t := 62) F dX1_fewest_61 rfl ?_
        refine q_istore_n (t := 63) F dX1_fewest_62 rfl (by decide) rfl rfl ?_
        refine q_iconst (t := 64) F dX1_fewest_63 rfl ?_
        refine q_istore (t := 66) F dX1_fewest_64 (by decide) rfl rfl ?_
        have L66 : ∀ (fz : Nat) (b : Nat), 1024 - b < fz → b ≤ 1024 → Wp M (XC G) ad Y_X1_fewest (pI fun x m' => x = fwB (im 9 0 4) (fun g => im 11 0 (10 * man + g)) e 1024 ∧ ∃ im', RI im' ∧ im' 13 0 0 = 0 ∧ ag [13] im' im ∧ m' = (im', rs bt rt, lm)) 66 [some (vR 9 0), some (vI (man : Int)), some (vI e), some (vI (fwB (im 9 0 4) (fun g => im 11 0 (10 * man + g)) e b)), some (vI (b : Int))] [] (im2, rs bt rt, lm) := by
          intro fz
          induction fz with
          | zero => intro b h; exact absurd h (Nat.not_lt_zero _)
          | succ fz ih =>
            have ih66 := ih
            intro b hmeas hb
            have hfi := fwB_in (im 9 0 4) (fun g => im 11 0 (10 * man + g)) e b
            have hsv2 := hsv b
            have e94 : im2 9 0 4 = im 9 0 4 := hag 9 (by decide) 0 4
            refine q_iload (t := 68) F dX1_fewest_66 rfl rfl ?_
            refine q_sipush (t := 71) F dX1_fewest_68 (by decide) rfl ?_
            refine q_icmp_ge (t := 74) (u := 119) F dX1_fewest_71 (by first | exact hR _ _ _ | (constructor <;> omega)) (by first | exact hR _ _ _ | (constructor <;> omega)) (by decide) rfl (fun c71 => ?_) (fun c71 => ?_)
            · refine q_iload_n (t := 120) F dX1_fewest_119 rfl rfl rfl ?_
              refine q_iret F dX1_fewest_120 rfl ?_
              exact ⟨_, rfl, by rw [show b = 1024 by omega], im2, hR2, by rw [hsb 0 (by omega), svF_0], hag, rfl⟩
            · refine q_aload_n (t := 75) F dX1_fewest_74 rfl rfl rfl ?_
              refine g_X1_24 (t := 78) F dX1_fewest_75 rfl rfl ?_
              refine q_aload_n (t := 79) F dX1_fewest_78 rfl rfl rfl ?_
              refine g_X1_21 (t := 82) F dX1_fewest_79 rfl rfl ?_
              refine q_iload (t := 84) F dX1_fewest_82 rfl rfl ?_
              first | refine ldN_13 (t := 85) F dX1_fewest_84 (by omega) rfl ?_ | refine ld_13 (t := 85) F dX1_fewest_84 (by omega) (by omega) rfl ?_
              rw [e94, hsb b (by omega)]
              refine q_isub (t := 86) F dX1_fewest_85 rfl ?_
              refine q_iload_n (t := 87) F dX1_fewest_86 rfl rfl rfl ?_
              refine q_icmp_le (t := 90) (u := 93) F dX1_fewest_87 (by first | exact hR _ _ _ | (constructor <;> omega)) (by first | exact hR _ _ _ | (constructor <;> omega)) (by decide) rfl (fun c87 => ?_) (fun c87 => ?_)
              · refine q_iload_n (t := 94) F dX1_fewest_93 rfl rfl rfl ?_
                refine q_iconst (t := 95) F dX1_fewest_94 rfl ?_
                refine q_icmp_eq (t := 98) (u := 110) F dX1_fewest_95 (by first | exact hR _ _ _ | (constructor <;> omega)) (by first | exact hR _ _ _ | (constructor <;> omega)) (by decide) rfl (fun c95 => ?_) (fun c95 => ?_)
                · refine q_iload (t := 112) F dX1_fewest_110 rfl rfl ?_
                  refine q_istore_n (t := 113) F dX1_fewest_112 rfl (by decide) rfl rfl ?_
                  refine q_iinc (t := 116) F dX1_fewest_113 rfl (by decide) rfl rfl ?_
                  refine q_goto (t := 66) F dX1_fewest_116 (by decide) ?_
                  first
                    | (have e9 : fwB (im 9 0 4) (fun g => im 11 0 (10 * man + g)) e (b + 1) = fwB (im 9 0 4) (fun g => im 11 0 (10 * man + g)) e b := by rw [fwB_s, if_pos (by omega)]
                       rw [← e9]
                       exact ih66 (b + 1) (by omega) (by omega))
                    | (have e9 : fwB (im 9 0 4) (fun g => im 11 0 (10 * man + g)) e (b + 1) = b := by rw [fwB_s, if_neg (by omega), if_pos (by omega)]
                       have h := ih66 (b + 1) (by omega) (by omega)
                       rw [e9] at h
                       exact h)
                    | (have e9 : fwB (im 9 0 4) (fun g => im 11 0 (10 * man + g)) e (b + 1) = fwB (im 9 0 4) (fun g => im 11 0 (10 * man + g)) e b := by rw [fwB_s, if_neg (by omega), if_neg (by omega)]
                       rw [← e9]
                       exact ih66 (b + 1) (by omega) (by omega))
                · refine q_iload (t := 100) F dX1_fewest_98 rfl rfl ?_
                  refine wp_callS (t := 103) [_] F dX1_fewest_100 k_J6_bitCount_0f7a4 st_J6_bitCount_0f7a4 ml_X1_64 rfl rfl (Nat.le_of_ble_eq_true rfl) (by decide) (c_J6_bitCount_0f7a4 _ G im2 bt rt lm b (by omega)) rfl (kI ?_)
                  rintro y m' ⟨rfl, rfl⟩
                  refine q_iload_n (t := 104) F dX1_fewest_103 rfl rfl rfl ?_
                  rw [show fwB (im 9 0 4) (fun g => im 11 0 (10 * man + g)) e b = (((fwB (im 9 0 4) (fun g => im 11 0 (10 * man + g)) e b).toNat : Nat) : Int) by omega]
                  refine wp_callS (t := 107) [_] F dX1_fewest_104 k_J6_bitCount_0f7a4 st_J6_bitCount_0f7a4 ml_X1_64 rfl rfl (Nat.le_of_ble_eq_true rfl) (by decide) (c_J6_bitCount_0f7a4 _ G im2 bt rt lm (fwB (im 9 0 4) (fun g => im 11 0 (10 * man + g)) e b).toNat (by omega)) rfl (kI ?_)
                  rintro y m' ⟨rfl, rfl⟩
                  rw [show (((fwB (im 9 0 4) (fun g => im 11 0 (10 * man + g)) e b).toNat : Nat) : Int) = fwB (im 9 0 4) (fun g => im 11 0 (10 * man + g)) e b by omega]
                  have hp1 := pop_in b
                  have hp2 := pop_in (fwB (im 9 0 4) (fun g => im 11 0 (10 * man + g)) e b).toNat
                  refine q_icmp_ge (t := 110) (u := 113) F dX1_fewest_107 (by first | exact hR _ _ _ | (constructor <;> omega)) (by first | exact hR _ _ _ | (constructor <;> omega)) (by decide) rfl (fun c107 => ?_) (fun c107 => ?_)
                  · refine q_iinc (t := 116) F dX1_fewest_113 rfl (by decide) rfl rfl ?_
                    refine q_goto (t := 66) F dX1_fewest_116 (by decide) ?_
                    first
                      | (have e9 : fwB (im 9 0 4) (fun g => im 11 0 (10 * man + g)) e (b + 1) = fwB (im 9 0 4) (fun g => im 11 0 (10 * man + g)) e b := by rw [fwB_s, if_pos (by omega)]
                         rw [← e9]
                         exact ih66 (b + 1) (by omega) (by omega))
                      | (have e9 : fwB (im 9 0 4) (fun g => im 11 0 (10 * man + g)) e (b + 1) = b := by rw [fwB_s, if_neg (by omega), if_pos (by omega)]
                         have h := ih66 (b + 1) (by omega) (by omega)
                         rw [e9] at h
                         exact h)
                      | (have e9 : fwB (im 9 0 4) (fun g => im 11 0 (10 * man + g)) e (b + 1) = fwB (im 9 0 4) (fun g => im 11 0 (10 * man + g)) e b := by rw [fwB_s, if_neg (by omega), if_neg (by omega)]
                         rw [← e9]
                         exact ih66 (b + 1) (by omega) (by omega))
                  · refine q_iload (t := 112) F dX1_fewest_110 rfl rfl ?_
                    refine q_istore_n (t := 113) F dX1_fewest_112 rfl (by decide) rfl rfl ?_
                    refine q_iinc (t := 116) F dX1_fewest_113 rfl (by decide) rfl rfl ?_
                    refine q_goto (t := 66) F dX1_fewest_116 (by decide) ?_
                    first
                      | (have e9 : fwB (im 9 0 4) (fun g => im 11 0 (10 * man + g)) e (b + 1) = fwB (im 9 0 4) (fun g => im 11 0 (10 * man + g)) e b := by rw [fwB_s, if_pos (by omega)]
                         rw [← e9]
                         exact ih66 (b + 1) (by omega) (by omega))
                      | (have e9 : fwB (im 9 0 4) (fun g => im 11 0 (10 * man + g)) e (b + 1) = b := by rw [fwB_s, if_neg (by omega), if_pos (by omega)]
                         have h := ih66 (b + 1) (by omega) (by omega)
                         rw [e9] at h
                         exact h)
                      | (have e9 : fwB (im 9 0 4) (fun g => im 11 0 (10 * man + g)) e (b + 1) = fwB (im 9 0 4) (fun g => im 11 0 (10 * man + g)) e b := by rw [fwB_s, if_neg (by omega), if_neg (by omega)]
                         rw [← e9]
                         exact ih66 (b + 1) (by omega) (by omega))
              · refine q_goto (t := 113) F dX1_fewest_90 (by decide) ?_
                refine q_iinc (t := 116) F dX1_fewest_113 rfl (by decide) rfl rfl ?_
                refine q_goto (t := 66) F dX1_fewest_116 (by decide) ?_
                first
                  | (have e9 : fwB (im 9 0 4) (fun g => im 11 0 (10 * man + g)) e (b + 1) = fwB (im 9 0 4) (fun g => im 11 0 (10 * man + g)) e b := by rw [fwB_s, if_pos (by omega)]
                     rw [← e9]
                     exact ih66 (b + 1) (by omega) (by omega))
                  | (have e9 : fwB (im 9 0 4) (fun g => im 11 0 (10 * man + g)) e (b + 1) = b := by rw [fwB_s, if_neg (by omega), if_pos (by omega)]
                     have h := ih66 (b + 1) (by omega) (by omega)
                     rw [e9] at h
                     exact h)
                  | (have e9 : fwB (im 9 0 4) (fun g => im 11 0 (10 * man + g)) e (b + 1) = fwB (im 9 0 4) (fun g => im 11 0 (10 * man + g)) e b := by rw [fwB_s, if_neg (by omega), if_neg (by omega)]
                     rw [← e9]
                     exact ih66 (b + 1) (by omega) (by omega))
        exact L66 _ 0 (Nat.lt_succ_self _) (by omega)
      · refine q_iconst (t := 9) F dX1_fewest_8 rfl ?_
        refine q_istore (t := 11) F dX1_fewest_9 (by decide) rfl rfl ?_
        have L11 : ∀ (fz : Nat) (b0 : Nat) (im2 : IM), 2 ^ g - b0 < fz → b0 ≤ 2 ^ g → RI im2 → ag [13] im2 im → (∀ b, b < 2 ^ g + b0 → im2 13 0 b = svF (fun g => im 11 0 (10 * man + g)) b 10) → Wp M (XC G) ad Y_X1_fewest (pI fun x m' => x = fwB (im 9 0 4) (fun g => im 11 0 (10 * man + g)) e 1024 ∧ ∃ im', RI im' ∧ im' 13 0 0 = 0 ∧ ag [13] im' im ∧ m' = (im', rs bt rt, lm)) 11 [some (vR 9 0), some (vI (man : Int)), some (vI e), some (vI (g : Int)), some (vI (b0 : Int))] [] (im2, rs bt rt, lm) := by
          intro fz
          induction fz with
          | zero => intro b0 im2 h; exact absurd h (Nat.not_lt_zero _)
          | succ fz ih =>
            have ih11 := ih
            intro b0 im2 hmeas hb0 hR2 hag hsb
            refine q_iload (t := 13) F dX1_fewest_11 rfl rfl ?_
            refine q_iconst (t := 14) F dX1_fewest_13 rfl ?_
            refine q_iload_n (t := 15) F dX1_fewest_14 rfl rfl rfl ?_
            refine q_ishl (t := 16) F dX1_fewest_15 (by omega) (by omega) rfl ?_
            rw [hpi]
            refine q_icmp_ge (t := 19) (u := 55) F dX1_fewest_16 (by constructor <;> omega) (by constructor <;> omega) (by decide) rfl (fun c16 => ?_) (fun c16 => ?_)
            · refine q_iinc (t := 58) F dX1_fewest_55 rfl (by decide) rfl rfl ?_
              refine q_goto (t := 2) F dX1_fewest_58 (by decide) ?_
              refine wp_less 4 ?_
              exact ih2 (g + 1) im2 (by omega) (by omega) hR2 hag (fun b hb => hsb b (by have e9 : 2 ^ (g + 1) = 2 ^ g + 2 ^ g := (by rw [Nat.pow_succ]; omega); omega))
            · refine q_aload_n (t := 20) F dX1_fewest_19 rfl rfl rfl ?_
              refine g_X1_21 (t := 23) F dX1_fewest_20 rfl rfl ?_
              refine q_iload (t := 25) F dX1_fewest_23 rfl rfl ?_
              refine q_iconst (t := 26) F dX1_fewest_25 rfl ?_
              refine q_iload_n (t := 27) F dX1_fewest_26 rfl rfl rfl ?_
              refine q_ishl (t := 28) F dX1_fewest_27 (by omega) (by omega) rfl ?_
              rw [hpi]
              refine q_ior (t := 29) F dX1_fewest_28 rfl ?_
              have hbl : b0 < 2 ^ g := by omega
              have hg10 : g < 10 := by omega
              have hp2 : 2 ^ g + 2 ^ g ≤ 1024 := by
                have h9 := Nat.pow_le_pow_right (n := 2) (by omega) (show g + 1 ≤ 10 by omega)
                rw [Nat.pow_succ] at h9
                omega
              rw [or_pow hbl]
              refine q_aload_n (t := 30) F dX1_fewest_29 rfl rfl rfl ?_
              refine g_X1_21 (t := 33) F dX1_fewest_30 rfl rfl ?_
              refine q_iload (t := 35) F dX1_fewest_33 rfl rfl ?_
              first | refine ldN_13 (t := 36) F dX1_fewest_35 (by omega) rfl ?_ | refine ld_13 (t := 36) F dX1_fewest_35 (by omega) (by omega) rfl ?_
              refine q_aload_n (t := 37) F dX1_fewest_36 rfl rfl rfl ?_
              refine g_X1_15 (t := 40) F dX1_fewest_37 rfl rfl ?_
              refine q_iload_n (t := 41) F dX1_fewest_40 rfl rfl rfl ?_
              refine q_bipush (t := 43) F dX1_fewest_41 (by decide) rfl ?_
              refine q_imul (t := 44) F dX1_fewest_43 rfl ?_
              refine q_iload_n (t := 45) F dX1_fewest_44 rfl rfl rfl ?_
              refine q_iadd (t := 46) F dX1_fewest_45 rfl ?_
              rw [show (man : Int) * 10 + (g : Int) = ((10 * man + g : Nat) : Int) by omega]
              first | refine ldN_11 (t := 47) F dX1_fewest_46 (by omega) rfl ?_ | refine ld_11 (t := 47) F dX1_fewest_46 (by omega) (by omega) rfl ?_
              refine q_iadd (t := 48) F dX1_fewest_47 rfl ?_
              first | refine stN_13 (t := 49) F dX1_fewest_48 (by omega) rfl ?_ | refine st_13 (t := 49) F dX1_fewest_48 (by omega) (by omega) rfl ?_
              refine q_iinc (t := 52) F dX1_fewest_49 rfl (by decide) rfl rfl ?_
              refine q_goto (t := 11) F dX1_fewest_52 (by decide) ?_
              have ev : im2 13 0 b0 + im2 11 0 (10 * man + g) = svF (fun g => im 11 0 (10 * man + g)) (2 ^ g + b0) 10 := by
                rw [hsb b0 (by omega), hag 11 (by decide), svF_s hbl hg10]
              rw [ev]
              refine ih11 (b0 + 1) _ (by omega) (by omega) (RI_up hR2 (by have := hsv (2 ^ g + b0); constructor <;> omega)) (ag_up hag (by decide)) (fun b hb => ?_)
              rw [up_app]
              by_cases h : b = 2 ^ g + b0
              · rw [if_pos ⟨rfl, rfl, h⟩, h]
              · rw [if_neg (fun z => h z.2.2)]
                exact hsb b (by omega)
        exact L11 _ 0 im2 (Nat.lt_succ_self _) (Nat.zero_le _) hR2 hag (fun b hb => hsb b (by omega))
  exact L2 _ 0 im (Nat.lt_succ_self _) (by omega) hR (ag_rfl _ _) (fun b hb => by rw [show b = 0 by omega, hz, svF_0])
end
