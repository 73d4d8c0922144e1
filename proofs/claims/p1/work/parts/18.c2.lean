/-! Text -/
theorem row_self (im : IM) (k i : Nat) : row im k i (im k i) = im := by
  funext k' i' s'
  rw [row_app]
  split
  · rename_i h; obtain ⟨rfl, rfl⟩ := h; rfl
  · rfl
theorem row_row (im : IM) (k i : Nat) (f g : Nat → Int) : row (row im k i f) k i g = row im k i g := by
  funext k' i' s'
  simp only [row_app]
  split <;> rfl
theorem up_row (im : IM) (k i s : Nat) (f : Nat → Int) (x : Int) : up (row im k i f) k i s x = row im k i (us f s x) := by
  funext k' i' s'
  simp only [row_app, up_app, us]
  repeat' split
  all_goals first | rfl | (exfalso; omega)
theorem row_at (im : IM) (k i : Nat) (f : Nat → Int) : row im k i f k i = f := by
  funext s
  rw [row_app, if_pos ⟨rfl, rfl⟩]
theorem bj2_9 (a b : Int) : bi2 (-9) a b = bm (a * b) := rfl
theorem bj2_10 (a b : Int) : bi2 (-10) a b = bm (a + b) := rfl
theorem bj2_11 (a b : Int) : bi2 (-11) a b = bm (a - b) := rfl
theorem bj2_12 (a b : Int) : bi2 (-12) a b = if a < b then 1 else 0 := rfl
theorem bj2_13 (a b : Int) : bi2 (-13) a b = if a = b then 1 else 0 := rfl
theorem bj2_14 (a b : Int) : bi2 (-14) a b = if a ≠ 0 ∧ b ≠ 0 then 1 else 0 := rfl
theorem bj2_o {s : Int} (h : s < -14) (a b : Int) : bi2 s a b = if a ≠ 0 ∨ b ≠ 0 then 1 else 0 := by
  unfold bi2
  rw [if_neg (by omega), if_neg (by omega), if_neg (by omega), if_neg (by omega), if_neg (by omega), if_neg (by omega)]
theorem joinS_1 {s : Int} {u : Nat} {k : Nat → Int} (h : -8 ≤ s) : joinS s (u + 1, k) = (u + 1, us k u (un1 s (k u))) := by
  unfold joinS
  rw [if_pos h, if_neg (by show ¬ (u + 1 < 1); omega)]
  rfl
theorem joinS_2 {s : Int} {u : Nat} {k : Nat → Int} (h : s < -8) : joinS s (u + 2, k) = (u + 1, us k u (bi2 s (k u) (k (u + 1)))) := by
  unfold joinS
  rw [if_neg (by omega), if_neg (by show ¬ (u + 2 < 2); omega)]
  rfl
theorem joinS_0 {s : Int} {t : Nat} {k : Nat → Int} (h : -8 ≤ s ∧ t < 1 ∨ s < -8 ∧ t < 2) : joinS s (t, k) = (t, k) := by
  unfold joinS
  split
  · rw [if_pos (by show t < 1; omega)]
  · rw [if_pos (by show t < 2; omega)]
theorem tellQ_congr {im im' : IM} {j part : Nat} {nm k : Nat → Int} (h3 : ∀ s, im' 3 j s = im 3 j s) (h4 : ∀ s, im' 4 j s = im 4 j s) : tellQ im' j part nm k = tellQ im j part nm k := by
  have e3 : im' 3 j = im 3 j := funext h3
  unfold tellQ pa pb
  simp only [h4, e3]
theorem tellV_congr {im im' : IM} {j part : Nat} {nm : Nat → Int} (h3 : ∀ s, im' 3 j s = im 3 j s) (h4 : ∀ s, im' 4 j s = im 4 j s) : tellV im' j part nm = tellV im j part nm := by
  unfold tellV
  rw [tellQ_congr h3 h4]
theorem goodT_congr {im im' : IM} {j : Nat} (h3 : ∀ s, im' 3 j s = im 3 j s) (h4 : ∀ s, im' 4 j s = im 4 j s) (h : goodT im j) : goodT im' j := by
  refine ⟨fun part hp => ?_, fun part hp nm k => ?_⟩
  · rw [h4]; exact h.1 part hp
  · rw [tellQ_congr h3 h4, tellQ_congr h3 h4]; exact h.2 part hp nm k

set_option maxHeartbeats 4000000 in
theorem c_X6_clear (l : Launch) (G : GS) (im : IM) (bt rt : Nat) (lm : IM) (j : Nat) (hj : j < 6) : Cn l (XC G) yX6_clear Y_X6_clear [vR 2 j] (im, rs bt rt, lm) (pV fun m' => m' = (up im 2 j 3 0, rs bt rt, lm)) := by
  refine cn_of (by decide) (okC G) rfl (Nat.le_of_ble_eq_true rfl) ?_
  intro M ad hMl F
  subst hMl
  refine wp_pad 0 ?_
  show Wp M (XC G) ad Y_X6_clear (pV fun m' => m' = (up im 2 j 3 0, rs bt rt, lm)) 0 [some (vR 2 j)] [] (im, rs bt rt, lm)
  refine q_aload_n (t := 1) F dX6_clear_0 rfl rfl rfl ?_
  refine q_iconst (t := 2) F dX6_clear_1 rfl ?_
  refine p_X6_21 (t := 5) F dX6_clear_2 rfl (by omega) rfl ?_
  refine q_vret F dX6_clear_5 rfl ?_
  exact ⟨rfl, rfl⟩

/-- a step more -/
def addM (im : IM) (j : Nat) (s : Int) : IM := if im 2 j 3 < 160 then up (up im 3 j (im 2 j 3).toNat s) 2 j 3 (im 2 j 3 + 1) else im

set_option maxHeartbeats 4000000 in
theorem c_X6_add (l : Launch) (G : GS) (im : IM) (bt rt : Nat) (lm : IM) (j : Nat) (hj : j < 6) (s : Int) (z0 : 0 ≤ im 2 j 3) (z1 : im 2 j 3 ≤ 160) (hR : RI im) : Cn l (XC G) yX6_add Y_X6_add [vR 2 j, vI s] (im, rs bt rt, lm) (pV fun m' => m' = (addM im j s, rs bt rt, lm)) := by
  refine cn_of (by decide) (okC G) rfl (Nat.le_of_ble_eq_true rfl) ?_
  intro M ad hMl F
  subst hMl
  refine wp_pad 0 ?_
  show Wp M (XC G) ad Y_X6_add (pV fun m' => m' = (addM im j s, rs bt rt, lm)) 0 [some (vR 2 j), some (vI s)] [] (im, rs bt rt, lm)
  refine q_aload_n (t := 1) F dX6_add_0 rfl rfl rfl ?_
  refine g_X6_21 (t := 4) F dX6_add_1 rfl (by omega) rfl ?_
  refine q_sipush (t := 7) F dX6_add_4 (by decide) rfl ?_
  refine q_icmp_lt (t := 10) (u := 11) F dX6_add_7 (by first | exact hR _ _ _ | (constructor <;> omega)) (by first | exact hR _ _ _ | (constructor <;> omega)) (by decide) rfl (fun c7 => ?_) (fun c7 => ?_)
  · refine q_aload_n (t := 12) F dX6_add_11 rfl rfl rfl ?_
    refine g_X6_9 (t := 15) F dX6_add_12 rfl (by omega) rfl ?_
    refine q_aload_n (t := 16) F dX6_add_15 rfl rfl rfl ?_
    refine g_X6_21 (t := 19) F dX6_add_16 rfl (by omega) rfl ?_
    refine q_iload_n (t := 20) F dX6_add_19 rfl rfl rfl ?_
    refine st_3 (t := 21) F dX6_add_20 (by omega) (by omega) (by omega) rfl ?_
    refine q_aload_n (t := 22) F dX6_add_21 rfl rfl rfl ?_
    refine q_dupR (t := 23) F dX6_add_22 rfl ?_
    refine g_X6_21 (t := 26) F dX6_add_23 rfl (by omega) rfl ?_
    try simp only [up_app, row_app, scr_app, cpy_app, Nat.reduceEqDiff, Int.reduceToNat, Int.toNat_natCast, and_true, true_and, and_false, false_and, and_self, reduceIte]
    refine q_iconst (t := 27) F dX6_add_26 rfl ?_
    refine q_iadd (t := 28) F dX6_add_27 rfl ?_
    refine p_X6_21 (t := 31) F dX6_add_28 rfl (by omega) rfl ?_
    refine q_vret F dX6_add_31 rfl ?_
    exact ⟨rfl, by unfold addM; rw [if_pos (by omega)]⟩
  · refine q_vret F dX6_add_10 rfl ?_
    exact ⟨rfl, by unfold addM; rw [if_neg (by omega)]⟩

set_option maxHeartbeats 4000000 in
theorem c_X6_endPart (l : Launch) (G : GS) (im : IM) (bt rt : Nat) (lm : IM) (j : Nat) (hj : j < 6) (part : Nat) (hp : part < 3) : Cn l (XC G) yX6_endPart Y_X6_endPart [vR 2 j, vI (part : Int)] (im, rs bt rt, lm) (pV fun m' => m' = (up im 4 j part (im 2 j 3), rs bt rt, lm)) := by
  refine cn_of (by decide) (okC G) rfl (Nat.le_of_ble_eq_true rfl) ?_
  intro M ad hMl F
  subst hMl
  refine wp_pad 0 ?_
  show Wp M (XC G) ad Y_X6_endPart (pV fun m' => m' = (up im 4 j part (im 2 j 3), rs bt rt, lm)) 0 [some (vR 2 j), some (vI (part : Int))] [] (im, rs bt rt, lm)
  refine q_aload_n (t := 1) F dX6_endPart_0 rfl rfl rfl ?_
  refine g_X6_15 (t := 4) F dX6_endPart_1 rfl (by omega) rfl ?_
  refine q_iload_n (t := 5) F dX6_endPart_4 rfl rfl rfl ?_
  refine q_aload_n (t := 6) F dX6_endPart_5 rfl rfl rfl ?_
  refine g_X6_21 (t := 9) F dX6_endPart_6 rfl (by omega) rfl ?_
  first | refine stN_4 (t := 10) F dX6_endPart_9 (by omega) (by omega) rfl ?_ | refine st_4 (t := 10) F dX6_endPart_9 (by omega) (by omega) (by omega) rfl ?_
  refine q_vret F dX6_endPart_10 rfl ?_
  exact ⟨rfl, rfl⟩

set_option maxHeartbeats 4000000 in
theorem c_X6_put17 (l : Launch) (G : GS) (im : IM) (bt rt : Nat) (lm : IM) (j : Nat) (hj : j < 6) (k : Nat → Int) (s : Int) (t : Nat) (hs : -7 < s) (hs2 : ri s) (ht : t ≤ 31) : Cn l (XC G) yX6_put Y_X6_put [vR 2 j, vI s, vI (t : Int), vR 17 0] (row im 5 j k, rs bt rt, lm) (pI fun x m' => x = ((putS (im 17 0) s (t, k)).1 : Int) ∧ m' = (row im 5 j (putS (im 17 0) s (t, k)).2, rs bt rt, lm)) := by
  refine cn_of (by decide) (okC G) rfl (Nat.le_of_ble_eq_true rfl) ?_
  intro M ad hMl F
  subst hMl
  have hs3 := hs2.1
  have hs4 := hs2.2
  refine wp_pad 0 ?_
  show Wp M (XC G) ad Y_X6_put (pI fun x m' => x = ((putS (im 17 0) s (t, k)).1 : Int) ∧ m' = (row im 5 j (putS (im 17 0) s (t, k)).2, rs bt rt, lm)) 0 [some (vR 2 j), some (vI s), some (vI (t : Int)), some (vR 17 0)] [] (row im 5 j k, rs bt rt, lm)
  refine q_iload_n (t := 1) F dX6_put_0 rfl rfl rfl ?_
  refine q_bipush (t := 3) F dX6_put_1 (by decide) rfl ?_
  refine q_icmp_lt (t := 6) (u := 8) F dX6_put_3 (by first | exact hR _ _ _ | (constructor <;> omega)) (by first | exact hR _ _ _ | (constructor <;> omega)) (by decide) rfl (fun c3 => ?_) (fun c3 => ?_)
  · refine q_aload_n (t := 9) F dX6_put_8 rfl rfl rfl ?_
    refine g_X6_18 (t := 12) F dX6_put_9 rfl (by omega) rfl ?_
    refine q_iload_n (t := 13) F dX6_put_12 rfl rfl rfl ?_
    refine q_iload_n (t := 14) F dX6_put_13 rfl rfl rfl ?_
    refine q_if_lt (t := 17) (u := 21) F dX6_put_14 (by first | exact hR _ _ _ | (constructor <;> omega)) (by decide) rfl (fun c14 => ?_) (fun c14 => ?_)
    · refine q_aload_n (t := 22) F dX6_put_21 rfl rfl rfl ?_
      refine q_iconst (t := 23) F dX6_put_22 rfl ?_
      refine q_iload_n (t := 24) F dX6_put_23 rfl rfl rfl ?_
      refine q_isub (t := 25) F dX6_put_24 rfl ?_
      rw [show (-1 : Int) - s = (((-1 - s).toNat : Nat) : Int) by omega]
      first | refine ldN_17 (t := 26) F dX6_put_25 (by omega) rfl ?_ | refine ld_17 (t := 26) F dX6_put_25 (by omega) (by omega) rfl ?_
      try simp only [up_app, row_app, scr_app, cpy_app, Nat.reduceEqDiff, Int.reduceToNat, Int.toNat_natCast, and_true, true_and, and_false, false_and, and_self, reduceIte]
      first | refine stN_5 (t := 27) F dX6_put_26 (by omega) (by omega) rfl ?_ | refine st_5 (t := 27) F dX6_put_26 (by omega) (by omega) (by omega) rfl ?_
      refine q_iload_n (t := 28) F dX6_put_27 rfl rfl rfl ?_
      refine q_iconst (t := 29) F dX6_put_28 rfl ?_
      refine q_iadd (t := 30) F dX6_put_29 rfl ?_
      refine q_iret F dX6_put_30 rfl ?_
      refine ⟨_, rfl, by unfold putS; rw [if_pos (by omega)]; rfl, ?_⟩
      rw [up_row]
      unfold putS
      rw [if_pos (by omega)]
      first | (rw [if_pos (by omega)]) | (rw [if_neg (by omega)])
    · refine q_iload_n (t := 18) F dX6_put_17 rfl rfl rfl ?_
      refine q_goto (t := 26) F dX6_put_18 (by decide) ?_
      try simp only [up_app, row_app, scr_app, cpy_app, Nat.reduceEqDiff, Int.reduceToNat, Int.toNat_natCast, and_true, true_and, and_false, false_and, and_self, reduceIte]
      first | refine stN_5 (t := 27) F dX6_put_26 (by omega) (by omega) rfl ?_ | refine st_5 (t := 27) F dX6_put_26 (by omega) (by omega) (by omega) rfl ?_
      refine q_iload_n (t := 28) F dX6_put_27 rfl rfl rfl ?_
      refine q_iconst (t := 29) F dX6_put_28 rfl ?_
      refine q_iadd (t := 30) F dX6_put_29 rfl ?_
      refine q_iret F dX6_put_30 rfl ?_
      refine ⟨_, rfl, by unfold putS; rw [if_pos (by omega)]; rfl, ?_⟩
      rw [up_row]
      unfold putS
      rw [if_pos (by omega)]
      first | (rw [if_pos (by omega)]) | (rw [if_neg (by omega)])
  · refine q_iload_n (t := 7) F dX6_put_6 rfl rfl rfl ?_
    refine q_iret F dX6_put_7 rfl ?_
    exact ⟨_, rfl, by unfold putS; rw [if_neg (by omega)], by unfold putS; rw [if_neg (by omega)]⟩

set_option maxHeartbeats 4000000 in
theorem c_X6_put20 (l : Launch) (G : GS) (im : IM) (bt rt : Nat) (lm : IM) (j : Nat) (hj : j < 6) (w : Nat) (hw : w < 3) (k : Nat → Int) (s : Int) (t : Nat) (hs : -7 < s) (hs2 : ri s) (ht : t ≤ 31) : Cn l (XC G) yX6_put Y_X6_put [vR 2 j, vI s, vI (t : Int), vR 20 w] (row im 5 j k, rs bt rt, lm) (pI fun x m' => x = ((putS (im 20 w) s (t, k)).1 : Int) ∧ m' = (row im 5 j (putS (im 20 w) s (t, k)).2, rs bt rt, lm)) := by
  refine cn_of (by decide) (okC G) rfl (Nat.le_of_ble_eq_true rfl) ?_
  intro M ad hMl F
  subst hMl
  have hs3 := hs2.1
  have hs4 := hs2.2
  refine wp_pad 0 ?_
  show Wp M (XC G) ad Y_X6_put (pI fun x m' => x = ((putS (im 20 w) s (t, k)).1 : Int) ∧ m' = (row im 5 j (putS (im 20 w) s (t, k)).2, rs bt rt, lm)) 0 [some (vR 2 j), some (vI s), some (vI (t : Int)), some (vR 20 w)] [] (row im 5 j k, rs bt rt, lm)
  refine q_iload_n (t := 1) F dX6_put_0 rfl rfl rfl ?_
  refine q_bipush (t := 3) F dX6_put_1 (by decide) rfl ?_
  refine q_icmp_lt (t := 6) (u := 8) F dX6_put_3 (by first | exact hR _ _ _ | (constructor <;> omega)) (by first | exact hR _ _ _ | (constructor <;> omega)) (by decide) rfl (fun c3 => ?_) (fun c3 => ?_)
  · refine q_aload_n (t := 9) F dX6_put_8 rfl rfl rfl ?_
    refine g_X6_18 (t := 12) F dX6_put_9 rfl (by omega) rfl ?_
    refine q_iload_n (t := 13) F dX6_put_12 rfl rfl rfl ?_
    refine q_iload_n (t := 14) F dX6_put_13 rfl rfl rfl ?_
    refine q_if_lt (t := 17) (u := 21) F dX6_put_14 (by first | exact hR _ _ _ | (constructor <;> omega)) (by decide) rfl (fun c14 => ?_) (fun c14 => ?_)
    · refine q_aload_n (t := 22) F dX6_put_21 rfl rfl rfl ?_
      refine q_iconst (t := 23) F dX6_put_22 rfl ?_
      refine q_iload_n (t := 24) F dX6_put_23 rfl rfl rfl ?_
      refine q_isub (t := 25) F dX6_put_24 rfl ?_
      rw [show (-1 : Int) - s = (((-1 - s).toNat : Nat) : Int) by omega]
      first | refine ldN_20 (t := 26) F dX6_put_25 (by omega) (by omega) rfl ?_ | refine ld_20 (t := 26) F dX6_put_25 (by omega) (by omega) (by omega) rfl ?_
      try simp only [up_app, row_app, scr_app, cpy_app, Nat.reduceEqDiff, Int.reduceToNat, Int.toNat_natCast, and_true, true_and, and_false, false_and, and_self, reduceIte]
      first | refine stN_5 (t := 27) F dX6_put_26 (by omega) (by omega) rfl ?_ | refine st_5 (t := 27) F dX6_put_26 (by omega) (by omega) (by omega) rfl ?_
      refine q_iload_n (t := 28) F dX6_put_27 rfl rfl rfl ?_
      refine q_iconst (t := 29) F dX6_put_28 rfl ?_
      refine q_iadd (t := 30) F dX6_put_29 rfl ?_
      refine q_iret F dX6_put_30 rfl ?_
      refine ⟨_, rfl, by unfold putS; rw [if_pos (by omega)]; rfl, ?_⟩
      rw [up_row]
      unfold putS
      rw [if_pos (by omega)]
      first | (rw [if_pos (by omega)]) | (rw [if_neg (by omega)])
    · refine q_iload_n (t := 18) F dX6_put_17 rfl rfl rfl ?_
      refine q_goto (t := 26) F dX6_put_18 (by decide) ?_
      try simp only [up_app, row_app, scr_app, cpy_app, Nat.reduceEqDiff, Int.reduceToNat, Int.toNat_natCast, and_true, true_and, and_false, false_and, and_self, reduceIte]
      first | refine stN_5 (t := 27) F dX6_put_26 (by omega) (by omega) rfl ?_ | refine st_5 (t := 27) F dX6_put_26 (by omega) (by omega) (by omega) rfl ?_
      refine q_iload_n (t := 28) F dX6_put_27 rfl rfl rfl ?_
      refine q_iconst (t := 29) F dX6_put_28 rfl ?_
      refine q_iadd (t := 30) F dX6_put_29 rfl ?_
      refine q_iret F dX6_put_30 rfl ?_
      refine ⟨_, rfl, by unfold putS; rw [if_pos (by omega)]; rfl, ?_⟩
      rw [up_row]
      unfold putS
      rw [if_pos (by omega)]
      first | (rw [if_pos (by omega)]) | (rw [if_neg (by omega)])
  · refine q_iload_n (t := 7) F dX6_put_6 rfl rfl rfl ?_
    refine q_iret F dX6_put_7 rfl ?_
    exact ⟨_, rfl, by unfold putS; rw [if_neg (by omega)], by unfold putS; rw [if_neg (by omega)]⟩

set_option maxHeartbeats 4000000 in
theorem c_X6_join (l : Launch) (G : GS) (im : IM) (bt rt : Nat) (lm : IM) (j : Nat) (hj : j < 6) (k : Nat → Int) (hk : ∀ s, ri (k s)) (s : Int) (t : Nat) (hs : s ≤ -7) (hs2 : ri s) (ht : t ≤ 31) : Cn l (XC G) yX6_join Y_X6_join [vR 2 j, vI s, vI (t : Int)] (row im 5 j k, rs bt rt, lm) (pI fun x m' => x = ((joinS s (t, k)).1 : Int) ∧ m' = (row im 5 j (joinS s (t, k)).2, rs bt rt, lm)) := by
  refine cn_of (by decide) (okC G) rfl (Nat.le_of_ble_eq_true rfl) ?_
  intro M ad hMl F
  subst hMl
  have hs3 := hs2.1
  have hs4 := hs2.2
  refine wp_pad 3 ?_
  show Wp M (XC G) ad Y_X6_join (pI fun x m' => x = ((joinS s (t, k)).1 : Int) ∧ m' = (row im 5 j (joinS s (t, k)).2, rs bt rt, lm)) 0 [some (vR 2 j), some (vI s), some (vI (t : Int)), none, none, none] [] (row im 5 j k, rs bt rt, lm)
  refine q_iload_n (t := 1) F dX6_join_0 rfl rfl rfl ?_
  refine q_bipush (t := 3) F dX6_join_1 (by decide) rfl ?_
  refine q_icmp_lt (t := 6) (u := 12) F dX6_join_3 (by first | exact hR _ _ _ | (constructor <;> omega)) (by first | exact hR _ _ _ | (constructor <;> omega)) (by decide) rfl (fun c3 => ?_) (fun c3 => ?_)
  · refine q_iload_n (t := 13) F dX6_join_12 rfl rfl rfl ?_
    refine q_iconst (t := 14) F dX6_join_13 rfl ?_
    refine q_isub (t := 15) F dX6_join_14 rfl ?_
    refine q_istore_n (t := 16) F dX6_join_15 rfl (by decide) rfl rfl ?_
    refine q_iload_n (t := 17) F dX6_join_16 rfl rfl rfl ?_
    refine q_if_ge (t := 20) (u := 22) F dX6_join_17 (by first | exact hR _ _ _ | (constructor <;> omega)) (by decide) rfl (fun c17 => ?_) (fun c17 => ?_)
    · first | (obtain ⟨u, rfl⟩ : ∃ u : Nat, t = u + 1 := ⟨t - 1, by omega⟩; rw [show ((u + 1 : Nat) : Int) - 1 = (u : Int) by omega]) | (obtain ⟨u, rfl⟩ : ∃ u : Nat, t = u + 2 := ⟨t - 2, by omega⟩; rw [show ((u + 2 : Nat) : Int) - 2 = (u : Int) by omega])
      refine q_aload_n (t := 23) F dX6_join_22 rfl rfl rfl ?_
      refine g_X6_18 (t := 26) F dX6_join_23 rfl (by omega) rfl ?_
      refine q_iload_n (t := 27) F dX6_join_26 rfl rfl rfl ?_
      first | refine ldN_5 (t := 28) F dX6_join_27 (by omega) (by omega) rfl ?_ | refine ld_5 (t := 28) F dX6_join_27 (by omega) (by omega) (by omega) rfl ?_
      try simp only [up_app, row_app, scr_app, cpy_app, Nat.reduceEqDiff, Int.reduceToNat, Int.toNat_natCast, and_true, true_and, and_false, false_and, and_self, reduceIte]
      refine q_istore (t := 30) F dX6_join_28 (by decide) rfl rfl ?_
      refine q_aload_n (t := 31) F dX6_join_30 rfl rfl rfl ?_
      refine g_X6_18 (t := 34) F dX6_join_31 rfl (by omega) rfl ?_
      refine q_iload_n (t := 35) F dX6_join_34 rfl rfl rfl ?_
      refine q_iconst (t := 36) F dX6_join_35 rfl ?_
      refine q_isub (t := 37) F dX6_join_36 rfl ?_
      first | rw [show ((u + 1 : Nat) : Int) - 1 = (u : Int) by omega] | rw [show ((u + 2 : Nat) : Int) - 1 = ((u + 1 : Nat) : Int) by omega]
      first | refine ldN_5 (t := 38) F dX6_join_37 (by omega) (by omega) rfl ?_ | refine ld_5 (t := 38) F dX6_join_37 (by omega) (by omega) (by omega) rfl ?_
      try simp only [up_app, row_app, scr_app, cpy_app, Nat.reduceEqDiff, Int.reduceToNat, Int.toNat_natCast, and_true, true_and, and_false, false_and, and_self, reduceIte]
      refine q_istore (t := 40) F dX6_join_38 (by decide) rfl rfl ?_
      refine q_iload_n (t := 41) F dX6_join_40 rfl rfl rfl ?_
      have sw41 : s < -14 ∨ -7 < s ∨ s = -14 ∨ s = -13 ∨ s = -12 ∨ s = -11 ∨ s = -10 ∨ s = -9 ∨ s = -8 ∨ s = -7 := by omega
      rcases sw41 with c41 | c41 | c41 | c41 | c41 | c41 | c41 | c41 | c41 | c41
      · refine q_tableOut (t := 227) F dX6_join_41 (by first | exact hR _ _ _ | (constructor <;> omega)) (Or.inl c41) (by decide) ?_
        refine q_aload_n (t := 228) F dX6_join_227 rfl rfl rfl ?_
        refine g_X6_18 (t := 231) F dX6_join_228 rfl (by omega) rfl ?_
        refine q_iload_n (t := 232) F dX6_join_231 rfl rfl rfl ?_
        refine q_iload (t := 234) F dX6_join_232 rfl rfl ?_
        refine q_if_ne (t := 237) (u := 242) F dX6_join_234 (by first | exact hk _ | (constructor <;> omega)) (by decide) rfl (fun c234 => ?_) (fun c234 => ?_)
        · refine q_iconst (t := 243) F dX6_join_242 rfl ?_
          refine q_goto (t := 247) F dX6_join_243 (by decide) ?_
          first | refine stN_5 (t := 248) F dX6_join_247 (by omega) (by omega) rfl ?_ | refine st_5 (t := 248) F dX6_join_247 (by omega) (by omega) (by omega) rfl ?_
          refine q_iload_n (t := 249) F dX6_join_248 rfl rfl rfl ?_
          refine q_iconst (t := 250) F dX6_join_249 rfl ?_
          refine q_iadd (t := 251) F dX6_join_250 rfl ?_
          refine q_iret F dX6_join_251 rfl ?_
          first
            | (rw [joinS_1 (by omega)]
               refine ⟨_, rfl, rfl, ?_⟩
               rw [up_row]
               refine congrArg (fun v => ((row im 5 j (us k u v), rs bt rt, lm) : Mem)) ?_
               unfold un1
               (repeat' split) <;> first | rfl | omega)
            | (rw [joinS_2 (by omega)]
               refine ⟨_, rfl, rfl, ?_⟩
               rw [up_row]
               refine congrArg (fun v => ((row im 5 j (us k u v), rs bt rt, lm) : Mem)) ?_
               first
                 | (rw [c41]; (first | rw [bj2_9] | rw [bj2_10] | rw [bj2_11] | rw [bj2_12] | rw [bj2_13] | rw [bj2_14]); (try split) <;> first | rfl | omega)
                 | (rw [bj2_o (by omega)]; (try split) <;> first | rfl | omega)
                 | (unfold bi2; (repeat' split) <;> first | rfl | omega))
        · refine q_iload (t := 239) F dX6_join_237 rfl rfl ?_
          refine q_if_eq (t := 242) (u := 246) F dX6_join_239 (by first | exact hk _ | (constructor <;> omega)) (by decide) rfl (fun c239 => ?_) (fun c239 => ?_)
          · refine q_iconst (t := 247) F dX6_join_246 rfl ?_
            first | refine stN_5 (t := 248) F dX6_join_247 (by omega) (by omega) rfl ?_ | refine st_5 (t := 248) F dX6_join_247 (by omega) (by omega) (by omega) rfl ?_
            refine q_iload_n (t := 249) F dX6_join_248 rfl rfl rfl ?_
            refine q_iconst (t := 250) F dX6_join_249 rfl ?_
            refine q_iadd (t := 251) F dX6_join_250 rfl ?_
            refine q_iret F dX6_join_251 rfl ?_
            first
              | (rw [joinS_1 (by omega)]
                 refine ⟨_, rfl, rfl, ?_⟩
                 rw [up_row]
                 refine congrArg (fun v => ((row im 5 j (us k u v), rs bt rt, lm) : Mem)) ?_
                 unfold un1
                 (repeat' split) <;> first | rfl | omega)
              | (rw [joinS_2 (by omega)]
                 refine ⟨_, rfl, rfl, ?_⟩
                 rw [up_row]
                 refine congrArg (fun v => ((row im 5 j (us k u v), rs bt rt, lm) : Mem)) ?_
                 first
                   | (rw [c41]; (first | rw [bj2_9] | rw [bj2_10] | rw [bj2_11] | rw [bj2_12] | rw [bj2_13] | rw [bj2_14]); (try split) <;> first | rfl | omega)
                   | (rw [bj2_o (by omega)]; (try split) <;> first | rfl | omega)
                   | (unfold bi2; (repeat' split) <;> first | rfl | omega))
          · refine q_iconst (t := 243) F dX6_join_242 rfl ?_
            refine q_goto (t := 247) F dX6_join_243 (by decide) ?_
            first | refine stN_5 (t := 248) F dX6_join_247 (by omega) (by omega) rfl ?_ | refine st_5 (t := 248) F dX6_join_247 (by omega) (by omega) (by omega) rfl ?_
            refine q_iload_n (t := 249) F dX6_join_248 rfl rfl rfl ?_
            refine q_iconst (t := 250) F dX6_join_249 rfl ?_
            refine q_iadd (t := 251) F dX6_join_250 rfl ?_
            refine q_iret F dX6_join_251 rfl ?_
            first
              | (rw [joinS_1 (by omega)]
                 refine ⟨_, rfl, rfl, ?_⟩
                 rw [up_row]
                 refine congrArg (fun v => ((row im 5 j (us k u v), rs bt rt, lm) : Mem)) ?_
                 unfold un1
                 (repeat' split) <;> first | rfl | omega)
              | (rw [joinS_2 (by omega)]
                 refine ⟨_, rfl, rfl, ?_⟩
                 rw [up_row]
                 refine congrArg (fun v => ((row im 5 j (us k u v), rs bt rt, lm) : Mem)) ?_
                 first
                   | (rw [c41]; (first | rw [bj2_9] | rw [bj2_10] | rw [bj2_11] | rw [bj2_12] | rw [bj2_13] | rw [bj2_14]); (try split) <;> first | rfl | omega)
                   | (rw [bj2_o (by omega)]; (try split) <;> first | rfl | omega)
                   | (unfold bi2; (repeat' split) <;> first | rfl | omega))
      · refine q_tableOut (t := 227) F dX6_join_41 (by first | exact hR _ _ _ | (constructor <;> omega)) (Or.inr c41) (by decide) ?_
        refine q_aload_n (t := 228) F dX6_join_227 rfl rfl rfl ?_
        refine g_X6_18 (t := 231) F dX6_join_228 rfl (by omega) rfl ?_
        refine q_iload_n (t := 232) F dX6_join_231 rfl rfl rfl ?_
        refine q_iload (t := 234) F dX6_join_232 rfl rfl ?_
        refine q_if_ne (t := 237) (u := 242) F dX6_join_234 (by first | exact hk _ | (constructor <;> omega)) (by decide) rfl (fun c234 => ?_) (fun c234 => ?_)
        · refine q_iconst (t := 243) F dX6_join_242 rfl ?_
          refine q_goto (t := 247) F dX6_join_243 (by decide) ?_
          first | refine stN_5 (t := 248) F dX6_join_247 (by omega) (by omega) rfl ?_ | refine st_5 (t := 248) F dX6_join_247 (by omega) (by omega) (by omega) rfl ?_
          refine q_iload_n (t := 249) F dX6_join_248 rfl rfl rfl ?_
          refine q_iconst (t := 250) F dX6_join_249 rfl ?_
          refine q_iadd (t := 251) F dX6_join_250 rfl ?_
          refine q_iret F dX6_join_251 rfl ?_
          first
            | (rw [joinS_1 (by omega)]
               refine ⟨_, rfl, rfl, ?_⟩
               rw [up_row]
               refine congrArg (fun v => ((row im 5 j (us k u v), rs bt rt, lm) : Mem)) ?_
               unfold un1
               (repeat' split) <;> first | rfl | omega)
            | (rw [joinS_2 (by omega)]
               refine ⟨_, rfl, rfl, ?_⟩
               rw [up_row]
               refine congrArg (fun v => ((row im 5 j (us k u v), rs bt rt, lm) : Mem)) ?_
               first
                 | (rw [c41]; (first | rw [bj2_9] | rw [bj2_10] | rw [bj2_11] | rw [bj2_12] | rw [bj2_13] | rw [bj2_14]); (try split) <;> first | rfl | omega)
                 | (rw [bj2_o (by omega)]; (try split) <;> first | rfl | omega)
                 | (unfold bi2; (repeat' split) <;> first | rfl | omega))
        · refine q_iload (t := 239) F dX6_join_237 rfl rfl ?_
          refine q_if_eq (t := 242) (u := 246) F dX6_join_239 (by first | exact hk _ | (constructor <;> omega)) (by decide) rfl (fun c239 => ?_) (fun c239 => ?_)
          · refine q_iconst (t := 247) F dX6_join_246 rfl ?_
            first | refine stN_5 (t := 248) F dX6_join_247 (by omega) (by omega) rfl ?_ | refine st_5 (t := 248) F dX6_join_247 (by omega) (by omega) (by omega) rfl ?_
            refine q_iload_n (t := 249) F dX6_join_248 rfl rfl rfl ?_
            refine q_iconst (t := 250) F dX6_join_249 rfl ?_
            refine q_iadd (t := 251) F dX6_join_250 rfl ?_
            refine q_iret F dX6_join_251 rfl ?_
            first
              | (rw [joinS_1 (by omega)]
                 refine ⟨_, rfl, rfl, ?_⟩
                 rw [up_row]
                 refine congrArg (fun v => ((row im 5 j (us k u v), rs bt rt, lm) : Mem)) ?_
                 unfold un1
                 (repeat' split) <;> first | rfl | omega)
              | (rw [joinS_2 (by omega)]
                 refine ⟨_, rfl, rfl, ?_⟩
                 rw [up_row]
                 refine congrArg (fun v => ((row im 5 j (us k u v), rs bt rt, lm) : Mem)) ?_
                 first
                   | (rw [c41]; (first | rw [bj2_9] | rw [bj2_10] | rw [bj2_11] | rw [bj2_12] | rw [bj2_13] | rw [bj2_14]); (try split) <;> first | rfl | omega)
                   | (rw [bj2_o (by omega)]; (try split) <;> first | rfl | omega)
                   | (unfold bi2; (repeat' split) <;> first | rfl | omega))
          · refine q_iconst (t := 243) F dX6_join_242 rfl ?_
            refine q_goto (t := 247) F dX6_join_243 (by decide) ?_
            first | refine stN_5 (t := 248) F dX6_join_247 (by omega) (by omega) rfl ?_ | refine st_5 (t := 248) F dX6_join_247 (by omega) (by omega) (by omega) rfl ?_
            refine q_iload_n (t := 249) F dX6_join_248 rfl rfl rfl ?_
            refine q_iconst (t := 250) F dX6_join_249 rfl ?_
            refine q_iadd (t := 251) F dX6_join_250 rfl ?_
            refine q_iret F dX6_join_251 rfl ?_
            first
              | (rw [joinS_1 (by omega)]
                 refine ⟨_, rfl, rfl, ?_⟩
                 rw [up_row]
                 refine congrArg (fun v => ((row im 5 j (us k u v), rs bt rt, lm) : Mem)) ?_
                 unfold un1
                 (repeat' split) <;> first | rfl | omega)
              | (rw [joinS_2 (by omega)]
                 refine ⟨_, rfl, rfl, ?_⟩
                 rw [up_row]
                 refine congrArg (fun v => ((row im 5 j (us k u v), rs bt rt, lm) : Mem)) ?_
                 first
                   | (rw [c41]; (first | rw [bj2_9] | rw [bj2_10] | rw [bj2_11] | rw [bj2_12] | rw [bj2_13] | rw [bj2_14]); (try split) <;> first | rfl | omega)
                   | (rw [bj2_o (by omega)]; (try split) <;> first | rfl | omega)
                   | (unfold bi2; (repeat' split) <;> first | rfl | omega))
      · refine q_tableIn (t := 203) F dX6_join_41 (by first | exact hR _ _ _ | (constructor <;> omega)) (by omega) (by omega) (by rw [c41]; rfl) (by decide) ?_
        refine q_aload_n (t := 204) F dX6_join_203 rfl rfl rfl ?_
        refine g_X6_18 (t := 207) F dX6_join_204 rfl (by omega) rfl ?_
        refine q_iload_n (t := 208) F dX6_join_207 rfl rfl rfl ?_
        refine q_iload (t := 210) F dX6_join_208 rfl rfl ?_
        refine q_if_eq (t := 213) (u := 222) F dX6_join_210 (by first | exact hk _ | (constructor <;> omega)) (by decide) rfl (fun c210 => ?_) (fun c210 => ?_)
        · refine q_iconst (t := 223) F dX6_join_222 rfl ?_
          first | refine stN_5 (t := 224) F dX6_join_223 (by omega) (by omega) rfl ?_ | refine st_5 (t := 224) F dX6_join_223 (by omega) (by omega) (by omega) rfl ?_
          refine q_goto (t := 248) F dX6_join_224 (by decide) ?_
          refine q_iload_n (t := 249) F dX6_join_248 rfl rfl rfl ?_
          refine q_iconst (t := 250) F dX6_join_249 rfl ?_
          refine q_iadd (t := 251) F dX6_join_250 rfl ?_
          refine q_iret F dX6_join_251 rfl ?_
          first
            | (rw [joinS_1 (by omega)]
               refine ⟨_, rfl, rfl, ?_⟩
               rw [up_row]
               refine congrArg (fun v => ((row im 5 j (us k u v), rs bt rt, lm) : Mem)) ?_
               unfold un1
               (repeat' split) <;> first | rfl | omega)
            | (rw [joinS_2 (by omega)]
               refine ⟨_, rfl, rfl, ?_⟩
               rw [up_row]
               refine congrArg (fun v => ((row im 5 j (us k u v), rs bt rt, lm) : Mem)) ?_
               first
                 | (rw [c41]; (first | rw [bj2_9] | rw [bj2_10] | rw [bj2_11] | rw [bj2_12] | rw [bj2_13] | rw [bj2_14]); (try split) <;> first | rfl | omega)
                 | (rw [bj2_o (by omega)]; (try split) <;> first | rfl | omega)
                 | (unfold bi2; (repeat' split) <;> first | rfl | omega))
        · refine q_iload (t := 215) F dX6_join_213 rfl rfl ?_
          refine q_if_eq (t := 218) (u := 222) F dX6_join_215 (by first | exact hk _ | (constructor <;> omega)) (by decide) rfl (fun c215 => ?_) (fun c215 => ?_)
          · refine q_iconst (t := 223) F dX6_join_222 rfl ?_
            first | refine stN_5 (t := 224) F dX6_join_223 (by omega) (by omega) rfl ?_ | refine st_5 (t := 224) F dX6_join_223 (by omega) (by omega) (by omega) rfl ?_
            refine q_goto (t := 248) F dX6_join_224 (by decide) ?_
            refine q_iload_n (t := 249) F dX6_join_248 rfl rfl rfl ?_
            refine q_iconst (t := 250) F dX6_join_249 rfl ?_
            refine q_iadd (t := 251) F dX6_join_250 rfl ?_
            refine q_iret F dX6_join_251 rfl ?_
            first
              | (rw [joinS_1 (by omega)]
                 refine ⟨_, rfl, rfl, ?_⟩
                 rw [up_row]
                 refine congrArg (fun v => ((row im 5 j (us k u v), rs bt rt, lm) : Mem)) ?_
                 unfold un1
                 (repeat' split) <;> first | rfl | omega)
              | (rw [joinS_2 (by omega)]
                 refine ⟨_, rfl, rfl, ?_⟩
                 rw [up_row]
                 refine congrArg (fun v => ((row im 5 j (us k u v), rs bt rt, lm) : Mem)) ?_
                 first
                   | (rw [c41]; (first | rw [bj2_9] | rw [bj2_10] | rw [bj2_11] | rw [bj2_12] | rw [bj2_13] | rw [bj2_14]); (try split) <;> first | rfl | omega)
                   | (rw [bj2_o (by omega)]; (try split) <;> first | rfl | omega)
                   | (unfold bi2; (repeat' split) <;> first | rfl | omega))
          · refine q_iconst (t := 219) F dX6_join_218 rfl ?_
            refine q_goto (t := 223) F dX6_join_219 (by decide) ?_
            first | refine stN_5 (t := 224) F dX6_join_223 (by omega) (by omega) rfl ?_ | refine st_5 (t := 224) F dX6_join_223 (by omega) (by omega) (by omega) rfl ?_
            refine q_goto (t := 248) F dX6_join_224 (by decide) ?_
            refine q_iload_n (t := 249) F dX6_join_248 rfl rfl rfl ?_
            refine q_iconst (t := 250) F dX6_join_249 rfl ?_
            refine q_iadd (t := 251) F dX6_join_250 rfl ?_
            refine q_iret F dX6_join_251 rfl ?_
            first
              | (rw [joinS_1 (by omega)]
                 refine ⟨_, rfl, rfl, ?_⟩
                 rw [up_row]
                 refine congrArg (fun v => ((row im 5 j (us k u v), rs bt rt, lm) : Mem)) ?_
                 unfold un1
                 (repeat' split) <;> first | rfl | omega)
              | (rw [joinS_2 (by omega)]
                 refine ⟨_, rfl, rfl, ?_⟩
                 rw [up_row]
                 refine congrArg (fun v => ((row im 5 j (us k u v), rs bt rt, lm) : Mem)) ?_
                 first
                   | (rw [c41]; (first | rw [bj2_9] | rw [bj2_10] | rw [bj2_11] | rw [bj2_12] | rw [bj2_13] | rw [bj2_14]); (try split) <;> first | rfl | omega)
                   | (rw [bj2_o (by omega)]; (try split) <;> first | rfl | omega)
                   | (unfold bi2; (repeat' split) <;> first | rfl | omega))
      · refine q_tableIn (t := 182) F dX6_join_41 (by first | exact hR _ _ _ | (constructor <;> omega)) (by omega) (by omega) (by rw [c41]; rfl) (by decide) ?_
        refine q_aload_n (t := 183) F dX6_join_182 rfl rfl rfl ?_
        refine g_X6_18 (t := 186) F dX6_join_183 rfl (by omega) rfl ?_
        refine q_iload_n (t := 187) F dX6_join_186 rfl rfl rfl ?_
        refine q_iload (t := 189) F dX6_join_187 rfl rfl ?_
        refine q_iload (t := 191) F dX6_join_189 rfl rfl ?_
        refine q_icmp_ne (t := 194) (u := 198) F dX6_join_191 (by first | exact hk _ | (constructor <;> omega)) (by first | exact hk _ | (constructor <;> omega)) (by decide) rfl (fun c191 => ?_) (fun c191 => ?_)
        · refine q_iconst (t := 199) F dX6_join_198 rfl ?_
          first | refine stN_5 (t := 200) F dX6_join_199 (by omega) (by omega) rfl ?_ | refine st_5 (t := 200) F dX6_join_199 (by omega) (by omega) (by omega) rfl ?_
          refine q_goto (t := 248) F dX6_join_200 (by decide) ?_
          refine q_iload_n (t := 249) F dX6_join_248 rfl rfl rfl ?_
          refine q_iconst (t := 250) F dX6_join_249 rfl ?_
          refine q_iadd (t := 251) F dX6_join_250 rfl ?_
          refine q_iret F dX6_join_251 rfl ?_
          first
            | (rw [joinS_1 (by omega)]
               refine ⟨_, rfl, rfl, ?_⟩
               rw [up_row]
               refine congrArg (fun v => ((row im 5 j (us k u v), rs bt rt, lm) : Mem)) ?_
               unfold un1
               (repeat' split) <;> first | rfl | omega)
            | (rw [joinS_2 (by omega)]
               refine ⟨_, rfl, rfl, ?_⟩
               rw [up_row]
               refine congrArg (fun v => ((row im 5 j (us k u v), rs bt rt, lm) : Mem)) ?_
               first
                 | (rw [c41]; (first | rw [bj2_9] | rw [bj2_10] | rw [bj2_11] | rw [bj2_12] | rw [bj2_13] | rw [bj2_14]); (try split) <;> first | rfl | omega)
                 | (rw [bj2_o (by omega)]; (try split) <;> first | rfl | omega)
                 | (unfold bi2; (repeat' split) <;> first | rfl | omega))
        · refine q_iconst (t := 195) F dX6_join_194 rfl ?_
          refine q_goto (t := 199) F dX6_join_195 (by decide) ?_
          first | refine stN_5 (t := 200) F dX6_join_199 (by omega) (by omega) rfl ?_ | refine st_5 (t := 200) F dX6_join_199 (by omega) (by omega) (by omega) rfl ?_
          refine q_goto (t := 248) F dX6_join_200 (by decide) ?_
          refine q_iload_n (t := 249) F dX6_join_248 rfl rfl rfl ?_
          refine q_iconst (t := 250) F dX6_join_249 rfl ?_
          refine q_iadd (t := 251) F dX6_join_250 rfl ?_
          refine q_iret F dX6_join_251 rfl ?_
          first
            | (rw [joinS_1 (by omega)]
               refine ⟨_, rfl, rfl, ?_⟩
               rw [up_row]
               refine congrArg (fun v => ((row im 5 j (us k u v), rs bt rt, lm) : Mem)) ?_
               unfold un1
               (repeat' split) <;> first | rfl | omega)
            | (rw [joinS_2 (by omega)]
               refine ⟨_, rfl, rfl, ?_⟩
               rw [up_row]
               refine congrArg (fun v => ((row im 5 j (us k u v), rs bt rt, lm) : Mem)) ?_
               first
                 | (rw [c41]; (first | rw [bj2_9] | rw [bj2_10] | rw [bj2_11] | rw [bj2_12] | rw [bj2_13] | rw [bj2_14]); (try split) <;> first | rfl | omega)
                 | (rw [bj2_o (by omega)]; (try split) <;> first | rfl | omega)
                 | (unfold bi2; (repeat' split) <;> first | rfl | omega))
      · refine q_tableIn (t := 161) F dX6_join_41 (by first | exact hR _ _ _ | (constructor <;> omega)) (by omega) (by omega) (by rw [c41]; rfl) (by decide) ?_
        refine q_aload_n (t := 162) F dX6_join_161 rfl rfl rfl ?_
        refine g_X6_18 (t := 165) F dX6_join_162 rfl (by omega) rfl ?_
        refine q_iload_n (t := 166) F dX6_join_165 rfl rfl rfl ?_
        refine q_iload (t := 168) F dX6_join_166 rfl rfl ?_
        refine q_iload (t := 170) F dX6_join_168 rfl rfl ?_
        refine q_icmp_ge (t := 173) (u := 177) F dX6_join_170 (by first | exact hk _ | (constructor <;> omega)) (by first | exact hk _ | (constructor <;> omega)) (by decide) rfl (fun c170 => ?_) (fun c170 => ?_)
        · refine q_iconst (t := 178) F dX6_join_177 rfl ?_
          first | refine stN_5 (t := 179) F dX6_join_178 (by omega) (by omega) rfl ?_ | refine st_5 (t := 179) F dX6_join_178 (by omega) (by omega) (by omega) rfl ?_
          refine q_goto (t := 248) F dX6_join_179 (by decide) ?_
          refine q_iload_n (t := 249) F dX6_join_248 rfl rfl rfl ?_
          refine q_iconst (t := 250) F dX6_join_249 rfl ?_
          refine q_iadd (t := 251) F dX6_join_250 rfl ?_
          refine q_iret F dX6_join_251 rfl ?_
          first
            | (rw [joinS_1 (by omega)]
               refine ⟨_, rfl, rfl, ?_⟩
               rw [up_row]
               refine congrArg (fun v => ((row im 5 j (us k u v), rs bt rt, lm) : Mem)) ?_
               unfold un1
               (repeat' split) <;> first | rfl | omega)
            | (rw [joinS_2 (by omega)]
               refine ⟨_, rfl, rfl, ?_⟩
               rw [up_row]
               refine congrArg (fun v => ((row im 5 j (us k u v), rs bt rt, lm) : Mem)) ?_
               first
                 | (rw [c41]; (first | rw [bj2_9] | rw [bj2_10] | rw [bj2_11] | rw [bj2_12] | rw [bj2_13] | rw [bj2_14]); (try split) <;> first | rfl | omega)
                 | (rw [bj2_o (by omega)]; (try split) <;> first | rfl | omega)
                 | (unfold bi2; (repeat' split) <;> first | rfl | omega))
        · refine q_iconst (t := 174) F dX6_join_173 rfl ?_
          refine q_goto (t := 178) F dX6_join_174 (by decide) ?_
          first | refine stN_5 (t := 179) F dX6_join_178 (by omega) (by omega) rfl ?_ | refine st_5 (t := 179) F dX6_join_178 (by omega) (by omega) (by omega) rfl ?_
          refine q_goto (t := 248) F dX6_join_179 (by decide) ?_
          refine q_iload_n (t := 249) F dX6_join_248 rfl rfl rfl ?_
          refine q_iconst (t := 250) F dX6_join_249 rfl ?_
          refine q_iadd (t := 251) F dX6_join_250 rfl ?_
          refine q_iret F dX6_join_251 rfl ?_
          first
            | (rw [joinS_1 (by omega)]
               refine ⟨_, rfl, rfl, ?_⟩
               rw [up_row]
               refine congrArg (fun v => ((row im 5 j (us k u v), rs bt rt, lm) : Mem)) ?_
               unfold un1
               (repeat' split) <;> first | rfl | omega)
            | (rw [joinS_2 (by omega)]
               refine ⟨_, rfl, rfl, ?_⟩
               rw [up_row]
               refine congrArg (fun v => ((row im 5 j (us k u v), rs bt rt, lm) : Mem)) ?_
               first
                 | (rw [c41]; (first | rw [bj2_9] | rw [bj2_10] | rw [bj2_11] | rw [bj2_12] | rw [bj2_13] | rw [bj2_14]); (try split) <;> first | rfl | omega)
                 | (rw [bj2_o (by omega)]; (try split) <;> first | rfl | omega)
                 | (unfold bi2; (repeat' split) <;> first | rfl | omega))
      · refine q_tableIn (t := 147) F dX6_join_41 (by first | exact hR _ _ _ | (constructor <;> omega)) (by omega) (by omega) (by rw [c41]; rfl) (by decide) ?_
        refine q_aload_n (t := 148) F dX6_join_147 rfl rfl rfl ?_
        refine g_X6_18 (t := 151) F dX6_join_148 rfl (by omega) rfl ?_
        refine q_iload_n (t := 152) F dX6_join_151 rfl rfl rfl ?_
        refine q_iload (t := 154) F dX6_join_152 rfl rfl ?_
        refine q_iload (t := 156) F dX6_join_154 rfl rfl ?_
        refine q_isub (t := 157) F dX6_join_156 rfl ?_
        refine q_norm ?_
        first | refine stN_5 (t := 158) F dX6_join_157 (by omega) (by omega) rfl ?_ | refine st_5 (t := 158) F dX6_join_157 (by omega) (by omega) (by omega) rfl ?_
        refine q_goto (t := 248) F dX6_join_158 (by decide) ?_
        refine q_iload_n (t := 249) F dX6_join_248 rfl rfl rfl ?_
        refine q_iconst (t := 250) F dX6_join_249 rfl ?_
        refine q_iadd (t := 251) F dX6_join_250 rfl ?_
        refine q_iret F dX6_join_251 rfl ?_
        first
          | (rw [joinS_1 (by omega)]
             refine ⟨_, rfl, rfl, ?_⟩
             rw [up_row]
             refine congrArg (fun v => ((row im 5 j (us k u v), rs bt rt, lm) : Mem)) ?_
             unfold un1
             (repeat' split) <;> first | rfl | omega)
          | (rw [joinS_2 (by omega)]
             refine ⟨_, rfl, rfl, ?_⟩
             rw [up_row]
             refine congrArg (fun v => ((row im 5 j (us k u v), rs bt rt, lm) : Mem)) ?_
             first
               | (rw [c41]; (first | rw [bj2_9] | rw [bj2_10] | rw [bj2_11] | rw [bj2_12] | rw [bj2_13] | rw [bj2_14]); (try split) <;> first | rfl | omega)
               | (rw [bj2_o (by omega)]; (try split) <;> first | rfl | omega)
               | (unfold bi2; (repeat' split) <;> first | rfl | omega))
      · refine q_tableIn (t := 133) F dX6_join_41 (by first | exact hR _ _ _ | (constructor <;> omega)) (by omega) (by omega) (by rw [c41]; rfl) (by decide) ?_
        refine q_aload_n (t := 134) F dX6_join_133 rfl rfl rfl ?_
        refine g_X6_18 (t := 137) F dX6_join_134 rfl (by omega) rfl ?_
        refine q_iload_n (t := 138) F dX6_join_137 rfl rfl rfl ?_
        refine q_iload (t := 140) F dX6_join_138 rfl rfl ?_
        refine q_iload (t := 142) F dX6_join_140 rfl rfl ?_
        refine q_iadd (t := 143) F dX6_join_142 rfl ?_
        refine q_norm ?_
        first | refine stN_5 (t := 144) F dX6_join_143 (by omega) (by omega) rfl ?_ | refine st_5 (t := 144) F dX6_join_143 (by omega) (by omega) (by omega) rfl ?_
        refine q_goto (t := 248) F dX6_join_144 (by decide) ?_
        refine q_iload_n (t := 249) F dX6_join_248 rfl rfl rfl ?_
        refine q_iconst (t := 250) F dX6_join_249 rfl ?_
        refine q_iadd (t := 251) F dX6_join_250 rfl ?_
        refine q_iret F dX6_join_251 rfl ?_
        first
          | (rw [joinS_1 (by omega)]
             refine ⟨_, rfl, rfl, ?_⟩
             rw [up_row]
             refine congrArg (fun v => ((row im 5 j (us k u v), rs bt rt, lm) : Mem)) ?_
             unfold un1
             (repeat' split) <;> first | rfl | omega)
          | (rw [joinS_2 (by omega)]
             refine ⟨_, rfl, rfl, ?_⟩
             rw [up_row]
             refine congrArg (fun v => ((row im 5 j (us k u v), rs bt rt, lm) : Mem)) ?_
             first
               | (rw [c41]; (first | rw [bj2_9] | rw [bj2_10] | rw [bj2_11] | rw [bj2_12] | rw [bj2_13] | rw [bj2_14]); (try split) <;> first | rfl | omega)
               | (rw [bj2_o (by omega)]; (try split) <;> first | rfl | omega)
               | (unfold bi2; (repeat' split) <;> first | rfl | omega))
      · refine q_tableIn (t := 119) F dX6_join_41 (by first | exact hR _ _ _ | (constructor <;> omega)) (by omega) (by omega) (by rw [c41]; rfl) (by decide) ?_
        refine q_aload_n (t := 120) F dX6_join_119 rfl rfl rfl ?_
        refine g_X6_18 (t := 123) F dX6_join_120 rfl (by omega) rfl ?_
        refine q_iload_n (t := 124) F dX6_join_123 rfl rfl rfl ?_
        refine q_iload (t := 126) F dX6_join_124 rfl rfl ?_
        refine q_iload (t := 128) F dX6_join_126 rfl rfl ?_
        refine q_imul (t := 129) F dX6_join_128 rfl ?_
        refine q_norm ?_
        first | refine stN_5 (t := 130) F dX6_join_129 (by omega) (by omega) rfl ?_ | refine st_5 (t := 130) F dX6_join_129 (by omega) (by omega) (by omega) rfl ?_
        refine q_goto (t := 248) F dX6_join_130 (by decide) ?_
        refine q_iload_n (t := 249) F dX6_join_248 rfl rfl rfl ?_
        refine q_iconst (t := 250) F dX6_join_249 rfl ?_
        refine q_iadd (t := 251) F dX6_join_250 rfl ?_
        refine q_iret F dX6_join_251 rfl ?_
        first
          | (rw [joinS_1 (by omega)]
             refine ⟨_, rfl, rfl, ?_⟩
             rw [up_row]
             refine congrArg (fun v => ((row im 5 j (us k u v), rs bt rt, lm) : Mem)) ?_
             unfold un1
             (repeat' split) <;> first | rfl | omega)
          | (rw [joinS_2 (by omega)]
             refine ⟨_, rfl, rfl, ?_⟩
             rw [up_row]
             refine congrArg (fun v => ((row im 5 j (us k u v), rs bt rt, lm) : Mem)) ?_
             first
               | (rw [c41]; (first | rw [bj2_9] | rw [bj2_10] | rw [bj2_11] | rw [bj2_12] | rw [bj2_13] | rw [bj2_14]); (try split) <;> first | rfl | omega)
               | (rw [bj2_o (by omega)]; (try split) <;> first | rfl | omega)
               | (unfold bi2; (repeat' split) <;> first | rfl | omega))
      · refine q_tableIn (t := 100) F dX6_join_41 (by first | exact hR _ _ _ | (constructor <;> omega)) (by omega) (by omega) (by rw [c41]; rfl) (by decide) ?_
        refine q_aload_n (t := 101) F dX6_join_100 rfl rfl rfl ?_
        refine g_X6_18 (t := 104) F dX6_join_101 rfl (by omega) rfl ?_
        refine q_iload_n (t := 105) F dX6_join_104 rfl rfl rfl ?_
        refine q_iload (t := 107) F dX6_join_105 rfl rfl ?_
        refine q_if_ne (t := 110) (u := 114) F dX6_join_107 (by first | exact hk _ | (constructor <;> omega)) (by decide) rfl (fun c107 => ?_) (fun c107 => ?_)
        · refine q_iconst (t := 115) F dX6_join_114 rfl ?_
          first | refine stN_5 (t := 116) F dX6_join_115 (by omega) (by omega) rfl ?_ | refine st_5 (t := 116) F dX6_join_115 (by omega) (by omega) (by omega) rfl ?_
          refine q_goto (t := 248) F dX6_join_116 (by decide) ?_
          refine q_iload_n (t := 249) F dX6_join_248 rfl rfl rfl ?_
          refine q_iconst (t := 250) F dX6_join_249 rfl ?_
          refine q_iadd (t := 251) F dX6_join_250 rfl ?_
          refine q_iret F dX6_join_251 rfl ?_
          first
            | (rw [joinS_1 (by omega)]
               refine ⟨_, rfl, rfl, ?_⟩
               rw [up_row]
               refine congrArg (fun v => ((row im 5 j (us k u v), rs bt rt, lm) : Mem)) ?_
               unfold un1
               (repeat' split) <;> first | rfl | omega)
            | (rw [joinS_2 (by omega)]
               refine ⟨_, rfl, rfl, ?_⟩
               rw [up_row]
               refine congrArg (fun v => ((row im 5 j (us k u v), rs bt rt, lm) : Mem)) ?_
               first
                 | (rw [c41]; (first | rw [bj2_9] | rw [bj2_10] | rw [bj2_11] | rw [bj2_12] | rw [bj2_13] | rw [bj2_14]); (try split) <;> first | rfl | omega)
                 | (rw [bj2_o (by omega)]; (try split) <;> first | rfl | omega)
                 | (unfold bi2; (repeat' split) <;> first | rfl | omega))
        · refine q_iconst (t := 111) F dX6_join_110 rfl ?_
          refine q_goto (t := 115) F dX6_join_111 (by decide) ?_
          first | refine stN_5 (t := 116) F dX6_join_115 (by omega) (by omega) rfl ?_ | refine st_5 (t := 116) F dX6_join_115 (by omega) (by omega) (by omega) rfl ?_
          refine q_goto (t := 248) F dX6_join_116 (by decide) ?_
          refine q_iload_n (t := 249) F dX6_join_248 rfl rfl rfl ?_
          refine q_iconst (t := 250) F dX6_join_249 rfl ?_
          refine q_iadd (t := 251) F dX6_join_250 rfl ?_
          refine q_iret F dX6_join_251 rfl ?_
          first
            | (rw [joinS_1 (by omega)]
               refine ⟨_, rfl, rfl, ?_⟩
               rw [up_row]
               refine congrArg (fun v => ((row im 5 j (us k u v), rs bt rt, lm) : Mem)) ?_
               unfold un1
               (repeat' split) <;> first | rfl | omega)
            | (rw [joinS_2 (by omega)]
               refine ⟨_, rfl, rfl, ?_⟩
               rw [up_row]
               refine congrArg (fun v => ((row im 5 j (us k u v), rs bt rt, lm) : Mem)) ?_
               first
                 | (rw [c41]; (first | rw [bj2_9] | rw [bj2_10] | rw [bj2_11] | rw [bj2_12] | rw [bj2_13] | rw [bj2_14]); (try split) <;> first | rfl | omega)
                 | (rw [bj2_o (by omega)]; (try split) <;> first | rfl | omega)
                 | (unfold bi2; (repeat' split) <;> first | rfl | omega))
      · refine q_tableIn (t := 88) F dX6_join_41 (by first | exact hR _ _ _ | (constructor <;> omega)) (by omega) (by omega) (by rw [c41]; rfl) (by decide) ?_
        refine q_aload_n (t := 89) F dX6_join_88 rfl rfl rfl ?_
        refine g_X6_18 (t := 92) F dX6_join_89 rfl (by omega) rfl ?_
        refine q_iload_n (t := 93) F dX6_join_92 rfl rfl rfl ?_
        refine q_iload (t := 95) F dX6_join_93 rfl rfl ?_
        refine q_ineg (t := 96) F dX6_join_95 rfl ?_
        refine q_norm ?_
        first | refine stN_5 (t := 97) F dX6_join_96 (by omega) (by omega) rfl ?_ | refine st_5 (t := 97) F dX6_join_96 (by omega) (by omega) (by omega) rfl ?_
        refine q_goto (t := 248) F dX6_join_97 (by decide) ?_
        refine q_iload_n (t := 249) F dX6_join_248 rfl rfl rfl ?_
        refine q_iconst (t := 250) F dX6_join_249 rfl ?_
        refine q_iadd (t := 251) F dX6_join_250 rfl ?_
        refine q_iret F dX6_join_251 rfl ?_
        first
          | (rw [joinS_1 (by omega)]
             refine ⟨_, rfl, rfl, ?_⟩
             rw [up_row]
             refine congrArg (fun v => ((row im 5 j (us k u v), rs bt rt, lm) : Mem)) ?_
             unfold un1
             (repeat' split) <;> first | rfl | omega)
          | (rw [joinS_2 (by omega)]
             refine ⟨_, rfl, rfl, ?_⟩
             rw [up_row]
             refine congrArg (fun v => ((row im 5 j (us k u v), rs bt rt, lm) : Mem)) ?_
             first
               | (rw [c41]; (first | rw [bj2_9] | rw [bj2_10] | rw [bj2_11] | rw [bj2_12] | rw [bj2_13] | rw [bj2_14]); (try split) <;> first | rfl | omega)
               | (rw [bj2_o (by omega)]; (try split) <;> first | rfl | omega)
               | (unfold bi2; (repeat' split) <;> first | rfl | omega))
    · refine q_iload_n (t := 21) F dX6_join_20 rfl rfl rfl ?_
      refine q_iret F dX6_join_21 rfl ?_
      exact ⟨_, rfl, by rw [joinS_0 (by omega)], by rw [joinS_0 (by omega)]⟩
  · refine q_iload_n (t := 7) F dX6_join_6 rfl rfl rfl ?_
    refine q_iconst (t := 8) F dX6_join_7 rfl ?_
    refine q_isub (t := 9) F dX6_join_8 rfl ?_
    refine q_goto (t := 15) F dX6_join_9 (by decide) ?_
    refine q_istore_n (t := 16) F dX6_join_15 rfl (by decide) rfl rfl ?_
    refine q_iload_n (t := 17) F dX6_join_16 rfl rfl rfl ?_
    refine q_if_ge (t := 20) (u := 22) F dX6_join_17 (by first | exact hR _ _ _ | (constructor <;> omega)) (by decide) rfl (fun c17 => ?_) (fun c17 => ?_)
    · first | (obtain ⟨u, rfl⟩ : ∃ u : Nat, t = u + 1 := ⟨t - 1, by omega⟩; rw [show ((u + 1 : Nat) : Int) - 1 = (u : Int) by omega]) | (obtain ⟨u, rfl⟩ : ∃ u : Nat, t = u + 2 := ⟨t - 2, by omega⟩; rw [show ((u + 2 : Nat) : Int) - 2 = (u : Int) by omega])
      refine q_aload_n (t := 23) F dX6_join_22 rfl rfl rfl ?_
      refine g_X6_18 (t := 26) F dX6_join_23 rfl (by omega) rfl ?_
      refine q_iload_n (t := 27) F dX6_join_26 rfl rfl rfl ?_
      first | refine ldN_5 (t := 28) F dX6_join_27 (by omega) (by omega) rfl ?_ | refine ld_5 (t := 28) F dX6_join_27 (by omega) (by omega) (by omega) rfl ?_
      try simp only [up_app, row_app, scr_app, cpy_app, Nat.reduceEqDiff, Int.reduceToNat, Int.toNat_natCast, and_true, true_and, and_false, false_and, and_self, reduceIte]
      refine q_istore (t := 30) F dX6_join_28 (by decide) rfl rfl ?_
      refine q_aload_n (t := 31) F dX6_join_30 rfl rfl rfl ?_
      refine g_X6_18 (t := 34) F dX6_join_31 rfl (by omega) rfl ?_
      refine q_iload_n (t := 35) F dX6_join_34 rfl rfl rfl ?_
      refine q_iconst (t := 36) F dX6_join_35 rfl ?_
      refine q_isub (t := 37) F dX6_join_36 rfl ?_
      first | rw [show ((u + 1 : Nat) : Int) - 1 = (u : Int) by omega] | rw [show ((u + 2 : Nat) : Int) - 1 = ((u + 1 : Nat) : Int) by omega]
      first | refine ldN_5 (t := 38) F dX6_join_37 (by omega) (by omega) rfl ?_ | refine ld_5 (t := 38) F dX6_join_37 (by omega) (by omega) (by omega) rfl ?_
      try simp only [up_app, row_app, scr_app, cpy_app, Nat.reduceEqDiff, Int.reduceToNat, Int.toNat_natCast, and_true, true_and, and_false, false_and, and_self, reduceIte]
      refine q_istore (t := 40) F dX6_join_38 (by decide) rfl rfl ?_
      refine q_iload_n (t := 41) F dX6_join_40 rfl rfl rfl ?_
      have sw41 : s < -14 ∨ -7 < s ∨ s = -14 ∨ s = -13 ∨ s = -12 ∨ s = -11 ∨ s = -10 ∨ s = -9 ∨ s = -8 ∨ s = -7 := by omega
      rcases sw41 with c41 | c41 | c41 | c41 | c41 | c41 | c41 | c41 | c41 | c41
      · refine q_tableOut (t := 227) F dX6_join_41 (by first | exact hR _ _ _ | (constructor <;> omega)) (Or.inl c41) (by decide) ?_
        refine q_aload_n (t := 228) F dX6_join_227 rfl rfl rfl ?_
        refine g_X6_18 (t := 231) F dX6_join_228 rfl (by omega) rfl ?_
        refine q_iload_n (t := 232) F dX6_join_231 rfl rfl rfl ?_
        refine q_iload (t := 234) F dX6_join_232 rfl rfl ?_
        refine q_if_ne (t := 237) (u := 242) F dX6_join_234 (by first | exact hk _ | (constructor <;> omega)) (by decide) rfl (fun c234 => ?_) (fun c234 => ?_)
        · refine q_iconst (t := 243) F dX6_join_242 rfl ?_
          refine q_goto (t := 247) F dX6_join_243 (by decide) ?_
          first | refine stN_5 (t := 248) F dX6_join_247 (by omega) (by omega) rfl ?_ | refine st_5 (t := 248) F dX6_join_247 (by omega) (by omega) (by omega) rfl ?_
          refine q_iload_n (t := 249) F dX6_join_248 rfl rfl rfl ?_
          refine q_iconst (t := 250) F dX6_join_249 rfl ?_
          refine q_iadd (t := 251) F dX6_join_250 rfl ?_
          refine q_iret F dX6_join_251 rfl ?_
          first
            | (rw [joinS_1 (by omega)]
               refine ⟨_, rfl, rfl, ?_⟩
               rw [up_row]
               refine congrArg (fun v => ((row im 5 j (us k u v), rs bt rt, lm) : Mem)) ?_
               unfold un1
               (repeat' split) <;> first | rfl | omega)
            | (rw [joinS_2 (by omega)]
               refine ⟨_, rfl, rfl, ?_⟩
               rw [up_row]
               refine congrArg (fun v => ((row im 5 j (us k u v), rs bt rt, lm) : Mem)) ?_
               first
                 | (rw [c41]; (first | rw [bj2_9] | rw [bj2_10] | rw [bj2_11] | rw [bj2_12] | rw [bj2_13] | rw [bj2_14]); (try split) <;> first | rfl | omega)
                 | (rw [bj2_o (by omega)]; (try split) <;> first | rfl | omega)
                 | (unfold bi2; (repeat' split) <;> first | rfl | omega))
        · refine q_iload (t := 239) F dX6_join_237 rfl rfl ?_
          refine q_if_eq (t := 242) (u := 246) F dX6_join_239 (by first | exact hk _ | (constructor <;> omega)) (by decide) rfl (fun c239 => ?_) (fun c239 => ?_)
          · refine q_iconst (t := 247) F dX6_join_246 rfl ?_
            first | refine stN_5 (t := 248) F dX6_join_247 (by omega) (by omega) rfl ?_ | refine st_5 (t := 248) F dX6_join_247 (by omega) (by omega) (by omega) rfl ?_
            refine q_iload_n (t := 249) F dX6_join_248 rfl rfl rfl ?_
            refine q_iconst (t := 250) F dX6_join_249 rfl ?_
            refine q_iadd (t := 251) F dX6_join_250 rfl ?_
            refine q_iret F dX6_join_251 rfl ?_
            first
              | (rw [joinS_1 (by omega)]
                 refine ⟨_, rfl, rfl, ?_⟩
                 rw [up_row]
                 refine congrArg (fun v => ((row im 5 j (us k u v), rs bt rt, lm) : Mem)) ?_
                 unfold un1
                 (repeat' split) <;> first | rfl | omega)
              | (rw [joinS_2 (by omega)]
                 refine ⟨_, rfl, rfl, ?_⟩
                 rw [up_row]
                 refine congrArg (fun v => ((row im 5 j (us k u v), rs bt rt, lm) : Mem)) ?_
                 first
                   | (rw [c41]; (first | rw [bj2_9] | rw [bj2_10] | rw [bj2_11] | rw [bj2_12] | rw [bj2_13] | rw [bj2_14]); (try split) <;> first | rfl | omega)
                   | (rw [bj2_o (by omega)]; (try split) <;> first | rfl | omega)
                   | (unfold bi2; (repeat' split) <;> first | rfl | omega))
          · refine q_iconst (t := 243) F dX6_join_242 rfl ?_
            refine q_goto (t := 247) F dX6_join_243 (by decide) ?_
            first | refine stN_5 (t := 248) F dX6_join_247 (by omega) (by omega) rfl ?_ | refine st_5 (t := 248) F dX6_join_247 (by omega) (by omega) (by omega) rfl ?_
            refine q_iload_n (t := 249) F dX6_join_248 rfl rfl rfl ?_
            refine q_iconst (t := 250) F dX6_join_249 rfl ?_
            refine q_iadd (t := 251) F dX6_join_250 rfl ?_
            refine q_iret F dX6_join_251 rfl ?_
            first
              | (rw [joinS_1 (by omega)]
                 refine ⟨_, rfl, rfl, ?_⟩
                 rw [up_row]
                 refine congrArg (fun v => ((row im 5 j (us k u v), rs bt rt, lm) : Mem)) ?_
                 unfold un1
                 (repeat' split) <;> first | rfl | omega)
              | (rw [joinS_2 (by omega)]
                 refine ⟨_, rfl, rfl, ?_⟩
                 rw [up_row]
                 refine congrArg (fun v => ((row im 5 j (us k u v), rs bt rt, lm) : Mem)) ?_
                 first
                   | (rw [c41]; (first | rw [bj2_9] | rw [bj2_10] | rw [bj2_11] | rw [bj2_12] | rw [bj2_13] | rw [bj2_14]); (try split) <;> first | rfl | omega)
                   | (rw [bj2_o (by omega)]; (try split) <;> first | rfl | omega)
                   | (unfold bi2; (repeat' split) <;> first | rfl | omega))
      · refine q_tableOut (t := 227) F dX6_join_41 (by first | exact hR _ _ _ | (constructor <;> omega)) (Or.inr c41) (by decide) ?_
        refine q_aload_n (t := 228) F dX6_join_227 rfl rfl rfl ?_
        refine g_X6_18 (t := 231) F dX6_join_228 rfl (by omega) rfl ?_
        refine q_iload_n (t := 232) F dX6_join_231 rfl rfl rfl ?_
        refine q_iload (t := 234) F dX6_join_232 rfl rfl ?_
        refine q_if_ne (t := 237) (u := 242) F dX6_join_234 (by first | exact hk _ | (constructor <;> omega)) (by decide) rfl (fun c234 => ?_) (fun c234 => ?_)
        · refine q_iconst (t := 243) F dX6_join_242 rfl ?_
          refine q_goto (t := 247) F dX6_join_243 (by decide) ?_
          first | refine stN_5 (t := 248) F dX6_join_247 (by omega) (by omega) rfl ?_ | refine st_5 (t := 248) F dX6_join_247 (by omega) (by omega) (by omega) rfl ?_
          refine q_iload_n (t := 249) F dX6_join_248 rfl rfl rfl ?_
          refine q_iconst (t := 250) F dX6_join_249 rfl ?_
          refine q_iadd (t := 251) F dX6_join_250 rfl ?_
          refine q_iret F dX6_join_251 rfl ?_
          first
            | (rw [joinS_1 (by omega)]
               refine ⟨_, rfl, rfl, ?_⟩
               rw [up_row]
               refine congrArg (fun v => ((row im 5 j (us k u v), rs bt rt, lm) : Mem)) ?_
               unfold un1
               (repeat' split) <;> first | rfl | omega)
            | (rw [joinS_2 (by omega)]
               refine ⟨_, rfl, rfl, ?_⟩
               rw [up_row]
               refine congrArg (fun v => ((row im 5 j (us k u v), rs bt rt, lm) : Mem)) ?_
               first
                 | (rw [c41]; (first | rw [bj2_9] | rw [bj2_10] | rw [bj2_11] | rw [bj2_12] | rw [bj2_13] | rw [bj2_14]); (try split) <;> first | rfl | omega)
                 | (rw [bj2_o (by omega)]; (try split) <;> first | rfl | omega)
                 | (unfold bi2; (repeat' split) <;> first | rfl | omega))
        · refine q_iload (t := 239) F dX6_join_237 rfl rfl ?_
          refine q_if_eq (t := 242) (u := 246) F dX6_join_239 (by first | exact hk _ | (constructor <;> omega)) (by decide) rfl (fun c239 => ?_) (fun c239 => ?_)
          · refine q_iconst (t := 247) F dX6_join_246 rfl ?_
            first | refine stN_5 (t := 248) F dX6_join_247 (by omega) (by omega) rfl ?_ | refine st_5 (t := 248) F dX6_join_247 (by omega) (by omega) (by omega) rfl ?_
            refine q_iload_n (t := 249) F dX6_join_248 rfl rfl rfl ?_
            refine q_iconst (t := 250) F dX6_join_249 rfl ?_
            refine q_iadd (t := 251) F dX6_join_250 rfl ?_
            refine q_iret F dX6_join_251 rfl ?_
            first
              | (rw [joinS_1 (by omega)]
                 refine ⟨_, rfl, rfl, ?_⟩
                 rw [up_row]
                 refine congrArg (fun v => ((row im 5 j (us k u v), rs bt rt, lm) : Mem)) ?_
                 unfold un1
                 (repeat' split) <;> first | rfl | omega)
              | (rw [joinS_2 (by omega)]
                 refine ⟨_, rfl, rfl, ?_⟩
                 rw [up_row]
                 refine congrArg (fun v => ((row im 5 j (us k u v), rs bt rt, lm) : Mem)) ?_
                 first
                   | (rw [c41]; (first | rw [bj2_9] | rw [bj2_10] | rw [bj2_11] | rw [bj2_12] | rw [bj2_13] | rw [bj2_14]); (try split) <;> first | rfl | omega)
                   | (rw [bj2_o (by omega)]; (try split) <;> first | rfl | omega)
                   | (unfold bi2; (repeat' split) <;> first | rfl | omega))
          · refine q_iconst (t := 243) F dX6_join_242 rfl ?_
            refine q_goto (t := 247) F dX6_join_243 (by decide) ?_
            first | refine stN_5 (t := 248) F dX6_join_247 (by omega) (by omega) rfl ?_ | refine st_5 (t := 248) F dX6_join_247 (by omega) (by omega) (by omega) rfl ?_
            refine q_iload_n (t := 249) F dX6_join_248 rfl rfl rfl ?_
            refine q_iconst (t := 250) F dX6_join_249 rfl ?_
            refine q_iadd (t := 251) F dX6_join_250 rfl ?_
            refine q_iret F dX6_join_251 rfl ?_
            first
              | (rw [joinS_1 (by omega)]
                 refine ⟨_, rfl, rfl, ?_⟩
                 rw [up_row]
                 refine congrArg (fun v => ((row im 5 j (us k u v), rs bt rt, lm) : Mem)) ?_
                 unfold un1
                 (repeat' split) <;> first | rfl | omega)
              | (rw [joinS_2 (by omega)]
                 refine ⟨_, rfl, rfl, ?_⟩
                 rw [up_row]
                 refine congrArg (fun v => ((row im 5 j (us k u v), rs bt rt, lm) : Mem)) ?_
                 first
                   | (rw [c41]; (first | rw [bj2_9] | rw [bj2_10] | rw [bj2_11] | rw [bj2_12] | rw [bj2_13] | rw [bj2_14]); (try split) <;> first | rfl | omega)
                   | (rw [bj2_o (by omega)]; (try split) <;> first | rfl | omega)
                   | (unfold bi2; (repeat' split) <;> first | rfl | omega))
      · refine q_tableIn (t := 203) F dX6_join_41 (by first | exact hR _ _ _ | (constructor <;> omega)) (by omega) (by omega) (by rw [c41]; rfl) (by decide) ?_
        refine q_aload_n (t := 204) F dX6_join_203 rfl rfl rfl ?_
        refine g_X6_18 (t := 207) F dX6_join_204 rfl (by omega) rfl ?_
        refine q_iload_n (t := 208) F dX6_join_207 rfl rfl rfl ?_
        refine q_iload (t := 210) F dX6_join_208 rfl rfl ?_
        refine q_if_eq (t := 213) (u := 222) F dX6_join_210 (by first | exact hk _ | (constructor <;> omega)) (by decide) rfl (fun c210 => ?_) (fun c210 => ?_)
        · refine q_iconst (t := 223) F dX6_join_222 rfl ?_
          first | refine stN_5 (t := 224) F dX6_join_223 (by omega) (by omega) rfl ?_ | refine st_5 (t := 224) F dX6_join_223 (by omega) (by omega) (by omega) rfl ?_
          refine q_goto (t := 248) F dX6_join_224 (by decide) ?_
          refine q_iload_n (t := 249) F dX6_join_248 rfl rfl rfl ?_
          refine q_iconst (t := 250) F dX6_join_249 rfl ?_
          refine q_iadd (t := 251) F dX6_join_250 rfl ?_
          refine q_iret F dX6_join_251 rfl ?_
          first
            | (rw [joinS_1 (by omega)]
               refine ⟨_, rfl, rfl, ?_⟩
               rw [up_row]
               refine congrArg (fun v => ((row im 5 j (us k u v), rs bt rt, lm) : Mem)) ?_
               unfold un1
               (repeat' split) <;> first | rfl | omega)
            | (rw [joinS_2 (by omega)]
               refine ⟨_, rfl, rfl, ?_⟩
               rw [up_row]
               refine congrArg (fun v => ((row im 5 j (us k u v), rs bt rt, lm) : Mem)) ?_
               first
                 | (rw [c41]; (first | rw [bj2_9] | rw [bj2_10] | rw [bj2_11] | rw [bj2_12] | rw [bj2_13] | rw [bj2_14]); (try split) <;> first | rfl | omega)
                 | (rw [bj2_o (by omega)]; (try split) <;> first | rfl | omega)
                 | (unfold bi2; (repeat' split) <;> first | rfl | omega))
        · refine q_iload (t := 215) F dX6_join_213 rfl rfl ?_
          refine q_if_eq (t := 218) (u := 222) F dX6_join_215 (by first | exact hk _ | (constructor <;> omega)) (by decide) rfl (fun c215 => ?_) (fun c215 => ?_)
          · refine q_iconst (t := 223) F dX6_join_222 rfl ?_
            first | refine stN_5 (t := 224) F dX6_join_223 (by omega) (by omega) rfl ?_ | refine st_5 (t := 224) F dX6_join_223 (by omega) (by omega) (by omega) rfl ?_
            refine q_goto (t := 248) F dX6_join_224 (by decide) ?_
            refine q_iload_n (t := 249) F dX6_join_248 rfl rfl rfl ?_
            refine q_iconst (t := 250) F dX6_join_249 rfl ?_
            refine q_iadd (t := 251) F dX6_join_250 rfl ?_
            refine q_iret F dX6_join_251 rfl ?_
            first
              | (rw [joinS_1 (by omega)]
                 refine ⟨_, rfl, rfl, ?_⟩
                 rw [up_row]
                 refine congrArg (fun v => ((row im 5 j (us k u v), rs bt rt, lm) : Mem)) ?_
                 unfold un1
                 (repeat' split) <;> first | rfl | omega)
              | (rw [joinS_2 (by omega)]
                 refine ⟨_, rfl, rfl, ?_⟩
                 rw [up_row]
                 refine congrArg (fun v => ((row im 5 j (us k u v), rs bt rt, lm) : Mem)) ?_
                 first
                   | (rw [c41]; (first | rw [bj2_9] | rw [bj2_10] | rw [bj2_11] | rw [bj2_12] | rw [bj2_13] | rw [bj2_14]); (try split) <;> first | rfl | omega)
                   | (rw [bj2_o (by omega)]; (try split) <;> first | rfl | omega)
                   | (unfold bi2; (repeat' split) <;> first | rfl | omega))
          · refine q_iconst (t := 219) F dX6_join_218 rfl ?_
            refine q_goto (t := 223) F dX6_join_219 (by decide) ?_
            first | refine stN_5 (t := 224) F dX6_join_223 (by omega) (by omega) rfl ?_ | refine st_5 (t := 224) F dX6_join_223 (by omega) (by omega) (by omega) rfl ?_
            refine q_goto (t := 248) F dX6_join_224 (by decide) ?_
            refine q_iload_n (t := 249) F dX6_join_248 rfl rfl rfl ?_
            refine q_iconst (t := 250) F dX6_join_249 rfl ?_
            refine q_iadd (t := 251) F dX6_join_250 rfl ?_
            refine q_iret F dX6_join_251 rfl ?_
            first
              | (rw [joinS_1 (by omega)]
                 refine ⟨_, rfl, rfl, ?_⟩
                 rw [up_row]
                 refine congrArg (fun v => ((row im 5 j (us k u v), rs bt rt, lm) : Mem)) ?_
                 unfold un1
                 (repeat' split) <;> first | rfl | omega)
              | (rw [joinS_2 (by omega)]
                 refine ⟨_, rfl, rfl, ?_⟩
                 rw [up_row]
                 refine congrArg (fun v => ((row im 5 j (us k u v), rs bt rt, lm) : Mem)) ?_
                 first
                   | (rw [c41]; (first | rw [bj2_9] | rw [bj2_10] | rw [bj2_11] | rw [bj2_12] | rw [bj2_13] | rw [bj2_14]); (try split) <;> first | rfl | omega)
                   | (rw [bj2_o (by omega)]; (try split) <;> first | rfl | omega)
                   | (unfold bi2; (repeat' split) <;> first | rfl | omega))
      · refine q_tableIn (t := 182) F dX6_join_41 (by first | exact hR _ _ _ | (constructor <;> omega)) (by omega) (by omega) (by rw [c41]; rfl) (by decide) ?_
        refine q_aload_n (t := 183) F dX6_join_182 rfl rfl rfl ?_
        refine g_X6_18 (t := 186) F dX6_join_183 rfl (by omega) rfl ?_
        refine q_iload_n (t := 187) F dX6_join_186 rfl rfl rfl ?_
        refine q_iload (t := 189) F dX6_join_187 rfl rfl ?_
        refine q_iload (t := 191) F dX6_join_189 rfl rfl ?_
        refine q_icmp_ne (t := 194) (u := 198) F dX6_join_191 (by first | exact hk _ | (constructor <;> omega)) (by first | exact hk _ | (constructor <;> omega)) (by decide) rfl (fun c191 => ?_) (fun c191 => ?_)
        · refine q_iconst (t := 199) F dX6_join_198 rfl ?_
          first | refine stN_5 (t := 200) F dX6_join_199 (by omega) (by omega) rfl ?_ | refine st_5 (t := 200) F dX6_join_199 (by omega) (by omega) (by omega) rfl ?_
          refine q_goto (t := 248) F dX6_join_200 (by decide) ?_
          refine q_iload_n (t := 249) F dX6_join_248 rfl rfl rfl ?_
          refine q_iconst (t := 250) F dX6_join_249 rfl ?_
          refine q_iadd (t := 251) F dX6_join_250 rfl ?_
          refine q_iret F dX6_join_251 rfl ?_
          first
            | (rw [joinS_1 (by omega)]
               refine ⟨_, rfl, rfl, ?_⟩
               rw [up_row]
               refine congrArg (fun v => ((row im 5 j (us k u v), rs bt rt, lm) : Mem)) ?_
               unfold un1
               (repeat' split) <;> first | rfl | omega)
            | (rw [joinS_2 (by omega)]
               refine ⟨_, rfl, rfl, ?_⟩
               rw [up_row]
               refine congrArg (fun v => ((row im 5 j (us k u v), rs bt rt, lm) : Mem)) ?_
               first
                 | (rw [c41]; (first | rw [bj2_9] | rw [bj2_10] | rw [bj2_11] | rw [bj2_12] | rw [bj2_13] | rw [bj2_14]); (try split) <;> first | rfl | omega)
                 | (rw [bj2_o (by omega)]; (try split) <;> first | rfl | omega)
                 | (unfold bi2; (repeat' split) <;> first | rfl | omega))
        · refine q_iconst (t := 195) F dX6_join_194 rfl ?_
          refine q_goto (t := 199) F dX6_join_195 (by decide) ?_
          first | refine stN_5 (t := 200) F dX6_join_199 (by omega) (by omega) rfl ?_ | refine st_5 (t := 200) F dX6_join_199 (by omega) (by omega) (by omega) rfl ?_
          refine q_goto (t := 248) F dX6_join_200 (by decide) ?_
          refine q_iload_n (t := 249) F dX6_join_248 rfl rfl rfl ?_
          refine q_iconst (t := 250) F dX6_join_249 rfl ?_
          refine q_iadd (t := 251) F dX6_join_250 rfl ?_
          refine q_iret F dX6_join_251 rfl ?_
          first
            | (rw [joinS_1 (by omega)]
               refine ⟨_, rfl, rfl, ?_⟩
               rw [up_row]
               refine congrArg (fun v => ((row im 5 j (us k u v), rs bt rt, lm) : Mem)) ?_
               unfold un1
               (repeat' split) <;> first | rfl | omega)
            | (rw [joinS_2 (by omega)]
               refine ⟨_, rfl, rfl, ?_⟩
               rw [up_row]
               refine congrArg (fun v => ((row im 5 j (us k u v), rs bt rt, lm) : Mem)) ?_
               first
                 | (rw [c41]; (first | rw [bj2_9] | rw [bj2_10] | rw [bj2_11] | rw [bj2_12] | rw [bj2_13] | rw [bj2_14]); (try split) <;> first | rfl | omega)
                 | (rw [bj2_o (by omega)]; (try split) <;> first | rfl | omega)
                 | (unfold bi2; (repeat' split) <;> first | rfl | omega))
      · refine q_tableIn (t := 161) F dX6_join_41 (by first | exact hR _ _ _ | (constructor <;> omega)) (by omega) (by omega) (by rw [c41]; rfl) (by decide) ?_
        refine q_aload_n (t := 162) F dX6_join_161 rfl rfl rfl ?_
        refine g_X6_18 (t := 165) F dX6_join_162 rfl (by omega) rfl ?_
        refine q_iload_n (t := 166) F dX6_join_165 rfl rfl rfl ?_
        refine q_iload (t := 168) F dX6_join_166 rfl rfl ?_
        refine q_iload (t := 170) F dX6_join_168 rfl rfl ?_
        refine q_icmp_ge (t := 173) (u := 177) F dX6_join_170 (by first | exact hk _ | (constructor <;> omega)) (by first | exact hk _ | (constructor <;> omega)) (by decide) rfl (fun c170 => ?_) (fun c170 => ?_)
        · refine q_iconst (t := 178) F dX6_join_177 rfl ?_
          first | refine stN_5 (t := 179) F dX6_join_178 (by omega) (by omega) rfl ?_ | refine st_5 (t := 179) F dX6_join_178 (by omega) (by omega) (by omega) rfl ?_
          refine q_goto (t := 248) F dX6_join_179 (by decide) ?_
          refine q_iload_n (t := 249) F dX6_join_248 rfl rfl rfl ?_
          refine q_iconst (t := 250) F dX6_join_249 rfl ?_
          refine q_iadd (t := 251) F dX6_join_250 rfl ?_
          refine q_iret F dX6_join_251 rfl ?_
          first
            | (rw [joinS_1 (by omega)]
               refine ⟨_, rfl, rfl, ?_⟩
               rw [up_row]
               refine congrArg (fun v => ((row im 5 j (us k u v), rs bt rt, lm) : Mem)) ?_
               unfold un1
               (repeat' split) <;> first | rfl | omega)
            | (rw [joinS_2 (by omega)]
               refine ⟨_, rfl, rfl, ?_⟩
               rw [up_row]
               refine congrArg (fun v => ((row im 5 j (us k u v), rs bt rt, lm) : Mem)) ?_
               first
                 | (rw [c41]; (first | rw [bj2_9] | rw [bj2_10] | rw [bj2_11] | rw [bj2_12] | rw [bj2_13] | rw [bj2_14]); (try split) <;> first | rfl | omega)
                 | (rw [bj2_o (by omega)]; (try split) <;> first | rfl | omega)
                 | (unfold bi2; (repeat' split) <;> first | rfl | omega))
        · refine q_iconst (t := 174) F dX6_join_173 rfl ?_
          refine q_goto (t := 178) F dX6_join_174 (by decide) ?_
          first | refine stN_5 (t := 179) F dX6_join_178 (by omega) (by omega) rfl ?_ | refine st_5 (t := 179) F dX6_join_178 (by omega) (by omega) (by omega) rfl ?_
          refine q_goto (t := 248) F dX6_join_179 (by decide) ?_
          refine q_iload_n (t := 249) F dX6_join_248 rfl rfl rfl ?_
          refine q_iconst (t := 250) F dX6_join_249 rfl ?_
          refine q_iadd (t := 251) F dX6_join_250 rfl ?_
          refine q_iret F dX6_join_251 rfl ?_
          first
            | (rw [joinS_1 (by omega)]
               refine ⟨_, rfl, rfl, ?_⟩
               rw [up_row]
               refine congrArg (fun v => ((row im 5 j (us k u v), rs bt rt, lm) : Mem)) ?_
               unfold un1
               (repeat' split) <;> first | rfl | omega)
            | (rw [joinS_2 (by omega)]
               refine ⟨_, rfl, rfl, ?_⟩
               rw [up_row]
               refine congrArg (fun v => ((row im 5 j (us k u v), rs bt rt, lm) : Mem)) ?_
               first
                 | (rw [c41]; (first | rw [bj2_9] | rw [bj2_10] | rw [bj2_11] | rw [bj2_12] | rw [bj2_13] | rw [bj2_14]); (try split) <;> first | rfl | omega)
                 | (rw [bj2_o (by omega)]; (try split) <;> first | rfl | omega)
                 | (unfold bi2; (repeat' split) <;> first | rfl | omega))
      · refine q_tableIn (t := 147) F dX6_join_41 (by first | exact hR _ _ _ | (constructor <;> omega)) (by omega) (by omega) (by rw [c41]; rfl) (by decide) ?_
        refine q_aload_n (t := 148) F dX6_join_147 rfl rfl rfl ?_
        refine g_X6_18 (t := 151) F dX6_join_148 rfl (by omega) rfl ?_
        refine q_iload_n (t := 152) F dX6_join_151 rfl rfl rfl ?_
        refine q_iload (t := 154) F dX6_join_152 rfl rfl ?_
        refine q_iload (t := 156) F dX6_join_154 rfl rfl ?_
        refine q_isub (t := 157) F dX6_join_156 rfl ?_
        refine q_norm ?_
        first | refine stN_5 (t := 158) F dX6_join_157 (by omega) (by omega) rfl ?_ | refine st_5 (t := 158) F dX6_join_157 (by omega) (by omega) (by omega) rfl ?_
        refine q_goto (t := 248) F dX6_join_158 (by decide) ?_
        refine q_iload_n (t := 249) F dX6_join_248 rfl rfl rfl ?_
        refine q_iconst (t := 250) F dX6_join_249 rfl ?_
        refine q_iadd (t := 251) F dX6_join_250 rfl ?_
        refine q_iret F dX6_join_251 rfl ?_
        first
          | (rw [joinS_1 (by omega)]
             refine ⟨_, rfl, rfl, ?_⟩
             rw [up_row]
             refine congrArg (fun v => ((row im 5 j (us k u v), rs bt rt, lm) : Mem)) ?_
             unfold un1
             (repeat' split) <;> first | rfl | omega)
          | (rw [joinS_2 (by omega)]
             refine ⟨_, rfl, rfl, ?_⟩
             rw [up_row]
             refine congrArg (fun v => ((row im 5 j (us k u v), rs bt rt, lm) : Mem)) ?_
             first
               | (rw [c41]; (first | rw [bj2_9] | rw [bj2_10] | rw [bj2_11] | rw [bj2_12] | rw [bj2_13] | rw [bj2_14]); (try split) <;> first | rfl | omega)
               | (rw [bj2_o (by omega)]; (try split) <;> first | rfl | omega)
               | (unfold bi2; (repeat' split) <;> first | rfl | omega))
      · refine q_tableIn (t := 133) F dX6_join_41 (by first | exact hR _ _ _ | (constructor <;> omega)) (by omega) (by omega) (by rw [c41]; rfl) (by decide) ?_
        refine q_aload_n (t := 134) F dX6_join_133 rfl rfl rfl ?_
        refine g_X6_18 (t := 137) F dX6_join_134 rfl (by omega) rfl ?_
        refine q_iload_n (t := 138) F dX6_join_137 rfl rfl rfl ?_
        refine q_iload (t := 140) F dX6_join_138 rfl rfl ?_
        refine q_iload (t := 142) F dX6_join_140 rfl rfl ?_
        refine q_iadd (t := 143) F dX6_join_142 rfl ?_
        refine q_norm ?_
        first | refine stN_5 (t := 144) F dX6_join_143 (by omega) (by omega) rfl ?_ | refine st_5 (t := 144) F dX6_join_143 (by omega) (by omega) (by omega) rfl ?_
        refine q_goto (t := 248) F dX6_join_144 (by decide) ?_
        refine q_iload_n (t := 249) F dX6_join_248 rfl rfl rfl ?_
        refine q_iconst (t := 250) F dX6_join_249 rfl ?_
        refine q_iadd (t := 251) F dX6_join_250 rfl ?_
        refine q_iret F dX6_join_251 rfl ?_
        first
          | (rw [joinS_1 (by omega)]
             refine ⟨_, rfl, rfl, ?_⟩
             rw [up_row]
             refine congrArg (fun v => ((row im 5 j (us k u v), rs bt rt, lm) : Mem)) ?_
             unfold un1
             (repeat' split) <;> first | rfl | omega)
          | (rw [joinS_2 (by omega)]
             refine ⟨_, rfl, rfl, ?_⟩
             rw [up_row]
             refine congrArg (fun v => ((row im 5 j (us k u v), rs bt rt, lm) : Mem)) ?_
             first
               | (rw [c41]; (first | rw [bj2_9] | rw [bj2_10] | rw [bj2_11] | rw [bj2_12] | rw [bj2_13] | rw [bj2_14]); (try split) <;> first | rfl | omega)
               | (rw [bj2_o (by omega)]; (try split) <;> first | rfl | omega)
               | (unfold bi2; (repeat' split) <;> first | rfl | omega))
      · refine q_tableIn (t := 119) F dX6_join_41 (by first | exact hR _ _ _ | (constructor <;> omega)) (by omega) (by omega) (by rw [c41]; rfl) (by decide) ?_
        refine q_aload_n (t := 120) F dX6_join_119 rfl rfl rfl ?_
        refine g_X6_18 (t := 123) F dX6_join_120 rfl (by omega) rfl ?_
        refine q_iload_n (t := 124) F dX6_join_123 rfl rfl rfl ?_
        refine q_iload (t := 126) F dX6_join_124 rfl rfl ?_
        refine q_iload (t := 128) F dX6_join_126 rfl rfl ?_
        refine q_imul (t := 129) F dX6_join_128 rfl ?_
        refine q_norm ?_
        first | refine stN_5 (t := 130) F dX6_join_129 (by omega) (by omega) rfl ?_ | refine st_5 (t := 130) F dX6_join_129 (by omega) (by omega) (by omega) rfl ?_
        refine q_goto (t := 248) F dX6_join_130 (by decide) ?_
        refine q_iload_n (t := 249) F dX6_join_248 rfl rfl rfl ?_
        refine q_iconst (t := 250) F dX6_join_249 rfl ?_
        refine q_iadd (t := 251) F dX6_join_250 rfl ?_
        refine q_iret F dX6_join_251 rfl ?_
        first
          | (rw [joinS_1 (by omega)]
             refine ⟨_, rfl, rfl, ?_⟩
             rw [up_row]
             refine congrArg (fun v => ((row im 5 j (us k u v), rs bt rt, lm) : Mem)) ?_
             unfold un1
             (repeat' split) <;> first | rfl | omega)
          | (rw [joinS_2 (by omega)]
             refine ⟨_, rfl, rfl, ?_⟩
             rw [up_row]
             refine congrArg (fun v => ((row im 5 j (us k u v), rs bt rt, lm) : Mem)) ?_
             first
               | (rw [c41]; (first | rw [bj2_9] | rw [bj2_10] | rw [bj2_11] | rw [bj2_12] | rw [bj2_13] | rw [bj2_14]); (try split) <;> first | rfl | omega)
               | (rw [bj2_o (by omega)]; (try split) <;> first | rfl | omega)
               | (unfold bi2; (repeat' split) <;> first | rfl | omega))
      · refine q_tableIn (t := 100) F dX6_join_41 (by first | exact hR _ _ _ | (constructor <;> omega)) (by omega) (by omega) (by rw [c41]; rfl) (by decide) ?_
        refine q_aload_n (t := 101) F dX6_join_100 rfl rfl rfl ?_
        refine g_X6_18 (t := 104) F dX6_join_101 rfl (by omega) rfl ?_
        refine q_iload_n (t := 105) F dX6_join_104 rfl rfl rfl ?_
        refine q_iload (t := 107) F dX6_join_105 rfl rfl ?_
        refine q_if_ne (t := 110) (u := 114) F dX6_join_107 (by first | exact hk _ | (constructor <;> omega)) (by decide) rfl (fun c107 => ?_) (fun c107 => ?_)
        · refine q_iconst (t := 115) F dX6_join_114 rfl ?_
          first | refine stN_5 (t := 116) F dX6_join_115 (by omega) (by omega) rfl ?_ | refine st_5 (t := 116) F dX6_join_115 (by omega) (by omega) (by omega) rfl ?_
          refine q_goto (t := 248) F dX6_join_116 (by decide) ?_
          refine q_iload_n (t := 249) F dX6_join_248 rfl rfl rfl ?_
          refine q_iconst (t := 250) F dX6_join_249 rfl ?_
          refine q_iadd (t := 251) F dX6_join_250 rfl ?_
          refine q_iret F dX6_join_251 rfl ?_
          first
            | (rw [joinS_1 (by omega)]
               refine ⟨_, rfl, rfl, ?_⟩
               rw [up_row]
               refine congrArg (fun v => ((row im 5 j (us k u v), rs bt rt, lm) : Mem)) ?_
               unfold un1
               (repeat' split) <;> first | rfl | omega)
            | (rw [joinS_2 (by omega)]
               refine ⟨_, rfl, rfl, ?_⟩
               rw [up_row]
               refine congrArg (fun v => ((row im 5 j (us k u v), rs bt rt, lm) : Mem)) ?_
               first
                 | (rw [c41]; (first | rw [bj2_9] | rw [bj2_10] | rw [bj2_11] | rw [bj2_12] | rw [bj2_13] | rw [bj2_14]); (try split) <;> first | rfl | omega)
                 | (rw [bj2_o (by omega)]; (try split) <;> first | rfl | omega)
                 | (unfold bi2; (repeat' split) <;> first | rfl | omega))
        · refine q_iconst (t := 111) F dX6_join_110 rfl ?_
          refine q_goto (t := 115) F dX6_join_111 (by decide) ?_
          first | refine stN_5 (t := 116) F dX6_join_115 (by omega) (by omega) rfl ?_ | refine st_5 (t := 116) F dX6_join_115 (by omega) (by omega) (by omega) rfl ?_
          refine q_goto (t := 248) F dX6_join_116 (by decide) ?_
          refine q_iload_n (t := 249) F dX6_join_248 rfl rfl rfl ?_
          refine q_iconst (t := 250) F dX6_join_249 rfl ?_
          refine q_iadd (t := 251) F dX6_join_250 rfl ?_
          refine q_iret F dX6_join_251 rfl ?_
          first
            | (rw [joinS_1 (by omega)]
               refine ⟨_, rfl, rfl, ?_⟩
               rw [up_row]
               refine congrArg (fun v => ((row im 5 j (us k u v), rs bt rt, lm) : Mem)) ?_
               unfold un1
               (repeat' split) <;> first | rfl | omega)
            | (rw [joinS_2 (by omega)]
               refine ⟨_, rfl, rfl, ?_⟩
               rw [up_row]
               refine congrArg (fun v => ((row im 5 j (us k u v), rs bt rt, lm) : Mem)) ?_
               first
                 | (rw [c41]; (first | rw [bj2_9] | rw [bj2_10] | rw [bj2_11] | rw [bj2_12] | rw [bj2_13] | rw [bj2_14]); (try split) <;> first | rfl | omega)
                 | (rw [bj2_o (by omega)]; (try split) <;> first | rfl | omega)
                 | (unfold bi2; (repeat' split) <;> first | rfl | omega))
      · refine q_tableIn (t := 88) F dX6_join_41 (by first | exact hR _ _ _ | (constructor <;> omega)) (by omega) (by omega) (by rw [c41]; rfl) (by decide) ?_
        refine q_aload_n (t := 89) F dX6_join_88 rfl rfl rfl ?_
        refine g_X6_18 (t := 92) F dX6_join_89 rfl (by omega) rfl ?_
        refine q_iload_n (t := 93) F dX6_join_92 rfl rfl rfl ?_
        refine q_iload (t := 95) F dX6_join_93 rfl rfl ?_
        refine q_ineg (t := 96) F dX6_join_95 rfl ?_
        refine q_norm ?_
        first | refine stN_5 (t := 97) F dX6_join_96 (by omega) (by omega) rfl ?_ | refine st_5 (t := 97) F dX6_join_96 (by omega) (by omega) (by omega) rfl ?_
        refine q_goto (t := 248) F dX6_join_97 (by decide) ?_
        refine q_iload_n (t := 249) F dX6_join_248 rfl rfl rfl ?_
        refine q_iconst (t := 250) F dX6_join_249 rfl ?_
        refine q_iadd (t := 251) F dX6_join_250 rfl ?_
        refine q_iret F dX6_join_251 rfl ?_
        first
          | (rw [joinS_1 (by omega)]
             refine ⟨_, rfl, rfl, ?_⟩
             rw [up_row]
             refine congrArg (fun v => ((row im 5 j (us k u v), rs bt rt, lm) : Mem)) ?_
             unfold un1
             (repeat' split) <;> first | rfl | omega)
          | (rw [joinS_2 (by omega)]
             refine ⟨_, rfl, rfl, ?_⟩
             rw [up_row]
             refine congrArg (fun v => ((row im 5 j (us k u v), rs bt rt, lm) : Mem)) ?_
             first
               | (rw [c41]; (first | rw [bj2_9] | rw [bj2_10] | rw [bj2_11] | rw [bj2_12] | rw [bj2_13] | rw [bj2_14]); (try split) <;> first | rfl | omega)
               | (rw [bj2_o (by omega)]; (try split) <;> first | rfl | omega)
               | (unfold bi2; (repeat' split) <;> first | rfl | omega))
    · refine q_iload_n (t := 21) F dX6_join_20 rfl rfl rfl ?_
      refine q_iret F dX6_join_21 rfl ?_
      exact ⟨_, rfl, by rw [joinS_0 (by omega)], by rw [joinS_0 (by omega)]⟩

set_option maxHeartbeats 4000000 in
theorem c_X6_tell17 (l : Launch) (G : GS) (im : IM) (bt rt : Nat) (lm : IM) (j : Nat) (hj : j < 6) (part : Nat) (hp : part < 3) (hR : RI im) (hE : goodT im j) : Cn l (XC G) yX6_tell Y_X6_tell [vR 2 j, vI (part : Int), vR 17 0] (im, rs bt rt, lm) (pI fun x m' => x = tellV im j part (im 17 0) ∧ ∃ k, (∀ s, ri (k s)) ∧ m' = (row im 5 j k, rs bt rt, lm)) := by
  refine cn_of (by decide) (okC G) rfl (Nat.le_of_ble_eq_true rfl) ?_
  intro M ad hMl F
  subst hMl
  have hb := hE.1 part hp
  have hb2 : ((pb im j part : Nat) : Int) = im 4 j part := by unfold pb; omega
  have hfin : ∀ q : Nat × (Nat → Int), q = tellQ im j part (im 17 0) (im 5 j) → clip (q.2 0) = tellV im j part (im 17 0) := by
    intro q hq
    unfold tellV
    rw [hq, hE.2 part hp]
  refine wp_pad 2 ?_
  show Wp M (XC G) ad Y_X6_tell (pI fun x m' => x = tellV im j part (im 17 0) ∧ ∃ k, (∀ s, ri (k s)) ∧ m' = (row im 5 j k, rs bt rt, lm)) 0 [some (vR 2 j), some (vI (part : Int)), some (vR 17 0), none, none] [] (im, rs bt rt, lm)
  refine q_iconst (t := 1) F dX6_tell_0 rfl ?_
  refine q_istore_n (t := 2) F dX6_tell_1 rfl (by decide) rfl rfl ?_
  refine q_iload_n (t := 3) F dX6_tell_2 rfl rfl rfl ?_
  refine q_if_ne (t := 6) (u := 10) F dX6_tell_3 (by first | exact hR _ _ _ | (constructor <;> omega)) (by decide) rfl (fun c3 => ?_) (fun c3 => ?_)
  · refine q_aload_n (t := 11) F dX6_tell_10 rfl rfl rfl ?_
    refine g_X6_15 (t := 14) F dX6_tell_11 rfl (by omega) rfl ?_
    refine q_iload_n (t := 15) F dX6_tell_14 rfl rfl rfl ?_
    refine q_iconst (t := 16) F dX6_tell_15 rfl ?_
    refine q_isub (t := 17) F dX6_tell_16 rfl ?_
    rw [show (part : Int) - 1 = ((part - 1 : Nat) : Int) by omega]
    first | refine ldN_4 (t := 18) F dX6_tell_17 (by omega) (by omega) rfl ?_ | refine ld_4 (t := 18) F dX6_tell_17 (by omega) (by omega) (by omega) rfl ?_
    refine q_istore (t := 20) F dX6_tell_18 (by decide) rfl rfl ?_
    have L20 : ∀ (fz : Nat) (i : Nat) (q : Nat × (Nat → Int)), pb im j part - i < fz → i ≤ 160 → q.1 ≤ 31 → (∀ s, ri (q.2 s)) → runS (im 3 j) (im 17 0) i (pb im j part - i) q = tellQ im j part (im 17 0) (im 5 j) → Wp M (XC G) ad Y_X6_tell (pI fun x m' => x = tellV im j part (im 17 0) ∧ ∃ k, (∀ s, ri (k s)) ∧ m' = (row im 5 j k, rs bt rt, lm)) 20 [some (vR 2 j), some (vI (part : Int)), some (vR 17 0), some (vI (q.1 : Int)), some (vI (i : Int))] [] (row im 5 j q.2, rs bt rt, lm) := by
      intro fz
      induction fz with
      | zero => intro i q h; exact absurd h (Nat.not_lt_zero _)
      | succ fz ih =>
        intro i q hmeas hi hq hr hrun
        have hq31 : q.1 ≤ 31 := hq
        refine q_iload (t := 22) F dX6_tell_20 rfl rfl ?_
        refine q_aload_n (t := 23) F dX6_tell_22 rfl rfl rfl ?_
        refine g_X6_15 (t := 26) F dX6_tell_23 rfl (by omega) rfl ?_
        refine q_iload_n (t := 27) F dX6_tell_26 rfl rfl rfl ?_
        first | refine ldN_4 (t := 28) F dX6_tell_27 (by omega) (by omega) rfl ?_ | refine ld_4 (t := 28) F dX6_tell_27 (by omega) (by omega) (by omega) rfl ?_
        try simp only [up_app, row_app, scr_app, cpy_app, Nat.reduceEqDiff, Int.reduceToNat, Int.toNat_natCast, and_true, true_and, and_false, false_and, and_self, reduceIte]
        refine q_icmp_ge (t := 31) (u := 79) F dX6_tell_28 (by first | exact hR _ _ _ | (constructor <;> omega)) (by first | exact hR _ _ _ | (constructor <;> omega)) (by decide) rfl (fun c28 => ?_) (fun c28 => ?_)
        · refine q_iconst (t := 80) F dX6_tell_79 rfl ?_
          refine q_bipush (t := 82) F dX6_tell_80 (by decide) rfl ?_
          refine q_aload_n (t := 83) F dX6_tell_82 rfl rfl rfl ?_
          refine g_X6_18 (t := 86) F dX6_tell_83 rfl (by omega) rfl ?_
          refine q_iconst (t := 87) F dX6_tell_86 rfl ?_
          refine ldN_5 (t := 88) (j := 0) F dX6_tell_87 (by omega) (by omega) rfl ?_
          try simp only [up_app, row_app, scr_app, cpy_app, Nat.reduceEqDiff, Int.reduceToNat, Int.toNat_natCast, and_true, true_and, and_false, false_and, and_self, reduceIte]
          refine wp_min (t := 91) F dX6_tell_88 ml_X6_33 st_J9_min_7cf53 in_J9 cd_J9_min_7cf53 (Nat.le_of_ble_eq_true rfl) (by decide) (by constructor <;> omega) (by first | exact hr _ | exact hR _ _ _) rfl ?_
          refine wp_max (t := 94) F dX6_tell_91 ml_X6_38 st_J9_max_7cf53 in_J9 cd_J9_max_7cf53 (Nat.le_of_ble_eq_true rfl) (by decide) (by constructor <;> omega) (by split <;> first | exact hr _ | (constructor <;> omega)) rfl ?_
          refine q_iret F dX6_tell_94 rfl ?_
          have hq0 : q = tellQ im j part (im 17 0) (im 5 j) := by
            rw [← hrun, show pb im j part - i = 0 by omega]
            rfl
          refine ⟨_, rfl, ?_, q.2, hr, rfl⟩
          rw [← hfin q hq0]
          unfold clip
          (repeat' split) <;> omega
        · refine q_aload_n (t := 32) F dX6_tell_31 rfl rfl rfl ?_
          refine g_X6_9 (t := 35) F dX6_tell_32 rfl (by omega) rfl ?_
          refine q_iload (t := 37) F dX6_tell_35 rfl rfl ?_
          first | refine ldN_3 (t := 38) F dX6_tell_37 (by omega) (by omega) rfl ?_ | refine ld_3 (t := 38) F dX6_tell_37 (by omega) (by omega) (by omega) rfl ?_
          try simp only [up_app, row_app, scr_app, cpy_app, Nat.reduceEqDiff, Int.reduceToNat, Int.toNat_natCast, and_true, true_and, and_false, false_and, and_self, reduceIte]
          refine q_bipush (t := 40) F dX6_tell_38 (by decide) rfl ?_
          refine q_icmp_le (t := 43) (u := 60) F dX6_tell_40 (by first | exact hR _ _ _ | (constructor <;> omega)) (by first | exact hR _ _ _ | (constructor <;> omega)) (by decide) rfl (fun c40 => ?_) (fun c40 => ?_)
          · refine q_aload_n (t := 61) F dX6_tell_60 rfl rfl rfl ?_
            refine q_aload_n (t := 62) F dX6_tell_61 rfl rfl rfl ?_
            refine g_X6_9 (t := 65) F dX6_tell_62 rfl (by omega) rfl ?_
            refine q_iload (t := 67) F dX6_tell_65 rfl rfl ?_
            first | refine ldN_3 (t := 68) F dX6_tell_67 (by omega) (by omega) rfl ?_ | refine ld_3 (t := 68) F dX6_tell_67 (by omega) (by omega) (by omega) rfl ?_
            try simp only [up_app, row_app, scr_app, cpy_app, Nat.reduceEqDiff, Int.reduceToNat, Int.toNat_natCast, and_true, true_and, and_false, false_and, and_self, reduceIte]
            refine q_iload_n (t := 69) F dX6_tell_68 rfl rfl rfl ?_
            refine wp_callV (t := 72) [_, _] F dX6_tell_69 k_X6_join v_X6_join ml_X6_29 rfl rfl rfl rfl (Nat.le_of_ble_eq_true rfl) (by decide) (m_2 (by omega)) (c_X6_join _ G im bt rt lm j hj q.2 hr (im 3 j i) q.1 (by omega) (hR 3 j i) hq) rfl (kI ?_)
            rintro x m' ⟨rfl, rfl⟩
            obtain ⟨QQ, hQQ⟩ : ∃ z, z = joinS (im 3 j i) q := ⟨_, rfl⟩
            rw [show joinS (im 3 j i) (q.1, q.2) = QQ from hQQ.symm]
            refine q_istore_n (t := 73) F dX6_tell_72 rfl (by decide) rfl rfl ?_
            refine q_iinc (t := 76) F dX6_tell_73 rfl (by decide) rfl rfl ?_
            refine q_goto (t := 20) F dX6_tell_76 (by decide) ?_
            have e : runS (im 3 j) (im 17 0) (i + 1) (pb im j part - (i + 1)) (stepS (im 17 0) (im 3 j i) q) = tellQ im j part (im 17 0) (im 5 j) := by
              rw [← hrun, show pb im j part - i = (pb im j part - (i + 1)) + 1 by omega]
              rfl
            have hst : stepS (im 17 0) (im 3 j i) q = QQ := by
              unfold stepS
              first | (rw [if_pos (by omega)]; exact hQQ.symm) | (rw [if_neg (by omega)]; exact hQQ.symm)
            rw [hst] at e
            exact ih (i + 1) QQ (by omega) (by omega) (by rw [← hst]; exact stepS_top hq) (by rw [← hst]; exact stepS_ri (hR 3 j i) (hR 17 0) hr) e
          · refine q_aload_n (t := 44) F dX6_tell_43 rfl rfl rfl ?_
            refine q_aload_n (t := 45) F dX6_tell_44 rfl rfl rfl ?_
            refine g_X6_9 (t := 48) F dX6_tell_45 rfl (by omega) rfl ?_
            refine q_iload (t := 50) F dX6_tell_48 rfl rfl ?_
            first | refine ldN_3 (t := 51) F dX6_tell_50 (by omega) (by omega) rfl ?_ | refine ld_3 (t := 51) F dX6_tell_50 (by omega) (by omega) (by omega) rfl ?_
            try simp only [up_app, row_app, scr_app, cpy_app, Nat.reduceEqDiff, Int.reduceToNat, Int.toNat_natCast, and_true, true_and, and_false, false_and, and_self, reduceIte]
            refine q_iload_n (t := 52) F dX6_tell_51 rfl rfl rfl ?_
            refine q_aload_n (t := 53) F dX6_tell_52 rfl rfl rfl ?_
            refine wp_callV (t := 56) [_, _, _] F dX6_tell_53 k_X6_put v_X6_put ml_X6_25 rfl rfl rfl rfl (Nat.le_of_ble_eq_true rfl) (by decide) (m_2 (by omega)) (c_X6_put17 _ G im bt rt lm j hj q.2 (im 3 j i) q.1 (by omega) (hR 3 j i) hq) rfl (kI ?_)
            rintro x m' ⟨rfl, rfl⟩
            obtain ⟨QQ, hQQ⟩ : ∃ z, z = putS (im 17 0) (im 3 j i) q := ⟨_, rfl⟩
            rw [show putS (im 17 0) (im 3 j i) (q.1, q.2) = QQ from hQQ.symm]
            refine q_istore_n (t := 57) F dX6_tell_56 rfl (by decide) rfl rfl ?_
            refine q_goto (t := 73) F dX6_tell_57 (by decide) ?_
            refine q_iinc (t := 76) F dX6_tell_73 rfl (by decide) rfl rfl ?_
            refine q_goto (t := 20) F dX6_tell_76 (by decide) ?_
            have e : runS (im 3 j) (im 17 0) (i + 1) (pb im j part - (i + 1)) (stepS (im 17 0) (im 3 j i) q) = tellQ im j part (im 17 0) (im 5 j) := by
              rw [← hrun, show pb im j part - i = (pb im j part - (i + 1)) + 1 by omega]
              rfl
            have hst : stepS (im 17 0) (im 3 j i) q = QQ := by
              unfold stepS
              first | (rw [if_pos (by omega)]; exact hQQ.symm) | (rw [if_neg (by omega)]; exact hQQ.symm)
            rw [hst] at e
            exact ih (i + 1) QQ (by omega) (by omega) (by rw [← hst]; exact stepS_top hq) (by rw [← hst]; exact stepS_ri (hR 3 j i) (hR 17 0) hr) e
    first
      | (have e : im 4 j (part - 1) = ((pa im j part : Nat) : Int) := by
           have := hE.1 (part - 1) (by omega)
           unfold pa
           rw [if_neg (by omega)]
           omega
         have h160 : pa im j part ≤ 160 := by
           have := hE.1 (part - 1) (by omega)
           omega
         rw [e]
         have h := L20 _ (pa im j part) (0, im 5 j) (Nat.lt_succ_self _) h160 (by show 0 ≤ 31; omega) (hR 5 j) rfl
         rw [row_self] at h
         exact h)
      | (have e : pa im j part = 0 := by
           unfold pa
           rw [if_pos (by omega)]
         have h := L20 _ (pa im j part) (0, im 5 j) (Nat.lt_succ_self _) (by omega) (by show 0 ≤ 31; omega) (hR 5 j) rfl
         rw [row_self, e] at h
         exact h)
  · refine q_iconst (t := 7) F dX6_tell_6 rfl ?_
    refine q_goto (t := 18) F dX6_tell_7 (by decide) ?_
    refine q_istore (t := 20) F dX6_tell_18 (by decide) rfl rfl ?_
    have L20 : ∀ (fz : Nat) (i : Nat) (q : Nat × (Nat → Int)), pb im j part - i < fz → i ≤ 160 → q.1 ≤ 31 → (∀ s, ri (q.2 s)) → runS (im 3 j) (im 17 0) i (pb im j part - i) q = tellQ im j part (im 17 0) (im 5 j) → Wp M (XC G) ad Y_X6_tell (pI fun x m' => x = tellV im j part (im 17 0) ∧ ∃ k, (∀ s, ri (k s)) ∧ m' = (row im 5 j k, rs bt rt, lm)) 20 [some (vR 2 j), some (vI (part : Int)), some (vR 17 0), some (vI (q.1 : Int)), some (vI (i : Int))] [] (row im 5 j q.2, rs bt rt, lm) := by
      intro fz
      induction fz with
      | zero => intro i q h; exact absurd h (Nat.not_lt_zero _)
      | succ fz ih =>
        intro i q hmeas hi hq hr hrun
        have hq31 : q.1 ≤ 31 := hq
        refine q_iload (t := 22) F dX6_tell_20 rfl rfl ?_
        refine q_aload_n (t := 23) F dX6_tell_22 rfl rfl rfl ?_
        refine g_X6_15 (t := 26) F dX6_tell_23 rfl (by omega) rfl ?_
        refine q_iload_n (t := 27) F dX6_tell_26 rfl rfl rfl ?_
        first | refine ldN_4 (t := 28) F dX6_tell_27 (by omega) (by omega) rfl ?_ | refine ld_4 (t := 28) F dX6_tell_27 (by omega) (by omega) (by omega) rfl ?_
        try simp only [up_app, row_app, scr_app, cpy_app, Nat.reduceEqDiff, Int.reduceToNat, Int.toNat_natCast, and_true, true_and, and_false, false_and, and_self, reduceIte]
        refine q_icmp_ge (t := 31) (u := 79) F dX6_tell_28 (by first | exact hR _ _ _ | (constructor <;> omega)) (by first | exact hR _ _ _ | (constructor <;> omega)) (by decide) rfl (fun c28 => ?_) (fun c28 => ?_)
        · refine q_iconst (t := 80) F dX6_tell_79 rfl ?_
          refine q_bipush (t := 82) F dX6_tell_80 (by decide) rfl ?_
          refine q_aload_n (t := 83) F dX6_tell_82 rfl rfl rfl ?_
          refine g_X6_18 (t := 86) F dX6_tell_83 rfl (by omega) rfl ?_
          refine q_iconst (t := 87) F dX6_tell_86 rfl ?_
          refine ldN_5 (t := 88) (j := 0) F dX6_tell_87 (by omega) (by omega) rfl ?_
          try simp only [up_app, row_app, scr_app, cpy_app, Nat.reduceEqDiff, Int.reduceToNat, Int.toNat_natCast, and_true, true_and, and_false, false_and, and_self, reduceIte]
          refine wp_min (t := 91) F dX6_tell_88 ml_X6_33 st_J9_min_7cf53 in_J9 cd_J9_min_7cf53 (Nat.le_of_ble_eq_true rfl) (by decide) (by constructor <;> omega) (by first | exact hr _ | exact hR _ _ _) rfl ?_
          refine wp_max (t := 94) F dX6_tell_91 ml_X6_38 st_J9_max_7cf53 in_J9 cd_J9_max_7cf53 (Nat.le_of_ble_eq_true rfl) (by decide) (by constructor <;> omega) (by split <;> first | exact hr _ | (constructor <;> omega)) rfl ?_
          refine q_iret F dX6_tell_94 rfl ?_
          have hq0 : q = tellQ im j part (im 17 0) (im 5 j) := by
            rw [← hrun, show pb im j part - i = 0 by omega]
            rfl
          refine ⟨_, rfl, ?_, q.2, hr, rfl⟩
          rw [← hfin q hq0]
          unfold clip
          (repeat' split) <;> omega
        · refine q_aload_n (t := 32) F dX6_tell_31 rfl rfl rfl ?_
          refine g_X6_9 (t := 35) F dX6_tell_32 rfl (by omega) rfl ?_
          refine q_iload (t := 37) F dX6_tell_35 rfl rfl ?_
          first | refine ldN_3 (t := 38) F dX6_tell_37 (by omega) (by omega) rfl ?_ | refine ld_3 (t := 38) F dX6_tell_37 (by omega) (by omega) (by omega) rfl ?_
          try simp only [up_app, row_app, scr_app, cpy_app, Nat.reduceEqDiff, Int.reduceToNat, Int.toNat_natCast, and_true, true_and, and_false, false_and, and_self, reduceIte]
          refine q_bipush (t := 40) F dX6_tell_38 (by decide) rfl ?_
          refine q_icmp_le (t := 43) (u := 60) F dX6_tell_40 (by first | exact hR _ _ _ | (constructor <;> omega)) (by first | exact hR _ _ _ | (constructor <;> omega)) (by decide) rfl (fun c40 => ?_) (fun c40 => ?_)
          · refine q_aload_n (t := 61) F dX6_tell_60 rfl rfl rfl ?_
            refine q_aload_n (t := 62) F dX6_tell_61 rfl rfl rfl ?_
            refine g_X6_9 (t := 65) F dX6_tell_62 rfl (by omega) rfl ?_
            refine q_iload (t := 67) F dX6_tell_65 rfl rfl ?_
            first | refine ldN_3 (t := 68) F dX6_tell_67 (by omega) (by omega) rfl ?_ | refine ld_3 (t := 68) F dX6_tell_67 (by omega) (by omega) (by omega) rfl ?_
            try simp only [up_app, row_app, scr_app, cpy_app, Nat.reduceEqDiff, Int.reduceToNat, Int.toNat_natCast, and_true, true_and, and_false, false_and, and_self, reduceIte]
            refine q_iload_n (t := 69) F dX6_tell_68 rfl rfl rfl ?_
            refine wp_callV (t := 72) [_, _] F dX6_tell_69 k_X6_join v_X6_join ml_X6_29 rfl rfl rfl rfl (Nat.le_of_ble_eq_true rfl) (by decide) (m_2 (by omega)) (c_X6_join _ G im bt rt lm j hj q.2 hr (im 3 j i) q.1 (by omega) (hR 3 j i) hq) rfl (kI ?_)
            rintro x m' ⟨rfl, rfl⟩
            obtain ⟨QQ, hQQ⟩ : ∃ z, z = joinS (im 3 j i) q := ⟨_, rfl⟩
            rw [show joinS (im 3 j i) (q.1, q.2) = QQ from hQQ.symm]
            refine q_istore_n (t := 73) F dX6_tell_72 rfl (by decide) rfl rfl ?_
            refine q_iinc (t := 76) F dX6_tell_73 rfl (by decide) rfl rfl ?_
            refine q_goto (t := 20) F dX6_tell_76 (by decide) ?_
            have e : runS (im 3 j) (im 17 0) (i + 1) (pb im j part - (i + 1)) (stepS (im 17 0) (im 3 j i) q) = tellQ im j part (im 17 0) (im 5 j) := by
              rw [← hrun, show pb im j part - i = (pb im j part - (i + 1)) + 1 by omega]
              rfl
            have hst : stepS (im 17 0) (im 3 j i) q = QQ := by
              unfold stepS
              first | (rw [if_pos (by omega)]; exact hQQ.symm) | (rw [if_neg (by omega)]; exact hQQ.symm)
            rw [hst] at e
            exact ih (i + 1) QQ (by omega) (by omega) (by rw [← hst]; exact stepS_top hq) (by rw [← hst]; exact stepS_ri (hR 3 j i) (hR 17 0) hr) e
          · refine q_aload_n (t := 44) F dX6_tell_43 rfl rfl rfl ?_
            refine q_aload_n (t := 45) F dX6_tell_44 rfl rfl rfl ?_
            refine g_X6_9 (t := 48) F dX6_tell_45 rfl (by omega) rfl ?_
            refine q_iload (t := 50) F dX6_tell_48 rfl rfl ?_
            first | refine ldN_3 (t := 51) F dX6_tell_50 (by omega) (by omega) rfl ?_ | refine ld_3 (t := 51) F dX6_tell_50 (by omega) (by omega) (by omega) rfl ?_
            try simp only [up_app, row_app, scr_app, cpy_app, Nat.reduceEqDiff, Int.reduceToNat, Int.toNat_natCast, and_true, true_and, and_false, false_and, and_self, reduceIte]
            refine q_iload_n (t := 52) F dX6_tell_51 rfl rfl rfl ?_
            refine q_aload_n (t := 53) F dX6_tell_52 rfl rfl rfl ?_
            refine wp_callV (t := 56) [_, _, _] F dX6_tell_53 k_X6_put v_X6_put ml_X6_25 rfl rfl rfl rfl (Nat.le_of_ble_eq_true rfl) (by decide) (m_2 (by omega)) (c_X6_put17 _ G im bt rt lm j hj q.2 (im 3 j i) q.1 (by omega) (hR 3 j i) hq) rfl (kI ?_)
            rintro x m' ⟨rfl, rfl⟩
            obtain ⟨QQ, hQQ⟩ : ∃ z, z = putS (im 17 0) (im 3 j i) q := ⟨_, rfl⟩
            rw [show putS (im 17 0) (im 3 j i) (q.1, q.2) = QQ from hQQ.symm]
            refine q_istore_n (t := 57) F dX6_tell_56 rfl (by decide) rfl rfl ?_
            refine q_goto (t := 73) F dX6_tell_57 (by decide) ?_
            refine q_iinc (t := 76) F dX6_tell_73 rfl (by decide) rfl rfl ?_
            refine q_goto (t := 20) F dX6_tell_76 (by decide) ?_
            have e : runS (im 3 j) (im 17 0) (i + 1) (pb im j part - (i + 1)) (stepS (im 17 0) (im 3 j i) q) = tellQ im j part (im 17 0) (im 5 j) := by
              rw [← hrun, show pb im j part - i = (pb im j part - (i + 1)) + 1 by omega]
              rfl
            have hst : stepS (im 17 0) (im 3 j i) q = QQ := by
              unfold stepS
              first | (rw [if_pos (by omega)]; exact hQQ.symm) | (rw [if_neg (by omega)]; exact hQQ.symm)
            rw [hst] at e
            exact ih (i + 1) QQ (by omega) (by omega) (by rw [← hst]; exact stepS_top hq) (by rw [← hst]; exact stepS_ri (hR 3 j i) (hR 17 0) hr) e
    first
      | (have e : im 4 j (part - 1) = ((pa im j part : Nat) : Int) := by
           have := hE.1 (part - 1) (by omega)
           unfold pa
           rw [if_neg (by omega)]
           omega
         have h160 : pa im j part ≤ 160 := by
           have := hE.1 (part - 1) (by omega)
           omega
         rw [e]
         have h := L20 _ (pa im j part) (0, im 5 j) (Nat.lt_succ_self _) h160 (by show 0 ≤ 31; omega) (hR 5 j) rfl
         rw [row_self] at h
         exact h)
      | (have e : pa im j part = 0 := by
           unfold pa
           rw [if_pos (by omega)]
         have h := L20 _ (pa im j part) (0, im 5 j) (Nat.lt_succ_self _) (by omega) (by show 0 ≤ 31; omega) (hR 5 j) rfl
         rw [row_self, e] at h
         exact h)

set_option maxHeartbeats 4000000 in
theorem c_X6_tell20 (l : Launch) (G : GS) (im : IM) (bt rt : Nat) (lm : IM) (j : Nat) (hj : j < 6) (w : Nat) (hw : w < 3) (part : Nat) (hp : part < 3) (hR : RI im) (hE : goodT im j) : Cn l (XC G) yX6_tell Y_X6_tell [vR 2 j, vI (part : Int), vR 20 w] (im, rs bt rt, lm) (pI fun x m' => x = tellV im j part (im 20 w) ∧ ∃ k, (∀ s, ri (k s)) ∧ m' = (row im 5 j k, rs bt rt, lm)) := by
  refine cn_of (by decide) (okC G) rfl (Nat.le_of_ble_eq_true rfl) ?_
  intro M ad hMl F
  subst hMl
  have hb := hE.1 part hp
  have hb2 : ((pb im j part : Nat) : Int) = im 4 j part := by unfold pb; omega
  have hfin : ∀ q : Nat × (Nat → Int), q = tellQ im j part (im 20 w) (im 5 j) → clip (q.2 0) = tellV im j part (im 20 w) := by
    intro q hq
    unfold tellV
    rw [hq, hE.2 part hp]
  refine wp_pad 2 ?_
  show Wp M (XC G) ad Y_X6_tell (pI fun x m' => x = tellV im j part (im 20 w) ∧ ∃ k, (∀ s, ri (k s)) ∧ m' = (row im 5 j k, rs bt rt, lm)) 0 [some (vR 2 j), some (vI (part : Int)), some (vR 20 w), none, none] [] (im, rs bt rt, lm)
  refine q_iconst (t := 1) F dX6_tell_0 rfl ?_
  refine q_istore_n (t := 2) F dX6_tell_1 rfl (by decide) rfl rfl ?_
  refine q_iload_n (t := 3) F dX6_tell_2 rfl rfl rfl ?_
  refine q_if_ne (t := 6) (u := 10) F dX6_tell_3 (by first | exact hR _ _ _ | (constructor <;> omega)) (by decide) rfl (fun c3 => ?_) (fun c3 => ?_)
  · refine q_aload_n (t := 11) F dX6_tell_10 rfl rfl rfl ?_
    refine g_X6_15 (t := 14) F dX6_tell_11 rfl (by omega) rfl ?_
    refine q_iload_n (t := 15) F dX6_tell_14 rfl rfl rfl ?_
    refine q_iconst (t := 16) F dX6_tell_15 rfl ?_
    refine q_isub (t := 17) F dX6_tell_16 rfl ?_
    rw [show (part : Int) - 1 = ((part - 1 : Nat) : Int) by omega]
    first | refine ldN_4 (t := 18) F dX6_tell_17 (by omega) (by omega) rfl ?_ | refine ld_4 (t := 18) F dX6_tell_17 (by omega) (by omega) (by omega) rfl ?_
    refine q_istore (t := 20) F dX6_tell_18 (by decide) rfl rfl ?_
    have L20 : ∀ (fz : Nat) (i : Nat) (q : Nat × (Nat → Int)), pb im j part - i < fz → i ≤ 160 → q.1 ≤ 31 → (∀ s, ri (q.2 s)) → runS (im 3 j) (im 20 w) i (pb im j part - i) q = tellQ im j part (im 20 w) (im 5 j) → Wp M (XC G) ad Y_X6_tell (pI fun x m' => x = tellV im j part (im 20 w) ∧ ∃ k, (∀ s, ri (k s)) ∧ m' = (row im 5 j k, rs bt rt, lm)) 20 [some (vR 2 j), some (vI (part : Int)), some (vR 20 w), some (vI (q.1 : Int)), some (vI (i : Int))] [] (row im 5 j q.2, rs bt rt, lm) := by
      intro fz
      induction fz with
      | zero => intro i q h; exact absurd h (Nat.not_lt_zero _)
      | succ fz ih =>
        intro i q hmeas hi hq hr hrun
        have hq31 : q.1 ≤ 31 := hq
        refine q_iload (t := 22) F dX6_tell_20 rfl rfl ?_
        refine q_aload_n (t := 23) F dX6_tell_22 rfl rfl rfl ?_
        refine g_X6_15 (t := 26) F dX6_tell_23 rfl (by omega) rfl ?_
        refine q_iload_n (t := 27) F dX6_tell_26 rfl rfl rfl ?_
        first | refine ldN_4 (t := 28) F dX6_tell_27 (by omega) (by omega) rfl ?_ | refine ld_4 (t := 28) F dX6_tell_27 (by omega) (by omega) (by omega) rfl ?_
        try simp only [up_app, row_app, scr_app, cpy_app, Nat.reduceEqDiff, Int.reduceToNat, Int.toNat_natCast, and_true, true_and, and_false, false_and, and_self, reduceIte]
        refine q_icmp_ge (t := 31) (u := 79) F dX6_tell_28 (by first | exact hR _ _ _ | (constructor <;> omega)) (by first | exact hR _ _ _ | (constructor <;> omega)) (by decide) rfl (fun c28 => ?_) (fun c28 => ?_)
        · refine q_iconst (t := 80) F dX6_tell_79 rfl ?_
          refine q_bipush (t := 82) F dX6_tell_80 (by decide) rfl ?_
          refine q_aload_n (t := 83) F dX6_tell_82 rfl rfl rfl ?_
          refine g_X6_18 (t := 86) F dX6_tell_83 rfl (by omega) rfl ?_
          refine q_iconst (t := 87) F dX6_tell_86 rfl ?_
          refine ldN_5 (t := 88) (j := 0) F dX6_tell_87 (by omega) (by omega) rfl ?_
          try simp only [up_app, row_app, scr_app, cpy_app, Nat.reduceEqDiff, Int.reduceToNat, Int.toNat_natCast, and_true, true_and, and_false, false_and, and_self, reduceIte]
          refine wp_min (t := 91) F dX6_tell_88 ml_X6_33 st_J9_min_7cf53 in_J9 cd_J9_min_7cf53 (Nat.le_of_ble_eq_true rfl) (by decide) (by constructor <;> omega) (by first | exact hr _ | exact hR _ _ _) rfl ?_
          refine wp_max (t := 94) F dX6_tell_91 ml_X6_38 st_J9_max_7cf53 in_J9 cd_J9_max_7cf53 (Nat.le_of_ble_eq_true rfl) (by decide) (by constructor <;> omega) (by split <;> first | exact hr _ | (constructor <;> omega)) rfl ?_
          refine q_iret F dX6_tell_94 rfl ?_
          have hq0 : q = tellQ im j part (im 20 w) (im 5 j) := by
            rw [← hrun, show pb im j part - i = 0 by omega]
            rfl
          refine ⟨_, rfl, ?_, q.2, hr, rfl⟩
          rw [← hfin q hq0]
          unfold clip
          (repeat' split) <;> omega
        · refine q_aload_n (t := 32) F dX6_tell_31 rfl rfl rfl ?_
          refine g_X6_9 (t := 35) F dX6_tell_32 rfl (by omega) rfl ?_
          refine q_iload (t := 37) F dX6_tell_35 rfl rfl ?_
          first | refine ldN_3 (t := 38) F dX6_tell_37 (by omega) (by omega) rfl ?_ | refine ld_3 (t := 38) F dX6_tell_37 (by omega) (by omega) (by omega) rfl ?_
          try simp only [up_app, row_app, scr_app, cpy_app, Nat.reduceEqDiff, Int.reduceToNat, Int.toNat_natCast, and_true, true_and, and_false, false_and, and_self, reduceIte]
          refine q_bipush (t := 40) F dX6_tell_38 (by decide) rfl ?_
          refine q_icmp_le (t := 43) (u := 60) F dX6_tell_40 (by first | exact hR _ _ _ | (constructor <;> omega)) (by first | exact hR _ _ _ | (constructor <;> omega)) (by decide) rfl (fun c40 => ?_) (fun c40 => ?_)
          · refine q_aload_n (t := 61) F dX6_tell_60 rfl rfl rfl ?_
            refine q_aload_n (t := 62) F dX6_tell_61 rfl rfl rfl ?_
            refine g_X6_9 (t := 65) F dX6_tell_62 rfl (by omega) rfl ?_
            refine q_iload (t := 67) F dX6_tell_65 rfl rfl ?_
            first | refine ldN_3 (t := 68) F dX6_tell_67 (by omega) (by omega) rfl ?_ | refine ld_3 (t := 68) F dX6_tell_67 (by omega) (by omega) (by omega) rfl ?_
            try simp only [up_app, row_app, scr_app, cpy_app, Nat.reduceEqDiff, Int.reduceToNat, Int.toNat_natCast, and_true, true_and, and_false, false_and, and_self, reduceIte]
            refine q_iload_n (t := 69) F dX6_tell_68 rfl rfl rfl ?_
            refine wp_callV (t := 72) [_, _] F dX6_tell_69 k_X6_join v_X6_join ml_X6_29 rfl rfl rfl rfl (Nat.le_of_ble_eq_true rfl) (by decide) (m_2 (by omega)) (c_X6_join _ G im bt rt lm j hj q.2 hr (im 3 j i) q.1 (by omega) (hR 3 j i) hq) rfl (kI ?_)
            rintro x m' ⟨rfl, rfl⟩
            obtain ⟨QQ, hQQ⟩ : ∃ z, z = joinS (im 3 j i) q := ⟨_, rfl⟩
            rw [show joinS (im 3 j i) (q.1, q.2) = QQ from hQQ.symm]
            refine q_istore_n (t := 73) F dX6_tell_72 rfl (by decide) rfl rfl ?_
            refine q_iinc (t := 76) F dX6_tell_73 rfl (by decide) rfl rfl ?_
            refine q_goto (t := 20) F dX6_tell_76 (by decide) ?_
            have e : runS (im 3 j) (im 20 w) (i + 1) (pb im j part - (i + 1)) (stepS (im 20 w) (im 3 j i) q) = tellQ im j part (im 20 w) (im 5 j) := by
              rw [← hrun, show pb im j part - i = (pb im j part - (i + 1)) + 1 by omega]
              rfl
            have hst : stepS (im 20 w) (im 3 j i) q = QQ := by
              unfold stepS
              first | (rw [if_pos (by omega)]; exact hQQ.symm) | (rw [if_neg (by omega)]; exact hQQ.symm)
            rw [hst] at e
            exact ih (i + 1) QQ (by omega) (by omega) (by rw [← hst]; exact stepS_top hq) (by rw [← hst]; exact stepS_ri (hR 3 j i) (hR 20 w) hr) e
          · refine q_aload_n (t := 44) F dX6_tell_43 rfl rfl rfl ?_
            refine q_aload_n (t := 45) F dX6_tell_44 rfl rfl rfl ?_
            refine g_X6_9 (t := 48) F dX6_tell_45 rfl (by omega) rfl ?_
            refine q_iload (t := 50) F dX6_tell_48 rfl rfl ?_
            first | refine ldN_3 (t := 51) F dX6_tell_50 (by omega) (by omega) rfl ?_ | refine ld_3 (t := 51) F dX6_tell_50 (by omega) (by omega) (by omega) rfl ?_
            try simp only [up_app, row_app, scr_app, cpy_app, Nat.reduceEqDiff, Int.reduceToNat, Int.toNat_natCast, and_true, true_and, and_false, false_and, and_self, reduceIte]
            refine q_iload_n (t := 52) F dX6_tell_51 rfl rfl rfl ?_
            refine q_aload_n (t := 53) F dX6_tell_52 rfl rfl rfl ?_
            refine wp_callV (t := 56) [_, _, _] F dX6_tell_53 k_X6_put v_X6_put ml_X6_25 rfl rfl rfl rfl (Nat.le_of_ble_eq_true rfl) (by decide) (m_2 (by omega)) (c_X6_put20 _ G im bt rt lm j hj w hw q.2 (im 3 j i) q.1 (by omega) (hR 3 j i) hq) rfl (kI ?_)
            rintro x m' ⟨rfl, rfl⟩
            obtain ⟨QQ, hQQ⟩ : ∃ z, z = putS (im 20 w) (im 3 j i) q := ⟨_, rfl⟩
            rw [show putS (im 20 w) (im 3 j i) (q.1, q.2) = QQ from hQQ.symm]
            refine q_istore_n (t := 57) F dX6_tell_56 rfl (by decide) rfl rfl ?_
            refine q_goto (t := 73) F dX6_tell_57 (by decide) ?_
            refine q_iinc (t := 76) F dX6_tell_73 rfl (by decide) rfl rfl ?_
            refine q_goto (t := 20) F dX6_tell_76 (by decide) ?_
            have e : runS (im 3 j) (im 20 w) (i + 1) (pb im j part - (i + 1)) (stepS (im 20 w) (im 3 j i) q) = tellQ im j part (im 20 w) (im 5 j) := by
              rw [← hrun, show pb im j part - i = (pb im j part - (i + 1)) + 1 by omega]
              rfl
            have hst : stepS (im 20 w) (im 3 j i) q = QQ := by
              unfold stepS
              first | (rw [if_pos (by omega)]; exact hQQ.symm) | (rw [if_neg (by omega)]; exact hQQ.symm)
            rw [hst] at e
            exact ih (i + 1) QQ (by omega) (by omega) (by rw [← hst]; exact stepS_top hq) (by rw [← hst]; exact stepS_ri (hR 3 j i) (hR 20 w) hr) e
    first
      | (have e : im 4 j (part - 1) = ((pa im j part : Nat) : Int) := by
           have := hE.1 (part - 1) (by omega)
           unfold pa
           rw [if_neg (by omega)]
           omega
         have h160 : pa im j part ≤ 160 := by
           have := hE.1 (part - 1) (by omega)
           omega
         rw [e]
         have h := L20 _ (pa im j part) (0, im 5 j) (Nat.lt_succ_self _) h160 (by show 0 ≤ 31; omega) (hR 5 j) rfl
         rw [row_self] at h
         exact h)
      | (have e : pa im j part = 0 := by
           unfold pa
           rw [if_pos (by omega)]
         have h := L20 _ (pa im j part) (0, im 5 j) (Nat.lt_succ_self _) (by omega) (by show 0 ≤ 31; omega) (hR 5 j) rfl
         rw [row_self, e] at h
         exact h)
  · refine q_iconst (t := 7) F dX6_tell_6 rfl ?_
    refine q_goto (t := 18) F dX6_tell_7 (by decide) ?_
    refine q_istore (t := 20) F dX6_tell_18 (by decide) rfl rfl ?_
    have L20 : ∀ (fz : Nat) (i : Nat) (q : Nat × (Nat → Int)), pb im j part - i < fz → i ≤ 160 → q.1 ≤ 31 → (∀ s, ri (q.2 s)) → runS (im 3 j) (im 20 w) i (pb im j part - i) q = tellQ im j part (im 20 w) (im 5 j) → Wp M (XC G) ad Y_X6_tell (pI fun x m' => x = tellV im j part (im 20 w) ∧ ∃ k, (∀ s, ri (k s)) ∧ m' = (row im 5 j k, rs bt rt, lm)) 20 [some (vR 2 j), some (vI (part : Int)), some (vR 20 w), some (vI (q.1 : Int)), some (vI (i : Int))] [] (row im 5 j q.2, rs bt rt, lm) := by
      intro fz
      induction fz with
      | zero => intro i q h; exact absurd h (Nat.not_lt_zero _)
      | succ fz ih =>
        intro i q hmeas hi hq hr hrun
        have hq31 : q.1 ≤ 31 := hq
        refine q_iload (t := 22) F dX6_tell_20 rfl rfl ?_
        refine q_aload_n (t := 23) F dX6_tell_22 rfl rfl rfl ?_
        refine g_X6_15 (t := 26) F dX6_tell_23 rfl (by omega) rfl ?_
        refine q_iload_n (t := 27) F dX6_tell_26 rfl rfl rfl ?_
        first | refine ldN_4 (t := 28) F dX6_tell_27 (by omega) (by omega) rfl ?_ | refine ld_4 (t := 28) F dX6_tell_27 (by omega) (by omega) (by omega) rfl ?_
        try simp only [up_app, row_app, scr_app, cpy_app, Nat.reduceEqDiff, Int.reduceToNat, Int.toNat_natCast, and_true, true_and, and_false, false_and, and_self, reduceIte]
        refine q_icmp_ge (t := 31) (u := 79) F dX6_tell_28 (by first | exact hR _ _ _ | (constructor <;> omega)) (by first | exact hR _ _ _ | (constructor <;> omega)) (by decide) rfl (fun c28 => ?_) (fun c28 => ?_)
        · refine q_iconst (t := 80) F dX6_tell_79 rfl ?_
          refine q_bipush (t := 82) F dX6_tell_80 (by decide) rfl ?_
          refine q_aload_n (t := 83) F dX6_tell_82 rfl rfl rfl ?_
          refine g_X6_18 (t := 86) F dX6_tell_83 rfl (by omega) rfl ?_
          refine q_iconst (t := 87) F dX6_tell_86 rfl ?_
          refine ldN_5 (t := 88) (j := 0) F dX6_tell_87 (by omega) (by omega) rfl ?_
          try simp only [up_app, row_app, scr_app, cpy_app, Nat.reduceEqDiff, Int.reduceToNat, Int.toNat_natCast, and_true, true_and, and_false, false_and, and_self, reduceIte]
          refine wp_min (t := 91) F dX6_tell_88 ml_X6_33 st_J9_min_7cf53 in_J9 cd_J9_min_7cf53 (Nat.le_of_ble_eq_true rfl) (by decide) (by constructor <;> omega) (by first | exact hr _ | exact hR _ _ _) rfl ?_
          refine wp_max (t := 94) F dX6_tell_91 ml_X6_38 st_J9_max_7cf53 in_J9 cd_J9_max_7cf53 (Nat.le_of_ble_eq_true rfl) (by decide) (by constructor <;> omega) (by split <;> first | exact hr _ | (constructor <;> omega)) rfl ?_
          refine q_iret F dX6_tell_94 rfl ?_
          have hq0 : q = tellQ im j part (im 20 w) (im 5 j) := by
            rw [← hrun, show pb im j part - i = 0 by omega]
            rfl
          refine ⟨_, rfl, ?_, q.2, hr, rfl⟩
          rw [← hfin q hq0]
          unfold clip
          (repeat' split) <;> omega
        · refine q_aload_n (t := 32) F dX6_tell_31 rfl rfl rfl ?_
          refine g_X6_9 (t := 35) F dX6_tell_32 rfl (by omega) rfl ?_
          refine q_iload (t := 37) F dX6_tell_35 rfl rfl ?_
          first | refine ldN_3 (t := 38) F dX6_tell_37 (by omega) (by omega) rfl ?_ | refine ld_3 (t := 38) F dX6_tell_37 (by omega) (by omega) (by omega) rfl ?_
          try simp only [up_app, row_app, scr_app, cpy_app, Nat.reduceEqDiff, Int.reduceToNat, Int.toNat_natCast, and_true, true_and, and_false, false_and, and_self, reduceIte]
          refine q_bipush (t := 40) F dX6_tell_38 (by decide) rfl ?_
          refine q_icmp_le (t := 43) (u := 60) F dX6_tell_40 (by first | exact hR _ _ _ | (constructor <;> omega)) (by first | exact hR _ _ _ | (constructor <;> omega)) (by decide) rfl (fun c40 => ?_) (fun c40 => ?_)
          · refine q_aload_n (t := 61) F dX6_tell_60 rfl rfl rfl ?_
            refine q_aload_n (t := 62) F dX6_tell_61 rfl rfl rfl ?_
            refine g_X6_9 (t := 65) F dX6_tell_62 rfl (by omega) rfl ?_
            refine q_iload (t := 67) F dX6_tell_65 rfl rfl ?_
            first | refine ldN_3 (t := 68) F dX6_tell_67 (by omega) (by omega) rfl ?_ | refine ld_3 (t := 68) F dX6_tell_67 (by omega) (by omega) (by omega) rfl ?_
            try simp only [up_app, row_app, scr_app, cpy_app, Nat.reduceEqDiff, Int.reduceToNat, Int.toNat_natCast, and_true, true_and, and_false, false_and, and_self, reduceIte]
            refine q_iload_n (t := 69) F dX6_tell_68 rfl rfl rfl ?_
            refine wp_callV (t := 72) [_, _] F dX6_tell_69 k_X6_join v_X6_join ml_X6_29 rfl rfl rfl rfl (Nat.le_of_ble_eq_true rfl) (by decide) (m_2 (by omega)) (c_X6_join _ G im bt rt lm j hj q.2 hr (im 3 j i) q.1 (by omega) (hR 3 j i) hq) rfl (kI ?_)
            rintro x m' ⟨rfl, rfl⟩
            obtain ⟨QQ, hQQ⟩ : ∃ z, z = joinS (im 3 j i) q := ⟨_, rfl⟩
            rw [show joinS (im 3 j i) (q.1, q.2) = QQ from hQQ.symm]
            refine q_istore_n (t := 73) F dX6_tell_72 rfl (by decide) rfl rfl ?_
            refine q_iinc (t := 76) F dX6_tell_73 rfl (by decide) rfl rfl ?_
            refine q_goto (t := 20) F dX6_tell_76 (by decide) ?_
            have e : runS (im 3 j) (im 20 w) (i + 1) (pb im j part - (i + 1)) (stepS (im 20 w) (im 3 j i) q) = tellQ im j part (im 20 w) (im 5 j) := by
              rw [← hrun, show pb im j part - i = (pb im j part - (i + 1)) + 1 by omega]
              rfl
            have hst : stepS (im 20 w) (im 3 j i) q = QQ := by
              unfold stepS
              first | (rw [if_pos (by omega)]; exact hQQ.symm) | (rw [if_neg (by omega)]; exact hQQ.symm)
            rw [hst] at e
            exact ih (i + 1) QQ (by omega) (by omega) (by rw [← hst]; exact stepS_top hq) (by rw [← hst]; exact stepS_ri (hR 3 j i) (hR 20 w) hr) e
          · refine q_aload_n (t := 44) F dX6_tell_43 rfl rfl rfl ?_
            refine q_aload_n (t := 45) F dX6_tell_44 rfl rfl rfl ?_
            refine g_X6_9 (t := 48) F dX6_tell_45 rfl (by omega) rfl ?_
            refine q_iload (t := 50) F dX6_tell_48 rfl rfl ?_
            first | refine ldN_3 (t := 51) F dX6_tell_50 (by omega) (by omega) rfl ?_ | refine ld_3 (t := 51) F dX6_tell_50 (by omega) (by omega) (by omega) rfl ?_
            try simp only [up_app, row_app, scr_app, cpy_app, Nat.reduceEqDiff, Int.reduceToNat, Int.toNat_natCast, and_true, true_and, and_false, false_and, and_self, reduceIte]
            refine q_iload_n (t := 52) F dX6_tell_51 rfl rfl rfl ?_
            refine q_aload_n (t := 53) F dX6_tell_52 rfl rfl rfl ?_
            refine wp_callV (t := 56) [_, _, _] F dX6_tell_53 k_X6_put v_X6_put ml_X6_25 rfl rfl rfl rfl (Nat.le_of_ble_eq_true rfl) (by decide) (m_2 (by omega)) (c_X6_put20 _ G im bt rt lm j hj w hw q.2 (im 3 j i) q.1 (by omega) (hR 3 j i) hq) rfl (kI ?_)
            rintro x m' ⟨rfl, rfl⟩
            obtain ⟨QQ, hQQ⟩ : ∃ z, z = putS (im 20 w) (im 3 j i) q := ⟨_, rfl⟩
            rw [show putS (im 20 w) (im 3 j i) (q.1, q.2) = QQ from hQQ.symm]
            refine q_istore_n (t := 57) F dX6_tell_56 rfl (by decide) rfl rfl ?_
            refine q_goto (t := 73) F dX6_tell_57 (by decide) ?_
            refine q_iinc (t := 76) F dX6_tell_73 rfl (by decide) rfl rfl ?_
            refine q_goto (t := 20) F dX6_tell_76 (by decide) ?_
            have e : runS (im 3 j) (im 20 w) (i + 1) (pb im j part - (i + 1)) (stepS (im 20 w) (im 3 j i) q) = tellQ im j part (im 20 w) (im 5 j) := by
              rw [← hrun, show pb im j part - i = (pb im j part - (i + 1)) + 1 by omega]
              rfl
            have hst : stepS (im 20 w) (im 3 j i) q = QQ := by
              unfold stepS
              first | (rw [if_pos (by omega)]; exact hQQ.symm) | (rw [if_neg (by omega)]; exact hQQ.symm)
            rw [hst] at e
            exact ih (i + 1) QQ (by omega) (by omega) (by rw [← hst]; exact stepS_top hq) (by rw [← hst]; exact stepS_ri (hR 3 j i) (hR 20 w) hr) e
    first
      | (have e : im 4 j (part - 1) = ((pa im j part : Nat) : Int) := by
           have := hE.1 (part - 1) (by omega)
           unfold pa
           rw [if_neg (by omega)]
           omega
         have h160 : pa im j part ≤ 160 := by
           have := hE.1 (part - 1) (by omega)
           omega
         rw [e]
         have h := L20 _ (pa im j part) (0, im 5 j) (Nat.lt_succ_self _) h160 (by show 0 ≤ 31; omega) (hR 5 j) rfl
         rw [row_self] at h
         exact h)
      | (have e : pa im j part = 0 := by
           unfold pa
           rw [if_pos (by omega)]
         have h := L20 _ (pa im j part) (0, im 5 j) (Nat.lt_succ_self _) (by omega) (by show 0 ≤ 31; omega) (hR 5 j) rfl
         rw [row_self, e] at h
         exact h)

/-! Bite -/
theorem holdsB_scr (im : IM) (a b : Int) (g : Nat → Nat → Int) (j : Nat) (x y : Int) : holdsB (scr im a b g) j x y = holdsB im j x y := by
  have e : nmB (scr im a b g) x y = nmB im x y := by
    funext s
    simp only [nmB, scr_app, Nat.reduceEqDiff, if_false, true_and]
    repeat' split
    all_goals first | rfl | (exfalso; omega)
  unfold holdsB
  rw [e]
  rw [show tellV (scr im a b g) j 1 (nmB im x y) = tellV im j 1 (nmB im x y) from tellV_congr (fun s => rfl) (fun s => rfl)]
  rfl
theorem bearsB_scr (im : IM) (a b : Int) (g : Nat → Nat → Int) (j : Nat) (x y : Int) : bearsB (scr im a b g) j x y = bearsB im j x y := by
  have e : ∀ x y, nmB (scr im a b g) x y = nmB im x y := by
    intro x y
    funext s
    simp only [nmB, scr_app, Nat.reduceEqDiff, if_false, true_and]
    repeat' split
    all_goals first | rfl | (exfalso; omega)
  unfold bearsB
  rw [e]
  rw [show ∀ nm, tellV (scr im a b g) j 2 nm = tellV im j 2 nm from fun nm => tellV_congr (fun s => rfl) (fun s => rfl)]
  rfl
theorem offB_scr (im : IM) (a b : Int) (g : Nat → Nat → Int) (j : Nat) : offB (scr im a b g) j = offB im j := by
  funext i
  unfold offB
  rw [holdsB_scr]
  rfl
theorem goesB_scr (im : IM) (a b : Int) (g : Nat → Nat → Int) (j n : Nat) : goesB (scr im a b g) j n = goesB im j n := by
  unfold goesB
  rw [offB_scr]
  rfl
theorem goodT_scr {im : IM} {a b : Int} {g : Nat → Nat → Int} {j : Nat} (h : goodT im j) : goodT (scr im a b g) j := goodT_congr (fun s => rfl) (fun s => rfl) h
/-- behind a look at a text: what is garbage -/
def garb (im : IM) (bt rt : Nat) (lm : IM) (m' : Mem) : Prop := ∃ a b g, ri a ∧ ri b ∧ (∀ i s, ri (g i s)) ∧ m' = (scr im a b g, rs bt rt, lm)
theorem garb_self {im : IM} {bt rt : Nat} {lm : IM} (hR : RI im) : garb im bt rt lm (im, rs bt rt, lm) := ⟨_, _, _, hR 17 0 2, hR 17 0 5, hR 5, by rw [scr_self]⟩
theorem scr_of (im : IM) (j : Nat) (x y : Int) (k : Nat → Int) : row (up (up im 17 0 5 x) 17 0 2 y) 5 j k = scr im y x (fun i s => if i = j then k s else im 5 i s) := by
  funext k' i' s'
  simp only [row_app, up_app, scr_app]
  repeat' split
  all_goals first | rfl | (exfalso; omega) | (rename_i h1 h2; subst h2; rfl) | (simp_all; done)
theorem nmB_of (im : IM) (x y : Int) : up (up im 17 0 5 x) 17 0 2 y 17 0 = nmB im x y := by
  funext s
  simp only [up_app, nmB, true_and, Nat.reduceEqDiff]

set_option maxHeartbeats 4000000 in
theorem c_X0_holds (l : Launch) (G : GS) (im : IM) (bt rt : Nat) (lm : IM) (stuck now : Int) (hs : ri stuck) (hn : ri now) (hj : bt < 6) (hR : RI im) (hT : goodT im bt) (k0 : 0 ≤ im 16 0 2) (k1 : im 16 0 2 < 6) (n0 : 0 ≤ im 17 0 3) (n1 : im 17 0 3 < 10) : Cn l (XC G) yX0_holds Y_X0_holds [vR 16 0, vI stuck, vI now] (im, rs bt rt, lm) (pI fun x m' => x = holdsB im bt stuck now ∧ garb im bt rt lm m') := by
  refine cn_of (by decide) (okC G) rfl (Nat.le_of_ble_eq_true rfl) ?_
  intro M ad hMl F
  subst hMl
  refine wp_pad 0 ?_
  show Wp M (XC G) ad Y_X0_holds (pI fun x m' => x = holdsB im bt stuck now ∧ garb im bt rt lm m') 0 [some (vR 16 0), some (vI stuck), some (vI now)] [] (im, rs bt rt, lm)
  refine q_aload_n (t := 1) F dX0_holds_0 rfl rfl rfl ?_
  refine g_X0_9 (t := 4) F dX0_holds_1 rfl rfl ?_
  refine q_iconst (t := 5) F dX0_holds_4 rfl ?_
  refine q_iload_n (t := 6) F dX0_holds_5 rfl rfl rfl ?_
  refine stN_17 (t := 7) (j := 5) F dX0_holds_6 (by omega) rfl ?_
  refine q_aload_n (t := 8) F dX0_holds_7 rfl rfl rfl ?_
  refine g_X0_9 (t := 11) F dX0_holds_8 rfl rfl ?_
  refine q_iconst (t := 12) F dX0_holds_11 rfl ?_
  refine q_iload_n (t := 13) F dX0_holds_12 rfl rfl rfl ?_
  refine stN_17 (t := 14) (j := 2) F dX0_holds_13 (by omega) rfl ?_
  refine q_aload_n (t := 15) F dX0_holds_14 rfl rfl rfl ?_
  refine g_X0_38 (t := 18) F dX0_holds_15 rfl rfl ?_
  try simp only [up_app, row_app, scr_app, cpy_app, Nat.reduceEqDiff, Int.reduceToNat, Int.toNat_natCast, and_true, true_and, and_false, false_and, and_self, reduceIte]
  refine q_aload_n (t := 19) F dX0_holds_18 rfl rfl rfl ?_
  refine g_X0_9 (t := 22) F dX0_holds_19 rfl rfl ?_
  refine q_iconst (t := 23) F dX0_holds_22 rfl ?_
  refine ldN_17 (t := 24) (j := 3) F dX0_holds_23 (by omega) rfl ?_
  try simp only [up_app, row_app, scr_app, cpy_app, Nat.reduceEqDiff, Int.reduceToNat, Int.toNat_natCast, and_true, true_and, and_false, false_and, and_self, reduceIte]
  refine q_aload_n (t := 25) F dX0_holds_24 rfl rfl rfl ?_
  refine g_X0_15 (t := 28) F dX0_holds_25 rfl rfl ?_
  refine q_iconst (t := 29) F dX0_holds_28 rfl ?_
  refine q_aload_n (t := 30) F dX0_holds_29 rfl rfl rfl ?_
  refine g_X0_9 (t := 33) F dX0_holds_30 rfl rfl ?_
  refine wp_callV (t := 36) [_, _] F dX0_holds_33 k_X6_tell v_X6_tell ml_X0_54 rfl rfl rfl rfl (Nat.le_of_ble_eq_true rfl) (by decide) (m_2 (by omega)) (c_X6_tell17 _ G (up (up im 17 0 5 stuck) 17 0 2 now) bt rt lm bt hj 1 (by omega) (RI_up (RI_up hR hs) hn) (goodT_congr (fun s => rfl) (fun s => rfl) hT)) rfl (kI ?_)
  rintro v m' ⟨hv, kk, hkk, rfl⟩
  have hv2 := tellV_in (up (up im 17 0 5 stuck) 17 0 2 now) bt 1 (up (up im 17 0 5 stuck) 17 0 2 now 17 0)
  rw [← hv] at hv2
  refine wp_callS (t := 39) [_, _, _] F dX0_holds_36 k_X2_holds st_X2_holds ml_X0_60 rfl rfl (Nat.le_of_ble_eq_true rfl) (by decide) (c_X2_holds _ G _ bt rt lm (im 16 0 2) (im 17 0 3) v k0 k1 n0 n1 hv2.1 hv2.2) rfl (kI ?_)
  rintro x m' ⟨rfl, rfl⟩
  refine q_iret F dX0_holds_39 rfl ?_
  refine ⟨_, rfl, ?_, now, stuck, _, hn, hs, ?_, by rw [scr_of]⟩
  · unfold holdsB
    rw [hv, nmB_of]
    rw [show tellV (up (up im 17 0 5 stuck) 17 0 2 now) bt 1 (nmB im stuck now) = tellV im bt 1 (nmB im stuck now) from tellV_congr (fun s => rfl) (fun s => rfl)]
  · intro i s
    split
    · exact hkk s
    · exact hR _ _ _

theorem holdsB_in {im : IM} {j : Nat} {x y : Int} (n0 : 0 ≤ im 17 0 3) (n1 : im 17 0 3 < 10) : 1 ≤ holdsB im j x y ∧ holdsB im j x y ≤ 108 := holdsK_in n0 n1 (tellV_in _ _ _ _).1 (tellV_in _ _ _ _).2
theorem findF_s (P : Nat → Bool) (i n : Nat) : findF P i (n + 1) = if P i = true then (i : Int) else findF P (i + 1) n := rfl
theorem findF_in (P : Nat → Bool) (n : Nat) : ∀ i, findF P i n = -1 ∨ (i : Int) ≤ findF P i n ∧ findF P i n < i + n := by
  induction n with
  | zero => intro i; exact Or.inl rfl
  | succ n ih =>
    intro i
    rw [findF_s]
    split
    · right; omega
    · have := ih (i + 1)
      omega
theorem goesB_in (im : IM) (j n : Nat) : goesB im j n = -1 ∨ 0 ≤ goesB im j n ∧ goesB im j n < n := by
  unfold goesB
  split
  · exact Or.inl rfl
  · have := findF_in (offB im j) n 0
    omega

set_option maxHeartbeats 4000000 in
theorem c_X0_goesOffIn (l : Launch) (G : GS) (im : IM) (bt rt : Nat) (lm : IM) (n : Nat) (hn : n ≤ 60) (hj : bt < 6) (hR : RI im) (hT : goodT im bt) (k0 : 0 ≤ im 16 0 2) (k1 : im 16 0 2 < 6) (n0 : 0 ≤ im 17 0 3) (n1 : im 17 0 3 < 10) (a0 : im 17 0 0 ≠ -1 → 0 ≤ im 16 0 3 ∧ im 16 0 3 ≤ 3000) (h0 : 0 ≤ im 16 0 4) (h1 : im 16 0 4 ≤ 3000) : Cn l (XC G) yX0_goesOffIn Y_X0_goesOffIn [vR 16 0, vI (n : Int)] (im, rs bt rt, lm) (pI fun x m' => x = goesB im bt n ∧ garb im bt rt lm m') := by
  refine cn_of (by decide) (okC G) rfl (Nat.le_of_ble_eq_true rfl) ?_
  intro M ad hMl F
  subst hMl
  refine wp_pad 1 ?_
  show Wp M (XC G) ad Y_X0_goesOffIn (pI fun x m' => x = goesB im bt n ∧ garb im bt rt lm m') 0 [some (vR 16 0), some (vI (n : Int)), none] [] (im, rs bt rt, lm)
  refine q_aload_n (t := 1) F dX0_goesOffIn_0 rfl rfl rfl ?_
  refine g_X0_9 (t := 4) F dX0_goesOffIn_1 rfl rfl ?_
  refine q_iconst (t := 5) F dX0_goesOffIn_4 rfl ?_
  refine ldN_17 (t := 6) (j := 0) F dX0_goesOffIn_5 (by omega) rfl ?_
  refine q_iconst (t := 7) F dX0_goesOffIn_6 rfl ?_
  refine q_icmp_ne (t := 10) (u := 12) F dX0_goesOffIn_7 (by first | exact hR _ _ _ | (constructor <;> omega)) (by first | exact hR _ _ _ | (constructor <;> omega)) (by decide) rfl (fun c7 => ?_) (fun c7 => ?_)
  · refine q_iconst (t := 13) F dX0_goesOffIn_12 rfl ?_
    refine q_istore_n (t := 14) F dX0_goesOffIn_13 rfl (by decide) rfl rfl ?_
    have L14 : ∀ (fz : Nat) (i : Nat) (a b : Int) (g : Nat → Nat → Int), n - i < fz → i ≤ n → ri a → ri b → (∀ i s, ri (g i s)) → findF (offB im bt) i (n - i) = goesB im bt n → Wp M (XC G) ad Y_X0_goesOffIn (pI fun x m' => x = goesB im bt n ∧ garb im bt rt lm m') 14 [some (vR 16 0), some (vI (n : Int)), some (vI (i : Int))] [] (scr im a b g, rs bt rt, lm) := by
      intro fz
      induction fz with
      | zero => intro i a b g h; exact absurd h (Nat.not_lt_zero _)
      | succ fz ih =>
        intro i a b g hmeas hi ha hb hg hf
        have ag := a0 c7
        have hh := holdsB_in (im := im) (j := bt) (x := im 16 0 3 + i + 1) (y := im 16 0 4 + i) n0 n1
        refine q_iload_n (t := 15) F dX0_goesOffIn_14 rfl rfl rfl ?_
        refine q_iload_n (t := 16) F dX0_goesOffIn_15 rfl rfl rfl ?_
        refine q_icmp_ge (t := 19) (u := 56) F dX0_goesOffIn_16 (by first | exact hR _ _ _ | (constructor <;> omega)) (by first | exact hR _ _ _ | (constructor <;> omega)) (by decide) rfl (fun c16 => ?_) (fun c16 => ?_)
        · refine q_iconst (t := 57) F dX0_goesOffIn_56 rfl ?_
          refine q_iret F dX0_goesOffIn_57 rfl ?_
          refine ⟨_, rfl, ?_, a, b, g, ha, hb, hg, rfl⟩
          rw [← hf, show n - i = 0 by omega]
          rfl
        · refine q_aload_n (t := 20) F dX0_goesOffIn_19 rfl rfl rfl ?_
          refine g_X0_42 (t := 23) F dX0_goesOffIn_20 rfl rfl ?_
          try simp only [up_app, row_app, scr_app, cpy_app, Nat.reduceEqDiff, Int.reduceToNat, Int.toNat_natCast, and_true, true_and, and_false, false_and, and_self, reduceIte]
          refine q_iload_n (t := 24) F dX0_goesOffIn_23 rfl rfl rfl ?_
          refine q_iadd (t := 25) F dX0_goesOffIn_24 rfl ?_
          refine q_iconst (t := 26) F dX0_goesOffIn_25 rfl ?_
          refine q_iadd (t := 27) F dX0_goesOffIn_26 rfl ?_
          refine q_aload_n (t := 28) F dX0_goesOffIn_27 rfl rfl rfl ?_
          refine q_aload_n (t := 29) F dX0_goesOffIn_28 rfl rfl rfl ?_
          refine g_X0_42 (t := 32) F dX0_goesOffIn_29 rfl rfl ?_
          try simp only [up_app, row_app, scr_app, cpy_app, Nat.reduceEqDiff, Int.reduceToNat, Int.toNat_natCast, and_true, true_and, and_false, false_and, and_self, reduceIte]
          refine q_iload_n (t := 33) F dX0_goesOffIn_32 rfl rfl rfl ?_
          refine q_iadd (t := 34) F dX0_goesOffIn_33 rfl ?_
          refine q_iconst (t := 35) F dX0_goesOffIn_34 rfl ?_
          refine q_iadd (t := 36) F dX0_goesOffIn_35 rfl ?_
          refine q_aload_n (t := 37) F dX0_goesOffIn_36 rfl rfl rfl ?_
          refine g_X0_47 (t := 40) F dX0_goesOffIn_37 rfl rfl ?_
          try simp only [up_app, row_app, scr_app, cpy_app, Nat.reduceEqDiff, Int.reduceToNat, Int.toNat_natCast, and_true, true_and, and_false, false_and, and_self, reduceIte]
          refine q_iload_n (t := 41) F dX0_goesOffIn_40 rfl rfl rfl ?_
          refine q_iadd (t := 42) F dX0_goesOffIn_41 rfl ?_
          refine wp_callV (t := 45) [_, _] F dX0_goesOffIn_42 k_X0_holds v_X0_holds ml_X0_66 rfl rfl rfl rfl (Nat.le_of_ble_eq_true rfl) (by decide) (m_16 (by omega)) (c_X0_holds _ G (scr im a b g) bt rt lm (im 16 0 3 + i + 1) (im 16 0 4 + i) (by constructor <;> omega) (by constructor <;> omega) hj (RI_scr hR ha hb hg) (goodT_scr hT) k0 k1 n0 n1) rfl (kI ?_)
          rintro x m' ⟨hx, a2, b2, g2, ha2, hb2, hg2, rfl⟩
          rw [holdsB_scr] at hx
          subst hx
          rw [scr_scr]
          refine q_icmp_lt (t := 48) (u := 50) F dX0_goesOffIn_45 (by first | exact hR _ _ _ | (constructor <;> omega)) (by first | exact hR _ _ _ | (constructor <;> omega)) (by decide) rfl (fun c45 => ?_) (fun c45 => ?_)
          · refine q_iinc (t := 53) F dX0_goesOffIn_50 rfl (by decide) rfl rfl ?_
            refine q_goto (t := 14) F dX0_goesOffIn_53 (by decide) ?_
            refine ih (i + 1) _ _ _ (by omega) (by omega) ha2 hb2 hg2 ?_
            rw [← hf, show n - i = (n - (i + 1)) + 1 by omega, findF_s, if_neg]
            intro hc
            have := of_decide_eq_true hc
            omega
          · refine q_iload_n (t := 49) F dX0_goesOffIn_48 rfl rfl rfl ?_
            refine q_iret F dX0_goesOffIn_49 rfl ?_
            refine ⟨_, rfl, ?_, a2, b2, g2, ha2, hb2, hg2, rfl⟩
            rw [← hf, show n - i = (n - (i + 1)) + 1 by omega, findF_s, if_pos]
            exact decide_eq_true (by omega)
    have h := L14 _ 0 (im 17 0 2) (im 17 0 5) (im 5) (Nat.lt_succ_self _) (by omega) (hR _ _ _) (hR _ _ _) (hR 5) (by unfold goesB; rw [if_neg c7]; rfl)
    rw [scr_self] at h
    exact h
  · refine q_iconst (t := 11) F dX0_goesOffIn_10 rfl ?_
    refine q_iret F dX0_goesOffIn_11 rfl ?_
    exact ⟨_, rfl, by unfold goesB; rw [if_pos c7], garb_self hR⟩

theorem bearsB_in {im : IM} {j : Nat} {x c : Int} (n0 : 0 ≤ im 17 0 3) (n1 : im 17 0 3 < 10) : 0 ≤ bearsB im j x c ∧ bearsB im j x c ≤ 700 := bearsK_in n0 n1 (tellV_in _ _ _ _).1 (tellV_in _ _ _ _).2

set_option maxHeartbeats 4000000 in
theorem c_X0_bears (l : Launch) (G : GS) (im : IM) (bt rt : Nat) (lm : IM) (later c : Int) (l0 : 0 ≤ later) (l1 : later ≤ 60) (c0 : 0 ≤ c) (c1 : c ≤ 1) (hj : bt < 6) (hR : RI im) (hT : goodT im bt) (k0 : 0 ≤ im 16 0 2) (k1 : im 16 0 2 < 6) (n0 : 0 ≤ im 17 0 3) (n1 : im 17 0 3 < 10) (a0 : 0 ≤ im 16 0 3 ∧ im 16 0 3 ≤ 3000) (h0 : 0 ≤ im 16 0 4) (h1 : im 16 0 4 ≤ 3000) : Cn l (XC G) yX0_bears Y_X0_bears [vR 16 0, vI later, vI c] (im, rs bt rt, lm) (pI fun x m' => x = bearsB im bt later c ∧ garb im bt rt lm m') := by
  refine cn_of (by decide) (okC G) rfl (Nat.le_of_ble_eq_true rfl) ?_
  intro M ad hMl F
  subst hMl
  refine wp_pad 0 ?_
  show Wp M (XC G) ad Y_X0_bears (pI fun x m' => x = bearsB im bt later c ∧ garb im bt rt lm m') 0 [some (vR 16 0), some (vI later), some (vI c)] [] (im, rs bt rt, lm)
  refine q_aload_n (t := 1) F dX0_bears_0 rfl rfl rfl ?_
  refine g_X0_9 (t := 4) F dX0_bears_1 rfl rfl ?_
  refine q_iconst (t := 5) F dX0_bears_4 rfl ?_
  refine q_aload_n (t := 6) F dX0_bears_5 rfl rfl rfl ?_
  refine g_X0_42 (t := 9) F dX0_bears_6 rfl rfl ?_
  refine q_iload_n (t := 10) F dX0_bears_9 rfl rfl rfl ?_
  refine q_iadd (t := 11) F dX0_bears_10 rfl ?_
  refine q_iconst (t := 12) F dX0_bears_11 rfl ?_
  refine q_iadd (t := 13) F dX0_bears_12 rfl ?_
  refine stN_17 (t := 14) (j := 5) F dX0_bears_13 (by omega) rfl ?_
  refine q_aload_n (t := 15) F dX0_bears_14 rfl rfl rfl ?_
  refine g_X0_9 (t := 18) F dX0_bears_15 rfl rfl ?_
  refine q_iconst (t := 19) F dX0_bears_18 rfl ?_
  refine q_aload_n (t := 20) F dX0_bears_19 rfl rfl rfl ?_
  refine g_X0_47 (t := 23) F dX0_bears_20 rfl rfl ?_
  try simp only [up_app, row_app, scr_app, cpy_app, Nat.reduceEqDiff, Int.reduceToNat, Int.toNat_natCast, and_true, true_and, and_false, false_and, and_self, reduceIte]
  refine q_iload_n (t := 24) F dX0_bears_23 rfl rfl rfl ?_
  refine q_iadd (t := 25) F dX0_bears_24 rfl ?_
  refine stN_17 (t := 26) (j := 2) F dX0_bears_25 (by omega) rfl ?_
  refine q_aload_n (t := 27) F dX0_bears_26 rfl rfl rfl ?_
  refine g_X0_38 (t := 30) F dX0_bears_27 rfl rfl ?_
  try simp only [up_app, row_app, scr_app, cpy_app, Nat.reduceEqDiff, Int.reduceToNat, Int.toNat_natCast, and_true, true_and, and_false, false_and, and_self, reduceIte]
  refine q_aload_n (t := 31) F dX0_bears_30 rfl rfl rfl ?_
  refine g_X0_9 (t := 34) F dX0_bears_31 rfl rfl ?_
  refine q_iconst (t := 35) F dX0_bears_34 rfl ?_
  refine ldN_17 (t := 36) (j := 3) F dX0_bears_35 (by omega) rfl ?_
  try simp only [up_app, row_app, scr_app, cpy_app, Nat.reduceEqDiff, Int.reduceToNat, Int.toNat_natCast, and_true, true_and, and_false, false_and, and_self, reduceIte]
  refine q_aload_n (t := 37) F dX0_bears_36 rfl rfl rfl ?_
  refine g_X0_15 (t := 40) F dX0_bears_37 rfl rfl ?_
  refine q_iconst (t := 41) F dX0_bears_40 rfl ?_
  refine q_aload_n (t := 42) F dX0_bears_41 rfl rfl rfl ?_
  refine g_X0_9 (t := 45) F dX0_bears_42 rfl rfl ?_
  refine wp_callV (t := 48) [_, _] F dX0_bears_45 k_X6_tell v_X6_tell ml_X0_54 rfl rfl rfl rfl (Nat.le_of_ble_eq_true rfl) (by decide) (m_2 (by omega)) (c_X6_tell17 _ G (up (up im 17 0 5 (im 16 0 3 + later + 1)) 17 0 2 (im 16 0 4 + later)) bt rt lm bt hj 2 (by omega) (RI_up (RI_up hR (by constructor <;> omega)) (by constructor <;> omega)) (goodT_congr (fun s => rfl) (fun s => rfl) hT)) rfl (kI ?_)
  rintro v m' ⟨hv, kk, hkk, rfl⟩
  have hv2 := tellV_in (up (up im 17 0 5 (im 16 0 3 + later + 1)) 17 0 2 (im 16 0 4 + later)) bt 2 (up (up im 17 0 5 (im 16 0 3 + later + 1)) 17 0 2 (im 16 0 4 + later) 17 0)
  rw [← hv] at hv2
  refine q_iload_n (t := 49) F dX0_bears_48 rfl rfl rfl ?_
  refine wp_callS (t := 52) [_, _, _, _] F dX0_bears_49 k_X2_bears st_X2_bears ml_X0_69 rfl rfl (Nat.le_of_ble_eq_true rfl) (by decide) (c_X2_bears _ G _ bt rt lm (im 16 0 2) (im 17 0 3) v c k0 k1 n0 n1 hv2.1 hv2.2 c0 c1) rfl (kI ?_)
  rintro x m' ⟨rfl, rfl⟩
  refine q_iret F dX0_bears_52 rfl ?_
  refine ⟨_, rfl, ?_, im 16 0 4 + later, im 16 0 3 + later + 1, _, (by constructor <;> omega), (by constructor <;> omega), ?_, by rw [scr_of]⟩
  · unfold bearsB
    rw [hv, nmB_of]
    rw [show ∀ nm, tellV (up (up im 17 0 5 (im 16 0 3 + later + 1)) 17 0 2 (im 16 0 4 + later)) bt 2 nm = tellV im bt 2 nm from fun nm => tellV_congr (fun s => rfl) (fun s => rfl)]
  · intro i s
    split
    · exact hkk s
    · exact hR _ _ _

/-- Bite.look -/
def lookM (im : IM) (w p g : Nat) : IM := up (up (up (up (up (up (up im 16 0 2 (im 21 (5 * w + p) 0)) 16 0 3 (im 23 (5 * w + p) g)) 16 0 4 (im 18 w 4)) 17 0 0 (im 22 (5 * w + p) g)) 17 0 1 0) 17 0 3 (im 21 (5 * w + p) 1)) 17 0 4 (g : Int)
theorem RI_look {im : IM} {w p g : Nat} (h : RI im) (hg : g < 10) : RI (lookM im w p g) := by
  unfold lookM
  refine RI_up (RI_up (RI_up (RI_up (RI_up (RI_up (RI_up h ?_) ?_) ?_) ?_) ?_) ?_) ?_
  all_goals first | exact h _ _ _ | (constructor <;> omega)

set_option maxHeartbeats 4000000 in
theorem c_X0_look (l : Launch) (G : GS) (im : IM) (bt rt : Nat) (lm : IM) (w man gap : Nat) (hw : w < 3) (hm : man < 5) (hg : gap < 10) (r0 : 0 ≤ im 18 w 7) (r1 : im 18 w 7 < 6) : Cn l (XC G) yX0_look Y_X0_look [vR 16 0, vR 18 w, vI (man : Int), vI (gap : Int)] (im, rs bt rt, lm) (pV fun m' => m' = (lookM im w man gap, rs (im 18 w 7).toNat rt, lm)) := by
  refine cn_of (by decide) (okC G) rfl (Nat.le_of_ble_eq_true rfl) ?_
  intro M ad hMl F
  subst hMl
  refine wp_pad 1 ?_
  show Wp M (XC G) ad Y_X0_look (pV fun m' => m' = (lookM im w man gap, rs (im 18 w 7).toNat rt, lm)) 0 [some (vR 16 0), some (vR 18 w), some (vI (man : Int)), some (vI (gap : Int)), none] [] (im, rs bt rt, lm)
  refine q_aload_n (t := 1) F dX0_look_0 rfl rfl rfl ?_
  refine g_X0_19 (t := 4) F dX0_look_1 rfl (by omega) rfl ?_
  refine q_iload_n (t := 5) F dX0_look_4 rfl rfl rfl ?_
  first | refine laN_19 (t := 6) F dX0_look_5 (by omega) (by omega) rfl ?_ | refine la_19 (t := 6) F dX0_look_5 (by omega) (by omega) (by omega) rfl ?_
  refine q_astore (t := 8) F dX0_look_6 (by decide) rfl rfl ?_
  refine q_aload_n (t := 9) F dX0_look_8 rfl rfl rfl ?_
  refine q_aload_n (t := 10) F dX0_look_9 rfl rfl rfl ?_
  refine g_X0_25 (t := 13) F dX0_look_10 rfl (by omega) rfl ?_
  refine q_aload_n (t := 14) F dX0_look_13 rfl rfl rfl ?_
  refine g_X0_29 (t := 17) F dX0_look_14 rfl (by omega) rfl ?_
  refine la_1 (t := 18) F dX0_look_17 (by omega) (by omega) rfl ?_
  refine p_X0_15 (t := 21) F dX0_look_18 rfl rfl ?_
  refine q_aload_n (t := 22) F dX0_look_21 rfl rfl rfl ?_
  refine q_aload (t := 24) F dX0_look_22 rfl rfl ?_
  refine g_X0_33 (t := 27) F dX0_look_24 rfl (by omega) rfl ?_
  try simp only [up_app, row_app, scr_app, cpy_app, Nat.reduceEqDiff, Int.reduceToNat, Int.toNat_natCast, and_true, true_and, and_false, false_and, and_self, reduceIte]
  refine p_X0_38 (t := 30) F dX0_look_27 rfl rfl ?_
  refine q_aload_n (t := 31) F dX0_look_30 rfl rfl rfl ?_
  refine q_aload (t := 33) F dX0_look_31 rfl rfl ?_
  refine g_X0_39 (t := 36) F dX0_look_33 rfl (by omega) rfl ?_
  refine q_iload_n (t := 37) F dX0_look_36 rfl rfl rfl ?_
  first | refine ldN_23 (t := 38) F dX0_look_37 (by omega) (by omega) rfl ?_ | refine ld_23 (t := 38) F dX0_look_37 (by omega) (by omega) (by omega) rfl ?_
  try simp only [up_app, row_app, scr_app, cpy_app, Nat.reduceEqDiff, Int.reduceToNat, Int.toNat_natCast, and_true, true_and, and_false, false_and, and_self, reduceIte]
  refine p_X0_42 (t := 41) F dX0_look_38 rfl rfl ?_
  refine q_aload_n (t := 42) F dX0_look_41 rfl rfl rfl ?_
  refine q_aload_n (t := 43) F dX0_look_42 rfl rfl rfl ?_
  refine g_X0_44 (t := 46) F dX0_look_43 rfl (by omega) rfl ?_
  try simp only [up_app, row_app, scr_app, cpy_app, Nat.reduceEqDiff, Int.reduceToNat, Int.toNat_natCast, and_true, true_and, and_false, false_and, and_self, reduceIte]
  refine p_X0_47 (t := 49) F dX0_look_46 rfl rfl ?_
  refine q_aload_n (t := 50) F dX0_look_49 rfl rfl rfl ?_
  refine g_X0_9 (t := 53) F dX0_look_50 rfl rfl ?_
  refine q_iconst (t := 54) F dX0_look_53 rfl ?_
  refine q_aload (t := 56) F dX0_look_54 rfl rfl ?_
  refine g_X0_48 (t := 59) F dX0_look_56 rfl (by omega) rfl ?_
  refine q_iload_n (t := 60) F dX0_look_59 rfl rfl rfl ?_
  first | refine ldN_22 (t := 61) F dX0_look_60 (by omega) (by omega) rfl ?_ | refine ld_22 (t := 61) F dX0_look_60 (by omega) (by omega) (by omega) rfl ?_
  try simp only [up_app, row_app, scr_app, cpy_app, Nat.reduceEqDiff, Int.reduceToNat, Int.toNat_natCast, and_true, true_and, and_false, false_and, and_self, reduceIte]
  refine stN_17 (t := 62) (j := 0) F dX0_look_61 (by omega) rfl ?_
  refine q_aload_n (t := 63) F dX0_look_62 rfl rfl rfl ?_
  refine g_X0_9 (t := 66) F dX0_look_63 rfl rfl ?_
  refine q_iconst (t := 67) F dX0_look_66 rfl ?_
  refine q_iconst (t := 68) F dX0_look_67 rfl ?_
  refine stN_17 (t := 69) (j := 1) F dX0_look_68 (by omega) rfl ?_
  refine q_aload_n (t := 70) F dX0_look_69 rfl rfl rfl ?_
  refine g_X0_9 (t := 73) F dX0_look_70 rfl rfl ?_
  refine q_iconst (t := 74) F dX0_look_73 rfl ?_
  refine q_aload (t := 76) F dX0_look_74 rfl rfl ?_
  refine g_X0_51 (t := 79) F dX0_look_76 rfl (by omega) rfl ?_
  try simp only [up_app, row_app, scr_app, cpy_app, Nat.reduceEqDiff, Int.reduceToNat, Int.toNat_natCast, and_true, true_and, and_false, false_and, and_self, reduceIte]
  refine stN_17 (t := 80) (j := 3) F dX0_look_79 (by omega) rfl ?_
  refine q_aload_n (t := 81) F dX0_look_80 rfl rfl rfl ?_
  refine g_X0_9 (t := 84) F dX0_look_81 rfl rfl ?_
  refine q_iconst (t := 85) F dX0_look_84 rfl ?_
  refine q_iload_n (t := 86) F dX0_look_85 rfl rfl rfl ?_
  refine stN_17 (t := 87) (j := 4) F dX0_look_86 (by omega) rfl ?_
  refine q_vret F dX0_look_87 rfl ?_
  exact ⟨rfl, rfl⟩
