/-! the reference: it begins, all is laid aside and back; live -/

/-- two rows laid over by two others -/
def cp2 (im : IM) (a b c d n : Nat) : IM := fun k i s => if k = a ∧ i = 0 ∧ s < n then im b 0 s else if k = c ∧ i = 0 ∧ s < n then im d 0 s else im k i s
theorem cp2_app (im : IM) (a b c d n k i s : Nat) : cp2 im a b c d n k i s = if k = a ∧ i = 0 ∧ s < n then im b 0 s else if k = c ∧ i = 0 ∧ s < n then im d 0 s else im k i s := rfl
theorem cp2_0 (im : IM) (a b c d : Nat) : cp2 im a b c d 0 = im := by
  funext k i s
  rw [cp2_app, if_neg (by omega), if_neg (by omega)]
theorem cp2_s (im : IM) {a b c d : Nat} (n : Nat) (h : a ≠ c) : up (up (cp2 im a b c d n) a 0 n (im b 0 n)) c 0 n (im d 0 n) = cp2 im a b c d (n + 1) := by
  funext k i s
  rw [up_app, up_app, cp2_app, cp2_app]
  by_cases hs : s = n
  · subst hs
    by_cases hi : i = 0
    · subst hi
      by_cases hc : k = c
      · subst hc
        rw [if_pos ⟨rfl, rfl, rfl⟩, if_neg (by omega), if_pos ⟨rfl, rfl, by omega⟩]
      · by_cases ha : k = a
        · subst ha
          rw [if_neg (by omega), if_pos ⟨rfl, rfl, rfl⟩, if_pos ⟨rfl, rfl, by omega⟩]
        · rw [if_neg (by omega), if_neg (by omega), if_neg (by omega), if_neg (by omega), if_neg (by omega), if_neg (by omega)]
    · rw [if_neg (by omega), if_neg (by omega), if_neg (by omega), if_neg (by omega), if_neg (by omega), if_neg (by omega)]
  · rw [if_neg (by omega), if_neg (by omega)]
    have e : (s < n + 1) = (s < n) := propext ⟨fun z => by omega, fun z => by omega⟩
    simp only [e]
theorem cp2_RI {im : IM} (h : RI im) (a b c d n : Nat) : RI (cp2 im a b c d n) := by
  intro k i s
  rw [cp2_app]
  (repeat' split) <;> exact h _ _ _
def bgI (im : IM) (n : Nat) : IM := fun k i s => if k = 38 ∧ i = 0 ∧ s < n then -1 else if k = 39 ∧ i = 0 ∧ s < n then 0 else if k = 30 ∧ i = 0 ∧ s = 30 then 0 else if k = 30 ∧ i = 0 ∧ (31 ≤ s ∧ s ≤ 33) then -1 else im k i s
theorem bgI_app (im : IM) (n k i s : Nat) : bgI im n k i s = if k = 38 ∧ i = 0 ∧ s < n then -1 else if k = 39 ∧ i = 0 ∧ s < n then 0 else if k = 30 ∧ i = 0 ∧ s = 30 then 0 else if k = 30 ∧ i = 0 ∧ (31 ≤ s ∧ s ≤ 33) then -1 else im k i s := rfl
theorem bgI_0 (im : IM) : up (up (up (up im 30 0 30 0) 30 0 31 (-1)) 30 0 32 (-1)) 30 0 33 (-1) = bgI im 0 := by
  funext k i s
  rw [up_app, up_app, up_app, up_app, bgI_app, if_neg (show ¬ (k = 38 ∧ i = 0 ∧ s < 0) by omega), if_neg (show ¬ (k = 39 ∧ i = 0 ∧ s < 0) by omega)]
  by_cases h : k = 30 ∧ i = 0 ∧ 30 ≤ s ∧ s ≤ 33
  · obtain ⟨rfl, rfl, h1, h2⟩ := h
    rcases (show s = 30 ∨ s = 31 ∨ s = 32 ∨ s = 33 by omega) with rfl | rfl | rfl | rfl <;> rfl
  · rw [if_neg (by omega), if_neg (by omega), if_neg (by omega), if_neg (by omega), if_neg (by omega), if_neg (by omega)]
theorem bgI_s (im : IM) (n : Nat) : up (up (bgI im n) 38 0 n (-1)) 39 0 n 0 = bgI im (n + 1) := by
  funext k i s
  rw [up_app, up_app, bgI_app, bgI_app]
  by_cases hs : s = n
  · subst hs
    by_cases hc : k = 39 ∧ i = 0
    · obtain ⟨rfl, rfl⟩ := hc
      rw [if_pos ⟨rfl, rfl, rfl⟩, if_neg (by omega), if_pos ⟨rfl, rfl, by omega⟩]
    · by_cases ha : k = 38 ∧ i = 0
      · obtain ⟨rfl, rfl⟩ := ha
        rw [if_neg (by omega), if_pos ⟨rfl, rfl, rfl⟩, if_pos ⟨rfl, rfl, by omega⟩]
      · rw [if_neg (by omega), if_neg (by omega), if_neg (show ¬ (k = 38 ∧ i = 0 ∧ s < s) by omega), if_neg (show ¬ (k = 39 ∧ i = 0 ∧ s < s) by omega), if_neg (show ¬ (k = 38 ∧ i = 0 ∧ s < s + 1) by omega), if_neg (show ¬ (k = 39 ∧ i = 0 ∧ s < s + 1) by omega)]
  · rw [if_neg (by omega), if_neg (by omega)]
    have e : (s < n + 1) = (s < n) := propext ⟨fun z => by omega, fun z => by omega⟩
    simp only [e]
theorem bgI_RI {im : IM} (h : RI im) (n : Nat) : RI (bgI im n) := by
  intro k i s
  rw [bgI_app]
  (repeat' split) <;> first | exact h _ _ _ | (constructor <;> omega)
theorem bgI_c {im : IM} (n : Nat) {k i s : Nat} (h : ¬ (k = 38 ∨ k = 39)) (h2 : ¬ (k = 30 ∧ 30 ≤ s ∧ s ≤ 33)) : bgI im n k i s = im k i s := by
  rw [bgI_app, if_neg (by omega), if_neg (by omega), if_neg (by omega), if_neg (by omega)]

set_option maxHeartbeats 4000000 in
theorem g_X9_begins (l : Launch) (G : GS) (im : IM) (bt rt : Nat) (lm : IM) (hR : RI im) : Cn l (XR G) yX9_begins Y_X9_begins [vR 30 0] (im, rs bt rt, lm) (pV fun m' => m' = (bgI im 50, rs bt rt, lm)) := by
  refine cn_of (by decide) (okR G) rfl (Nat.le_of_ble_eq_true rfl) ?_
  intro M ad hMl F
  subst hMl
  refine wp_pad 1 ?_
  show Wp M (XR G) ad Y_X9_begins (pV fun m' => m' = (bgI im 50, rs bt rt, lm)) 0 [some (vR 30 0), none] [] (im, rs bt rt, lm)
  refine q_aload_n (t := 1) F dX9_begins_0 rfl rfl rfl ?_
  refine q_iconst (t := 2) F dX9_begins_1 rfl ?_
  refine p_X9_370 (t := 5) F dX9_begins_2 rfl rfl ?_
  refine q_aload_n (t := 6) F dX9_begins_5 rfl rfl rfl ?_
  refine q_iconst (t := 7) F dX9_begins_6 rfl ?_
  refine p_X9_373 (t := 10) F dX9_begins_7 rfl rfl ?_
  refine q_aload_n (t := 11) F dX9_begins_10 rfl rfl rfl ?_
  refine q_iconst (t := 12) F dX9_begins_11 rfl ?_
  refine p_X9_376 (t := 15) F dX9_begins_12 rfl rfl ?_
  refine q_aload_n (t := 16) F dX9_begins_15 rfl rfl rfl ?_
  refine q_iconst (t := 17) F dX9_begins_16 rfl ?_
  refine p_X9_379 (t := 20) F dX9_begins_17 rfl rfl ?_
  refine q_iconst (t := 21) F dX9_begins_20 rfl ?_
  refine q_istore_n (t := 22) F dX9_begins_21 rfl (by decide) rfl rfl ?_
  have L22 : ∀ (fz : Nat) (n : Nat), 50 - n < fz → n ≤ 50 → Wp M (XR G) ad Y_X9_begins (pV fun m' => m' = (bgI im 50, rs bt rt, lm)) 22 [some (vR 30 0), some (vI (n : Int))] [] (bgI im n, rs bt rt, lm) := by
    intro fz
    induction fz with
    | zero => intro n h; exact absurd h (Nat.not_lt_zero _)
    | succ fz ih =>
      have ih22 := ih
      intro n hmeas hn
      refine q_iload_n (t := 23) F dX9_begins_22 rfl rfl rfl ?_
      refine q_bipush (t := 25) F dX9_begins_23 (by decide) rfl ?_
      refine q_icmp_ge (t := 28) (u := 48) F dX9_begins_25 (by constructor <;> omega) (by constructor <;> omega) (by decide) rfl (fun c25 => ?_) (fun c25 => ?_)
      · refine q_vret F dX9_begins_48 rfl ?_
        obtain rfl : n = 50 := by omega
        exact ⟨rfl, rfl⟩
      · refine q_aload_n (t := 29) F dX9_begins_28 rfl rfl rfl ?_
        refine g_X9_38 (t := 32) F dX9_begins_29 rfl rfl ?_
        refine q_iload_n (t := 33) F dX9_begins_32 rfl rfl rfl ?_
        refine q_iconst (t := 34) F dX9_begins_33 rfl ?_
        first | refine stN_38 (t := 35) F dX9_begins_34 (by omega) rfl ?_ | refine st_38 (t := 35) F dX9_begins_34 (by omega) (by omega) rfl ?_
        refine q_aload_n (t := 36) F dX9_begins_35 rfl rfl rfl ?_
        refine g_X9_41 (t := 39) F dX9_begins_36 rfl rfl ?_
        refine q_iload_n (t := 40) F dX9_begins_39 rfl rfl rfl ?_
        refine q_iconst (t := 41) F dX9_begins_40 rfl ?_
        first | refine stN_39 (t := 42) F dX9_begins_41 (by omega) rfl ?_ | refine st_39 (t := 42) F dX9_begins_41 (by omega) (by omega) rfl ?_
        refine q_iinc (t := 45) F dX9_begins_42 rfl (by decide) rfl rfl ?_
        refine q_goto (t := 22) F dX9_begins_45 (by decide) ?_
        rw [show (n : Int) + 1 = ((n + 1 : Nat) : Int) by omega, bgI_s]
        exact ih22 (n + 1) (by omega) (by omega)
  have L0 := L22 _ 0 (Nat.lt_succ_self _) (Nat.zero_le _)
  rw [← bgI_0] at L0
  exact L0

def asideI (im : IM) : IM := (bgI (up (up (cp2 im 40 36 41 37 50) 30 0 38 (im 30 0 7)) 30 0 39 (im 30 0 9)) 50)
set_option maxHeartbeats 4000000 in
theorem g_X9_laysAside (l : Launch) (G : GS) (im : IM) (bt rt : Nat) (lm : IM) (hR : RI im) : Cn l (XR G) yX9_laysAside Y_X9_laysAside [vR 30 0] (im, rs bt rt, lm) (pV fun m' => m' = (asideI im, rs bt rt, lm)) := by
  refine cn_of (by decide) (okR G) rfl (Nat.le_of_ble_eq_true rfl) ?_
  intro M ad hMl F
  subst hMl
  refine wp_pad 1 ?_
  show Wp M (XR G) ad Y_X9_laysAside (pV fun m' => m' = (asideI im, rs bt rt, lm)) 0 [some (vR 30 0), none] [] (im, rs bt rt, lm)
  refine q_iconst (t := 1) F dX9_laysAside_0 rfl ?_
  refine q_istore_n (t := 2) F dX9_laysAside_1 rfl (by decide) rfl rfl ?_
  have L2 : ∀ (fz : Nat) (n : Nat), 50 - n < fz → n ≤ 50 → Wp M (XR G) ad Y_X9_laysAside (pV fun m' => m' = (asideI im, rs bt rt, lm)) 2 [some (vR 30 0), some (vI (n : Int))] [] (cp2 im 40 36 41 37 n, rs bt rt, lm) := by
    intro fz
    induction fz with
    | zero => intro n h; exact absurd h (Nat.not_lt_zero _)
    | succ fz ih =>
      have ih2 := ih
      intro n hmeas hn
      have c36 : cp2 im 40 36 41 37 n 36 0 n = im 36 0 n := rfl
      have c37 : cp2 im 40 36 41 37 n 37 0 n = im 37 0 n := rfl
      have c7 : cp2 im 40 36 41 37 n 30 0 7 = im 30 0 7 := rfl
      have c9 : cp2 im 40 36 41 37 n 30 0 9 = im 30 0 9 := rfl
      refine q_iload_n (t := 3) F dX9_laysAside_2 rfl rfl rfl ?_
      refine q_bipush (t := 5) F dX9_laysAside_3 (by decide) rfl ?_
      refine q_icmp_ge (t := 8) (u := 38) F dX9_laysAside_5 (by constructor <;> omega) (by constructor <;> omega) (by decide) rfl (fun c5 => ?_) (fun c5 => ?_)
      · refine q_aload_n (t := 39) F dX9_laysAside_38 rfl rfl rfl ?_
        refine q_aload_n (t := 40) F dX9_laysAside_39 rfl rfl rfl ?_
        refine g_X9_117 (t := 43) F dX9_laysAside_40 rfl rfl ?_
        rw [c7]
        refine p_X9_395 (t := 46) F dX9_laysAside_43 rfl rfl ?_
        refine q_aload_n (t := 47) F dX9_laysAside_46 rfl rfl rfl ?_
        refine q_aload_n (t := 48) F dX9_laysAside_47 rfl rfl rfl ?_
        refine g_X9_385 (t := 51) F dX9_laysAside_48 rfl rfl ?_
        try simp only [up_app, row_app, scr_app, cpy_app, Nat.reduceEqDiff, Int.reduceToNat, Int.toNat_natCast, and_true, true_and, and_false, false_and, and_self, reduceIte]
        rw [c9]
        refine p_X9_398 (t := 54) F dX9_laysAside_51 rfl rfl ?_
        refine q_aload_n (t := 55) F dX9_laysAside_54 rfl rfl rfl ?_
        refine wp_callV (t := 58) [] F dX9_laysAside_55 k_X9_begins v_X9_begins ml_X9_388 rfl rfl rfl rfl (Nat.le_of_ble_eq_true rfl) (by decide) (m_30 (by omega)) (g_X9_begins _ G _ bt rt lm (RI_up (RI_up (cp2_RI hR 40 36 41 37 n) (hR 30 0 7)) (hR 30 0 9))) rfl (kV ?_)
        rintro m' rfl
        refine q_vret F dX9_laysAside_58 rfl ?_
        obtain rfl : n = 50 := by omega
        exact ⟨rfl, rfl⟩
      · refine q_aload_n (t := 9) F dX9_laysAside_8 rfl rfl rfl ?_
        refine g_X9_44 (t := 12) F dX9_laysAside_9 rfl rfl ?_
        refine q_iload_n (t := 13) F dX9_laysAside_12 rfl rfl rfl ?_
        refine q_aload_n (t := 14) F dX9_laysAside_13 rfl rfl rfl ?_
        refine g_X9_32 (t := 17) F dX9_laysAside_14 rfl rfl ?_
        refine q_iload_n (t := 18) F dX9_laysAside_17 rfl rfl rfl ?_
        first | refine ldN_36 (t := 19) F dX9_laysAside_18 (by omega) rfl ?_ | refine ld_36 (t := 19) F dX9_laysAside_18 (by omega) (by omega) rfl ?_
        rw [c36]
        first | refine stN_40 (t := 20) F dX9_laysAside_19 (by omega) rfl ?_ | refine st_40 (t := 20) F dX9_laysAside_19 (by omega) (by omega) rfl ?_
        refine q_aload_n (t := 21) F dX9_laysAside_20 rfl rfl rfl ?_
        refine g_X9_47 (t := 24) F dX9_laysAside_21 rfl rfl ?_
        refine q_iload_n (t := 25) F dX9_laysAside_24 rfl rfl rfl ?_
        refine q_aload_n (t := 26) F dX9_laysAside_25 rfl rfl rfl ?_
        refine g_X9_35 (t := 29) F dX9_laysAside_26 rfl rfl ?_
        refine q_iload_n (t := 30) F dX9_laysAside_29 rfl rfl rfl ?_
        first | refine ldN_37 (t := 31) F dX9_laysAside_30 (by omega) rfl ?_ | refine ld_37 (t := 31) F dX9_laysAside_30 (by omega) (by omega) rfl ?_
        try simp only [up_app, row_app, scr_app, cpy_app, Nat.reduceEqDiff, Int.reduceToNat, Int.toNat_natCast, and_true, true_and, and_false, false_and, and_self, reduceIte]
        rw [c37]
        first | refine stN_41 (t := 32) F dX9_laysAside_31 (by omega) rfl ?_ | refine st_41 (t := 32) F dX9_laysAside_31 (by omega) (by omega) rfl ?_
        refine q_iinc (t := 35) F dX9_laysAside_32 rfl (by decide) rfl rfl ?_
        refine q_goto (t := 2) F dX9_laysAside_35 (by decide) ?_
        rw [show (n : Int) + 1 = ((n + 1 : Nat) : Int) by omega, cp2_s im n (by omega)]
        exact ih2 (n + 1) (by omega) (by omega)
  have L0 := L2 _ 0 (Nat.lt_succ_self _) (Nat.zero_le _)
  rw [cp2_0] at L0
  exact L0

def backI (im : IM) : IM := up (up (up (cp2 im 36 40 37 41 50) 30 0 40 (bm (im 30 0 9 - im 30 0 39))) 30 0 7 (im 30 0 38)) 30 0 9 (im 30 0 39)
set_option maxHeartbeats 4000000 in
theorem g_X9_laysBack (l : Launch) (G : GS) (im : IM) (bt rt : Nat) (lm : IM) (hR : RI im) : Cn l (XR G) yX9_laysBack Y_X9_laysBack [vR 30 0] (im, rs bt rt, lm) (pV fun m' => m' = (backI im, rs bt rt, lm)) := by
  refine cn_of (by decide) (okR G) rfl (Nat.le_of_ble_eq_true rfl) ?_
  intro M ad hMl F
  subst hMl
  refine wp_pad 1 ?_
  show Wp M (XR G) ad Y_X9_laysBack (pV fun m' => m' = (backI im, rs bt rt, lm)) 0 [some (vR 30 0), none] [] (im, rs bt rt, lm)
  refine q_iconst (t := 1) F dX9_laysBack_0 rfl ?_
  refine q_istore_n (t := 2) F dX9_laysBack_1 rfl (by decide) rfl rfl ?_
  have L2 : ∀ (fz : Nat) (n : Nat), 50 - n < fz → n ≤ 50 → Wp M (XR G) ad Y_X9_laysBack (pV fun m' => m' = (backI im, rs bt rt, lm)) 2 [some (vR 30 0), some (vI (n : Int))] [] (cp2 im 36 40 37 41 n, rs bt rt, lm) := by
    intro fz
    induction fz with
    | zero => intro n h; exact absurd h (Nat.not_lt_zero _)
    | succ fz ih =>
      have ih2 := ih
      intro n hmeas hn
      have c40 : cp2 im 36 40 37 41 n 40 0 n = im 40 0 n := rfl
      have c41 : cp2 im 36 40 37 41 n 41 0 n = im 41 0 n := rfl
      have c9 : cp2 im 36 40 37 41 n 30 0 9 = im 30 0 9 := rfl
      have c39 : cp2 im 36 40 37 41 n 30 0 39 = im 30 0 39 := rfl
      have c38 : cp2 im 36 40 37 41 n 30 0 38 = im 30 0 38 := rfl
      refine q_iload_n (t := 3) F dX9_laysBack_2 rfl rfl rfl ?_
      refine q_bipush (t := 5) F dX9_laysBack_3 (by decide) rfl ?_
      refine q_icmp_ge (t := 8) (u := 38) F dX9_laysBack_5 (by constructor <;> omega) (by constructor <;> omega) (by decide) rfl (fun c5 => ?_) (fun c5 => ?_)
      · refine q_aload_n (t := 39) F dX9_laysBack_38 rfl rfl rfl ?_
        refine q_aload_n (t := 40) F dX9_laysBack_39 rfl rfl rfl ?_
        refine g_X9_385 (t := 43) F dX9_laysBack_40 rfl rfl ?_
        rw [c9]
        refine q_aload_n (t := 44) F dX9_laysBack_43 rfl rfl rfl ?_
        refine g_X9_398 (t := 47) F dX9_laysBack_44 rfl rfl ?_
        rw [c39]
        refine q_isub (t := 48) F dX9_laysBack_47 rfl ?_
        refine q_norm ?_
        refine p_X9_401 (t := 51) F dX9_laysBack_48 rfl rfl ?_
        refine q_aload_n (t := 52) F dX9_laysBack_51 rfl rfl rfl ?_
        refine q_aload_n (t := 53) F dX9_laysBack_52 rfl rfl rfl ?_
        refine g_X9_395 (t := 56) F dX9_laysBack_53 rfl rfl ?_
        try simp only [up_app, row_app, scr_app, cpy_app, Nat.reduceEqDiff, Int.reduceToNat, Int.toNat_natCast, and_true, true_and, and_false, false_and, and_self, reduceIte]
        rw [c38]
        refine p_X9_117 (t := 59) F dX9_laysBack_56 rfl rfl ?_
        refine q_aload_n (t := 60) F dX9_laysBack_59 rfl rfl rfl ?_
        refine q_aload_n (t := 61) F dX9_laysBack_60 rfl rfl rfl ?_
        refine g_X9_398 (t := 64) F dX9_laysBack_61 rfl rfl ?_
        try simp only [up_app, row_app, scr_app, cpy_app, Nat.reduceEqDiff, Int.reduceToNat, Int.toNat_natCast, and_true, true_and, and_false, false_and, and_self, reduceIte]
        rw [c39]
        refine p_X9_385 (t := 67) F dX9_laysBack_64 rfl rfl ?_
        refine q_vret F dX9_laysBack_67 rfl ?_
        obtain rfl : n = 50 := by omega
        exact ⟨rfl, rfl⟩
      · refine q_aload_n (t := 9) F dX9_laysBack_8 rfl rfl rfl ?_
        refine g_X9_32 (t := 12) F dX9_laysBack_9 rfl rfl ?_
        refine q_iload_n (t := 13) F dX9_laysBack_12 rfl rfl rfl ?_
        refine q_aload_n (t := 14) F dX9_laysBack_13 rfl rfl rfl ?_
        refine g_X9_44 (t := 17) F dX9_laysBack_14 rfl rfl ?_
        refine q_iload_n (t := 18) F dX9_laysBack_17 rfl rfl rfl ?_
        first | refine ldN_40 (t := 19) F dX9_laysBack_18 (by omega) rfl ?_ | refine ld_40 (t := 19) F dX9_laysBack_18 (by omega) (by omega) rfl ?_
        rw [c40]
        first | refine stN_36 (t := 20) F dX9_laysBack_19 (by omega) rfl ?_ | refine st_36 (t := 20) F dX9_laysBack_19 (by omega) (by omega) rfl ?_
        refine q_aload_n (t := 21) F dX9_laysBack_20 rfl rfl rfl ?_
        refine g_X9_35 (t := 24) F dX9_laysBack_21 rfl rfl ?_
        refine q_iload_n (t := 25) F dX9_laysBack_24 rfl rfl rfl ?_
        refine q_aload_n (t := 26) F dX9_laysBack_25 rfl rfl rfl ?_
        refine g_X9_47 (t := 29) F dX9_laysBack_26 rfl rfl ?_
        refine q_iload_n (t := 30) F dX9_laysBack_29 rfl rfl rfl ?_
        first | refine ldN_41 (t := 31) F dX9_laysBack_30 (by omega) rfl ?_ | refine ld_41 (t := 31) F dX9_laysBack_30 (by omega) (by omega) rfl ?_
        try simp only [up_app, row_app, scr_app, cpy_app, Nat.reduceEqDiff, Int.reduceToNat, Int.toNat_natCast, and_true, true_and, and_false, false_and, and_self, reduceIte]
        rw [c41]
        first | refine stN_37 (t := 32) F dX9_laysBack_31 (by omega) rfl ?_ | refine st_37 (t := 32) F dX9_laysBack_31 (by omega) (by omega) rfl ?_
        refine q_iinc (t := 35) F dX9_laysBack_32 rfl (by decide) rfl rfl ?_
        refine q_goto (t := 2) F dX9_laysBack_35 (by decide) ?_
        rw [show (n : Int) + 1 = ((n + 1 : Nat) : Int) by omega, cp2_s im n (by omega)]
        exact ih2 (n + 1) (by omega) (by omega)
  have L0 := L2 _ 0 (Nat.lt_succ_self _) (Nat.zero_le _)
  rw [cp2_0] at L0
  exact L0

/-- what RC looks at -/
def agC (a b : IM) : Prop := (∀ k s, 31 ≤ k → k ≤ 37 → a k 0 s = b k 0 s) ∧ a 30 0 3 = b 30 0 3 ∧ a 30 0 4 = b 30 0 4 ∧ a 30 0 6 = b 30 0 6 ∧ a 30 0 8 = b 30 0 8 ∧ a 30 0 12 = b 30 0 12
theorem RC.C {a b : IM} (h : RC b) (hR : RI a) (hc : agC a b) (h7 : 0 ≤ a 30 0 7 ∧ a 30 0 7 ≤ 1100) : RC a := by
  obtain ⟨-, hX, h4, h12, -, h8, hP⟩ := h
  obtain ⟨c, e3, e4, e6, e8, e12⟩ := hc
  refine ⟨hR, hX.same (fun s => c 31 s (by omega) (by omega)) (fun s => c 32 s (by omega) (by omega)) (fun s => c 33 s (by omega) (by omega)) e3 e6, by rw [e4, e3]; exact h4, by rw [e12]; exact h12, h7, by rw [e8]; exact h8, fun p hp => ?_⟩
  rw [e12] at hp
  have hp0 := hP p hp
  unfold RP at hp0 ⊢
  rw [c 34 p (by omega) (by omega), c 35 p (by omega) (by omega)]
  refine ⟨hp0.1, hp0.2.1, fun g hg => ?_⟩
  rw [c 36 _ (by omega) (by omega), c 37 _ (by omega) (by omega)]
  exact hp0.2.2 g hg
theorem AG.C {a b : IM} {x : Int} (h : AG b x) (hc : agC a b) : AG a x := by
  intro q hq hne
  obtain ⟨c, e3, e4, e6, e8, e12⟩ := hc
  rw [e12] at hq
  rw [c 36 _ (by omega) (by omega)] at hne
  rw [c 37 _ (by omega) (by omega)]
  exact h q hq hne
theorem bgI_C (im : IM) (n : Nat) : agC (bgI im n) im := ⟨fun k s h1 h2 => bgI_c n (by omega) (by omega), bgI_c n (by omega) (by omega), bgI_c n (by omega) (by omega), bgI_c n (by omega) (by omega), bgI_c n (by omega) (by omega), bgI_c n (by omega) (by omega)⟩
theorem AG.mono {im : IM} {x y : Int} (h : AG im x) (hxy : x ≤ y) : AG im y := fun q hq hn => Int.le_trans (h q hq hn) hxy

set_option maxHeartbeats 4000000 in
theorem c_X9_live (l : Launch) (G : GS) (im : IM) (bt rt : Nat) (lm : IM) (h : RC im) (hA : AG im 1000) : Cn l (XR G) yX9_live Y_X9_live [vR 30 0] (im, rs bt rt, lm) (pI fun x m' => (im 30 0 7 = 999 → x = -3 ∧ m' = (im, rs bt rt, lm)) ∧ (im 30 0 7 ≠ 999 → ∃ im' lm', x = cnI (bgI im 50) (10 * im 30 0 12).toNat ∧ RI im' ∧ agY im' (up (lvN (bgI im 50) 0 (10 * im 30 0 12).toNat) 30 0 7 (im 30 0 7 + 1)) ∧ lgQ lm' lm ∧ m' = (im', rs bt rt, lm'))) := by
  refine cn_of (by decide) (okR G) rfl (Nat.le_of_ble_eq_true rfl) ?_
  intro M ad hMl F
  subst hMl
  have hR := h.1
  have hRb := bgI_RI hR 50
  have hRCb : RC (bgI im 50) := h.C hRb (bgI_C im 50) h.2.2.2.2.1
  have hAb : AG (bgI im 50) 1000 := hA.C (bgI_C im 50)
  have b12 : bgI im 50 30 0 12 = im 30 0 12 := rfl
  have b7 : bgI im 50 30 0 7 = im 30 0 7 := rfl
  refine wp_pad 0 ?_
  show Wp M (XR G) ad Y_X9_live (pI fun x m' => (im 30 0 7 = 999 → x = -3 ∧ m' = (im, rs bt rt, lm)) ∧ (im 30 0 7 ≠ 999 → ∃ im' lm', x = cnI (bgI im 50) (10 * im 30 0 12).toNat ∧ RI im' ∧ agY im' (up (lvN (bgI im 50) 0 (10 * im 30 0 12).toNat) 30 0 7 (im 30 0 7 + 1)) ∧ lgQ lm' lm ∧ m' = (im', rs bt rt, lm'))) 0 [some (vR 30 0)] [] (im, rs bt rt, lm)
  refine q_aload_n (t := 1) F dX9_live_0 rfl rfl rfl ?_
  refine g_X9_117 (t := 4) F dX9_live_1 rfl rfl ?_
  refine q_sipush (t := 7) F dX9_live_4 (by decide) rfl ?_
  refine q_icmp_ne (t := 10) (u := 13) F dX9_live_7 (by exact hR _ _ _) (by constructor <;> omega) (by decide) rfl (fun c7 => ?_) (fun c7 => ?_)
  · refine q_aload_n (t := 14) F dX9_live_13 rfl rfl rfl ?_
    refine wp_callV (t := 17) [] F dX9_live_14 k_X9_begins v_X9_begins ml_X9_388 rfl rfl rfl rfl (Nat.le_of_ble_eq_true rfl) (by decide) (m_30 (by omega)) (g_X9_begins _ G im bt rt lm hR) rfl (kV ?_)
    rintro m' rfl
    refine q_aload_n (t := 18) F dX9_live_17 rfl rfl rfl ?_
    refine q_iconst (t := 19) F dX9_live_18 rfl ?_
    refine wp_callV (t := 22) [_] F dX9_live_19 k_X9_lives v_X9_lives ml_X9_391 rfl rfl rfl rfl (Nat.le_of_ble_eq_true rfl) (by decide) (m_30 (by omega)) (c_X9_lives _ G (bgI im 50) bt rt lm hRCb hAb 0 (by constructor <;> omega) (by omega)) rfl (kV ?_)
    rintro m' ⟨im2, lm2, hR2, hag2, hlg2, rfl⟩
    have hL := LV_N (bgI im 50) (t := 0) (by omega) (10 * im 30 0 12).toNat
    refine q_aload_n (t := 23) F dX9_live_22 rfl rfl rfl ?_
    refine g_X9_370 (t := 26) F dX9_live_23 rfl rfl ?_
    try simp only [up_app, row_app, scr_app, cpy_app, Nat.reduceEqDiff, Int.reduceToNat, Int.toNat_natCast, and_true, true_and, and_false, false_and, and_self, reduceIte]
    refine q_iret F dX9_live_26 rfl ?_
    first
      | exact ⟨_, rfl, fun _ => ⟨rfl, rfl⟩, fun z => absurd (by omega) z⟩
      | (refine ⟨_, rfl, fun z => absurd z (by omega), fun _ => ⟨im2, lm2, ?_, hR2, hag2, hlg2, rfl⟩⟩
         rw [hag2 30 0 30 (by omega), up_app, if_neg (by omega)]
         exact hL.2.2.2.2.1)
  · refine q_bipush (t := 12) F dX9_live_10 (by decide) rfl ?_
    refine q_iret F dX9_live_12 rfl ?_
    first
      | exact ⟨_, rfl, fun _ => ⟨rfl, rfl⟩, fun z => absurd (by omega) z⟩
      | (refine ⟨_, rfl, fun z => absurd z (by omega), fun _ => ⟨im2, lm2, ?_, hR2, hag2, hlg2, rfl⟩⟩
         rw [hag2 30 0 30 (by omega), up_app, if_neg (by omega)]
         exact hL.2.2.2.2.1)
