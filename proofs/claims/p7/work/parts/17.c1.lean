/-! Kind -/
theorem underK_s (b : Int) (n : Nat) (k : Int) : underK b (n + 1) k = if k = -1 then 0 else if k = b then 1 else underK b n (aboveK k) := rfl
theorem cntW_n {f : Nat → Int} {i : Nat} (h : f i ≠ -1) : cntW f (i + 1) = cntW f i + 1 := by
  show cntW f i + _ = _
  rw [if_neg h]
theorem cntW_p {f : Nat → Int} {i : Nat} (h : f i = -1) : cntW f (i + 1) = cntW f i := by
  show cntW f i + _ = _
  rw [if_pos h, Int.add_zero]

set_option maxHeartbeats 4000000 in
theorem c_X2_takes (l : Launch) (G : GS) (im : IM) (bt rt : Nat) (lm : IM) (k : Int) (v : Int) (k0 : 0 ≤ k) (k1 : k < 6) (v0 : 0 ≤ v) (v1 : v ≤ 99) : Cn l (XC G) yX2_takes Y_X2_takes [vI k, vI v] (im, rs bt rt, lm) (pI fun x m' => x = takesK k v ∧ m' = (im, rs bt rt, lm)) := by
  refine cn_of (by decide) (okC G) rfl (Nat.le_of_ble_eq_true rfl) ?_
  intro M ad hMl F
  subst hMl
  refine wp_pad 0 ?_
  show Wp M (XC G) ad Y_X2_takes (pI fun x m' => x = takesK k v ∧ m' = (im, rs bt rt, lm)) 0 [some (vI k), some (vI v)] [] (im, rs bt rt, lm)
  refine q_iload_n (t := 1) F dX2_takes_0 rfl rfl rfl ?_
  have sw1 : k < 1 ∨ 5 < k ∨ k = 1 ∨ k = 2 ∨ k = 3 ∨ k = 4 ∨ k = 5 := by omega
  rcases sw1 with c1 | c1 | c1 | c1 | c1 | c1 | c1
  · refine q_tableOut (t := 73) F dX2_takes_1 (by first | exact hR _ _ _ | (constructor <;> omega)) (Or.inl c1) (by decide) ?_
    refine q_iload_n (t := 74) F dX2_takes_73 rfl rfl rfl ?_
    refine q_bipush (t := 76) F dX2_takes_74 (by decide) rfl ?_
    refine q_irem (t := 77) F dX2_takes_76 (by first | exact hR _ _ _ | (constructor <;> omega)) (by first | exact hR _ _ _ | (constructor <;> omega)) (by omega) (by omega) rfl ?_
    refine q_iret F dX2_takes_77 rfl ?_
    exact ⟨_, rfl, by unfold takesK; (repeat' split) <;> omega, rfl⟩
  · refine q_tableOut (t := 73) F dX2_takes_1 (by first | exact hR _ _ _ | (constructor <;> omega)) (Or.inr c1) (by decide) ?_
    refine q_iload_n (t := 74) F dX2_takes_73 rfl rfl rfl ?_
    refine q_bipush (t := 76) F dX2_takes_74 (by decide) rfl ?_
    refine q_irem (t := 77) F dX2_takes_76 (by first | exact hR _ _ _ | (constructor <;> omega)) (by first | exact hR _ _ _ | (constructor <;> omega)) (by omega) (by omega) rfl ?_
    refine q_iret F dX2_takes_77 rfl ?_
    exact ⟨_, rfl, by unfold takesK; (repeat' split) <;> omega, rfl⟩
  · refine q_tableIn (t := 36) F dX2_takes_1 (by first | exact hR _ _ _ | (constructor <;> omega)) (by omega) (by omega) (by rw [c1]; rfl) (by decide) ?_
    refine q_iload_n (t := 37) F dX2_takes_36 rfl rfl rfl ?_
    refine q_bipush (t := 39) F dX2_takes_37 (by decide) rfl ?_
    refine q_irem (t := 40) F dX2_takes_39 (by first | exact hR _ _ _ | (constructor <;> omega)) (by first | exact hR _ _ _ | (constructor <;> omega)) (by omega) (by omega) rfl ?_
    refine q_iconst (t := 41) F dX2_takes_40 rfl ?_
    refine q_idiv (t := 42) F dX2_takes_41 (by first | exact hR _ _ _ | (constructor <;> omega)) (by first | exact hR _ _ _ | (constructor <;> omega)) (by omega) (by omega) rfl ?_
    refine q_iret F dX2_takes_42 rfl ?_
    exact ⟨_, rfl, by unfold takesK; (repeat' split) <;> omega, rfl⟩
  · refine q_tableIn (t := 73) F dX2_takes_1 (by first | exact hR _ _ _ | (constructor <;> omega)) (by omega) (by omega) (by rw [c1]; rfl) (by decide) ?_
    refine q_iload_n (t := 74) F dX2_takes_73 rfl rfl rfl ?_
    refine q_bipush (t := 76) F dX2_takes_74 (by decide) rfl ?_
    refine q_irem (t := 77) F dX2_takes_76 (by first | exact hR _ _ _ | (constructor <;> omega)) (by first | exact hR _ _ _ | (constructor <;> omega)) (by omega) (by omega) rfl ?_
    refine q_iret F dX2_takes_77 rfl ?_
    exact ⟨_, rfl, by unfold takesK; (repeat' split) <;> omega, rfl⟩
  · refine q_tableIn (t := 43) F dX2_takes_1 (by first | exact hR _ _ _ | (constructor <;> omega)) (by omega) (by omega) (by rw [c1]; rfl) (by decide) ?_
    refine q_iload_n (t := 44) F dX2_takes_43 rfl rfl rfl ?_
    refine q_iconst (t := 45) F dX2_takes_44 rfl ?_
    refine q_irem (t := 46) F dX2_takes_45 (by first | exact hR _ _ _ | (constructor <;> omega)) (by first | exact hR _ _ _ | (constructor <;> omega)) (by omega) (by omega) rfl ?_
    refine q_if_eq (t := 49) (u := 53) F dX2_takes_46 (by first | exact hR _ _ _ | (constructor <;> omega)) (by decide) rfl (fun c46 => ?_) (fun c46 => ?_)
    · refine q_iload_n (t := 54) F dX2_takes_53 rfl rfl rfl ?_
      refine q_bipush (t := 56) F dX2_takes_54 (by decide) rfl ?_
      refine q_irem (t := 57) F dX2_takes_56 (by first | exact hR _ _ _ | (constructor <;> omega)) (by first | exact hR _ _ _ | (constructor <;> omega)) (by omega) (by omega) rfl ?_
      refine q_iconst (t := 58) F dX2_takes_57 rfl ?_
      refine q_idiv (t := 59) F dX2_takes_58 (by first | exact hR _ _ _ | (constructor <;> omega)) (by first | exact hR _ _ _ | (constructor <;> omega)) (by omega) (by omega) rfl ?_
      refine q_iret F dX2_takes_59 rfl ?_
      exact ⟨_, rfl, by unfold takesK; (repeat' split) <;> omega, rfl⟩
    · refine q_iconst (t := 50) F dX2_takes_49 rfl ?_
      refine q_goto (t := 59) F dX2_takes_50 (by decide) ?_
      refine q_iret F dX2_takes_59 rfl ?_
      exact ⟨_, rfl, by unfold takesK; (repeat' split) <;> omega, rfl⟩
  · refine q_tableIn (t := 60) F dX2_takes_1 (by first | exact hR _ _ _ | (constructor <;> omega)) (by omega) (by omega) (by rw [c1]; rfl) (by decide) ?_
    refine q_bipush (t := 62) F dX2_takes_60 (by decide) rfl ?_
    refine q_iload_n (t := 63) F dX2_takes_62 rfl rfl rfl ?_
    refine q_bipush (t := 65) F dX2_takes_63 (by decide) rfl ?_
    refine q_irem (t := 66) F dX2_takes_65 (by first | exact hR _ _ _ | (constructor <;> omega)) (by first | exact hR _ _ _ | (constructor <;> omega)) (by omega) (by omega) rfl ?_
    refine q_isub (t := 67) F dX2_takes_66 rfl ?_
    refine q_iret F dX2_takes_67 rfl ?_
    exact ⟨_, rfl, by unfold takesK; (repeat' split) <;> omega, rfl⟩
  · refine q_tableIn (t := 68) F dX2_takes_1 (by first | exact hR _ _ _ | (constructor <;> omega)) (by omega) (by omega) (by rw [c1]; rfl) (by decide) ?_
    refine q_iload_n (t := 69) F dX2_takes_68 rfl rfl rfl ?_
    refine q_bipush (t := 71) F dX2_takes_69 (by decide) rfl ?_
    refine q_idiv (t := 72) F dX2_takes_71 (by first | exact hR _ _ _ | (constructor <;> omega)) (by first | exact hR _ _ _ | (constructor <;> omega)) (by omega) (by omega) rfl ?_
    refine q_iret F dX2_takes_72 rfl ?_
    exact ⟨_, rfl, by unfold takesK; (repeat' split) <;> omega, rfl⟩

set_option maxHeartbeats 4000000 in
theorem c_X2_heldFor (l : Launch) (G : GS) (im : IM) (bt rt : Nat) (lm : IM) (k : Int) (n : Int) (v : Int) (k0 : 0 ≤ k) (k1 : k < 6) (n0 : 0 ≤ n) (n1 : n < 10) (v0 : 0 ≤ v) (v1 : v ≤ 99) : Cn l (XC G) yX2_heldFor Y_X2_heldFor [vI k, vI n, vI v] (im, rs bt rt, lm) (pI fun x m' => x = heldK k n v ∧ m' = (im, rs bt rt, lm)) := by
  refine cn_of (by decide) (okC G) rfl (Nat.le_of_ble_eq_true rfl) ?_
  intro M ad hMl F
  subst hMl
  refine wp_pad 0 ?_
  show Wp M (XC G) ad Y_X2_heldFor (pI fun x m' => x = heldK k n v ∧ m' = (im, rs bt rt, lm)) 0 [some (vI k), some (vI n), some (vI v)] [] (im, rs bt rt, lm)
  refine q_iload_n (t := 1) F dX2_heldFor_0 rfl rfl rfl ?_
  have sw1 : k < 1 ∨ 5 < k ∨ k = 1 ∨ k = 2 ∨ k = 3 ∨ k = 4 ∨ k = 5 := by omega
  rcases sw1 with c1 | c1 | c1 | c1 | c1 | c1 | c1
  · refine q_tableOut (t := 61) F dX2_heldFor_1 (by first | exact hR _ _ _ | (constructor <;> omega)) (Or.inl c1) (by decide) ?_
    refine q_iload_n (t := 62) F dX2_heldFor_61 rfl rfl rfl ?_
    refine q_iret F dX2_heldFor_62 rfl ?_
    exact ⟨_, rfl, by unfold heldK; (repeat' split) <;> omega, rfl⟩
  · refine q_tableOut (t := 61) F dX2_heldFor_1 (by first | exact hR _ _ _ | (constructor <;> omega)) (Or.inr c1) (by decide) ?_
    refine q_iload_n (t := 62) F dX2_heldFor_61 rfl rfl rfl ?_
    refine q_iret F dX2_heldFor_62 rfl ?_
    exact ⟨_, rfl, by unfold heldK; (repeat' split) <;> omega, rfl⟩
  · refine q_tableIn (t := 36) F dX2_heldFor_1 (by first | exact hR _ _ _ | (constructor <;> omega)) (by omega) (by omega) (by rw [c1]; rfl) (by decide) ?_
    refine q_iload_n (t := 37) F dX2_heldFor_36 rfl rfl rfl ?_
    refine q_iload_n (t := 38) F dX2_heldFor_37 rfl rfl rfl ?_
    refine q_iadd (t := 39) F dX2_heldFor_38 rfl ?_
    refine q_iret F dX2_heldFor_39 rfl ?_
    exact ⟨_, rfl, by unfold heldK; (repeat' split) <;> omega, rfl⟩
  · refine q_tableIn (t := 40) F dX2_heldFor_1 (by first | exact hR _ _ _ | (constructor <;> omega)) (by omega) (by omega) (by rw [c1]; rfl) (by decide) ?_
    refine q_iload_n (t := 41) F dX2_heldFor_40 rfl rfl rfl ?_
    refine q_iconst (t := 42) F dX2_heldFor_41 rfl ?_
    refine q_idiv (t := 43) F dX2_heldFor_42 (by first | exact hR _ _ _ | (constructor <;> omega)) (by first | exact hR _ _ _ | (constructor <;> omega)) (by omega) (by omega) rfl ?_
    refine q_iret F dX2_heldFor_43 rfl ?_
    exact ⟨_, rfl, by unfold heldK; (repeat' split) <;> omega, rfl⟩
  · refine q_tableIn (t := 44) F dX2_heldFor_1 (by first | exact hR _ _ _ | (constructor <;> omega)) (by omega) (by omega) (by rw [c1]; rfl) (by decide) ?_
    refine q_iload_n (t := 45) F dX2_heldFor_44 rfl rfl rfl ?_
    refine q_iload_n (t := 46) F dX2_heldFor_45 rfl rfl rfl ?_
    refine q_iadd (t := 47) F dX2_heldFor_46 rfl ?_
    refine q_iconst (t := 48) F dX2_heldFor_47 rfl ?_
    refine q_isub (t := 49) F dX2_heldFor_48 rfl ?_
    refine q_iret F dX2_heldFor_49 rfl ?_
    exact ⟨_, rfl, by unfold heldK; (repeat' split) <;> omega, rfl⟩
  · refine q_tableIn (t := 50) F dX2_heldFor_1 (by first | exact hR _ _ _ | (constructor <;> omega)) (by omega) (by omega) (by rw [c1]; rfl) (by decide) ?_
    refine q_iload_n (t := 51) F dX2_heldFor_50 rfl rfl rfl ?_
    refine q_iconst (t := 52) F dX2_heldFor_51 rfl ?_
    refine q_idiv (t := 53) F dX2_heldFor_52 (by first | exact hR _ _ _ | (constructor <;> omega)) (by first | exact hR _ _ _ | (constructor <;> omega)) (by omega) (by omega) rfl ?_
    refine q_iret F dX2_heldFor_53 rfl ?_
    exact ⟨_, rfl, by unfold heldK; (repeat' split) <;> omega, rfl⟩
  · refine q_tableIn (t := 54) F dX2_heldFor_1 (by first | exact hR _ _ _ | (constructor <;> omega)) (by omega) (by omega) (by rw [c1]; rfl) (by decide) ?_
    refine q_iload_n (t := 55) F dX2_heldFor_54 rfl rfl rfl ?_
    refine q_bipush (t := 57) F dX2_heldFor_55 (by decide) rfl ?_
    refine wp_min (t := 60) F dX2_heldFor_57 ml_X2_21 st_J9_min_7cf53 in_J9 cd_J9_min_7cf53 (Nat.le_of_ble_eq_true rfl) (by decide) (by first | exact hR _ _ _ | (constructor <;> omega)) (by first | exact hR _ _ _ | (constructor <;> omega)) rfl ?_
    refine q_iret F dX2_heldFor_60 rfl ?_
    exact ⟨_, rfl, by unfold heldK; (repeat' split) <;> omega, rfl⟩

theorem heldK_in {k n v : Int} (n0 : 0 ≤ n) (n1 : n < 10) (v0 : 0 ≤ v) (v1 : v ≤ 99) : -3 ≤ heldK k n v ∧ heldK k n v ≤ 108 := by
  unfold heldK
  repeat' split
  all_goals omega
theorem holdsK_in {k n v : Int} (n0 : 0 ≤ n) (n1 : n < 10) (v0 : 0 ≤ v) (v1 : v ≤ 99) : 1 ≤ holdsK k n v ∧ holdsK k n v ≤ 108 := by
  have := heldK_in (k := k) n0 n1 v0 v1
  unfold holdsK
  split <;> omega
theorem bearsK_in {k n v c : Int} (n0 : 0 ≤ n) (n1 : n < 10) (v0 : 0 ≤ v) (v1 : v ≤ 99) : 0 ≤ bearsK k n v c ∧ bearsK k n v c ≤ 700 := by
  unfold bearsK
  repeat' split
  all_goals omega
theorem takesK_in {k v : Int} (v0 : 0 ≤ v) (v1 : v ≤ 99) : -1 ≤ takesK k v ∧ takesK k v ≤ 9 := by
  unfold takesK
  repeat' split
  all_goals omega

set_option maxHeartbeats 4000000 in
theorem c_X2_holds (l : Launch) (G : GS) (im : IM) (bt rt : Nat) (lm : IM) (k n v : Int) (k0 : 0 ≤ k) (k1 : k < 6) (n0 : 0 ≤ n) (n1 : n < 10) (v0 : 0 ≤ v) (v1 : v ≤ 99) : Cn l (XC G) yX2_holds Y_X2_holds [vI k, vI n, vI v] (im, rs bt rt, lm) (pI fun x m' => x = holdsK k n v ∧ m' = (im, rs bt rt, lm)) := by
  refine cn_of (by decide) (okC G) rfl (Nat.le_of_ble_eq_true rfl) ?_
  intro M ad hMl F
  subst hMl
  refine wp_pad 0 ?_
  show Wp M (XC G) ad Y_X2_holds (pI fun x m' => x = holdsK k n v ∧ m' = (im, rs bt rt, lm)) 0 [some (vI k), some (vI n), some (vI v)] [] (im, rs bt rt, lm)
  refine q_iconst (t := 1) F dX2_holds_0 rfl ?_
  refine q_iload_n (t := 2) F dX2_holds_1 rfl rfl rfl ?_
  refine q_iload_n (t := 3) F dX2_holds_2 rfl rfl rfl ?_
  refine q_iload_n (t := 4) F dX2_holds_3 rfl rfl rfl ?_
  refine wp_callS (t := 7) [_, _, _] F dX2_holds_4 k_X2_heldFor st_X2_heldFor ml_X2_9 rfl rfl (Nat.le_of_ble_eq_true rfl) (by decide) (c_X2_heldFor _ G im bt rt lm k n v k0 k1 n0 n1 v0 v1) rfl (kI ?_)
  rintro y m' ⟨rfl, rfl⟩
  have hh := heldK_in (k := k) n0 n1 v0 v1
  refine wp_max (t := 10) F dX2_holds_7 ml_X2_15 st_J9_max_7cf53 in_J9 cd_J9_max_7cf53 (Nat.le_of_ble_eq_true rfl) (by decide) (by first | exact hR _ _ _ | (constructor <;> omega)) (by first | exact hR _ _ _ | (constructor <;> omega)) rfl ?_
  refine q_iret F dX2_holds_10 rfl ?_
  exact ⟨_, rfl, rfl, rfl⟩

set_option maxHeartbeats 4000000 in
theorem c_X2_bears (l : Launch) (G : GS) (im : IM) (bt rt : Nat) (lm : IM) (k : Int) (n : Int) (v : Int) (c : Int) (k0 : 0 ≤ k) (k1 : k < 6) (n0 : 0 ≤ n) (n1 : n < 10) (v0 : 0 ≤ v) (v1 : v ≤ 99) (c0 : 0 ≤ c) (c1 : c ≤ 1) : Cn l (XC G) yX2_bears Y_X2_bears [vI k, vI n, vI v, vI c] (im, rs bt rt, lm) (pI fun x m' => x = bearsK k n v c ∧ m' = (im, rs bt rt, lm)) := by
  refine cn_of (by decide) (okC G) rfl (Nat.le_of_ble_eq_true rfl) ?_
  intro M ad hMl F
  subst hMl
  refine wp_pad 1 ?_
  show Wp M (XC G) ad Y_X2_bears (pI fun x m' => x = bearsK k n v c ∧ m' = (im, rs bt rt, lm)) 0 [some (vI k), some (vI n), some (vI v), some (vI c), none] [] (im, rs bt rt, lm)
  refine q_iload_n (t := 1) F dX2_bears_0 rfl rfl rfl ?_
  refine q_if_eq (t := 4) (u := 10) F dX2_bears_1 (by first | exact hR _ _ _ | (constructor <;> omega)) (by decide) rfl (fun c1 => ?_) (fun c1 => ?_)
  · refine q_iload_n (t := 11) F dX2_bears_10 rfl rfl rfl ?_
    refine q_istore (t := 13) F dX2_bears_11 (by decide) rfl rfl ?_
    refine q_iload_n (t := 14) F dX2_bears_13 rfl rfl rfl ?_
    have sw14 : k < 2 ∨ 5 < k ∨ k = 2 ∨ k = 3 ∨ k = 4 ∨ k = 5 := by omega
    rcases sw14 with c14 | c14 | c14 | c14 | c14 | c14
    · refine q_tableOut (t := 69) F dX2_bears_14 (by first | exact hR _ _ _ | (constructor <;> omega)) (Or.inl c14) (by decide) ?_
      refine q_iload (t := 71) F dX2_bears_69 rfl rfl ?_
      refine q_iret F dX2_bears_71 rfl ?_
      exact ⟨_, rfl, by unfold bearsK; (repeat' split) <;> omega, rfl⟩
    · refine q_tableOut (t := 69) F dX2_bears_14 (by first | exact hR _ _ _ | (constructor <;> omega)) (Or.inr c14) (by decide) ?_
      refine q_iload (t := 71) F dX2_bears_69 rfl rfl ?_
      refine q_iret F dX2_bears_71 rfl ?_
      exact ⟨_, rfl, by unfold bearsK; (repeat' split) <;> omega, rfl⟩
    · refine q_tableIn (t := 44) F dX2_bears_14 (by first | exact hR _ _ _ | (constructor <;> omega)) (by omega) (by omega) (by rw [c14]; rfl) (by decide) ?_
      refine q_iload (t := 46) F dX2_bears_44 rfl rfl ?_
      refine q_iload_n (t := 47) F dX2_bears_46 rfl rfl rfl ?_
      refine q_iadd (t := 48) F dX2_bears_47 rfl ?_
      refine q_iret F dX2_bears_48 rfl ?_
      exact ⟨_, rfl, by unfold bearsK; (repeat' split) <;> omega, rfl⟩
    · refine q_tableIn (t := 69) F dX2_bears_14 (by first | exact hR _ _ _ | (constructor <;> omega)) (by omega) (by omega) (by rw [c14]; rfl) (by decide) ?_
      refine q_iload (t := 71) F dX2_bears_69 rfl rfl ?_
      refine q_iret F dX2_bears_71 rfl ?_
      exact ⟨_, rfl, by unfold bearsK; (repeat' split) <;> omega, rfl⟩
    · refine q_tableIn (t := 49) F dX2_bears_14 (by first | exact hR _ _ _ | (constructor <;> omega)) (by omega) (by omega) (by rw [c14]; rfl) (by decide) ?_
      refine q_iload_n (t := 50) F dX2_bears_49 rfl rfl rfl ?_
      refine q_if_eq (t := 53) (u := 62) F dX2_bears_50 (by first | exact hR _ _ _ | (constructor <;> omega)) (by decide) rfl (fun c50 => ?_) (fun c50 => ?_)
      · refine q_iload (t := 64) F dX2_bears_62 rfl rfl ?_
        refine q_iload_n (t := 65) F dX2_bears_64 rfl rfl rfl ?_
        refine q_iadd (t := 66) F dX2_bears_65 rfl ?_
        refine q_iret F dX2_bears_66 rfl ?_
        exact ⟨_, rfl, by unfold bearsK; (repeat' split) <;> omega, rfl⟩
      · refine q_iconst (t := 54) F dX2_bears_53 rfl ?_
        refine q_iload (t := 56) F dX2_bears_54 rfl rfl ?_
        refine q_iload_n (t := 57) F dX2_bears_56 rfl rfl rfl ?_
        refine q_iadd (t := 58) F dX2_bears_57 rfl ?_
        refine q_imul (t := 59) F dX2_bears_58 rfl ?_
        refine q_goto (t := 66) F dX2_bears_59 (by decide) ?_
        refine q_iret F dX2_bears_66 rfl ?_
        exact ⟨_, rfl, by unfold bearsK; (repeat' split) <;> omega, rfl⟩
    · refine q_tableIn (t := 67) F dX2_bears_14 (by first | exact hR _ _ _ | (constructor <;> omega)) (by omega) (by omega) (by rw [c14]; rfl) (by decide) ?_
      refine q_iconst (t := 68) F dX2_bears_67 rfl ?_
      refine q_iret F dX2_bears_68 rfl ?_
      exact ⟨_, rfl, by unfold bearsK; (repeat' split) <;> omega, rfl⟩
  · refine q_iconst (t := 5) F dX2_bears_4 rfl ?_
    refine q_iload_n (t := 6) F dX2_bears_5 rfl rfl rfl ?_
    refine q_imul (t := 7) F dX2_bears_6 rfl ?_
    refine q_goto (t := 11) F dX2_bears_7 (by decide) ?_
    refine q_istore (t := 13) F dX2_bears_11 (by decide) rfl rfl ?_
    refine q_iload_n (t := 14) F dX2_bears_13 rfl rfl rfl ?_
    have sw14 : k < 2 ∨ 5 < k ∨ k = 2 ∨ k = 3 ∨ k = 4 ∨ k = 5 := by omega
    rcases sw14 with c14 | c14 | c14 | c14 | c14 | c14
    · refine q_tableOut (t := 69) F dX2_bears_14 (by first | exact hR _ _ _ | (constructor <;> omega)) (Or.inl c14) (by decide) ?_
      refine q_iload (t := 71) F dX2_bears_69 rfl rfl ?_
      refine q_iret F dX2_bears_71 rfl ?_
      exact ⟨_, rfl, by unfold bearsK; (repeat' split) <;> omega, rfl⟩
    · refine q_tableOut (t := 69) F dX2_bears_14 (by first | exact hR _ _ _ | (constructor <;> omega)) (Or.inr c14) (by decide) ?_
      refine q_iload (t := 71) F dX2_bears_69 rfl rfl ?_
      refine q_iret F dX2_bears_71 rfl ?_
      exact ⟨_, rfl, by unfold bearsK; (repeat' split) <;> omega, rfl⟩
    · refine q_tableIn (t := 44) F dX2_bears_14 (by first | exact hR _ _ _ | (constructor <;> omega)) (by omega) (by omega) (by rw [c14]; rfl) (by decide) ?_
      refine q_iload (t := 46) F dX2_bears_44 rfl rfl ?_
      refine q_iload_n (t := 47) F dX2_bears_46 rfl rfl rfl ?_
      refine q_iadd (t := 48) F dX2_bears_47 rfl ?_
      refine q_iret F dX2_bears_48 rfl ?_
      exact ⟨_, rfl, by unfold bearsK; (repeat' split) <;> omega, rfl⟩
    · refine q_tableIn (t := 69) F dX2_bears_14 (by first | exact hR _ _ _ | (constructor <;> omega)) (by omega) (by omega) (by rw [c14]; rfl) (by decide) ?_
      refine q_iload (t := 71) F dX2_bears_69 rfl rfl ?_
      refine q_iret F dX2_bears_71 rfl ?_
      exact ⟨_, rfl, by unfold bearsK; (repeat' split) <;> omega, rfl⟩
    · refine q_tableIn (t := 49) F dX2_bears_14 (by first | exact hR _ _ _ | (constructor <;> omega)) (by omega) (by omega) (by rw [c14]; rfl) (by decide) ?_
      refine q_iload_n (t := 50) F dX2_bears_49 rfl rfl rfl ?_
      refine q_if_eq (t := 53) (u := 62) F dX2_bears_50 (by first | exact hR _ _ _ | (constructor <;> omega)) (by decide) rfl (fun c50 => ?_) (fun c50 => ?_)
      · refine q_iload (t := 64) F dX2_bears_62 rfl rfl ?_
        refine q_iload_n (t := 65) F dX2_bears_64 rfl rfl rfl ?_
        refine q_iadd (t := 66) F dX2_bears_65 rfl ?_
        refine q_iret F dX2_bears_66 rfl ?_
        exact ⟨_, rfl, by unfold bearsK; (repeat' split) <;> omega, rfl⟩
      · refine q_iconst (t := 54) F dX2_bears_53 rfl ?_
        refine q_iload (t := 56) F dX2_bears_54 rfl rfl ?_
        refine q_iload_n (t := 57) F dX2_bears_56 rfl rfl rfl ?_
        refine q_iadd (t := 58) F dX2_bears_57 rfl ?_
        refine q_imul (t := 59) F dX2_bears_58 rfl ?_
        refine q_goto (t := 66) F dX2_bears_59 (by decide) ?_
        refine q_iret F dX2_bears_66 rfl ?_
        exact ⟨_, rfl, by unfold bearsK; (repeat' split) <;> omega, rfl⟩
    · refine q_tableIn (t := 67) F dX2_bears_14 (by first | exact hR _ _ _ | (constructor <;> omega)) (by omega) (by omega) (by rw [c14]; rfl) (by decide) ?_
      refine q_iconst (t := 68) F dX2_bears_67 rfl ?_
      refine q_iret F dX2_bears_68 rfl ?_
      exact ⟨_, rfl, by unfold bearsK; (repeat' split) <;> omega, rfl⟩

set_option maxHeartbeats 4000000 in
theorem c_X2_above (l : Launch) (G : GS) (im : IM) (bt rt : Nat) (lm : IM) (k : Int) (k0 : -1 ≤ k) (k1 : k < 6) : Cn l (XC G) yX2_above Y_X2_above [vI k] (im, rs bt rt, lm) (pI fun x m' => x = aboveK k ∧ m' = (im, rs bt rt, lm)) := by
  refine cn_of (by decide) (okC G) rfl (Nat.le_of_ble_eq_true rfl) ?_
  intro M ad hMl F
  subst hMl
  refine wp_pad 0 ?_
  show Wp M (XC G) ad Y_X2_above (pI fun x m' => x = aboveK k ∧ m' = (im, rs bt rt, lm)) 0 [some (vI k)] [] (im, rs bt rt, lm)
  refine q_iload_n (t := 1) F dX2_above_0 rfl rfl rfl ?_
  have sw1 : k < 1 ∨ 5 < k ∨ k = 1 ∨ k = 2 ∨ k = 3 ∨ k = 4 ∨ k = 5 := by omega
  rcases sw1 with c1 | c1 | c1 | c1 | c1 | c1 | c1
  · refine q_tableOut (t := 46) F dX2_above_1 (by first | exact hR _ _ _ | (constructor <;> omega)) (Or.inl c1) (by decide) ?_
    refine q_iconst (t := 47) F dX2_above_46 rfl ?_
    refine q_iret F dX2_above_47 rfl ?_
    exact ⟨_, rfl, by unfold aboveK; (repeat' split) <;> omega, rfl⟩
  · refine q_tableOut (t := 46) F dX2_above_1 (by first | exact hR _ _ _ | (constructor <;> omega)) (Or.inr c1) (by decide) ?_
    refine q_iconst (t := 47) F dX2_above_46 rfl ?_
    refine q_iret F dX2_above_47 rfl ?_
    exact ⟨_, rfl, by unfold aboveK; (repeat' split) <;> omega, rfl⟩
  · refine q_tableIn (t := 36) F dX2_above_1 (by first | exact hR _ _ _ | (constructor <;> omega)) (by omega) (by omega) (by rw [c1]; rfl) (by decide) ?_
    refine q_iconst (t := 37) F dX2_above_36 rfl ?_
    refine q_iret F dX2_above_37 rfl ?_
    exact ⟨_, rfl, by unfold aboveK; (repeat' split) <;> omega, rfl⟩
  · refine q_tableIn (t := 38) F dX2_above_1 (by first | exact hR _ _ _ | (constructor <;> omega)) (by omega) (by omega) (by rw [c1]; rfl) (by decide) ?_
    refine q_iconst (t := 39) F dX2_above_38 rfl ?_
    refine q_iret F dX2_above_39 rfl ?_
    exact ⟨_, rfl, by unfold aboveK; (repeat' split) <;> omega, rfl⟩
  · refine q_tableIn (t := 40) F dX2_above_1 (by first | exact hR _ _ _ | (constructor <;> omega)) (by omega) (by omega) (by rw [c1]; rfl) (by decide) ?_
    refine q_iconst (t := 41) F dX2_above_40 rfl ?_
    refine q_iret F dX2_above_41 rfl ?_
    exact ⟨_, rfl, by unfold aboveK; (repeat' split) <;> omega, rfl⟩
  · refine q_tableIn (t := 42) F dX2_above_1 (by first | exact hR _ _ _ | (constructor <;> omega)) (by omega) (by omega) (by rw [c1]; rfl) (by decide) ?_
    refine q_iconst (t := 43) F dX2_above_42 rfl ?_
    refine q_iret F dX2_above_43 rfl ?_
    exact ⟨_, rfl, by unfold aboveK; (repeat' split) <;> omega, rfl⟩
  · refine q_tableIn (t := 44) F dX2_above_1 (by first | exact hR _ _ _ | (constructor <;> omega)) (by omega) (by omega) (by rw [c1]; rfl) (by decide) ?_
    refine q_iconst (t := 45) F dX2_above_44 rfl ?_
    refine q_iret F dX2_above_45 rfl ?_
    exact ⟨_, rfl, by unfold aboveK; (repeat' split) <;> omega, rfl⟩

theorem aboveK_in {k : Int} : -1 ≤ aboveK k ∧ aboveK k < 6 := by
  unfold aboveK
  repeat' split
  all_goals omega

set_option maxHeartbeats 4000000 in
theorem c_X2_isUnder (l : Launch) (G : GS) (im : IM) (bt rt : Nat) (lm : IM) (k b : Int) (k0 : -1 ≤ k) (k1 : k < 6) (b0 : 0 ≤ b) (b1 : b < 6) : Cn l (XC G) yX2_isUnder Y_X2_isUnder [vI k, vI b] (im, rs bt rt, lm) (pI fun x m' => x = underK b 6 k ∧ m' = (im, rs bt rt, lm)) := by
  refine cn_of (by decide) (okC G) rfl (Nat.le_of_ble_eq_true rfl) ?_
  intro M ad hMl F
  subst hMl
  refine wp_pad 2 ?_
  show Wp M (XC G) ad Y_X2_isUnder (pI fun x m' => x = underK b 6 k ∧ m' = (im, rs bt rt, lm)) 0 [some (vI k), some (vI b), none, none] [] (im, rs bt rt, lm)
  refine q_iload_n (t := 1) F dX2_isUnder_0 rfl rfl rfl ?_
  refine q_istore_n (t := 2) F dX2_isUnder_1 rfl (by decide) rfl rfl ?_
  refine q_iconst (t := 3) F dX2_isUnder_2 rfl ?_
  refine q_istore_n (t := 4) F dX2_isUnder_3 rfl (by decide) rfl rfl ?_
  have L4 : ∀ (fz : Nat) (i : Nat) (y : Int), 6 - i < fz → i ≤ 6 → -1 ≤ y → y < 6 → underK b (6 - i) y = underK b 6 k → Wp M (XC G) ad Y_X2_isUnder (pI fun x m' => x = underK b 6 k ∧ m' = (im, rs bt rt, lm)) 4 [some (vI k), some (vI b), some (vI y), some (vI (i : Int))] [] (im, rs bt rt, lm) := by
    intro fz
    induction fz with
    | zero => intro i y h; exact absurd h (Nat.not_lt_zero _)
    | succ fz ih =>
      intro i y hmeas hi y0 y1 hy
      refine q_iload_n (t := 5) F dX2_isUnder_4 rfl rfl rfl ?_
      refine q_bipush (t := 7) F dX2_isUnder_5 (by decide) rfl ?_
      refine q_icmp_ge (t := 10) (u := 33) F dX2_isUnder_7 (by first | exact hR _ _ _ | (constructor <;> omega)) (by first | exact hR _ _ _ | (constructor <;> omega)) (by decide) rfl (fun c7 => ?_) (fun c7 => ?_)
      · refine q_iconst (t := 34) F dX2_isUnder_33 rfl ?_
        refine q_zret F dX2_isUnder_34 rfl (by decide) ?_
        exact ⟨_, rfl, by rw [← hy]; first | (rw [show 6 - i = 0 by omega]; rfl) | (rw [show 6 - i = (5 - i) + 1 by omega]; rw [underK_s, if_pos (by omega)]), rfl⟩
      · refine q_iload_n (t := 11) F dX2_isUnder_10 rfl rfl rfl ?_
        refine q_iconst (t := 12) F dX2_isUnder_11 rfl ?_
        refine q_icmp_eq (t := 15) (u := 33) F dX2_isUnder_12 (by first | exact hR _ _ _ | (constructor <;> omega)) (by first | exact hR _ _ _ | (constructor <;> omega)) (by decide) rfl (fun c12 => ?_) (fun c12 => ?_)
        · refine q_iconst (t := 34) F dX2_isUnder_33 rfl ?_
          refine q_zret F dX2_isUnder_34 rfl (by decide) ?_
          exact ⟨_, rfl, by rw [← hy]; first | (rw [show 6 - i = 0 by omega]; rfl) | (rw [show 6 - i = (5 - i) + 1 by omega]; rw [underK_s, if_pos (by omega)]), rfl⟩
        · refine q_iload_n (t := 16) F dX2_isUnder_15 rfl rfl rfl ?_
          refine q_iload_n (t := 17) F dX2_isUnder_16 rfl rfl rfl ?_
          refine q_icmp_ne (t := 20) (u := 22) F dX2_isUnder_17 (by first | exact hR _ _ _ | (constructor <;> omega)) (by first | exact hR _ _ _ | (constructor <;> omega)) (by decide) rfl (fun c17 => ?_) (fun c17 => ?_)
          · refine q_iload_n (t := 23) F dX2_isUnder_22 rfl rfl rfl ?_
            refine wp_callS (t := 26) [_] F dX2_isUnder_23 k_X2_above st_X2_above ml_X2_24 rfl rfl (Nat.le_of_ble_eq_true rfl) (by decide) (c_X2_above _ G im bt rt lm y y0 y1) rfl (kI ?_)
            rintro z m' ⟨rfl, rfl⟩
            refine q_istore_n (t := 27) F dX2_isUnder_26 rfl (by decide) rfl rfl ?_
            refine q_iinc (t := 30) F dX2_isUnder_27 rfl (by decide) rfl rfl ?_
            refine q_goto (t := 4) F dX2_isUnder_30 (by decide) ?_
            exact ih (i + 1) (aboveK y) (by omega) (by omega) aboveK_in.1 aboveK_in.2 (by rw [← hy]; rw [show 6 - i = (6 - (i + 1)) + 1 by omega]; rw [underK_s, if_neg (by omega), if_neg (by omega)])
          · refine q_iconst (t := 21) F dX2_isUnder_20 rfl ?_
            refine q_zret F dX2_isUnder_21 rfl (by decide) ?_
            exact ⟨_, rfl, by rw [← hy, show 6 - i = (5 - i) + 1 by omega]; rw [underK_s, if_neg (by omega), if_pos (by omega)], rfl⟩
  exact L4 _ 0 k (Nat.lt_succ_self _) (by omega) k0 k1 rfl

/-! Person -/
set_option maxHeartbeats 4000000 in
theorem c_X3_become (l : Launch) (G : GS) (im : IM) (bt rt : Nat) (lm : IM) (p q : Nat) (hp : p < 15) (hq : q < 15) : Cn l (XC G) yX3_become Y_X3_become [vR 21 p, vR 21 q] (im, rs bt rt, lm) (pV fun m' => m' = (cpy (cpy (up (up im 21 p 0 (im 21 q 0)) 21 p 1 (im 21 q 1)) 22 q 0 22 p 0 10) 23 q 0 23 p 0 10, rs bt rt, lm)) := by
  refine cn_of (by decide) (okC G) rfl (Nat.le_of_ble_eq_true rfl) ?_
  intro M ad hMl F
  subst hMl
  refine wp_pad 0 ?_
  show Wp M (XC G) ad Y_X3_become (pV fun m' => m' = (cpy (cpy (up (up im 21 p 0 (im 21 q 0)) 21 p 1 (im 21 q 1)) 22 q 0 22 p 0 10) 23 q 0 23 p 0 10, rs bt rt, lm)) 0 [some (vR 21 p), some (vR 21 q)] [] (im, rs bt rt, lm)
  refine q_aload_n (t := 1) F dX3_become_0 rfl rfl rfl ?_
  refine q_aload_n (t := 2) F dX3_become_1 rfl rfl rfl ?_
  refine g_X3_18 (t := 5) F dX3_become_2 rfl (by omega) rfl ?_
  refine p_X3_18 (t := 8) F dX3_become_5 rfl (by omega) rfl ?_
  refine q_aload_n (t := 9) F dX3_become_8 rfl rfl rfl ?_
  refine q_aload_n (t := 10) F dX3_become_9 rfl rfl rfl ?_
  refine g_X3_22 (t := 13) F dX3_become_10 rfl (by omega) rfl ?_
  try simp only [up_app, row_app, scr_app, cpy_app, Nat.reduceEqDiff, Int.reduceToNat, Int.toNat_natCast, and_true, true_and, and_false, false_and, and_self, reduceIte]
  refine p_X3_22 (t := 16) F dX3_become_13 rfl (by omega) rfl ?_
  refine q_aload_n (t := 17) F dX3_become_16 rfl rfl rfl ?_
  refine g_X3_9 (t := 20) F dX3_become_17 rfl (by omega) rfl ?_
  refine q_iconst (t := 21) F dX3_become_20 rfl ?_
  refine q_aload_n (t := 22) F dX3_become_21 rfl rfl rfl ?_
  refine g_X3_9 (t := 25) F dX3_become_22 rfl (by omega) rfl ?_
  refine q_iconst (t := 26) F dX3_become_25 rfl ?_
  refine q_bipush (t := 28) F dX3_become_26 (by decide) rfl ?_
  refine wp_copy (t := 31) F dX3_become_28 ml_X3_25 nv_J10_arraycopy st_J10_arraycopy in_J10 rfl rfl (by decide) (by decide) (m_22 (by omega)) (m_22 (by omega)) (by omega) (by omega) (by omega) (by omega) (by omega) (Nat.le_of_ble_eq_true rfl) (by decide) rfl ?_
  refine q_aload_n (t := 32) F dX3_become_31 rfl rfl rfl ?_
  refine g_X3_15 (t := 35) F dX3_become_32 rfl (by omega) rfl ?_
  refine q_iconst (t := 36) F dX3_become_35 rfl ?_
  refine q_aload_n (t := 37) F dX3_become_36 rfl rfl rfl ?_
  refine g_X3_15 (t := 40) F dX3_become_37 rfl (by omega) rfl ?_
  refine q_iconst (t := 41) F dX3_become_40 rfl ?_
  refine q_bipush (t := 43) F dX3_become_41 (by decide) rfl ?_
  refine wp_copy (t := 46) F dX3_become_43 ml_X3_25 nv_J10_arraycopy st_J10_arraycopy in_J10 rfl rfl (by decide) (by decide) (m_23 (by omega)) (m_23 (by omega)) (by omega) (by omega) (by omega) (by omega) (by omega) (Nat.le_of_ble_eq_true rfl) (by decide) rfl ?_
  refine q_vret F dX3_become_46 rfl ?_
  exact ⟨rfl, rfl⟩

set_option maxHeartbeats 4000000 in
theorem c_X3_empty (l : Launch) (G : GS) (im : IM) (bt rt : Nat) (lm : IM) (p : Nat) (hp : p < 15) (gap : Nat) (hg : gap < 10) : Cn l (XC G) yX3_empty Y_X3_empty [vR 21 p, vI (gap : Int)] (im, rs bt rt, lm) (pI fun x m' => x = im 22 p gap ∧ m' = (up im 22 p gap (-1), rs bt rt, lm)) := by
  refine cn_of (by decide) (okC G) rfl (Nat.le_of_ble_eq_true rfl) ?_
  intro M ad hMl F
  subst hMl
  refine wp_pad 1 ?_
  show Wp M (XC G) ad Y_X3_empty (pI fun x m' => x = im 22 p gap ∧ m' = (up im 22 p gap (-1), rs bt rt, lm)) 0 [some (vR 21 p), some (vI (gap : Int)), none] [] (im, rs bt rt, lm)
  refine q_aload_n (t := 1) F dX3_empty_0 rfl rfl rfl ?_
  refine g_X3_9 (t := 4) F dX3_empty_1 rfl (by omega) rfl ?_
  refine q_iload_n (t := 5) F dX3_empty_4 rfl rfl rfl ?_
  first | refine ldN_22 (t := 6) F dX3_empty_5 (by omega) (by omega) rfl ?_ | refine ld_22 (t := 6) F dX3_empty_5 (by omega) (by omega) (by omega) rfl ?_
  refine q_istore_n (t := 7) F dX3_empty_6 rfl (by decide) rfl rfl ?_
  refine q_aload_n (t := 8) F dX3_empty_7 rfl rfl rfl ?_
  refine g_X3_9 (t := 11) F dX3_empty_8 rfl (by omega) rfl ?_
  refine q_iload_n (t := 12) F dX3_empty_11 rfl rfl rfl ?_
  refine q_iconst (t := 13) F dX3_empty_12 rfl ?_
  first | refine stN_22 (t := 14) F dX3_empty_13 (by omega) (by omega) rfl ?_ | refine st_22 (t := 14) F dX3_empty_13 (by omega) (by omega) (by omega) rfl ?_
  refine q_iload_n (t := 15) F dX3_empty_14 rfl rfl rfl ?_
  refine q_iret F dX3_empty_15 rfl ?_
  exact ⟨_, rfl, rfl, rfl⟩

set_option maxHeartbeats 4000000 in
theorem c_X3_stuckInAll (l : Launch) (G : GS) (im : IM) (bt rt : Nat) (lm : IM) (p : Nat) (hp : p < 15) (hR : RI im) : Cn l (XC G) yX3_stuckInAll Y_X3_stuckInAll [vR 21 p] (im, rs bt rt, lm) (pI fun x m' => x = cntW (im 22 p) 10 ∧ m' = (im, rs bt rt, lm)) := by
  refine cn_of (by decide) (okC G) rfl (Nat.le_of_ble_eq_true rfl) ?_
  intro M ad hMl F
  subst hMl
  refine wp_pad 2 ?_
  show Wp M (XC G) ad Y_X3_stuckInAll (pI fun x m' => x = cntW (im 22 p) 10 ∧ m' = (im, rs bt rt, lm)) 0 [some (vR 21 p), none, none] [] (im, rs bt rt, lm)
  refine q_iconst (t := 1) F dX3_stuckInAll_0 rfl ?_
  refine q_istore_n (t := 2) F dX3_stuckInAll_1 rfl (by decide) rfl rfl ?_
  refine q_iconst (t := 3) F dX3_stuckInAll_2 rfl ?_
  refine q_istore_n (t := 4) F dX3_stuckInAll_3 rfl (by decide) rfl rfl ?_
  have L4 : ∀ (fz : Nat) (i : Nat), 10 - i < fz → i ≤ 10 → Wp M (XC G) ad Y_X3_stuckInAll (pI fun x m' => x = cntW (im 22 p) 10 ∧ m' = (im, rs bt rt, lm)) 4 [some (vR 21 p), some (vI (cntW (im 22 p) i)), some (vI (i : Int))] [] (im, rs bt rt, lm) := by
    intro fz
    induction fz with
    | zero => intro i h; exact absurd h (Nat.not_lt_zero _)
    | succ fz ih =>
      intro i hmeas hi
      refine q_iload_n (t := 5) F dX3_stuckInAll_4 rfl rfl rfl ?_
      refine q_bipush (t := 7) F dX3_stuckInAll_5 (by decide) rfl ?_
      refine q_icmp_ge (t := 10) (u := 29) F dX3_stuckInAll_7 (by first | exact hR _ _ _ | (constructor <;> omega)) (by first | exact hR _ _ _ | (constructor <;> omega)) (by decide) rfl (fun c7 => ?_) (fun c7 => ?_)
      · refine q_iload_n (t := 30) F dX3_stuckInAll_29 rfl rfl rfl ?_
        refine q_iret F dX3_stuckInAll_30 rfl ?_
        exact ⟨_, rfl, by rw [show i = 10 by omega], rfl⟩
      · refine q_aload_n (t := 11) F dX3_stuckInAll_10 rfl rfl rfl ?_
        refine g_X3_9 (t := 14) F dX3_stuckInAll_11 rfl (by omega) rfl ?_
        refine q_iload_n (t := 15) F dX3_stuckInAll_14 rfl rfl rfl ?_
        first | refine ldN_22 (t := 16) F dX3_stuckInAll_15 (by omega) (by omega) rfl ?_ | refine ld_22 (t := 16) F dX3_stuckInAll_15 (by omega) (by omega) (by omega) rfl ?_
        refine q_iconst (t := 17) F dX3_stuckInAll_16 rfl ?_
        refine q_icmp_eq (t := 20) (u := 23) F dX3_stuckInAll_17 (by first | exact hR _ _ _ | (constructor <;> omega)) (by first | exact hR _ _ _ | (constructor <;> omega)) (by decide) rfl (fun c17 => ?_) (fun c17 => ?_)
        · refine q_iinc (t := 26) F dX3_stuckInAll_23 rfl (by decide) rfl rfl ?_
          refine q_goto (t := 4) F dX3_stuckInAll_26 (by decide) ?_
          first | (rw [← cntW_n c17]; exact ih (i + 1) (by omega) (by omega)) | (rw [← cntW_p c17]; exact ih (i + 1) (by omega) (by omega))
        · refine q_iinc (t := 23) F dX3_stuckInAll_20 rfl (by decide) rfl rfl ?_
          refine q_iinc (t := 26) F dX3_stuckInAll_23 rfl (by decide) rfl rfl ?_
          refine q_goto (t := 4) F dX3_stuckInAll_26 (by decide) ?_
          first | (rw [← cntW_n c17]; exact ih (i + 1) (by omega) (by omega)) | (rw [← cntW_p c17]; exact ih (i + 1) (by omega) (by omega))
  exact L4 _ 0 (Nat.lt_succ_self _) (by omega)

/-! Sheet -/
/-- the first n items 0 -/
def zr (im : IM) (k i n : Nat) : IM := fun k' i' s' => if k' = k ∧ i' = i ∧ s' < n then 0 else im k' i' s'
theorem zr_app (im : IM) (k i n k' i' s' : Nat) : zr im k i n k' i' s' = if k' = k ∧ i' = i ∧ s' < n then 0 else im k' i' s' := rfl
theorem zr_0 (im : IM) (k i : Nat) : zr im k i 0 = im := by
  funext k' i' s'
  rw [zr_app, if_neg (by omega)]
theorem zr_s (im : IM) (k i n : Nat) : up (zr im k i n) k i n 0 = zr im k i (n + 1) := by
  funext k' i' s'
  simp only [up_app, zr_app]
  repeat' split
  all_goals first | rfl | omega
theorem RI_zr {im : IM} {k i n : Nat} (h : RI im) : RI (zr im k i n) := by
  intro k' i' s'
  rw [zr_app]
  split
  · exact ⟨by omega, by omega⟩
  · exact h _ _ _

set_option maxHeartbeats 4000000 in
theorem c_X5_isMissing (l : Launch) (G : GS) (im : IM) (bt rt : Nat) (lm : IM) (j : Nat) (hj : j < 4) (hR : RI im) : Cn l (XC G) yX5_isMissing Y_X5_isMissing [vR 7 j] (im, rs bt rt, lm) (pI fun x m' => x = (if im 7 j 1 = -1 then 1 else 0) ∧ m' = (im, rs bt rt, lm)) := by
  refine cn_of (by decide) (okC G) rfl (Nat.le_of_ble_eq_true rfl) ?_
  intro M ad hMl F
  subst hMl
  refine wp_pad 0 ?_
  show Wp M (XC G) ad Y_X5_isMissing (pI fun x m' => x = (if im 7 j 1 = -1 then 1 else 0) ∧ m' = (im, rs bt rt, lm)) 0 [some (vR 7 j)] [] (im, rs bt rt, lm)
  refine q_aload_n (t := 1) F dX5_isMissing_0 rfl rfl rfl ?_
  refine g_X5_15 (t := 4) F dX5_isMissing_1 rfl (by omega) rfl ?_
  refine q_iconst (t := 5) F dX5_isMissing_4 rfl ?_
  refine q_icmp_ne (t := 8) (u := 12) F dX5_isMissing_5 (by first | exact hR _ _ _ | (constructor <;> omega)) (by first | exact hR _ _ _ | (constructor <;> omega)) (by decide) rfl (fun c5 => ?_) (fun c5 => ?_)
  · refine q_iconst (t := 13) F dX5_isMissing_12 rfl ?_
    refine q_zret F dX5_isMissing_13 rfl (by decide) ?_
    first | exact ⟨_, rfl, by rw [if_pos (by omega)], rfl⟩ | exact ⟨_, rfl, by rw [if_neg (by omega)], rfl⟩
  · refine q_iconst (t := 9) F dX5_isMissing_8 rfl ?_
    refine q_goto (t := 13) F dX5_isMissing_9 (by decide) ?_
    refine q_zret F dX5_isMissing_13 rfl (by decide) ?_
    first | exact ⟨_, rfl, by rw [if_pos (by omega)], rfl⟩ | exact ⟨_, rfl, by rw [if_neg (by omega)], rfl⟩

set_option maxHeartbeats 4000000 in
theorem c_X5_become (l : Launch) (G : GS) (im : IM) (bt rt : Nat) (lm : IM) (j : Nat) (hj : j < 4) (a b : Int) : Cn l (XC G) yX5_become Y_X5_become [vR 7 j, vI a, vI b] (im, rs bt rt, lm) (pV fun m' => m' = (zr (up (up im 7 j 1 a) 7 j 2 b) 8 j 40, rs bt rt, lm)) := by
  refine cn_of (by decide) (okC G) rfl (Nat.le_of_ble_eq_true rfl) ?_
  intro M ad hMl F
  subst hMl
  refine wp_pad 1 ?_
  show Wp M (XC G) ad Y_X5_become (pV fun m' => m' = (zr (up (up im 7 j 1 a) 7 j 2 b) 8 j 40, rs bt rt, lm)) 0 [some (vR 7 j), some (vI a), some (vI b), none] [] (im, rs bt rt, lm)
  refine q_aload_n (t := 1) F dX5_become_0 rfl rfl rfl ?_
  refine q_iload_n (t := 2) F dX5_become_1 rfl rfl rfl ?_
  refine p_X5_15 (t := 5) F dX5_become_2 rfl (by omega) rfl ?_
  refine q_aload_n (t := 6) F dX5_become_5 rfl rfl rfl ?_
  refine q_iload_n (t := 7) F dX5_become_6 rfl rfl rfl ?_
  refine p_X5_19 (t := 10) F dX5_become_7 rfl (by omega) rfl ?_
  refine q_iconst (t := 11) F dX5_become_10 rfl ?_
  refine q_istore_n (t := 12) F dX5_become_11 rfl (by decide) rfl rfl ?_
  have L12 : ∀ (fz : Nat) (i : Nat), 40 - i < fz → i ≤ 40 → Wp M (XC G) ad Y_X5_become (pV fun m' => m' = (zr (up (up im 7 j 1 a) 7 j 2 b) 8 j 40, rs bt rt, lm)) 12 [some (vR 7 j), some (vI a), some (vI b), some (vI (i : Int))] [] (zr (up (up im 7 j 1 a) 7 j 2 b) 8 j i, rs bt rt, lm) := by
    intro fz
    induction fz with
    | zero => intro i h; exact absurd h (Nat.not_lt_zero _)
    | succ fz ih =>
      intro i hmeas hi
      refine q_iload_n (t := 13) F dX5_become_12 rfl rfl rfl ?_
      refine q_bipush (t := 15) F dX5_become_13 (by decide) rfl ?_
      refine q_icmp_ge (t := 18) (u := 31) F dX5_become_15 (by first | exact hR _ _ _ | (constructor <;> omega)) (by first | exact hR _ _ _ | (constructor <;> omega)) (by decide) rfl (fun c15 => ?_) (fun c15 => ?_)
      · refine q_vret F dX5_become_31 rfl ?_
        exact ⟨rfl, by rw [show i = 40 by omega]⟩
      · refine q_aload_n (t := 19) F dX5_become_18 rfl rfl rfl ?_
        refine g_X5_9 (t := 22) F dX5_become_19 rfl (by omega) rfl ?_
        refine q_iload_n (t := 23) F dX5_become_22 rfl rfl rfl ?_
        refine q_iconst (t := 24) F dX5_become_23 rfl ?_
        first | refine stN_8 (t := 25) F dX5_become_24 (by omega) (by omega) rfl ?_ | refine st_8 (t := 25) F dX5_become_24 (by omega) (by omega) (by omega) rfl ?_
        refine q_iinc (t := 28) F dX5_become_25 rfl (by decide) rfl rfl ?_
        refine q_goto (t := 12) F dX5_become_28 (by decide) ?_
        rw [zr_s]
        exact ih (i + 1) (by omega) (by omega)
  have h := L12 _ 0 (Nat.lt_succ_self _) (by omega)
  rw [zr_0] at h
  exact h

/-- what a row of a sort makes of a number -/
def cutN (sort v : Int) : Int := if sort = 0 then v.bmod 256 else if sort = 1 then v.bmod 65536 else v
theorem cutN_ri {t v : Int} (h : ri v) : ri (cutN t v) := by
  have h1 := Int.le_bmod (x := v) (m := 256) (by omega)
  have h2 := Int.bmod_lt (x := v) (m := 256) (by omega)
  have h3 := Int.le_bmod (x := v) (m := 65536) (by omega)
  have h4 := Int.bmod_lt (x := v) (m := 65536) (by omega)
  unfold cutN
  split
  · exact ⟨by omega, by omega⟩
  · split
    · exact ⟨by omega, by omega⟩
    · exact h

set_option maxHeartbeats 4000000 in
theorem c_X5_put (l : Launch) (G : GS) (im : IM) (bt rt : Nat) (lm : IM) (j : Nat) (hj : j < 4) (i : Nat) (hi : i < 40) (v : Int) (hR : RI im) : Cn l (XC G) yX5_put Y_X5_put [vR 7 j, vI (i : Int), vI v] (im, rs bt rt, lm) (pV fun m' => m' = (up im 8 j i (cutN (im 7 j 1) v), rs bt rt, lm)) := by
  refine cn_of (by decide) (okC G) rfl (Nat.le_of_ble_eq_true rfl) ?_
  intro M ad hMl F
  subst hMl
  refine wp_pad 0 ?_
  show Wp M (XC G) ad Y_X5_put (pV fun m' => m' = (up im 8 j i (cutN (im 7 j 1) v), rs bt rt, lm)) 0 [some (vR 7 j), some (vI (i : Int)), some (vI v)] [] (im, rs bt rt, lm)
  refine q_aload_n (t := 1) F dX5_put_0 rfl rfl rfl ?_
  refine g_X5_9 (t := 4) F dX5_put_1 rfl (by omega) rfl ?_
  refine q_iload_n (t := 5) F dX5_put_4 rfl rfl rfl ?_
  refine q_aload_n (t := 6) F dX5_put_5 rfl rfl rfl ?_
  refine g_X5_15 (t := 9) F dX5_put_6 rfl (by omega) rfl ?_
  refine q_if_ne (t := 12) (u := 17) F dX5_put_9 (by first | exact hR _ _ _ | (constructor <;> omega)) (by decide) rfl (fun c9 => ?_) (fun c9 => ?_)
  · refine q_aload_n (t := 18) F dX5_put_17 rfl rfl rfl ?_
    refine g_X5_15 (t := 21) F dX5_put_18 rfl (by omega) rfl ?_
    refine q_iconst (t := 22) F dX5_put_21 rfl ?_
    refine q_icmp_ne (t := 25) (u := 30) F dX5_put_22 (by first | exact hR _ _ _ | (constructor <;> omega)) (by first | exact hR _ _ _ | (constructor <;> omega)) (by decide) rfl (fun c22 => ?_) (fun c22 => ?_)
    · refine q_iload_n (t := 31) F dX5_put_30 rfl rfl rfl ?_
      first | refine stN_8 (t := 32) F dX5_put_31 (by omega) (by omega) rfl ?_ | refine st_8 (t := 32) F dX5_put_31 (by omega) (by omega) (by omega) rfl ?_
      refine q_vret F dX5_put_32 rfl ?_
      refine ⟨rfl, ?_⟩
      show (_ : Mem) = _
      unfold cutN
      first | (rw [if_pos (by omega)]) | (rw [if_neg (by omega), if_pos (by omega)]) | (rw [if_neg (by omega), if_neg (by omega)])
    · refine q_iload_n (t := 26) F dX5_put_25 rfl rfl rfl ?_
      refine q_i2s (t := 27) F dX5_put_26 rfl ?_
      refine q_goto (t := 31) F dX5_put_27 (by decide) ?_
      first | refine stN_8 (t := 32) F dX5_put_31 (by omega) (by omega) rfl ?_ | refine st_8 (t := 32) F dX5_put_31 (by omega) (by omega) (by omega) rfl ?_
      refine q_vret F dX5_put_32 rfl ?_
      refine ⟨rfl, ?_⟩
      show (_ : Mem) = _
      unfold cutN
      first | (rw [if_pos (by omega)]) | (rw [if_neg (by omega), if_pos (by omega)]) | (rw [if_neg (by omega), if_neg (by omega)])
  · refine q_iload_n (t := 13) F dX5_put_12 rfl rfl rfl ?_
    refine q_i2b (t := 14) F dX5_put_13 rfl ?_
    refine q_goto (t := 31) F dX5_put_14 (by decide) ?_
    first | refine stN_8 (t := 32) F dX5_put_31 (by omega) (by omega) rfl ?_ | refine st_8 (t := 32) F dX5_put_31 (by omega) (by omega) (by omega) rfl ?_
    refine q_vret F dX5_put_32 rfl ?_
    refine ⟨rfl, ?_⟩
    show (_ : Mem) = _
    unfold cutN
    first | (rw [if_pos (by omega)]) | (rw [if_neg (by omega), if_pos (by omega)]) | (rw [if_neg (by omega), if_neg (by omega)])

set_option maxHeartbeats 4000000 in
theorem c_X5_holds (l : Launch) (G : GS) (im : IM) (bt rt : Nat) (lm : IM) (j : Nat) (hj : j < 4) (a n : Int) (ha : ri a) (hn : ri n) (z0 : 0 ≤ im 7 j 2) (z1 : im 7 j 2 ≤ 40) (hR : RI im) : Cn l (XC G) yX5_holds Y_X5_holds [vR 7 j, vI a, vI n] (im, rs bt rt, lm) (pI fun x m' => x = (if 0 ≤ a ∧ 0 ≤ n ∧ a + n ≤ im 7 j 2 then 1 else 0) ∧ m' = (im, rs bt rt, lm)) := by
  refine cn_of (by decide) (okC G) rfl (Nat.le_of_ble_eq_true rfl) ?_
  intro M ad hMl F
  subst hMl
  have ha1 := ha.1
  have ha2 := ha.2
  have hn1 := hn.1
  have hn2 := hn.2
  refine wp_pad 0 ?_
  show Wp M (XC G) ad Y_X5_holds (pI fun x m' => x = (if 0 ≤ a ∧ 0 ≤ n ∧ a + n ≤ im 7 j 2 then 1 else 0) ∧ m' = (im, rs bt rt, lm)) 0 [some (vR 7 j), some (vI a), some (vI n)] [] (im, rs bt rt, lm)
  refine q_iload_n (t := 1) F dX5_holds_0 rfl rfl rfl ?_
  refine q_if_lt (t := 4) (u := 30) F dX5_holds_1 (by first | exact hR _ _ _ | (constructor <;> omega)) (by decide) rfl (fun c1 => ?_) (fun c1 => ?_)
  · refine q_iconst (t := 31) F dX5_holds_30 rfl ?_
    refine q_zret F dX5_holds_31 rfl (by decide) ?_
    first | exact ⟨_, rfl, by rw [if_pos (by omega)], rfl⟩ | exact ⟨_, rfl, by rw [if_neg (by omega)], rfl⟩
  · refine q_iload_n (t := 5) F dX5_holds_4 rfl rfl rfl ?_
    refine q_if_lt (t := 8) (u := 30) F dX5_holds_5 (by first | exact hR _ _ _ | (constructor <;> omega)) (by decide) rfl (fun c5 => ?_) (fun c5 => ?_)
    · refine q_iconst (t := 31) F dX5_holds_30 rfl ?_
      refine q_zret F dX5_holds_31 rfl (by decide) ?_
      first | exact ⟨_, rfl, by rw [if_pos (by omega)], rfl⟩ | exact ⟨_, rfl, by rw [if_neg (by omega)], rfl⟩
    · refine q_iload_n (t := 9) F dX5_holds_8 rfl rfl rfl ?_
      refine q_aload_n (t := 10) F dX5_holds_9 rfl rfl rfl ?_
      refine g_X5_19 (t := 13) F dX5_holds_10 rfl (by omega) rfl ?_
      refine q_icmp_gt (t := 16) (u := 30) F dX5_holds_13 (by first | exact hR _ _ _ | (constructor <;> omega)) (by first | exact hR _ _ _ | (constructor <;> omega)) (by decide) rfl (fun c13 => ?_) (fun c13 => ?_)
      · refine q_iconst (t := 31) F dX5_holds_30 rfl ?_
        refine q_zret F dX5_holds_31 rfl (by decide) ?_
        first | exact ⟨_, rfl, by rw [if_pos (by omega)], rfl⟩ | exact ⟨_, rfl, by rw [if_neg (by omega)], rfl⟩
      · refine q_iload_n (t := 17) F dX5_holds_16 rfl rfl rfl ?_
        refine q_aload_n (t := 18) F dX5_holds_17 rfl rfl rfl ?_
        refine g_X5_19 (t := 21) F dX5_holds_18 rfl (by omega) rfl ?_
        refine q_iload_n (t := 22) F dX5_holds_21 rfl rfl rfl ?_
        refine q_isub (t := 23) F dX5_holds_22 rfl ?_
        refine q_icmp_gt (t := 26) (u := 30) F dX5_holds_23 (by first | exact hR _ _ _ | (constructor <;> omega)) (by first | exact hR _ _ _ | (constructor <;> omega)) (by decide) rfl (fun c23 => ?_) (fun c23 => ?_)
        · refine q_iconst (t := 31) F dX5_holds_30 rfl ?_
          refine q_zret F dX5_holds_31 rfl (by decide) ?_
          first | exact ⟨_, rfl, by rw [if_pos (by omega)], rfl⟩ | exact ⟨_, rfl, by rw [if_neg (by omega)], rfl⟩
        · refine q_iconst (t := 27) F dX5_holds_26 rfl ?_
          refine q_goto (t := 31) F dX5_holds_27 (by decide) ?_
          refine q_zret F dX5_holds_31 rfl (by decide) ?_
          first | exact ⟨_, rfl, by rw [if_pos (by omega)], rfl⟩ | exact ⟨_, rfl, by rw [if_neg (by omega)], rfl⟩
