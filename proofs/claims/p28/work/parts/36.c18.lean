/-! words -/
theorem refS_0 : ("AWordStuck$Reader", 118, "word", 0) ∈ refS := by unfold refS; repeat (first | exact List.mem_cons_self | apply List.mem_cons_of_mem)
theorem refS_1 : ("AWordStuck$Reader", 120, "food", 1) ∈ refS := by unfold refS; repeat (first | exact List.mem_cons_self | apply List.mem_cons_of_mem)
theorem refS_2 : ("AWordStuck$Reader", 122, "hour", 2) ∈ refS := by unfold refS; repeat (first | exact List.mem_cons_self | apply List.mem_cons_of_mem)
theorem refS_3 : ("AWordStuck$Reader", 124, "number", 3) ∈ refS := by unfold refS; repeat (first | exact List.mem_cons_self | apply List.mem_cons_of_mem)
theorem refS_4 : ("AWordStuck$Reader", 126, "gap", 4) ∈ refS := by unfold refS; repeat (first | exact List.mem_cons_self | apply List.mem_cons_of_mem)
theorem refS_5 : ("AWordStuck$Reader", 128, "stuck", 5) ∈ refS := by unfold refS; repeat (first | exact List.mem_cons_self | apply List.mem_cons_of_mem)
theorem refS_6 : ("AWordStuck$Reader", 130, "sticks", 6) ∈ refS := by unfold refS; repeat (first | exact List.mem_cons_self | apply List.mem_cons_of_mem)
theorem refS_7 : ("AWordStuck$Reader", 132, "lasts", 7) ∈ refS := by unfold refS; repeat (first | exact List.mem_cons_self | apply List.mem_cons_of_mem)
theorem refS_8 : ("AWordStuck$Reader", 134, "shames", 8) ∈ refS := by unfold refS; repeat (first | exact List.mem_cons_self | apply List.mem_cons_of_mem)
theorem refS_9 : ("AWordStuck$Reader", 136, "or", 9) ∈ refS := by unfold refS; repeat (first | exact List.mem_cons_self | apply List.mem_cons_of_mem)
theorem refS_10 : ("AWordStuck$Reader", 138, "and", 10) ∈ refS := by unfold refS; repeat (first | exact List.mem_cons_self | apply List.mem_cons_of_mem)
theorem refS_11 : ("AWordStuck$Reader", 140, "not", 11) ∈ refS := by unfold refS; repeat (first | exact List.mem_cons_self | apply List.mem_cons_of_mem)
theorem refS_12 : ("AWordStuck", 61, "sticks word + food * 3 ; lasts 5 ; shames 10 ;", 12) ∈ refS := by unfold refS; repeat (first | exact List.mem_cons_self | apply List.mem_cons_of_mem)
set_option maxHeartbeats 4000000 in
theorem c_X4_known (l : Launch) (G : GS) (im : IM) (bt j : Nat) (lm : IM) (i : Nat) (hi : i < 12) : Cn l (XC G) yX4_known Y_X4_known [vI (i : Int)] (im, rs bt j, lm) (pR fun k q m' => k = 99 ∧ q = i ∧ m' = (im, rs bt j, lm)) := by
  refine cn_of (by decide) (okC G) rfl (Nat.le_of_ble_eq_true rfl) ?_
  intro M ad hMl F
  subst hMl
  refine wp_pad 0 ?_
  show Wp M (XC G) ad Y_X4_known (pR fun k q m' => k = 99 ∧ q = i ∧ m' = (im, rs bt j, lm)) 0 [some (vI (i : Int))] [] (im, rs bt j, lm)
  refine q_iload_n (t := 1) F dX4_known_0 rfl rfl rfl ?_
  have sw1 : (i : Int) < 0 ∨ 10 < (i : Int) ∨ (i : Int) = 0 ∨ (i : Int) = 1 ∨ (i : Int) = 2 ∨ (i : Int) = 3 ∨ (i : Int) = 4 ∨ (i : Int) = 5 ∨ (i : Int) = 6 ∨ (i : Int) = 7 ∨ (i : Int) = 8 ∨ (i : Int) = 9 ∨ (i : Int) = 10 := by omega
  rcases sw1 with c1 | c1 | c1 | c1 | c1 | c1 | c1 | c1 | c1 | c1 | c1 | c1 | c1
  · refine q_tableOut (t := 93) F dX4_known_1 (by first | exact hR _ _ _ | (constructor <;> omega)) (Or.inl c1) (by decide) ?_
    refine q_ldcS (t := 95) 11 F dX4_known_93 refS_11 rfl ?_
    refine q_rret F dX4_known_95 rfl ?_
    first
      | exact ⟨_, _, rfl, rfl, by omega, rfl⟩
  · refine q_tableOut (t := 93) F dX4_known_1 (by first | exact hR _ _ _ | (constructor <;> omega)) (Or.inr c1) (by decide) ?_
    refine q_ldcS (t := 95) 11 F dX4_known_93 refS_11 rfl ?_
    refine q_rret F dX4_known_95 rfl ?_
    first
      | exact ⟨_, _, rfl, rfl, by omega, rfl⟩
  · refine q_tableIn (t := 60) F dX4_known_1 (by first | exact hR _ _ _ | (constructor <;> omega)) (by omega) (by omega) (by rw [c1]; rfl) (by decide) ?_
    refine q_ldcS (t := 62) 0 F dX4_known_60 refS_0 rfl ?_
    refine q_rret F dX4_known_62 rfl ?_
    first
      | exact ⟨_, _, rfl, rfl, by omega, rfl⟩
  · refine q_tableIn (t := 63) F dX4_known_1 (by first | exact hR _ _ _ | (constructor <;> omega)) (by omega) (by omega) (by rw [c1]; rfl) (by decide) ?_
    refine q_ldcS (t := 65) 1 F dX4_known_63 refS_1 rfl ?_
    refine q_rret F dX4_known_65 rfl ?_
    first
      | exact ⟨_, _, rfl, rfl, by omega, rfl⟩
  · refine q_tableIn (t := 66) F dX4_known_1 (by first | exact hR _ _ _ | (constructor <;> omega)) (by omega) (by omega) (by rw [c1]; rfl) (by decide) ?_
    refine q_ldcS (t := 68) 2 F dX4_known_66 refS_2 rfl ?_
    refine q_rret F dX4_known_68 rfl ?_
    first
      | exact ⟨_, _, rfl, rfl, by omega, rfl⟩
  · refine q_tableIn (t := 69) F dX4_known_1 (by first | exact hR _ _ _ | (constructor <;> omega)) (by omega) (by omega) (by rw [c1]; rfl) (by decide) ?_
    refine q_ldcS (t := 71) 3 F dX4_known_69 refS_3 rfl ?_
    refine q_rret F dX4_known_71 rfl ?_
    first
      | exact ⟨_, _, rfl, rfl, by omega, rfl⟩
  · refine q_tableIn (t := 72) F dX4_known_1 (by first | exact hR _ _ _ | (constructor <;> omega)) (by omega) (by omega) (by rw [c1]; rfl) (by decide) ?_
    refine q_ldcS (t := 74) 4 F dX4_known_72 refS_4 rfl ?_
    refine q_rret F dX4_known_74 rfl ?_
    first
      | exact ⟨_, _, rfl, rfl, by omega, rfl⟩
  · refine q_tableIn (t := 75) F dX4_known_1 (by first | exact hR _ _ _ | (constructor <;> omega)) (by omega) (by omega) (by rw [c1]; rfl) (by decide) ?_
    refine q_ldcS (t := 77) 5 F dX4_known_75 refS_5 rfl ?_
    refine q_rret F dX4_known_77 rfl ?_
    first
      | exact ⟨_, _, rfl, rfl, by omega, rfl⟩
  · refine q_tableIn (t := 78) F dX4_known_1 (by first | exact hR _ _ _ | (constructor <;> omega)) (by omega) (by omega) (by rw [c1]; rfl) (by decide) ?_
    refine q_ldcS (t := 80) 6 F dX4_known_78 refS_6 rfl ?_
    refine q_rret F dX4_known_80 rfl ?_
    first
      | exact ⟨_, _, rfl, rfl, by omega, rfl⟩
  · refine q_tableIn (t := 81) F dX4_known_1 (by first | exact hR _ _ _ | (constructor <;> omega)) (by omega) (by omega) (by rw [c1]; rfl) (by decide) ?_
    refine q_ldcS (t := 83) 7 F dX4_known_81 refS_7 rfl ?_
    refine q_rret F dX4_known_83 rfl ?_
    first
      | exact ⟨_, _, rfl, rfl, by omega, rfl⟩
  · refine q_tableIn (t := 84) F dX4_known_1 (by first | exact hR _ _ _ | (constructor <;> omega)) (by omega) (by omega) (by rw [c1]; rfl) (by decide) ?_
    refine q_ldcS (t := 86) 8 F dX4_known_84 refS_8 rfl ?_
    refine q_rret F dX4_known_86 rfl ?_
    first
      | exact ⟨_, _, rfl, rfl, by omega, rfl⟩
  · refine q_tableIn (t := 87) F dX4_known_1 (by first | exact hR _ _ _ | (constructor <;> omega)) (by omega) (by omega) (by rw [c1]; rfl) (by decide) ?_
    refine q_ldcS (t := 89) 9 F dX4_known_87 refS_9 rfl ?_
    refine q_rret F dX4_known_89 rfl ?_
    first
      | exact ⟨_, _, rfl, rfl, by omega, rfl⟩
  · refine q_tableIn (t := 90) F dX4_known_1 (by first | exact hR _ _ _ | (constructor <;> omega)) (by omega) (by omega) (by rw [c1]; rfl) (by decide) ?_
    refine q_ldcS (t := 92) 10 F dX4_known_90 refS_10 rfl ?_
    refine q_rret F dX4_known_92 rfl ?_
    first
      | exact ⟨_, _, rfl, rfl, by omega, rfl⟩

set_option maxHeartbeats 4000000 in
theorem c_X4_stands (l : Launch) (G : GS) (im : IM) (bt j : Nat) (lm : IM) (b : Nat → Int) (n : Nat) (hb : byt b n) (hR : RI im) (hb2 : im 15 0 = b) (p q i : Nat) (hi : i < 12) (hpq : p < q) (hqn : q ≤ n) (hnx : im 14 0 2 = q) (hst : im 14 0 3 = p) : Cn l (XC G) yX4_stands Y_X4_stands [vR 14 0, vR 99 i] (im, rs bt j, lm) (pI fun x m' => x = (if stdS b p q i then 1 else 0) ∧ m' = (im, rs bt j, lm)) := by
  refine cn_of (by decide) (okC G) rfl (Nat.le_of_ble_eq_true rfl) ?_
  intro M ad hMl F
  subst hMl
  have hn := hb.1
  have e15 : ∀ s, im 15 0 s = b s := fun s => congrFun hb2 s
  have hL := len_in i (by omega)
  refine wp_pad 1 ?_
  show Wp M (XC G) ad Y_X4_stands (pI fun x m' => x = (if stdS b p q i then 1 else 0) ∧ m' = (im, rs bt j, lm)) 0 [some (vR 14 0), some (vR 99 i), none] [] (im, rs bt j, lm)
  refine q_aload_n (t := 1) F dX4_stands_0 rfl rfl rfl ?_
  refine wp_callK (t := 4) [] F (by omega) rfl dX4_stands_1 k_J0_length_8abf5 v_J0_length_8abf5 ml_X4_108 rfl rfl (Nat.le_of_ble_eq_true rfl) (by decide) (c_J0_length_8abf5 _ G _ i (by omega)) rfl (kI ?_)
  rintro x1 m' ⟨rfl, rfl⟩
  refine q_aload_n (t := 5) F dX4_stands_4 rfl rfl rfl ?_
  refine g_X4_31 (t := 8) F dX4_stands_5 rfl rfl ?_
  try simp only [up_app, row_app, scr_app, cpy_app, Nat.reduceEqDiff, Int.reduceToNat, Int.toNat_natCast, and_true, true_and, and_false, false_and, and_self, reduceIte]
  refine q_aload_n (t := 9) F dX4_stands_8 rfl rfl rfl ?_
  refine g_X4_57 (t := 12) F dX4_stands_9 rfl rfl ?_
  try simp only [up_app, row_app, scr_app, cpy_app, Nat.reduceEqDiff, Int.reduceToNat, Int.toNat_natCast, and_true, true_and, and_false, false_and, and_self, reduceIte]
  refine q_isub (t := 13) F dX4_stands_12 rfl ?_
  refine q_icmp_eq (t := 16) (u := 18) F dX4_stands_13 (by constructor <;> omega) (by constructor <;> omega) (by decide) rfl (fun c13 => ?_) (fun c13 => ?_)
  · refine q_iconst (t := 19) F dX4_stands_18 rfl ?_
    refine q_istore_n (t := 20) F dX4_stands_19 rfl (by decide) rfl rfl ?_
    have L20 : ∀ (fz : Nat) (k : Nat), 160 - k < fz → k ≤ lenS.getD i 0 → (∀ s, s < k → b (p + s) = letS i s) → Wp M (XC G) ad Y_X4_stands (pI fun x m' => x = (if stdS b p q i then 1 else 0) ∧ m' = (im, rs bt j, lm)) 20 [some (vR 14 0), some (vR 99 i), some (vI (k : Int))] [] (im, rs bt j, lm) := by
      intro fz
      induction fz with
      | zero => intro k h; exact absurd h (Nat.not_lt_zero _)
      | succ fz ih =>
        have ih20 := ih
        intro k hmeas hk hall
        refine q_iload_n (t := 21) F dX4_stands_20 rfl rfl rfl ?_
        refine q_aload_n (t := 22) F dX4_stands_21 rfl rfl rfl ?_
        refine wp_callK (t := 25) [] F (by omega) rfl dX4_stands_22 k_J0_length_8abf5 v_J0_length_8abf5 ml_X4_108 rfl rfl (Nat.le_of_ble_eq_true rfl) (by decide) (c_J0_length_8abf5 _ G _ i (by omega)) rfl (kI ?_)
        rintro x22 m' ⟨rfl, rfl⟩
        refine q_icmp_ge (t := 28) (u := 55) F dX4_stands_25 (by constructor <;> omega) (by constructor <;> omega) (by decide) rfl (fun c25 => ?_) (fun c25 => ?_)
        · refine q_iconst (t := 56) F dX4_stands_55 rfl ?_
          refine q_zret F dX4_stands_56 rfl (by decide) ?_
          exact ⟨_, rfl, by rw [if_pos ⟨by omega, fun s hs => hall s (by omega)⟩], rfl⟩
        · refine q_aload_n (t := 29) F dX4_stands_28 rfl rfl rfl ?_
          refine g_X4_9 (t := 32) F dX4_stands_29 rfl rfl ?_
          refine q_aload_n (t := 33) F dX4_stands_32 rfl rfl rfl ?_
          refine g_X4_57 (t := 36) F dX4_stands_33 rfl rfl ?_
          try simp only [up_app, row_app, scr_app, cpy_app, Nat.reduceEqDiff, Int.reduceToNat, Int.toNat_natCast, and_true, true_and, and_false, false_and, and_self, reduceIte]
          refine q_iload_n (t := 37) F dX4_stands_36 rfl rfl rfl ?_
          rw [hst]
          refine q_iadd (t := 38) F dX4_stands_37 rfl ?_
          rw [show (p : Int) + (k : Int) = ((p + k : Nat) : Int) by omega]
          first | refine ldN_15 (t := 39) F dX4_stands_38 (by omega) rfl ?_ | refine ld_15 (t := 39) F dX4_stands_38 (by omega) (by omega) rfl ?_
          try simp only [up_app, row_app, scr_app, cpy_app, Nat.reduceEqDiff, Int.reduceToNat, Int.toNat_natCast, and_true, true_and, and_false, false_and, and_self, reduceIte]
          rw [e15]
          refine q_aload_n (t := 40) F dX4_stands_39 rfl rfl rfl ?_
          refine q_iload_n (t := 41) F dX4_stands_40 rfl rfl rfl ?_
          refine wp_callK (t := 44) [_] F (by omega) rfl dX4_stands_41 k_J0_charAt_5068e v_J0_charAt_5068e ml_X4_114 rfl rfl (Nat.le_of_ble_eq_true rfl) (by decide) (c_J0_charAt_5068e _ G _ i k (by omega) (by omega)) rfl (kI ?_)
          rintro x41 m' ⟨rfl, rfl⟩
          refine q_icmp_eq (t := 47) (u := 49) F dX4_stands_44 (by have := hb.2 (p + k) (by omega); constructor <;> omega) (by have : 0 ≤ letS i k ∧ letS i k < 128 := let_in (by omega) (by omega); constructor <;> omega) (by decide) rfl (fun c44 => ?_) (fun c44 => ?_)
          · refine q_iinc (t := 52) F dX4_stands_49 rfl (by decide) rfl rfl ?_
            refine q_goto (t := 20) F dX4_stands_52 (by decide) ?_
            refine ih20 (k + 1) (by omega) (by omega) (fun s hs => ?_)
            by_cases h : s = k
            · subst h; assumption
            · exact hall s (by omega)
          · refine q_iconst (t := 48) F dX4_stands_47 rfl ?_
            refine q_zret F dX4_stands_48 rfl (by decide) ?_
            exact ⟨_, rfl, by rw [if_neg (fun z => by have := z.2 k (by omega); omega)], rfl⟩
    exact L20 _ 0 (Nat.lt_succ_self _) (by omega) (fun s hs => absurd hs (Nat.not_lt_zero _))
  · refine q_iconst (t := 17) F dX4_stands_16 rfl ?_
    refine q_zret F dX4_stands_17 rfl (by decide) ?_
    exact ⟨_, rfl, by rw [if_neg (fun z => by have := z.1; omega)], rfl⟩

set_option maxHeartbeats 4000000 in
theorem c_X4_readWord (l : Launch) (G : GS) (im : IM) (bt j : Nat) (lm : IM) (b : Nat → Int) (n : Nat) (hb : byt b n) (hR : RI im) (hb2 : im 15 0 = b) (hsz : im 14 0 1 = n) (p : Nat) (hp : p < n) (hpl : isL (b p) = true) (hnx : im 14 0 2 = p) (hst : im 14 0 3 = p) : Cn l (XC G) yX4_readWord Y_X4_readWord [vR 14 0] (im, rs bt j, lm) (pV fun m' => ∃ im', RI im' ∧ (∀ k i s, ¬ (k = 14 ∧ (s = 2 ∨ s = 4 ∨ s = 5)) → im' k i s = im k i s) ∧ im' 14 0 2 = span isL b n p ∧ im' 14 0 4 = tkW (wIx b p (span isL b n p) 12) ∧ (wIx b p (span isL b n p) 12 ≠ -1 → im' 14 0 5 = wIx b p (span isL b n p) 12) ∧ m' = (im', rs bt j, lm)) := by
  refine cn_of (by decide) (okC G) rfl (Nat.le_of_ble_eq_true rfl) ?_
  intro M ad hMl F
  subst hMl
  have hn := hb.1
  have e15 : ∀ s, im 15 0 s = b s := fun s => congrFun hb2 s
  refine wp_pad 1 ?_
  show Wp M (XC G) ad Y_X4_readWord (pV fun m' => ∃ im', RI im' ∧ (∀ k i s, ¬ (k = 14 ∧ (s = 2 ∨ s = 4 ∨ s = 5)) → im' k i s = im k i s) ∧ im' 14 0 2 = span isL b n p ∧ im' 14 0 4 = tkW (wIx b p (span isL b n p) 12) ∧ (wIx b p (span isL b n p) 12 ≠ -1 → im' 14 0 5 = wIx b p (span isL b n p) 12) ∧ m' = (im', rs bt j, lm)) 0 [some (vR 14 0), none] [] (im, rs bt j, lm)
  have L0 : ∀ (fz : Nat) (q : Nat) (im2 : IM), n - q < fz → p ≤ q → q ≤ n → RI im2 → (∀ k i s, ¬ (k = 14 ∧ (s = 2 ∨ s = 4 ∨ s = 5)) → im2 k i s = im k i s) → im2 14 0 2 = q → span isL b n p = span isL b n q → Wp M (XC G) ad Y_X4_readWord (pV fun m' => ∃ im', RI im' ∧ (∀ k i s, ¬ (k = 14 ∧ (s = 2 ∨ s = 4 ∨ s = 5)) → im' k i s = im k i s) ∧ im' 14 0 2 = span isL b n p ∧ im' 14 0 4 = tkW (wIx b p (span isL b n p) 12) ∧ (wIx b p (span isL b n p) 12 ≠ -1 → im' 14 0 5 = wIx b p (span isL b n p) 12) ∧ m' = (im', rs bt j, lm)) 0 [some (vR 14 0), none] [] (im2, rs bt j, lm) := by
    intro fz
    induction fz with
    | zero => intro q im2 h; exact absurd h (Nat.not_lt_zero _)
    | succ fz ih =>
      have ih0 := ih
      intro q im2 hmeas hpq hqn hR2 hag g2 hspn
      have g15 : ∀ s, im2 15 0 s = b s := fun s => (hag 15 0 s (by omega)).trans (e15 s)
      have g1 : im2 14 0 1 = n := (hag 14 0 1 (by omega)).trans hsz
      have g3 : im2 14 0 3 = p := (hag 14 0 3 (by omega)).trans hst
      refine q_aload_n (t := 1) F dX4_readWord_0 rfl rfl rfl ?_
      refine g_X4_31 (t := 4) F dX4_readWord_1 rfl rfl ?_
      refine q_aload_n (t := 5) F dX4_readWord_4 rfl rfl rfl ?_
      refine g_X4_19 (t := 8) F dX4_readWord_5 rfl rfl ?_
      refine q_icmp_ge (t := 11) (u := 39) F dX4_readWord_8 (by constructor <;> omega) (by exact hR2 _ _ _) (by decide) rfl (fun c8 => ?_) (fun c8 => ?_)
      · have hspq : span isL b n p = q := by
          rw [hspn]
          refine span_n (fun z => ?_)
          first
            | omega
            | (rcases hx20 with h | h
               · omega
               · exact h.2 z.2)
        have hpq2 : p < q := by
          rw [← hspq, span_y hp hpl]
          have := (span_in isL b n _ (p + 1) rfl).1
          omega
        refine q_aload_n (t := 40) F dX4_readWord_39 rfl rfl rfl ?_
        refine q_iconst (t := 41) F dX4_readWord_40 rfl ?_
        refine p_X4_54 (t := 44) F dX4_readWord_41 rfl rfl ?_
        refine q_iconst (t := 45) F dX4_readWord_44 rfl ?_
        refine q_istore_n (t := 46) F dX4_readWord_45 rfl (by decide) rfl rfl ?_
        have L46 : ∀ (fz : Nat) (i : Nat) (im3 : IM), 12 - i < fz → i ≤ 12 → RI im3 → (∀ k i s, ¬ (k = 14 ∧ (s = 2 ∨ s = 4 ∨ s = 5)) → im3 k i s = im k i s) → im3 14 0 2 = q → im3 14 0 4 = tkW (wIx b p q i) → (wIx b p q i ≠ -1 → im3 14 0 5 = wIx b p q i) → Wp M (XC G) ad Y_X4_readWord (pV fun m' => ∃ im', RI im' ∧ (∀ k i s, ¬ (k = 14 ∧ (s = 2 ∨ s = 4 ∨ s = 5)) → im' k i s = im k i s) ∧ im' 14 0 2 = span isL b n p ∧ im' 14 0 4 = tkW (wIx b p (span isL b n p) 12) ∧ (wIx b p (span isL b n p) 12 ≠ -1 → im' 14 0 5 = wIx b p (span isL b n p) 12) ∧ m' = (im', rs bt j, lm)) 46 [some (vR 14 0), some (vI (i : Int))] [] (im3, rs bt j, lm) := by
          intro fz
          induction fz with
          | zero => intro i im3 h; exact absurd h (Nat.not_lt_zero _)
          | succ fz ih =>
            have ih46 := ih
            intro i im3 hmeas hi hR3 hag3 g32 g34 g36
            have g35 : ∀ s, im3 15 0 s = b s := fun s => (hag3 15 0 s (by omega)).trans (e15 s)
            have g33 : im3 14 0 3 = p := (hag3 14 0 3 (by omega)).trans hst
            refine q_iload_n (t := 47) F dX4_readWord_46 rfl rfl rfl ?_
            refine q_bipush (t := 49) F dX4_readWord_47 (by decide) rfl ?_
            refine q_icmp_ge (t := 52) (u := 97) F dX4_readWord_49 (by constructor <;> omega) (by constructor <;> omega) (by decide) rfl (fun c49 => ?_) (fun c49 => ?_)
            · refine q_vret F dX4_readWord_97 rfl ?_
              obtain rfl : i = 12 := by omega
              refine ⟨rfl, im3, hR3, hag3, ?_, ?_, ?_, rfl⟩
              · rw [hspq]; exact g32
              · rw [hspq]; exact g34
              · rw [hspq]; exact g36
            · refine q_aload_n (t := 53) F dX4_readWord_52 rfl rfl rfl ?_
              refine q_iload_n (t := 54) F dX4_readWord_53 rfl rfl rfl ?_
              refine wp_callS (t := 57) [_] F dX4_readWord_54 k_X4_known st_X4_known ml_X4_100 rfl rfl (Nat.le_of_ble_eq_true rfl) (by decide) (c_X4_known _ G im3 bt j lm i (by omega)) rfl (kR ?_)
              rintro k0 i0 m' ⟨rfl, rfl, rfl⟩
              refine wp_callV (t := 60) [_] F dX4_readWord_57 k_X4_stands v_X4_stands ml_X4_104 rfl rfl rfl rfl (Nat.le_of_ble_eq_true rfl) (by decide) (m_14 (by omega)) (c_X4_stands _ G im3 bt j lm b n hb hR3 (funext g35) p q i0 (by omega) hpq2 hqn g32 g33) rfl (kI ?_)
              rintro x57 m' ⟨hx57, rfl⟩
              have hx57 := if01 hx57
              refine q_if_ne (t := 63) (u := 66) F dX4_readWord_60 (by first | exact hR _ _ _ | (constructor <;> omega)) (by decide) rfl (fun c60 => ?_) (fun c60 => ?_)
              · refine q_aload_n (t := 67) F dX4_readWord_66 rfl rfl rfl ?_
                refine q_iload_n (t := 68) F dX4_readWord_67 rfl rfl rfl ?_
                refine q_bipush (t := 70) F dX4_readWord_68 (by decide) rfl ?_
                refine q_icmp_ge (t := 73) (u := 77) F dX4_readWord_70 (by first | exact hR _ _ _ | (constructor <;> omega)) (by first | exact hR _ _ _ | (constructor <;> omega)) (by decide) rfl (fun c70 => ?_) (fun c70 => ?_)
                · refine q_iconst (t := 78) F dX4_readWord_77 rfl ?_
                  refine q_iload_n (t := 79) F dX4_readWord_78 rfl rfl rfl ?_
                  refine q_iadd (t := 80) F dX4_readWord_79 rfl ?_
                  refine q_bipush (t := 82) F dX4_readWord_80 (by decide) rfl ?_
                  refine q_isub (t := 83) F dX4_readWord_82 rfl ?_
                  refine p_X4_54 (t := 86) F dX4_readWord_83 rfl rfl ?_
                  refine q_aload_n (t := 87) F dX4_readWord_86 rfl rfl rfl ?_
                  refine q_iload_n (t := 88) F dX4_readWord_87 rfl rfl rfl ?_
                  refine p_X4_82 (t := 91) F dX4_readWord_88 rfl rfl ?_
                  refine q_iinc (t := 94) F dX4_readWord_91 rfl (by decide) rfl rfl ?_
                  refine q_goto (t := 46) F dX4_readWord_94 (by decide) ?_
                  first
                    | (have hns : ¬ stdS b p q i0 := by
                         rcases hx57 with h | h
                         · omega
                         · exact h.2
                       refine ih46 (i0 + 1) im3 (by omega) (by omega) hR3 hag3 g32 ?_ ?_
                       · rw [wIx_s, if_neg hns]; exact g34
                       · rw [wIx_s, if_neg hns]; exact g36)
                    | (have hst2 : stdS b p q i0 := by
                         rcases hx57 with h | h
                         · exact h.2
                         · omega
                       refine ih46 (i0 + 1) _ (by omega) (by omega) (RI_up (RI_up hR3 (by constructor <;> omega)) (by constructor <;> omega)) (fun k i s h => by rw [up_app, if_neg (by omega), up_app, if_neg (by omega)]; exact hag3 k i s h) ?_ ?_ ?_
                       · rw [up_app, if_neg (by omega), up_app, if_neg (by omega)]; exact g32
                       · rw [up_app, if_neg (by omega), up_app, if_pos ⟨rfl, rfl, rfl⟩, wIx_s, if_pos hst2]
                         unfold tkW
                         (repeat' split) <;> omega
                       · intro _
                         rw [up_app, if_pos ⟨rfl, rfl, rfl⟩, wIx_s, if_pos hst2])
                · refine q_iconst (t := 74) F dX4_readWord_73 rfl ?_
                  refine q_goto (t := 83) F dX4_readWord_74 (by decide) ?_
                  refine p_X4_54 (t := 86) F dX4_readWord_83 rfl rfl ?_
                  refine q_aload_n (t := 87) F dX4_readWord_86 rfl rfl rfl ?_
                  refine q_iload_n (t := 88) F dX4_readWord_87 rfl rfl rfl ?_
                  refine p_X4_82 (t := 91) F dX4_readWord_88 rfl rfl ?_
                  refine q_iinc (t := 94) F dX4_readWord_91 rfl (by decide) rfl rfl ?_
                  refine q_goto (t := 46) F dX4_readWord_94 (by decide) ?_
                  first
                    | (have hns : ¬ stdS b p q i0 := by
                         rcases hx57 with h | h
                         · omega
                         · exact h.2
                       refine ih46 (i0 + 1) im3 (by omega) (by omega) hR3 hag3 g32 ?_ ?_
                       · rw [wIx_s, if_neg hns]; exact g34
                       · rw [wIx_s, if_neg hns]; exact g36)
                    | (have hst2 : stdS b p q i0 := by
                         rcases hx57 with h | h
                         · exact h.2
                         · omega
                       refine ih46 (i0 + 1) _ (by omega) (by omega) (RI_up (RI_up hR3 (by constructor <;> omega)) (by constructor <;> omega)) (fun k i s h => by rw [up_app, if_neg (by omega), up_app, if_neg (by omega)]; exact hag3 k i s h) ?_ ?_ ?_
                       · rw [up_app, if_neg (by omega), up_app, if_neg (by omega)]; exact g32
                       · rw [up_app, if_neg (by omega), up_app, if_pos ⟨rfl, rfl, rfl⟩, wIx_s, if_pos hst2]
                         unfold tkW
                         (repeat' split) <;> omega
                       · intro _
                         rw [up_app, if_pos ⟨rfl, rfl, rfl⟩, wIx_s, if_pos hst2])
              · refine q_goto (t := 91) F dX4_readWord_63 (by decide) ?_
                refine q_iinc (t := 94) F dX4_readWord_91 rfl (by decide) rfl rfl ?_
                refine q_goto (t := 46) F dX4_readWord_94 (by decide) ?_
                first
                  | (have hns : ¬ stdS b p q i0 := by
                       rcases hx57 with h | h
                       · omega
                       · exact h.2
                     refine ih46 (i0 + 1) im3 (by omega) (by omega) hR3 hag3 g32 ?_ ?_
                     · rw [wIx_s, if_neg hns]; exact g34
                     · rw [wIx_s, if_neg hns]; exact g36)
                  | (have hst2 : stdS b p q i0 := by
                       rcases hx57 with h | h
                       · exact h.2
                       · omega
                     refine ih46 (i0 + 1) _ (by omega) (by omega) (RI_up (RI_up hR3 (by constructor <;> omega)) (by constructor <;> omega)) (fun k i s h => by rw [up_app, if_neg (by omega), up_app, if_neg (by omega)]; exact hag3 k i s h) ?_ ?_ ?_
                     · rw [up_app, if_neg (by omega), up_app, if_neg (by omega)]; exact g32
                     · rw [up_app, if_neg (by omega), up_app, if_pos ⟨rfl, rfl, rfl⟩, wIx_s, if_pos hst2]
                       unfold tkW
                       (repeat' split) <;> omega
                     · intro _
                       rw [up_app, if_pos ⟨rfl, rfl, rfl⟩, wIx_s, if_pos hst2])
        exact L46 _ 0 _ (Nat.lt_succ_self _) (by omega) (RI_up hR2 (by constructor <;> omega)) (fun k i s h => by rw [up_app, if_neg (by omega)]; exact hag k i s h) (by rw [up_app, if_neg (by omega)]; exact g2) (by rw [up_app, if_pos ⟨rfl, rfl, rfl⟩]; rfl) (fun h => absurd rfl h)
      · refine q_aload_n (t := 12) F dX4_readWord_11 rfl rfl rfl ?_
        refine g_X4_9 (t := 15) F dX4_readWord_12 rfl rfl ?_
        refine q_aload_n (t := 16) F dX4_readWord_15 rfl rfl rfl ?_
        refine g_X4_31 (t := 19) F dX4_readWord_16 rfl rfl ?_
        rw [g2]
        first | refine ldN_15 (t := 20) F dX4_readWord_19 (by omega) rfl ?_ | refine ld_15 (t := 20) F dX4_readWord_19 (by omega) (by omega) rfl ?_
        rw [g15]
        refine wp_callS (t := 23) [_] F dX4_readWord_20 k_X4_isLetter st_X4_isLetter ml_X4_85 rfl rfl (Nat.le_of_ble_eq_true rfl) (by decide) (c_X4_isLetter _ G im2 bt j lm (b q) (by have := hb.2 q (by omega); constructor <;> omega)) rfl (kI ?_)
        rintro x20 m' ⟨hx20, rfl⟩
        have hx20 := if01 hx20
        refine q_if_eq (t := 26) (u := 39) F dX4_readWord_23 (by first | exact hR _ _ _ | (constructor <;> omega)) (by decide) rfl (fun c23 => ?_) (fun c23 => ?_)
        · have hspq : span isL b n p = q := by
            rw [hspn]
            refine span_n (fun z => ?_)
            first
              | omega
              | (rcases hx20 with h | h
                 · omega
                 · exact h.2 z.2)
          have hpq2 : p < q := by
            rw [← hspq, span_y hp hpl]
            have := (span_in isL b n _ (p + 1) rfl).1
            omega
          refine q_aload_n (t := 40) F dX4_readWord_39 rfl rfl rfl ?_
          refine q_iconst (t := 41) F dX4_readWord_40 rfl ?_
          refine p_X4_54 (t := 44) F dX4_readWord_41 rfl rfl ?_
          refine q_iconst (t := 45) F dX4_readWord_44 rfl ?_
          refine q_istore_n (t := 46) F dX4_readWord_45 rfl (by decide) rfl rfl ?_
          have L46 : ∀ (fz : Nat) (i : Nat) (im3 : IM), 12 - i < fz → i ≤ 12 → RI im3 → (∀ k i s, ¬ (k = 14 ∧ (s = 2 ∨ s = 4 ∨ s = 5)) → im3 k i s = im k i s) → im3 14 0 2 = q → im3 14 0 4 = tkW (wIx b p q i) → (wIx b p q i ≠ -1 → im3 14 0 5 = wIx b p q i) → Wp M (XC G) ad Y_X4_readWord (pV fun m' => ∃ im', RI im' ∧ (∀ k i s, ¬ (k = 14 ∧ (s = 2 ∨ s = 4 ∨ s = 5)) → im' k i s = im k i s) ∧ im' 14 0 2 = span isL b n p ∧ im' 14 0 4 = tkW (wIx b p (span isL b n p) 12) ∧ (wIx b p (span isL b n p) 12 ≠ -1 → im' 14 0 5 = wIx b p (span isL b n p) 12) ∧ m' = (im', rs bt j, lm)) 46 [some (vR 14 0), some (vI (i : Int))] [] (im3, rs bt j, lm) := by
            intro fz
            induction fz with
            | zero => intro i im3 h; exact absurd h (Nat.not_lt_zero _)
            | succ fz ih =>
              have ih46 := ih
              intro i im3 hmeas hi hR3 hag3 g32 g34 g36
              have g35 : ∀ s, im3 15 0 s = b s := fun s => (hag3 15 0 s (by omega)).trans (e15 s)
              have g33 : im3 14 0 3 = p := (hag3 14 0 3 (by omega)).trans hst
              refine q_iload_n (t := 47) F dX4_readWord_46 rfl rfl rfl ?_
              refine q_bipush (t := 49) F dX4_readWord_47 (by decide) rfl ?_
              refine q_icmp_ge (t := 52) (u := 97) F dX4_readWord_49 (by constructor <;> omega) (by constructor <;> omega) (by decide) rfl (fun c49 => ?_) (fun c49 => ?_)
              · refine q_vret F dX4_readWord_97 rfl ?_
                obtain rfl : i = 12 := by omega
                refine ⟨rfl, im3, hR3, hag3, ?_, ?_, ?_, rfl⟩
                · rw [hspq]; exact g32
                · rw [hspq]; exact g34
                · rw [hspq]; exact g36
              · refine q_aload_n (t := 53) F dX4_readWord_52 rfl rfl rfl ?_
                refine q_iload_n (t := 54) F dX4_readWord_53 rfl rfl rfl ?_
                refine wp_callS (t := 57) [_] F dX4_readWord_54 k_X4_known st_X4_known ml_X4_100 rfl rfl (Nat.le_of_ble_eq_true rfl) (by decide) (c_X4_known _ G im3 bt j lm i (by omega)) rfl (kR ?_)
                rintro k0 i0 m' ⟨rfl, rfl, rfl⟩
                refine wp_callV (t := 60) [_] F dX4_readWord_57 k_X4_stands v_X4_stands ml_X4_104 rfl rfl rfl rfl (Nat.le_of_ble_eq_true rfl) (by decide) (m_14 (by omega)) (c_X4_stands _ G im3 bt j lm b n hb hR3 (funext g35) p q i0 (by omega) hpq2 hqn g32 g33) rfl (kI ?_)
                rintro x57 m' ⟨hx57, rfl⟩
                have hx57 := if01 hx57
                refine q_if_ne (t := 63) (u := 66) F dX4_readWord_60 (by first | exact hR _ _ _ | (constructor <;> omega)) (by decide) rfl (fun c60 => ?_) (fun c60 => ?_)
                · refine q_aload_n (t := 67) F dX4_readWord_66 rfl rfl rfl ?_
                  refine q_iload_n (t := 68) F dX4_readWord_67 rfl rfl rfl ?_
                  refine q_bipush (t := 70) F dX4_readWord_68 (by decide) rfl ?_
                  refine q_icmp_ge (t := 73) (u := 77) F dX4_readWord_70 (by first | exact hR _ _ _ | (constructor <;> omega)) (by first | exact hR _ _ _ | (constructor <;> omega)) (by decide) rfl (fun c70 => ?_) (fun c70 => ?_)
                  · refine q_iconst (t := 78) F dX4_readWord_77 rfl ?_
                    refine q_iload_n (t := 79) F dX4_readWord_78 rfl rfl rfl ?_
                    refine q_iadd (t := 80) F dX4_readWord_79 rfl ?_
                    refine q_bipush (t := 82) F dX4_readWord_80 (by decide) rfl ?_
                    refine q_isub (t := 83) F dX4_readWord_82 rfl ?_
                    refine p_X4_54 (t := 86) F dX4_readWord_83 rfl rfl ?_
                    refine q_aload_n (t := 87) F dX4_readWord_86 rfl rfl rfl ?_
                    refine q_iload_n (t := 88) F dX4_readWord_87 rfl rfl rfl ?_
                    refine p_X4_82 (t := 91) F dX4_readWord_88 rfl rfl ?_
                    refine q_iinc (t := 94) F dX4_readWord_91 rfl (by decide) rfl rfl ?_
                    refine q_goto (t := 46) F dX4_readWord_94 (by decide) ?_
                    first
                      | (have hns : ¬ stdS b p q i0 := by
                           rcases hx57 with h | h
                           · omega
                           · exact h.2
                         refine ih46 (i0 + 1) im3 (by omega) (by omega) hR3 hag3 g32 ?_ ?_
                         · rw [wIx_s, if_neg hns]; exact g34
                         · rw [wIx_s, if_neg hns]; exact g36)
                      | (have hst2 : stdS b p q i0 := by
                           rcases hx57 with h | h
                           · exact h.2
                           · omega
                         refine ih46 (i0 + 1) _ (by omega) (by omega) (RI_up (RI_up hR3 (by constructor <;> omega)) (by constructor <;> omega)) (fun k i s h => by rw [up_app, if_neg (by omega), up_app, if_neg (by omega)]; exact hag3 k i s h) ?_ ?_ ?_
                         · rw [up_app, if_neg (by omega), up_app, if_neg (by omega)]; exact g32
                         · rw [up_app, if_neg (by omega), up_app, if_pos ⟨rfl, rfl, rfl⟩, wIx_s, if_pos hst2]
                           unfold tkW
                           (repeat' split) <;> omega
                         · intro _
                           rw [up_app, if_pos ⟨rfl, rfl, rfl⟩, wIx_s, if_pos hst2])
                  · refine q_iconst (t := 74) F dX4_readWord_73 rfl ?_
                    refine q_goto (t := 83) F dX4_readWord_74 (by decide) ?_
                    refine p_X4_54 (t := 86) F dX4_readWord_83 rfl rfl ?_
                    refine q_aload_n (t := 87) F dX4_readWord_86 rfl rfl rfl ?_
                    refine q_iload_n (t := 88) F dX4_readWord_87 rfl rfl rfl ?_
                    refine p_X4_82 (t := 91) F dX4_readWord_88 rfl rfl ?_
                    refine q_iinc (t := 94) F dX4_readWord_91 rfl (by decide) rfl rfl ?_
                    refine q_goto (t := 46) F dX4_readWord_94 (by decide) ?_
                    first
                      | (have hns : ¬ stdS b p q i0 := by
                           rcases hx57 with h | h
                           · omega
                           · exact h.2
                         refine ih46 (i0 + 1) im3 (by omega) (by omega) hR3 hag3 g32 ?_ ?_
                         · rw [wIx_s, if_neg hns]; exact g34
                         · rw [wIx_s, if_neg hns]; exact g36)
                      | (have hst2 : stdS b p q i0 := by
                           rcases hx57 with h | h
                           · exact h.2
                           · omega
                         refine ih46 (i0 + 1) _ (by omega) (by omega) (RI_up (RI_up hR3 (by constructor <;> omega)) (by constructor <;> omega)) (fun k i s h => by rw [up_app, if_neg (by omega), up_app, if_neg (by omega)]; exact hag3 k i s h) ?_ ?_ ?_
                         · rw [up_app, if_neg (by omega), up_app, if_neg (by omega)]; exact g32
                         · rw [up_app, if_neg (by omega), up_app, if_pos ⟨rfl, rfl, rfl⟩, wIx_s, if_pos hst2]
                           unfold tkW
                           (repeat' split) <;> omega
                         · intro _
                           rw [up_app, if_pos ⟨rfl, rfl, rfl⟩, wIx_s, if_pos hst2])
                · refine q_goto (t := 91) F dX4_readWord_63 (by decide) ?_
                  refine q_iinc (t := 94) F dX4_readWord_91 rfl (by decide) rfl rfl ?_
                  refine q_goto (t := 46) F dX4_readWord_94 (by decide) ?_
                  first
                    | (have hns : ¬ stdS b p q i0 := by
                         rcases hx57 with h | h
                         · omega
                         · exact h.2
                       refine ih46 (i0 + 1) im3 (by omega) (by omega) hR3 hag3 g32 ?_ ?_
                       · rw [wIx_s, if_neg hns]; exact g34
                       · rw [wIx_s, if_neg hns]; exact g36)
                    | (have hst2 : stdS b p q i0 := by
                         rcases hx57 with h | h
                         · exact h.2
                         · omega
                       refine ih46 (i0 + 1) _ (by omega) (by omega) (RI_up (RI_up hR3 (by constructor <;> omega)) (by constructor <;> omega)) (fun k i s h => by rw [up_app, if_neg (by omega), up_app, if_neg (by omega)]; exact hag3 k i s h) ?_ ?_ ?_
                       · rw [up_app, if_neg (by omega), up_app, if_neg (by omega)]; exact g32
                       · rw [up_app, if_neg (by omega), up_app, if_pos ⟨rfl, rfl, rfl⟩, wIx_s, if_pos hst2]
                         unfold tkW
                         (repeat' split) <;> omega
                       · intro _
                         rw [up_app, if_pos ⟨rfl, rfl, rfl⟩, wIx_s, if_pos hst2])
          exact L46 _ 0 _ (Nat.lt_succ_self _) (by omega) (RI_up hR2 (by constructor <;> omega)) (fun k i s h => by rw [up_app, if_neg (by omega)]; exact hag k i s h) (by rw [up_app, if_neg (by omega)]; exact g2) (by rw [up_app, if_pos ⟨rfl, rfl, rfl⟩]; rfl) (fun h => absurd rfl h)
        · refine q_aload_n (t := 27) F dX4_readWord_26 rfl rfl rfl ?_
          refine q_dupR (t := 28) F dX4_readWord_27 rfl ?_
          refine g_X4_31 (t := 31) F dX4_readWord_28 rfl rfl ?_
          try simp only [up_app, row_app, scr_app, cpy_app, Nat.reduceEqDiff, Int.reduceToNat, Int.toNat_natCast, and_true, true_and, and_false, false_and, and_self, reduceIte]
          refine q_iconst (t := 32) F dX4_readWord_31 rfl ?_
          refine q_iadd (t := 33) F dX4_readWord_32 rfl ?_
          refine p_X4_31 (t := 36) F dX4_readWord_33 rfl rfl ?_
          refine q_goto (t := 0) F dX4_readWord_36 (by decide) ?_
          refine ih0 (q + 1) _ (by omega) (by omega) (by omega) (RI_up hR2 (by constructor <;> omega)) (fun k i s h => by rw [up_app, if_neg (by omega)]; exact hag k i s h) ?_ ?_
          · rw [up_app, if_pos ⟨rfl, rfl, rfl⟩, g2]; omega
          · rw [hspn, span_y (by omega) (by rcases hx20 with h | h
                                            · exact h.2
                                            · omega)]
  exact L0 _ p im (Nat.lt_succ_self _) (Nat.le_refl _) (by omega) hR (fun k i s h => rfl) hnx rfl
