section
/-! words -/
theorem refS_0 : ("AWordStuck$Reader", 118, "word", 0) ∈ refS := by unfold refS; repeat (first | exact List.mem_cons_self | apply List.mem_cons_of_mem)
theorem refS_1 : ("AWordStuck$Reader", 120, "food", 1) ∈ refS := by unfold refS; repeat (first | exact List.mem_cons_self | apply List.mem_cons_of_mem)
theorem refS_2 : ("AWordStuck$Reader", 122, "hour", 2) ∈ refS := by unfold refS; repeat (first | exact List.mem_cons_self | apply List.mem_cons_of_mem)
theorem refS_3 : ("AWordStuck$Reader", 124, "number", 3) ∈ refS := by unfold refS; repeat (first | exact List.mem_cons_self | apply List.mem_cons_of_mem)
theorem refS_4 : ("AWordStuck$Reader", 126, "gap", 4) ∈ refS := by unfold refS; repeat (first | exact List.mem_cons_self | apply List.mem_cons_of_mem)
theorem refS_5 : ("AWordStuck$Reader", 128, "stuck", 5) ∈ refS := by unfold refS; repeat (first | exact List.mem_cons_self | apply List.mem_cons_of_mem)
theorem refS_6 : ("AWordStuck$Reader", 130, "sticks", 6) ∈ refS := by unfold refS; repeat (first | exact List.mem_cons_self | apply List.mem_cons_of_mem)
theorem refS_7 : ("AWordStuck$Reader", 132, "lasts", 7) ∈ refS := by unfold refS; repeat (first | exact List.mem_cons_self | apply List.mem_cons_of_mem)
theorem refS_8 : ("AWordStuck$Reader", 134, "shames", 8) ∈ refS := by unfold refS; repeat (first | exact List.mem_cons_self | apply List.mem_cons_of_mem)
theorem refS_9 : ("AWordStuck$Reader", 136, "or", 9) ∈ refS := by unfold refS; repeat (first | exact List.mem_cons_self | apply List.mem_cons_of_mem)
theorem refS_10 : ("AWordStuck$Reader", 138, "and", 10) ∈ refS := by unfold refS; repeat (first | exact List.mem_cons_self | apply List.mem_cons_of_mem)
theorem refS_11 : ("AWordStuck$Reader", 140, "not", 11) ∈ refS := by unfold refS; repeat (first | exact List.mem_cons_self | apply List.mem_cons_of_mem)
theorem refS_12 : ("AWordStuck", 61, "sticks word + food * 3 ; lasts 5 ; shames 10 ;", 12) ∈ refS := by unfold refS; repeat (first | exact List.mem_cons_self | apply List.mem_cons_of_mem)
set_option maxHeartbeats 4000000 in
theorem c_X4_known (l : Launch) (G : GS) (im : IM) (bt j : Nat) (lm : IM) (i : Nat) (hi : i < 12) : Cn l (XC G) yX4_known Y_X4_known [vI (i : Int)] (im, rs bt j, lm) (pR fun k q m' => k = 99 ∧ q = i ∧ m' = (im, rs bt j, lm)) := by
  refine cn_of (by decide) (okC G) rfl (Nat.le_of_ble_eq_true rfl) ?_
  intro M ad hMl F
  subst hMl
  refine wp_pad 0 ?_
  show Wp M (XC G) ad Y_X4_known (pR fun k q m' => k = 99 ∧ q = i ∧ m' = (im, rs bt j, lm)) 0 [some (vI (i : Int))] [] (im, rs bt j, lm)
  refine q_iload_n (t := 1) F dX4_known_0 rfl rfl rfl ?_
  have sw1 : (i : Int) < 0 ∨ 10 < (i : Int) ∨ (i : Int) = 0 ∨ (i : Int) = 1 ∨ (i : Int) = 2 ∨ (i : Int) = 3 ∨ (i : Int) = 4 ∨ (i : Int) = 5 ∨ (i : Int) = 6 ∨ (i : Int) = 7 ∨ (i : Int) = 8 ∨ (i : Int) = 9 ∨ (i : Int) = 10 := by omega
  rcases sw1 with c1 | c1 | c1 | c1 | c1 | c1 | c1 | c1 | c1 | c1 | c1 | c1 | c1
  · refine q_tableOut (t := 93) F dX4_known_1 (by first | exact hR _ _ _ | (constructor <;> omega)) (Or.inl c1) (by decide) ?_
    refine q_ldcS (t := 95) 11 F dX4_known_93 refS_11 rfl ?_
    refine q_rret F dX4_known_95 rfl ?_
    first
      | exact ⟨_, _, rfl, rfl, by omega, rfl⟩
  · refine q_tableOut (t := 93) F dX4_known_1 (by first | exact hR _ _ _ | (constructor <;> omega)) (Or.inr c1) (by decide) ?_
    refine q_ldcS (t := 95) 11 F dX4_known_93 refS_11 rfl ?_
    refine q_rret F dX4_known_95 rfl ?_
    first
      | exact ⟨_, _, rfl, rfl, by omega, rfl⟩
  · refine q_tableIn (t := 60) F dX4_known_1 (by first | exact hR _ _ _ | (constructor <;> omega)) (by omega) (by omega) (by rw [c1]; rfl) (by decide) ?_
    refine q_ldcS (t := 62) 0 F dX4_known_60 refS_0 rfl ?_
    refine q_rret F dX4_known_62 rfl ?_
    first
      | exact ⟨_, _, rfl, rfl, by omega, rfl⟩
  · refine q_tableIn (t := 63) F dX4_known_1 (by first | exact hR _ _ _ | (constructor <;> omega)) (by omega) (by omega) (by rw [c1]; rfl) (by decide) ?_
    refine q_ldcS (t := 65) 1 F dX4_known_63 refS_1 rfl ?_
    refine q_rret F dX4_known_65 rfl ?_
    first
      | exact ⟨_, _, rfl, rfl, by omega, rfl⟩
  · refine q_tableIn (t := 66) F dX4_known_1 (by first | exact hR _ _ _ | (constructor <;> omega)) (by omega) (by omega) (by rw [c1]; rfl) (by decide) ?_
    refine q_ldcS (t := 68) 2 F dX4_known_66 refS_2 rfl ?_
    refine q_rret F dX4_known_68 rfl ?_
    first
      | exact ⟨_, _, rfl, rfl, by omega, rfl⟩
  · refine q_tableIn (t := 69) F dX4_known_1 (by first | exact hR _ _ _ | (constructor <;> omega)) (by omega) (by omega) (by rw [c1]; rfl) (by decide) ?_
    refine q_ldcS (t := 71) 3 F dX4_known_69 refS_3 rfl ?_
    refine q_rret F dX4_known_71 rfl ?_
    first
      | exact ⟨_, _, rfl, rfl, by omega, rfl⟩
  · refine q_tableIn (t := 72) F dX4_known_1 (by first | exact hR _ _ _ | (constructor <;> omega)) (by omega) (by omega) (by rw [c1]; rfl) (by decide) ?_
    refine q_ldcS (t := 74) 4 F dX4_known_72 refS_4 rfl ?_
    refine q_rret F dX4_known_74 rfl ?_
    first
      | exact ⟨_, _, rfl, rfl, by omega, rfl⟩
  · refine q_tableIn (t := 75) F dX4_known_1 (by first | exact hR _ _ _ | (constructor <;> omega)) (by omega) (by omega) (by rw [c1]; rfl) (by decide) ?_
    refine q_ldcS (t := 77) 5 F dX4_known_75 refS_5 rfl ?_
    refine q_rret F dX4_known_77 rfl ?_
    first
      | exact ⟨_, _, rfl, rfl, by omega, rfl⟩
  · refine q_tableIn (t := 78) F dX4_known_1 (by first | exact hR _ _ _ | (constructor <;> omega)) (by omega) (by omega) (by rw [c1]; rfl) (by decide) ?_
    refine q_ldcS (t := 80) 6 F dX4_known_78 refS_6 rfl ?_
    refine q_rret F dX4_known_80 rfl ?_
    first
      | exact ⟨_, _, rfl, rfl, by omega, rfl⟩
  · refine q_tableIn (t := 81) F dX4_known_1 (by first | exact hR _ _ _ | (constructor <;> omega)) (by omega) (by omega) (by rw [c1]; rfl) (by decide) ?_
    refine q_ldcS (t := 83) 7 F dX4_known_81 refS_7 rfl ?_
    refine q_rret F dX4_known_83 rfl ?_
    first
      | exact ⟨_, _, rfl, rfl, by omega, rfl⟩
  · refine q_tableIn (t := 84) F dX4_known_1 (by first | exact hR _ _ _ | (constructor <;> omega)) (by omega) (by omega) (by rw [c1]; rfl) (by decide) ?_
    refine q_ldcS (t := 86) 8 F dX4_known_84 refS_8 rfl ?_
    refine q_rret F dX4_known_86 rfl ?_
    first
      | exact ⟨_, _, rfl, rfl, by omega, rfl⟩
  · refine q_tableIn (t := 87) F dX4_known_1 (by first | exact hR _ _ _ | (constructor <;> omega)) (by omega) (by omega) (by rw [c1]; rfl) (by decide) ?_
    refine q_ldcS (t := 89) 9 F dX4_known_87 refS_9 rfl ?_
    refine q_rret F dX4_known_89 rfl ?_
    first
      | exact ⟨_, _, rfl, rfl, by omega, rfl⟩
  · refine q_tableIn (t := 90) F dX4_known_1 (by first | exact hR _ _ _ | (constructor <;> omega)) (by omega) (by omega) (by rw [c1]; rfl) (by decide) ?_
    refine q_ldcS (t := 92) 10 F dX4_known_90 refS_10 rfl ?_
    refine q_rret F dX4_known_92 rfl ?_
    first
      | exact ⟨_, _, rfl, rfl, by omega, rfl⟩

set_option maxHeartbeats 4000000 in
theorem c_X4_stands (l : Launch) (G : GS) (im : IM) (bt j : Nat) (lm : IM) (b : Nat → Int) (n : Nat) (hb : byt b n) (hR : RI im) (hb2 : im 15 0 = b) (p q i : Nat) (hi : i < 12) (hpq : p < q) (hqn : q ≤ n) (hnx : im 14 0 2 = q) (hst : im 14 0 3 = p) : Cn l (XC G) yX4_stands Y_X4_stands [vR 14 0, vR 99 i] (im, rs bt j, lm) (pI fun x m' => x = (if stdS b p q i then 1 else 0) ∧ m' = (im, rs bt j, lm)) := by
  refine cn_of (by decide) (okC G) rfl (Nat.le_of_ble_eq_true rfl) ?_
  intro M ad hMl F
  subst hMl
  have hn := hb.1
  have e15 : ∀ s, im 15 0 s = b s := fun s => congrFun hb2 s
  have hL := len_in i (by omega)
  refine wp_pad 1 ?_
  show Wp M (XC G) ad Y_X4_stands (pI fun x m' => x = (if stdS b p q i then 1 else 0) ∧ m' = (im, rs bt j, lm)) 0 [some (vR 14 0), some (vR 99 i), none] [] (im, rs bt j, lm)
  refine q_aload_n (t := 1) F dX4_stands_0 rfl rfl rfl ?_
  refine wp_callK (t := 4) [] F (by omega) rfl dX4_stands_1 k_J0_length_8abf5 v_J0_length_8abf5 ml_X4_108 rfl rfl (Nat.le_of_ble_eq_true rfl) (by decide) (c_J0_length_8abf5 _ G _ i (by omega)) rfl (kI ?_)
  rintro x1 m' ⟨rfl, rfl⟩
  refine q_aload_n (t := 5) F dX4_stands_4 rfl rfl rfl ?_
  refine g_X4_31 (t := 8) F dX4_stands_5 rfl rfl ?_
  try simp only [up_app, row_app, scr_app, cpy_app, Nat.reduceEqDiff, Int.reduceToNat, Int.toNat_natCast, and_true, true_and, and_false, false_and, and_self, reduceIte]
  refine q_aload_n (t := 9) F dX4_stands_8 rfl rfl rfl ?_
  refine g_X4_57 (t := 12) F dX4_stands_9 rfl rfl ?_
  try simp only [up_app, row_app, scr_app, cpy_app, Nat.reduceEqDiff, Int.reduceToNat, Int.toNat_natCast, and_true, true_and, and_false, false_and, and_self, reduceIte]
  refine q_isub (t := 13) F dX4_stands_12 rfl ?_
  refine q_icmp_eq (t := 16) (u := 18) F dX4_stands_13 (by constructor <;> omega) (by constructor <;> omega) (by decide) rfl (fun c13 => ?_) (fun c13 => ?_)
  · refine q_iconst (t := 19) F dX4_stands_18 rfl ?_
    refine q_istore_n (t := 20) F dX4_stands_19 rfl (by decide) rfl rfl ?_
    have L20 : ∀ (fz : Nat) (k : Nat), 160 - k < fz → k ≤ lenS.getD i 0 → (∀ s, s < k → b (p + s) = letS i s) → Wp M (XC G) ad Y_X4_stands (pI fun x m' => x = (if stdS b p q i then 1 else 0) ∧ m' = (im, rs bt j, lm)) 20 [some (vR 14 0), some (vR 99 i), some (vI (k : Int))] [] (im, rs bt j, lm) := by
      intro fz
      induction fz with
      | zero => intro k h; exact absurd h (Nat.not_lt_zero _)
      | succ fz ih =>
        have ih20 := ih
        intro k hmeas hk hall
        refine q_iload_n (t := 21) F dX4_stands_20 rfl rfl rfl ?_
        refine q_aload_n (t := 22) F dX4_stands_21 rfl rfl rfl ?_
        refine wp_callK (t := 25) [] F (by omega) rfl dX4_stands_22 k_J0_length_8abf5 v_J0_length_8abf5 ml_X4_108 rfl rfl (Nat.le_of_ble_eq_true rfl) (by decide) (c_J0_length_8abf5 _ G _ i (by omega)) rfl (kI ?_)
        rintro x22 m' ⟨rfl, rfl⟩
        refine q_icmp_ge (t := 28) (u := 55) F dX4_stands_25 (by constructor <;> omega) (by constructor <;> omega) (by decide) rfl (fun c25 => ?_) (fun c25 => ?_)
        · refine q_iconst (t := 56) F dX4_stands_55 rfl ?_
          refine q_zret F dX4_stands_56 rfl (by decide) ?_
          exact ⟨_, rfl, by rw [if_pos ⟨by omega, fun s hs => hall s (by omega)⟩], rfl⟩
        · refine q_aload_n (t := 29) F dX4_stands_28 rfl rfl rfl ?_
          refine g_X4_9 (t := 32) F dX4_stands_29 rfl rfl ?_
          refine q_aload_n (t := 33) F dX4_stands_32 rfl rfl rfl ?_
          refine g_X4_57 (t := 36) F dX4_stands_33 rfl rfl ?_
          try simp only [up_app, row_app, scr_app, cpy_app, Nat.reduceEqDiff, Int.reduceToNat, Int.toNat_natCast, and_true, true_and, and_false, false_and, and_self, reduceIte]
          refine q_iload_n (t := 37) F dX4_stands_36 rfl rfl rfl ?_
          rw [hst]
          refine q_iadd (t := 38) F dX4_stands_37 rfl ?_
          rw [show (p : Int) + (k : Int) = ((p + k : Nat) : Int) by omega]
          first | refine ldN_15 (t := 39) F dX4_stands_38 (by omega) rfl ?_ | refine ld_15 (t := 39) F dX4_stands_38 (by omega) (by omega) rfl ?_
          try simp only [up_app, row_app, scr_app, cpy_app, Nat.reduceEqDiff, Int.reduceToNat, Int.toNat_natCast, and_true, true_and, and_false, false_and, and_self, reduceIte]
          rw [e15]
          refine q_aload_n (t := 40) F dX4_stands_39 rfl rfl rfl ?_
          refine q_iload_n (t := 41) F dX4_stands_40 rfl rfl rfl ?_
          refine wp_callK (t := 44) [_] F (by omega) rfl dX4_stands_41 k_J0_charAt_5068e v_J0_charAt_5068e ml_X4_114 rfl rfl (Nat.le_of_ble_eq_true rfl) (by decide) (c_J0_charAt_5068e _ G _ i k (by omega) (by omega)) rfl (kI ?_)
          rintro x41 m' ⟨rfl, rfl⟩
          refine q_icmp_eq (t := 47) (u := 49) F dX4_stands_44 (by have := hb.2 (p + k) (by omega); constructor <;> omega) (by have : 0 ≤ letS i k ∧ letS i k < 128 := let_in (by omega) (by omega); constructor <;> omega) (by decide) rfl (fun c44 => ?_) (fun c44 => ?_)
          · refine q_iinc (t := 52) F dX4_stands_49 rfl (by decide) rfl rfl ?_
            refine q_goto (t := 20) F dX4_stands_52 (by decide) ?_
            refine ih20 (k + 1) (by omega) (by omega) (fun s hs => ?_)
            by_cases h : s = k
            · subst h; assumption
            · exact hall s (by omega)
          · refine q_iconst (t := 48) F dX4_stands_47 rfl ?_
            refine q_zret F dX4_stands_48 rfl (by decide) ?_
            exact ⟨_, rfl, by rw [if_neg (fun z => by have := z.2 k (by omega); omega)], rfl⟩
    exact L20 _ 0 (Nat.lt_succ_self _) (by omega) (fun s hs => absurd hs (Nat.not_lt_zero _))
  · refine q_iconst (t := 17) F dX4_stands_16 rfl ?_
    refine q_zret F dX4_stands_17 rfl (by decide) ?_
    exact ⟨_, rfl, by rw [if_neg (fun z => by have := z.1; omega)], rfl⟩

set_option maxHeartbeats 4000000 in
theorem c_X4_readWord (l : Launch) (G : GS) (im : IM) (bt j : Nat) (lm : IM) (b : Nat → Int) (n : Nat) (hb : byt b n) (hR : RI im) (hb2 : im 15 0 = b) (hsz : im 14 0 1 = n) (p : Nat) (hp : p < n) (hpl : isL (b p) = true) (hnx : im 14 0 2 = p) (hst : im 14 0 3 = p) : Cn l (XC G) yX4_readWord Y_X4_readWord [vR 14 0] (im, rs bt j, lm) (pV fun m' => ∃ im', RI im' ∧ (∀ k i s, ¬ (k = 14 ∧ (s = 2 ∨ s = 4 ∨ s = 5)) → im' k i s = im k i s) ∧ im' 14 0 2 = span isL b n p ∧ im' 14 0 4 = tkW (wIx b p (span isL b n p) 12) ∧ (wIx b p (span isL b n p) 12 ≠ -1 → im' 14 0 5 = wIx b p (span isL b n p) 12) ∧ m' = (im', rs bt j, lm)) := by
  refine cn_of (by decide) (okC G) rfl (Nat.le_of_ble_eq_true rfl) ?_
  intro M ad hMl F
  subst hMl
  have hn := hb.1
  have e15 : ∀ s, im 15 0 s = b s := fun s => congrFun hb2 s
  refine wp_pad 1 ?_
  show Wp M (XC G) ad Y_X4_readWord (pV fun m' => ∃ im', RI im' ∧ (∀ k i s, ¬ (k = 14 ∧ (s = 2 ∨ s = 4 ∨ s = 5)) → im' k i s = im k i s) ∧ im' 14 0 2 = span isL b n p ∧ im' 14 0 4 = tkW (wIx b p (span isL b n p) 12) ∧ (wIx b p (span isL b n p) 12 ≠ -1 → im' 14 0 5 = wIx b p (span isL b n p) 12) ∧ m' = (im', rs bt j, lm)) 0 [some (vR 14 0), none] [] (im, rs bt j, lm)
  have L0 : ∀ (fz : Nat) (q : Nat) (im2 : IM), n - q < fz → p ≤ q → q ≤ n → RI im2 → (∀ k i s, ¬ (k = 14 ∧ (s = 2 ∨ s = 4 ∨ s = 5)) → im2 k i s = im k i s) → im2 14 0 2 = q → span isL b n p = span isL b n q → Wp M (XC G) ad Y_X4_readWord (pV fun m' => ∃ im', RI im' ∧ (∀ k i s, ¬ (k = 14 ∧ (s = 2 ∨ s = 4 ∨ s = 5)) → im' k i s = im k i s) ∧ im' 14 0 2 = span isL b n p ∧ im' 14 0 4 = tkW (wIx b p (span isL b n p) 12) ∧ (wIx b p (span isL b n p) 12 ≠ -1 → im' 14 0 5 = wIx b p (span isL b n p) 12) ∧ m' = (im', rs bt j, lm)) 0 [some (vR 14 0), none] [] (im2, rs bt j, lm) := by
    intro fz
    induction fz with
    | zero => intro q im2 h; exact absurd h (Nat.not_lt_zero _)
    | succ fz ih =>
      have ih0 := ih
      intro q im2 hmeas hpq hqn hR2 hag g2 hspn
      have g15 : ∀ s, im2 15 0 s = b s := fun s => (hag 15 0 s (by omega)).trans (e15 s)
      have g1 : im2 14 0 1 = n := (hag 14 0 1 (by omega)).trans hsz
      have g3 : im2 14 0 3 = p := (hag 14 0 3 (by omega)).trans hst
      refine q_aload_n (t := 1) F dX4_readWord_0 rfl rfl rfl ?_
      refine g_X4_31 (t := 4) F dX4_readWord_1 rfl rfl ?_
      refine q_aload_n (t := 5) F dX4_readWord_4 rfl rfl rfl ?_
      refine g_X4_19 (t := 8) F dX4_readWord_5 rfl rfl ?_
      refine q_icmp_ge (t := 11) (u := 39) F dX4_readWord_8 (by constructor <;> omega) (by exact hR2 _ _ _) (by decide) rfl (fun c8 => ?_) (fun c8 => ?_)
      · have hspq : span isL b n p = q := by
          rw [hspn]
          refine span_n (fun z => ?_)
          first
            | omega
            | (rcases hx20 with h | h
               · omega
               · exact h.2 z.2)
        have hpq2 : p < q := by
          rw [← hspq, span_y hp hpl]
          have := (span_in isL b n _ (p + 1) rfl).1
          omega
        refine q_aload_n (t := 40) F dX4_readWord_39 rfl rfl rfl ?_
        refine q_iconst (t := 41) F dX4_readWord_40 rfl ?_
        refine p_X4_54 (t := 44) F dX4_readWord_41 rfl rfl ?_
        refine q_iconst (t := 45) F dX4_readWord_44 rfl ?_
        refine q_istore_n (t := 46) F dX4_readWord_45 rfl (by decide) rfl rfl ?_
        have L46 : ∀ (fz : Nat) (i : Nat) (im3 : IM), 12 - i < fz → i ≤ 12 → RI im3 → (∀ k i s, ¬ (k = 14 ∧ (s = 2 ∨ s = 4 ∨ s = 5)) → im3 k i s = im k i s) → im3 14 0 2 = q → im3 14 0 4 = tkW (wIx b p q i) → (wIx b p q i ≠ -1 → im3 14 0 5 = wIx b p q i) → Wp M (XC G) ad Y_X4_readWord (pV fun m' => ∃ im', RI im' ∧ (∀ k i s, ¬ (k = 14 ∧ (s = 2 ∨ s = 4 ∨ s = 5)) → im' k i s = im k i s) ∧ im' 14 0 2 = span isL b n p ∧ im' 14 0 4 = tkW (wIx b p (span isL b n p) 12) ∧ (wIx b p (span isL b n p) 12 ≠ -1 → im' 14 0 5 = wIx b p (span isL b n p) 12) ∧ m' = (im', rs bt j, lm)) 46 [some (vR 14 0), some (vI (i : Int))] [] (im3, rs bt j, lm) := by
          intro fz
          induction fz with
          | zero => intro i im3 h; exact absurd h (Nat.not_lt_zero _)
          | succ fz ih =>
            have ih46 := ih
            intro i im3 hmeas hi hR3 hag3 g32 g34 g36
            have g35 : ∀ s, im3 15 0 s = b s := fun s => (hag3 15 0 s (by omega)).trans (e15 s)
            have g33 : im3 14 0 3 = p := (hag3 14 0 3 (by omega)).trans hst
            refine q_iload_n (t := 47) F dX4_readWord_46 rfl rfl rfl ?_
            refine q_bipush (t := 49) F dX4_readWord_47 (by decide) rfl ?_
            refine q_icmp_ge (t := 52) (u := 97) F dX4_readWord_49 (by constructor <;> omega) (by constructor <;> omega) (by decide) rfl (fun c49 => ?_) (fun c49 => ?_)
            · refine q_vret F dX4_readWord_97 rfl ?_
              obtain rfl : i = 12 := by omega
              refine ⟨rfl, im3, hR3, hag3, ?_, ?_, ?_, rfl⟩
              · rw [hspq]; exact g32
              · rw [hspq]; exact g34
              · rw [hspq]; exact g36
            · refine q_aload_n (t := 53) F dX4_readWord_52 rfl rfl rfl ?_
              refine q_iload_n (t := 54) F dX4_readWord_53 rfl rfl rfl ?_
              refine wp_callS (t := 57) [_] F dX4_readWord_54 k_X4_known st_X4_known ml_X4_100 rfl rfl (Nat.le_of_ble_eq_true rfl) (by decide) (c_X4_known _ G im3 bt j lm i (by omega)) rfl (kR ?_)
              rintro k0 i0 m' ⟨rfl, rfl, rfl⟩
              refine wp_callV (t := 60) [_] F dX4_readWord_57 k_X4_stands v_X4_stands ml_X4_104 rfl rfl rfl rfl (Nat.le_of_ble_eq_true rfl) (by decide) (m_14 (by omega)) (c_X4_stands _ G im3 bt j lm b n hb hR3 (funext g35) p q i0 (by omega) hpq2 hqn g32 g33) rfl (kI ?_)
              rintro x57 m' ⟨hx57, rfl⟩
              have hx57 := if01 hx57
              refine q_if_ne (t := 63) (u := 66) F dX4_readWord_60 (by first | exact hR _ _ _ | (constructor <;> omega)) (by decide) rfl (fun c60 => ?_) (fun c60 => ?_)
              · refine q_aload_n (t := 67) F dX4_readWord_66 rfl rfl rfl ?_
                refine q_iload_n (t := 68) F dX4_readWord_67 rfl rfl rfl ?_
                refine q_bipush (t := 70) F dX4_readWord_68 (by decide) rfl ?_
                refine q_icmp_ge (t := 73) (u := 77) F dX4_readWord_70 (by first | exact hR _ _ _ | (constructor <;> omega)) (by first | exact hR _ _ _ | (constructor <;> omega)) (by decide) rfl (fun c70 => ?_) (fun c70 => ?_)
                · refine q_iconst (t := 78) F dX4_readWord_77 rfl ?_
                  refine q_iload_n (t := 79) F dX4_readWord_78 rfl rfl rfl ?_
                  refine q_iadd (t := 80) F dX4_readWord_79 rfl ?_
                  refine q_bipush (t := 82) F dX4_readWord_80 (by decide) rfl ?_
                  refine q_isub (t := 83) F dX4_readWord_82 rfl ?_
                  refine p_X4_54 (t := 86) F dX4_readWord_83 rfl rfl ?_
                  refine q_aload_n (t := 87) F dX4_readWord_86 rfl rfl rfl ?_
                  refine q_iload_n (t := 88) F dX4_readWord_87 rfl rfl rfl ?_
                  refine p_X4_82 (t := 91) F dX4_readWord_88 rfl rfl ?_
                  refine q_iinc (t := 94) F dX4_readWord_91 rfl (by decide) rfl rfl ?_
                  refine q_goto (t := 46) F dX4_readWord_94 (by decide) ?_
                  first
                    | (have hns : ¬ stdS b p q i0 := by
                         rcases hx57 with h | h
                         · omega
                         · exact h.2
                       refine ih46 (i0 + 1) im3 (by omega) (by omega) hR3 hag3 g32 ?_ ?_
                       · rw [wIx_s, if_neg hns]; exact g34
                       · rw [wIx_s, if_neg hns]; exact g36)
                    | (have hst2 : stdS b p q i0 := by
                         rcases hx57 with h | h
                         · exact h.2
                         · omega
                       refine ih46 (i0 + 1) _ (by omega) (by omega) (RI_up (RI_up hR3 (by constructor <;> omega)) (by constructor <;> omega)) (fun k i s h => by rw [up_app, if_neg (by omega), up_app, if_neg (by omega)]; exact hag3 k i s h) ?_ ?_ ?_
                       · rw [up_app, if_neg (by omega), up_app, if_neg (by omega)]; exact g32
                       · rw [up_app, if_neg (by omega), up_app, if_pos ⟨rfl, rfl, rfl⟩, wIx_s, if_pos hst2]
                         unfold tkW
                         (repeat' split) <;> omega
                       · intro _
                         rw [up_app, if_pos ⟨rfl, rfl, rfl⟩, wIx_s, if_pos hst2])
                · refine q_iconst (t := 74) F dX4_readWord_73 rfl ?_
                  refine q_goto (t := 83) F dX4_readWord_74 (by decide) ?_
                  refine p_X4_54 (t := 86) F dX4_readWord_83 rfl rfl ?_
                  refine q_aload_n (t := 87) F dX4_readWord_86 rfl rfl rfl ?_
                  refine q_iload_n (t := 88) F dX4_readWord_87 rfl rfl rfl ?_
                  refine p_X4_82 (t := 91) F dX4_readWord_88 rfl rfl ?_
                  refine q_iinc (t := 94) F dX4_readWord_91 rfl (by decide) rfl rfl ?_
                  refine q_goto (t := 46) F dX4_readWord_94 (by decide) ?_
                  first
                    | (have hns : ¬ stdS b p q i0 := by
                         rcases hx57 with h | h
                         · omega
                         · exact h.2
                       refine ih46 (i0 + 1) im3 (by omega) (by omega) hR3 hag3 g32 ?_ ?_
                       · rw [wIx_s, if_neg hns]; exact g34
                       · rw [wIx_s, if_neg hns]; exact g36)
                    | (have hst2 : stdS b p q i0 := by
                         rcases hx57 with h | h
                         · exact h.2
                         · omega
                       refine ih46 (i0 + 1) _ (by omega) (by omega) (RI_up (RI_up hR3 (by constructor <;> omega)) (by constructor <;> omega)) (fun k i s h => by rw [up_app, if_neg (by omega), up_app, if_neg (by omega)]; exact hag3 k i s h) ?_ ?_ ?_
                       · rw [up_app, if_neg (by omega), up_app, if_neg (by omega)]; exact g32
                       · rw [up_app, if_neg (by omega), up_app, if_pos ⟨rfl, rfl, rfl⟩, wIx_s, if_pos hst2]
                         unfold tkW
                         (repeat' split) <;> omega
                       · intro _
                         rw [up_app, if_pos ⟨rfl, rfl, rfl⟩, wIx_s, if_pos hst2])
              · refine q_goto (t := 91) F dX4_readWord_63 (by decide) ?_
                refine q_iinc (t := 94) F dX4_readWord_91 rfl (by decide) rfl rfl ?_
                refine q_goto (t := 46) F dX4_readWord_94 (by decide) ?_
                first
                  | (have hns : ¬ stdS b p q i0 := by
                       rcases hx57 with h | h
                       · omega
                       · exact h.2
                     refine ih46 (i0 + 1) im3 (by omega) (by omega) hR3 hag3 g32 ?_ ?_
                     · rw [wIx_s, if_neg hns]; exact g34
                     · rw [wIx_s, if_neg hns]; exact g36)
                  | (have hst2 : stdS b p q i0 := by
                       rcases hx57 with h | h
                       · exact h.2
                       · omega
                     refine ih46 (i0 + 1) _ (by omega) (by omega) (RI_up (RI_up hR3 (by constructor <;> omega)) (by constructor <;> omega)) (fun k i s h => by rw [up_app, if_neg (by omega), up_app, if_neg (by omega)]; exact hag3 k i s h) ?_ ?_ ?_
                     · rw [up_app, if_neg (by omega), up_app, if_neg (by omega)]; exact g32
                     · rw [up_app, if_neg (by omega), up_app, if_pos ⟨rfl, rfl, rfl⟩, wIx_s, if_pos hst2]
                       unfold tkW
                       (repeat' split) <;> omega
                     · intro _
                       rw [up_app, if_pos ⟨rfl, rfl, rfl⟩, wIx_s, if_pos hst2])
        exact L46 _ 0 _ (Nat.lt_succ_self _) (by omega) (RI_up hR2 (by constructor <;> omega)) (fun k i s h => by rw [up_app, if_neg (by omega)]; exact hag k i s h) (by rw [up_app, if_neg (by omega)]; exact g2) (by rw [up_app, if_pos ⟨rfl, rfl, rfl⟩]; rfl) (fun h => absurd rfl h)
      · refine q_aload_n (t := 12) F dX4_readWord_11 rfl rfl rfl ?_
        refine g_X4_9 (t := 15) F dX4_readWord_12 rfl rfl ?_
        refine q_aload_n (t := 16) F dX4_readWord_15 rfl rfl rfl ?_
        refine g_X4_31 (t := 19) F dX4_readWord_16 rfl rfl ?_
        rw [g2]
        first | refine ldN_15 (t := 20) F dX4_readWord_19 (by omega) rfl ?_ | refine ld_15 (t := 20) F dX4_readWord_19 (by omega) (by omega) rfl ?_
        rw [g15]
        refine wp_callS (t := 23) [_] F dX4_readWord_20 k_X4_isLetter st_X4_isLetter ml_X4_85 rfl rfl (Nat.le_of_ble_eq_true rfl) (by decide) (c_X4_isLetter _ G im2 bt j lm (b q) (by have := hb.2 q (by omega); constructor <;> omega)) rfl (kI ?_)
        rintro x20 m' ⟨hx20, rfl⟩
        have hx20 := if01 hx20
        refine q_if_eq (t := 26) (u := 39) F dX4_readWord_23 (by first | exact hR _ _ _ | (constructor <;> omega)) (by decide) rfl (fun c23 => ?_) (fun c23 => ?_)
        · have hspq : span isL b n p = q := by
            rw [hspn]
            refine span_n (fun z => ?_)
            first
              | omega
              | (rcases hx20 with h | h
                 · omega
                 · exact h.2 z.2)
          have hpq2 : p < q := by
            rw [← hspq, span_y hp hpl]
            have := (span_in isL b n _ (p + 1) rfl).1
            omega
          refine q_aload_n (t := 40) F dX4_readWord_39 rfl rfl rfl ?_
          refine q_iconst (t := 41) F dX4_readWord_40 rfl ?_
          refine p_X4_54 (t := 44) F dX4_readWord_41 rfl rfl ?_
          refine q_iconst (t := 45) F dX4_readWord_44 rfl ?_
          refine q_istore_n (t := 46) F dX4_readWord_45 rfl (by decide) rfl rfl ?_
          have L46 : ∀ (fz : Nat) (i : Nat) (im3 : IM), 12 - i < fz → i ≤ 12 → RI im3 → (∀ k i s, ¬ (k = 14 ∧ (s = 2 ∨ s = 4 ∨ s = 5)) → im3 k i s = im k i s) → im3 14 0 2 = q → im3 14 0 4 = tkW (wIx b p q i) → (wIx b p q i ≠ -1 → im3 14 0 5 = wIx b p q i) → Wp M (XC G) ad Y_X4_readWord (pV fun m' => ∃ im', RI im' ∧ (∀ k i s, ¬ (k = 14 ∧ (s = 2 ∨ s = 4 ∨ s = 5)) → im' k i s = im k i s) ∧ im' 14 0 2 = span isL b n p ∧ im' 14 0 4 = tkW (wIx b p (span isL b n p) 12) ∧ (wIx b p (span isL b n p) 12 ≠ -1 → im' 14 0 5 = wIx b p (span isL b n p) 12) ∧ m' = (im', rs bt j, lm)) 46 [some (vR 14 0), some (vI (i : Int))] [] (im3, rs bt j, lm) := by
            intro fz
            induction fz with
            | zero => intro i im3 h; exact absurd h (Nat.not_lt_zero _)
            | succ fz ih =>
              have ih46 := ih
              intro i im3 hmeas hi hR3 hag3 g32 g34 g36
              have g35 : ∀ s, im3 15 0 s = b s := fun s => (hag3 15 0 s (by omega)).trans (e15 s)
              have g33 : im3 14 0 3 = p := (hag3 14 0 3 (by omega)).trans hst
              refine q_iload_n (t := 47) F dX4_readWord_46 rfl rfl rfl ?_
              refine q_bipush (t := 49) F dX4_readWord_47 (by decide) rfl ?_
              refine q_icmp_ge (t := 52) (u := 97) F dX4_readWord_49 (by constructor <;> omega) (by constructor <;> omega) (by decide) rfl (fun c49 => ?_) (fun c49 => ?_)
              · refine q_vret F dX4_readWord_97 rfl ?_
                obtain rfl : i = 12 := by omega
                refine ⟨rfl, im3, hR3, hag3, ?_, ?_, ?_, rfl⟩
                · rw [hspq]; exact g32
                · rw [hspq]; exact g34
                · rw [hspq]; exact g36
              · refine q_aload_n (t := 53) F dX4_readWord_52 rfl rfl rfl ?_
                refine q_iload_n (t := 54) F dX4_readWord_53 rfl rfl rfl ?_
                refine wp_callS (t := 57) [_] F dX4_readWord_54 k_X4_known st_X4_known ml_X4_100 rfl rfl (Nat.le_of_ble_eq_true rfl) (by decide) (c_X4_known _ G im3 bt j lm i (by omega)) rfl (kR ?_)
                rintro k0 i0 m' ⟨rfl, rfl, rfl⟩
                refine wp_callV (t := 60) [_] F dX4_readWord_57 k_X4_stands v_X4_stands ml_X4_104 rfl rfl rfl rfl (Nat.le_of_ble_eq_true rfl) (by decide) (m_14 (by omega)) (c_X4_stands _ G im3 bt j lm b n hb hR3 (funext g35) p q i0 (by omega) hpq2 hqn g32 g33) rfl (kI ?_)
                rintro x57 m' ⟨hx57, rfl⟩
                have hx57 := if01 hx57
                refine q_if_ne (t := 63) (u := 66) F dX4_readWord_60 (by first | exact hR _ _ _ | (constructor <;> omega)) (by decide) rfl (fun c60 => ?_) (fun c60 => ?_)
                · refine q_aload_n (t := 67) F dX4_readWord_66 rfl rfl rfl ?_
                  refine q_iload_n (t := 68) F dX4_readWord_67 rfl rfl rfl ?_
                  refine q_bipush (t := 70) F dX4_readWord_68 (by decide) rfl ?_
                  refine q_icmp_ge (t := 73) (u := 77) F dX4_readWord_70 (by first | exact hR _ _ _ | (constructor <;> omega)) (by first | exact hR _ _ _ | (constructor <;> omega)) (by decide) rfl (fun c70 => ?_) (fun c70 => ?_)
                  · refine q_iconst (t := 78) F dX4_readWord_77 rfl ?_
                    refine q_iload_n (t := 79) F dX4_readWord_78 rfl rfl rfl ?_
                    refine q_iadd (t := 80) F dX4_readWord_79 rfl ?_
                    refine q_bipush (t := 82) F dX4_readWord_80 (by decide) rfl ?_
                    refine q_isub (t := 83) F dX4_readWord_82 rfl ?_
                    refine p_X4_54 (t := 86) F dX4_readWord_83 rfl rfl ?_
                    refine q_aload_n (t := 87) F dX4_readWord_86 rfl rfl rfl ?_
                    refine q_iload_n (t := 88) F dX4_readWord_87 rfl rfl rfl ?_
                    refine p_X4_82 (t := 91) F dX4_readWord_88 rfl rfl ?_
                    refine q_iinc (t := 94) F dX4_readWord_91 rfl (by decide) rfl rfl ?_
                    refine q_goto (t := 46) F dX4_readWord_94 (by decide) ?_
                    first
                      | (have hns : ¬ stdS b p q i0 := by
                           rcases hx57 with h | h
                           · omega
                           · exact h.2
                         refine ih46 (i0 + 1) im3 (by omega) (by omega) hR3 hag3 g32 ?_ ?_
                         · rw [wIx_s, if_neg hns]; exact g34
                         · rw [wIx_s, if_neg hns]; exact g36)
                      | (have hst2 : stdS b p q i0 := by
                           rcases hx57 with h | h
                           · exact h.2
                           · omega
                         refine ih46 (i0 + 1) _ (by omega) (by omega) (RI_up (RI_up hR3 (by constructor <;> omega)) (by constructor <;> omega)) (fun k i s h => by rw [up_app, if_neg (by omega), up_app, if_neg (by omega)]; exact hag3 k i s h) ?_ ?_ ?_
                         · rw [up_app, if_neg (by omega), up_app, if_neg (by omega)]; exact g32
                         · rw [up_app, if_neg (by omega), up_app, if_pos ⟨rfl, rfl, rfl⟩, wIx_s, if_pos hst2]
                           unfold tkW
                           (repeat' split) <;> omega
                         · intro _
                           rw [up_app, if_pos ⟨rfl, rfl, rfl⟩, wIx_s, if_pos hst2])
                  · refine q_iconst (t := 74) F dX4_readWord_73 rfl ?_
                    refine q_goto (t := 83) F dX4_readWord_74 (by decide) ?_
                    refine p_X4_54 (t := 86) F dX4_readWord_83 rfl rfl ?_
                    refine q_aload_n (t := 87) F dX4_readWord_86 rfl rfl rfl ?_
                    refine q_iload_n (t := 88) F dX4_readWord_87 rfl rfl rfl ?_
                    refine p_X4_82 (t := 91) F dX4_readWord_88 rfl rfl ?_
                    refine q_iinc (t := 94) F dX4_readWord_91 rfl (by decide) rfl rfl ?_
                    refine q_goto (t := 46) F dX4_readWord_94 (by decide) ?_
                    first
                      | (have hns : ¬ stdS b p q i0 := by
                           rcases hx57 with h | h
                           · omega
                           · exact h.2
                         refine ih46 (i0 + 1) im3 (by omega) (by omega) hR3 hag3 g32 ?_ ?_
                         · rw [wIx_s, if_neg hns]; exact g34
                         · rw [wIx_s, if_neg hns]; exact g36)
                      | (have hst2 : stdS b p q i0 := by
                           rcases hx57 with h | h
                           · exact h.2
                           · omega
                         refine ih46 (i0 + 1) _ (by omega) (by omega) (RI_up (RI_up hR3 (by constructor <;> omega)) (by constructor <;> omega)) (fun k i s h => by rw [up_app, if_neg (by omega), up_app, if_neg (by omega)]; exact hag3 k i s h) ?_ ?_ ?_
                         · rw [up_app, if_neg (by omega), up_app, if_neg (by omega)]; exact g32
                         · rw [up_app, if_neg (by omega), up_app, if_pos ⟨rfl, rfl, rfl⟩, wIx_s, if_pos hst2]
                           unfold tkW
                           (repeat' split) <;> omega
                         · intro _
                           rw [up_app, if_pos ⟨rfl, rfl, rfl⟩, wIx_s, if_pos hst2])
                · refine q_goto (t := 91) F dX4_readWord_63 (by decide) ?_
                  refine q_iinc (t := 94) F dX4_readWord_91 rfl (by decide) rfl rfl ?_
                  refine q_goto (t := 46) F dX4_readWord_94 (by decide) ?_
                  first
                    | (have hns : ¬ stdS b p q i0 := by
                         rcases hx57 with h | h
                         · omega
                         · exact h.2
                       refine ih46 (i0 + 1) im3 (by omega) (by omega) hR3 hag3 g32 ?_ ?_
                       · rw [wIx_s, if_neg hns]; exact g34
                       · rw [wIx_s, if_neg hns]; exact g36)
                    | (have hst2 : stdS b p q i0 := by
                         rcases hx57 with h | h
                         · exact h.2
                         · omega
                       refine ih46 (i0 + 1) _ (by omega) (by omega) (RI_up (RI_up hR3 (by constructor <;> omega)) (by constructor <;> omega)) (fun k i s h => by rw [up_app, if_neg (by omega), up_app, if_neg (by omega)]; exact hag3 k i s h) ?_ ?_ ?_
                       · rw [up_app, if_neg (by omega), up_app, if_neg (by omega)]; exact g32
                       · rw [up_app, if_neg (by omega), up_app, if_pos ⟨rfl, rfl, rfl⟩, wIx_s, if_pos hst2]
                         unfold tkW
                         (repeat' split) <;> omega
                       · intro _
                         rw [up_app, if_pos ⟨rfl, rfl, rfl⟩, wIx_s, if_pos hst2])
          exact L46 _ 0 _ (Nat.lt_succ_self _) (by omega) (RI_up hR2 (by constructor <;> omega)) (fun k i s h => by rw [up_app, if_neg (by omega)]; exact hag k i s h) (by rw [up_app, if_neg (by omega)]; exact g2) (by rw [up_app, if_pos ⟨rfl, rfl, rfl⟩]; rfl) (fun h => absurd rfl h)
        · refine q_aload_n (t := 27) F dX4_readWord_26 rfl rfl rfl ?_
          refine q_dupR (t := 28) F dX4_readWord_27 rfl ?_
          refine g_X4_31 (t := 31) F dX4_readWord_28 rfl rfl ?_
          try simp only [up_app, row_app, scr_app, cpy_app, Nat.reduceEqDiff, Int.reduceToNat, Int.toNat_natCast, and_true, true_and, and_false, false_and, and_self, reduceIte]
          refine q_iconst (t := 32) F dX4_readWord_31 rfl ?_
          refine q_iadd (t := 33) F dX4_readWord_32 rfl ?_
          refine p_X4_31 (t := 36) F dX4_readWord_33 rfl rfl ?_
          refine q_goto (t := 0) F dX4_readWord_36 (by decide) ?_
          refine ih0 (q + 1) _ (by omega) (by omega) (by omega) (RI_up hR2 (by constructor <;> omega)) (fun k i s h => by rw [up_app, if_neg (by omega)]; exact hag k i s h) ?_ ?_
          · rw [up_app, if_pos ⟨rfl, rfl, rfl⟩, g2]; omega
          · rw [hspn, span_y (by omega) (by rcases hx20 with h | h
                                            · exact h.2
                                            · omega)]
  exact L0 _ p im (Nat.lt_succ_self _) (Nat.le_refl _) (by omega) hR (fun k i s h => rfl) hnx rfl
end
section
/-! the next token -/
theorem RS_end {b : Nat → Int} {n p : Nat} {im : IM} {f : Int} (h : n ≤ p) (h2 : im 14 0 2 = p) (h3 : im 14 0 3 = p) (h4 : im 14 0 4 = 0) (h6 : im 14 0 6 = f) : RS b n im p f := by
  have e : tk b n p = 0 := tk_0 h
  refine ⟨?_, h3, by rw [e]; exact h4, fun q => by rw [e] at q; omega, h6⟩
  unfold nx
  rw [if_pos h]; exact h2
theorem RS_L {b : Nat → Int} {n p : Nat} {im : IM} {f : Int} (h : p < n) (hl : isL (b p) = true) (h2 : im 14 0 2 = span isL b n p) (h3 : im 14 0 3 = p) (h4 : im 14 0 4 = tkW (wIx b p (span isL b n p) 12)) (h5 : wIx b p (span isL b n p) 12 ≠ -1 → im 14 0 5 = wIx b p (span isL b n p) 12) (h6 : im 14 0 6 = f) : RS b n im p f := by
  have e : tk b n p = tkW (wIx b p (span isL b n p) 12) := by unfold tk; rw [if_neg (by omega), if_pos hl]
  refine ⟨?_, h3, by rw [e]; exact h4, fun q => ?_, h6⟩
  · unfold nx
    rw [if_neg (by omega), if_pos hl]; exact h2
  · unfold vl
    rw [if_pos hl]
    refine h5 (fun z => ?_)
    rw [e, z] at q
    have : tkW (-1) = 1 := rfl
    omega
theorem RS_D {b : Nat → Int} {n p : Nat} {im : IM} {f : Int} (h : p < n) (hl : ¬ isL (b p) = true) (hd : isD (b p) = true) (h2 : im 14 0 2 = span isD b n p) (h3 : im 14 0 3 = p) (h4 : im 14 0 4 = (if 4 < span isD b n p - p then 1 else 2)) (h5 : im 14 0 5 = numF b p (span isD b n p - p)) (h6 : im 14 0 6 = f) : RS b n im p f := by
  refine ⟨?_, h3, ?_, fun q => ?_, h6⟩
  · unfold nx
    rw [if_neg (by omega), if_neg hl, if_pos hd]; exact h2
  · unfold tk
    rw [if_neg (by omega), if_neg hl, if_pos hd]; exact h4
  · unfold vl
    rw [if_neg hl]; exact h5
theorem RS_S {b : Nat → Int} {n p : Nat} {im : IM} {f : Int} (h : p < n) (hl : ¬ isL (b p) = true) (hd : ¬ isD (b p) = true) (h2 : im 14 0 2 = (p : Int) + 1) (h3 : im 14 0 3 = p) (h4 : im 14 0 4 = (if sgn (b p) then b p else 1)) (h6 : im 14 0 6 = f) : RS b n im p f := by
  have e : tk b n p = (if sgn (b p) then b p else 1) := by unfold tk; rw [if_neg (by omega), if_neg hl, if_neg hd]
  refine ⟨?_, h3, by rw [e]; exact h4, fun q => ?_, h6⟩
  · unfold nx
    rw [if_neg (by omega), if_neg hl, if_neg hd]; omega
  · rw [e] at q
    unfold sgn at q
    exfalso
    split at q <;> omega

set_option maxHeartbeats 4000000 in
theorem c_X4_advance (l : Launch) (G : GS) (im : IM) (bt j : Nat) (lm : IM) (b : Nat → Int) (n : Nat) (hb : byt b n) (hR : RI im) (hb2 : im 15 0 = b) (hsz : im 14 0 1 = n) (p0 : Nat) (hp0 : p0 ≤ n) (hnx : im 14 0 2 = p0) : Cn l (XC G) yX4_advance Y_X4_advance [vR 14 0] (im, rs bt j, lm) (pV fun m' => ∃ im', RI im' ∧ (∀ k i s, ¬ (k = 14 ∧ 2 ≤ s ∧ s ≤ 5) → im' k i s = im k i s) ∧ RS b n im' (span isW b n p0) (im 14 0 6) ∧ m' = (im', rs bt j, lm)) := by
  refine cn_of (by decide) (okC G) rfl (Nat.le_of_ble_eq_true rfl) ?_
  intro M ad hMl F
  subst hMl
  have hn := hb.1
  have e15 : ∀ s, im 15 0 s = b s := fun s => congrFun hb2 s
  refine wp_pad 0 ?_
  show Wp M (XC G) ad Y_X4_advance (pV fun m' => ∃ im', RI im' ∧ (∀ k i s, ¬ (k = 14 ∧ 2 ≤ s ∧ s ≤ 5) → im' k i s = im k i s) ∧ RS b n im' (span isW b n p0) (im 14 0 6) ∧ m' = (im', rs bt j, lm)) 0 [some (vR 14 0)] [] (im, rs bt j, lm)
  have L0 : ∀ (fz : Nat) (q : Nat) (im2 : IM), n - q < fz → p0 ≤ q → q ≤ n → RI im2 → (∀ k i s, ¬ (k = 14 ∧ s = 2) → im2 k i s = im k i s) → im2 14 0 2 = q → span isW b n p0 = span isW b n q → Wp M (XC G) ad Y_X4_advance (pV fun m' => ∃ im', RI im' ∧ (∀ k i s, ¬ (k = 14 ∧ 2 ≤ s ∧ s ≤ 5) → im' k i s = im k i s) ∧ RS b n im' (span isW b n p0) (im 14 0 6) ∧ m' = (im', rs bt j, lm)) 0 [some (vR 14 0)] [] (im2, rs bt j, lm) := by
    intro fz
    induction fz with
    | zero => intro q im2 h; exact absurd h (Nat.not_lt_zero _)
    | succ fz ih =>
      have ih0 := ih
      intro q im2 hmeas hpq hqn hR2 hag g2 hspn
      have g15 : ∀ s, im2 15 0 s = b s := fun s => (hag 15 0 s (by omega)).trans (e15 s)
      have g1 : im2 14 0 1 = n := (hag 14 0 1 (by omega)).trans hsz
      have g6 : im2 14 0 6 = im 14 0 6 := hag 14 0 6 (by omega)
      refine q_aload_n (t := 1) F dX4_advance_0 rfl rfl rfl ?_
      refine g_X4_31 (t := 4) F dX4_advance_1 rfl rfl ?_
      refine q_aload_n (t := 5) F dX4_advance_4 rfl rfl rfl ?_
      refine g_X4_19 (t := 8) F dX4_advance_5 rfl rfl ?_
      refine q_icmp_ge (t := 11) (u := 52) F dX4_advance_8 (by constructor <;> omega) (by constructor <;> omega) (by decide) rfl (fun c8 => ?_) (fun c8 => ?_)
      · have hsp : span isW b n p0 = q := by
          rw [hspn]
          exact span_n (fun z => by have z2 := isW_iff.mp z.2; omega)
        have hR3 : RI (up im2 14 0 3 (q : Int)) := RI_up hR2 (by constructor <;> omega)
        refine q_aload_n (t := 53) F dX4_advance_52 rfl rfl rfl ?_
        refine q_aload_n (t := 54) F dX4_advance_53 rfl rfl rfl ?_
        refine g_X4_31 (t := 57) F dX4_advance_54 rfl rfl ?_
        rw [g2]
        refine p_X4_57 (t := 60) F dX4_advance_57 rfl rfl ?_
        refine q_aload_n (t := 61) F dX4_advance_60 rfl rfl rfl ?_
        refine g_X4_31 (t := 64) F dX4_advance_61 rfl rfl ?_
        try simp only [up_app, row_app, scr_app, cpy_app, Nat.reduceEqDiff, Int.reduceToNat, Int.toNat_natCast, and_true, true_and, and_false, false_and, and_self, reduceIte]
        refine q_aload_n (t := 65) F dX4_advance_64 rfl rfl rfl ?_
        refine g_X4_19 (t := 68) F dX4_advance_65 rfl rfl ?_
        try simp only [up_app, row_app, scr_app, cpy_app, Nat.reduceEqDiff, Int.reduceToNat, Int.toNat_natCast, and_true, true_and, and_false, false_and, and_self, reduceIte]
        refine q_icmp_lt (t := 71) (u := 79) F dX4_advance_68 (by constructor <;> omega) (by constructor <;> omega) (by decide) rfl (fun c68 => ?_) (fun c68 => ?_)
        · have hbq2 := hb.2 q (by omega)
          refine q_aload_n (t := 80) F dX4_advance_79 rfl rfl rfl ?_
          refine g_X4_9 (t := 83) F dX4_advance_80 rfl rfl ?_
          refine q_aload_n (t := 84) F dX4_advance_83 rfl rfl rfl ?_
          refine g_X4_31 (t := 87) F dX4_advance_84 rfl rfl ?_
          try simp only [up_app, row_app, scr_app, cpy_app, Nat.reduceEqDiff, Int.reduceToNat, Int.toNat_natCast, and_true, true_and, and_false, false_and, and_self, reduceIte]
          rw [g2]
          first | refine ldN_15 (t := 88) F dX4_advance_87 (by omega) rfl ?_ | refine ld_15 (t := 88) F dX4_advance_87 (by omega) (by omega) rfl ?_
          try simp only [up_app, row_app, scr_app, cpy_app, Nat.reduceEqDiff, Int.reduceToNat, Int.toNat_natCast, and_true, true_and, and_false, false_and, and_self, reduceIte]
          rw [g15]
          refine wp_callS (t := 91) [_] F dX4_advance_88 k_X4_isLetter st_X4_isLetter ml_X4_85 rfl rfl (Nat.le_of_ble_eq_true rfl) (by decide) (c_X4_isLetter _ G _ bt j lm (b q) (by constructor <;> omega)) rfl (kI ?_)
          rintro x88 m' ⟨hx88, rfl⟩
          have hx88 := if01 hx88
          refine q_if_eq (t := 94) (u := 101) F dX4_advance_91 (by first | exact hR _ _ _ | (constructor <;> omega)) (by decide) rfl (fun c91 => ?_) (fun c91 => ?_)
          · refine q_aload_n (t := 102) F dX4_advance_101 rfl rfl rfl ?_
            refine g_X4_9 (t := 105) F dX4_advance_102 rfl rfl ?_
            refine q_aload_n (t := 106) F dX4_advance_105 rfl rfl rfl ?_
            refine g_X4_31 (t := 109) F dX4_advance_106 rfl rfl ?_
            try simp only [up_app, row_app, scr_app, cpy_app, Nat.reduceEqDiff, Int.reduceToNat, Int.toNat_natCast, and_true, true_and, and_false, false_and, and_self, reduceIte]
            rw [g2]
            first | refine ldN_15 (t := 110) F dX4_advance_109 (by omega) rfl ?_ | refine ld_15 (t := 110) F dX4_advance_109 (by omega) (by omega) rfl ?_
            try simp only [up_app, row_app, scr_app, cpy_app, Nat.reduceEqDiff, Int.reduceToNat, Int.toNat_natCast, and_true, true_and, and_false, false_and, and_self, reduceIte]
            rw [g15]
            refine wp_callS (t := 113) [_] F dX4_advance_110 k_X4_isDigit st_X4_isDigit ml_X4_91 rfl rfl (Nat.le_of_ble_eq_true rfl) (by decide) (c_X4_isDigit _ G _ bt j lm (b q) (by constructor <;> omega)) rfl (kI ?_)
            rintro x110 m' ⟨hx110, rfl⟩
            have hx110 := if01 hx110
            refine q_if_eq (t := 116) (u := 123) F dX4_advance_113 (by first | exact hR _ _ _ | (constructor <;> omega)) (by decide) rfl (fun c113 => ?_) (fun c113 => ?_)
            · refine q_aload_n (t := 124) F dX4_advance_123 rfl rfl rfl ?_
              refine wp_callV (t := 127) [] F dX4_advance_124 k_X4_readSign v_X4_readSign ml_X4_97 rfl rfl rfl rfl (Nat.le_of_ble_eq_true rfl) (by decide) (m_14 (by omega)) (c_X4_readSign _ G _ bt j lm b n hb hR3 (funext fun s => by rw [up_app, if_neg (by omega)]; exact g15 s) q (by omega) (by rw [up_app, if_neg (by omega)]; exact g2)) rfl (kV ?_)
              rintro m' rfl
              refine q_vret F dX4_advance_127 rfl ?_
              first
                | (have hl : isL (b q) = true := by
                     rcases hx88 with h | h
                     · exact h.2
                     · omega
                   refine ⟨rfl, im4, hR4, (fun k i s h => by rw [hag4 k i s (by omega), up_app, if_neg (by omega)]; exact hag k i s (by omega)), ?_, rfl⟩
                   rw [hsp]
                   exact RS_L (by omega) hl k2 (by rw [hag4 14 0 3 (by omega), up_app, if_pos ⟨rfl, rfl, rfl⟩]) k4 k5 (by rw [hag4 14 0 6 (by omega), up_app, if_neg (by omega)]; exact g6))
                | (have hl : ¬ isL (b q) = true := by
                     rcases hx88 with h | h
                     · omega
                     · exact h.2
                   have hd : isD (b q) = true := by
                     rcases hx110 with h | h
                     · exact h.2
                     · omega
                   refine ⟨rfl, im4, hR4, (fun k i s h => by rw [hag4 k i s (by omega), up_app, if_neg (by omega)]; exact hag k i s (by omega)), ?_, rfl⟩
                   rw [hsp]
                   exact RS_D (by omega) hl hd k2 (by rw [hag4 14 0 3 (by omega), up_app, if_pos ⟨rfl, rfl, rfl⟩]) k4 k5 (by rw [hag4 14 0 6 (by omega), up_app, if_neg (by omega)]; exact g6))
                | (have hl : ¬ isL (b q) = true := by
                     rcases hx88 with h | h
                     · omega
                     · exact h.2
                   have hd : ¬ isD (b q) = true := by
                     rcases hx110 with h | h
                     · omega
                     · exact h.2
                   refine ⟨rfl, _, RI_up (RI_up hR3 (by split <;> constructor <;> omega)) (by constructor <;> omega), (fun k i s h => by rw [up_app, if_neg (by omega), up_app, if_neg (by omega), up_app, if_neg (by omega)]; exact hag k i s (by omega)), ?_, rfl⟩
                   rw [hsp]
                   exact RS_S (by omega) hl hd rfl rfl rfl g6)
                | (refine ⟨rfl, _, RI_up hR3 (by constructor <;> omega), (fun k i s h => by rw [up_app, if_neg (by omega), up_app, if_neg (by omega)]; exact hag k i s (by omega)), ?_, rfl⟩
                   rw [hsp]
                   exact RS_end (by omega) (by rw [up_app, if_neg (by omega), up_app, if_neg (by omega)]; exact g2) rfl rfl g6)
            · refine q_aload_n (t := 117) F dX4_advance_116 rfl rfl rfl ?_
              refine wp_callV (t := 120) [] F dX4_advance_117 k_X4_readNumber v_X4_readNumber ml_X4_94 rfl rfl rfl rfl (Nat.le_of_ble_eq_true rfl) (by decide) (m_14 (by omega)) (c_X4_readNumber _ G _ bt j lm b n hb hR3 (funext fun s => by rw [up_app, if_neg (by omega)]; exact g15 s) (by rw [up_app, if_neg (by omega)]; exact g1) q (by omega) (by rw [up_app, if_neg (by omega)]; exact g2) (by rw [up_app, if_pos ⟨rfl, rfl, rfl⟩])) rfl (kV ?_)
              rintro m' ⟨im4, hR4, hag4, k2, k4, k5, rfl⟩
              refine q_goto (t := 127) F dX4_advance_120 (by decide) ?_
              refine q_vret F dX4_advance_127 rfl ?_
              first
                | (have hl : isL (b q) = true := by
                     rcases hx88 with h | h
                     · exact h.2
                     · omega
                   refine ⟨rfl, im4, hR4, (fun k i s h => by rw [hag4 k i s (by omega), up_app, if_neg (by omega)]; exact hag k i s (by omega)), ?_, rfl⟩
                   rw [hsp]
                   exact RS_L (by omega) hl k2 (by rw [hag4 14 0 3 (by omega), up_app, if_pos ⟨rfl, rfl, rfl⟩]) k4 k5 (by rw [hag4 14 0 6 (by omega), up_app, if_neg (by omega)]; exact g6))
                | (have hl : ¬ isL (b q) = true := by
                     rcases hx88 with h | h
                     · omega
                     · exact h.2
                   have hd : isD (b q) = true := by
                     rcases hx110 with h | h
                     · exact h.2
                     · omega
                   refine ⟨rfl, im4, hR4, (fun k i s h => by rw [hag4 k i s (by omega), up_app, if_neg (by omega)]; exact hag k i s (by omega)), ?_, rfl⟩
                   rw [hsp]
                   exact RS_D (by omega) hl hd k2 (by rw [hag4 14 0 3 (by omega), up_app, if_pos ⟨rfl, rfl, rfl⟩]) k4 k5 (by rw [hag4 14 0 6 (by omega), up_app, if_neg (by omega)]; exact g6))
                | (have hl : ¬ isL (b q) = true := by
                     rcases hx88 with h | h
                     · omega
                     · exact h.2
                   have hd : ¬ isD (b q) = true := by
                     rcases hx110 with h | h
                     · omega
                     · exact h.2
                   refine ⟨rfl, _, RI_up (RI_up hR3 (by split <;> constructor <;> omega)) (by constructor <;> omega), (fun k i s h => by rw [up_app, if_neg (by omega), up_app, if_neg (by omega), up_app, if_neg (by omega)]; exact hag k i s (by omega)), ?_, rfl⟩
                   rw [hsp]
                   exact RS_S (by omega) hl hd rfl rfl rfl g6)
                | (refine ⟨rfl, _, RI_up hR3 (by constructor <;> omega), (fun k i s h => by rw [up_app, if_neg (by omega), up_app, if_neg (by omega)]; exact hag k i s (by omega)), ?_, rfl⟩
                   rw [hsp]
                   exact RS_end (by omega) (by rw [up_app, if_neg (by omega), up_app, if_neg (by omega)]; exact g2) rfl rfl g6)
          · refine q_aload_n (t := 95) F dX4_advance_94 rfl rfl rfl ?_
            refine wp_callV (t := 98) [] F dX4_advance_95 k_X4_readWord v_X4_readWord ml_X4_88 rfl rfl rfl rfl (Nat.le_of_ble_eq_true rfl) (by decide) (m_14 (by omega)) (c_X4_readWord _ G _ bt j lm b n hb hR3 (funext fun s => by rw [up_app, if_neg (by omega)]; exact g15 s) (by rw [up_app, if_neg (by omega)]; exact g1) q (by omega) (by rcases hx88 with h | h; exact h.2; omega) (by rw [up_app, if_neg (by omega)]; exact g2) (by rw [up_app, if_pos ⟨rfl, rfl, rfl⟩])) rfl (kV ?_)
            rintro m' ⟨im4, hR4, hag4, k2, k4, k5, rfl⟩
            refine q_goto (t := 127) F dX4_advance_98 (by decide) ?_
            refine q_vret F dX4_advance_127 rfl ?_
            first
              | (have hl : isL (b q) = true := by
                   rcases hx88 with h | h
                   · exact h.2
                   · omega
                 refine ⟨rfl, im4, hR4, (fun k i s h => by rw [hag4 k i s (by omega), up_app, if_neg (by omega)]; exact hag k i s (by omega)), ?_, rfl⟩
                 rw [hsp]
                 exact RS_L (by omega) hl k2 (by rw [hag4 14 0 3 (by omega), up_app, if_pos ⟨rfl, rfl, rfl⟩]) k4 k5 (by rw [hag4 14 0 6 (by omega), up_app, if_neg (by omega)]; exact g6))
              | (have hl : ¬ isL (b q) = true := by
                   rcases hx88 with h | h
                   · omega
                   · exact h.2
                 have hd : isD (b q) = true := by
                   rcases hx110 with h | h
                   · exact h.2
                   · omega
                 refine ⟨rfl, im4, hR4, (fun k i s h => by rw [hag4 k i s (by omega), up_app, if_neg (by omega)]; exact hag k i s (by omega)), ?_, rfl⟩
                 rw [hsp]
                 exact RS_D (by omega) hl hd k2 (by rw [hag4 14 0 3 (by omega), up_app, if_pos ⟨rfl, rfl, rfl⟩]) k4 k5 (by rw [hag4 14 0 6 (by omega), up_app, if_neg (by omega)]; exact g6))
              | (have hl : ¬ isL (b q) = true := by
                   rcases hx88 with h | h
                   · omega
                   · exact h.2
                 have hd : ¬ isD (b q) = true := by
                   rcases hx110 with h | h
                   · omega
                   · exact h.2
                 refine ⟨rfl, _, RI_up (RI_up hR3 (by split <;> constructor <;> omega)) (by constructor <;> omega), (fun k i s h => by rw [up_app, if_neg (by omega), up_app, if_neg (by omega), up_app, if_neg (by omega)]; exact hag k i s (by omega)), ?_, rfl⟩
                 rw [hsp]
                 exact RS_S (by omega) hl hd rfl rfl rfl g6)
              | (refine ⟨rfl, _, RI_up hR3 (by constructor <;> omega), (fun k i s h => by rw [up_app, if_neg (by omega), up_app, if_neg (by omega)]; exact hag k i s (by omega)), ?_, rfl⟩
                 rw [hsp]
                 exact RS_end (by omega) (by rw [up_app, if_neg (by omega), up_app, if_neg (by omega)]; exact g2) rfl rfl g6)
        · refine q_aload_n (t := 72) F dX4_advance_71 rfl rfl rfl ?_
          refine q_iconst (t := 73) F dX4_advance_72 rfl ?_
          refine p_X4_54 (t := 76) F dX4_advance_73 rfl rfl ?_
          refine q_goto (t := 127) F dX4_advance_76 (by decide) ?_
          refine q_vret F dX4_advance_127 rfl ?_
          first
            | (have hl : isL (b q) = true := by
                 rcases hx88 with h | h
                 · exact h.2
                 · omega
               refine ⟨rfl, im4, hR4, (fun k i s h => by rw [hag4 k i s (by omega), up_app, if_neg (by omega)]; exact hag k i s (by omega)), ?_, rfl⟩
               rw [hsp]
               exact RS_L (by omega) hl k2 (by rw [hag4 14 0 3 (by omega), up_app, if_pos ⟨rfl, rfl, rfl⟩]) k4 k5 (by rw [hag4 14 0 6 (by omega), up_app, if_neg (by omega)]; exact g6))
            | (have hl : ¬ isL (b q) = true := by
                 rcases hx88 with h | h
                 · omega
                 · exact h.2
               have hd : isD (b q) = true := by
                 rcases hx110 with h | h
                 · exact h.2
                 · omega
               refine ⟨rfl, im4, hR4, (fun k i s h => by rw [hag4 k i s (by omega), up_app, if_neg (by omega)]; exact hag k i s (by omega)), ?_, rfl⟩
               rw [hsp]
               exact RS_D (by omega) hl hd k2 (by rw [hag4 14 0 3 (by omega), up_app, if_pos ⟨rfl, rfl, rfl⟩]) k4 k5 (by rw [hag4 14 0 6 (by omega), up_app, if_neg (by omega)]; exact g6))
            | (have hl : ¬ isL (b q) = true := by
                 rcases hx88 with h | h
                 · omega
                 · exact h.2
               have hd : ¬ isD (b q) = true := by
                 rcases hx110 with h | h
                 · omega
                 · exact h.2
               refine ⟨rfl, _, RI_up (RI_up hR3 (by split <;> constructor <;> omega)) (by constructor <;> omega), (fun k i s h => by rw [up_app, if_neg (by omega), up_app, if_neg (by omega), up_app, if_neg (by omega)]; exact hag k i s (by omega)), ?_, rfl⟩
               rw [hsp]
               exact RS_S (by omega) hl hd rfl rfl rfl g6)
            | (refine ⟨rfl, _, RI_up hR3 (by constructor <;> omega), (fun k i s h => by rw [up_app, if_neg (by omega), up_app, if_neg (by omega)]; exact hag k i s (by omega)), ?_, rfl⟩
               rw [hsp]
               exact RS_end (by omega) (by rw [up_app, if_neg (by omega), up_app, if_neg (by omega)]; exact g2) rfl rfl g6)
      · have hbq := hb.2 q (by omega)
        refine q_aload_n (t := 12) F dX4_advance_11 rfl rfl rfl ?_
        refine g_X4_9 (t := 15) F dX4_advance_12 rfl rfl ?_
        refine q_aload_n (t := 16) F dX4_advance_15 rfl rfl rfl ?_
        refine g_X4_31 (t := 19) F dX4_advance_16 rfl rfl ?_
        rw [g2]
        first | refine ldN_15 (t := 20) F dX4_advance_19 (by omega) rfl ?_ | refine ld_15 (t := 20) F dX4_advance_19 (by omega) (by omega) rfl ?_
        rw [g15]
        refine q_bipush (t := 22) F dX4_advance_20 (by decide) rfl ?_
        refine q_icmp_eq (t := 25) (u := 39) F dX4_advance_22 (by constructor <;> omega) (by constructor <;> omega) (by decide) rfl (fun c22 => ?_) (fun c22 => ?_)
        · refine q_aload_n (t := 40) F dX4_advance_39 rfl rfl rfl ?_
          refine q_dupR (t := 41) F dX4_advance_40 rfl ?_
          refine g_X4_31 (t := 44) F dX4_advance_41 rfl rfl ?_
          refine q_iconst (t := 45) F dX4_advance_44 rfl ?_
          refine q_iadd (t := 46) F dX4_advance_45 rfl ?_
          refine p_X4_31 (t := 49) F dX4_advance_46 rfl rfl ?_
          refine q_goto (t := 0) F dX4_advance_49 (by decide) ?_
          refine ih0 (q + 1) _ (by omega) (by omega) (by omega) (RI_up hR2 (by constructor <;> omega)) (fun k i s h => by rw [up_app, if_neg (by omega)]; exact hag k i s h) (by rw [up_app, if_pos ⟨rfl, rfl, rfl⟩, g2]; omega) (by rw [hspn, span_y (by omega) (isW_iff.mpr (by omega))])
        · refine q_aload_n (t := 26) F dX4_advance_25 rfl rfl rfl ?_
          refine g_X4_9 (t := 29) F dX4_advance_26 rfl rfl ?_
          refine q_aload_n (t := 30) F dX4_advance_29 rfl rfl rfl ?_
          refine g_X4_31 (t := 33) F dX4_advance_30 rfl rfl ?_
          rw [g2]
          first | refine ldN_15 (t := 34) F dX4_advance_33 (by omega) rfl ?_ | refine ld_15 (t := 34) F dX4_advance_33 (by omega) (by omega) rfl ?_
          rw [g15]
          refine q_bipush (t := 36) F dX4_advance_34 (by decide) rfl ?_
          refine q_icmp_ne (t := 39) (u := 52) F dX4_advance_36 (by constructor <;> omega) (by constructor <;> omega) (by decide) rfl (fun c36 => ?_) (fun c36 => ?_)
          · have hsp : span isW b n p0 = q := by
              rw [hspn]
              exact span_n (fun z => by have z2 := isW_iff.mp z.2; omega)
            have hR3 : RI (up im2 14 0 3 (q : Int)) := RI_up hR2 (by constructor <;> omega)
            refine q_aload_n (t := 53) F dX4_advance_52 rfl rfl rfl ?_
            refine q_aload_n (t := 54) F dX4_advance_53 rfl rfl rfl ?_
            refine g_X4_31 (t := 57) F dX4_advance_54 rfl rfl ?_
            rw [g2]
            refine p_X4_57 (t := 60) F dX4_advance_57 rfl rfl ?_
            refine q_aload_n (t := 61) F dX4_advance_60 rfl rfl rfl ?_
            refine g_X4_31 (t := 64) F dX4_advance_61 rfl rfl ?_
            try simp only [up_app, row_app, scr_app, cpy_app, Nat.reduceEqDiff, Int.reduceToNat, Int.toNat_natCast, and_true, true_and, and_false, false_and, and_self, reduceIte]
            refine q_aload_n (t := 65) F dX4_advance_64 rfl rfl rfl ?_
            refine g_X4_19 (t := 68) F dX4_advance_65 rfl rfl ?_
            try simp only [up_app, row_app, scr_app, cpy_app, Nat.reduceEqDiff, Int.reduceToNat, Int.toNat_natCast, and_true, true_and, and_false, false_and, and_self, reduceIte]
            refine q_icmp_lt (t := 71) (u := 79) F dX4_advance_68 (by constructor <;> omega) (by constructor <;> omega) (by decide) rfl (fun c68 => ?_) (fun c68 => ?_)
            · have hbq2 := hb.2 q (by omega)
              refine q_aload_n (t := 80) F dX4_advance_79 rfl rfl rfl ?_
              refine g_X4_9 (t := 83) F dX4_advance_80 rfl rfl ?_
              refine q_aload_n (t := 84) F dX4_advance_83 rfl rfl rfl ?_
              refine g_X4_31 (t := 87) F dX4_advance_84 rfl rfl ?_
              try simp only [up_app, row_app, scr_app, cpy_app, Nat.reduceEqDiff, Int.reduceToNat, Int.toNat_natCast, and_true, true_and, and_false, false_and, and_self, reduceIte]
              rw [g2]
              first | refine ldN_15 (t := 88) F dX4_advance_87 (by omega) rfl ?_ | refine ld_15 (t := 88) F dX4_advance_87 (by omega) (by omega) rfl ?_
              try simp only [up_app, row_app, scr_app, cpy_app, Nat.reduceEqDiff, Int.reduceToNat, Int.toNat_natCast, and_true, true_and, and_false, false_and, and_self, reduceIte]
              rw [g15]
              refine wp_callS (t := 91) [_] F dX4_advance_88 k_X4_isLetter st_X4_isLetter ml_X4_85 rfl rfl (Nat.le_of_ble_eq_true rfl) (by decide) (c_X4_isLetter _ G _ bt j lm (b q) (by constructor <;> omega)) rfl (kI ?_)
              rintro x88 m' ⟨hx88, rfl⟩
              have hx88 := if01 hx88
              refine q_if_eq (t := 94) (u := 101) F dX4_advance_91 (by first | exact hR _ _ _ | (constructor <;> omega)) (by decide) rfl (fun c91 => ?_) (fun c91 => ?_)
              · refine q_aload_n (t := 102) F dX4_advance_101 rfl rfl rfl ?_
                refine g_X4_9 (t := 105) F dX4_advance_102 rfl rfl ?_
                refine q_aload_n (t := 106) F dX4_advance_105 rfl rfl rfl ?_
                refine g_X4_31 (t := 109) F dX4_advance_106 rfl rfl ?_
                try simp only [up_app, row_app, scr_app, cpy_app, Nat.reduceEqDiff, Int.reduceToNat, Int.toNat_natCast, and_true, true_and, and_false, false_and, and_self, reduceIte]
                rw [g2]
                first | refine ldN_15 (t := 110) F dX4_advance_109 (by omega) rfl ?_ | refine ld_15 (t := 110) F dX4_advance_109 (by omega) (by omega) rfl ?_
                try simp only [up_app, row_app, scr_app, cpy_app, Nat.reduceEqDiff, Int.reduceToNat, Int.toNat_natCast, and_true, true_and, and_false, false_and, and_self, reduceIte]
                rw [g15]
                refine wp_callS (t := 113) [_] F dX4_advance_110 k_X4_isDigit st_X4_isDigit ml_X4_91 rfl rfl (Nat.le_of_ble_eq_true rfl) (by decide) (c_X4_isDigit _ G _ bt j lm (b q) (by constructor <;> omega)) rfl (kI ?_)
                rintro x110 m' ⟨hx110, rfl⟩
                have hx110 := if01 hx110
                refine q_if_eq (t := 116) (u := 123) F dX4_advance_113 (by first | exact hR _ _ _ | (constructor <;> omega)) (by decide) rfl (fun c113 => ?_) (fun c113 => ?_)
                · refine q_aload_n (t := 124) F dX4_advance_123 rfl rfl rfl ?_
                  refine wp_callV (t := 127) [] F dX4_advance_124 k_X4_readSign v_X4_readSign ml_X4_97 rfl rfl rfl rfl (Nat.le_of_ble_eq_true rfl) (by decide) (m_14 (by omega)) (c_X4_readSign _ G _ bt j lm b n hb hR3 (funext fun s => by rw [up_app, if_neg (by omega)]; exact g15 s) q (by omega) (by rw [up_app, if_neg (by omega)]; exact g2)) rfl (kV ?_)
                  rintro m' rfl
                  refine q_vret F dX4_advance_127 rfl ?_
                  first
                    | (have hl : isL (b q) = true := by
                         rcases hx88 with h | h
                         · exact h.2
                         · omega
                       refine ⟨rfl, im4, hR4, (fun k i s h => by rw [hag4 k i s (by omega), up_app, if_neg (by omega)]; exact hag k i s (by omega)), ?_, rfl⟩
                       rw [hsp]
                       exact RS_L (by omega) hl k2 (by rw [hag4 14 0 3 (by omega), up_app, if_pos ⟨rfl, rfl, rfl⟩]) k4 k5 (by rw [hag4 14 0 6 (by omega), up_app, if_neg (by omega)]; exact g6))
                    | (have hl : ¬ isL (b q) = true := by
                         rcases hx88 with h | h
                         · omega
                         · exact h.2
                       have hd : isD (b q) = true := by
                         rcases hx110 with h | h
                         · exact h.2
                         · omega
                       refine ⟨rfl, im4, hR4, (fun k i s h => by rw [hag4 k i s (by omega), up_app, if_neg (by omega)]; exact hag k i s (by omega)), ?_, rfl⟩
                       rw [hsp]
                       exact RS_D (by omega) hl hd k2 (by rw [hag4 14 0 3 (by omega), up_app, if_pos ⟨rfl, rfl, rfl⟩]) k4 k5 (by rw [hag4 14 0 6 (by omega), up_app, if_neg (by omega)]; exact g6))
                    | (have hl : ¬ isL (b q) = true := by
                         rcases hx88 with h | h
                         · omega
                         · exact h.2
                       have hd : ¬ isD (b q) = true := by
                         rcases hx110 with h | h
                         · omega
                         · exact h.2
                       refine ⟨rfl, _, RI_up (RI_up hR3 (by split <;> constructor <;> omega)) (by constructor <;> omega), (fun k i s h => by rw [up_app, if_neg (by omega), up_app, if_neg (by omega), up_app, if_neg (by omega)]; exact hag k i s (by omega)), ?_, rfl⟩
                       rw [hsp]
                       exact RS_S (by omega) hl hd rfl rfl rfl g6)
                    | (refine ⟨rfl, _, RI_up hR3 (by constructor <;> omega), (fun k i s h => by rw [up_app, if_neg (by omega), up_app, if_neg (by omega)]; exact hag k i s (by omega)), ?_, rfl⟩
                       rw [hsp]
                       exact RS_end (by omega) (by rw [up_app, if_neg (by omega), up_app, if_neg (by omega)]; exact g2) rfl rfl g6)
                · refine q_aload_n (t := 117) F dX4_advance_116 rfl rfl rfl ?_
                  refine wp_callV (t := 120) [] F dX4_advance_117 k_X4_readNumber v_X4_readNumber ml_X4_94 rfl rfl rfl rfl (Nat.le_of_ble_eq_true rfl) (by decide) (m_14 (by omega)) (c_X4_readNumber _ G _ bt j lm b n hb hR3 (funext fun s => by rw [up_app, if_neg (by omega)]; exact g15 s) (by rw [up_app, if_neg (by omega)]; exact g1) q (by omega) (by rw [up_app, if_neg (by omega)]; exact g2) (by rw [up_app, if_pos ⟨rfl, rfl, rfl⟩])) rfl (kV ?_)
                  rintro m' ⟨im4, hR4, hag4, k2, k4, k5, rfl⟩
                  refine q_goto (t := 127) F dX4_advance_120 (by decide) ?_
                  refine q_vret F dX4_advance_127 rfl ?_
                  first
                    | (have hl : isL (b q) = true := by
                         rcases hx88 with h | h
                         · exact h.2
                         · omega
                       refine ⟨rfl, im4, hR4, (fun k i s h => by rw [hag4 k i s (by omega), up_app, if_neg (by omega)]; exact hag k i s (by omega)), ?_, rfl⟩
                       rw [hsp]
                       exact RS_L (by omega) hl k2 (by rw [hag4 14 0 3 (by omega), up_app, if_pos ⟨rfl, rfl, rfl⟩]) k4 k5 (by rw [hag4 14 0 6 (by omega), up_app, if_neg (by omega)]; exact g6))
                    | (have hl : ¬ isL (b q) = true := by
                         rcases hx88 with h | h
                         · omega
                         · exact h.2
                       have hd : isD (b q) = true := by
                         rcases hx110 with h | h
                         · exact h.2
                         · omega
                       refine ⟨rfl, im4, hR4, (fun k i s h => by rw [hag4 k i s (by omega), up_app, if_neg (by omega)]; exact hag k i s (by omega)), ?_, rfl⟩
                       rw [hsp]
                       exact RS_D (by omega) hl hd k2 (by rw [hag4 14 0 3 (by omega), up_app, if_pos ⟨rfl, rfl, rfl⟩]) k4 k5 (by rw [hag4 14 0 6 (by omega), up_app, if_neg (by omega)]; exact g6))
                    | (have hl : ¬ isL (b q) = true := by
                         rcases hx88 with h | h
                         · omega
                         · exact h.2
                       have hd : ¬ isD (b q) = true := by
                         rcases hx110 with h | h
                         · omega
                         · exact h.2
                       refine ⟨rfl, _, RI_up (RI_up hR3 (by split <;> constructor <;> omega)) (by constructor <;> omega), (fun k i s h => by rw [up_app, if_neg (by omega), up_app, if_neg (by omega), up_app, if_neg (by omega)]; exact hag k i s (by omega)), ?_, rfl⟩
                       rw [hsp]
                       exact RS_S (by omega) hl hd rfl rfl rfl g6)
                    | (refine ⟨rfl, _, RI_up hR3 (by constructor <;> omega), (fun k i s h => by rw [up_app, if_neg (by omega), up_app, if_neg (by omega)]; exact hag k i s (by omega)), ?_, rfl⟩
                       rw [hsp]
                       exact RS_end (by omega) (by rw [up_app, if_neg (by omega), up_app, if_neg (by omega)]; exact g2) rfl rfl g6)
              · refine q_aload_n (t := 95) F dX4_advance_94 rfl rfl rfl ?_
                refine wp_callV (t := 98) [] F dX4_advance_95 k_X4_readWord v_X4_readWord ml_X4_88 rfl rfl rfl rfl (Nat.le_of_ble_eq_true rfl) (by decide) (m_14 (by omega)) (c_X4_readWord _ G _ bt j lm b n hb hR3 (funext fun s => by rw [up_app, if_neg (by omega)]; exact g15 s) (by rw [up_app, if_neg (by omega)]; exact g1) q (by omega) (by rcases hx88 with h | h; exact h.2; omega) (by rw [up_app, if_neg (by omega)]; exact g2) (by rw [up_app, if_pos ⟨rfl, rfl, rfl⟩])) rfl (kV ?_)
                rintro m' ⟨im4, hR4, hag4, k2, k4, k5, rfl⟩
                refine q_goto (t := 127) F dX4_advance_98 (by decide) ?_
                refine q_vret F dX4_advance_127 rfl ?_
                first
                  | (have hl : isL (b q) = true := by
                       rcases hx88 with h | h
                       · exact h.2
                       · omega
                     refine ⟨rfl, im4, hR4, (fun k i s h => by rw [hag4 k i s (by omega), up_app, if_neg (by omega)]; exact hag k i s (by omega)), ?_, rfl⟩
                     rw [hsp]
                     exact RS_L (by omega) hl k2 (by rw [hag4 14 0 3 (by omega), up_app, if_pos ⟨rfl, rfl, rfl⟩]) k4 k5 (by rw [hag4 14 0 6 (by omega), up_app, if_neg (by omega)]; exact g6))
                  | (have hl : ¬ isL (b q) = true := by
                       rcases hx88 with h | h
                       · omega
                       · exact h.2
                     have hd : isD (b q) = true := by
                       rcases hx110 with h | h
                       · exact h.2
                       · omega
                     refine ⟨rfl, im4, hR4, (fun k i s h => by rw [hag4 k i s (by omega), up_app, if_neg (by omega)]; exact hag k i s (by omega)), ?_, rfl⟩
                     rw [hsp]
                     exact RS_D (by omega) hl hd k2 (by rw [hag4 14 0 3 (by omega), up_app, if_pos ⟨rfl, rfl, rfl⟩]) k4 k5 (by rw [hag4 14 0 6 (by omega), up_app, if_neg (by omega)]; exact g6))
                  | (have hl : ¬ isL (b q) = true := by
                       rcases hx88 with h | h
                       · omega
                       · exact h.2
                     have hd : ¬ isD (b q) = true := by
                       rcases hx110 with h | h
                       · omega
                       · exact h.2
                     refine ⟨rfl, _, RI_up (RI_up hR3 (by split <;> constructor <;> omega)) (by constructor <;> omega), (fun k i s h => by rw [up_app, if_neg (by omega), up_app, if_neg (by omega), up_app, if_neg (by omega)]; exact hag k i s (by omega)), ?_, rfl⟩
                     rw [hsp]
                     exact RS_S (by omega) hl hd rfl rfl rfl g6)
                  | (refine ⟨rfl, _, RI_up hR3 (by constructor <;> omega), (fun k i s h => by rw [up_app, if_neg (by omega), up_app, if_neg (by omega)]; exact hag k i s (by omega)), ?_, rfl⟩
                     rw [hsp]
                     exact RS_end (by omega) (by rw [up_app, if_neg (by omega), up_app, if_neg (by omega)]; exact g2) rfl rfl g6)
            · refine q_aload_n (t := 72) F dX4_advance_71 rfl rfl rfl ?_
              refine q_iconst (t := 73) F dX4_advance_72 rfl ?_
              refine p_X4_54 (t := 76) F dX4_advance_73 rfl rfl ?_
              refine q_goto (t := 127) F dX4_advance_76 (by decide) ?_
              refine q_vret F dX4_advance_127 rfl ?_
              first
                | (have hl : isL (b q) = true := by
                     rcases hx88 with h | h
                     · exact h.2
                     · omega
                   refine ⟨rfl, im4, hR4, (fun k i s h => by rw [hag4 k i s (by omega), up_app, if_neg (by omega)]; exact hag k i s (by omega)), ?_, rfl⟩
                   rw [hsp]
                   exact RS_L (by omega) hl k2 (by rw [hag4 14 0 3 (by omega), up_app, if_pos ⟨rfl, rfl, rfl⟩]) k4 k5 (by rw [hag4 14 0 6 (by omega), up_app, if_neg (by omega)]; exact g6))
                | (have hl : ¬ isL (b q) = true := by
                     rcases hx88 with h | h
                     · omega
                     · exact h.2
                   have hd : isD (b q) = true := by
                     rcases hx110 with h | h
                     · exact h.2
                     · omega
                   refine ⟨rfl, im4, hR4, (fun k i s h => by rw [hag4 k i s (by omega), up_app, if_neg (by omega)]; exact hag k i s (by omega)), ?_, rfl⟩
                   rw [hsp]
                   exact RS_D (by omega) hl hd k2 (by rw [hag4 14 0 3 (by omega), up_app, if_pos ⟨rfl, rfl, rfl⟩]) k4 k5 (by rw [hag4 14 0 6 (by omega), up_app, if_neg (by omega)]; exact g6))
                | (have hl : ¬ isL (b q) = true := by
                     rcases hx88 with h | h
                     · omega
                     · exact h.2
                   have hd : ¬ isD (b q) = true := by
                     rcases hx110 with h | h
                     · omega
                     · exact h.2
                   refine ⟨rfl, _, RI_up (RI_up hR3 (by split <;> constructor <;> omega)) (by constructor <;> omega), (fun k i s h => by rw [up_app, if_neg (by omega), up_app, if_neg (by omega), up_app, if_neg (by omega)]; exact hag k i s (by omega)), ?_, rfl⟩
                   rw [hsp]
                   exact RS_S (by omega) hl hd rfl rfl rfl g6)
                | (refine ⟨rfl, _, RI_up hR3 (by constructor <;> omega), (fun k i s h => by rw [up_app, if_neg (by omega), up_app, if_neg (by omega)]; exact hag k i s (by omega)), ?_, rfl⟩
                   rw [hsp]
                   exact RS_end (by omega) (by rw [up_app, if_neg (by omega), up_app, if_neg (by omega)]; exact g2) rfl rfl g6)
          · refine q_aload_n (t := 40) F dX4_advance_39 rfl rfl rfl ?_
            refine q_dupR (t := 41) F dX4_advance_40 rfl ?_
            refine g_X4_31 (t := 44) F dX4_advance_41 rfl rfl ?_
            refine q_iconst (t := 45) F dX4_advance_44 rfl ?_
            refine q_iadd (t := 46) F dX4_advance_45 rfl ?_
            refine p_X4_31 (t := 49) F dX4_advance_46 rfl rfl ?_
            refine q_goto (t := 0) F dX4_advance_49 (by decide) ?_
            refine ih0 (q + 1) _ (by omega) (by omega) (by omega) (RI_up hR2 (by constructor <;> omega)) (fun k i s h => by rw [up_app, if_neg (by omega)]; exact hag k i s h) (by rw [up_app, if_pos ⟨rfl, rfl, rfl⟩, g2]; omega) (by rw [hspn, span_y (by omega) (isW_iff.mpr (by omega))])
  exact L0 _ p0 im (Nat.lt_succ_self _) (Nat.le_refl _) hp0 hR (fun k i s h => rfl) hnx rfl
end
section
/-! steps more -/
def ap (j : Nat) (a : IM) (L : List Int) (c : IM) : Prop := c 2 j 3 = a 2 j 3 + L.length ∧ (∀ s : Nat, (s : Int) < a 2 j 3 → c 3 j s = a 3 j s) ∧ ∀ s : Nat, s < L.length → c 3 j ((a 2 j 3).toNat + s) = L.getD s 0
theorem ap_nil {j : Nat} {a c : IM} (h2 : c 2 j 3 = a 2 j 3) (h3 : ∀ s, c 3 j s = a 3 j s) : ap j a [] c := ⟨by rw [h2]; exact (Int.add_zero _).symm, fun s _ => h3 s, fun s h => absurd h (Nat.not_lt_zero _)⟩
theorem ap.app {j : Nat} {a b c : IM} {L L2 : List Int} (h0 : 0 ≤ a 2 j 3) (h : ap j a L b) (h2 : ap j b L2 c) : ap j a (L ++ L2) c := by
  have e := h.1
  have e2 := h2.1
  refine ⟨by rw [List.length_append]; omega, fun s hs => (h2.2.1 s (by omega)).trans (h.2.1 s hs), fun s hs => ?_⟩
  rw [List.length_append] at hs
  rw [List.getD_eq_getElem?_getD]
  by_cases hl : s < L.length
  · rw [List.getElem?_append_left hl, ← List.getD_eq_getElem?_getD]
    rw [h2.2.1 _ (by omega)]
    exact h.2.2 s hl
  · rw [List.getElem?_append_right (by omega), ← List.getD_eq_getElem?_getD]
    have h3 := h2.2.2 (s - L.length) (by omega)
    rw [show (b 2 j 3).toNat + (s - L.length) = (a 2 j 3).toNat + s by omega] at h3
    exact h3
/-- what stands behind a reading from im: place, fault, steps -/
def PO (b : Nat → Int) (n j : Nat) (im : IM) (r : PT) (im' : IM) : Prop := PR b n j im' r.1 r.2.1 ∧ agR j im' im ∧ (r.2.1 = -1 → ap j im r.2.2.1 im')
theorem PO_id {b : Nat → Int} {n j : Nat} {im : IM} {p : Nat} {f : Int} {V : (Nat → Int) → Int} (h : PR b n j im p f) : PO b n j im (p, f, [], V) im := ⟨h, agR_rfl j im, fun _ => ap_nil rfl (fun _ => rfl)⟩
theorem PO.seq {b : Nat → Int} {n j : Nat} {im im2 im3 : IM} {r r2 : PT} {V : (Nat → Int) → Int} (z : 0 ≤ im 2 j 3) (h : PO b n j im r im2) (h1 : r2.2.1 = -1 → r.2.1 = -1) (h2 : PO b n j im2 r2 im3) : PO b n j im (r2.1, r2.2.1, r.2.2.1 ++ r2.2.2.1, V) im3 := ⟨h2.1, h2.2.1.trans h.2.1, fun q => ap.app z (h.2.2 (h1 q)) (h2.2.2 q)⟩
theorem PO.seq0 {b : Nat → Int} {n j : Nat} {im im2 im3 : IM} {r r2 : PT} {V : (Nat → Int) → Int} (z : 0 ≤ im 2 j 3) (h : PO b n j im r im2) (h1 : r2.2.1 = -1 → r.2.1 = -1) (e : r2.2.1 = -1 → r2.2.2.1 = []) (h2 : PO b n j im2 r2 im3) : PO b n j im (r2.1, r2.2.1, r.2.2.1, V) im3 := ⟨h2.1, h2.2.1.trans h.2.1, fun q => by
  have h4 := h2.2.2 q
  rw [e q] at h4
  have h5 := ap.app z (h.2.2 (h1 q)) h4
  rw [List.append_nil] at h5
  exact h5⟩
theorem PR.z {b : Nat → Int} {n j : Nat} {im : IM} {p : Nat} {f : Int} (h : PR b n j im p f) : 0 ≤ im 2 j 3 := h.2.2.2.2.1.1
theorem addM_k {im : IM} {j : Nat} {s : Int} {k i t : Nat} (h2 : ¬ (k = 2 ∧ i = j ∧ t = 3)) (h3 : ¬ (k = 3 ∧ i = j)) : addM im j s k i t = im k i t := by
  unfold addM
  split
  · rw [up_app, if_neg h2, up_app, if_neg (fun q => h3 ⟨q.1, q.2.1⟩)]
  · rfl
theorem PO.add {b : Nat → Int} {n j : Nat} {im im2 : IM} {r : PT} {V : (Nat → Int) → Int} {s : Int} (hn : n ≤ 160) (hs : ri s) (h : PO b n j im r im2) (hz : 0 ≤ im 2 j 3) (hl : r.2.1 = -1 → im2 2 j 3 < r.1) : PO b n j im (r.1, r.2.1, r.2.2.1 ++ [s], V) (addM im2 j s) := by
  obtain ⟨⟨⟨a1, a2, a3, a4, a5⟩, hR, h15, h1, hst, hp, hf⟩, hag, hap⟩ := h
  have e14 : ∀ t, addM im2 j s 14 0 t = im2 14 0 t := fun t => addM_k (by omega) (by omega)
  have e2 : addM im2 j s 2 j 3 = if im2 2 j 3 < 160 then im2 2 j 3 + 1 else im2 2 j 3 := by
    unfold addM
    split
    · rw [up_app, if_pos ⟨rfl, rfl, rfl⟩]
    · rfl
  refine ⟨⟨⟨(e14 2).trans a1, (e14 3).trans a2, (e14 4).trans a3, fun q => (e14 5).trans (a4 q), (e14 6).trans a5⟩, ?_, (funext fun t => addM_k (by omega) (by omega)).trans h15, (e14 1).trans h1, ?_, hp, fun q => ?_⟩, ?_, fun q => ?_⟩
  · unfold addM
    split
    · exact RI_up (RI_up hR hs) (by constructor <;> omega)
    · exact hR
  · rw [e2]; split <;> omega
  · have := hl q
    show addM im2 j s 2 j 3 ≤ r.1
    rw [e2]; split <;> omega
  · intro k i t q1 q2 q3
    rw [addM_k q2 q3]
    exact hag k i t q1 q2 q3
  · have hlt := hl q
    have hp' : r.1 ≤ n := hp
    refine ap.app hz (hap q) ?_
    have e3 : ∀ t : Nat, addM im2 j s 3 j t = if t = (im2 2 j 3).toNat then s else im2 3 j t := by
      intro t
      unfold addM
      rw [if_pos (by omega), up_app, if_neg (by omega), up_app]
      by_cases ht : t = (im2 2 j 3).toNat
      · rw [if_pos ⟨rfl, rfl, ht⟩, if_pos ht]
      · rw [if_neg (fun z => ht z.2.2), if_neg ht]
    refine ⟨?_, fun t ht => ?_, fun t ht => ?_⟩
    · rw [e2, if_pos (by omega)]; rfl
    · rw [e3, if_neg (by omega)]
    · have ht0 : t = 0 := by have : t < 1 := ht; omega
      subst ht0
      rw [e3, if_pos (by omega)]
      rfl
/-! advance, expect, openAll -/
theorem c_adv (l : Launch) (G : GS) (im : IM) (bt j : Nat) (lm : IM) (b : Nat → Int) (n : Nat) (hb : byt b n) (p : Nat) (f : Int) (h : PR b n j im p f) : Cn l (XC G) yX4_advance Y_X4_advance [vR 14 0] (im, rs bt j, lm) (pV fun m' => ∃ im', (p < n → PO b n j im (adv b n p, f, [], fun _ => 0) im') ∧ m' = (im', rs bt j, lm)) := by
  obtain ⟨⟨a1, a2, a3, a4, a5⟩, hR, h15, h1, hst, hp, hf⟩ := h
  have hnx : nx b n p ≤ n := by
    by_cases hlt : p < n
    · exact (nx_in hlt).2
    · unfold nx
      rw [if_pos (by omega)]; exact hp
  refine (c_X4_advance l G im bt j lm b n hb hR h15 h1 (nx b n p) hnx a1).mono (fun r m' hq => ?_)
  obtain ⟨hr, im', hR', hag, hRS, hm⟩ := hq
  refine ⟨hr, im', fun hlt => ?_, hm⟩
  have ha := adv_in (b := b) hlt
  refine ⟨⟨⟨hRS.1, hRS.2.1, hRS.2.2.1, hRS.2.2.2.1, hRS.2.2.2.2.trans a5⟩, hR', (funext fun t => hag 15 0 t (by omega)).trans h15, (hag 14 0 1 (by omega)).trans h1, ?_, ha.2, fun q => ?_⟩, fun k i t q1 q2 q3 => hag k i t (by omega), fun _ => ap_nil (hag 2 j 3 (by omega)) (fun t => hag 3 j t (by omega))⟩
  · rw [hag 2 j 3 (by omega)]; exact hst
  · rw [hag 2 j 3 (by omega)]
    have := hf q
    show im 2 j 3 ≤ (adv b n p : Nat)
    omega
/-- a token that must stand there -/
def exP (b : Nat → Int) (n : Nat) (key : Int) (p : Nat) : PT := if tk b n p = key then (adv b n p, -1, [], fun _ => 0) else pFail p

theorem PO_fault {b : Nat → Int} {n j : Nat} {im : IM} {p : Nat} {V : (Nat → Int) → Int} (h : PR b n j im p (-1)) : PO b n j im (p, (p : Int), [], V) (up im 14 0 6 (p : Int)) := by
  obtain ⟨⟨a1, a2, a3, a4, a5⟩, hR, h15, h1, hst, hp, hf⟩ := h
  refine ⟨⟨⟨a1, a2, a3, a4, rfl⟩, RI_up hR ?_, h15, h1, hst, hp, fun q => ?_⟩, agR_up (agR_rfl j im) (by omega), fun q => ?_⟩
  · have := hf rfl
    have h2 := hR 2 j 3
    have h3 := hR 14 0 3
    rw [a2] at h3
    exact h3
  · have : ((p : Nat) : Int) = -1 := q
    omega
  · have : ((p : Nat) : Int) = -1 := q
    omega
/-- failing where it stands -/
theorem PO_fail {b : Nat → Int} {n j : Nat} {im : IM} {p : Nat} {f : Int} {F : Nat → PT} (h : PR b n j im p f) (hF : f = -1 → F p = pFail p) : PO b n j im (stP F p f) (if im 14 0 6 = -1 then up im 14 0 6 (im 14 0 3) else im) := by
  have g6 : im 14 0 6 = f := h.1.2.2.2.2
  have g3 : im 14 0 3 = p := h.1.2.1
  rw [g6]
  unfold stP
  by_cases hf : f = -1
  · rw [if_pos hf, if_pos hf, hF hf, g3]
    subst hf
    exact PO_fault h
  · rw [if_neg hf, if_neg hf]
    exact PO_id h

set_option maxHeartbeats 4000000 in
theorem c_X4_expect (l : Launch) (G : GS) (im : IM) (bt j : Nat) (lm : IM) (b : Nat → Int) (n : Nat) (hb : byt b n) (key : Int) (hk : 0 < key) (hk2 : key < 100) (p : Nat) (f : Int) (h : PR b n j im p f) : Cn l (XC G) yX4_expect Y_X4_expect [vR 14 0, vI key] (im, rs bt j, lm) (pV fun m' => ∃ im', PO b n j im (stP (exP b n key) p f) im' ∧ m' = (im', rs bt j, lm)) := by
  refine cn_of (by decide) (okC G) rfl (Nat.le_of_ble_eq_true rfl) ?_
  intro M ad hMl F
  subst hMl
  have hn := hb.1
  have hR := h.2.1
  have hz := h.z
  have g4 : im 14 0 4 = tk b n p := h.1.2.2.1
  have g6 : im 14 0 6 = f := h.1.2.2.2.2
  have g3 : im 14 0 3 = p := h.1.2.1
  have hti := tk_in b n p
  refine wp_pad 0 ?_
  show Wp M (XC G) ad Y_X4_expect (pV fun m' => ∃ im', PO b n j im (stP (exP b n key) p f) im' ∧ m' = (im', rs bt j, lm)) 0 [some (vR 14 0), some (vI key)] [] (im, rs bt j, lm)
  refine q_aload_n (t := 1) F dX4_expect_0 rfl rfl rfl ?_
  refine q_iload_n (t := 2) F dX4_expect_1 rfl rfl rfl ?_
  refine wp_callV (t := 5) [_] F dX4_expect_2 k_X4_at v_X4_at ml_X4_47 rfl rfl rfl rfl (Nat.le_of_ble_eq_true rfl) (by decide) (m_14 (by omega)) (c_X4_at _ G im bt j lm hR key (by constructor <;> omega)) rfl (kI ?_)
  rintro x2 m' ⟨hx2, rfl⟩
  have hx2 := if01 hx2
  refine q_if_eq (t := 8) (u := 15) F dX4_expect_5 (by first | exact hR _ _ _ | (constructor <;> omega)) (by decide) rfl (fun c5 => ?_) (fun c5 => ?_)
  · refine q_aload_n (t := 16) F dX4_expect_15 rfl rfl rfl ?_
    refine wp_callV (t := 19) [] F dX4_expect_16 k_X4_fail v_X4_fail ml_X4_51 rfl rfl rfl rfl (Nat.le_of_ble_eq_true rfl) (by decide) (m_14 (by omega)) (c_X4_fail _ G im bt j lm hR) rfl (kV ?_)
    rintro m' rfl
    refine q_vret F dX4_expect_19 rfl ?_
    first
      | (have hq : f = -1 ∧ tk b n p = key := by
           rcases hx2 with q | q
           · omega
           · omega
         have hlt : p < n := tk_lt (b := b) (by omega)
         refine ⟨rfl, im2, ?_, rfl⟩
         unfold stP
         rw [if_pos hq.1]
         unfold exP
         rw [if_pos hq.2]
         have h3 := h2 hlt
         rw [hq.1] at h3
         exact h3)
      | (refine ⟨rfl, _, PO_fail h (fun q => ?_), rfl⟩
         unfold exP
         rw [if_neg (by
           rcases hx2 with q | q
           · omega
           · omega)])
  · refine q_aload_n (t := 9) F dX4_expect_8 rfl rfl rfl ?_
    refine wp_callV (t := 12) [] F dX4_expect_9 k_X4_advance v_X4_advance ml_X4_34 rfl rfl rfl rfl (Nat.le_of_ble_eq_true rfl) (by decide) (m_14 (by omega)) (c_adv _ G im bt j lm b n hb p f h) rfl (kV ?_)
    rintro m' ⟨im2, h2, rfl⟩
    refine q_goto (t := 19) F dX4_expect_12 (by decide) ?_
    refine q_vret F dX4_expect_19 rfl ?_
    first
      | (have hq : f = -1 ∧ tk b n p = key := by
           rcases hx2 with q | q
           · omega
           · omega
         have hlt : p < n := tk_lt (b := b) (by omega)
         refine ⟨rfl, im2, ?_, rfl⟩
         unfold stP
         rw [if_pos hq.1]
         unfold exP
         rw [if_pos hq.2]
         have h3 := h2 hlt
         rw [hq.1] at h3
         exact h3)
      | (refine ⟨rfl, _, PO_fail h (fun q => ?_), rfl⟩
         unfold exP
         rw [if_neg (by
           rcases hx2 with q | q
           · omega
           · omega)])

/-- how many more may be opened, where it stands, the fault, behind all of a token -/
def OAL (b : Nat → Int) (n : Nat) (key : Int) (m p : Nat) (f : Int) (m' p' : Nat) (f' : Int) : Prop := (f = -1 → opn b n key m p = (m', p') ∧ f' = if tk b n p' = key then (p' : Int) else -1) ∧ (f ≠ -1 → m' = m ∧ p' = p ∧ f' = f)
theorem opn_y {b : Nat → Int} {n : Nat} {key : Int} {m p : Nat} (h : tk b n p = key) : opn b n key (m + 1) p = opn b n key m (adv b n p) := by
  show (if _ then _ else _) = _
  rw [if_pos h]
theorem opn_n {b : Nat → Int} {n : Nat} {key : Int} {m p : Nat} (h : tk b n p ≠ key) : opn b n key m p = (m, p) := by
  cases m with
  | zero => rfl
  | succ m =>
    show (if _ then _ else _) = _
    rw [if_neg h]

set_option maxHeartbeats 4000000 in
theorem c_X4_openAll (l : Launch) (G : GS) (im : IM) (bt j : Nat) (lm : IM) (b : Nat → Int) (n : Nat) (hb : byt b n) (key : Int) (hk : 0 < key) (hk2 : key < 100) (m a : Nat) (hma : m + a = 5) (p : Nat) (f : Int) (h : PR b n j im p f) : Cn l (XC G) yX4_openAll Y_X4_openAll [vR 14 0, vI key, vI (a : Int)] (im, rs bt j, lm) (pI fun x m' => ∃ (im' : IM) (m2 a2 p2 : Nat) (f2 : Int), x = (a2 : Int) ∧ m2 + a2 = 5 ∧ m2 ≤ m ∧ OAL b n key m p f m2 p2 f2 ∧ p + (m - m2) ≤ p2 ∧ PO b n j im (p2, f2, [], fun _ => 0) im' ∧ m' = (im', rs bt j, lm)) := by
  refine cn_of (by decide) (okC G) rfl (Nat.le_of_ble_eq_true rfl) ?_
  intro M ad hMl F
  subst hMl
  have hn := hb.1
  have hz0 := h.z
  refine wp_pad 1 ?_
  show Wp M (XC G) ad Y_X4_openAll (pI fun x m' => ∃ (im' : IM) (m2 a2 p2 : Nat) (f2 : Int), x = (a2 : Int) ∧ m2 + a2 = 5 ∧ m2 ≤ m ∧ OAL b n key m p f m2 p2 f2 ∧ p + (m - m2) ≤ p2 ∧ PO b n j im (p2, f2, [], fun _ => 0) im' ∧ m' = (im', rs bt j, lm)) 0 [some (vR 14 0), some (vI key), some (vI (a : Int)), none] [] (im, rs bt j, lm)
  refine q_iload_n (t := 1) F dX4_openAll_0 rfl rfl rfl ?_
  refine q_istore_n (t := 2) F dX4_openAll_1 rfl (by decide) rfl rfl ?_
  have L2 : ∀ (fz : Nat) (m1 a1 p1 : Nat) (im1 : IM), m1 < fz → m1 + a1 = 5 → m1 ≤ m → (f = -1 → opn b n key m p = opn b n key m1 p1) → (f ≠ -1 → m1 = m ∧ p1 = p) → p + (m - m1) ≤ p1 → PO b n j im (p1, f, [], fun _ => 0) im1 → Wp M (XC G) ad Y_X4_openAll (pI fun x m' => ∃ (im' : IM) (m2 a2 p2 : Nat) (f2 : Int), x = (a2 : Int) ∧ m2 + a2 = 5 ∧ m2 ≤ m ∧ OAL b n key m p f m2 p2 f2 ∧ p + (m - m2) ≤ p2 ∧ PO b n j im (p2, f2, [], fun _ => 0) im' ∧ m' = (im', rs bt j, lm)) 2 [some (vR 14 0), some (vI key), some (vI (a : Int)), some (vI (a1 : Int))] [] (im1, rs bt j, lm) := by
    intro fz
    induction fz with
    | zero => intro m1 a1 p1 im1 h; exact absurd h (Nat.not_lt_zero _)
    | succ fz ih =>
      have ih2 := ih
      intro m1 a1 p1 im1 hmeas hma1 hmm ho1 ho2 hpp h1
      have h11 : PR b n j im1 p1 f := h1.1
      have hR1 := h11.2.1
      have g4 : im1 14 0 4 = tk b n p1 := h11.1.2.2.1
      have g6 : im1 14 0 6 = f := h11.1.2.2.2.2
      have hti := tk_in b n p1
      refine q_iload_n (t := 3) F dX4_openAll_2 rfl rfl rfl ?_
      refine q_iconst (t := 4) F dX4_openAll_3 rfl ?_
      refine q_icmp_ge (t := 7) (u := 25) F dX4_openAll_4 (by constructor <;> omega) (by constructor <;> omega) (by decide) rfl (fun c4 => ?_) (fun c4 => ?_)
      · refine q_aload_n (t := 26) F dX4_openAll_25 rfl rfl rfl ?_
        refine q_iload_n (t := 27) F dX4_openAll_26 rfl rfl rfl ?_
        refine wp_callV (t := 30) [_] F dX4_openAll_27 k_X4_at v_X4_at ml_X4_47 rfl rfl rfl rfl (Nat.le_of_ble_eq_true rfl) (by decide) (m_14 (by omega)) (c_X4_at _ G im1 bt j lm hR1 key (by constructor <;> omega)) rfl (kI ?_)
        rintro x27 m' ⟨hx27, rfl⟩
        have hx27 := if01 hx27
        refine q_if_eq (t := 33) (u := 37) F dX4_openAll_30 (by first | exact hR _ _ _ | (constructor <;> omega)) (by decide) rfl (fun c30 => ?_) (fun c30 => ?_)
        · refine q_iload_n (t := 38) F dX4_openAll_37 rfl rfl rfl ?_
          refine q_iret F dX4_openAll_38 rfl ?_
          first
            | (have hq : f = -1 ∧ tk b n p1 = key := by
                 rcases hx27 with q | q
                 · omega
                 · omega
               have hm0 : m1 = 0 := by
                 first
                   | omega
                   | (rcases hx9 with q | q <;> omega)
               subst hm0
               refine ⟨_, rfl, _, 0, a1, p1, (p1 : Int), rfl, by omega, by omega, ⟨fun q => ⟨(ho1 q).trans rfl, by rw [if_pos hq.2]⟩, fun q => absurd hq.1 q⟩, by omega, ?_, rfl⟩
               have h4 := PO_fail (F := pFail) h11 (fun _ => rfl)
               rw [show stP pFail p1 f = pFail p1 by unfold stP; rw [if_pos hq.1]] at h4
               exact PO.seq0 hz0 h1 (fun _ => hq.1) (fun q => rfl) h4)
            | (refine ⟨_, rfl, _, m1, a1, p1, f, rfl, hma1, hmm, ⟨fun q => ?_, fun q => ⟨(ho2 q).1, (ho2 q).2, rfl⟩⟩, hpp, h1, rfl⟩
               have hne : tk b n p1 ≠ key := by
                 intro z
                 rcases hx27 with q2 | q2 <;> omega
               refine ⟨by rw [ho1 q, opn_n hne], ?_⟩
               rw [if_neg hne]
               exact q)
        · refine q_aload_n (t := 34) F dX4_openAll_33 rfl rfl rfl ?_
          refine wp_callV (t := 37) [] F dX4_openAll_34 k_X4_fail v_X4_fail ml_X4_51 rfl rfl rfl rfl (Nat.le_of_ble_eq_true rfl) (by decide) (m_14 (by omega)) (c_X4_fail _ G im1 bt j lm hR1) rfl (kV ?_)
          rintro m' rfl
          refine q_iload_n (t := 38) F dX4_openAll_37 rfl rfl rfl ?_
          refine q_iret F dX4_openAll_38 rfl ?_
          first
            | (have hq : f = -1 ∧ tk b n p1 = key := by
                 rcases hx27 with q | q
                 · omega
                 · omega
               have hm0 : m1 = 0 := by
                 first
                   | omega
                   | (rcases hx9 with q | q <;> omega)
               subst hm0
               refine ⟨_, rfl, _, 0, a1, p1, (p1 : Int), rfl, by omega, by omega, ⟨fun q => ⟨(ho1 q).trans rfl, by rw [if_pos hq.2]⟩, fun q => absurd hq.1 q⟩, by omega, ?_, rfl⟩
               have h4 := PO_fail (F := pFail) h11 (fun _ => rfl)
               rw [show stP pFail p1 f = pFail p1 by unfold stP; rw [if_pos hq.1]] at h4
               exact PO.seq0 hz0 h1 (fun _ => hq.1) (fun q => rfl) h4)
            | (refine ⟨_, rfl, _, m1, a1, p1, f, rfl, hma1, hmm, ⟨fun q => ?_, fun q => ⟨(ho2 q).1, (ho2 q).2, rfl⟩⟩, hpp, h1, rfl⟩
               have hne : tk b n p1 ≠ key := by
                 intro z
                 rcases hx27 with q2 | q2 <;> omega
               refine ⟨by rw [ho1 q, opn_n hne], ?_⟩
               rw [if_neg hne]
               exact q)
      · refine q_aload_n (t := 8) F dX4_openAll_7 rfl rfl rfl ?_
        refine q_iload_n (t := 9) F dX4_openAll_8 rfl rfl rfl ?_
        refine wp_callV (t := 12) [_] F dX4_openAll_9 k_X4_at v_X4_at ml_X4_47 rfl rfl rfl rfl (Nat.le_of_ble_eq_true rfl) (by decide) (m_14 (by omega)) (c_X4_at _ G im1 bt j lm hR1 key (by constructor <;> omega)) rfl (kI ?_)
        rintro x9 m' ⟨hx9, rfl⟩
        have hx9 := if01 hx9
        refine q_if_eq (t := 15) (u := 25) F dX4_openAll_12 (by first | exact hR _ _ _ | (constructor <;> omega)) (by decide) rfl (fun c12 => ?_) (fun c12 => ?_)
        · refine q_aload_n (t := 26) F dX4_openAll_25 rfl rfl rfl ?_
          refine q_iload_n (t := 27) F dX4_openAll_26 rfl rfl rfl ?_
          refine wp_callV (t := 30) [_] F dX4_openAll_27 k_X4_at v_X4_at ml_X4_47 rfl rfl rfl rfl (Nat.le_of_ble_eq_true rfl) (by decide) (m_14 (by omega)) (c_X4_at _ G im1 bt j lm hR1 key (by constructor <;> omega)) rfl (kI ?_)
          rintro x27 m' ⟨hx27, rfl⟩
          have hx27 := if01 hx27
          refine q_if_eq (t := 33) (u := 37) F dX4_openAll_30 (by first | exact hR _ _ _ | (constructor <;> omega)) (by decide) rfl (fun c30 => ?_) (fun c30 => ?_)
          · refine q_iload_n (t := 38) F dX4_openAll_37 rfl rfl rfl ?_
            refine q_iret F dX4_openAll_38 rfl ?_
            first
              | (have hq : f = -1 ∧ tk b n p1 = key := by
                   rcases hx27 with q | q
                   · omega
                   · omega
                 have hm0 : m1 = 0 := by
                   first
                     | omega
                     | (rcases hx9 with q | q <;> omega)
                 subst hm0
                 refine ⟨_, rfl, _, 0, a1, p1, (p1 : Int), rfl, by omega, by omega, ⟨fun q => ⟨(ho1 q).trans rfl, by rw [if_pos hq.2]⟩, fun q => absurd hq.1 q⟩, by omega, ?_, rfl⟩
                 have h4 := PO_fail (F := pFail) h11 (fun _ => rfl)
                 rw [show stP pFail p1 f = pFail p1 by unfold stP; rw [if_pos hq.1]] at h4
                 exact PO.seq0 hz0 h1 (fun _ => hq.1) (fun q => rfl) h4)
              | (refine ⟨_, rfl, _, m1, a1, p1, f, rfl, hma1, hmm, ⟨fun q => ?_, fun q => ⟨(ho2 q).1, (ho2 q).2, rfl⟩⟩, hpp, h1, rfl⟩
                 have hne : tk b n p1 ≠ key := by
                   intro z
                   rcases hx27 with q2 | q2 <;> omega
                 refine ⟨by rw [ho1 q, opn_n hne], ?_⟩
                 rw [if_neg hne]
                 exact q)
          · refine q_aload_n (t := 34) F dX4_openAll_33 rfl rfl rfl ?_
            refine wp_callV (t := 37) [] F dX4_openAll_34 k_X4_fail v_X4_fail ml_X4_51 rfl rfl rfl rfl (Nat.le_of_ble_eq_true rfl) (by decide) (m_14 (by omega)) (c_X4_fail _ G im1 bt j lm hR1) rfl (kV ?_)
            rintro m' rfl
            refine q_iload_n (t := 38) F dX4_openAll_37 rfl rfl rfl ?_
            refine q_iret F dX4_openAll_38 rfl ?_
            first
              | (have hq : f = -1 ∧ tk b n p1 = key := by
                   rcases hx27 with q | q
                   · omega
                   · omega
                 have hm0 : m1 = 0 := by
                   first
                     | omega
                     | (rcases hx9 with q | q <;> omega)
                 subst hm0
                 refine ⟨_, rfl, _, 0, a1, p1, (p1 : Int), rfl, by omega, by omega, ⟨fun q => ⟨(ho1 q).trans rfl, by rw [if_pos hq.2]⟩, fun q => absurd hq.1 q⟩, by omega, ?_, rfl⟩
                 have h4 := PO_fail (F := pFail) h11 (fun _ => rfl)
                 rw [show stP pFail p1 f = pFail p1 by unfold stP; rw [if_pos hq.1]] at h4
                 exact PO.seq0 hz0 h1 (fun _ => hq.1) (fun q => rfl) h4)
              | (refine ⟨_, rfl, _, m1, a1, p1, f, rfl, hma1, hmm, ⟨fun q => ?_, fun q => ⟨(ho2 q).1, (ho2 q).2, rfl⟩⟩, hpp, h1, rfl⟩
                 have hne : tk b n p1 ≠ key := by
                   intro z
                   rcases hx27 with q2 | q2 <;> omega
                 refine ⟨by rw [ho1 q, opn_n hne], ?_⟩
                 rw [if_neg hne]
                 exact q)
        · refine q_aload_n (t := 16) F dX4_openAll_15 rfl rfl rfl ?_
          refine wp_callV (t := 19) [] F dX4_openAll_16 k_X4_advance v_X4_advance ml_X4_34 rfl rfl rfl rfl (Nat.le_of_ble_eq_true rfl) (by decide) (m_14 (by omega)) (c_adv _ G im1 bt j lm b n hb p1 f h11) rfl (kV ?_)
          rintro m' ⟨im3, h3, rfl⟩
          refine q_iinc (t := 22) F dX4_openAll_19 rfl (by decide) rfl rfl ?_
          refine q_goto (t := 2) F dX4_openAll_22 (by decide) ?_
          have hq : f = -1 ∧ tk b n p1 = key := by
            rcases hx9 with q | q
            · omega
            · omega
          have hlt : p1 < n := tk_lt (b := b) (by omega)
          have ha := adv_in (b := b) hlt
          obtain ⟨m3, rfl⟩ : ∃ m3, m1 = m3 + 1 := ⟨m1 - 1, by omega⟩
          rw [show (a1 : Int) + 1 = ((a1 + 1 : Nat) : Int) by omega]
          exact ih2 m3 (a1 + 1) (adv b n p1) im3 (by omega) (by omega) (by omega) (fun q => by rw [ho1 q, opn_y hq.2]) (fun q => absurd hq.1 q) (by omega) (PO.seq0 (r2 := (adv b n p1, f, [], fun _ => 0)) hz0 h1 (fun q => q) (fun _ => rfl) (h3 hlt))
  exact L2 _ m a p im (Nat.lt_succ_self _) hma (Nat.le_refl _) (fun _ => rfl) (fun _ => ⟨rfl, rfl⟩) (by omega) (PO_id h)
end
