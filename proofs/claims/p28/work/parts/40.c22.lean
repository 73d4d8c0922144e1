/-! reading the tape -/
def rdk (b : Nat → Int) (n : Nat) : Nat → PT
  | 0 => (span isW b n 0, -1, [], fun _ => 0)
  | k + 1 => stP (partP b n (4 + (k : Int))) (rdk b n k).1 (rdk b n k).2.1
def stL (b : Nat → Int) (n : Nat) : Nat → List Int
  | 0 => []
  | k + 1 => stL b n k ++ (rdk b n (k + 1)).2.2.1
theorem rdk_1 (b : Nat → Int) (n : Nat) : rdk b n 1 = rd0 b n := stP_y
theorem rdk_2 (b : Nat → Int) (n : Nat) : rdk b n 2 = rd1 b n := by
  show stP (partP b n 5) (rdk b n 1).1 (rdk b n 1).2.1 = _
  rw [rdk_1]
  rfl
theorem rdk_3 (b : Nat → Int) (n : Nat) : rdk b n 3 = rd2 b n := by
  show stP (partP b n 6) (rdk b n 2).1 (rdk b n 2).2.1 = _
  rw [rdk_2]
  rfl
/-- the steps so far -/
def TS (j : Nat) (L : List Int) (im : IM) : Prop := im 2 j 3 = L.length ∧ ∀ s : Nat, s < L.length → im 3 j s = L.getD s 0
theorem TS.app {j : Nat} {a c : IM} {L L2 : List Int} (h : TS j L a) (h2 : ap j a L2 c) : TS j (L ++ L2) c := by
  have e := h.1
  have e2 := h2.1
  refine ⟨by rw [List.length_append]; omega, fun s hs => ?_⟩
  rw [List.length_append] at hs
  rw [List.getD_eq_getElem?_getD]
  by_cases hl : s < L.length
  · rw [List.getElem?_append_left hl, ← List.getD_eq_getElem?_getD, h2.2.1 _ (by omega)]
    exact h.2 s hl
  · rw [List.getElem?_append_right (by omega), ← List.getD_eq_getElem?_getD]
    have h3 := h2.2.2 (s - L.length) (by omega)
    rw [show (a 2 j 3).toNat + (s - L.length) = s by omega] at h3
    exact h3
theorem part_eq (b : Nat → Int) (n : Nat) (key : Int) (p : Nat) (f : Int) : let x1 := stP (exP b n key) p f; let x2 := stP (eitL b n 5) x1.1 x1.2.1; let x3 := stP (exP b n 59) x2.1 x2.2.1; (stP (partP b n key) p f).1 = x3.1 ∧ (stP (partP b n key) p f).2.1 = x3.2.1 ∧ (x3.2.1 = -1 → f = -1 ∧ x1.2.1 = -1 ∧ x2.2.1 = -1 ∧ x1.2.2.1 = [] ∧ x3.2.2.1 = [] ∧ (stP (partP b n key) p f).2.2.1 = x2.2.2.1) := by
  intro x1 x2 x3
  by_cases hf : f = -1
  · subst hf
    by_cases hk : tk b n p = key
    · have e1 : x1 = (adv b n p, -1, [], fun _ => 0) := by
        show stP (exP b n key) p (-1) = _
        rw [stP_y]
        unfold exP
        rw [if_pos hk]
      have e2 : x2 = eitL b n 5 (adv b n p) := by
        show stP (eitL b n 5) x1.1 x1.2.1 = _
        rw [e1, stP_y]
      have e3 : x3 = stP (exP b n 59) (eitL b n 5 (adv b n p)).1 (eitL b n 5 (adv b n p)).2.1 := by
        show stP (exP b n 59) x2.1 x2.2.1 = _
        rw [e2]
      rw [stP_y, e3, e2, e1]
      unfold partP
      rw [if_pos hk]
      by_cases h1 : (eitL b n 5 (adv b n p)).2.1 = -1
      · rw [if_pos h1, h1, stP_y]
        unfold exP
        by_cases h2 : tk b n (eitL b n 5 (adv b n p)).1 = 59
        · rw [if_pos h2, if_pos h2]
          exact ⟨rfl, rfl, fun _ => ⟨rfl, rfl, rfl, rfl, rfl, rfl⟩⟩
        · rw [if_neg h2, if_neg h2]
          exact ⟨rfl, rfl, fun _ => ⟨rfl, rfl, rfl, rfl, rfl, rfl⟩⟩
      · rw [if_neg h1, stP_n h1]
        exact ⟨rfl, rfl, fun q => absurd q h1⟩
    · have e1 : x1 = pFail p := by
        show stP (exP b n key) p (-1) = _
        rw [stP_y]
        unfold exP
        rw [if_neg hk]
      have hp : (pFail p).2.1 ≠ -1 := fun q => by have : ((p : Nat) : Int) = -1 := q; omega
      have e2 : x2 = pFail p := by
        show stP (eitL b n 5) x1.1 x1.2.1 = _
        rw [e1, stP_n hp]
        rfl
      have e3 : x3 = pFail p := by
        show stP (exP b n 59) x2.1 x2.2.1 = _
        rw [e2, stP_n hp]
        rfl
      rw [stP_y, e3]
      unfold partP
      rw [if_neg hk]
      exact ⟨rfl, rfl, fun q => absurd q hp⟩
  · have e1 : x1 = (p, f, [], fun _ => 0) := stP_n hf
    have e2 : x2 = (p, f, [], fun _ => 0) := by
      show stP (eitL b n 5) x1.1 x1.2.1 = _
      rw [e1]
      exact stP_n hf
    have e3 : x3 = (p, f, [], fun _ => 0) := by
      show stP (exP b n 59) x2.1 x2.2.1 = _
      rw [e2]
      exact stP_n hf
    rw [stP_n hf, e3]
    exact ⟨rfl, rfl, fun q => absurd q hf⟩
/-- the same but for the reading, and the text's ends -/
def agT (j : Nat) (a b : IM) : Prop := ∀ k i s, k ≠ 14 → ¬ (k = 2 ∧ i = j ∧ s = 3) → ¬ (k = 3 ∧ i = j) → ¬ (k = 4 ∧ i = j) → a k i s = b k i s
/-- a text that was read -/
def TX (b : Nat → Int) (n j : Nat) (im : IM) : Prop := (∀ k, k < 3 → im 4 j k = (stL b n (k + 1)).length) ∧ ∀ s : Nat, s < (stL b n 3).length → im 3 j s = (stL b n 3).getD s 0
theorem rdF_eq (b : Nat → Int) (n : Nat) : rdF b n = if (rdk b n 3).2.1 = -1 then (if tk b n (rdk b n 3).1 = 0 then -1 else ((rdk b n 3).1 : Int)) else (rdk b n 3).2.1 := by
  rw [rdk_3]
  rfl

set_option maxHeartbeats 4000000 in
theorem c_X4_read (l : Launch) (G : GS) (im : IM) (bt rt j : Nat) (lm : IM) (hj : j < 6) (b : Nat → Int) (n : Nat) (hb : byt b n) (hR : RI im) (hb2 : im 15 0 = b) (hsz : im 14 0 1 = n) : Cn l (XC G) yX4_read Y_X4_read [vR 14 0, vR 2 j] (im, rs bt rt, lm) (pI fun x m' => ∃ im', x = rdF b n ∧ RI im' ∧ agT j im' im ∧ im' 14 0 1 = 0 ∧ (rdF b n = -1 → TX b n j im') ∧ m' = (im', rs bt j, lm)) := by
  refine cn_of (by decide) (okC G) rfl (Nat.le_of_ble_eq_true rfl) ?_
  intro M ad hMl F
  subst hMl
  have hn := hb.1
  refine wp_pad 1 ?_
  show Wp M (XC G) ad Y_X4_read (pI fun x m' => ∃ im', x = rdF b n ∧ RI im' ∧ agT j im' im ∧ im' 14 0 1 = 0 ∧ (rdF b n = -1 → TX b n j im') ∧ m' = (im', rs bt j, lm)) 0 [some (vR 14 0), some (vR 2 j), none] [] (im, rs bt rt, lm)
  refine q_aload_n (t := 1) F dX4_read_0 rfl rfl rfl ?_
  refine q_aload_n (t := 2) F dX4_read_1 rfl rfl rfl ?_
  refine p_X4_15 (t := 5) F dX4_read_2 rfl rfl ?_
  refine q_aload_n (t := 6) F dX4_read_5 rfl rfl rfl ?_
  refine g_X4_15 (t := 9) F dX4_read_6 rfl rfl ?_
  refine wp_callV (t := 12) [] F dX4_read_9 k_X6_clear v_X6_clear ml_X4_23 rfl rfl rfl rfl (Nat.le_of_ble_eq_true rfl) (by decide) (m_2 (by omega)) (c_X6_clear _ G im bt j lm j hj) rfl (kV ?_)
  rintro m' rfl
  refine q_aload_n (t := 13) F dX4_read_12 rfl rfl rfl ?_
  refine q_iconst (t := 14) F dX4_read_13 rfl ?_
  refine p_X4_28 (t := 17) F dX4_read_14 rfl rfl ?_
  refine q_aload_n (t := 18) F dX4_read_17 rfl rfl rfl ?_
  refine q_iconst (t := 19) F dX4_read_18 rfl ?_
  refine p_X4_31 (t := 22) F dX4_read_19 rfl rfl ?_
  refine q_aload_n (t := 23) F dX4_read_22 rfl rfl rfl ?_
  refine wp_callV (t := 26) [] F dX4_read_23 k_X4_advance v_X4_advance ml_X4_34 rfl rfl rfl rfl (Nat.le_of_ble_eq_true rfl) (by decide) (m_14 (by omega)) (c_X4_advance _ G _ bt j lm b n hb (RI_up (RI_up (RI_up hR (by constructor <;> omega)) (by constructor <;> omega)) (by constructor <;> omega)) ((funext fun s => by rw [up_app, if_neg (by omega), up_app, if_neg (by omega), up_app, if_neg (by omega)]; exact congrFun hb2 s)) (by rw [up_app, if_neg (by omega), up_app, if_neg (by omega), up_app, if_neg (by omega)]; exact hsz) 0 (Nat.zero_le _) rfl) rfl (kV ?_)
  rintro m' ⟨im0, hR0, hag0, hRS0, rfl⟩
  have hsp := span_in isW b n _ 0 rfl
  have hr0 : PR b n j im0 (rdk b n 0).1 (rdk b n 0).2.1 := by
    refine ⟨hRS0, hR0, (funext fun s => hag0 15 0 s (by omega)).trans hb2, (hag0 14 0 1 (by omega)).trans hsz, ?_, ?_, fun _ => ?_⟩
    · rw [hag0 2 j 3 (by omega), up_app, if_neg (by omega), up_app, if_neg (by omega), up_app, if_pos ⟨rfl, rfl, rfl⟩]; omega
    · show span isW b n 0 ≤ n
      omega
    · rw [hag0 2 j 3 (by omega), up_app, if_neg (by omega), up_app, if_neg (by omega), up_app, if_pos ⟨rfl, rfl, rfl⟩]
      show (0 : Int) ≤ (span isW b n 0 : Nat)
      omega
  have hz0 : im0 2 j 3 = 0 := by rw [hag0 2 j 3 (by omega), up_app, if_neg (by omega), up_app, if_neg (by omega), up_app, if_pos ⟨rfl, rfl, rfl⟩]
  have ha0 : agT j im0 im := fun k i s h1 h2 h3 h4 => by rw [hag0 k i s (by omega), up_app, if_neg (by omega), up_app, if_neg (by omega), up_app, if_neg (by omega)]
  refine q_iconst (t := 27) F dX4_read_26 rfl ?_
  refine q_istore_n (t := 28) F dX4_read_27 rfl (by decide) rfl rfl ?_
  have L28 : ∀ (fz : Nat) (k : Nat) (im1 : IM), 3 - k < fz → k ≤ 3 → PR b n j im1 (rdk b n k).1 (rdk b n k).2.1 → agT j im1 im → ((rdk b n k).2.1 = -1 → TS j (stL b n k) im1 ∧ ∀ q, q < k → im1 4 j q = (stL b n (q + 1)).length) → Wp M (XC G) ad Y_X4_read (pI fun x m' => ∃ im', x = rdF b n ∧ RI im' ∧ agT j im' im ∧ im' 14 0 1 = 0 ∧ (rdF b n = -1 → TX b n j im') ∧ m' = (im', rs bt j, lm)) 28 [some (vR 14 0), some (vR 2 j), some (vI (k : Int))] [] (im1, rs bt j, lm) := by
    intro fz
    induction fz with
    | zero => intro k im1 h; exact absurd h (Nat.not_lt_zero _)
    | succ fz ih =>
      have ih28 := ih
      intro k im1 hmeas hk h1 ha ht
      have hR1 := h1.2.1
      have g4 : im1 14 0 4 = tk b n (rdk b n k).1 := h1.1.2.2.1
      have g3 : im1 14 0 3 = (rdk b n k).1 := h1.1.2.1
      have g6 : im1 14 0 6 = (rdk b n k).2.1 := h1.1.2.2.2.2
      refine q_iload_n (t := 29) F dX4_read_28 rfl rfl rfl ?_
      refine q_iconst (t := 30) F dX4_read_29 rfl ?_
      refine q_icmp_ge (t := 33) (u := 65) F dX4_read_30 (by constructor <;> omega) (by constructor <;> omega) (by decide) rfl (fun c30 => ?_) (fun c30 => ?_)
      · refine q_aload_n (t := 66) F dX4_read_65 rfl rfl rfl ?_
        refine q_iconst (t := 67) F dX4_read_66 rfl ?_
        refine wp_callV (t := 70) [_] F dX4_read_67 k_X4_at v_X4_at ml_X4_47 rfl rfl rfl rfl (Nat.le_of_ble_eq_true rfl) (by decide) (m_14 (by omega)) (c_X4_at _ G im1 bt j lm hR1 0 (by constructor <;> omega)) rfl (kI ?_)
        rintro x67 m' ⟨hx67, rfl⟩
        have hx67 := if01 hx67
        refine q_if_ne (t := 73) (u := 77) F dX4_read_70 (by first | exact hR _ _ _ | (constructor <;> omega)) (by decide) rfl (fun c70 => ?_) (fun c70 => ?_)
        · refine q_aload_n (t := 78) F dX4_read_77 rfl rfl rfl ?_
          refine q_iconst (t := 79) F dX4_read_78 rfl ?_
          refine p_X4_19 (t := 82) F dX4_read_79 rfl rfl ?_
          refine q_aload_n (t := 83) F dX4_read_82 rfl rfl rfl ?_
          refine g_X4_28 (t := 86) F dX4_read_83 rfl rfl ?_
          try simp only [up_app, row_app, scr_app, cpy_app, Nat.reduceEqDiff, Int.reduceToNat, Int.toNat_natCast, and_true, true_and, and_false, false_and, and_self, reduceIte]
          refine q_iret F dX4_read_86 rfl ?_
          obtain rfl : k = 3 := by omega
          have hre := rdF_eq b n
          have hTX : (rdk b n 3).2.1 = -1 → ∀ m2 : IM, (∀ t s, t ≠ 14 → m2 t j s = im1 t j s) → TX b n j m2 := fun q m2 hm => by
            have t0 := ht q
            exact ⟨fun s hs => by rw [hm 4 s (by omega)]; exact t0.2 s hs, fun s hs => by rw [hm 3 s (by omega)]; exact t0.1.2 s hs⟩
          by_cases hf : (rdk b n 3).2.1 = -1
          · rw [if_pos hf] at hre
            by_cases ht0 : tk b n (rdk b n 3).1 = 0
            · rw [if_pos ht0] at hre
              first
                | (exfalso; omega)
                | exact ⟨_, rfl, _, by rw [hre, ← hf, ← g6] <;> rfl, RI_up hR1 (by constructor <;> omega), (fun t i s q1 q2 q3 q4 => by rw [up_app, if_neg (by omega)]; exact ha t i s q1 q2 q3 q4), rfl, (fun _ => hTX hf _ (fun t s q => by rw [up_app, if_neg (by omega)])), rfl⟩
            · rw [if_neg ht0] at hre
              first
                | (exfalso; omega)
                | (rw [if_pos (by omega)]
                   refine ⟨_, rfl, _, by rw [hre, ← g3] <;> rfl, RI_up (RI_up hR1 (hR1 _ _ _)) (by constructor <;> omega), (fun t i s q1 q2 q3 q4 => by rw [up_app, if_neg (by omega), up_app, if_neg (by omega)]; exact ha t i s q1 q2 q3 q4), rfl, (fun q => ?_), rfl⟩
                   rw [hre] at q
                   omega)
          · rw [if_neg hf] at hre
            first
              | (exfalso; omega)
              | (rw [if_neg (by omega)]
                 refine ⟨_, rfl, _, by rw [hre, ← g6] <;> rfl, RI_up hR1 (by constructor <;> omega), (fun t i s q1 q2 q3 q4 => by rw [up_app, if_neg (by omega)]; exact ha t i s q1 q2 q3 q4), rfl, (fun q => ?_), rfl⟩
                 rw [hre] at q
                 omega)
        · refine q_aload_n (t := 74) F dX4_read_73 rfl rfl rfl ?_
          refine wp_callV (t := 77) [] F dX4_read_74 k_X4_fail v_X4_fail ml_X4_51 rfl rfl rfl rfl (Nat.le_of_ble_eq_true rfl) (by decide) (m_14 (by omega)) (c_X4_fail _ G im1 bt j lm hR1) rfl (kV ?_)
          rintro m' rfl
          refine q_aload_n (t := 78) F dX4_read_77 rfl rfl rfl ?_
          refine q_iconst (t := 79) F dX4_read_78 rfl ?_
          refine p_X4_19 (t := 82) F dX4_read_79 rfl rfl ?_
          refine q_aload_n (t := 83) F dX4_read_82 rfl rfl rfl ?_
          refine g_X4_28 (t := 86) F dX4_read_83 rfl rfl ?_
          try simp only [up_app, row_app, scr_app, cpy_app, Nat.reduceEqDiff, Int.reduceToNat, Int.toNat_natCast, and_true, true_and, and_false, false_and, and_self, reduceIte]
          refine q_iret F dX4_read_86 rfl ?_
          obtain rfl : k = 3 := by omega
          have hre := rdF_eq b n
          have hTX : (rdk b n 3).2.1 = -1 → ∀ m2 : IM, (∀ t s, t ≠ 14 → m2 t j s = im1 t j s) → TX b n j m2 := fun q m2 hm => by
            have t0 := ht q
            exact ⟨fun s hs => by rw [hm 4 s (by omega)]; exact t0.2 s hs, fun s hs => by rw [hm 3 s (by omega)]; exact t0.1.2 s hs⟩
          by_cases hf : (rdk b n 3).2.1 = -1
          · rw [if_pos hf] at hre
            by_cases ht0 : tk b n (rdk b n 3).1 = 0
            · rw [if_pos ht0] at hre
              first
                | (exfalso; omega)
                | exact ⟨_, rfl, _, by rw [hre, ← hf, ← g6] <;> rfl, RI_up hR1 (by constructor <;> omega), (fun t i s q1 q2 q3 q4 => by rw [up_app, if_neg (by omega)]; exact ha t i s q1 q2 q3 q4), rfl, (fun _ => hTX hf _ (fun t s q => by rw [up_app, if_neg (by omega)])), rfl⟩
            · rw [if_neg ht0] at hre
              first
                | (exfalso; omega)
                | (rw [if_pos (by omega)]
                   refine ⟨_, rfl, _, by rw [hre, ← g3] <;> rfl, RI_up (RI_up hR1 (hR1 _ _ _)) (by constructor <;> omega), (fun t i s q1 q2 q3 q4 => by rw [up_app, if_neg (by omega), up_app, if_neg (by omega)]; exact ha t i s q1 q2 q3 q4), rfl, (fun q => ?_), rfl⟩
                   rw [hre] at q
                   omega)
          · rw [if_neg hf] at hre
            first
              | (exfalso; omega)
              | (rw [if_neg (by omega)]
                 refine ⟨_, rfl, _, by rw [hre, ← g6] <;> rfl, RI_up hR1 (by constructor <;> omega), (fun t i s q1 q2 q3 q4 => by rw [up_app, if_neg (by omega)]; exact ha t i s q1 q2 q3 q4), rfl, (fun q => ?_), rfl⟩
                 rw [hre] at q
                 omega)
      · refine q_aload_n (t := 34) F dX4_read_33 rfl rfl rfl ?_
        refine q_iconst (t := 35) F dX4_read_34 rfl ?_
        refine q_iload_n (t := 36) F dX4_read_35 rfl rfl rfl ?_
        refine q_iadd (t := 37) F dX4_read_36 rfl ?_
        refine wp_callV (t := 40) [_] F dX4_read_37 k_X4_expect v_X4_expect ml_X4_37 rfl rfl rfl rfl (Nat.le_of_ble_eq_true rfl) (by decide) (m_14 (by omega)) (c_X4_expect _ G im1 bt j lm b n hb (4 + (k : Int)) (by omega) (by omega) _ _ h1) rfl (kV ?_)
        rintro m' ⟨im2, h2, rfl⟩
        refine q_aload_n (t := 41) F dX4_read_40 rfl rfl rfl ?_
        refine q_iconst (t := 42) F dX4_read_41 rfl ?_
        refine wp_callV (t := 45) [_] F dX4_read_42 (k_X4_either _) v_X4_either ml_X4_41 rfl rfl rfl rfl (Nat.le_of_ble_eq_true rfl) (by decide) (m_14 (by omega)) ((c_gram _ G bt j lm hj b n hb 5 0 rfl).2 im2 _ _ h2.1) rfl (kV ?_)
        rintro m' ⟨im3, h3, rfl⟩
        refine q_aload_n (t := 46) F dX4_read_45 rfl rfl rfl ?_
        refine q_bipush (t := 48) F dX4_read_46 (by decide) rfl ?_
        refine wp_callV (t := 51) [_] F dX4_read_48 k_X4_expect v_X4_expect ml_X4_37 rfl rfl rfl rfl (Nat.le_of_ble_eq_true rfl) (by decide) (m_14 (by omega)) (c_X4_expect _ G im3 bt j lm b n hb 59 (by omega) (by omega) _ _ h3.1) rfl (kV ?_)
        rintro m' ⟨im4, h4, rfl⟩
        refine q_aload_n (t := 52) F dX4_read_51 rfl rfl rfl ?_
        refine g_X4_15 (t := 55) F dX4_read_52 rfl rfl ?_
        refine q_iload_n (t := 56) F dX4_read_55 rfl rfl rfl ?_
        refine wp_callV (t := 59) [_] F dX4_read_56 k_X6_endPart v_X6_endPart ml_X4_44 rfl rfl rfl rfl (Nat.le_of_ble_eq_true rfl) (by decide) (m_2 (by omega)) (c_X6_endPart _ G im4 bt j lm j hj k (by omega)) rfl (kV ?_)
        rintro m' rfl
        refine q_iinc (t := 62) F dX4_read_59 rfl (by decide) rfl rfl ?_
        refine q_goto (t := 28) F dX4_read_62 (by decide) ?_
        have hpe := part_eq b n (4 + (k : Int)) (rdk b n k).1 (rdk b n k).2.1
        have h41 := h4.1
        rw [← hpe.1, ← hpe.2.1] at h41
        have h41 : PR b n j im4 (rdk b n (k + 1)).1 (rdk b n (k + 1)).2.1 := h41
        have ea : ∀ t s, t ≠ 4 → up im4 4 j k (im4 2 j 3) t j s = im4 t j s := fun t s h => by rw [up_app, if_neg (by omega)]
        have e14 : ∀ s, up im4 4 j k (im4 2 j 3) 14 0 s = im4 14 0 s := fun s => by rw [up_app, if_neg (by omega)]
        refine ih28 (k + 1) _ (by omega) (by omega) ⟨⟨h41.1.1, h41.1.2.1, h41.1.2.2.1, h41.1.2.2.2.1, h41.1.2.2.2.2⟩, RI_up h41.2.1 (h41.2.1 _ _ _), (funext fun s => by rw [up_app, if_neg (by omega)]).trans h41.2.2.1, (e14 1).trans h41.2.2.2.1, ?_, h41.2.2.2.2.2.1, fun q => ?_⟩ (fun t i s q1 q2 q3 q4 => ?_) (fun q => ?_)
        · rw [ea 2 3 (by omega)]; exact h41.2.2.2.2.1
        · rw [ea 2 3 (by omega)]; exact h41.2.2.2.2.2.2 q
        · rw [up_app, if_neg (by omega), h4.2.1 t i s (by omega) (by omega) (by omega), h3.2.1 t i s (by omega) (by omega) (by omega), h2.2.1 t i s (by omega) (by omega) (by omega)]
          exact ha t i s q1 q2 q3 q4
        · have q2 : (stP (exP b n 59) (stP (eitL b n 5) (stP (exP b n (4 + (k : Int))) (rdk b n k).1 (rdk b n k).2.1).1 (stP (exP b n (4 + (k : Int))) (rdk b n k).1 (rdk b n k).2.1).2.1).1 (stP (eitL b n 5) (stP (exP b n (4 + (k : Int))) (rdk b n k).1 (rdk b n k).2.1).1 (stP (exP b n (4 + (k : Int))) (rdk b n k).1 (rdk b n k).2.1).2.1).2.1).2.1 = -1 := hpe.2.1.symm.trans q
          obtain ⟨f1, f2, f3, f4, f5, f6⟩ := hpe.2.2 q2
          have t0 := ht f1
          have a2 := h2.2.2 f2
          have a3 := h3.2.2 f3
          have a4 := h4.2.2 q2
          rw [f4] at a2
          rw [f5] at a4
          rw [← f6] at a3
          have t4 := ((t0.1.app a2).app a3).app a4
          rw [List.append_nil, List.append_nil] at t4
          have t4 : TS j (stL b n (k + 1)) im4 := t4
          refine ⟨⟨?_, fun s hs => ?_⟩, fun s hs => ?_⟩
          · rw [ea 2 3 (by omega)]; exact t4.1
          · rw [ea 3 s (by omega)]; exact t4.2 s hs
          · rw [up_app]
            by_cases hsk : s = k
            · rw [if_pos ⟨rfl, rfl, hsk⟩, hsk]; exact t4.1
            · rw [if_neg (by omega), h4.2.1 4 j s (by omega) (by omega) (by omega), h3.2.1 4 j s (by omega) (by omega) (by omega), h2.2.1 4 j s (by omega) (by omega) (by omega)]
              exact t0.2 s (by omega)
  exact L28 _ 0 im0 (Nat.lt_succ_self _) (Nat.zero_le _) hr0 ha0 (fun _ => ⟨⟨hz0, fun s hs => absurd hs (Nat.not_lt_zero _)⟩, fun q hq => absurd hq (Nat.not_lt_zero _)⟩)
