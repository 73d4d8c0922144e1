/-! the reference: what a kiss hands on -/

def hnC (im : IM) (p q g : Nat) : Prop := im 36 0 (10 * p + g) ≠ -1 ∧ im 36 0 (10 * q + g) = -1
def hnR (im : IM) (p q n : Nat) : IM := fun k i s => if (k = 36 ∨ k = 37) ∧ i = 0 ∧ s / 10 = q ∧ s % 10 < n ∧ im 36 0 (10 * p + s % 10) ≠ -1 ∧ im 36 0 (10 * q + s % 10) = -1 then (if k = 36 then im 36 0 (10 * p + s % 10) else 0) else if k = 36 ∧ i = 0 ∧ s / 10 = p ∧ s % 10 < n ∧ im 36 0 (10 * p + s % 10) ≠ -1 ∧ im 36 0 (10 * q + s % 10) = -1 then -1 else im k i s
def hnN (im : IM) (p q : Nat) : Nat → Int
  | 0 => 0
  | n + 1 => hnN im p q n + (if im 36 0 (10 * p + n) ≠ -1 ∧ im 36 0 (10 * q + n) = -1 then 1 else 0)
theorem hnN_in (im : IM) (p q n : Nat) : 0 ≤ hnN im p q n ∧ hnN im p q n ≤ n := by
  induction n with
  | zero => exact ⟨Int.le_refl 0, Int.le_refl 0⟩
  | succ n ih =>
    have e : hnN im p q (n + 1) = hnN im p q n + (if im 36 0 (10 * p + n) ≠ -1 ∧ im 36 0 (10 * q + n) = -1 then 1 else 0) := rfl
    rw [e]
    split <;> omega
theorem hnR_0 (im : IM) (p q : Nat) : hnR im p q 0 = im := by
  funext k i s
  unfold hnR
  rw [if_neg (by omega), if_neg (by omega)]
theorem hnR_p {im : IM} {p q n : Nat} (hpq : p ≠ q) (hn : n < 10) : hnR im p q n 36 0 (10 * p + n) = im 36 0 (10 * p + n) ∧ hnR im p q n 36 0 (10 * q + n) = im 36 0 (10 * q + n) := by
  constructor <;> (unfold hnR; rw [if_neg (by omega), if_neg (by omega)])
theorem hnR_n {im : IM} {p q n : Nat} (hn : n < 10) (h : ¬ (im 36 0 (10 * p + n) ≠ -1 ∧ im 36 0 (10 * q + n) = -1)) : hnR im p q (n + 1) = hnR im p q n := by
  funext k i s
  unfold hnR
  by_cases hs : s % 10 = n
  · rw [hs]
    rw [if_neg (fun z => h ⟨z.2.2.2.2.1, z.2.2.2.2.2⟩), if_neg (fun z => h ⟨z.2.2.2.2.1, z.2.2.2.2.2⟩), if_neg (by omega), if_neg (by omega)]
  · have e : (s % 10 < n + 1) = (s % 10 < n) := propext ⟨fun z => by omega, fun z => by omega⟩
    simp only [e]
theorem hnR_y {im : IM} {p q n : Nat} (hpq : p ≠ q) (hn : n < 10) (h : im 36 0 (10 * p + n) ≠ -1 ∧ im 36 0 (10 * q + n) = -1) : up (up (up (hnR im p q n) 36 0 (10 * q + n) (im 36 0 (10 * p + n))) 37 0 (10 * q + n) 0) 36 0 (10 * p + n) (-1) = hnR im p q (n + 1) := by
  funext k i s
  rw [up_app, up_app, up_app]
  by_cases hs : s % 10 = n
  · by_cases hq : (k = 36 ∨ k = 37) ∧ i = 0 ∧ s / 10 = q
    · obtain ⟨hk, rfl, hsq⟩ := hq
      have es : s = 10 * q + n := by omega
      have e1 : hnR im p q (n + 1) k 0 s = (if k = 36 then im 36 0 (10 * p + n) else 0) := by
        unfold hnR
        rw [hs, if_pos ⟨hk, rfl, hsq, by omega, h.1, h.2⟩]
      rw [e1, if_neg (by omega)]
      rcases hk with rfl | rfl
      · rw [if_neg (by omega), if_pos ⟨rfl, rfl, es⟩, if_pos rfl]
      · rw [if_pos ⟨rfl, rfl, es⟩, if_neg (by omega)]
    · by_cases hp : k = 36 ∧ i = 0 ∧ s / 10 = p
      · obtain ⟨rfl, rfl, hsp⟩ := hp
        have es : s = 10 * p + n := by omega
        have e1 : hnR im p q (n + 1) 36 0 s = -1 := by
          unfold hnR
          rw [hs, if_neg (fun z => hq ⟨z.1, z.2.1, z.2.2.1⟩), if_pos ⟨rfl, rfl, hsp, by omega, h.1, h.2⟩]
        rw [e1, if_pos ⟨rfl, rfl, es⟩]
      · have e1 : ∀ m, hnR im p q m k i s = im k i s := fun m => by
          unfold hnR
          rw [if_neg (fun z => hq ⟨z.1, z.2.1, z.2.2.1⟩), if_neg (fun z => hp ⟨z.1, z.2.1, z.2.2.1⟩)]
        rw [if_neg (by omega), if_neg (by omega), if_neg (by omega), e1, e1]
  · rw [if_neg (by omega), if_neg (by omega), if_neg (by omega)]
    unfold hnR
    have e : (s % 10 < n + 1) = (s % 10 < n) := propext ⟨fun z => by omega, fun z => by omega⟩
    simp only [e]
theorem hnR_RI {im : IM} (h : RI im) (p q n : Nat) : RI (hnR im p q n) := by
  intro k i s
  unfold hnR
  (repeat' split) <;> first | exact h _ _ _ | (constructor <;> omega)

set_option maxHeartbeats 4000000 in
theorem c_X9_hands (l : Launch) (G : GS) (im : IM) (bt rt : Nat) (lm : IM) (hR : RI im) (p q : Nat) (hp : p < 5) (hq : q < 5) (hpq : p ≠ q) : Cn l (XR G) yX9_hands Y_X9_hands [vR 30 0, vI (p : Int), vI (q : Int)] (im, rs bt rt, lm) (pI fun x m' => x = hnN im p q 10 ∧ m' = (hnR im p q 10, rs bt rt, lm)) := by
  refine cn_of (by decide) (okR G) rfl (Nat.le_of_ble_eq_true rfl) ?_
  intro M ad hMl F
  subst hMl
  refine wp_pad 4 ?_
  show Wp M (XR G) ad Y_X9_hands (pI fun x m' => x = hnN im p q 10 ∧ m' = (hnR im p q 10, rs bt rt, lm)) 0 [some (vR 30 0), some (vI (p : Int)), some (vI (q : Int)), none, none, none, none] [] (im, rs bt rt, lm)
  refine q_iconst (t := 1) F dX9_hands_0 rfl ?_
  refine q_istore_n (t := 2) F dX9_hands_1 rfl (by decide) rfl rfl ?_
  refine q_iconst (t := 3) F dX9_hands_2 rfl ?_
  refine q_istore (t := 5) F dX9_hands_3 (by decide) rfl rfl ?_
  have L5 : ∀ (fz : Nat) (n : Nat), 10 - n < fz → n ≤ 10 → Wp M (XR G) ad Y_X9_hands (pI fun x m' => x = hnN im p q 10 ∧ m' = (hnR im p q 10, rs bt rt, lm)) 5 [some (vR 30 0), some (vI (p : Int)), some (vI (q : Int)), some (vI (hnN im p q n)), some (vI (n : Int)), none, none] [] (hnR im p q n, rs bt rt, lm) := by
    intro fz
    induction fz with
    | zero => intro n h; exact absurd h (Nat.not_lt_zero _)
    | succ fz ih =>
      have ih5 := ih
      intro n hmeas hn
      have hc := hnN_in im p q n
      have hRn := hnR_RI hR p q n
      have hs : hnN im p q (n + 1) = hnN im p q n + (if im 36 0 (10 * p + n) ≠ -1 ∧ im 36 0 (10 * q + n) = -1 then 1 else 0) := rfl
      refine q_iload (t := 7) F dX9_hands_5 rfl rfl ?_
      refine q_bipush (t := 9) F dX9_hands_7 (by decide) rfl ?_
      refine q_icmp_ge (t := 12) (u := 91) F dX9_hands_9 (by constructor <;> omega) (by constructor <;> omega) (by decide) rfl (fun c9 => ?_) (fun c9 => ?_)
      · refine q_iload_n (t := 92) F dX9_hands_91 rfl rfl rfl ?_
        refine q_iret F dX9_hands_92 rfl ?_
        obtain rfl : n = 10 := by omega
        exact ⟨_, rfl, rfl, rfl⟩
      · refine q_bipush (t := 14) F dX9_hands_12 (by decide) rfl ?_
        refine q_iload_n (t := 15) F dX9_hands_14 rfl rfl rfl ?_
        refine q_imul (t := 16) F dX9_hands_15 rfl ?_
        refine q_iload (t := 18) F dX9_hands_16 rfl rfl ?_
        refine q_iadd (t := 19) F dX9_hands_18 rfl ?_
        rw [show (10 : Int) * (p : Int) + (n : Int) = ((10 * p + n : Nat) : Int) by omega]
        refine q_istore (t := 21) F dX9_hands_19 (by decide) rfl rfl ?_
        refine q_bipush (t := 23) F dX9_hands_21 (by decide) rfl ?_
        refine q_iload_n (t := 24) F dX9_hands_23 rfl rfl rfl ?_
        refine q_imul (t := 25) F dX9_hands_24 rfl ?_
        refine q_iload (t := 27) F dX9_hands_25 rfl rfl ?_
        refine q_iadd (t := 28) F dX9_hands_27 rfl ?_
        rw [show (10 : Int) * (q : Int) + (n : Int) = ((10 * q + n : Nat) : Int) by omega]
        refine q_istore (t := 30) F dX9_hands_28 (by decide) rfl rfl ?_
        refine q_aload_n (t := 31) F dX9_hands_30 rfl rfl rfl ?_
        refine g_X9_32 (t := 34) F dX9_hands_31 rfl rfl ?_
        refine q_iload (t := 36) F dX9_hands_34 rfl rfl ?_
        first | refine ldN_36 (t := 37) F dX9_hands_36 (by omega) rfl ?_ | refine ld_36 (t := 37) F dX9_hands_36 (by omega) (by omega) rfl ?_
        refine q_iconst (t := 38) F dX9_hands_37 rfl ?_
        refine q_icmp_eq (t := 41) (u := 85) F dX9_hands_38 (by exact hRn _ _ _) (by constructor <;> omega) (by decide) rfl (fun c38 => ?_) (fun c38 => ?_)
        · refine q_iinc (t := 88) F dX9_hands_85 rfl (by decide) rfl rfl ?_
          refine q_goto (t := 5) F dX9_hands_88 (by decide) ?_
          refine wp_less 6 ?_
          refine wp_less 5 ?_
          have hnl : n < 10 := by omega
          have e2 := hnR_p (im := im) hpq hnl
          rw [show (n : Int) + 1 = ((n + 1 : Nat) : Int) by omega]
          first
            | (have hcc : im 36 0 (10 * p + n) ≠ -1 ∧ im 36 0 (10 * q + n) = -1 := by omega
               rw [show hnN im p q n + 1 = hnN im p q (n + 1) by rw [hs, if_pos hcc], e2.1, hnR_y hpq hnl hcc]
               exact ih5 (n + 1) (by omega) (by omega))
            | (have hcc : ¬ (im 36 0 (10 * p + n) ≠ -1 ∧ im 36 0 (10 * q + n) = -1) := by omega
               rw [show hnN im p q n = hnN im p q (n + 1) by rw [hs, if_neg hcc, Int.add_zero], ← hnR_n hnl hcc]
               exact ih5 (n + 1) (by omega) (by omega))
        · refine q_aload_n (t := 42) F dX9_hands_41 rfl rfl rfl ?_
          refine g_X9_32 (t := 45) F dX9_hands_42 rfl rfl ?_
          refine q_iload (t := 47) F dX9_hands_45 rfl rfl ?_
          first | refine ldN_36 (t := 48) F dX9_hands_47 (by omega) rfl ?_ | refine ld_36 (t := 48) F dX9_hands_47 (by omega) (by omega) rfl ?_
          refine q_iconst (t := 49) F dX9_hands_48 rfl ?_
          refine q_icmp_ne (t := 52) (u := 85) F dX9_hands_49 (by exact hRn _ _ _) (by constructor <;> omega) (by decide) rfl (fun c49 => ?_) (fun c49 => ?_)
          · refine q_iinc (t := 88) F dX9_hands_85 rfl (by decide) rfl rfl ?_
            refine q_goto (t := 5) F dX9_hands_88 (by decide) ?_
            refine wp_less 6 ?_
            refine wp_less 5 ?_
            have hnl : n < 10 := by omega
            have e2 := hnR_p (im := im) hpq hnl
            rw [show (n : Int) + 1 = ((n + 1 : Nat) : Int) by omega]
            first
              | (have hcc : im 36 0 (10 * p + n) ≠ -1 ∧ im 36 0 (10 * q + n) = -1 := by omega
                 rw [show hnN im p q n + 1 = hnN im p q (n + 1) by rw [hs, if_pos hcc], e2.1, hnR_y hpq hnl hcc]
                 exact ih5 (n + 1) (by omega) (by omega))
              | (have hcc : ¬ (im 36 0 (10 * p + n) ≠ -1 ∧ im 36 0 (10 * q + n) = -1) := by omega
                 rw [show hnN im p q n = hnN im p q (n + 1) by rw [hs, if_neg hcc, Int.add_zero], ← hnR_n hnl hcc]
                 exact ih5 (n + 1) (by omega) (by omega))
          · refine q_aload_n (t := 53) F dX9_hands_52 rfl rfl rfl ?_
            refine g_X9_32 (t := 56) F dX9_hands_53 rfl rfl ?_
            refine q_iload (t := 58) F dX9_hands_56 rfl rfl ?_
            refine q_aload_n (t := 59) F dX9_hands_58 rfl rfl rfl ?_
            refine g_X9_32 (t := 62) F dX9_hands_59 rfl rfl ?_
            refine q_iload (t := 64) F dX9_hands_62 rfl rfl ?_
            first | refine ldN_36 (t := 65) F dX9_hands_64 (by omega) rfl ?_ | refine ld_36 (t := 65) F dX9_hands_64 (by omega) (by omega) rfl ?_
            first | refine stN_36 (t := 66) F dX9_hands_65 (by omega) rfl ?_ | refine st_36 (t := 66) F dX9_hands_65 (by omega) (by omega) rfl ?_
            refine q_aload_n (t := 67) F dX9_hands_66 rfl rfl rfl ?_
            refine g_X9_35 (t := 70) F dX9_hands_67 rfl rfl ?_
            refine q_iload (t := 72) F dX9_hands_70 rfl rfl ?_
            refine q_iconst (t := 73) F dX9_hands_72 rfl ?_
            first | refine stN_37 (t := 74) F dX9_hands_73 (by omega) rfl ?_ | refine st_37 (t := 74) F dX9_hands_73 (by omega) (by omega) rfl ?_
            refine q_aload_n (t := 75) F dX9_hands_74 rfl rfl rfl ?_
            refine g_X9_32 (t := 78) F dX9_hands_75 rfl rfl ?_
            refine q_iload (t := 80) F dX9_hands_78 rfl rfl ?_
            refine q_iconst (t := 81) F dX9_hands_80 rfl ?_
            first | refine stN_36 (t := 82) F dX9_hands_81 (by omega) rfl ?_ | refine st_36 (t := 82) F dX9_hands_81 (by omega) (by omega) rfl ?_
            refine q_iinc (t := 85) F dX9_hands_82 rfl (by decide) rfl rfl ?_
            refine q_iinc (t := 88) F dX9_hands_85 rfl (by decide) rfl rfl ?_
            refine q_goto (t := 5) F dX9_hands_88 (by decide) ?_
            refine wp_less 6 ?_
            refine wp_less 5 ?_
            have hnl : n < 10 := by omega
            have e2 := hnR_p (im := im) hpq hnl
            rw [show (n : Int) + 1 = ((n + 1 : Nat) : Int) by omega]
            first
              | (have hcc : im 36 0 (10 * p + n) ≠ -1 ∧ im 36 0 (10 * q + n) = -1 := by omega
                 rw [show hnN im p q n + 1 = hnN im p q (n + 1) by rw [hs, if_pos hcc], e2.1, hnR_y hpq hnl hcc]
                 exact ih5 (n + 1) (by omega) (by omega))
              | (have hcc : ¬ (im 36 0 (10 * p + n) ≠ -1 ∧ im 36 0 (10 * q + n) = -1) := by omega
                 rw [show hnN im p q n = hnN im p q (n + 1) by rw [hs, if_neg hcc, Int.add_zero], ← hnR_n hnl hcc]
                 exact ih5 (n + 1) (by omega) (by omega))
  refine wp_less 6 ?_
  refine wp_less 5 ?_
  have L0 := L5 _ 0 (Nat.lt_succ_self _) (Nat.zero_le _)
  rw [hnR_0] at L0
  exact L0
